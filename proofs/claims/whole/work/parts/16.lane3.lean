/-! LANE: sounding, counts that go by, what is kept -/
def mcp (μ : gM) (a t n : Nat) : gM := (fun c j => if c = t ∧ j < n then μ.1 a j else μ.1 c j, μ.2)
theorem mrd_cp (μ : gM) (a t n c j : Nat) : mrd (mcp μ a t n) c j = if c = t ∧ j < n then mrd μ a j else mrd μ c j := rfl
theorem mrL_cp (μ : gM) (a t n c j : Nat) : mrL (mcp μ a t n) c j = mrL μ c j := rfl
/-- counts go by: noise and count behind k of them -/
def mPass (snd : Int32 → Int32) (last : Int32) : Nat → Int32 × Int32 → Int32 × Int32
  | 0, p => p
  | k + 1, p => if (mPass snd last k p).2 < last then (mMin 9999 ((mPass snd last k p).1 / 2 + snd (mPass snd last k p).2), (mPass snd last k p).2 + 1) else mPass snd last k p
theorem mPass_stop {snd : Int32 → Int32} {last : Int32} {p : Int32 × Int32} {k : Nat} (h : ¬ (mPass snd last k p).2 < last) : ∀ m, k ≤ m → mPass snd last m p = mPass snd last k p := by
  intro m hm
  induction m with
  | zero => have : k = 0 := by omega
            subst this; rfl
  | succ m ih =>
    by_cases hk : k = m + 1
    · subst hk; rfl
    · rw [mPass, ih (by omega), if_neg h]
def msv (μ : gM) (b a u : Nat) : gM := (fun c j => if c = a ∧ u ≤ j ∧ j < u + 10 then (if j = u then μ.1 b 9 else if j = u + 1 then μ.1 b 10 else if j = u + 2 then μ.1 b 8 else μ.1 (b + 3) (j - u - 3)) else μ.1 c j, μ.2)
theorem mrd_sv (μ : gM) (b a u c j : Nat) : mrd (msv μ b a u) c j = if c = a ∧ u ≤ j ∧ j < u + 10 then (if j = u then mrd μ b 9 else if j = u + 1 then mrd μ b 10 else if j = u + 2 then mrd μ b 8 else mrd μ (b + 3) (j - u - 3)) else mrd μ c j := rfl
def mrs (μ : gM) (b a u : Nat) : gM := (fun c j => if c = b ∧ j = 9 then μ.1 a u else if c = b ∧ j = 10 then μ.1 a (u + 1) else if c = b ∧ j = 8 then μ.1 a (u + 2) else if c = b + 3 ∧ j < 7 then μ.1 a (u + 3 + j) else μ.1 c j, μ.2)
theorem mrd_rs (μ : gM) (b a u c j : Nat) : mrd (mrs μ b a u) c j = if c = b ∧ j = 9 then mrd μ a u else if c = b ∧ j = 10 then mrd μ a (u + 1) else if c = b ∧ j = 8 then mrd μ a (u + 2) else if c = b + 3 ∧ j < 7 then mrd μ a (u + 3 + j) else mrd μ c j := rfl
def mLc (μ : gM) (s d : Nat) : gM := (fun c j => if c = d ∧ (j = 0 ∨ j = 1 ∨ j = 5 ∨ j = 8 ∨ j = 9 ∨ j = 10) then μ.1 s j else if c = d + 1 ∧ j < 7 then μ.1 (s + 1) j else if c = d + 2 ∧ j < 7 then μ.1 (s + 2) j else if c = d + 3 ∧ j < 7 then μ.1 (s + 3) j else if c = d + 4 ∧ j < 4 then μ.1 (s + 4) j else if c = d + 5 ∧ j < 4 then μ.1 (s + 5) j else μ.1 c j, μ.2)
theorem mrd_Lc (μ : gM) (s d c j : Nat) : mrd (mLc μ s d) c j = if c = d ∧ (j = 0 ∨ j = 1 ∨ j = 5 ∨ j = 8 ∨ j = 9 ∨ j = 10) then mrd μ s j else if c = d + 1 ∧ j < 7 then mrd μ (s + 1) j else if c = d + 2 ∧ j < 7 then mrd μ (s + 2) j else if c = d + 3 ∧ j < 7 then mrd μ (s + 3) j else if c = d + 4 ∧ j < 4 then mrd μ (s + 4) j else if c = d + 5 ∧ j < 4 then mrd μ (s + 5) j else mrd μ c j := rfl
theorem mrL_Lc (μ : gM) (s d c j : Nat) : mrL (mLc μ s d) c j = mrL μ c j := rfl
section S16
variable {μ : gM} {Q : Option Value → gM → Prop} {b P A k : Nat} {i c a : Int32}
theorem s_X10_copyInto {s t n : Nat} (hs : gAr s = some (0, n)) (ht : gAr t = some (0, n)) (hn : n < 2 ^ 31) (hst : ¬ s = t) (hQ : Q none (mcp μ s t n)) : SPC 0 MX10_copyInto [.ref s, .ref t] μ Q := by
  have lp : ∀ m j, n - j < m → j ≤ n → GG 0 MX10_copyInto 11 [(2, .int (nI j)), (0, .ref s), (1, .ref t)] [] (mcp μ s t j) Q := by
    intro m
    induction m with
    | zero => intro j h; omega
    | succ m ih =>
      intro j hm hj
      refine GG.iload_n e_X10_copyInto_11 (i := 2) rfl 0 rfl ?_
      refine GG.aload_n e_X10_copyInto_12 (i := 0) rfl 1 rfl ?_
      refine GG.alen e_X10_copyInto_13 hs rfl ?_
      refine GG.icmp_ge (tgt := 35) e_X10_copyInto_14 rfl (fun h14 => ?_) (fun h14 => ?_)
      · skip
        have e := nle h14 (by omega) (by omega)
        have e2 : j = n := by omega
        subst e2
        refine GG.vret e_X10_copyInto_35 rfl rfl ?_
        exact hQ
      · skip
        have e := nnle h14 (by omega) (by omega)
        refine GG.iload_n e_X10_copyInto_17 (i := 2) rfl 0 rfl ?_
        refine GG.aload_n e_X10_copyInto_18 (i := 1) rfl 2 rfl ?_
        refine GG.alen e_X10_copyInto_19 ht rfl ?_
        refine GG.icmp_ge (tgt := 35) e_X10_copyInto_20 rfl (fun h20 => absurd h20 (by exact fun z => absurd (nle z (by omega) (by omega)) (by omega))) (fun h20 => ?_)
        refine GG.aload_n e_X10_copyInto_23 (i := 1) rfl 2 rfl ?_
        refine GG.iload_n e_X10_copyInto_24 (i := 2) rfl 0 rfl ?_
        refine GG.aload_n e_X10_copyInto_25 (i := 0) rfl 1 rfl ?_
        refine GG.iload_n e_X10_copyInto_26 (i := 2) rfl 0 rfl ?_
        refine GG.ialoadE (k := _) e_X10_copyInto_27 hs (rfl) (by omega) hn ?_
        refine GG.iastoreE (k := _) e_X10_copyInto_28 ht (rfl) (by omega) hn ?_
        refine GG.iinc e_X10_copyInto_29 0 rfl (v := _) (by first | exact nI_s _ | exact nI_d _ | rfl) (Nat.le_of_ble_eq_true rfl) (ls' := [(2, .int _), (0, .ref _), (1, .ref _)]) rfl ?_
        refine GG.goto (tgt := 11) e_X10_copyInto_32 rfl ?_
        refine GG.mem ?_ (ih (j + 1) (by omega) (by omega))
        refine gM_ext (fun c q => ?_) (fun c q => rfl)
        simp only [mrd_wr, mrd_cp]
        grind
  refine SPC.of (by decide +kernel) (Nat.le_of_ble_eq_true rfl) (ls := [(0, .ref (s)), (1, .ref (t))]) rfl ?_
  refine GG.aload_n e_X10_copyInto_0 (i := 0) rfl 0 rfl ?_
  refine GG.ifnull e_X10_copyInto_1 ?_
  refine GG.aload_n e_X10_copyInto_4 (i := 1) rfl 1 rfl ?_
  refine GG.ifnonnull (tgt := 9) e_X10_copyInto_5 rfl ?_
  refine GG.iconst (v := 0) e_X10_copyInto_9 rfl ?_
  refine GG.istore_n e_X10_copyInto_10 (i := 2) rfl (Nat.le_of_ble_eq_true rfl) (ls' := [(2, .int _), (0, .ref _), (1, .ref _)]) rfl ?_
  refine GG.mem ?_ (lp (n + 1) 0 (by omega) (by omega))
  refine gM_ext (fun c q => ?_) (fun c q => rfl)
  simp only [mrd_cp]
  grind
theorem s_X4_soundsAt (hI_X4_b : gI_X4 b) (hL : LC μ b P A) (hQ : Q (some (.int (bI (decide (mrd μ b 0 ≤ mReach (cV μ b 1) (mEff (cV μ b) (mrd μ b 8) A c (-1)) P))))) μ) : SPC 3 MX4_soundsAt [.ref b, .int c] μ Q := by
  refine SPC.of (by decide +kernel) (Nat.le_of_ble_eq_true rfl) (ls := [(0, .ref (b)), (1, .int (c))]) rfl ?_
  refine GG.aload_n e_X4_soundsAt_0 (i := 0) rfl 0 rfl ?_
  refine GG.iload_n e_X4_soundsAt_1 (i := 1) rfl 1 rfl ?_
  refine GG.iconst (v := -1) e_X4_soundsAt_2 rfl ?_
  refine GG.callV (d' := 2) (a := b) (as := [.int _, .int _]) e_X4_soundsAt_3 ml_X4_85 mf_X4_reachAt mv_X4_reachAt (rc_X4 hI_X4_b) rfl (by decide) (Nat.le_of_ble_eq_true rfl) rfl ?_
  refine s_X4_reachAt hI_X4_b hL ?_
  refine GG.aload_n e_X4_soundsAt_6 (i := 0) rfl 0 rfl ?_
  refine GG.getI e_X4_soundsAt_7 fl_X4_9 (sf_X4_0 hI_X4_b) ?_
  refine GG.icmp_lt (tgt := 17) e_X4_soundsAt_10 rfl (fun h10 => ?_) (fun h10 => ?_)
  · skip
    refine GG.iconst (v := 0) e_X4_soundsAt_17 rfl ?_
    refine GG.zret e_X4_soundsAt_18 rfl rfl rfl ?_
    exact qI hQ (by grind [bI])
  · skip
    refine GG.iconst (v := 1) e_X4_soundsAt_13 rfl ?_
    refine GG.goto (tgt := 18) e_X4_soundsAt_14 rfl ?_
    refine GG.zret e_X4_soundsAt_18 rfl rfl rfl ?_
    exact qI hQ (by grind [bI])
theorem s_X4_firstSounding {N : Nat} {f : Nat → Bool} (hI_X4_b : gI_X4 b) (hL : LC μ b P A) (hN : N < 2 ^ 31) (hf : ∀ d, d < N → f d = decide (mrd μ b 0 ≤ mReach (cV μ b 1) (mEff (cV μ b) (mrd μ b 8) A (mrd μ b 9 + nI d) (-1)) P))
    (hn : (∀ d, d < N → f d = false) → Q (some (.int (-1))) μ) (hy : ∀ d, d < N → f d = true → (∀ e, e < d → f e = false) → Q (some (.int (nI d))) μ) : SPC 4 MX4_firstSounding [.ref b, .int (nI N)] μ Q := by
  have lp : ∀ n j, N - j < n → j ≤ N → (∀ e, e < j → f e = false) → GG 4 MX4_firstSounding 2 [(2, .int (nI j)), (0, .ref b), (1, .int (nI N))] [] μ Q := by
    intro n
    induction n with
    | zero => intro j h; omega
    | succ n ih =>
      intro j hn' hj hl
      refine GG.iload_n e_X4_firstSounding_2 (i := 2) rfl 0 rfl ?_
      refine GG.iload_n e_X4_firstSounding_3 (i := 1) rfl 2 rfl ?_
      refine GG.icmp_ge (tgt := 28) e_X4_firstSounding_4 rfl (fun h4 => ?_) (fun h4 => ?_)
      · skip
        have e := nle h4 (by omega) (by omega)
        have e2 : j = N := by omega
        subst e2
        refine GG.iconst (v := -1) e_X4_firstSounding_28 rfl ?_
        refine GG.iret e_X4_firstSounding_29 rfl rfl ?_
        exact hn hl
      · skip
        have e := nnle h4 (by omega) (by omega)
        refine GG.aload_n e_X4_firstSounding_7 (i := 0) rfl 1 rfl ?_
        refine GG.aload_n e_X4_firstSounding_8 (i := 0) rfl 1 rfl ?_
        refine GG.getI e_X4_firstSounding_9 fl_X4_40 (sf_X4_9 hI_X4_b) ?_
        refine GG.iload_n e_X4_firstSounding_12 (i := 2) rfl 0 rfl ?_
        refine GG.iadd e_X4_firstSounding_13 ?_
        refine GG.callV (d' := 3) (a := b) (as := [.int _]) e_X4_firstSounding_14 ml_X4_96 mf_X4_soundsAt mv_X4_soundsAt (rc_X4 hI_X4_b) rfl (by decide) (Nat.le_of_ble_eq_true rfl) rfl ?_
        refine s_X4_soundsAt hI_X4_b hL ?_
        rw [← hf j e]
        refine GG.if_eq (tgt := 22) e_X4_firstSounding_17 rfl (fun h17 => ?_) (fun h17 => ?_)
        · skip
          rw [bI_0] at h17
          refine GG.iinc e_X4_firstSounding_22 0 rfl (v := _) (by first | exact nI_s _ | exact nI_d _ | rfl) (Nat.le_of_ble_eq_true rfl) (ls' := [(2, .int _), (0, .ref _), (1, .int _)]) rfl ?_
          refine GG.goto (tgt := 2) e_X4_firstSounding_25 rfl ?_
          refine ih (j + 1) (by omega) (by omega) (fun e' h' => ?_)
          by_cases hh : e' = j
          · rw [hh, h17]
          · rw [hl e' (by omega)]
        · skip
          rw [bI_0] at h17
          rw [Bool.not_eq_false] at h17
          refine GG.iload_n e_X4_firstSounding_20 (i := 2) rfl 0 rfl ?_
          refine GG.iret e_X4_firstSounding_21 rfl rfl ?_
          exact hy j e h17 hl
  refine SPC.of (by decide +kernel) (Nat.le_of_ble_eq_true rfl) (ls := [(0, .ref (b)), (1, .int (nI N))]) rfl ?_
  refine GG.iconst (v := 0) e_X4_firstSounding_0 rfl ?_
  refine GG.istore_n e_X4_firstSounding_1 (i := 2) rfl (Nat.le_of_ble_eq_true rfl) (ls' := [(2, .int _), (0, .ref _), (1, .int _)]) rfl ?_
  exact lp (N + 1) 0 (by omega) (by omega) (fun e h => by omega)
theorem s_X4_widestSounding {N : Nat} (hI_X4_b : gI_X4 b) (hL : LC μ b P A) (hN : N < 2 ^ 31)
    (hQ : ∀ r, (∀ g : Nat → Int32, g 0 = 0 → (∀ d, d < N → g (d + 1) = mMax (g d) (mReach (cV μ b 1) (mEff (cV μ b) (mrd μ b 8) A (mrd μ b 9 + nI d) (-1)) P)) → r = if g N < 4 then -1 else mMin (g N) 30) → Q (some (.int r)) μ) : SPC 3 MX4_widestSounding [.ref b, .int (nI N)] μ Q := by
  have lp : ∀ n j x, N - j < n → j ≤ N → (∀ g : Nat → Int32, g 0 = 0 → (∀ d, d < N → g (d + 1) = mMax (g d) (mReach (cV μ b 1) (mEff (cV μ b) (mrd μ b 8) A (mrd μ b 9 + nI d) (-1)) P)) → x = g j) → GG 3 MX4_widestSounding 4 [(3, .int (nI j)), (2, .int x), (0, .ref b), (1, .int (nI N))] [] μ Q := by
    intro n
    induction n with
    | zero => intro j x h; omega
    | succ n ih =>
      intro j x hn' hj hl
      refine GG.iload_n e_X4_widestSounding_4 (i := 3) rfl 0 rfl ?_
      refine GG.iload_n e_X4_widestSounding_5 (i := 1) rfl 3 rfl ?_
      refine GG.icmp_ge (tgt := 31) e_X4_widestSounding_6 rfl (fun h6 => ?_) (fun h6 => ?_)
      · skip
        have e := nle h6 (by omega) (by omega)
        have e2 : j = N := by omega
        subst e2
        refine GG.iload_n e_X4_widestSounding_31 (i := 2) rfl 1 rfl ?_
        refine GG.iconst (v := 4) e_X4_widestSounding_32 rfl ?_
        refine GG.icmp_lt (tgt := 45) e_X4_widestSounding_33 rfl (fun h33 => ?_) (fun h33 => ?_)
        · skip
          refine GG.iconst (v := -1) e_X4_widestSounding_45 rfl ?_
          refine GG.iret e_X4_widestSounding_46 rfl rfl ?_
          refine hQ _ (fun g g0 gs => ?_)
          rw [← hl g g0 gs]
          simp [*, mMin]
        · skip
          refine GG.iload_n e_X4_widestSounding_36 (i := 2) rfl 1 rfl ?_
          refine GG.bipush (v := 30) e_X4_widestSounding_37 rfl ?_
          refine GG.min e_X4_widestSounding_39 ml_X4_99 (by decide) (Nat.le_of_ble_eq_true rfl) ?_
          refine GG.goto (tgt := 46) e_X4_widestSounding_42 rfl ?_
          refine GG.iret e_X4_widestSounding_46 rfl rfl ?_
          refine hQ _ (fun g g0 gs => ?_)
          rw [← hl g g0 gs]
          simp [*, mMin]
      · skip
        have e := nnle h6 (by omega) (by omega)
        refine GG.iload_n e_X4_widestSounding_9 (i := 2) rfl 1 rfl ?_
        refine GG.aload_n e_X4_widestSounding_10 (i := 0) rfl 2 rfl ?_
        refine GG.aload_n e_X4_widestSounding_11 (i := 0) rfl 2 rfl ?_
        refine GG.getI e_X4_widestSounding_12 fl_X4_40 (sf_X4_9 hI_X4_b) ?_
        refine GG.iload_n e_X4_widestSounding_15 (i := 3) rfl 0 rfl ?_
        refine GG.iadd e_X4_widestSounding_16 ?_
        refine GG.iconst (v := -1) e_X4_widestSounding_17 rfl ?_
        refine GG.callV (d' := 2) (a := b) (as := [.int _, .int _]) e_X4_widestSounding_18 ml_X4_85 mf_X4_reachAt mv_X4_reachAt (rc_X4 hI_X4_b) rfl (by decide) (Nat.le_of_ble_eq_true rfl) rfl ?_
        refine s_X4_reachAt hI_X4_b hL ?_
        refine GG.max e_X4_widestSounding_21 ml_X4_91 (by decide) (Nat.le_of_ble_eq_true rfl) ?_
        refine GG.istore_n e_X4_widestSounding_24 (i := 2) rfl (Nat.le_of_ble_eq_true rfl) (ls' := [(2, .int _), (3, .int _), (0, .ref _), (1, .int _)]) rfl ?_
        refine GG.iinc e_X4_widestSounding_25 1 rfl (v := _) (by first | exact nI_s _ | exact nI_d _ | rfl) (Nat.le_of_ble_eq_true rfl) (ls' := [(3, .int _), (2, .int _), (0, .ref _), (1, .int _)]) rfl ?_
        refine GG.goto (tgt := 4) e_X4_widestSounding_28 rfl ?_
        refine ih (j + 1) _ (by omega) (by omega) (fun g g0 gs => ?_)
        rw [gs j e, ← hl g g0 gs]
        rfl
  refine SPC.of (by decide +kernel) (Nat.le_of_ble_eq_true rfl) (ls := [(0, .ref (b)), (1, .int (nI N))]) rfl ?_
  refine GG.iconst (v := 0) e_X4_widestSounding_0 rfl ?_
  refine GG.istore_n e_X4_widestSounding_1 (i := 2) rfl (Nat.le_of_ble_eq_true rfl) (ls' := [(2, .int _), (0, .ref _), (1, .int _)]) rfl ?_
  refine GG.iconst (v := 0) e_X4_widestSounding_2 rfl ?_
  refine GG.istore_n e_X4_widestSounding_3 (i := 3) rfl (Nat.le_of_ble_eq_true rfl) (ls' := [(3, .int _), (2, .int _), (0, .ref _), (1, .int _)]) rfl ?_
  exact lp (N + 1) 0 _ (by omega) (by omega) (fun g g0 _ => g0.symm)
/-- bits of those i < n of whom f says so -/
def mBits (f : Nat → Bool) : Nat → Int32
  | 0 => 0
  | n + 1 => if f n = true then mBits f n ||| ((1 : Int32) <<< (nI n &&& 31)) else mBits f n
theorem s_X4_neededAt {f : Nat → Bool} {s : Bool} (hI_X4_b : gI_X4 b) (hL : LC μ b P A) (hs : s = decide (mrd μ b 0 ≤ mReach (cV μ b 1) (mEff (cV μ b) (mrd μ b 8) A c (-1)) P)) (hf : ∀ k, k < P → f k = decide (mReach (cV μ b 1) (mEff (cV μ b) (mrd μ b 8) A c (nI k)) P < mrd μ b 0))
    (hQ : Q (some (.int (if s = true then mBits f P else 0))) μ) : SPC 4 MX4_neededAt [.ref b, .int c] μ Q := by
  obtain ⟨h1p, h2p, h3p, h4p⟩ := id hL
  have lp : ∀ n j x, P - j < n → j ≤ P → s = true → x = mBits f j → GG 4 MX4_neededAt 12 [(3, .int (nI j)), (2, .int x), (0, .ref b), (1, .int c)] [] μ Q := by
    intro n
    induction n with
    | zero => intro j x h; omega
    | succ n ih =>
      intro j x hn' hj hs1 hl
      refine GG.iload_n e_X4_neededAt_12 (i := 3) rfl 0 rfl ?_
      refine GG.aload_n e_X4_neededAt_13 (i := 0) rfl 2 rfl ?_
      refine GG.getIv (v := nI P) e_X4_neededAt_14 fl_X4_31 (sf_X4_1 hI_X4_b) (h1p) ?_
      refine GG.icmp_ge (tgt := 45) e_X4_neededAt_17 rfl (fun h17 => ?_) (fun h17 => ?_)
      · skip
        have e := nle h17 (by omega) (by omega)
        have e2 : j = P := by omega
        subst e2
        refine GG.iload_n e_X4_neededAt_45 (i := 2) rfl 1 rfl ?_
        refine GG.iret e_X4_neededAt_46 rfl rfl ?_
        exact qI hQ (by rw [if_pos hs1, hl])
      · skip
        have e := nnle h17 (by omega) (by omega)
        refine GG.aload_n e_X4_neededAt_20 (i := 0) rfl 2 rfl ?_
        refine GG.iload_n e_X4_neededAt_21 (i := 1) rfl 3 rfl ?_
        refine GG.iload_n e_X4_neededAt_22 (i := 3) rfl 0 rfl ?_
        refine GG.callV (d' := 2) (a := b) (as := [.int _, .int _]) e_X4_neededAt_23 ml_X4_85 mf_X4_reachAt mv_X4_reachAt (rc_X4 hI_X4_b) rfl (by decide) (Nat.le_of_ble_eq_true rfl) rfl ?_
        refine s_X4_reachAt hI_X4_b hL ?_
        refine GG.aload_n e_X4_neededAt_26 (i := 0) rfl 2 rfl ?_
        refine GG.getI e_X4_neededAt_27 fl_X4_9 (sf_X4_0 hI_X4_b) ?_
        refine GG.icmp_ge (tgt := 39) e_X4_neededAt_30 rfl (fun h30 => ?_) (fun h30 => ?_)
        · skip
          refine GG.iinc e_X4_neededAt_39 0 rfl (v := _) (by first | exact nI_s _ | exact nI_d _ | rfl) (Nat.le_of_ble_eq_true rfl) (ls' := [(3, .int _), (2, .int _), (0, .ref _), (1, .int _)]) rfl ?_
          refine GG.goto (tgt := 12) e_X4_neededAt_42 rfl ?_
          refine ih (j + 1) _ (by omega) (by omega) hs1 ?_
          rw [mBits, hf j e, ← hl]
          grind
        · skip
          refine GG.iload_n e_X4_neededAt_33 (i := 2) rfl 1 rfl ?_
          refine GG.iconst (v := 1) e_X4_neededAt_34 rfl ?_
          refine GG.iload_n e_X4_neededAt_35 (i := 3) rfl 0 rfl ?_
          refine GG.ishl e_X4_neededAt_36 ?_
          refine GG.ior e_X4_neededAt_37 ?_
          refine GG.istore_n e_X4_neededAt_38 (i := 2) rfl (Nat.le_of_ble_eq_true rfl) (ls' := [(2, .int _), (3, .int _), (0, .ref _), (1, .int _)]) rfl ?_
          refine GG.iinc e_X4_neededAt_39 1 rfl (v := _) (by first | exact nI_s _ | exact nI_d _ | rfl) (Nat.le_of_ble_eq_true rfl) (ls' := [(3, .int _), (2, .int _), (0, .ref _), (1, .int _)]) rfl ?_
          refine GG.goto (tgt := 12) e_X4_neededAt_42 rfl ?_
          refine ih (j + 1) _ (by omega) (by omega) hs1 ?_
          rw [mBits, hf j e, ← hl]
          grind
  refine SPC.of (by decide +kernel) (Nat.le_of_ble_eq_true rfl) (ls := [(0, .ref (b)), (1, .int (c))]) rfl ?_
  refine GG.iconst (v := 0) e_X4_neededAt_0 rfl ?_
  refine GG.istore_n e_X4_neededAt_1 (i := 2) rfl (Nat.le_of_ble_eq_true rfl) (ls' := [(2, .int _), (0, .ref _), (1, .int _)]) rfl ?_
  refine GG.aload_n e_X4_neededAt_2 (i := 0) rfl 1 rfl ?_
  refine GG.iload_n e_X4_neededAt_3 (i := 1) rfl 2 rfl ?_
  refine GG.callV (d' := 3) (a := b) (as := [.int _]) e_X4_neededAt_4 ml_X4_96 mf_X4_soundsAt mv_X4_soundsAt (rc_X4 hI_X4_b) rfl (by decide) (Nat.le_of_ble_eq_true rfl) rfl ?_
  refine s_X4_soundsAt hI_X4_b hL ?_
  rw [← hs]
  refine GG.if_eq (tgt := 45) e_X4_neededAt_7 rfl (fun h7 => ?_) (fun h7 => ?_)
  · skip
    rw [bI_0] at h7
    refine GG.iload_n e_X4_neededAt_45 (i := 2) rfl 0 rfl ?_
    refine GG.iret e_X4_neededAt_46 rfl rfl ?_
    exact qI hQ (by simp [h7])
  · skip
    rw [bI_0, Bool.not_eq_false] at h7
    refine GG.iconst (v := 0) e_X4_neededAt_10 rfl ?_
    refine GG.istore_n e_X4_neededAt_11 (i := 3) rfl (Nat.le_of_ble_eq_true rfl) (ls' := [(3, .int _), (2, .int _), (0, .ref _), (1, .int _)]) rfl ?_
    exact lp (P + 1) 0 _ (by omega) (by omega) h7 rfl
theorem s_X4_passUpTo {N : Nat} {last : Int32} {snd : Int32 → Int32} (hI_X4_b : gI_X4 b) (hL : LC μ b P A) (hN : N < 2 ^ 31) (hsnd : ∀ c, snd c = mSnd (cV μ b 1) (fun i => mLng (cV μ b) (mrd μ b 8) A i c) (mrd μ b 0) P)
    (hQ : Q none (mwr (mwr μ b 10 (mPass snd last N (mrd μ b 10, mrd μ b 9)).1) b 9 (mPass snd last N (mrd μ b 10, mrd μ b 9)).2)) : SPC 3 MX4_passUpTo [.ref b, .int (nI N), .int last] μ Q := by
  have lp : ∀ n j x t, N - j < n → j ≤ N → mPass snd last j (mrd μ b 10, mrd μ b 9) = (x, t) → GG 3 MX4_passUpTo 2 [(3, .int (nI j)), (0, .ref b), (1, .int (nI N)), (2, .int last)] [] (mwr (mwr μ b 10 x) b 9 t) Q := by
    intro n
    induction n with
    | zero => intro j x t h; omega
    | succ n ih =>
      intro j x t hn' hj hl
      have hL' : LC (mwr (mwr μ b 10 x) b 9 t) b P A := by
        obtain ⟨h1, h2, h3, h4⟩ := hL
        exact ⟨by simp [mrd_wr, h1], h2, by simp [mrd_wr, h3], h4⟩
      have hcV : cV (mwr (mwr μ b 10 x) b 9 t) b = cV μ b := by
        funext f k
        have : ¬ b + 1 + f = b := by omega
        simp [cV, mrd_wr, this]
      refine GG.iload_n e_X4_passUpTo_2 (i := 3) rfl 0 rfl ?_
      refine GG.iload_n e_X4_passUpTo_3 (i := 1) rfl 2 rfl ?_
      refine GG.icmp_ge (tgt := 56) e_X4_passUpTo_4 rfl (fun h4 => ?_) (fun h4 => ?_)
      · skip
        have e := nle h4 (by omega) (by omega)
        have e2 : j = N := by omega
        subst e2
        refine GG.vret e_X4_passUpTo_56 rfl rfl ?_
        refine qM hQ ?_
        first | rw [hl] | rw [mPass_stop (k := j) (by rw [hl]; show ¬ t < last; grind) N (by omega), hl]
      · skip
        have e := nnle h4 (by omega) (by omega)
        refine GG.aload_n e_X4_passUpTo_7 (i := 0) rfl 1 rfl ?_
        refine GG.getIv (v := t) e_X4_passUpTo_8 fl_X4_40 (sf_X4_9 hI_X4_b) (by simp [mrd_wr]) ?_
        refine GG.iload_n e_X4_passUpTo_11 (i := 2) rfl 3 rfl ?_
        refine GG.icmp_ge (tgt := 56) e_X4_passUpTo_12 rfl (fun h12 => ?_) (fun h12 => ?_)
        · skip
          refine GG.vret e_X4_passUpTo_56 rfl rfl ?_
          refine qM hQ ?_
          first | rw [hl] | rw [mPass_stop (k := j) (by rw [hl]; show ¬ t < last; grind) N (by omega), hl]
        · skip
          refine GG.aload_n e_X4_passUpTo_15 (i := 0) rfl 1 rfl ?_
          refine GG.sipush (v := 9999) e_X4_passUpTo_16 rfl ?_
          refine GG.aload_n e_X4_passUpTo_19 (i := 0) rfl 1 rfl ?_
          refine GG.getIv (v := x) e_X4_passUpTo_20 fl_X4_43 (sf_X4_10 hI_X4_b) (by simp [mrd_wr]) ?_
          refine GG.iconst (v := 2) e_X4_passUpTo_23 rfl ?_
          refine GG.idiv e_X4_passUpTo_24 (by decide) ?_
          refine GG.aload_n e_X4_passUpTo_25 (i := 0) rfl 1 rfl ?_
          refine GG.aload_n e_X4_passUpTo_26 (i := 0) rfl 1 rfl ?_
          refine GG.getIv (v := t) e_X4_passUpTo_27 fl_X4_40 (sf_X4_9 hI_X4_b) (by simp [mrd_wr]) ?_
          refine GG.callV (d' := 2) (a := b) (as := [.int _]) e_X4_passUpTo_30 ml_X4_102 mf_X4_soundAt mv_X4_soundAt (rc_X4 hI_X4_b) rfl (by decide) (Nat.le_of_ble_eq_true rfl) rfl ?_
          refine s_X4_soundAt hI_X4_b hL' ?_
          rw [hcV, show mrd (mwr (mwr μ b 10 x) b 9 t) b 8 = mrd μ b 8 by simp [mrd_wr], show mrd (mwr (mwr μ b 10 x) b 9 t) b 0 = mrd μ b 0 by simp [mrd_wr], ← hsnd t]
          refine GG.iadd e_X4_passUpTo_33 ?_
          refine GG.min e_X4_passUpTo_34 ml_X4_99 (by decide) (Nat.le_of_ble_eq_true rfl) ?_
          refine GG.putI e_X4_passUpTo_37 fl_X4_43 fp_X4_10 (sf_X4_10 hI_X4_b) ?_
          refine GG.aload_n e_X4_passUpTo_40 (i := 0) rfl 1 rfl ?_
          refine GG.dup e_X4_passUpTo_41 rfl ?_
          refine GG.getIv (v := t) e_X4_passUpTo_42 fl_X4_40 (sf_X4_9 hI_X4_b) (by simp [mrd_wr]) ?_
          refine GG.iconst (v := 1) e_X4_passUpTo_45 rfl ?_
          refine GG.iadd e_X4_passUpTo_46 ?_
          refine GG.putI e_X4_passUpTo_47 fl_X4_40 fp_X4_9 (sf_X4_9 hI_X4_b) ?_
          refine GG.iinc e_X4_passUpTo_50 0 rfl (v := _) (by first | exact nI_s _ | exact nI_d _ | rfl) (Nat.le_of_ble_eq_true rfl) (ls' := [(3, .int _), (0, .ref _), (1, .int _), (2, .int _)]) rfl ?_
          refine GG.goto (tgt := 2) e_X4_passUpTo_53 rfl ?_
          refine GG.mem ?_ (ih (j + 1) (mMin 9999 (x / 2 + snd t)) (t + 1) (by omega) (by omega) (by rw [mPass, hl, if_pos (show (x, t).2 < last by grind)]))
          refine gM_ext (fun c q => ?_) (fun c q => rfl)
          simp only [mrd_wr, mMin]
          grind
  refine SPC.of (by decide +kernel) (Nat.le_of_ble_eq_true rfl) (ls := [(0, .ref (b)), (1, .int (nI N)), (2, .int (last))]) rfl ?_
  refine GG.iconst (v := 0) e_X4_passUpTo_0 rfl ?_
  refine GG.istore_n e_X4_passUpTo_1 (i := 3) rfl (Nat.le_of_ble_eq_true rfl) (ls' := [(3, .int _), (0, .ref _), (1, .int _), (2, .int _)]) rfl ?_
  refine GG.mem ?_ (lp (N + 1) 0 _ _ (by omega) (by omega) rfl)
  refine gM_ext (fun c q => ?_) (fun c q => rfl)
  simp only [mrd_wr]
  grind
end S16
