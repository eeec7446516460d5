/-! THE REFERENCE: counts that go by, what is kept -/
def mPg (snd : Int32 → Int32) (ok : Int32 → Bool) : Nat → Int32 × Int32 → Int32 × Int32
  | 0, p => p
  | k + 1, p => if ok (mPg snd ok k p).2 = true then (mMin 9999 ((mPg snd ok k p).1 / 2 + snd (mPg snd ok k p).2), (mPg snd ok k p).2 + 1) else mPg snd ok k p
theorem mPg_stop {snd : Int32 → Int32} {ok : Int32 → Bool} {p : Int32 × Int32} {k : Nat} (h : ¬ ok (mPg snd ok k p).2 = true) : ∀ m, k ≤ m → mPg snd ok m p = mPg snd ok k p := by
  intro m hm
  induction m with
  | zero => have : k = 0 := by omega
            subst this; rfl
  | succ m ih =>
    by_cases hk : k = m + 1
    · subst hk; rfl
    · rw [mPg, ih (by omega), if_neg h]
theorem mMin_9999 (n : Int32) : (if n ≤ 9999 then n else 9999) = mMin 9999 n := by
  unfold mMin
  have e : n ≤ 9999 ↔ n < 9999 ∨ n = 9999 := by
    rw [Int32.le_iff_toInt_le, Int32.lt_iff_toInt_lt, ← Int32.toInt_inj]
    omega
  by_cases h : n < 9999
  · rw [if_pos h, if_pos (e.mpr (Or.inl h))]
  · rw [if_neg h]
    by_cases h2 : n = 9999
    · rw [if_pos (e.mpr (Or.inr h2)), h2]
    · rw [if_neg (fun z => (e.mp z).elim h h2)]
def mSh (μ : gM) (n : Nat) : gM := (fun c j => if c = 64 ∧ 99 ≤ j ∧ j < 99 + n then μ.1 64 (j + 10) else μ.1 c j, μ.2)
theorem mrd_Sh (μ : gM) (n c j : Nat) : mrd (mSh μ n) c j = if c = 64 ∧ 99 ≤ j ∧ j < 99 + n then mrd μ 64 (j + 10) else mrd μ c j := rfl
theorem mrL_Sh (μ : gM) (n c j : Nat) : mrL (mSh μ n) c j = mrL μ c j := rfl
/-- n cells of the row from s on are laid at t -/
def mCr (μ : gM) (s t n : Nat) : gM := (fun c j => if c = 64 ∧ t ≤ j ∧ j < t + n then μ.1 64 (j - t + s) else μ.1 c j, μ.2)
theorem mrd_Cr (μ : gM) (s t n c j : Nat) : mrd (mCr μ s t n) c j = if c = 64 ∧ t ≤ j ∧ j < t + n then mrd μ 64 (j - t + s) else mrd μ c j := rfl
theorem mrL_Cr (μ : gM) (s t n c j : Nat) : mrL (mCr μ s t n) c j = mrL μ c j := rfl
def mRk (μ : gM) (U : Nat) : gM := if U < 8 then mwr (mCr μ 0 (99 + 10 * U) 10) 64 98 (nI (U + 1)) else mwr (mCr (mSh μ 70) 0 169 10) 64 98 (nI 8)
section S34
variable {μ : gM} {Q : Option Value → gM → Prop} {P A U L T N M B k : Nat} {i c a w z v x y o : Int32}
theorem s_X11_goBy {snd : Int32 → Int32} {ok : Int32 → Bool} (hR : MR μ P A) (hB : B = 0 ∧ (∀ t, ok t = decide (t < 9999)) ∨ B = 537 ∧ ∀ t, ok t = true) (hN : N < 2 ^ 31) (hs : ∀ c, snd c = vSnd (rV μ B) (mrd μ 64 (B + 7)) A (mrd μ 64 10) P c)
    (hQ : ∀ ν, gL9 (mwr (mwr μ 64 (B + 8) (mPg snd ok N (mrd μ 64 (B + 8), mrd μ 64 (B + 9))).1) 64 (B + 9) (mPg snd ok N (mrd μ 64 (B + 8), mrd μ 64 (B + 9))).2) ν → Q none ν) : SPC 5 MX11_goBy [.ref 63, .int (nI B), .int (nI N)] μ Q := by
  have hB2 : B = 0 ∨ B = 537 := hB.elim (fun z => Or.inl z.1) (fun z => Or.inr z.1)
  have lp : ∀ n j x t ν, N - j < n → j ≤ N → mPg snd ok j (mrd μ 64 (B + 8), mrd μ 64 (B + 9)) = (x, t) → gL9 (mwr (mwr μ 64 (B + 8) x) 64 (B + 9) t) ν → GG 5 MX11_goBy 2 [(3, .int (nI j)), (0, .ref 63), (1, .int (nI B)), (2, .int (nI N))] [] ν Q := by
    intro n
    induction n with
    | zero => intro j x t ν h; omega
    | succ n ih =>
      intro j x t ν hn hj hp hν
      have r8 : mrd ν 64 (B + 8) = x := by rw [hν.row]; simp [mrd_wr]
      have r9 : mrd ν 64 (B + 9) = t := by rw [hν.row]; simp [mrd_wr]
      have ro : ∀ j, ¬ j = B + 8 → ¬ j = B + 9 → mrd ν 64 j = mrd μ 64 j := fun j h1 h2 => by rw [hν.row]; simp [mrd_wr, h1, h2]
      have hR' : MR ν P A := by
        refine ⟨?_, hR.2.1, ?_, hR.2.2.2⟩
        · rw [ro 11 (by omega) (by omega)]; exact hR.1
        · rw [ro 26 (by omega) (by omega)]; exact hR.2.2.1
      have hV : VE (rV ν B) (rV μ B) P A := by
        have := hR.2.1
        have := hR.2.2.2
        refine ⟨fun k hk => ⟨?_, ?_, ?_⟩, fun k hk => ⟨?_, ?_⟩⟩
        · exact ro (12 + k) (by omega) (by omega)
        · exact ro (19 + k) (by omega) (by omega)
        · exact ro (B + k) (by omega) (by omega)
        · exact ro (27 + k) (by omega) (by omega)
        · exact ro (31 + k) (by omega) (by omega)
      have hsn : vSnd (rV ν B) (mrd ν 64 (B + 7)) A (mrd ν 64 10) P t = snd t := by
        rw [ro (B + 7) (by omega) (by omega), ro 10 (by omega) (by omega), hs t]
        exact vSnd_c hV
      have go : j < N → ok t = true → GG 5 MX11_goBy 26 [(3, .int (nI j)), (0, .ref 63), (1, .int (nI B)), (2, .int (nI N))] [] ν Q := by
        intro hjN hok
        have nx : ∀ y ν', y = mMin 9999 (x / 2 + snd t) → gL9 ν ν' → GG 5 MX11_goBy 78 [(4, .int (x / 2 + snd t)), (3, .int (nI j)), (0, .ref 63), (1, .int (nI B)), (2, .int (nI N))] [.int y, .int (nI (B + 8)), .ref 64] ν' Q := by
          intro y ν' hy hν'
          have sa := sa_X11_0 i_X11_63
          refine GG.iastoreE (k := B + 8) e_X11_goBy_78 sa (rfl) (by omega) (Nat.le_of_ble_eq_true rfl) ?_
          refine GG.aload_n e_X11_goBy_79 (i := 0) rfl 2 rfl ?_
          refine GG.getR (b := 64) e_X11_goBy_80 fl_X11_7 (sf_X11_0 i_X11_63) ?_
          refine GG.iload_n e_X11_goBy_83 (i := 1) rfl 3 rfl ?_
          refine GG.bipush (v := 9) e_X11_goBy_84 rfl ?_
          refine GG.iadd e_X11_goBy_86 ?_
          refine GG.dup2 e_X11_goBy_87 rfl rfl ?_
          refine GG.ialoadV (k := B + 9) (v := t) e_X11_goBy_88 (sa_X11_0 i_X11_63) (nI_add B 9) (by omega) (Nat.le_of_ble_eq_true rfl) (by rw [mrd_wr, if_neg (by omega), hν'.row, r9]) ?_
          refine GG.iconst (v := 1) e_X11_goBy_89 rfl ?_
          refine GG.iadd e_X11_goBy_90 ?_
          refine GG.iastoreE (k := B + 9) e_X11_goBy_91 (sa_X11_0 i_X11_63) (nI_add B 9) (by omega) (Nat.le_of_ble_eq_true rfl) ?_
          refine GG.iinc e_X11_goBy_92 1 rfl (v := _) (by first | exact nI_s _ | exact nI_d _ | rfl) (Nat.le_of_ble_eq_true rfl) (ls' := [(3, .int _), (4, .int _), (0, .ref _), (1, .int _), (2, .int _)]) rfl ?_
          refine GG.goto (tgt := 2) e_X11_goBy_95 rfl ?_
          refine GG.perm [0, 2, 3, 4] rfl ?_
          refine ih (j + 1) y (t + 1) _ (by omega) (by omega) (by rw [mPg, hp, if_pos (show ok (x, t).2 = true from hok), hy]) ⟨fun c q h9 => ?_, fun c q => ?_⟩
          · have e := (hν.tr hν').1 c q h9
            simp only [mrd_wr] at e
            simp only [mrd_wr]
            grind
          · exact (hν.tr hν').2 c q
        refine GG.aload_n e_X11_goBy_26 (i := 0) rfl 1 rfl ?_
        refine GG.getR (b := 64) e_X11_goBy_27 fl_X11_7 (sf_X11_0 i_X11_63) ?_
        refine GG.iload_n e_X11_goBy_30 (i := 1) rfl 2 rfl ?_
        refine GG.bipush (v := 8) e_X11_goBy_31 rfl ?_
        refine GG.iadd e_X11_goBy_33 ?_
        refine GG.ialoadV (k := B + 8) (v := x) e_X11_goBy_34 (sa_X11_0 i_X11_63) (nI_add B 8) (by omega) (Nat.le_of_ble_eq_true rfl) (r8) ?_
        refine GG.iconst (v := 2) e_X11_goBy_35 rfl ?_
        refine GG.idiv e_X11_goBy_36 (by decide) ?_
        refine GG.aload_n e_X11_goBy_37 (i := 0) rfl 1 rfl ?_
        refine GG.iload_n e_X11_goBy_38 (i := 1) rfl 2 rfl ?_
        refine GG.aload_n e_X11_goBy_39 (i := 0) rfl 1 rfl ?_
        refine GG.getR (b := 64) e_X11_goBy_40 fl_X11_7 (sf_X11_0 i_X11_63) ?_
        refine GG.iload_n e_X11_goBy_43 (i := 1) rfl 2 rfl ?_
        refine GG.bipush (v := 9) e_X11_goBy_44 rfl ?_
        refine GG.iadd e_X11_goBy_46 ?_
        refine GG.ialoadV (k := B + 9) (v := t) e_X11_goBy_47 (sa_X11_0 i_X11_63) (nI_add B 9) (by omega) (Nat.le_of_ble_eq_true rfl) (r9) ?_
        refine GG.callV (d' := 4) (a := 63) (as := [.int _, .int _]) e_X11_goBy_48 ml_X11_153 mf_X11_soundAt mv_X11_soundAt (rc_X11 i_X11_63) rfl (by decide) (Nat.le_of_ble_eq_true rfl) rfl ?_
        refine s_X11_soundAt hR' (by omega) (fun ν' hν' => ?_)
        rw [hsn]
        refine GG.iadd e_X11_goBy_51 ?_
        refine GG.istore e_X11_goBy_52 (Nat.le_of_ble_eq_true rfl) (ls' := [(4, .int _), (3, .int _), (0, .ref _), (1, .int _), (2, .int _)]) rfl ?_
        refine GG.aload_n e_X11_goBy_54 (i := 0) rfl 2 rfl ?_
        refine GG.getR (b := 64) e_X11_goBy_55 fl_X11_7 (sf_X11_0 i_X11_63) ?_
        refine GG.iload_n e_X11_goBy_58 (i := 1) rfl 3 rfl ?_
        refine GG.bipush (v := 8) e_X11_goBy_59 rfl ?_
        refine GG.iadd e_X11_goBy_61 ?_
        refine GG.top (nI_add B 8) ?_
        refine GG.iload e_X11_goBy_62 0 rfl ?_
        refine GG.sipush (v := 9999) e_X11_goBy_64 rfl ?_
        refine GG.icmp_le (tgt := 76) e_X11_goBy_67 rfl (fun h67 => ?_) (fun h67 => ?_)
        · skip
          refine GG.iload e_X11_goBy_76 0 rfl ?_
          refine GG.perm [0, 1, 2, 3, 4] rfl (nx _ ν' ?_ hν')
          rw [← mMin_9999]
          first | (rw [if_pos (by assumption)]; done) | rw [if_neg (by assumption)]
        · skip
          refine GG.sipush (v := 9999) e_X11_goBy_70 rfl ?_
          refine GG.goto (tgt := 78) e_X11_goBy_73 rfl ?_
          refine GG.perm [0, 1, 2, 3, 4] rfl (nx _ ν' ?_ hν')
          rw [← mMin_9999]
          first | (rw [if_pos (by assumption)]; done) | rw [if_neg (by assumption)]
      have stop : ¬ ok t = true ∨ j = N → mPg snd ok N (mrd μ 64 (B + 8), mrd μ 64 (B + 9)) = (x, t) := by
        rintro (h | h)
        · rw [mPg_stop (k := j) (by rw [hp]; exact h) N (by omega), hp]
        · rw [← h, hp]
      refine GG.iload_n e_X11_goBy_2 (i := 3) rfl 0 rfl ?_
      refine GG.iload_n e_X11_goBy_3 (i := 2) rfl 3 rfl ?_
      refine GG.icmp_ge (tgt := 98) e_X11_goBy_4 rfl (fun h4 => ?_) (fun h4 => ?_)
      · skip
        have e : j = N := by have := nle h4 (by omega) (by omega); omega
        have hst := stop (Or.inr e)
        refine GG.vret e_X11_goBy_98 rfl rfl ?_
        refine hQ ν ?_
        rw [hst]
        exact hν
      · skip
        have e := nnle h4 (by omega) (by omega)
        refine GG.aload_n e_X11_goBy_7 (i := 0) rfl 1 rfl ?_
        refine GG.getR (b := 64) e_X11_goBy_8 fl_X11_7 (sf_X11_0 i_X11_63) ?_
        refine GG.iload_n e_X11_goBy_11 (i := 1) rfl 2 rfl ?_
        refine GG.bipush (v := 9) e_X11_goBy_12 rfl ?_
        refine GG.iadd e_X11_goBy_14 ?_
        refine GG.ialoadV (k := B + 9) (v := t) e_X11_goBy_15 (sa_X11_0 i_X11_63) (nI_add B 9) (by omega) (Nat.le_of_ble_eq_true rfl) (r9) ?_
        refine GG.sipush (v := 9999) e_X11_goBy_16 rfl ?_
        refine GG.icmp_lt (tgt := 26) e_X11_goBy_19 rfl (fun h19 => ?_) (fun h19 => ?_)
        · skip
          refine GG.perm [0, 1, 2, 3] rfl (go e ?_)
          rcases hB with ⟨q, hb⟩ | ⟨q, hb⟩
          · rw [hb, decide_eq_true_eq]; first | exact h19 | omega
          · exact hb t
        · skip
          refine GG.iload_n e_X11_goBy_22 (i := 1) rfl 2 rfl ?_
          refine GG.if_le (tgt := 98) e_X11_goBy_23 rfl (fun h23 => ?_) (fun h23 => ?_)
          · skip
            have e0 : B = 0 := by have := nle (b := 0) h23 (by omega) (by omega); omega
            have hst := stop (Or.inl (by rcases hB with ⟨_, hb⟩ | ⟨hb, _⟩; rw [hb, decide_eq_true_eq]; exact h19; omega))
            refine GG.vret e_X11_goBy_98 rfl rfl ?_
            refine hQ ν ?_
            rw [hst]
            exact hν
          · skip
            have e0 : 0 < B := nnle (b := 0) h23 (by omega) (by omega)
            refine GG.perm [0, 1, 2, 3] rfl (go e ?_)
            rcases hB with ⟨q, hb⟩ | ⟨q, hb⟩
            · rw [hb, decide_eq_true_eq]; first | exact h19 | omega
            · exact hb t
  refine SPC.of (by decide +kernel) (Nat.le_of_ble_eq_true rfl) (ls := [(0, .ref (63)), (1, .int (nI B)), (2, .int (nI N))]) rfl ?_
  refine GG.iconst (v := 0) e_X11_goBy_0 rfl ?_
  refine GG.istore_n e_X11_goBy_1 (i := 3) rfl (Nat.le_of_ble_eq_true rfl) (ls' := [(3, .int _), (0, .ref _), (1, .int _), (2, .int _)]) rfl ?_
  refine lp (N + 1) 0 _ _ μ (by omega) (by omega) rfl ⟨fun c q _ => ?_, fun c q => rfl⟩
  simp only [mrd_wr]
  grind
theorem s_X11_keepPast (hU : mrd μ 64 98 = nI U) (hU8 : U ≤ 8) (hQ : Q none (mRk μ U)) : SPC 0 MX11_keepPast [.ref 63] μ Q := by
  have lp2 : ∀ (ν : gM) u, u < 8 → mrd ν 64 98 = nI u → Q none (mwr (mCr ν 0 (99 + 10 * u) 10) 64 98 (nI (u + 1))) → ∀ n i, 10 - i < n → i ≤ 10 → GG 0 MX11_keepPast 57 [(1, .int (nI i)), (0, .ref 63)] [] (mCr ν 0 (99 + 10 * u) i) Q := by
    intro ν u hu hz hq n
    induction n with
    | zero => intro i h; omega
    | succ n ih =>
      intro i hn hi
      have e98 : mrd (mCr ν 0 (99 + 10 * u) i) 64 98 = nI u := by rw [mrd_Cr, if_neg (by omega), hz]
      refine GG.iload_n e_X11_keepPast_57 (i := 1) rfl 0 rfl ?_
      refine GG.bipush (v := 10) e_X11_keepPast_58 rfl ?_
      refine GG.icmp_ge (tgt := 95) e_X11_keepPast_60 rfl (fun h60 => ?_) (fun h60 => ?_)
      · skip
        have e : i = 10 := by have := nle (a := 10) (b := i) h60 (by omega) (by omega); omega
        refine GG.aload_n e_X11_keepPast_95 (i := 0) rfl 1 rfl ?_
        refine GG.getR (b := 64) e_X11_keepPast_96 fl_X11_7 (sf_X11_0 i_X11_63) ?_
        refine GG.bipush (v := 98) e_X11_keepPast_99 rfl ?_
        refine GG.dup2 e_X11_keepPast_101 rfl rfl ?_
        refine GG.ialoadV (k := 98) (v := nI u) e_X11_keepPast_102 (sa_X11_0 i_X11_63) (rfl) (by omega) (Nat.le_of_ble_eq_true rfl) (e98) ?_
        refine GG.iconst (v := 1) e_X11_keepPast_103 rfl ?_
        refine GG.iadd e_X11_keepPast_104 ?_
        refine GG.top (nI_1 u) ?_
        refine GG.iastoreE (k := 98) e_X11_keepPast_105 (sa_X11_0 i_X11_63) (rfl) (by omega) (Nat.le_of_ble_eq_true rfl) ?_
        refine GG.vret e_X11_keepPast_106 rfl rfl ?_
        subst e
        exact hq
      · skip
        have e := nnle (a := 10) (b := i) h60 (by omega) (by omega)
        refine GG.aload_n e_X11_keepPast_63 (i := 0) rfl 1 rfl ?_
        refine GG.getR (b := 64) e_X11_keepPast_64 fl_X11_7 (sf_X11_0 i_X11_63) ?_
        refine GG.bipush (v := 99) e_X11_keepPast_67 rfl ?_
        refine GG.bipush (v := 10) e_X11_keepPast_69 rfl ?_
        refine GG.aload_n e_X11_keepPast_71 (i := 0) rfl 1 rfl ?_
        refine GG.getR (b := 64) e_X11_keepPast_72 fl_X11_7 (sf_X11_0 i_X11_63) ?_
        refine GG.bipush (v := 98) e_X11_keepPast_75 rfl ?_
        refine GG.ialoadV (k := 98) (v := nI u) e_X11_keepPast_77 (sa_X11_0 i_X11_63) (rfl) (by omega) (Nat.le_of_ble_eq_true rfl) (e98) ?_
        refine GG.imul e_X11_keepPast_78 ?_
        refine GG.top (show 10 * nI u = nI (10 * u) by rw [show (10 : Int32) = nI 10 from rfl, pk_mul]) ?_
        refine GG.iadd e_X11_keepPast_79 ?_
        refine GG.top (show 99 + nI (10 * u) = nI (99 + 10 * u) by rw [show (99 : Int32) = nI 99 from rfl, nI_add]) ?_
        refine GG.iload_n e_X11_keepPast_80 (i := 1) rfl 0 rfl ?_
        refine GG.iadd e_X11_keepPast_81 ?_
        refine GG.top (nI_add (99 + 10 * u) i) ?_
        refine GG.aload_n e_X11_keepPast_82 (i := 0) rfl 1 rfl ?_
        refine GG.getR (b := 64) e_X11_keepPast_83 fl_X11_7 (sf_X11_0 i_X11_63) ?_
        refine GG.iload_n e_X11_keepPast_86 (i := 1) rfl 0 rfl ?_
        refine GG.ialoadE (k := i) e_X11_keepPast_87 (sa_X11_0 i_X11_63) (rfl) (by omega) (Nat.le_of_ble_eq_true rfl) ?_
        refine GG.iastoreE (k := 99 + 10 * u + i) e_X11_keepPast_88 (sa_X11_0 i_X11_63) (rfl) (by omega) (Nat.le_of_ble_eq_true rfl) ?_
        refine GG.iinc e_X11_keepPast_89 0 rfl (v := _) (by first | exact nI_s _ | exact nI_d _ | rfl) (Nat.le_of_ble_eq_true rfl) (ls' := [(1, .int _), (0, .ref _)]) rfl ?_
        refine GG.goto (tgt := 57) e_X11_keepPast_92 rfl ?_
        refine GG.mem ?_ (ih (i + 1) (by omega) (by omega))
        refine gM_ext (fun c q => ?_) (fun c q => rfl)
        simp only [mrd_wr, mrd_Cr]
        grind
  have lp1 : U = 8 → ∀ n i, 70 - i < n → i ≤ 70 → GG 0 MX11_keepPast 14 [(1, .int (nI i)), (0, .ref 63)] [] (mSh μ i) Q := by
    intro hU8 n
    induction n with
    | zero => intro i h; omega
    | succ n ih =>
      intro i hn hi
      refine GG.iload_n e_X11_keepPast_14 (i := 1) rfl 0 rfl ?_
      refine GG.bipush (v := 70) e_X11_keepPast_15 rfl ?_
      refine GG.icmp_ge (tgt := 44) e_X11_keepPast_17 rfl (fun h17 => ?_) (fun h17 => ?_)
      · skip
        have e : i = 70 := by have := nle (a := 70) (b := i) h17 (by omega) (by omega); omega
        subst e
        refine GG.aload_n e_X11_keepPast_44 (i := 0) rfl 1 rfl ?_
        refine GG.getR (b := 64) e_X11_keepPast_45 fl_X11_7 (sf_X11_0 i_X11_63) ?_
        refine GG.bipush (v := 98) e_X11_keepPast_48 rfl ?_
        refine GG.dup2 e_X11_keepPast_50 rfl rfl ?_
        refine GG.ialoadV (k := 98) (v := nI 8) e_X11_keepPast_51 (sa_X11_0 i_X11_63) (rfl) (by omega) (Nat.le_of_ble_eq_true rfl) (by rw [mrd_Sh, if_neg (by omega), hU, hU8]) ?_
        refine GG.iconst (v := 1) e_X11_keepPast_52 rfl ?_
        refine GG.isub e_X11_keepPast_53 ?_
        refine GG.top (show nI 8 - 1 = nI 7 from by decide) ?_
        refine GG.iastoreE (k := 98) e_X11_keepPast_54 (sa_X11_0 i_X11_63) (rfl) (by omega) (Nat.le_of_ble_eq_true rfl) ?_
        refine GG.iconst (v := 0) e_X11_keepPast_55 rfl ?_
        refine GG.istore_n e_X11_keepPast_56 (i := 1) rfl (Nat.le_of_ble_eq_true rfl) (ls' := [(1, .int _), (0, .ref _)]) rfl ?_
        refine GG.mem ?_ (lp2 (mwr (mSh μ 70) 64 98 (nI 7)) 7 (by omega) (by rw [mrd_wr, if_pos ⟨rfl, rfl⟩]) ?_ 11 0 (by omega) (by omega))
        · refine gM_ext (fun c q => ?_) (fun c q => rfl)
          rw [mrd_Cr, if_neg (by omega)]
        · refine qM hQ ?_
          unfold mRk
          rw [if_neg (by omega)]
          refine gM_ext (fun c q => ?_) (fun c q => by simp only [mrL_wr, mrL_Cr, mrL_Sh])
          simp only [mrd_wr, mrd_Cr, mrd_Sh]
          grind
      · skip
        have e := nnle (a := 70) (b := i) h17 (by omega) (by omega)
        refine GG.aload_n e_X11_keepPast_20 (i := 0) rfl 1 rfl ?_
        refine GG.getR (b := 64) e_X11_keepPast_21 fl_X11_7 (sf_X11_0 i_X11_63) ?_
        refine GG.bipush (v := 99) e_X11_keepPast_24 rfl ?_
        refine GG.iload_n e_X11_keepPast_26 (i := 1) rfl 0 rfl ?_
        refine GG.iadd e_X11_keepPast_27 ?_
        refine GG.top (show 99 + nI i = nI (99 + i) by rw [show (99 : Int32) = nI 99 from rfl, nI_add]) ?_
        refine GG.aload_n e_X11_keepPast_28 (i := 0) rfl 1 rfl ?_
        refine GG.getR (b := 64) e_X11_keepPast_29 fl_X11_7 (sf_X11_0 i_X11_63) ?_
        refine GG.bipush (v := 109) e_X11_keepPast_32 rfl ?_
        refine GG.iload_n e_X11_keepPast_34 (i := 1) rfl 0 rfl ?_
        refine GG.iadd e_X11_keepPast_35 ?_
        refine GG.top (show 109 + nI i = nI (109 + i) by rw [show (109 : Int32) = nI 109 from rfl, nI_add]) ?_
        refine GG.ialoadE (k := 109 + i) e_X11_keepPast_36 (sa_X11_0 i_X11_63) (rfl) (by omega) (Nat.le_of_ble_eq_true rfl) ?_
        refine GG.iastoreE (k := 99 + i) e_X11_keepPast_37 (sa_X11_0 i_X11_63) (rfl) (by omega) (Nat.le_of_ble_eq_true rfl) ?_
        refine GG.iinc e_X11_keepPast_38 0 rfl (v := _) (by first | exact nI_s _ | exact nI_d _ | rfl) (Nat.le_of_ble_eq_true rfl) (ls' := [(1, .int _), (0, .ref _)]) rfl ?_
        refine GG.goto (tgt := 14) e_X11_keepPast_41 rfl ?_
        refine GG.mem ?_ (ih (i + 1) (by omega) (by omega))
        refine gM_ext (fun c q => ?_) (fun c q => rfl)
        simp only [mrd_wr, mrd_Sh]
        grind
  refine SPC.of (by decide +kernel) (Nat.le_of_ble_eq_true rfl) (ls := [(0, .ref (63))]) rfl ?_
  refine GG.aload_n e_X11_keepPast_0 (i := 0) rfl 0 rfl ?_
  refine GG.getR (b := 64) e_X11_keepPast_1 fl_X11_7 (sf_X11_0 i_X11_63) ?_
  refine GG.bipush (v := 98) e_X11_keepPast_4 rfl ?_
  refine GG.ialoadV (k := 98) (v := nI U) e_X11_keepPast_6 (sa_X11_0 i_X11_63) (rfl) (by omega) (Nat.le_of_ble_eq_true rfl) (hU) ?_
  refine GG.bipush (v := 8) e_X11_keepPast_7 rfl ?_
  refine GG.icmp_ne (tgt := 55) e_X11_keepPast_9 rfl (fun h9 => ?_) (fun h9 => ?_)
  · skip
    have e : U < 8 := by have : ¬ U = 8 := (fun z => h9 (by rw [z]; rfl)); omega
    refine GG.iconst (v := 0) e_X11_keepPast_55 rfl ?_
    refine GG.istore_n e_X11_keepPast_56 (i := 1) rfl (Nat.le_of_ble_eq_true rfl) (ls' := [(1, .int _), (0, .ref _)]) rfl ?_
    refine GG.mem ?_ (lp2 μ U e hU ?_ 11 0 (by omega) (by omega))
    · refine gM_ext (fun c q => ?_) (fun c q => rfl)
      rw [mrd_Cr, if_neg (by omega)]
    · exact qM hQ (by unfold mRk; rw [if_pos e])
  · skip
    have e : U = 8 := (nI_eq (b := 8) (by omega) (by omega)).mp h9
    refine GG.iconst (v := 0) e_X11_keepPast_12 rfl ?_
    refine GG.istore_n e_X11_keepPast_13 (i := 1) rfl (Nat.le_of_ble_eq_true rfl) (ls' := [(1, .int _), (0, .ref _)]) rfl ?_
    refine GG.mem ?_ (lp1 e 71 0 (by omega) (by omega))
    refine gM_ext (fun c q => ?_) (fun c q => rfl)
    rw [mrd_Sh, if_neg (by omega)]
theorem s_X11_layTried (hQ : Q none (mCr μ 0 537 10)) : SPC 0 MX11_layTried [.ref 63] μ Q := by
  have lp : ∀ n i, 10 - i < n → i ≤ 10 → GG 0 MX11_layTried 2 [(1, .int (nI i)), (0, .ref 63)] [] (mCr μ 0 537 i) Q := by
    intro n
    induction n with
    | zero => intro i h; omega
    | succ n ih =>
      intro i hn hi
      refine GG.iload_n e_X11_layTried_2 (i := 1) rfl 0 rfl ?_
      refine GG.bipush (v := 10) e_X11_layTried_3 rfl ?_
      refine GG.icmp_ge (tgt := 30) e_X11_layTried_5 rfl (fun h5 => ?_) (fun h5 => ?_)
      · skip
        have e : i = 10 := by have := nle (a := 10) (b := i) h5 (by omega) (by omega); omega
        refine GG.vret e_X11_layTried_30 rfl rfl ?_
        subst e
        exact hQ
      · skip
        have e := nnle (a := 10) (b := i) h5 (by omega) (by omega)
        refine GG.aload_n e_X11_layTried_8 (i := 0) rfl 1 rfl ?_
        refine GG.getR (b := 64) e_X11_layTried_9 fl_X11_7 (sf_X11_0 i_X11_63) ?_
        refine GG.sipush (v := 537) e_X11_layTried_12 rfl ?_
        refine GG.iload_n e_X11_layTried_15 (i := 1) rfl 0 rfl ?_
        refine GG.iadd e_X11_layTried_16 ?_
        refine GG.top (show 537 + nI i = nI (537 + i) by rw [show (537 : Int32) = nI 537 from rfl, nI_add]) ?_
        refine GG.aload_n e_X11_layTried_17 (i := 0) rfl 1 rfl ?_
        refine GG.getR (b := 64) e_X11_layTried_18 fl_X11_7 (sf_X11_0 i_X11_63) ?_
        refine GG.iload_n e_X11_layTried_21 (i := 1) rfl 0 rfl ?_
        refine GG.ialoadE (k := i) e_X11_layTried_22 (sa_X11_0 i_X11_63) (rfl) (by omega) (Nat.le_of_ble_eq_true rfl) ?_
        refine GG.iastoreE (k := 537 + i) e_X11_layTried_23 (sa_X11_0 i_X11_63) (rfl) (by omega) (Nat.le_of_ble_eq_true rfl) ?_
        refine GG.iinc e_X11_layTried_24 0 rfl (v := _) (by first | exact nI_s _ | exact nI_d _ | rfl) (Nat.le_of_ble_eq_true rfl) (ls' := [(1, .int _), (0, .ref _)]) rfl ?_
        refine GG.goto (tgt := 2) e_X11_layTried_27 rfl ?_
        refine GG.mem ?_ (ih (i + 1) (by omega) (by omega))
        refine gM_ext (fun c q => ?_) (fun c q => rfl)
        simp only [mrd_wr, mrd_Cr]
        grind
  refine SPC.of (by decide +kernel) (Nat.le_of_ble_eq_true rfl) (ls := [(0, .ref (63))]) rfl ?_
  refine GG.iconst (v := 0) e_X11_layTried_0 rfl ?_
  refine GG.istore_n e_X11_layTried_1 (i := 1) rfl (Nat.le_of_ble_eq_true rfl) (ls' := [(1, .int _), (0, .ref _)]) rfl ?_
  refine GG.mem ?_ (lp 11 0 (by omega) (by omega))
  refine gM_ext (fun c q => ?_) (fun c q => rfl)
  rw [mrd_Cr, if_neg (by omega)]
theorem s_X11_lane (hR : MR μ P A) (hbad : oB w 4 30 = true → Q (some (.int (-2))) (rRf μ 0)) (hok : oB w 4 30 = false → Q (some (.int (nI P))) (mwr (mZr μ 179) 64 10 w)) : SPC 1 MX11_lane [.ref 63, .int w] μ Q := by
  refine SPC.of (by decide +kernel) (Nat.le_of_ble_eq_true rfl) (ls := [(0, .ref (63)), (1, .int (w))]) rfl ?_
  refine GG.iload_n e_X11_lane_0 (i := 1) rfl 1 rfl ?_
  refine GG.iconst (v := 4) e_X11_lane_1 rfl ?_
  refine GG.bipush (v := 30) e_X11_lane_2 rfl ?_
  refine GG.callS (d' := 0) (as := [.int _, .int _, .int _]) e_X11_lane_4 ml_X11_51 mf_X11_in ms_X11_in rfl (by decide) (Nat.le_of_ble_eq_true rfl) rfl ?_
  refine s_X11_inO ?_
  refine GG.if_ne (tgt := 17) e_X11_lane_7 rfl (fun h7 => ?_) (fun h7 => ?_)
  · skip
    have o : oB w 4 30 = false := by rw [bI_n0] at h7; simpa using h7
    refine GG.aload_n e_X11_lane_17 (i := 0) rfl 0 rfl ?_
    refine GG.getR (b := 64) e_X11_lane_18 fl_X11_7 (sf_X11_0 i_X11_63) ?_
    refine GG.bipush (v := 11) e_X11_lane_21 rfl ?_
    refine GG.ialoadV (k := 11) (v := nI P) e_X11_lane_23 (sa_X11_0 i_X11_63) (rfl) (by omega) (Nat.le_of_ble_eq_true rfl) (hR.1) ?_
    refine GG.istore_n e_X11_lane_24 (i := 2) rfl (Nat.le_of_ble_eq_true rfl) (ls' := [(2, .int _), (0, .ref _), (1, .int _)]) rfl ?_
    refine GG.aload_n e_X11_lane_25 (i := 0) rfl 1 rfl ?_
    refine GG.iload_n e_X11_lane_26 (i := 1) rfl 2 rfl ?_
    refine GG.callV (d' := 0) (a := 63) (as := [.int _]) e_X11_lane_27 ml_X11_59 mf_X11_layHouses mv_X11_layHouses (rc_X11 i_X11_63) rfl (by decide) (Nat.le_of_ble_eq_true rfl) rfl ?_
    refine s_X11_layHouses ?_
    refine GG.iload_n e_X11_lane_30 (i := 2) rfl 0 rfl ?_
    refine GG.iret e_X11_lane_31 rfl rfl ?_
    exact hok o
  · skip
    have o : oB w 4 30 = true := by rw [bI_0] at h7; simpa using h7
    refine GG.aload_n e_X11_lane_10 (i := 0) rfl 0 rfl ?_
    refine GG.bipush (v := -2) e_X11_lane_11 rfl ?_
    refine GG.callV (d' := 0) (a := 63) (as := [.int _]) e_X11_lane_13 ml_X11_55 mf_X11_refuse mv_X11_refuse (rc_X11 i_X11_63) rfl (by decide) (Nat.le_of_ble_eq_true rfl) rfl ?_
    refine s_X11_refB ?_
    refine GG.iret e_X11_lane_16 rfl rfl ?_
    exact hbad o
theorem s_X11_wide (hbad : oB w 4 30 = true → Q (some (.int (-2))) (rRf μ 0)) (hok : oB w 4 30 = false → Q (some (.int (mrd μ 64 10))) (mwr (mwr μ 64 10 w) 64 98 0)) : SPC 1 MX11_wide [.ref 63, .int w] μ Q := by
  refine SPC.of (by decide +kernel) (Nat.le_of_ble_eq_true rfl) (ls := [(0, .ref (63)), (1, .int (w))]) rfl ?_
  refine GG.iload_n e_X11_wide_0 (i := 1) rfl 1 rfl ?_
  refine GG.iconst (v := 4) e_X11_wide_1 rfl ?_
  refine GG.bipush (v := 30) e_X11_wide_2 rfl ?_
  refine GG.callS (d' := 0) (as := [.int _, .int _, .int _]) e_X11_wide_4 ml_X11_51 mf_X11_in ms_X11_in rfl (by decide) (Nat.le_of_ble_eq_true rfl) rfl ?_
  refine s_X11_inO ?_
  refine GG.if_ne (tgt := 17) e_X11_wide_7 rfl (fun h7 => ?_) (fun h7 => ?_)
  · skip
    have o : oB w 4 30 = false := by rw [bI_n0] at h7; simpa using h7
    refine GG.aload_n e_X11_wide_17 (i := 0) rfl 0 rfl ?_
    refine GG.getR (b := 64) e_X11_wide_18 fl_X11_7 (sf_X11_0 i_X11_63) ?_
    refine GG.bipush (v := 10) e_X11_wide_21 rfl ?_
    refine GG.ialoadE (k := 10) e_X11_wide_23 (sa_X11_0 i_X11_63) (rfl) (by omega) (Nat.le_of_ble_eq_true rfl) ?_
    refine GG.istore_n e_X11_wide_24 (i := 2) rfl (Nat.le_of_ble_eq_true rfl) (ls' := [(2, .int _), (0, .ref _), (1, .int _)]) rfl ?_
    refine GG.aload_n e_X11_wide_25 (i := 0) rfl 1 rfl ?_
    refine GG.getR (b := 64) e_X11_wide_26 fl_X11_7 (sf_X11_0 i_X11_63) ?_
    refine GG.bipush (v := 10) e_X11_wide_29 rfl ?_
    refine GG.iload_n e_X11_wide_31 (i := 1) rfl 2 rfl ?_
    refine GG.iastoreE (k := 10) e_X11_wide_32 (sa_X11_0 i_X11_63) (rfl) (by omega) (Nat.le_of_ble_eq_true rfl) ?_
    refine GG.aload_n e_X11_wide_33 (i := 0) rfl 1 rfl ?_
    refine GG.getR (b := 64) e_X11_wide_34 fl_X11_7 (sf_X11_0 i_X11_63) ?_
    refine GG.bipush (v := 98) e_X11_wide_37 rfl ?_
    refine GG.iconst (v := 0) e_X11_wide_39 rfl ?_
    refine GG.iastoreE (k := 98) e_X11_wide_40 (sa_X11_0 i_X11_63) (rfl) (by omega) (Nat.le_of_ble_eq_true rfl) ?_
    refine GG.iload_n e_X11_wide_41 (i := 2) rfl 0 rfl ?_
    refine GG.iret e_X11_wide_42 rfl rfl ?_
    exact hok o
  · skip
    have o : oB w 4 30 = true := by rw [bI_0] at h7; simpa using h7
    refine GG.aload_n e_X11_wide_10 (i := 0) rfl 0 rfl ?_
    refine GG.bipush (v := -2) e_X11_wide_11 rfl ?_
    refine GG.callV (d' := 0) (a := 63) (as := [.int _]) e_X11_wide_13 ml_X11_55 mf_X11_refuse mv_X11_refuse (rc_X11 i_X11_63) rfl (by decide) (Nat.le_of_ble_eq_true rfl) rfl ?_
    refine s_X11_refB ?_
    refine GG.iret e_X11_wide_16 rfl rfl ?_
    exact hbad o
def rOne (μ : gM) (P : Nat) (x y z : Int32) : gM := mwr (mwr (mwr (mwr (mwr μ 64 (12 + P) x) 64 (19 + P) y) 64 P z) 64 11 (nI (P + 1))) 64 98 0
def rAunt (μ : gM) (A : Nat) (x y : Int32) : gM := mwr (mwr (mwr (mwr (mwr μ 64 (27 + A) x) 64 (31 + A) y) 64 7 (mrd μ 64 7 ||| ((1 : Int32) <<< (nI A &&& 31)))) 64 26 (nI (A + 1))) 64 98 0
theorem s_X11_addOne (hP : mrd μ 64 11 = nI P) (hP7 : P < 7) (hQ : Q none (rOne μ P x y z)) : SPC 0 MX11_addOne [.ref 63, .int x, .int y, .int z] μ Q := by
  refine SPC.of (by decide +kernel) (Nat.le_of_ble_eq_true rfl) (ls := [(0, .ref (63)), (1, .int (x)), (2, .int (y)), (3, .int (z))]) rfl ?_
  refine GG.aload_n e_X11_addOne_0 (i := 0) rfl 0 rfl ?_
  refine GG.getR (b := 64) e_X11_addOne_1 fl_X11_7 (sf_X11_0 i_X11_63) ?_
  refine GG.bipush (v := 11) e_X11_addOne_4 rfl ?_
  refine GG.ialoadV (k := 11) (v := nI P) e_X11_addOne_6 (sa_X11_0 i_X11_63) (rfl) (by omega) (Nat.le_of_ble_eq_true rfl) (hP) ?_
  refine GG.istore e_X11_addOne_7 (Nat.le_of_ble_eq_true rfl) (ls' := [(4, .int _), (0, .ref _), (1, .int _), (2, .int _), (3, .int _)]) rfl ?_
  refine GG.aload_n e_X11_addOne_9 (i := 0) rfl 1 rfl ?_
  refine GG.getR (b := 64) e_X11_addOne_10 fl_X11_7 (sf_X11_0 i_X11_63) ?_
  refine GG.bipush (v := 12) e_X11_addOne_13 rfl ?_
  refine GG.iload e_X11_addOne_15 0 rfl ?_
  refine GG.iadd e_X11_addOne_17 ?_
  refine GG.iload_n e_X11_addOne_18 (i := 1) rfl 2 rfl ?_
  refine GG.iastoreE (k := 12 + P) e_X11_addOne_19 (sa_X11_0 i_X11_63) (nI_add 12 P) (by omega) (Nat.le_of_ble_eq_true rfl) ?_
  refine GG.aload_n e_X11_addOne_20 (i := 0) rfl 1 rfl ?_
  refine GG.getR (b := 64) e_X11_addOne_21 fl_X11_7 (sf_X11_0 i_X11_63) ?_
  refine GG.bipush (v := 19) e_X11_addOne_24 rfl ?_
  refine GG.iload e_X11_addOne_26 0 rfl ?_
  refine GG.iadd e_X11_addOne_28 ?_
  refine GG.iload_n e_X11_addOne_29 (i := 2) rfl 3 rfl ?_
  refine GG.iastoreE (k := 19 + P) e_X11_addOne_30 (sa_X11_0 i_X11_63) (nI_add 19 P) (by omega) (Nat.le_of_ble_eq_true rfl) ?_
  refine GG.aload_n e_X11_addOne_31 (i := 0) rfl 1 rfl ?_
  refine GG.getR (b := 64) e_X11_addOne_32 fl_X11_7 (sf_X11_0 i_X11_63) ?_
  refine GG.iconst (v := 0) e_X11_addOne_35 rfl ?_
  refine GG.iload e_X11_addOne_36 0 rfl ?_
  refine GG.iadd e_X11_addOne_38 ?_
  refine GG.iload_n e_X11_addOne_39 (i := 3) rfl 4 rfl ?_
  refine GG.iastoreE (k := P) e_X11_addOne_40 (sa_X11_0 i_X11_63) ((by rw [show (0 : Int32) = nI 0 from rfl, nI_add, Nat.zero_add])) (by omega) (Nat.le_of_ble_eq_true rfl) ?_
  refine GG.aload_n e_X11_addOne_41 (i := 0) rfl 1 rfl ?_
  refine GG.getR (b := 64) e_X11_addOne_42 fl_X11_7 (sf_X11_0 i_X11_63) ?_
  refine GG.bipush (v := 11) e_X11_addOne_45 rfl ?_
  refine GG.dup2 e_X11_addOne_47 rfl rfl ?_
  refine GG.ialoadV (k := 11) (v := nI P) e_X11_addOne_48 (sa_X11_0 i_X11_63) (rfl) (by omega) (Nat.le_of_ble_eq_true rfl) (by simp only [mrd_wr]; rw [if_neg (by omega), if_neg (by omega), if_neg (by omega), hP]) ?_
  refine GG.iconst (v := 1) e_X11_addOne_49 rfl ?_
  refine GG.iadd e_X11_addOne_50 ?_
  refine GG.top (nI_1 P) ?_
  refine GG.iastoreE (k := 11) e_X11_addOne_51 (sa_X11_0 i_X11_63) (rfl) (by omega) (Nat.le_of_ble_eq_true rfl) ?_
  refine GG.aload_n e_X11_addOne_52 (i := 0) rfl 1 rfl ?_
  refine GG.getR (b := 64) e_X11_addOne_53 fl_X11_7 (sf_X11_0 i_X11_63) ?_
  refine GG.bipush (v := 98) e_X11_addOne_56 rfl ?_
  refine GG.iconst (v := 0) e_X11_addOne_58 rfl ?_
  refine GG.iastoreE (k := 98) e_X11_addOne_59 (sa_X11_0 i_X11_63) (rfl) (by omega) (Nat.le_of_ble_eq_true rfl) ?_
  refine GG.vret e_X11_addOne_60 rfl rfl ?_
  exact hQ
theorem s_X11_addAunt (hA : mrd μ 64 26 = nI A) (hA4 : A < 4) (hQ : Q none (rAunt μ A x y)) : SPC 0 MX11_addAunt [.ref 63, .int x, .int y] μ Q := by
  refine SPC.of (by decide +kernel) (Nat.le_of_ble_eq_true rfl) (ls := [(0, .ref (63)), (1, .int (x)), (2, .int (y))]) rfl ?_
  refine GG.aload_n e_X11_addAunt_0 (i := 0) rfl 0 rfl ?_
  refine GG.getR (b := 64) e_X11_addAunt_1 fl_X11_7 (sf_X11_0 i_X11_63) ?_
  refine GG.bipush (v := 26) e_X11_addAunt_4 rfl ?_
  refine GG.ialoadV (k := 26) (v := nI A) e_X11_addAunt_6 (sa_X11_0 i_X11_63) (rfl) (by omega) (Nat.le_of_ble_eq_true rfl) (hA) ?_
  refine GG.istore_n e_X11_addAunt_7 (i := 3) rfl (Nat.le_of_ble_eq_true rfl) (ls' := [(3, .int _), (0, .ref _), (1, .int _), (2, .int _)]) rfl ?_
  refine GG.aload_n e_X11_addAunt_8 (i := 0) rfl 1 rfl ?_
  refine GG.getR (b := 64) e_X11_addAunt_9 fl_X11_7 (sf_X11_0 i_X11_63) ?_
  refine GG.bipush (v := 27) e_X11_addAunt_12 rfl ?_
  refine GG.iload_n e_X11_addAunt_14 (i := 3) rfl 0 rfl ?_
  refine GG.iadd e_X11_addAunt_15 ?_
  refine GG.iload_n e_X11_addAunt_16 (i := 1) rfl 2 rfl ?_
  refine GG.iastoreE (k := 27 + A) e_X11_addAunt_17 (sa_X11_0 i_X11_63) (nI_add 27 A) (by omega) (Nat.le_of_ble_eq_true rfl) ?_
  refine GG.aload_n e_X11_addAunt_18 (i := 0) rfl 1 rfl ?_
  refine GG.getR (b := 64) e_X11_addAunt_19 fl_X11_7 (sf_X11_0 i_X11_63) ?_
  refine GG.bipush (v := 31) e_X11_addAunt_22 rfl ?_
  refine GG.iload_n e_X11_addAunt_24 (i := 3) rfl 0 rfl ?_
  refine GG.iadd e_X11_addAunt_25 ?_
  refine GG.iload_n e_X11_addAunt_26 (i := 2) rfl 3 rfl ?_
  refine GG.iastoreE (k := 31 + A) e_X11_addAunt_27 (sa_X11_0 i_X11_63) (nI_add 31 A) (by omega) (Nat.le_of_ble_eq_true rfl) ?_
  refine GG.aload_n e_X11_addAunt_28 (i := 0) rfl 1 rfl ?_
  refine GG.getR (b := 64) e_X11_addAunt_29 fl_X11_7 (sf_X11_0 i_X11_63) ?_
  refine GG.bipush (v := 7) e_X11_addAunt_32 rfl ?_
  refine GG.dup2 e_X11_addAunt_34 rfl rfl ?_
  refine GG.ialoadV (k := 7) (v := mrd μ 64 7) e_X11_addAunt_35 (sa_X11_0 i_X11_63) (rfl) (by omega) (Nat.le_of_ble_eq_true rfl) (by simp only [mrd_wr]; rw [if_neg (by omega), if_neg (by omega)]) ?_
  refine GG.iconst (v := 1) e_X11_addAunt_36 rfl ?_
  refine GG.iload_n e_X11_addAunt_37 (i := 3) rfl 0 rfl ?_
  refine GG.ishl e_X11_addAunt_38 ?_
  refine GG.ior e_X11_addAunt_39 ?_
  refine GG.iastoreE (k := 7) e_X11_addAunt_40 (sa_X11_0 i_X11_63) (rfl) (by omega) (Nat.le_of_ble_eq_true rfl) ?_
  refine GG.aload_n e_X11_addAunt_41 (i := 0) rfl 1 rfl ?_
  refine GG.getR (b := 64) e_X11_addAunt_42 fl_X11_7 (sf_X11_0 i_X11_63) ?_
  refine GG.bipush (v := 26) e_X11_addAunt_45 rfl ?_
  refine GG.dup2 e_X11_addAunt_47 rfl rfl ?_
  refine GG.ialoadV (k := 26) (v := nI A) e_X11_addAunt_48 (sa_X11_0 i_X11_63) (rfl) (by omega) (Nat.le_of_ble_eq_true rfl) (by simp only [mrd_wr]; rw [if_neg (by omega), if_neg (by omega), if_neg (by omega), hA]) ?_
  refine GG.iconst (v := 1) e_X11_addAunt_49 rfl ?_
  refine GG.iadd e_X11_addAunt_50 ?_
  refine GG.top (nI_1 A) ?_
  refine GG.iastoreE (k := 26) e_X11_addAunt_51 (sa_X11_0 i_X11_63) (rfl) (by omega) (Nat.le_of_ble_eq_true rfl) ?_
  refine GG.aload_n e_X11_addAunt_52 (i := 0) rfl 1 rfl ?_
  refine GG.getR (b := 64) e_X11_addAunt_53 fl_X11_7 (sf_X11_0 i_X11_63) ?_
  refine GG.bipush (v := 98) e_X11_addAunt_56 rfl ?_
  refine GG.iconst (v := 0) e_X11_addAunt_58 rfl ?_
  refine GG.iastoreE (k := 98) e_X11_addAunt_59 (sa_X11_0 i_X11_63) (rfl) (by omega) (Nat.le_of_ble_eq_true rfl) ?_
  refine GG.vret e_X11_addAunt_60 rfl rfl ?_
  exact hQ
end S34
