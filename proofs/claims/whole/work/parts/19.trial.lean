/-! TRIAL: what would be otherwise -/
def vSnd (V : Nat → Nat → Int32) (th : Int32) (A : Nat) (w : Int32) (P : Nat) (c : Int32) : Int32 := mSnd (V 1) (fun i => mLng V th A i c) w P
def vRch (V : Nat → Nat → Int32) (th : Int32) (A P : Nat) (c lo : Int32) : Int32 := mReach (V 1) (mEff V th A c lo) P
/-- views that are alike where it matters -/
def VE (V W : Nat → Nat → Int32) (P A : Nat) : Prop := (∀ k, k < P → V 0 k = W 0 k ∧ V 1 k = W 1 k ∧ V 2 k = W 2 k) ∧ ∀ j, j < A → V 3 j = W 3 j ∧ V 4 j = W 4 j
theorem mDmp_c {V W : Nat → Nat → Int32} {th h c : Int32} {A : Nat} (hA : ∀ j, j < A → V 3 j = W 3 j ∧ V 4 j = W 4 j) (x : Int32) : mDmp V th h c A x = mDmp W th h c A x := by
  induction A with
  | zero => rfl
  | succ n ih =>
    obtain ⟨e1, e2⟩ := hA n (by omega)
    rw [mDmp, mDmp, ih (fun j hj => hA j (by omega)), e1, e2]
theorem mLng_c {V W : Nat → Nat → Int32} {th c : Int32} {P A k : Nat} (h : VE V W P A) (hk : k < P) : mLng V th A k c = mLng W th A k c := by
  obtain ⟨a, b, d⟩ := h.1 k hk
  rw [mLng, mLng, a, b, d, mDmp_c h.2]
theorem mEff_c {V W : Nat → Nat → Int32} {th c lo : Int32} {P A k : Nat} (h : VE V W P A) (hk : k < P) : mEff V th A c lo k = mEff W th A c lo k := by
  obtain ⟨a, b, d⟩ := h.1 k hk
  rw [mEff, mEff, a, d, mLng_c h hk]
theorem mRch_c {h h' X X' : Nat → Int32} {P : Nat} (e : ∀ k, k < P → h k = h' k ∧ X k = X' k) : mRch h X P = mRch h' X' P := by
  induction P with
  | zero => rfl
  | succ n ih =>
    obtain ⟨e1, e2⟩ := e n (by omega)
    rw [mRch, mRch, ih (fun k hk => e k (by omega)), e1, e2]
theorem vRch_c {V W : Nat → Nat → Int32} {th c lo : Int32} {P A : Nat} (h : VE V W P A) : vRch V th A P c lo = vRch W th A P c lo := by
  rw [vRch, vRch, mReach, mReach, mRch_c (fun k hk => ⟨(h.1 k hk).2.1, mEff_c h hk⟩)]
theorem vSnd_c {V W : Nat → Nat → Int32} {th w c : Int32} {P A : Nat} (h : VE V W P A) : vSnd V th A w P c = vSnd W th A w P c := by
  unfold vSnd mSnd
  refine mSum_c (fun i hi => mSum_c (fun j hj => ?_))
  unfold mPair
  simp only [(h.1 i hi).2.1, (h.1 j hj).2.1, mLng_c h hi, mLng_c h hj]
/-- cells that hold nothing between two calls -/
def gScr (c j : Nat) : Prop := (c = 46 ∧ 2 ≤ j ∧ j ≤ 4) ∨ c = 48 ∨ (51 ≤ c ∧ c ≤ 57) ∨ (59 ≤ c ∧ c ≤ 62) ∨ (c = 63 ∧ (8 ≤ j ∧ j ≤ 12 ∨ j = 16 ∨ j = 17)) ∨ (c = 64 ∧ 537 ≤ j) ∨ (69 ≤ c ∧ c ≤ 75)
def gSm (μ ν : gM) : Prop := (∀ c j, ¬ gScr c j → mrd ν c j = mrd μ c j) ∧ ∀ c j, mrL ν c j = mrL μ c j
theorem gSm.rf (μ : gM) : gSm μ μ := ⟨fun _ _ _ => rfl, fun _ _ => rfl⟩
theorem gSm.tr {μ ν ξ : gM} (h : gSm μ ν) (h2 : gSm ν ξ) : gSm μ ξ := ⟨fun c j q => (h2.1 c j q).trans (h.1 c j q), fun c j => (h2.2 c j).trans (h.2 c j)⟩
theorem gSm.wr {μ ν : gM} {a k : Nat} {x : Int32} (h : gSm μ ν) (hs : gScr a k) : gSm μ (mwr ν a k x) := ⟨fun c j q => by rw [mrd_wr, if_neg (by rintro ⟨rfl, rfl⟩; exact q hs)]; exact h.1 c j q, h.2⟩
theorem gSm_Lc (μ : gM) : gSm μ (mLc μ 2 51) := ⟨fun c j q => by
  rw [mrd_Lc]
  have : ¬ (51 ≤ c ∧ c ≤ 57) := fun z => q (Or.inr (Or.inr (Or.inl z)))
  grind, fun _ _ => rfl⟩
theorem scr_51 {j : Nat} {c : Nat} (h1 : 51 ≤ c) (h2 : c ≤ 57) : gScr c j := Or.inr (Or.inr (Or.inl ⟨h1, h2⟩))
/-- the trial's lane stands as the lane of now does, but for what is told -/
def TL (μ ν : gM) (V : Nat → Nat → Int32) (P A : Nat) (w th t : Int32) : Prop := gSm μ ν ∧ LC ν 51 P A ∧ mrd ν 51 0 = w ∧ mrd ν 51 8 = th ∧ mrd ν 51 9 = t ∧ VE (cV ν 51) V P A
theorem TL_Lc {μ : gM} {P A : Nat} (hL : LC μ 2 P A) : TL μ (mLc μ 2 51) (cV μ 2) P A (mrd μ 2 0) (mrd μ 2 8) (mrd μ 2 9) := by
  obtain ⟨h1, h2, h3, h4⟩ := hL
  refine ⟨gSm_Lc μ, ⟨by rw [← h1]; rfl, h2, by rw [← h3]; rfl, h4⟩, rfl, rfl, rfl, fun k hk => ?_, fun j hj => ?_⟩
  · have hk7 : k < 7 := by omega
    refine ⟨?_, ?_, ?_⟩ <;> simp [cV, mrd_Lc, hk7]
  · have hj4 : j < 4 := by omega
    refine ⟨?_, ?_⟩ <;> simp [cV, mrd_Lc, hj4]
def uV (V : Nat → Nat → Int32) (k : Nat) (a : Int32) : Nat → Nat → Int32 := fun f j => if f = 2 ∧ j = k then a else V f j
theorem TL.sw {μ ν : gM} {V : Nat → Nat → Int32} {P A k : Nat} {w th t a : Int32} (h : TL μ ν V P A w th t) : TL μ (mwr ν 54 k a) (uV V k a) P A w th t := by
  obtain ⟨h1, ⟨a1, a2, a3, a4⟩, h3, h4, h5, h6, h7⟩ := h
  refine ⟨h1.wr (scr_51 (by omega) (by omega)), ⟨by simp [mrd_wr, a1], a2, by simp [mrd_wr, a3], a4⟩, by simp [mrd_wr, h3], by simp [mrd_wr, h4], by simp [mrd_wr, h5], fun q hq => ?_, fun j hj => ?_⟩
  · obtain ⟨b1, b2, b3⟩ := h6 q hq
    simp only [cV] at b1 b2 b3
    simp only [cV, uV, mrd_wr]
    refine ⟨?_, ?_, ?_⟩
    · simpa using b1
    · simpa using b2
    · by_cases e : q = k
      · simp [e]
      · simpa [e] using b3
  · obtain ⟨b1, b2⟩ := h7 j hj
    simp only [cV] at b1 b2
    simp only [cV, uV, mrd_wr]
    exact ⟨by simpa using b1, by simpa using b2⟩
theorem TL.th {μ ν : gM} {V : Nat → Nat → Int32} {P A : Nat} {w th t x : Int32} (h : TL μ ν V P A w th t) : TL μ (mwr ν 51 8 x) V P A w x t := by
  obtain ⟨h1, ⟨a1, a2, a3, a4⟩, h3, h4, h5, h6, h7⟩ := h
  refine ⟨h1.wr (scr_51 (by omega) (by omega)), ⟨by simp [mrd_wr, a1], a2, by simp [mrd_wr, a3], a4⟩, by simp [mrd_wr, h3], by simp [mrd_wr], by simp [mrd_wr, h5], fun q hq => ?_, fun j hj => ?_⟩
  · simpa [cV, mrd_wr] using h6 q hq
  · simpa [cV, mrd_wr] using h7 j hj
theorem TL.wd {μ ν : gM} {V : Nat → Nat → Int32} {P A : Nat} {w th t x : Int32} (h : TL μ ν V P A w th t) : TL μ (mwr ν 51 0 x) V P A x th t := by
  obtain ⟨h1, ⟨a1, a2, a3, a4⟩, h3, h4, h5, h6, h7⟩ := h
  refine ⟨h1.wr (scr_51 (by omega) (by omega)), ⟨by simp [mrd_wr, a1], a2, by simp [mrd_wr, a3], a4⟩, by simp [mrd_wr], by simp [mrd_wr, h4], by simp [mrd_wr, h5], fun q hq => ?_, fun j hj => ?_⟩
  · simpa [cV, mrd_wr] using h6 q hq
  · simpa [cV, mrd_wr] using h7 j hj
theorem TL.pr {μ ν : gM} {V : Nat → Nat → Int32} {P A k : Nat} {w th t x : Int32} (h : TL μ ν V P A w th t) : TL μ (mwr ν 57 k x) V P A w th t := by
  obtain ⟨h1, ⟨a1, a2, a3, a4⟩, h3, h4, h5, h6, h7⟩ := h
  refine ⟨h1.wr (scr_51 (by omega) (by omega)), ⟨by simp [mrd_wr, a1], a2, by simp [mrd_wr, a3], a4⟩, by simp [mrd_wr, h3], by simp [mrd_wr, h4], by simp [mrd_wr, h5], fun q hq => ?_, fun j hj => ?_⟩
  · have e : ∀ f, f < 3 → ¬ 51 + 1 + f = 57 := by omega
    simpa [cV, mrd_wr] using h6 q hq
  · simpa [cV, mrd_wr] using h7 j hj
theorem uV_c {V W : Nat → Nat → Int32} {P A k : Nat} {a : Int32} (h : VE V W P A) : VE (uV V k a) (uV W k a) P A := by
  refine ⟨fun q hq => ?_, fun j hj => ?_⟩
  · obtain ⟨b1, b2, b3⟩ := h.1 q hq
    refine ⟨by simpa [uV] using b1, by simpa [uV] using b2, ?_⟩
    by_cases e : q = k <;> simp [uV, e, b3]
  · simpa [uV] using h.2 j hj
theorem uV_u {V : Nat → Nat → Int32} {k : Nat} {a c : Int32} : uV (uV V k a) k c = uV V k c := by
  funext f j
  by_cases h : f = 2 ∧ j = k <;> simp [uV, h]
theorem TL.to {μ ν : gM} {V W : Nat → Nat → Int32} {P A : Nat} {w th t : Int32} (h : TL μ ν V P A w th t) (e : V = W) : TL μ ν W P A w th t := e ▸ h
section S19
variable {μ ν : gM} {Q : Option Value → gM → Prop} {P A k : Nat} {V : Nat → Nat → Int32} {w th t c : Int32}
theorem t_soundAt (h : TL μ ν V P A w th t) (hQ : Q (some (.int (vSnd V th A w P c))) ν) : SPC 2 MX4_soundAt [.ref 51, .int c] ν Q := by
  refine s_X4_soundAt i_X4_51 h.2.1 ?_
  have e := vSnd_c (th := th) (w := w) (c := c) h.2.2.2.2.2
  rw [← e, vSnd] at hQ
  rw [h.2.2.1, h.2.2.2.1]
  exact hQ
theorem t_reachAt {lo : Int32} (h : TL μ ν V P A w th t) (hQ : Q (some (.int (vRch V th A P c lo))) ν) : SPC 2 MX4_reachAt [.ref 51, .int c, .int lo] ν Q := by
  refine s_X4_reachAt i_X4_51 h.2.1 ?_
  have e := vRch_c (th := th) (c := c) (lo := lo) h.2.2.2.2.2
  rw [← e, vRch] at hQ
  rw [h.2.2.2.1]
  exact hQ
theorem t_soundsAt (h : TL μ ν V P A w th t) (hQ : Q (some (.int (bI (decide (w ≤ vRch V th A P c (-1)))))) ν) : SPC 3 MX4_soundsAt [.ref 51, .int c] ν Q := by
  refine s_X4_soundsAt i_X4_51 h.2.1 ?_
  have e := vRch_c (th := th) (c := c) (lo := -1) h.2.2.2.2.2
  rw [← e, vRch] at hQ
  rw [h.2.2.1, h.2.2.2.1]
  exact hQ
theorem s_X8_noiseBehind {N : Nat} {snd : Int32 → Int32} (hL : LC μ 2 P A) (hN : N < 2 ^ 31) (hs : ∀ c, snd c = vSnd (cV μ 2) (mrd μ 2 8) A (mrd μ 2 0) P c) (hQ : ∀ ν, gSm μ ν → Q (some (.int (mPass snd (mrd μ 2 9 + nI N) N (mrd μ 2 10, mrd μ 2 9)).1)) ν) : SPC 4 MX8_noiseBehind [.ref 50, .ref 2, .int (nI N)] μ Q := by
  have hT := TL_Lc hL
  refine SPC.of (by decide +kernel) (Nat.le_of_ble_eq_true rfl) (ls := [(0, .ref (50)), (1, .ref (2)), (2, .int (nI N))]) rfl ?_
  refine GG.aload_n e_X8_noiseBehind_0 (i := 0) rfl 0 rfl ?_
  refine GG.getR (b := 51) e_X8_noiseBehind_1 fl_X8_12 (sf_X8_0 i_X8_50) ?_
  refine GG.aload_n e_X8_noiseBehind_4 (i := 1) rfl 1 rfl ?_
  refine GG.callV (d' := 1) (a := 51) (as := [.ref 2]) e_X8_noiseBehind_5 ml_X8_22 mf_X4_copyFrom mv_X4_copyFrom (rc_X4 i_X4_51) rfl (by decide) (Nat.le_of_ble_eq_true rfl) rfl ?_
  refine s_X4_copyFrom i_X4_2 i_X4_51 (by omega) ?_
  refine GG.aload_n e_X8_noiseBehind_8 (i := 0) rfl 0 rfl ?_
  refine GG.getR (b := 51) e_X8_noiseBehind_9 fl_X8_12 (sf_X8_0 i_X8_50) ?_
  refine GG.iload_n e_X8_noiseBehind_12 (i := 2) rfl 2 rfl ?_
  refine GG.aload_n e_X8_noiseBehind_13 (i := 0) rfl 0 rfl ?_
  refine GG.getR (b := 51) e_X8_noiseBehind_14 fl_X8_12 (sf_X8_0 i_X8_50) ?_
  refine GG.getIv (v := mrd μ 2 9) e_X8_noiseBehind_17 fl_X8_26 (sf_X4_9 i_X4_51) (rfl) ?_
  refine GG.iload_n e_X8_noiseBehind_20 (i := 2) rfl 2 rfl ?_
  refine GG.iadd e_X8_noiseBehind_21 ?_
  refine GG.callV (d' := 3) (a := 51) (as := [.int _, .int _]) e_X8_noiseBehind_22 ml_X8_30 mf_X4_passUpTo mv_X4_passUpTo (rc_X4 i_X4_51) rfl (by decide) (Nat.le_of_ble_eq_true rfl) rfl ?_
  refine s_X4_passUpTo (snd := snd) i_X4_51 hT.2.1 hN (fun c => ?_) ?_
  · rw [hs c, ← vSnd_c hT.2.2.2.2.2, vSnd, hT.2.2.1, hT.2.2.2.1]
  refine GG.aload_n e_X8_noiseBehind_25 (i := 0) rfl 0 rfl ?_
  refine GG.getR (b := 51) e_X8_noiseBehind_26 fl_X8_12 (sf_X8_0 i_X8_50) ?_
  refine GG.getIv (v := (mPass snd (mrd μ 2 9 + nI N) N (mrd μ 2 10, mrd μ 2 9)).1) e_X8_noiseBehind_29 fl_X8_34 (sf_X4_10 i_X4_51) (by simp only [mrd_wr]; rfl) ?_
  refine GG.iret e_X8_noiseBehind_32 rfl rfl ?_
  exact hQ _ (((gSm_Lc μ).wr (scr_51 (by omega) (by omega))).wr (scr_51 (by omega) (by omega)))
theorem s_X8_leastPush (hL : LC μ 2 P A) (hk : k < P) {f : Nat → Bool} (hf : ∀ a, a < 10 → f a = decide (mrd μ 2 0 ≤ vRch (uV (cV μ 2) k (nI a)) (mrd μ 2 8) A P c (-1)))
    (hn : (∀ a, a < 10 → f a = false) → ∀ ν, gSm μ ν → Q (some (.int (-1))) ν) (hy : ∀ a, a < 10 → f a = true → (∀ e, e < a → f e = false) → ∀ ν, gSm μ ν → Q (some (.int (nI a))) ν) : SPC 4 MX8_leastPush [.ref 50, .ref 2, .int (nI k), .int c] μ Q := by
  have hP := hL.2.1
  have lp : ∀ n j ν V, 10 - j < n → j ≤ 10 → TL μ ν V P A (mrd μ 2 0) (mrd μ 2 8) (mrd μ 2 9) → (∀ a, uV V k a = uV (cV μ 2) k a) → (∀ e, e < j → f e = false) → GG 4 MX8_leastPush 11 [(4, .int (nI j)), (0, .ref 50), (2, .int (nI k)), (3, .int c)] [] ν Q := by
    intro n
    induction n with
    | zero => intro j ν V h; omega
    | succ n ih =>
      intro j ν V hn' hj hT hV hl
      refine GG.iload e_X8_leastPush_11 0 rfl ?_
      refine GG.bipush (v := 9) e_X8_leastPush_13 rfl ?_
      refine GG.icmp_gt (tgt := 48) e_X8_leastPush_15 rfl (fun h15 => ?_) (fun h15 => ?_)
      · skip
        have e := nlt (a := 9) h15 (by omega) (by omega)
        have e2 : j = 10 := by omega
        subst e2
        refine GG.iconst (v := -1) e_X8_leastPush_48 rfl ?_
        refine GG.iret e_X8_leastPush_49 rfl rfl ?_
        exact hn hl _ hT.1
      · skip
        have e := nnlt (a := 9) h15 (by omega) (by omega)
        refine GG.aload_n e_X8_leastPush_18 (i := 0) rfl 1 rfl ?_
        refine GG.getR (b := 51) e_X8_leastPush_19 fl_X8_12 (sf_X8_0 i_X8_50) ?_
        refine GG.iload_n e_X8_leastPush_22 (i := 2) rfl 2 rfl ?_
        refine GG.iload e_X8_leastPush_23 0 rfl ?_
        refine GG.callV (d' := 1) (a := 51) (as := [.int _, .int _]) e_X8_leastPush_25 ml_X8_52 mf_X4_setSwing mv_X4_setSwing (rc_X4 i_X4_51) rfl (by decide) (Nat.le_of_ble_eq_true rfl) rfl ?_
        refine s_X4_setSwing i_X4_51 hT.2.1 (fun h => ?_) (fun q hq hkq => ?_)
        · rw [mIn_n (by omega)] at h; simp at h; omega
        have e3 : k = q := (nI_eq (by omega) (by omega)).mp hkq
        subst e3
        refine GG.aload_n e_X8_leastPush_28 (i := 0) rfl 1 rfl ?_
        refine GG.getR (b := 51) e_X8_leastPush_29 fl_X8_12 (sf_X8_0 i_X8_50) ?_
        refine GG.iload_n e_X8_leastPush_32 (i := 3) rfl 3 rfl ?_
        refine GG.callV (d' := 3) (a := 51) (as := [.int _]) e_X8_leastPush_33 ml_X8_55 mf_X4_soundsAt mv_X4_soundsAt (rc_X4 i_X4_51) rfl (by decide) (Nat.le_of_ble_eq_true rfl) rfl ?_
        refine t_soundsAt (hT.sw (k := k) (a := nI j)) ?_
        rw [hV, ← hf j (by omega)]
        refine GG.if_eq (tgt := 42) e_X8_leastPush_36 rfl (fun h36 => ?_) (fun h36 => ?_)
        · skip
          rw [bI_0] at h36
          refine GG.iinc e_X8_leastPush_42 0 rfl (v := _) (by first | exact nI_s _ | exact nI_d _ | rfl) (Nat.le_of_ble_eq_true rfl) (ls' := [(4, .int _), (0, .ref _), (2, .int _), (3, .int _)]) rfl ?_
          refine GG.goto (tgt := 11) e_X8_leastPush_45 rfl ?_
          refine ih (j + 1) _ _ (by omega) (by omega) (hT.sw (k := k) (a := nI j)) (fun a => by rw [uV_u, hV]) (fun e' h' => ?_)
          by_cases hh : e' = j
          · rw [hh, h36]
          · rw [hl e' (by omega)]
        · skip
          rw [bI_0, Bool.not_eq_false] at h36
          refine GG.iload e_X8_leastPush_39 0 rfl ?_
          refine GG.iret e_X8_leastPush_41 rfl rfl ?_
          exact hy j (by omega) h36 hl _ (hT.sw (k := k) (a := nI j)).1
  refine SPC.of (by decide +kernel) (Nat.le_of_ble_eq_true rfl) (ls := [(0, .ref (50)), (1, .ref (2)), (2, .int (nI k)), (3, .int (c))]) rfl ?_
  refine GG.aload_n e_X8_leastPush_0 (i := 0) rfl 0 rfl ?_
  refine GG.getR (b := 51) e_X8_leastPush_1 fl_X8_12 (sf_X8_0 i_X8_50) ?_
  refine GG.aload_n e_X8_leastPush_4 (i := 1) rfl 1 rfl ?_
  refine GG.callV (d' := 1) (a := 51) (as := [.ref 2]) e_X8_leastPush_5 ml_X8_22 mf_X4_copyFrom mv_X4_copyFrom (rc_X4 i_X4_51) rfl (by decide) (Nat.le_of_ble_eq_true rfl) rfl ?_
  refine s_X4_copyFrom i_X4_2 i_X4_51 (by omega) ?_
  refine GG.iconst (v := 0) e_X8_leastPush_8 rfl ?_
  refine GG.istore e_X8_leastPush_9 (Nat.le_of_ble_eq_true rfl) (ls' := [(4, .int _), (0, .ref _), (1, .ref _), (2, .int _), (3, .int _)]) rfl ?_
  refine GG.perm [0, 1, 3, 4] rfl ?_
  exact lp 11 0 _ _ (by omega) (by omega) (TL_Lc hL) (fun a => rfl) (fun e h => by omega)
end S19
