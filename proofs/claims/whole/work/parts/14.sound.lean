/-! LANE: leaning, what sounds -/
def mDmp (V : Nat → Nat → Int32) (th h c : Int32) : Nat → Int32 → Int32
  | 0, x => x
  | n + 1, x => if mHas th (nI n) = true ∧ V 4 n = h then mDamp (V 3 n) (mDmp V th h c n x) c else mDmp V th h c n x
def mLng (V : Nat → Nat → Int32) (th : Int32) (A k : Nat) (c : Int32) : Int32 := mDmp V th (V 1 k) c A (mLean (V 0 k) (V 2 k) c)
def cV (μ : gM) (b : Nat) : Nat → Nat → Int32 := fun f k => mrd μ (b + 1 + f) k
def mPair (h X : Nat → Int32) (w : Int32) (i j : Nat) : Int32 := if h i = 0 ∧ h j = 1 ∧ 0 < X i ∧ 0 < X j ∧ w ≤ X i + X j then X i + X j - w + 1 else 0
def mSum (f : Nat → Int32) : Nat → Int32
  | 0 => 0
  | n + 1 => mSum f n + f n
def mSnd (h X : Nat → Int32) (w : Int32) (P : Nat) : Int32 := mSum (fun i => mSum (fun j => mPair h X w i j) P) P
theorem mSum_0 {f : Nat → Int32} {n : Nat} (h : ∀ j, j < n → f j = 0) : mSum f n = 0 := by
  induction n with
  | zero => rfl
  | succ n ih => rw [mSum, ih (fun j hj => h j (by omega)), h n (by omega)]; rfl
theorem mSum_c {f g : Nat → Int32} {n : Nat} (h : ∀ j, j < n → f j = g j) : mSum f n = mSum g n := by
  induction n with
  | zero => rfl
  | succ n ih => rw [mSum, mSum, ih (fun j hj => h j (by omega)), h n (by omega)]
def mMax (x y : Int32) : Int32 := if x < y then y else x
def mMin (x y : Int32) : Int32 := if y < x then y else x
theorem Int32_pos (x : Int32) : 1 ≤ x ↔ 0 < x := by
  have e : (1 : Int32).toInt = 1 := by decide
  have e0 : (0 : Int32).toInt = 0 := by decide
  rw [Int32.le_iff_toInt_le, Int32.lt_iff_toInt_lt, e, e0]
  omega
section S14
variable {μ : gM} {Q : Option Value → gM → Prop} {b P A k : Nat} {i c a : Int32}
theorem s_X4_houseOfk (hI_X4_b : gI_X4 b) (hL : LC μ b P A) (hk : k < P) (hQ : Q (some (.int (mrd μ (b + 2) k))) μ) : SPC 1 MX4_houseOf [.ref b, .int (nI k)] μ Q := by
  refine s_X4_houseOf hI_X4_b hL (fun h => ?_) (fun j hj e => ?_)
  · rw [mIn_n (by have := hL.2.1; omega)] at h; simp at h; omega
  · have : k = j := (nI_eq (by have := hL.2.1; omega) (by have := hL.2.1; omega)).mp e
    subst this
    exact hQ
theorem s_X4_hasOnek (hI_X4_b : gI_X4 b) (hL : LC μ b P A) (hk : k < P) (hQ : Q (some (.int 1)) μ) : SPC 0 MX4_hasOne [.ref b, .int (nI k)] μ Q := by
  refine s_X4_hasOne hI_X4_b hL ?_
  rw [mIn_n (by have := hL.2.1; omega), decide_eq_true hk]
  exact hQ
theorem s_X4_hasAuntk (hI_X4_b : gI_X4 b) (hL : LC μ b P A) (hk : k < A) (hQ : Q (some (.int 1)) μ) : SPC 0 MX4_hasAunt [.ref b, .int (nI k)] μ Q := by
  refine s_X4_hasAunt hI_X4_b hL ?_
  rw [mIn_n (by have := hL.2.2.2; omega), decide_eq_true hk]
  exact hQ
theorem s_X4_swingOf (hI_X4_b : gI_X4 b) (hL : LC μ b P A) (hk : k < P) (hQ : Q (some (.int (mrd μ (b + 3) k))) μ) : SPC 1 MX4_swingOf [.ref b, .int (nI k)] μ Q := by
  have hP := hL.2.1
  refine SPC.of (by decide +kernel) (Nat.le_of_ble_eq_true rfl) (ls := [(0, .ref (b)), (1, .int (nI k))]) rfl ?_
  refine GG.aload_n e_X4_swingOf_0 (i := 0) rfl 0 rfl ?_
  refine GG.iload_n e_X4_swingOf_1 (i := 1) rfl 1 rfl ?_
  refine GG.callV (d' := 0) (a := b) (as := [.int _]) e_X4_swingOf_2 ml_X4_62 mf_X4_hasOne mv_X4_hasOne (rc_X4 hI_X4_b) rfl (by decide) (Nat.le_of_ble_eq_true rfl) rfl ?_
  refine s_X4_hasOnek hI_X4_b hL hk ?_
  refine GG.if_eq (tgt := 17) e_X4_swingOf_5 rfl (fun h5 => absurd h5 (by decide)) (fun h5 => ?_)
  refine GG.aload_n e_X4_swingOf_8 (i := 0) rfl 0 rfl ?_
  refine GG.getR (b := (b + 3)) e_X4_swingOf_9 fl_X4_22 (sf_X4_4 hI_X4_b) ?_
  refine GG.iload_n e_X4_swingOf_12 (i := 1) rfl 1 rfl ?_
  refine GG.ialoadE (k := _) e_X4_swingOf_13 (sa_X4_4 hI_X4_b) (rfl) (by omega) (Nat.le_of_ble_eq_true rfl) ?_
  refine GG.goto (tgt := 18) e_X4_swingOf_14 rfl ?_
  refine GG.iret e_X4_swingOf_18 rfl rfl ?_
  exact hQ
theorem s_X4_setSwing (hI_X4_b : gI_X4 b) (hL : LC μ b P A) (hn : mIn i P = false → Q none μ) (hy : ∀ k, k < P → i = nI k → Q none (mwr μ (b + 3) k a)) : SPC 1 MX4_setSwing [.ref b, .int i, .int a] μ Q := by
  have hP := hL.2.1
  refine SPC.of (by decide +kernel) (Nat.le_of_ble_eq_true rfl) (ls := [(0, .ref (b)), (1, .int (i)), (2, .int (a))]) rfl ?_
  refine GG.aload_n e_X4_setSwing_0 (i := 0) rfl 0 rfl ?_
  refine GG.iload_n e_X4_setSwing_1 (i := 1) rfl 1 rfl ?_
  refine GG.callV (d' := 0) (a := b) (as := [.int _]) e_X4_setSwing_2 ml_X4_62 mf_X4_hasOne mv_X4_hasOne (rc_X4 hI_X4_b) rfl (by decide) (Nat.le_of_ble_eq_true rfl) rfl ?_
  refine s_X4_hasOne hI_X4_b hL ?_
  refine GG.if_eq (tgt := 15) e_X4_setSwing_5 rfl (fun h5 => ?_) (fun h5 => ?_)
  · skip
    refine GG.vret e_X4_setSwing_15 rfl rfl ?_
    exact hn ((bI_0 _).mp h5)
  · skip
    have hm : mIn i P = true := by cases hh : mIn i P <;> simp_all [bI]
    obtain ⟨k, hk, hik⟩ := mIn_of hm (by omega)
    refine GG.aload_n e_X4_setSwing_8 (i := 0) rfl 0 rfl ?_
    refine GG.getR (b := (b + 3)) e_X4_setSwing_9 fl_X4_22 (sf_X4_4 hI_X4_b) ?_
    refine GG.iload_n e_X4_setSwing_12 (i := 1) rfl 1 rfl ?_
    refine GG.iload_n e_X4_setSwing_13 (i := 2) rfl 2 rfl ?_
    refine GG.iastoreE (k := k) e_X4_setSwing_14 (sa_X4_4 hI_X4_b) (hik) (by omega) (Nat.le_of_ble_eq_true rfl) ?_
    refine GG.vret e_X4_setSwing_15 rfl rfl ?_
    exact hy k hk hik
theorem s_X4_factOfOne {z : Int32} (hI_X4_b : gI_X4 b) (hL : LC μ b P A) (hk : k < P) (hQ : Q (some (.int (if z = 0 then mrd μ (b + 1) k else if z = 1 then mrd μ (b + 2) k else mrd μ (b + 3) k))) μ) : SPC 1 MX4_factOfOne [.ref b, .int (nI k), .int z] μ Q := by
  have hP := hL.2.1
  refine SPC.of (by decide +kernel) (Nat.le_of_ble_eq_true rfl) (ls := [(0, .ref (b)), (1, .int (nI k)), (2, .int (z))]) rfl ?_
  refine GG.aload_n e_X4_factOfOne_0 (i := 0) rfl 0 rfl ?_
  refine GG.iload_n e_X4_factOfOne_1 (i := 1) rfl 1 rfl ?_
  refine GG.callV (d' := 0) (a := b) (as := [.int _]) e_X4_factOfOne_2 ml_X4_62 mf_X4_hasOne mv_X4_hasOne (rc_X4 hI_X4_b) rfl (by decide) (Nat.le_of_ble_eq_true rfl) rfl ?_
  refine s_X4_hasOnek hI_X4_b hL hk ?_
  refine GG.if_ne (tgt := 10) e_X4_factOfOne_5 rfl (fun h5 => ?_) (fun h5 => absurd h5 (by decide))
  refine GG.iload_n e_X4_factOfOne_10 (i := 2) rfl 2 rfl ?_
  refine GG.if_ne (tgt := 21) e_X4_factOfOne_11 rfl (fun h11 => ?_) (fun h11 => ?_)
  · skip
    refine GG.iload_n e_X4_factOfOne_21 (i := 2) rfl 2 rfl ?_
    refine GG.iconst (v := 1) e_X4_factOfOne_22 rfl ?_
    refine GG.icmp_ne (tgt := 35) e_X4_factOfOne_23 rfl (fun h23 => ?_) (fun h23 => ?_)
    · skip
      refine GG.aload_n e_X4_factOfOne_35 (i := 0) rfl 0 rfl ?_
      refine GG.getR (b := (b + 3)) e_X4_factOfOne_36 fl_X4_22 (sf_X4_4 hI_X4_b) ?_
      refine GG.iload_n e_X4_factOfOne_39 (i := 1) rfl 1 rfl ?_
      refine GG.ialoadE (k := _) e_X4_factOfOne_40 (sa_X4_4 hI_X4_b) (rfl) (by omega) (Nat.le_of_ble_eq_true rfl) ?_
      refine GG.iret e_X4_factOfOne_41 rfl rfl ?_
      exact qI hQ (by simp [*])
    · skip
      refine GG.aload_n e_X4_factOfOne_26 (i := 0) rfl 0 rfl ?_
      refine GG.getR (b := (b + 2)) e_X4_factOfOne_27 fl_X4_19 (sf_X4_3 hI_X4_b) ?_
      refine GG.iload_n e_X4_factOfOne_30 (i := 1) rfl 1 rfl ?_
      refine GG.ialoadE (k := _) e_X4_factOfOne_31 (sa_X4_3 hI_X4_b) (rfl) (by omega) (Nat.le_of_ble_eq_true rfl) ?_
      refine GG.goto (tgt := 41) e_X4_factOfOne_32 rfl ?_
      refine GG.iret e_X4_factOfOne_41 rfl rfl ?_
      exact qI hQ (by simp [*])
  · skip
    refine GG.aload_n e_X4_factOfOne_14 (i := 0) rfl 0 rfl ?_
    refine GG.getR (b := (b + 1)) e_X4_factOfOne_15 fl_X4_15 (sf_X4_2 hI_X4_b) ?_
    refine GG.iload_n e_X4_factOfOne_18 (i := 1) rfl 1 rfl ?_
    refine GG.ialoadE (k := _) e_X4_factOfOne_19 (sa_X4_2 hI_X4_b) (rfl) (by omega) (Nat.le_of_ble_eq_true rfl) ?_
    refine GG.iret e_X4_factOfOne_20 rfl rfl ?_
    exact qI hQ (by simp [*])
theorem s_X4_factOfAunt {z : Int32} (hI_X4_b : gI_X4 b) (hL : LC μ b P A) (hk : k < A) (hQ : Q (some (.int (if z = 0 then mrd μ (b + 4) k else if z = 1 then mrd μ (b + 5) k else bI (mHas (mrd μ b 8) (nI k))))) μ) : SPC 2 MX4_factOfAunt [.ref b, .int (nI k), .int z] μ Q := by
  have hA := hL.2.2.2
  refine SPC.of (by decide +kernel) (Nat.le_of_ble_eq_true rfl) (ls := [(0, .ref (b)), (1, .int (nI k)), (2, .int (z))]) rfl ?_
  refine GG.aload_n e_X4_factOfAunt_0 (i := 0) rfl 0 rfl ?_
  refine GG.iload_n e_X4_factOfAunt_1 (i := 1) rfl 1 rfl ?_
  refine GG.callV (d' := 0) (a := b) (as := [.int _]) e_X4_factOfAunt_2 ml_X4_54 mf_X4_hasAunt mv_X4_hasAunt (rc_X4 hI_X4_b) rfl (by decide) (Nat.le_of_ble_eq_true rfl) rfl ?_
  refine s_X4_hasAuntk hI_X4_b hL hk ?_
  refine GG.if_ne (tgt := 10) e_X4_factOfAunt_5 rfl (fun h5 => ?_) (fun h5 => absurd h5 (by decide))
  refine GG.iload_n e_X4_factOfAunt_10 (i := 2) rfl 2 rfl ?_
  refine GG.if_ne (tgt := 21) e_X4_factOfAunt_11 rfl (fun h11 => ?_) (fun h11 => ?_)
  · skip
    refine GG.iload_n e_X4_factOfAunt_21 (i := 2) rfl 2 rfl ?_
    refine GG.iconst (v := 1) e_X4_factOfAunt_22 rfl ?_
    refine GG.icmp_ne (tgt := 33) e_X4_factOfAunt_23 rfl (fun h23 => ?_) (fun h23 => ?_)
    · skip
      refine GG.aload_n e_X4_factOfAunt_33 (i := 0) rfl 0 rfl ?_
      refine GG.iload_n e_X4_factOfAunt_34 (i := 1) rfl 1 rfl ?_
      refine GG.callV (d' := 1) (a := b) (as := [.int _]) e_X4_factOfAunt_35 ml_X4_65 mf_X4_isThere mv_X4_isThere (rc_X4 hI_X4_b) rfl (by decide) (Nat.le_of_ble_eq_true rfl) rfl ?_
      refine s_X4_isThere hI_X4_b hL ?_
      rw [mIn_n (by omega), decide_eq_true hk, Bool.true_and]
      refine GG.if_eq (tgt := 45) e_X4_factOfAunt_38 rfl (fun h38 => ?_) (fun h38 => ?_)
      · skip
        refine GG.iconst (v := 0) e_X4_factOfAunt_45 rfl ?_
        refine GG.iret e_X4_factOfAunt_46 rfl rfl ?_
        exact qI hQ (by first | (simp [*]; done) | (cases hm : mHas (mrd μ b 8) (nI k) <;> simp_all [bI]))
      · skip
        refine GG.iconst (v := 1) e_X4_factOfAunt_41 rfl ?_
        refine GG.goto (tgt := 46) e_X4_factOfAunt_42 rfl ?_
        refine GG.iret e_X4_factOfAunt_46 rfl rfl ?_
        exact qI hQ (by first | (simp [*]; done) | (cases hm : mHas (mrd μ b 8) (nI k) <;> simp_all [bI]))
    · skip
      refine GG.aload_n e_X4_factOfAunt_26 (i := 0) rfl 0 rfl ?_
      refine GG.getR (b := (b + 5)) e_X4_factOfAunt_27 fl_X4_28 (sf_X4_7 hI_X4_b) ?_
      refine GG.iload_n e_X4_factOfAunt_30 (i := 1) rfl 1 rfl ?_
      refine GG.ialoadE (k := _) e_X4_factOfAunt_31 (sa_X4_7 hI_X4_b) (rfl) (by omega) (Nat.le_of_ble_eq_true rfl) ?_
      refine GG.iret e_X4_factOfAunt_32 rfl rfl ?_
      exact qI hQ (by first | (simp [*]; done) | (cases hm : mHas (mrd μ b 8) (nI k) <;> simp_all [bI]))
  · skip
    refine GG.aload_n e_X4_factOfAunt_14 (i := 0) rfl 0 rfl ?_
    refine GG.getR (b := (b + 4)) e_X4_factOfAunt_15 fl_X4_25 (sf_X4_6 hI_X4_b) ?_
    refine GG.iload_n e_X4_factOfAunt_18 (i := 1) rfl 1 rfl ?_
    refine GG.ialoadE (k := _) e_X4_factOfAunt_19 (sa_X4_6 hI_X4_b) (rfl) (by omega) (Nat.le_of_ble_eq_true rfl) ?_
    refine GG.iret e_X4_factOfAunt_20 rfl rfl ?_
    exact qI hQ (by first | (simp [*]; done) | (cases hm : mHas (mrd μ b 8) (nI k) <;> simp_all [bI]))
theorem s_X4_leanOf (hI_X4_b : gI_X4 b) (hL : LC μ b P A) (hk : k < P) (hQ : Q (some (.int (mLean (mrd μ (b + 1) k) (mrd μ (b + 3) k) c))) μ) : SPC 1 MX4_leanOf [.ref b, .int (nI k), .int c] μ Q := by
  have hP := hL.2.1
  refine SPC.of (by decide +kernel) (Nat.le_of_ble_eq_true rfl) (ls := [(0, .ref (b)), (1, .int (nI k)), (2, .int (c))]) rfl ?_
  refine GG.aload_n e_X4_leanOf_0 (i := 0) rfl 0 rfl ?_
  refine GG.iload_n e_X4_leanOf_1 (i := 1) rfl 1 rfl ?_
  refine GG.callV (d' := 0) (a := b) (as := [.int _]) e_X4_leanOf_2 ml_X4_62 mf_X4_hasOne mv_X4_hasOne (rc_X4 hI_X4_b) rfl (by decide) (Nat.le_of_ble_eq_true rfl) rfl ?_
  refine s_X4_hasOnek hI_X4_b hL hk ?_
  refine GG.if_eq (tgt := 27) e_X4_leanOf_5 rfl (fun h5 => absurd h5 (by decide)) (fun h5 => ?_)
  refine GG.aload_n e_X4_leanOf_8 (i := 0) rfl 0 rfl ?_
  refine GG.getR (b := (b + 1)) e_X4_leanOf_9 fl_X4_15 (sf_X4_2 hI_X4_b) ?_
  refine GG.iload_n e_X4_leanOf_12 (i := 1) rfl 1 rfl ?_
  refine GG.ialoadE (k := _) e_X4_leanOf_13 (sa_X4_2 hI_X4_b) (rfl) (by omega) (Nat.le_of_ble_eq_true rfl) ?_
  refine GG.aload_n e_X4_leanOf_14 (i := 0) rfl 0 rfl ?_
  refine GG.getR (b := (b + 3)) e_X4_leanOf_15 fl_X4_22 (sf_X4_4 hI_X4_b) ?_
  refine GG.iload_n e_X4_leanOf_18 (i := 1) rfl 1 rfl ?_
  refine GG.ialoadE (k := _) e_X4_leanOf_19 (sa_X4_4 hI_X4_b) (rfl) (by omega) (Nat.le_of_ble_eq_true rfl) ?_
  refine GG.iload_n e_X4_leanOf_20 (i := 2) rfl 2 rfl ?_
  refine GG.callS (d' := 0) (as := [.int _, .int _, .int _]) e_X4_leanOf_21 ml_X4_68 mf_X3_leanAs ms_X3_leanAs rfl (by decide) (Nat.le_of_ble_eq_true rfl) rfl ?_
  refine s_X3_leanAs ?_
  refine GG.goto (tgt := 28) e_X4_leanOf_24 rfl ?_
  refine GG.iret e_X4_leanOf_28 rfl rfl ?_
  exact hQ
theorem s_X4_leaningOf (hI_X4_b : gI_X4 b) (hL : LC μ b P A) (hk : k < P) (hQ : Q (some (.int (mLng (cV μ b) (mrd μ b 8) A k c))) μ) : SPC 1 MX4_leaningOf [.ref b, .int (nI k), .int c] μ Q := by
  obtain ⟨h1p, h2p, h3p, h4p⟩ := id hL
  have lp : ∀ n j x, A - j < n → j ≤ A → x = mDmp (cV μ b) (mrd μ b 8) (mrd μ (b + 2) k) c j (mLean (mrd μ (b + 1) k) (mrd μ (b + 3) k) c) → GG 1 MX4_leaningOf 30 [(4, .int (nI j)), (3, .int x), (0, .ref b), (1, .int (nI k)), (2, .int c)] [] μ Q := by
    intro n
    induction n with
    | zero => intro j x h; omega
    | succ n ih =>
      intro j x hn hj hx
      refine GG.iload e_X4_leaningOf_30 0 rfl ?_
      refine GG.aload_n e_X4_leaningOf_32 (i := 0) rfl 2 rfl ?_
      refine GG.getIv (v := nI A) e_X4_leaningOf_33 fl_X4_34 (sf_X4_5 hI_X4_b) (h3p) ?_
      refine GG.icmp_ge (tgt := 92) e_X4_leaningOf_36 rfl (fun h36 => ?_) (fun h36 => ?_)
      · skip
        have e := nle h36 (by omega) (by omega)
        have : j = A := by omega
        subst this
        subst hx
        refine GG.iload_n e_X4_leaningOf_92 (i := 3) rfl 1 rfl ?_
        refine GG.iret e_X4_leaningOf_93 rfl rfl ?_
        exact hQ
      · skip
        have e := nnle h36 (by omega) (by omega)
        refine GG.iload e_X4_leaningOf_39 0 rfl ?_
        refine GG.iconst (v := 4) e_X4_leaningOf_41 rfl ?_
        refine GG.icmp_ge (tgt := 92) e_X4_leaningOf_42 rfl (fun h42 => absurd h42 (by exact fun z => absurd (nle (a := 4) z (by omega) (by omega)) (by omega))) (fun h42 => ?_)
        refine GG.aload_n e_X4_leaningOf_45 (i := 0) rfl 2 rfl ?_
        refine GG.getI e_X4_leaningOf_46 fl_X4_37 (sf_X4_8 hI_X4_b) ?_
        refine GG.iload e_X4_leaningOf_49 0 rfl ?_
        refine GG.callN (d' := 0) (as := [.int _, .int _]) e_X4_leaningOf_51 ml_X4_58 mf_X10_hasBit ms_X10_hasBit rfl (by decide) (Nat.le_of_ble_eq_true rfl) rfl ?_
        refine s_X10_hasBit ?_
        refine GG.if_eq (tgt := 86) e_X4_leaningOf_54 rfl (fun h54 => ?_) (fun h54 => ?_)
        · skip
          refine GG.iinc e_X4_leaningOf_86 0 rfl (v := _) (by first | exact nI_s _ | exact nI_d _ | rfl) (Nat.le_of_ble_eq_true rfl) (ls' := [(4, .int _), (3, .int _), (0, .ref _), (1, .int _), (2, .int _)]) rfl ?_
          refine GG.goto (tgt := 30) e_X4_leaningOf_89 rfl ?_
          exact ih (j + 1) _ (by omega) (by omega) (by subst hx; rw [mDmp]; simp_all [cV, bI_0])
        · skip
          refine GG.aload_n e_X4_leaningOf_57 (i := 0) rfl 2 rfl ?_
          refine GG.getR (b := (b + 5)) e_X4_leaningOf_58 fl_X4_28 (sf_X4_7 hI_X4_b) ?_
          refine GG.iload e_X4_leaningOf_61 0 rfl ?_
          refine GG.ialoadE (k := _) e_X4_leaningOf_63 (sa_X4_7 hI_X4_b) (rfl) (by omega) (Nat.le_of_ble_eq_true rfl) ?_
          refine GG.aload_n e_X4_leaningOf_64 (i := 0) rfl 2 rfl ?_
          refine GG.getR (b := (b + 2)) e_X4_leaningOf_65 fl_X4_19 (sf_X4_3 hI_X4_b) ?_
          refine GG.iload_n e_X4_leaningOf_68 (i := 1) rfl 3 rfl ?_
          refine GG.ialoadE (k := _) e_X4_leaningOf_69 (sa_X4_3 hI_X4_b) (rfl) (by omega) (Nat.le_of_ble_eq_true rfl) ?_
          refine GG.icmp_ne (tgt := 86) e_X4_leaningOf_70 rfl (fun h70 => ?_) (fun h70 => ?_)
          · skip
            refine GG.iinc e_X4_leaningOf_86 0 rfl (v := _) (by first | exact nI_s _ | exact nI_d _ | rfl) (Nat.le_of_ble_eq_true rfl) (ls' := [(4, .int _), (3, .int _), (0, .ref _), (1, .int _), (2, .int _)]) rfl ?_
            refine GG.goto (tgt := 30) e_X4_leaningOf_89 rfl ?_
            exact ih (j + 1) _ (by omega) (by omega) (by subst hx; rw [mDmp]; simp_all [cV, bI_0])
          · skip
            refine GG.aload_n e_X4_leaningOf_73 (i := 0) rfl 2 rfl ?_
            refine GG.getR (b := (b + 4)) e_X4_leaningOf_74 fl_X4_25 (sf_X4_6 hI_X4_b) ?_
            refine GG.iload e_X4_leaningOf_77 0 rfl ?_
            refine GG.ialoadE (k := _) e_X4_leaningOf_79 (sa_X4_6 hI_X4_b) (rfl) (by omega) (Nat.le_of_ble_eq_true rfl) ?_
            refine GG.iload_n e_X4_leaningOf_80 (i := 3) rfl 1 rfl ?_
            refine GG.iload_n e_X4_leaningOf_81 (i := 2) rfl 4 rfl ?_
            refine GG.callS (d' := 0) (as := [.int _, .int _, .int _]) e_X4_leaningOf_82 ml_X4_74 mf_X3_dampAs ms_X3_dampAs rfl (by decide) (Nat.le_of_ble_eq_true rfl) rfl ?_
            refine s_X3_dampAs ?_
            refine GG.istore_n e_X4_leaningOf_85 (i := 3) rfl (Nat.le_of_ble_eq_true rfl) (ls' := [(3, .int _), (4, .int _), (0, .ref _), (1, .int _), (2, .int _)]) rfl ?_
            refine GG.iinc e_X4_leaningOf_86 1 rfl (v := _) (by first | exact nI_s _ | exact nI_d _ | rfl) (Nat.le_of_ble_eq_true rfl) (ls' := [(4, .int _), (3, .int _), (0, .ref _), (1, .int _), (2, .int _)]) rfl ?_
            refine GG.goto (tgt := 30) e_X4_leaningOf_89 rfl ?_
            exact ih (j + 1) _ (by omega) (by omega) (by subst hx; rw [mDmp]; simp_all [cV, bI_0])
  refine SPC.of (by decide +kernel) (Nat.le_of_ble_eq_true rfl) (ls := [(0, .ref (b)), (1, .int (nI k)), (2, .int (c))]) rfl ?_
  refine GG.aload_n e_X4_leaningOf_0 (i := 0) rfl 0 rfl ?_
  refine GG.iload_n e_X4_leaningOf_1 (i := 1) rfl 1 rfl ?_
  refine GG.callV (d' := 0) (a := b) (as := [.int _]) e_X4_leaningOf_2 ml_X4_62 mf_X4_hasOne mv_X4_hasOne (rc_X4 hI_X4_b) rfl (by decide) (Nat.le_of_ble_eq_true rfl) rfl ?_
  refine s_X4_hasOnek hI_X4_b hL hk ?_
  refine GG.if_ne (tgt := 10) e_X4_leaningOf_5 rfl (fun h5 => ?_) (fun h5 => absurd h5 (by decide))
  refine GG.aload_n e_X4_leaningOf_10 (i := 0) rfl 0 rfl ?_
  refine GG.getR (b := (b + 1)) e_X4_leaningOf_11 fl_X4_15 (sf_X4_2 hI_X4_b) ?_
  refine GG.iload_n e_X4_leaningOf_14 (i := 1) rfl 1 rfl ?_
  refine GG.ialoadE (k := _) e_X4_leaningOf_15 (sa_X4_2 hI_X4_b) (rfl) (by omega) (Nat.le_of_ble_eq_true rfl) ?_
  refine GG.aload_n e_X4_leaningOf_16 (i := 0) rfl 0 rfl ?_
  refine GG.getR (b := (b + 3)) e_X4_leaningOf_17 fl_X4_22 (sf_X4_4 hI_X4_b) ?_
  refine GG.iload_n e_X4_leaningOf_20 (i := 1) rfl 1 rfl ?_
  refine GG.ialoadE (k := _) e_X4_leaningOf_21 (sa_X4_4 hI_X4_b) (rfl) (by omega) (Nat.le_of_ble_eq_true rfl) ?_
  refine GG.iload_n e_X4_leaningOf_22 (i := 2) rfl 2 rfl ?_
  refine GG.callS (d' := 0) (as := [.int _, .int _, .int _]) e_X4_leaningOf_23 ml_X4_68 mf_X3_leanAs ms_X3_leanAs rfl (by decide) (Nat.le_of_ble_eq_true rfl) rfl ?_
  refine s_X3_leanAs ?_
  refine GG.istore_n e_X4_leaningOf_26 (i := 3) rfl (Nat.le_of_ble_eq_true rfl) (ls' := [(3, .int _), (0, .ref _), (1, .int _), (2, .int _)]) rfl ?_
  refine GG.iconst (v := 0) e_X4_leaningOf_27 rfl ?_
  refine GG.istore e_X4_leaningOf_28 (Nat.le_of_ble_eq_true rfl) (ls' := [(4, .int _), (3, .int _), (0, .ref _), (1, .int _), (2, .int _)]) rfl ?_
  exact lp (A + 1) 0 _ (by omega) (by omega) rfl
end S14
