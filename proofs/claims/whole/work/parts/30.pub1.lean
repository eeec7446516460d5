/-! THE FACE, first half: what is asked and told of the two houses -/
def oB (v a b : Int32) : Bool := decide (v < a ∨ b < v)
theorem bI_n0 (b : Bool) : ¬ bI b = 0 ↔ b = true := by cases b <;> decide
theorem oB_n {v a b : Int32} {A B : Nat} (h : oB v a b = false) (ha : a = nI A) (hb : b = nI B) (hB : B < 2 ^ 31) (hA : A ≤ B) : ∃ n, v = nI n ∧ A ≤ n ∧ n ≤ B := by
  subst ha hb
  unfold oB at h
  rw [decide_eq_false_iff_not, not_or] at h
  obtain ⟨h1, h2⟩ := h
  have g1 : ¬ v.toInt < (nI A).toInt := fun z => h1 (Int32.lt_iff_toInt_lt.mpr z)
  have g2 : ¬ (nI B).toInt < v.toInt := fun z => h2 (Int32.lt_iff_toInt_lt.mpr z)
  rw [nI_toInt (by omega)] at g1
  rw [nI_toInt hB] at g2
  obtain ⟨n, hn⟩ : ∃ n : Nat, v.toInt = (n : Int) := ⟨v.toInt.toNat, by omega⟩
  refine ⟨n, ?_, by omega, by omega⟩
  apply Int32.toInt_inj.mp
  rw [hn, nI_toInt (by omega)]
def mRf (μ : gM) (k : Nat) : gM := mwr μ 0 k (mrd μ 0 k + 1)
def mKp (μ : gM) (b p U : Nat) : gM := if U < 8 then mwr (msv μ b (p + 1) (10 * U)) p 0 (nI (U + 1)) else mwr (msv (mDo μ p) b (p + 1) 70) p 0 (nI 8)
section S30
variable {μ : gM} {Q : Option Value → gM → Prop} {P A U L T N M : Nat} {i c a w z v x y k : Int32}
theorem s_X10_notKind (hQ : Q (some (.int (bI (oB v 0 5)))) μ) : SPC 1 MX10_notKind [.int v] μ Q := by
  refine SPC.of (by decide +kernel) (Nat.le_of_ble_eq_true rfl) (ls := [(0, .int (v))]) rfl ?_
  refine GG.iload_n e_X10_notKind_0 (i := 0) rfl 0 rfl ?_
  refine GG.iconst (v := 0) e_X10_notKind_1 rfl ?_
  refine GG.iconst (v := 5) e_X10_notKind_2 rfl ?_
  refine GG.callS (d' := 0) (as := [.int _, .int _, .int _]) e_X10_notKind_3 ml_X10_57 mf_X10_outside ms_X10_outside rfl (by decide) (Nat.le_of_ble_eq_true rfl) rfl ?_
  refine s_X10_outside ?_
  refine GG.zret e_X10_notKind_6 rfl (gZ_n (bI_z _)) rfl ?_
  exact hQ
theorem s_X10_notHouse (hQ : Q (some (.int (bI (oB v 0 1)))) μ) : SPC 1 MX10_notHouse [.int v] μ Q := by
  refine SPC.of (by decide +kernel) (Nat.le_of_ble_eq_true rfl) (ls := [(0, .int (v))]) rfl ?_
  refine GG.iload_n e_X10_notHouse_0 (i := 0) rfl 0 rfl ?_
  refine GG.iconst (v := 0) e_X10_notHouse_1 rfl ?_
  refine GG.iconst (v := 1) e_X10_notHouse_2 rfl ?_
  refine GG.callS (d' := 0) (as := [.int _, .int _, .int _]) e_X10_notHouse_3 ml_X10_57 mf_X10_outside ms_X10_outside rfl (by decide) (Nat.le_of_ble_eq_true rfl) rfl ?_
  refine s_X10_outside ?_
  refine GG.zret e_X10_notHouse_6 rfl (gZ_n (bI_z _)) rfl ?_
  exact hQ
theorem s_X10_notSwing (hQ : Q (some (.int (bI (oB v 0 9)))) μ) : SPC 1 MX10_notSwing [.int v] μ Q := by
  refine SPC.of (by decide +kernel) (Nat.le_of_ble_eq_true rfl) (ls := [(0, .int (v))]) rfl ?_
  refine GG.iload_n e_X10_notSwing_0 (i := 0) rfl 0 rfl ?_
  refine GG.iconst (v := 0) e_X10_notSwing_1 rfl ?_
  refine GG.bipush (v := 9) e_X10_notSwing_2 rfl ?_
  refine GG.callS (d' := 0) (as := [.int _, .int _, .int _]) e_X10_notSwing_4 ml_X10_57 mf_X10_outside ms_X10_outside rfl (by decide) (Nat.le_of_ble_eq_true rfl) rfl ?_
  refine s_X10_outside ?_
  refine GG.zret e_X10_notSwing_7 rfl (gZ_n (bI_z _)) rfl ?_
  exact hQ
theorem s_X10_notAsked (hQ : Q (some (.int (bI (oB v 0 99)))) μ) : SPC 1 MX10_notAsked [.int v] μ Q := by
  refine SPC.of (by decide +kernel) (Nat.le_of_ble_eq_true rfl) (ls := [(0, .int (v))]) rfl ?_
  refine GG.iload_n e_X10_notAsked_0 (i := 0) rfl 0 rfl ?_
  refine GG.iconst (v := 0) e_X10_notAsked_1 rfl ?_
  refine GG.bipush (v := 99) e_X10_notAsked_2 rfl ?_
  refine GG.callS (d' := 0) (as := [.int _, .int _, .int _]) e_X10_notAsked_4 ml_X10_57 mf_X10_outside ms_X10_outside rfl (by decide) (Nat.le_of_ble_eq_true rfl) rfl ?_
  refine s_X10_outside ?_
  refine GG.zret e_X10_notAsked_7 rfl (gZ_n (bI_z _)) rfl ?_
  exact hQ
theorem s_X10_notLean (hQ : Q (some (.int (bI (oB v (-20) 20)))) μ) : SPC 1 MX10_notLean [.int v] μ Q := by
  refine SPC.of (by decide +kernel) (Nat.le_of_ble_eq_true rfl) (ls := [(0, .int (v))]) rfl ?_
  refine GG.iload_n e_X10_notLean_0 (i := 0) rfl 0 rfl ?_
  refine GG.bipush (v := -20) e_X10_notLean_1 rfl ?_
  refine GG.bipush (v := 20) e_X10_notLean_3 rfl ?_
  refine GG.callS (d' := 0) (as := [.int _, .int _, .int _]) e_X10_notLean_5 ml_X10_57 mf_X10_outside ms_X10_outside rfl (by decide) (Nat.le_of_ble_eq_true rfl) rfl ?_
  refine s_X10_outside ?_
  refine GG.zret e_X10_notLean_8 rfl (gZ_n (bI_z _)) rfl ?_
  exact hQ
theorem s_X10_refuseBad (hQ : Q (some (.int v)) (mRf μ 10)) : SPC 0 MX10_refuseBad [.ref 0, .int v] μ Q := by
  refine SPC.of (by decide +kernel) (Nat.le_of_ble_eq_true rfl) (ls := [(0, .ref (0)), (1, .int (v))]) rfl ?_
  refine GG.aload_n e_X10_refuseBad_0 (i := 0) rfl 0 rfl ?_
  refine GG.dup e_X10_refuseBad_1 rfl ?_
  refine GG.getI e_X10_refuseBad_2 fl_X10_319 (sf_X10_10 i_X10_0) ?_
  refine GG.iconst (v := 1) e_X10_refuseBad_5 rfl ?_
  refine GG.iadd e_X10_refuseBad_6 ?_
  refine GG.putI e_X10_refuseBad_7 fl_X10_319 fp_X10_10 (sf_X10_10 i_X10_0) ?_
  refine GG.iload_n e_X10_refuseBad_10 (i := 1) rfl 1 rfl ?_
  refine GG.iret e_X10_refuseBad_11 rfl rfl ?_
  exact hQ
theorem s_X10_refuseNo (hQ : Q (some (.int (-3))) (mRf μ 11)) : SPC 0 MX10_refuseNo [.ref 0] μ Q := by
  refine SPC.of (by decide +kernel) (Nat.le_of_ble_eq_true rfl) (ls := [(0, .ref (0))]) rfl ?_
  refine GG.aload_n e_X10_refuseNo_0 (i := 0) rfl 0 rfl ?_
  refine GG.dup e_X10_refuseNo_1 rfl ?_
  refine GG.getI e_X10_refuseNo_2 fl_X10_322 (sf_X10_11 i_X10_0) ?_
  refine GG.iconst (v := 1) e_X10_refuseNo_5 rfl ?_
  refine GG.iadd e_X10_refuseNo_6 ?_
  refine GG.putI e_X10_refuseNo_7 fl_X10_322 fp_X10_11 (sf_X10_11 i_X10_0) ?_
  refine GG.bipush (v := -3) e_X10_refuseNo_10 rfl ?_
  refine GG.iret e_X10_refuseNo_12 rfl rfl ?_
  exact hQ
theorem s_X10_refuseFull (hQ : Q (some (.int (-4))) (mRf μ 12)) : SPC 0 MX10_refuseFull [.ref 0] μ Q := by
  refine SPC.of (by decide +kernel) (Nat.le_of_ble_eq_true rfl) (ls := [(0, .ref (0))]) rfl ?_
  refine GG.aload_n e_X10_refuseFull_0 (i := 0) rfl 0 rfl ?_
  refine GG.dup e_X10_refuseFull_1 rfl ?_
  refine GG.getI e_X10_refuseFull_2 fl_X10_325 (sf_X10_12 i_X10_0) ?_
  refine GG.iconst (v := 1) e_X10_refuseFull_5 rfl ?_
  refine GG.iadd e_X10_refuseFull_6 ?_
  refine GG.putI e_X10_refuseFull_7 fl_X10_325 fp_X10_12 (sf_X10_12 i_X10_0) ?_
  refine GG.bipush (v := -4) e_X10_refuseFull_10 rfl ?_
  refine GG.iret e_X10_refuseFull_12 rfl rfl ?_
  exact hQ
theorem s_X10_added {r : Nat} (hI_X6_r : gI_X6 r) (hn : z = 0 → Q (some (.int (-4))) (mRf μ 12)) (hy : ¬ z = 0 → Q (some (.int (mrd μ r 0))) μ) : SPC 1 MX10_added [.ref 0, .ref r, .int z] μ Q := by
  refine SPC.of (by decide +kernel) (Nat.le_of_ble_eq_true rfl) (ls := [(0, .ref (0)), (1, .ref (r)), (2, .int (z))]) rfl ?_
  refine GG.aload_n e_X10_added_0 (i := 1) rfl 1 rfl ?_
  refine GG.ifnull e_X10_added_1 ?_
  refine GG.iload_n e_X10_added_4 (i := 2) rfl 2 rfl ?_
  refine GG.if_ne (tgt := 13) e_X10_added_5 rfl (fun h5 => ?_) (fun h5 => ?_)
  · skip
    refine GG.aload_n e_X10_added_13 (i := 1) rfl 1 rfl ?_
    refine GG.getI e_X10_added_14 fl_X10_341 (sf_X6_0 hI_X6_r) ?_
    refine GG.iret e_X10_added_17 rfl rfl ?_
    exact hy (by grind)
  · skip
    refine GG.aload_n e_X10_added_8 (i := 0) rfl 0 rfl ?_
    refine GG.callV (d' := 0) (a := 0) (as := []) e_X10_added_9 ml_X10_104 mf_X10_refuseFull mv_X10_refuseFull (rc_X10 i_X10_0) rfl (by decide) (Nat.le_of_ble_eq_true rfl) rfl ?_
    refine s_X10_refuseFull ?_
    refine GG.iret e_X10_added_12 rfl rfl ?_
    exact hn (by grind)
theorem s_X5_keepC {b p : Nat} (hI_X4_b : gI_X4 b) (hI_X5_p : gI_X5 p) (hU : mrd μ p 0 = nI U) (hU8 : U ≤ 8) (hQ : Q none (mKp μ b p U)) : SPC 1 MX5_keep [.ref p, .ref b] μ Q := by
  refine s_X5_keep hI_X4_b hI_X5_p hU hU8 (fun h => ?_) (fun h => ?_)
  · exact qM hQ (by unfold mKp; rw [if_pos h])
  · exact qM hQ (by unfold mKp; rw [if_neg (by omega)])
theorem mrd_Kp {p b j : Nat} (hp : 14 ≤ p) (c : Nat) (hc : ¬ c = p ∧ ¬ c = p + 1) : mrd (mKp μ b p U) c j = mrd μ c j := by
  unfold mKp
  split
  · rw [mrd_wr, if_neg (by omega), mrd_sv, if_neg (by omega)]
  · rw [mrd_wr, if_neg (by omega), mrd_sv, if_neg (by omega), mrd_Do, if_neg (by omega), if_neg (by omega)]
theorem LC_Kp (hL : LC μ 2 P A) : LC (mKp μ 2 14 U) 2 P A := by
  unfold LC
  rw [mrd_Kp (by omega) 2 (by omega), mrd_Kp (by omega) 2 (by omega)]
  exact hL
theorem VE_Kp : VE (cV μ 2) (cV (mKp μ 2 14 U) 2) P A := by
  have e : ∀ f k, f < 5 → cV μ 2 f k = cV (mKp μ 2 14 U) 2 f k := fun f k hf => (mrd_Kp (by omega) _ (by omega)).symm
  exact ⟨fun k _ => ⟨e 0 k (by omega), e 1 k (by omega), e 2 k (by omega)⟩, fun k _ => ⟨e 3 k (by omega), e 4 k (by omega)⟩⟩
theorem s_X10_lane (hL : LC μ 2 P A) (hbad : oB w 4 30 = true → Q (some (.int (-2))) (mRf μ 10)) (hok : oB w 4 30 = false → Q (some (.int (nI P))) (mHs μ 1 w)) : SPC 2 MX10_lane [.ref 0, .int w] μ Q := by
  refine SPC.of (by decide +kernel) (Nat.le_of_ble_eq_true rfl) (ls := [(0, .ref (0)), (1, .int (w))]) rfl ?_
  refine GG.iload_n e_X10_lane_0 (i := 1) rfl 1 rfl ?_
  refine GG.iconst (v := 4) e_X10_lane_1 rfl ?_
  refine GG.bipush (v := 30) e_X10_lane_2 rfl ?_
  refine GG.callS (d' := 0) (as := [.int _, .int _, .int _]) e_X10_lane_4 ml_X10_57 mf_X10_outside ms_X10_outside rfl (by decide) (Nat.le_of_ble_eq_true rfl) rfl ?_
  refine s_X10_outside ?_
  refine GG.if_eq (tgt := 17) e_X10_lane_7 rfl (fun h7 => ?_) (fun h7 => ?_)
  · skip
    have o := (bI_0 _).mp h7
    refine GG.aload_n e_X10_lane_17 (i := 0) rfl 0 rfl ?_
    refine GG.getR (b := 1) e_X10_lane_18 fl_X10_12 (sf_X10_0 i_X10_0) ?_
    refine GG.getR (b := 2) e_X10_lane_21 fl_X10_65 (sf_X2_0 i_X2_1) ?_
    refine GG.getIv (v := nI P) e_X10_lane_24 fl_X10_69 (sf_X4_1 i_X4_2) (hL.1) ?_
    refine GG.istore_n e_X10_lane_27 (i := 2) rfl (Nat.le_of_ble_eq_true rfl) (ls' := [(2, .int _), (0, .ref _), (1, .int _)]) rfl ?_
    refine GG.aload_n e_X10_lane_28 (i := 0) rfl 1 rfl ?_
    refine GG.getR (b := 1) e_X10_lane_29 fl_X10_12 (sf_X10_0 i_X10_0) ?_
    refine GG.iload_n e_X10_lane_32 (i := 1) rfl 2 rfl ?_
    refine GG.callV (d' := 1) (a := 1) (as := [.int _]) e_X10_lane_33 ml_X10_75 mf_X2_startAgain mv_X2_startAgain (rc_X2 i_X2_1) rfl (by decide) (Nat.le_of_ble_eq_true rfl) rfl ?_
    refine s_X2_startAgain i_X2_1 ?_
    refine GG.iload_n e_X10_lane_36 (i := 2) rfl 0 rfl ?_
    refine GG.iret e_X10_lane_37 rfl rfl ?_
    exact hok o
  · skip
    have o := (bI_n0 _).mp h7
    refine GG.aload_n e_X10_lane_10 (i := 0) rfl 0 rfl ?_
    refine GG.bipush (v := -2) e_X10_lane_11 rfl ?_
    refine GG.callV (d' := 0) (a := 0) (as := [.int _]) e_X10_lane_13 ml_X10_61 mf_X10_refuseBad mv_X10_refuseBad (rc_X10 i_X10_0) rfl (by decide) (Nat.le_of_ble_eq_true rfl) rfl ?_
    refine s_X10_refuseBad ?_
    refine GG.iret e_X10_lane_16 rfl rfl ?_
    exact hbad o
theorem s_X10_wide (hbad : oB w 4 30 = true → Q (some (.int (-2))) (mRf μ 10)) (hok : oB w 4 30 = false → Q (some (.int (mrd μ 2 0))) (mwr (mwr μ 2 0 w) 14 0 0)) : SPC 1 MX10_wide [.ref 0, .int w] μ Q := by
  refine SPC.of (by decide +kernel) (Nat.le_of_ble_eq_true rfl) (ls := [(0, .ref (0)), (1, .int (w))]) rfl ?_
  refine GG.iload_n e_X10_wide_0 (i := 1) rfl 1 rfl ?_
  refine GG.iconst (v := 4) e_X10_wide_1 rfl ?_
  refine GG.bipush (v := 30) e_X10_wide_2 rfl ?_
  refine GG.callS (d' := 0) (as := [.int _, .int _, .int _]) e_X10_wide_4 ml_X10_57 mf_X10_outside ms_X10_outside rfl (by decide) (Nat.le_of_ble_eq_true rfl) rfl ?_
  refine s_X10_outside ?_
  refine GG.if_eq (tgt := 17) e_X10_wide_7 rfl (fun h7 => ?_) (fun h7 => ?_)
  · skip
    have o := (bI_0 _).mp h7
    refine GG.aload_n e_X10_wide_17 (i := 0) rfl 0 rfl ?_
    refine GG.getR (b := 1) e_X10_wide_18 fl_X10_12 (sf_X10_0 i_X10_0) ?_
    refine GG.getR (b := 2) e_X10_wide_21 fl_X10_65 (sf_X2_0 i_X2_1) ?_
    refine GG.getI e_X10_wide_24 fl_X10_79 (sf_X4_0 i_X4_2) ?_
    refine GG.istore_n e_X10_wide_27 (i := 2) rfl (Nat.le_of_ble_eq_true rfl) (ls' := [(2, .int _), (0, .ref _), (1, .int _)]) rfl ?_
    refine GG.aload_n e_X10_wide_28 (i := 0) rfl 1 rfl ?_
    refine GG.getR (b := 1) e_X10_wide_29 fl_X10_12 (sf_X10_0 i_X10_0) ?_
    refine GG.getR (b := 2) e_X10_wide_32 fl_X10_65 (sf_X2_0 i_X2_1) ?_
    refine GG.iload_n e_X10_wide_35 (i := 1) rfl 2 rfl ?_
    refine GG.putI e_X10_wide_36 fl_X10_79 fp_X4_0 (sf_X4_0 i_X4_2) ?_
    refine GG.aload_n e_X10_wide_39 (i := 0) rfl 1 rfl ?_
    refine GG.getR (b := 1) e_X10_wide_40 fl_X10_12 (sf_X10_0 i_X10_0) ?_
    refine GG.getR (b := 14) e_X10_wide_43 fl_X10_82 (sf_X2_4 i_X2_1) ?_
    refine GG.callV (d' := 0) (a := 14) (as := []) e_X10_wide_46 ml_X10_86 mf_X5_forgetAll mv_X5_forgetAll (rc_X5 i_X5_14) rfl (by decide) (Nat.le_of_ble_eq_true rfl) rfl ?_
    refine s_X5_forgetAll i_X5_14 ?_
    refine GG.iload_n e_X10_wide_49 (i := 2) rfl 0 rfl ?_
    refine GG.iret e_X10_wide_50 rfl rfl ?_
    exact hok o
  · skip
    have o := (bI_n0 _).mp h7
    refine GG.aload_n e_X10_wide_10 (i := 0) rfl 0 rfl ?_
    refine GG.bipush (v := -2) e_X10_wide_11 rfl ?_
    refine GG.callV (d' := 0) (a := 0) (as := [.int _]) e_X10_wide_13 ml_X10_61 mf_X10_refuseBad mv_X10_refuseBad (rc_X10 i_X10_0) rfl (by decide) (Nat.le_of_ble_eq_true rfl) rfl ?_
    refine s_X10_refuseBad ?_
    refine GG.iret e_X10_wide_16 rfl rfl ?_
    exact hbad o
theorem s_X4_addOneC {b : Nat} (hI_X4_b : gI_X4 b) (hL : LC μ b P A) (hQ : ∀ r ν, (P = 7 ∧ r = 0 ∧ ν = μ ∨ P < 7 ∧ r = 1 ∧ ν = mwr (mwr (mwr (mwr μ (b + 1) P x) (b + 2) P y) (b + 3) P z) b 1 (nI (P + 1))) → Q (some (.int r)) ν) : SPC 1 MX4_addOne [.ref b, .int x, .int y, .int z] μ Q :=
  s_X4_addOne hI_X4_b hL (fun h => hQ 0 μ (Or.inl ⟨h, rfl, rfl⟩)) (fun h => hQ 1 _ (Or.inr ⟨h, rfl, rfl⟩))
theorem s_X4_addAuntC {b : Nat} (hI_X4_b : gI_X4 b) (hL : LC μ b P A) (hQ : ∀ r ν, (A = 4 ∧ r = 0 ∧ ν = μ ∨ A < 4 ∧ r = 1 ∧ ν = mwr (mwr (mwr (mwr μ (b + 4) A x) (b + 5) A y) b 8 (mrd μ b 8 ||| ((1 : Int32) <<< (nI A &&& 31)))) b 5 (nI (A + 1))) → Q (some (.int r)) ν) : SPC 1 MX4_addAunt [.ref b, .int x, .int y] μ Q :=
  s_X4_addAunt hI_X4_b hL (fun h => hQ 0 μ (Or.inl ⟨h, rfl, rfl⟩)) (fun h => hQ 1 _ (Or.inr ⟨h, rfl, rfl⟩))
theorem s_X10_one (hL : LC μ 2 P A) (hbad : (oB x 0 5 || oB y 0 1 || oB z 0 9) = true → Q (some (.int (-2))) (mRf μ 10)) (hfull : (oB x 0 5 || oB y 0 1 || oB z 0 9) = false → P = 7 → Q (some (.int (-4))) (mRf μ 12))
    (hok : (oB x 0 5 || oB y 0 1 || oB z 0 9) = false → P < 7 → Q (some (.int (nI P))) (mwr (mwr (mwr (mwr (mwr μ 3 P x) 4 P y) 5 P z) 2 1 (nI (P + 1))) 14 0 0)) : SPC 2 MX10_one [.ref 0, .int x, .int y, .int z] μ Q := by
  refine SPC.of (by decide +kernel) (Nat.le_of_ble_eq_true rfl) (ls := [(0, .ref (0)), (1, .int (x)), (2, .int (y)), (3, .int (z))]) rfl ?_
  refine GG.iload_n e_X10_one_0 (i := 1) rfl 1 rfl ?_
  refine GG.callS (d' := 1) (as := [.int _]) e_X10_one_1 ml_X10_91 mf_X10_notKind ms_X10_notKind rfl (by decide) (Nat.le_of_ble_eq_true rfl) rfl ?_
  refine s_X10_notKind ?_
  refine GG.if_ne (tgt := 21) e_X10_one_4 rfl (fun h4 => ?_) (fun h4 => ?_)
  · skip
    have o := (bI_n0 _).mp h4
    refine GG.aload_n e_X10_one_21 (i := 0) rfl 0 rfl ?_
    refine GG.bipush (v := -2) e_X10_one_22 rfl ?_
    refine GG.callV (d' := 0) (a := 0) (as := [.int _]) e_X10_one_24 ml_X10_61 mf_X10_refuseBad mv_X10_refuseBad (rc_X10 i_X10_0) rfl (by decide) (Nat.le_of_ble_eq_true rfl) rfl ?_
    refine s_X10_refuseBad ?_
    refine GG.iret e_X10_one_27 rfl rfl ?_
    exact hbad (by simp [o])
  · skip
    have o1 := (bI_0 _).mp h4
    refine GG.iload_n e_X10_one_7 (i := 2) rfl 2 rfl ?_
    refine GG.callS (d' := 1) (as := [.int _]) e_X10_one_8 ml_X10_95 mf_X10_notHouse ms_X10_notHouse rfl (by decide) (Nat.le_of_ble_eq_true rfl) rfl ?_
    refine s_X10_notHouse ?_
    refine GG.if_ne (tgt := 21) e_X10_one_11 rfl (fun h11 => ?_) (fun h11 => ?_)
    · skip
      have o := (bI_n0 _).mp h11
      refine GG.aload_n e_X10_one_21 (i := 0) rfl 0 rfl ?_
      refine GG.bipush (v := -2) e_X10_one_22 rfl ?_
      refine GG.callV (d' := 0) (a := 0) (as := [.int _]) e_X10_one_24 ml_X10_61 mf_X10_refuseBad mv_X10_refuseBad (rc_X10 i_X10_0) rfl (by decide) (Nat.le_of_ble_eq_true rfl) rfl ?_
      refine s_X10_refuseBad ?_
      refine GG.iret e_X10_one_27 rfl rfl ?_
      exact hbad (by simp [o])
    · skip
      have o2 := (bI_0 _).mp h11
      refine GG.iload_n e_X10_one_14 (i := 3) rfl 3 rfl ?_
      refine GG.callS (d' := 1) (as := [.int _]) e_X10_one_15 ml_X10_98 mf_X10_notSwing ms_X10_notSwing rfl (by decide) (Nat.le_of_ble_eq_true rfl) rfl ?_
      refine s_X10_notSwing ?_
      refine GG.if_eq (tgt := 28) e_X10_one_18 rfl (fun h18 => ?_) (fun h18 => ?_)
      · skip
        have o3 := (bI_0 _).mp h18
        refine GG.aload_n e_X10_one_28 (i := 0) rfl 0 rfl ?_
        refine GG.getR (b := 1) e_X10_one_29 fl_X10_12 (sf_X10_0 i_X10_0) ?_
        refine GG.getR (b := 2) e_X10_one_32 fl_X10_65 (sf_X2_0 i_X2_1) ?_
        refine GG.iload_n e_X10_one_35 (i := 1) rfl 1 rfl ?_
        refine GG.iload_n e_X10_one_36 (i := 2) rfl 2 rfl ?_
        refine GG.iload_n e_X10_one_37 (i := 3) rfl 3 rfl ?_
        refine GG.callV (d' := 1) (a := 2) (as := [.int _, .int _, .int _]) e_X10_one_38 ml_X10_101 mf_X4_addOne mv_X4_addOne (rc_X4 i_X4_2) rfl (by decide) (Nat.le_of_ble_eq_true rfl) rfl ?_
        refine s_X4_addOneC i_X4_2 hL (fun r ν hr => ?_)
        refine GG.if_ne (tgt := 49) e_X10_one_41 rfl (fun h41 => ?_) (fun h41 => ?_)
        · skip
          obtain ⟨hp, rfl, rfl⟩ := hr.resolve_left (fun z => h41 z.2.1)
          refine GG.aload_n e_X10_one_49 (i := 0) rfl 0 rfl ?_
          refine GG.getR (b := 1) e_X10_one_50 fl_X10_12 (sf_X10_0 i_X10_0) ?_
          refine GG.getR (b := 14) e_X10_one_53 fl_X10_82 (sf_X2_4 i_X2_1) ?_
          refine GG.callV (d' := 0) (a := 14) (as := []) e_X10_one_56 ml_X10_86 mf_X5_forgetAll mv_X5_forgetAll (rc_X5 i_X5_14) rfl (by decide) (Nat.le_of_ble_eq_true rfl) rfl ?_
          refine s_X5_forgetAll i_X5_14 ?_
          refine GG.aload_n e_X10_one_59 (i := 0) rfl 0 rfl ?_
          refine GG.getR (b := 1) e_X10_one_60 fl_X10_12 (sf_X10_0 i_X10_0) ?_
          refine GG.getR (b := 2) e_X10_one_63 fl_X10_65 (sf_X2_0 i_X2_1) ?_
          refine GG.getIv (v := nI (P + 1)) e_X10_one_66 fl_X10_69 (sf_X4_1 i_X4_2) (by simp [mrd_wr]) ?_
          refine GG.iconst (v := 1) e_X10_one_69 rfl ?_
          refine GG.isub e_X10_one_70 ?_
          refine GG.iret e_X10_one_71 rfl rfl ?_
          exact qI (hok (by simp [o1, o2, o3]) hp) (by rw [show (1 : Int32) = nI 1 from rfl, pk_sub (by omega)]; rfl)
        · skip
          obtain ⟨hp, rfl, rfl⟩ := hr.resolve_right (fun z => absurd (z.2.1.symm.trans h41) (by decide))
          refine GG.aload_n e_X10_one_44 (i := 0) rfl 0 rfl ?_
          refine GG.callV (d' := 0) (a := 0) (as := []) e_X10_one_45 ml_X10_104 mf_X10_refuseFull mv_X10_refuseFull (rc_X10 i_X10_0) rfl (by decide) (Nat.le_of_ble_eq_true rfl) rfl ?_
          refine s_X10_refuseFull ?_
          refine GG.iret e_X10_one_48 rfl rfl ?_
          exact hfull (by simp [o1, o2, o3]) hp
      · skip
        have o := (bI_n0 _).mp h18
        refine GG.aload_n e_X10_one_21 (i := 0) rfl 0 rfl ?_
        refine GG.bipush (v := -2) e_X10_one_22 rfl ?_
        refine GG.callV (d' := 0) (a := 0) (as := [.int _]) e_X10_one_24 ml_X10_61 mf_X10_refuseBad mv_X10_refuseBad (rc_X10 i_X10_0) rfl (by decide) (Nat.le_of_ble_eq_true rfl) rfl ?_
        refine s_X10_refuseBad ?_
        refine GG.iret e_X10_one_27 rfl rfl ?_
        exact hbad (by simp [o])
theorem s_X10_aunt (hL : LC μ 2 P A) (hbad : (oB x 0 5 || oB y 0 1) = true → Q (some (.int (-2))) (mRf μ 10)) (hfull : (oB x 0 5 || oB y 0 1) = false → A = 4 → Q (some (.int (-4))) (mRf μ 12))
    (hok : (oB x 0 5 || oB y 0 1) = false → A < 4 → Q (some (.int (nI A))) (mwr (mwr (mwr (mwr (mwr μ 6 A x) 7 A y) 2 8 (mrd μ 2 8 ||| ((1 : Int32) <<< (nI A &&& 31)))) 2 5 (nI (A + 1))) 14 0 0)) : SPC 2 MX10_aunt [.ref 0, .int x, .int y] μ Q := by
  refine SPC.of (by decide +kernel) (Nat.le_of_ble_eq_true rfl) (ls := [(0, .ref (0)), (1, .int (x)), (2, .int (y))]) rfl ?_
  refine GG.iload_n e_X10_aunt_0 (i := 1) rfl 1 rfl ?_
  refine GG.callS (d' := 1) (as := [.int _]) e_X10_aunt_1 ml_X10_91 mf_X10_notKind ms_X10_notKind rfl (by decide) (Nat.le_of_ble_eq_true rfl) rfl ?_
  refine s_X10_notKind ?_
  refine GG.if_ne (tgt := 14) e_X10_aunt_4 rfl (fun h4 => ?_) (fun h4 => ?_)
  · skip
    have o := (bI_n0 _).mp h4
    refine GG.aload_n e_X10_aunt_14 (i := 0) rfl 0 rfl ?_
    refine GG.bipush (v := -2) e_X10_aunt_15 rfl ?_
    refine GG.callV (d' := 0) (a := 0) (as := [.int _]) e_X10_aunt_17 ml_X10_61 mf_X10_refuseBad mv_X10_refuseBad (rc_X10 i_X10_0) rfl (by decide) (Nat.le_of_ble_eq_true rfl) rfl ?_
    refine s_X10_refuseBad ?_
    refine GG.iret e_X10_aunt_20 rfl rfl ?_
    exact hbad (by simp [o])
  · skip
    have o1 := (bI_0 _).mp h4
    refine GG.iload_n e_X10_aunt_7 (i := 2) rfl 2 rfl ?_
    refine GG.callS (d' := 1) (as := [.int _]) e_X10_aunt_8 ml_X10_95 mf_X10_notHouse ms_X10_notHouse rfl (by decide) (Nat.le_of_ble_eq_true rfl) rfl ?_
    refine s_X10_notHouse ?_
    refine GG.if_eq (tgt := 21) e_X10_aunt_11 rfl (fun h11 => ?_) (fun h11 => ?_)
    · skip
      have o2 := (bI_0 _).mp h11
      refine GG.aload_n e_X10_aunt_21 (i := 0) rfl 0 rfl ?_
      refine GG.getR (b := 1) e_X10_aunt_22 fl_X10_12 (sf_X10_0 i_X10_0) ?_
      refine GG.getR (b := 2) e_X10_aunt_25 fl_X10_65 (sf_X2_0 i_X2_1) ?_
      refine GG.iload_n e_X10_aunt_28 (i := 1) rfl 1 rfl ?_
      refine GG.iload_n e_X10_aunt_29 (i := 2) rfl 2 rfl ?_
      refine GG.callV (d' := 1) (a := 2) (as := [.int _, .int _]) e_X10_aunt_30 ml_X10_108 mf_X4_addAunt mv_X4_addAunt (rc_X4 i_X4_2) rfl (by decide) (Nat.le_of_ble_eq_true rfl) rfl ?_
      refine s_X4_addAuntC i_X4_2 hL (fun r ν hr => ?_)
      refine GG.if_ne (tgt := 41) e_X10_aunt_33 rfl (fun h33 => ?_) (fun h33 => ?_)
      · skip
        obtain ⟨hp, rfl, rfl⟩ := hr.resolve_left (fun z => h33 z.2.1)
        refine GG.aload_n e_X10_aunt_41 (i := 0) rfl 0 rfl ?_
        refine GG.getR (b := 1) e_X10_aunt_42 fl_X10_12 (sf_X10_0 i_X10_0) ?_
        refine GG.getR (b := 14) e_X10_aunt_45 fl_X10_82 (sf_X2_4 i_X2_1) ?_
        refine GG.callV (d' := 0) (a := 14) (as := []) e_X10_aunt_48 ml_X10_86 mf_X5_forgetAll mv_X5_forgetAll (rc_X5 i_X5_14) rfl (by decide) (Nat.le_of_ble_eq_true rfl) rfl ?_
        refine s_X5_forgetAll i_X5_14 ?_
        refine GG.aload_n e_X10_aunt_51 (i := 0) rfl 0 rfl ?_
        refine GG.getR (b := 1) e_X10_aunt_52 fl_X10_12 (sf_X10_0 i_X10_0) ?_
        refine GG.getR (b := 2) e_X10_aunt_55 fl_X10_65 (sf_X2_0 i_X2_1) ?_
        refine GG.getIv (v := nI (A + 1)) e_X10_aunt_58 fl_X10_112 (sf_X4_5 i_X4_2) (by simp [mrd_wr]) ?_
        refine GG.iconst (v := 1) e_X10_aunt_61 rfl ?_
        refine GG.isub e_X10_aunt_62 ?_
        refine GG.iret e_X10_aunt_63 rfl rfl ?_
        exact qI (hok (by simp [o1, o2]) hp) (by rw [show (1 : Int32) = nI 1 from rfl, pk_sub (by omega)]; rfl)
      · skip
        obtain ⟨hp, rfl, rfl⟩ := hr.resolve_right (fun z => absurd (z.2.1.symm.trans h33) (by decide))
        refine GG.aload_n e_X10_aunt_36 (i := 0) rfl 0 rfl ?_
        refine GG.callV (d' := 0) (a := 0) (as := []) e_X10_aunt_37 ml_X10_104 mf_X10_refuseFull mv_X10_refuseFull (rc_X10 i_X10_0) rfl (by decide) (Nat.le_of_ble_eq_true rfl) rfl ?_
        refine s_X10_refuseFull ?_
        refine GG.iret e_X10_aunt_40 rfl rfl ?_
        exact hfull (by simp [o1, o2]) hp
    · skip
      have o := (bI_n0 _).mp h11
      refine GG.aload_n e_X10_aunt_14 (i := 0) rfl 0 rfl ?_
      refine GG.bipush (v := -2) e_X10_aunt_15 rfl ?_
      refine GG.callV (d' := 0) (a := 0) (as := [.int _]) e_X10_aunt_17 ml_X10_61 mf_X10_refuseBad mv_X10_refuseBad (rc_X10 i_X10_0) rfl (by decide) (Nat.le_of_ble_eq_true rfl) rfl ?_
      refine s_X10_refuseBad ?_
      refine GG.iret e_X10_aunt_20 rfl rfl ?_
      exact hbad (by simp [o])
theorem s_X7_append (hL : mrd μ 46 0 = nI L) (hL5 : L ≤ 150) (hQ : ∀ r ν, (L = 150 ∧ r = 0 ∧ ν = μ ∨ L < 150 ∧ r = 1 ∧ ν = mwr (mwr μ 47 L c) 46 0 (nI (L + 1))) → Q (some (.int r)) ν) : SPC 1 MX7_append [.ref 46, .int c] μ Q := by
  refine SPC.of (by decide +kernel) (Nat.le_of_ble_eq_true rfl) (ls := [(0, .ref (46)), (1, .int (c))]) rfl ?_
  refine GG.aload_n e_X7_append_0 (i := 0) rfl 0 rfl ?_
  refine GG.getIv (v := nI L) e_X7_append_1 fl_X7_18 (sf_X7_0 i_X7_46) (hL) ?_
  refine GG.iconst (v := 0) e_X7_append_4 rfl ?_
  refine GG.sipush (v := 149) e_X7_append_5 rfl ?_
  refine GG.callN (d' := 0) (as := [.int _, .int _, .int _]) e_X7_append_8 ml_X7_22 mf_X10_outside ms_X10_outside rfl (by decide) (Nat.le_of_ble_eq_true rfl) rfl ?_
  refine s_X10_outside ?_
  refine GG.if_eq (tgt := 16) e_X7_append_11 rfl (fun h11 => ?_) (fun h11 => ?_)
  · skip
    have o := (bI_0 _).mp h11
    rw [decide_eq_false_iff_not, not_or] at o
    have hl := nnlt (b := L) (a := 149) o.2 (by omega) (by omega)
    refine GG.aload_n e_X7_append_16 (i := 0) rfl 0 rfl ?_
    refine GG.getR (b := 47) e_X7_append_17 fl_X7_9 (sf_X7_1 i_X7_46) ?_
    refine GG.aload_n e_X7_append_20 (i := 0) rfl 0 rfl ?_
    refine GG.getIv (v := nI L) e_X7_append_21 fl_X7_18 (sf_X7_0 i_X7_46) (hL) ?_
    refine GG.iload_n e_X7_append_24 (i := 1) rfl 1 rfl ?_
    refine GG.iastoreE (k := L) e_X7_append_25 (sa_X7_1 i_X7_46) (rfl) (by omega) (Nat.le_of_ble_eq_true rfl) ?_
    refine GG.aload_n e_X7_append_26 (i := 0) rfl 0 rfl ?_
    refine GG.dup e_X7_append_27 rfl ?_
    refine GG.getIv (v := nI L) e_X7_append_28 fl_X7_18 (sf_X7_0 i_X7_46) (by rw [mrd_wr, if_neg (by omega)]; exact hL) ?_
    refine GG.iconst (v := 1) e_X7_append_31 rfl ?_
    refine GG.iadd e_X7_append_32 ?_
    refine GG.top (nI_1 L) ?_
    refine GG.putI e_X7_append_33 fl_X7_18 fp_X7_0 (sf_X7_0 i_X7_46) ?_
    refine GG.iconst (v := 1) e_X7_append_36 rfl ?_
    refine GG.zret e_X7_append_37 rfl rfl rfl ?_
    exact hQ 1 _ (Or.inr ⟨by omega, rfl, rfl⟩)
  · skip
    have o := (bI_n0 _).mp h11
    rw [decide_eq_true_eq] at o
    have hl : 149 < L := o.elim (fun z => absurd (nlt (b := 0) z (by omega) (by omega)) (by omega)) (fun z => nlt (a := 149) z (by omega) (by omega))
    refine GG.iconst (v := 0) e_X7_append_14 rfl ?_
    refine GG.zret e_X7_append_15 rfl rfl rfl ?_
    exact hQ 0 μ (Or.inl ⟨by omega, rfl, rfl⟩)
theorem s_X10_type (hL : mrd μ 46 0 = nI L) (hL5 : L ≤ 150) (hbad : oB c 0 127 = true → Q (some (.int (-2))) (mRf μ 10)) (hfull : oB c 0 127 = false → L = 150 → Q (some (.int (-4))) (mRf μ 12))
    (hok : oB c 0 127 = false → L < 150 → Q (some (.int (nI (L + 1)))) (mwr (mwr μ 47 L c) 46 0 (nI (L + 1)))) : SPC 2 MX10_type [.ref 0, .int c] μ Q := by
  refine SPC.of (by decide +kernel) (Nat.le_of_ble_eq_true rfl) (ls := [(0, .ref (0)), (1, .int (c))]) rfl ?_
  refine GG.iload_n e_X10_type_0 (i := 1) rfl 1 rfl ?_
  refine GG.iconst (v := 0) e_X10_type_1 rfl ?_
  refine GG.bipush (v := 127) e_X10_type_2 rfl ?_
  refine GG.callS (d' := 0) (as := [.int _, .int _, .int _]) e_X10_type_4 ml_X10_57 mf_X10_outside ms_X10_outside rfl (by decide) (Nat.le_of_ble_eq_true rfl) rfl ?_
  refine s_X10_outside ?_
  refine GG.if_eq (tgt := 17) e_X10_type_7 rfl (fun h7 => ?_) (fun h7 => ?_)
  · skip
    have o := (bI_0 _).mp h7
    refine GG.aload_n e_X10_type_17 (i := 0) rfl 0 rfl ?_
    refine GG.getR (b := 46) e_X10_type_18 fl_X10_25 (sf_X10_5 i_X10_0) ?_
    refine GG.iload_n e_X10_type_21 (i := 1) rfl 1 rfl ?_
    refine GG.callV (d' := 1) (a := 46) (as := [.int _]) e_X10_type_22 ml_X10_115 mf_X7_append mv_X7_append (rc_X7 i_X7_46) rfl (by decide) (Nat.le_of_ble_eq_true rfl) rfl ?_
    refine s_X7_append hL hL5 (fun r ν hr => ?_)
    refine GG.if_ne (tgt := 33) e_X10_type_25 rfl (fun h25 => ?_) (fun h25 => ?_)
    · skip
      obtain ⟨hp, rfl, rfl⟩ := hr.resolve_left (fun z => h25 z.2.1)
      refine GG.aload_n e_X10_type_33 (i := 0) rfl 0 rfl ?_
      refine GG.getR (b := 46) e_X10_type_34 fl_X10_25 (sf_X10_5 i_X10_0) ?_
      refine GG.getIv (v := nI (L + 1)) e_X10_type_37 fl_X10_118 (sf_X7_0 i_X7_46) (by simp [mrd_wr]) ?_
      refine GG.iret e_X10_type_40 rfl rfl ?_
      exact hok o hp
    · skip
      obtain ⟨hp, rfl, rfl⟩ := hr.resolve_right (fun z => absurd (z.2.1.symm.trans h25) (by decide))
      refine GG.aload_n e_X10_type_28 (i := 0) rfl 0 rfl ?_
      refine GG.callV (d' := 0) (a := 0) (as := []) e_X10_type_29 ml_X10_104 mf_X10_refuseFull mv_X10_refuseFull (rc_X10 i_X10_0) rfl (by decide) (Nat.le_of_ble_eq_true rfl) rfl ?_
      refine s_X10_refuseFull ?_
      refine GG.iret e_X10_type_32 rfl rfl ?_
      exact hfull o hp
  · skip
    have o := (bI_n0 _).mp h7
    refine GG.aload_n e_X10_type_10 (i := 0) rfl 0 rfl ?_
    refine GG.bipush (v := -2) e_X10_type_11 rfl ?_
    refine GG.callV (d' := 0) (a := 0) (as := [.int _]) e_X10_type_13 ml_X10_61 mf_X10_refuseBad mv_X10_refuseBad (rc_X10 i_X10_0) rfl (by decide) (Nat.le_of_ble_eq_true rfl) rfl ?_
    refine s_X10_refuseBad ?_
    refine GG.iret e_X10_type_16 rfl rfl ?_
    exact hbad o
theorem s_X10_clear (hQ : Q (some (.int (mrd μ 46 0))) (mwr μ 46 0 0)) : SPC 0 MX10_clear [.ref 0] μ Q := by
  refine SPC.of (by decide +kernel) (Nat.le_of_ble_eq_true rfl) (ls := [(0, .ref (0))]) rfl ?_
  refine GG.aload_n e_X10_clear_0 (i := 0) rfl 0 rfl ?_
  refine GG.getR (b := 46) e_X10_clear_1 fl_X10_25 (sf_X10_5 i_X10_0) ?_
  refine GG.getI e_X10_clear_4 fl_X10_118 (sf_X7_0 i_X7_46) ?_
  refine GG.istore_n e_X10_clear_7 (i := 1) rfl (Nat.le_of_ble_eq_true rfl) (ls' := [(1, .int _), (0, .ref _)]) rfl ?_
  refine GG.aload_n e_X10_clear_8 (i := 0) rfl 1 rfl ?_
  refine GG.getR (b := 46) e_X10_clear_9 fl_X10_25 (sf_X10_5 i_X10_0) ?_
  refine GG.iconst (v := 0) e_X10_clear_12 rfl ?_
  refine GG.putI e_X10_clear_13 fl_X10_118 fp_X7_0 (sf_X7_0 i_X7_46) ?_
  refine GG.iload_n e_X10_clear_16 (i := 1) rfl 0 rfl ?_
  refine GG.iret e_X10_clear_17 rfl rfl ?_
  exact hQ
theorem s_X10_counts {snd : Int32 → Int32} (hL : LC μ 2 P A) (hU : mrd μ 14 0 = nI U) (hU8 : U ≤ 8) (hsnd : ∀ c, snd c = vSnd (cV μ 2) (mrd μ 2 8) A (mrd μ 2 0) P c) (hbad : oB z 1 99 = true → Q (some (.int (-2))) (mRf μ 10))
    (hok : ∀ n, z = nI n → 1 ≤ n → n ≤ 99 → Q (some (.int (mPass snd 9999 n (mrd μ 2 10, mrd μ 2 9)).1)) (mwr (mwr (mKp μ 2 14 U) 2 10 (mPass snd 9999 n (mrd μ 2 10, mrd μ 2 9)).1) 2 9 (mPass snd 9999 n (mrd μ 2 10, mrd μ 2 9)).2)) : SPC 4 MX10_counts [.ref 0, .int z] μ Q := by
  have k2 : ∀ j, mrd (mKp μ 2 14 U) 2 j = mrd μ 2 j := fun j => mrd_Kp (by omega) 2 (by omega)
  refine SPC.of (by decide +kernel) (Nat.le_of_ble_eq_true rfl) (ls := [(0, .ref (0)), (1, .int (z))]) rfl ?_
  refine GG.iload_n e_X10_counts_0 (i := 1) rfl 1 rfl ?_
  refine GG.iconst (v := 1) e_X10_counts_1 rfl ?_
  refine GG.bipush (v := 99) e_X10_counts_2 rfl ?_
  refine GG.callS (d' := 0) (as := [.int _, .int _, .int _]) e_X10_counts_4 ml_X10_57 mf_X10_outside ms_X10_outside rfl (by decide) (Nat.le_of_ble_eq_true rfl) rfl ?_
  refine s_X10_outside ?_
  refine GG.if_eq (tgt := 17) e_X10_counts_7 rfl (fun h7 => ?_) (fun h7 => ?_)
  · skip
    obtain ⟨n, rfl, o1, o2⟩ := oB_n (A := 1) (B := 99) ((bI_0 _).mp h7) rfl rfl (by omega) (by omega)
    refine GG.aload_n e_X10_counts_17 (i := 0) rfl 0 rfl ?_
    refine GG.getR (b := 1) e_X10_counts_18 fl_X10_12 (sf_X10_0 i_X10_0) ?_
    refine GG.getR (b := 14) e_X10_counts_21 fl_X10_82 (sf_X2_4 i_X2_1) ?_
    refine GG.aload_n e_X10_counts_24 (i := 0) rfl 0 rfl ?_
    refine GG.getR (b := 1) e_X10_counts_25 fl_X10_12 (sf_X10_0 i_X10_0) ?_
    refine GG.getR (b := 2) e_X10_counts_28 fl_X10_65 (sf_X2_0 i_X2_1) ?_
    refine GG.callV (d' := 1) (a := 14) (as := [.ref 2]) e_X10_counts_31 ml_X10_130 mf_X5_keep mv_X5_keep (rc_X5 i_X5_14) rfl (by decide) (Nat.le_of_ble_eq_true rfl) rfl ?_
    refine s_X5_keepC i_X4_2 i_X5_14 hU hU8 ?_
    refine GG.aload_n e_X10_counts_34 (i := 0) rfl 0 rfl ?_
    refine GG.getR (b := 1) e_X10_counts_35 fl_X10_12 (sf_X10_0 i_X10_0) ?_
    refine GG.getR (b := 2) e_X10_counts_38 fl_X10_65 (sf_X2_0 i_X2_1) ?_
    refine GG.iload_n e_X10_counts_41 (i := 1) rfl 1 rfl ?_
    refine GG.sipush (v := 9999) e_X10_counts_42 rfl ?_
    refine GG.callV (d' := 3) (a := 2) (as := [.int _, .int _]) e_X10_counts_45 ml_X10_133 mf_X4_passUpTo mv_X4_passUpTo (rc_X4 i_X4_2) rfl (by decide) (Nat.le_of_ble_eq_true rfl) rfl ?_
    refine s_X4_passUpTo (snd := snd) i_X4_2 (LC_Kp hL) (by omega) ?_ ?_
    · intro c
      rw [hsnd c]
      rw [k2, k2]
      exact vSnd_c VE_Kp
    refine GG.aload_n e_X10_counts_48 (i := 0) rfl 0 rfl ?_
    refine GG.getR (b := 1) e_X10_counts_49 fl_X10_12 (sf_X10_0 i_X10_0) ?_
    refine GG.getR (b := 2) e_X10_counts_52 fl_X10_65 (sf_X2_0 i_X2_1) ?_
    refine GG.getIv (v := (mPass snd 9999 n (mrd μ 2 10, mrd μ 2 9)).1) e_X10_counts_55 fl_X10_137 (sf_X4_10 i_X4_2) (by rw [mrd_wr, if_neg (by omega), mrd_wr, if_pos ⟨rfl, rfl⟩, k2, k2]) ?_
    refine GG.iret e_X10_counts_58 rfl rfl ?_
    refine qM (hok n rfl o1 o2) ?_
    rw [k2, k2]
  · skip
    have o := (bI_n0 _).mp h7
    refine GG.aload_n e_X10_counts_10 (i := 0) rfl 0 rfl ?_
    refine GG.bipush (v := -2) e_X10_counts_11 rfl ?_
    refine GG.callV (d' := 0) (a := 0) (as := [.int _]) e_X10_counts_13 ml_X10_61 mf_X10_refuseBad mv_X10_refuseBad (rc_X10 i_X10_0) rfl (by decide) (Nat.le_of_ble_eq_true rfl) rfl ?_
    refine s_X10_refuseBad ?_
    refine GG.iret e_X10_counts_16 rfl rfl ?_
    exact hbad o
end S30
