/-! THE REFERENCE: its face, first part -/
theorem inT {b : Bool} (h : bI (!b) = 0) : b = true := by cases b <;> first | rfl | exact absurd h (by decide)
theorem inF {b : Bool} (h : ¬ bI (!b) = 0) : b = false := by cases b <;> first | rfl | exact absurd rfl h
theorem mPg_pass {snd : Int32 → Int32} {last : Int32} {ok : Int32 → Bool} (h : ∀ t, ok t = decide (t < last)) (p : Int32 × Int32) : ∀ n, mPg snd ok n p = mPass snd last n p := by
  intro n
  induction n with
  | zero => rfl
  | succ n ih =>
    rw [mPg, mPass, ih]
    by_cases q : (mPass snd last n p).2 < last
    · rw [if_pos q, if_pos (by rw [h, decide_eq_true_eq]; exact q)]
    · rw [if_neg q, if_neg (by rw [h, decide_eq_true_eq]; exact q)]
section S35
variable {μ : gM} {Q : Option Value → gM → Prop} {P A U L T N M B k : Nat} {i c a w z v x y o : Int32}
theorem mrd_Rk {c j : Nat} (h : ¬ (c = 64 ∧ 98 ≤ j ∧ j < 179)) (hU : U ≤ 8) : mrd (mRk μ U) c j = mrd μ c j := by
  unfold mRk
  split
  · rw [mrd_wr, if_neg (by omega), mrd_Cr, if_neg (by omega)]
  · rw [mrd_wr, if_neg (by omega), mrd_Cr, if_neg (by omega), mrd_Sh, if_neg (by omega)]
theorem MR_Rk (hR : MR μ P A) (hU : U ≤ 8) : MR (mRk μ U) P A := by
  unfold MR
  rw [mrd_Rk (by omega) hU, mrd_Rk (by omega) hU]
  exact hR
theorem VE_Rk (hR : MR μ P A) (hU : U ≤ 8) : VE (rV (mRk μ U) 0) (rV μ 0) P A := by
  have := hR.2.1
  have := hR.2.2.2
  refine ⟨fun k hk => ⟨?_, ?_, ?_⟩, fun k hk => ⟨?_, ?_⟩⟩ <;> exact mrd_Rk (by omega) hU
theorem s_X11_one (hR : MR μ P A) (hbad : (oB x 0 5 || oB y 0 1 || oB z 0 9) = true → Q (some (.int (-2))) (rRf μ 0)) (hfull : (oB x 0 5 || oB y 0 1 || oB z 0 9) = false → P = 7 → Q (some (.int (-4))) (rRf μ 2))
    (hok : (oB x 0 5 || oB y 0 1 || oB z 0 9) = false → P < 7 → Q (some (.int (nI P))) (rOne μ P x y z)) : SPC 1 MX11_one [.ref 63, .int x, .int y, .int z] μ Q := by
  have hP7 := hR.2.1
  refine SPC.of (by decide +kernel) (Nat.le_of_ble_eq_true rfl) (ls := [(0, .ref (63)), (1, .int (x)), (2, .int (y)), (3, .int (z))]) rfl ?_
  refine GG.iload_n e_X11_one_0 (i := 1) rfl 1 rfl ?_
  refine GG.iconst (v := 0) e_X11_one_1 rfl ?_
  refine GG.iconst (v := 5) e_X11_one_2 rfl ?_
  refine GG.callS (d' := 0) (as := [.int _, .int _, .int _]) e_X11_one_3 ml_X11_51 mf_X11_in ms_X11_in rfl (by decide) (Nat.le_of_ble_eq_true rfl) rfl ?_
  refine s_X11_inO ?_
  refine GG.if_eq (tgt := 28) e_X11_one_6 rfl (fun h6 => ?_) (fun h6 => ?_)
  · skip
    have oo := inT h6
    refine GG.aload_n e_X11_one_28 (i := 0) rfl 0 rfl ?_
    refine GG.bipush (v := -2) e_X11_one_29 rfl ?_
    refine GG.callV (d' := 0) (a := 63) (as := [.int _]) e_X11_one_31 ml_X11_55 mf_X11_refuse mv_X11_refuse (rc_X11 i_X11_63) rfl (by decide) (Nat.le_of_ble_eq_true rfl) rfl ?_
    refine s_X11_refB ?_
    refine GG.iret e_X11_one_34 rfl rfl ?_
    exact hbad (by simp [oo])
  · skip
    have o1 := inF h6
    refine GG.iload_n e_X11_one_9 (i := 2) rfl 2 rfl ?_
    refine GG.iconst (v := 0) e_X11_one_10 rfl ?_
    refine GG.iconst (v := 1) e_X11_one_11 rfl ?_
    refine GG.callS (d' := 0) (as := [.int _, .int _, .int _]) e_X11_one_12 ml_X11_51 mf_X11_in ms_X11_in rfl (by decide) (Nat.le_of_ble_eq_true rfl) rfl ?_
    refine s_X11_inO ?_
    refine GG.if_eq (tgt := 28) e_X11_one_15 rfl (fun h15 => ?_) (fun h15 => ?_)
    · skip
      have oo := inT h15
      refine GG.aload_n e_X11_one_28 (i := 0) rfl 0 rfl ?_
      refine GG.bipush (v := -2) e_X11_one_29 rfl ?_
      refine GG.callV (d' := 0) (a := 63) (as := [.int _]) e_X11_one_31 ml_X11_55 mf_X11_refuse mv_X11_refuse (rc_X11 i_X11_63) rfl (by decide) (Nat.le_of_ble_eq_true rfl) rfl ?_
      refine s_X11_refB ?_
      refine GG.iret e_X11_one_34 rfl rfl ?_
      exact hbad (by simp [oo])
    · skip
      have o2 := inF h15
      refine GG.iload_n e_X11_one_18 (i := 3) rfl 3 rfl ?_
      refine GG.iconst (v := 0) e_X11_one_19 rfl ?_
      refine GG.bipush (v := 9) e_X11_one_20 rfl ?_
      refine GG.callS (d' := 0) (as := [.int _, .int _, .int _]) e_X11_one_22 ml_X11_51 mf_X11_in ms_X11_in rfl (by decide) (Nat.le_of_ble_eq_true rfl) rfl ?_
      refine s_X11_inO ?_
      refine GG.if_ne (tgt := 35) e_X11_one_25 rfl (fun h25 => ?_) (fun h25 => ?_)
      · skip
        have o3 := inF h25
        refine GG.aload_n e_X11_one_35 (i := 0) rfl 0 rfl ?_
        refine GG.getR (b := 64) e_X11_one_36 fl_X11_7 (sf_X11_0 i_X11_63) ?_
        refine GG.bipush (v := 11) e_X11_one_39 rfl ?_
        refine GG.ialoadV (k := 11) (v := nI P) e_X11_one_41 (sa_X11_0 i_X11_63) (rfl) (by omega) (Nat.le_of_ble_eq_true rfl) (hR.1) ?_
        refine GG.bipush (v := 7) e_X11_one_42 rfl ?_
        refine GG.icmp_ne (tgt := 54) e_X11_one_44 rfl (fun h44 => ?_) (fun h44 => ?_)
        · skip
          have e : ¬ P = 7 := fun z => h44 (by rw [z]; rfl)
          refine GG.aload_n e_X11_one_54 (i := 0) rfl 0 rfl ?_
          refine GG.iload_n e_X11_one_55 (i := 1) rfl 1 rfl ?_
          refine GG.iload_n e_X11_one_56 (i := 2) rfl 2 rfl ?_
          refine GG.iload_n e_X11_one_57 (i := 3) rfl 3 rfl ?_
          refine GG.callV (d' := 0) (a := 63) (as := [.int _, .int _, .int _]) e_X11_one_58 ml_X11_63 mf_X11_addOne mv_X11_addOne (rc_X11 i_X11_63) rfl (by decide) (Nat.le_of_ble_eq_true rfl) rfl ?_
          refine s_X11_addOne hR.1 (by omega) ?_
          refine GG.aload_n e_X11_one_61 (i := 0) rfl 0 rfl ?_
          refine GG.getR (b := 64) e_X11_one_62 fl_X11_7 (sf_X11_0 i_X11_63) ?_
          refine GG.bipush (v := 11) e_X11_one_65 rfl ?_
          refine GG.ialoadV (k := 11) (v := nI (P + 1)) e_X11_one_67 (sa_X11_0 i_X11_63) (rfl) (by omega) (Nat.le_of_ble_eq_true rfl) (by simp [rOne, mrd_wr]) ?_
          refine GG.iconst (v := 1) e_X11_one_68 rfl ?_
          refine GG.isub e_X11_one_69 ?_
          refine GG.iret e_X11_one_70 rfl rfl ?_
          exact qI (hok (by simp [o1, o2, o3]) (by omega)) (by rw [show (1 : Int32) = nI 1 from rfl, pk_sub (by omega)]; rfl)
        · skip
          have e : P = 7 := (nI_eq (b := 7) (by omega) (by omega)).mp h44
          refine GG.aload_n e_X11_one_47 (i := 0) rfl 0 rfl ?_
          refine GG.bipush (v := -4) e_X11_one_48 rfl ?_
          refine GG.callV (d' := 0) (a := 63) (as := [.int _]) e_X11_one_50 ml_X11_55 mf_X11_refuse mv_X11_refuse (rc_X11 i_X11_63) rfl (by decide) (Nat.le_of_ble_eq_true rfl) rfl ?_
          refine s_X11_refF ?_
          refine GG.iret e_X11_one_53 rfl rfl ?_
          exact hfull (by simp [o1, o2, o3]) e
      · skip
        have oo := inT h25
        refine GG.aload_n e_X11_one_28 (i := 0) rfl 0 rfl ?_
        refine GG.bipush (v := -2) e_X11_one_29 rfl ?_
        refine GG.callV (d' := 0) (a := 63) (as := [.int _]) e_X11_one_31 ml_X11_55 mf_X11_refuse mv_X11_refuse (rc_X11 i_X11_63) rfl (by decide) (Nat.le_of_ble_eq_true rfl) rfl ?_
        refine s_X11_refB ?_
        refine GG.iret e_X11_one_34 rfl rfl ?_
        exact hbad (by simp [oo])
theorem s_X11_aunt (hR : MR μ P A) (hbad : (oB x 0 5 || oB y 0 1) = true → Q (some (.int (-2))) (rRf μ 0)) (hfull : (oB x 0 5 || oB y 0 1) = false → A = 4 → Q (some (.int (-4))) (rRf μ 2))
    (hok : (oB x 0 5 || oB y 0 1) = false → A < 4 → Q (some (.int (nI A))) (rAunt μ A x y)) : SPC 1 MX11_aunt [.ref 63, .int x, .int y] μ Q := by
  have hA4 := hR.2.2.2
  refine SPC.of (by decide +kernel) (Nat.le_of_ble_eq_true rfl) (ls := [(0, .ref (63)), (1, .int (x)), (2, .int (y))]) rfl ?_
  refine GG.iload_n e_X11_aunt_0 (i := 1) rfl 1 rfl ?_
  refine GG.iconst (v := 0) e_X11_aunt_1 rfl ?_
  refine GG.iconst (v := 5) e_X11_aunt_2 rfl ?_
  refine GG.callS (d' := 0) (as := [.int _, .int _, .int _]) e_X11_aunt_3 ml_X11_51 mf_X11_in ms_X11_in rfl (by decide) (Nat.le_of_ble_eq_true rfl) rfl ?_
  refine s_X11_inO ?_
  refine GG.if_eq (tgt := 18) e_X11_aunt_6 rfl (fun h6 => ?_) (fun h6 => ?_)
  · skip
    have oo := inT h6
    refine GG.aload_n e_X11_aunt_18 (i := 0) rfl 0 rfl ?_
    refine GG.bipush (v := -2) e_X11_aunt_19 rfl ?_
    refine GG.callV (d' := 0) (a := 63) (as := [.int _]) e_X11_aunt_21 ml_X11_55 mf_X11_refuse mv_X11_refuse (rc_X11 i_X11_63) rfl (by decide) (Nat.le_of_ble_eq_true rfl) rfl ?_
    refine s_X11_refB ?_
    refine GG.iret e_X11_aunt_24 rfl rfl ?_
    exact hbad (by simp [oo])
  · skip
    have o1 := inF h6
    refine GG.iload_n e_X11_aunt_9 (i := 2) rfl 2 rfl ?_
    refine GG.iconst (v := 0) e_X11_aunt_10 rfl ?_
    refine GG.iconst (v := 1) e_X11_aunt_11 rfl ?_
    refine GG.callS (d' := 0) (as := [.int _, .int _, .int _]) e_X11_aunt_12 ml_X11_51 mf_X11_in ms_X11_in rfl (by decide) (Nat.le_of_ble_eq_true rfl) rfl ?_
    refine s_X11_inO ?_
    refine GG.if_ne (tgt := 25) e_X11_aunt_15 rfl (fun h15 => ?_) (fun h15 => ?_)
    · skip
      have o2 := inF h15
      refine GG.aload_n e_X11_aunt_25 (i := 0) rfl 0 rfl ?_
      refine GG.getR (b := 64) e_X11_aunt_26 fl_X11_7 (sf_X11_0 i_X11_63) ?_
      refine GG.bipush (v := 26) e_X11_aunt_29 rfl ?_
      refine GG.ialoadV (k := 26) (v := nI A) e_X11_aunt_31 (sa_X11_0 i_X11_63) (rfl) (by omega) (Nat.le_of_ble_eq_true rfl) (hR.2.2.1) ?_
      refine GG.iconst (v := 4) e_X11_aunt_32 rfl ?_
      refine GG.icmp_ne (tgt := 43) e_X11_aunt_33 rfl (fun h33 => ?_) (fun h33 => ?_)
      · skip
        have e : ¬ A = 4 := fun z => h33 (by rw [z]; rfl)
        refine GG.aload_n e_X11_aunt_43 (i := 0) rfl 0 rfl ?_
        refine GG.iload_n e_X11_aunt_44 (i := 1) rfl 1 rfl ?_
        refine GG.iload_n e_X11_aunt_45 (i := 2) rfl 2 rfl ?_
        refine GG.callV (d' := 0) (a := 63) (as := [.int _, .int _]) e_X11_aunt_46 ml_X11_67 mf_X11_addAunt mv_X11_addAunt (rc_X11 i_X11_63) rfl (by decide) (Nat.le_of_ble_eq_true rfl) rfl ?_
        refine s_X11_addAunt hR.2.2.1 (by omega) ?_
        refine GG.aload_n e_X11_aunt_49 (i := 0) rfl 0 rfl ?_
        refine GG.getR (b := 64) e_X11_aunt_50 fl_X11_7 (sf_X11_0 i_X11_63) ?_
        refine GG.bipush (v := 26) e_X11_aunt_53 rfl ?_
        refine GG.ialoadV (k := 26) (v := nI (A + 1)) e_X11_aunt_55 (sa_X11_0 i_X11_63) (rfl) (by omega) (Nat.le_of_ble_eq_true rfl) (by simp [rAunt, mrd_wr]) ?_
        refine GG.iconst (v := 1) e_X11_aunt_56 rfl ?_
        refine GG.isub e_X11_aunt_57 ?_
        refine GG.iret e_X11_aunt_58 rfl rfl ?_
        exact qI (hok (by simp [o1, o2]) (by omega)) (by rw [show (1 : Int32) = nI 1 from rfl, pk_sub (by omega)]; rfl)
      · skip
        have e : A = 4 := (nI_eq (b := 4) (by omega) (by omega)).mp h33
        refine GG.aload_n e_X11_aunt_36 (i := 0) rfl 0 rfl ?_
        refine GG.bipush (v := -4) e_X11_aunt_37 rfl ?_
        refine GG.callV (d' := 0) (a := 63) (as := [.int _]) e_X11_aunt_39 ml_X11_55 mf_X11_refuse mv_X11_refuse (rc_X11 i_X11_63) rfl (by decide) (Nat.le_of_ble_eq_true rfl) rfl ?_
        refine s_X11_refF ?_
        refine GG.iret e_X11_aunt_42 rfl rfl ?_
        exact hfull (by simp [o1, o2]) e
    · skip
      have oo := inT h15
      refine GG.aload_n e_X11_aunt_18 (i := 0) rfl 0 rfl ?_
      refine GG.bipush (v := -2) e_X11_aunt_19 rfl ?_
      refine GG.callV (d' := 0) (a := 63) (as := [.int _]) e_X11_aunt_21 ml_X11_55 mf_X11_refuse mv_X11_refuse (rc_X11 i_X11_63) rfl (by decide) (Nat.le_of_ble_eq_true rfl) rfl ?_
      refine s_X11_refB ?_
      refine GG.iret e_X11_aunt_24 rfl rfl ?_
      exact hbad (by simp [oo])
theorem s_X11_type (hL : mrd μ 63 6 = nI L) (hL5 : L ≤ 150) (hbad : oB c 0 127 = true → Q (some (.int (-2))) (rRf μ 0)) (hfull : oB c 0 127 = false → L = 150 → Q (some (.int (-4))) (rRf μ 2))
    (hok : oB c 0 127 = false → L < 150 → Q (some (.int (nI (L + 1)))) (mwr (mwr μ 67 L c) 63 6 (nI (L + 1)))) : SPC 1 MX11_type [.ref 63, .int c] μ Q := by
  refine SPC.of (by decide +kernel) (Nat.le_of_ble_eq_true rfl) (ls := [(0, .ref (63)), (1, .int (c))]) rfl ?_
  refine GG.iload_n e_X11_type_0 (i := 1) rfl 1 rfl ?_
  refine GG.iconst (v := 0) e_X11_type_1 rfl ?_
  refine GG.bipush (v := 127) e_X11_type_2 rfl ?_
  refine GG.callS (d' := 0) (as := [.int _, .int _, .int _]) e_X11_type_4 ml_X11_51 mf_X11_in ms_X11_in rfl (by decide) (Nat.le_of_ble_eq_true rfl) rfl ?_
  refine s_X11_inO ?_
  refine GG.if_ne (tgt := 17) e_X11_type_7 rfl (fun h7 => ?_) (fun h7 => ?_)
  · skip
    have o := inF h7
    refine GG.aload_n e_X11_type_17 (i := 0) rfl 0 rfl ?_
    refine GG.getIv (v := nI L) e_X11_type_18 fl_X11_71 (sf_X11_6 i_X11_63) (hL) ?_
    refine GG.sipush (v := 150) e_X11_type_21 rfl ?_
    refine GG.icmp_ne (tgt := 34) e_X11_type_24 rfl (fun h24 => ?_) (fun h24 => ?_)
    · skip
      have e : ¬ L = 150 := fun z => h24 (by rw [z]; rfl)
      refine GG.aload_n e_X11_type_34 (i := 0) rfl 0 rfl ?_
      refine GG.getR (b := 67) e_X11_type_35 fl_X11_24 (sf_X11_5 i_X11_63) ?_
      refine GG.aload_n e_X11_type_38 (i := 0) rfl 0 rfl ?_
      refine GG.getIv (v := nI L) e_X11_type_39 fl_X11_71 (sf_X11_6 i_X11_63) (hL) ?_
      refine GG.iload_n e_X11_type_42 (i := 1) rfl 1 rfl ?_
      refine GG.iastoreE (k := L) e_X11_type_43 (sa_X11_5 i_X11_63) (rfl) (by omega) (Nat.le_of_ble_eq_true rfl) ?_
      refine GG.aload_n e_X11_type_44 (i := 0) rfl 0 rfl ?_
      refine GG.dup e_X11_type_45 rfl ?_
      refine GG.getIv (v := nI L) e_X11_type_46 fl_X11_71 (sf_X11_6 i_X11_63) (by rw [mrd_wr, if_neg (by omega), hL]) ?_
      refine GG.iconst (v := 1) e_X11_type_49 rfl ?_
      refine GG.iadd e_X11_type_50 ?_
      refine GG.top (nI_1 L) ?_
      refine GG.putI e_X11_type_51 fl_X11_71 fp_X11_6 (sf_X11_6 i_X11_63) ?_
      refine GG.aload_n e_X11_type_54 (i := 0) rfl 0 rfl ?_
      refine GG.getIv (v := nI (L + 1)) e_X11_type_55 fl_X11_71 (sf_X11_6 i_X11_63) (by simp [mrd_wr]) ?_
      refine GG.iret e_X11_type_58 rfl rfl ?_
      exact hok o (by omega)
    · skip
      have e : L = 150 := (nI_eq (b := 150) (by omega) (by omega)).mp h24
      refine GG.aload_n e_X11_type_27 (i := 0) rfl 0 rfl ?_
      refine GG.bipush (v := -4) e_X11_type_28 rfl ?_
      refine GG.callV (d' := 0) (a := 63) (as := [.int _]) e_X11_type_30 ml_X11_55 mf_X11_refuse mv_X11_refuse (rc_X11 i_X11_63) rfl (by decide) (Nat.le_of_ble_eq_true rfl) rfl ?_
      refine s_X11_refF ?_
      refine GG.iret e_X11_type_33 rfl rfl ?_
      exact hfull o e
  · skip
    have oo := inT h7
    refine GG.aload_n e_X11_type_10 (i := 0) rfl 0 rfl ?_
    refine GG.bipush (v := -2) e_X11_type_11 rfl ?_
    refine GG.callV (d' := 0) (a := 63) (as := [.int _]) e_X11_type_13 ml_X11_55 mf_X11_refuse mv_X11_refuse (rc_X11 i_X11_63) rfl (by decide) (Nat.le_of_ble_eq_true rfl) rfl ?_
    refine s_X11_refB ?_
    refine GG.iret e_X11_type_16 rfl rfl ?_
    exact hbad oo
theorem s_X11_clear (hQ : Q (some (.int (mrd μ 63 6))) (mwr μ 63 6 0)) : SPC 0 MX11_clear [.ref 63] μ Q := by
  refine SPC.of (by decide +kernel) (Nat.le_of_ble_eq_true rfl) (ls := [(0, .ref (63))]) rfl ?_
  refine GG.aload_n e_X11_clear_0 (i := 0) rfl 0 rfl ?_
  refine GG.getI e_X11_clear_1 fl_X11_71 (sf_X11_6 i_X11_63) ?_
  refine GG.istore_n e_X11_clear_4 (i := 1) rfl (Nat.le_of_ble_eq_true rfl) (ls' := [(1, .int _), (0, .ref _)]) rfl ?_
  refine GG.aload_n e_X11_clear_5 (i := 0) rfl 1 rfl ?_
  refine GG.iconst (v := 0) e_X11_clear_6 rfl ?_
  refine GG.putI e_X11_clear_7 fl_X11_71 fp_X11_6 (sf_X11_6 i_X11_63) ?_
  refine GG.iload_n e_X11_clear_10 (i := 1) rfl 0 rfl ?_
  refine GG.iret e_X11_clear_11 rfl rfl ?_
  exact hQ
theorem s_X11_counts {snd : Int32 → Int32} (hR : MR μ P A) (hU : mrd μ 64 98 = nI U) (hU8 : U ≤ 8) (hs : ∀ c, snd c = vSnd (rV μ 0) (mrd μ 64 7) A (mrd μ 64 10) P c) (hbad : oB z 1 99 = true → Q (some (.int (-2))) (rRf μ 0))
    (hok : ∀ n, z = nI n → 1 ≤ n → n ≤ 99 → ∀ ν, gL9 (mwr (mwr (mRk μ U) 64 8 (mPass snd 9999 n (mrd μ 64 8, mrd μ 64 9)).1) 64 9 (mPass snd 9999 n (mrd μ 64 8, mrd μ 64 9)).2) ν → Q (some (.int (mPass snd 9999 n (mrd μ 64 8, mrd μ 64 9)).1)) ν) : SPC 6 MX11_counts [.ref 63, .int z] μ Q := by
  have k8 : ∀ j, j < 98 → mrd (mRk μ U) 64 j = mrd μ 64 j := fun j h => mrd_Rk (by omega) hU8
  refine SPC.of (by decide +kernel) (Nat.le_of_ble_eq_true rfl) (ls := [(0, .ref (63)), (1, .int (z))]) rfl ?_
  refine GG.iload_n e_X11_counts_0 (i := 1) rfl 1 rfl ?_
  refine GG.iconst (v := 1) e_X11_counts_1 rfl ?_
  refine GG.bipush (v := 99) e_X11_counts_2 rfl ?_
  refine GG.callS (d' := 0) (as := [.int _, .int _, .int _]) e_X11_counts_4 ml_X11_51 mf_X11_in ms_X11_in rfl (by decide) (Nat.le_of_ble_eq_true rfl) rfl ?_
  refine s_X11_inO ?_
  refine GG.if_ne (tgt := 17) e_X11_counts_7 rfl (fun h7 => ?_) (fun h7 => ?_)
  · skip
    obtain ⟨n, rfl, o1, o2⟩ := oB_n (A := 1) (B := 99) (inF h7) rfl rfl (by omega) (by omega)
    refine GG.aload_n e_X11_counts_17 (i := 0) rfl 0 rfl ?_
    refine GG.callV (d' := 0) (a := 63) (as := []) e_X11_counts_18 ml_X11_156 mf_X11_keepPast mv_X11_keepPast (rc_X11 i_X11_63) rfl (by decide) (Nat.le_of_ble_eq_true rfl) rfl ?_
    refine s_X11_keepPast hU hU8 ?_
    refine GG.aload_n e_X11_counts_21 (i := 0) rfl 0 rfl ?_
    refine GG.iconst (v := 0) e_X11_counts_22 rfl ?_
    refine GG.iload_n e_X11_counts_23 (i := 1) rfl 1 rfl ?_
    refine GG.callV (d' := 5) (a := 63) (as := [.int _, .int _]) e_X11_counts_24 ml_X11_118 mf_X11_goBy mv_X11_goBy (rc_X11 i_X11_63) rfl (by decide) (Nat.le_of_ble_eq_true rfl) rfl ?_
    refine s_X11_goBy (B := 0) (snd := snd) (ok := fun t => decide (t < 9999)) (MR_Rk hR hU8) (Or.inl ⟨rfl, fun _ => rfl⟩) (by omega) (fun c => ?_) (fun ν hν => ?_)
    · rw [hs c, k8 7 (by omega), k8 10 (by omega)]
      exact (vSnd_c (VE_Rk hR hU8)).symm
    rw [mPg_pass (last := 9999) (fun _ => rfl), k8 8 (by omega), k8 9 (by omega)] at hν
    refine GG.aload_n e_X11_counts_27 (i := 0) rfl 0 rfl ?_
    refine GG.getR (b := 64) e_X11_counts_28 fl_X11_7 (sf_X11_0 i_X11_63) ?_
    refine GG.bipush (v := 8) e_X11_counts_31 rfl ?_
    refine GG.ialoadV (k := 8) (v := (mPass snd 9999 n (mrd μ 64 8, mrd μ 64 9)).1) e_X11_counts_33 (sa_X11_0 i_X11_63) (rfl) (by omega) (Nat.le_of_ble_eq_true rfl) (by rw [hν.row]; simp [mrd_wr]) ?_
    refine GG.iret e_X11_counts_34 rfl rfl ?_
    exact hok n rfl o1 o2 ν hν
  · skip
    have oo := inT h7
    refine GG.aload_n e_X11_counts_10 (i := 0) rfl 0 rfl ?_
    refine GG.bipush (v := -2) e_X11_counts_11 rfl ?_
    refine GG.callV (d' := 0) (a := 63) (as := [.int _]) e_X11_counts_13 ml_X11_55 mf_X11_refuse mv_X11_refuse (rc_X11 i_X11_63) rfl (by decide) (Nat.le_of_ble_eq_true rfl) rfl ?_
    refine s_X11_refB ?_
    refine GG.iret e_X11_counts_16 rfl rfl ?_
    exact hbad oo
theorem s_X11_swings (hR : MR μ P A) (hU : mrd μ 64 98 = nI U) (hU8 : U ≤ 8) (hbad : (!mIn i P || oB a 0 9) = true → Q (some (.int (-2))) (rRf μ 0))
    (hno : ∀ k, k < P → i = nI k → oB a 0 9 = false → mrd μ 64 k = a → Q (some (.int (-3))) (rRf μ 1))
    (hok : ∀ k, k < P → i = nI k → oB a 0 9 = false → ¬ mrd μ 64 k = a → Q (some (.int (mrd μ 64 k))) (mwr (mRk μ U) 64 k a)) : SPC 2 MX11_swings [.ref 63, .int i, .int a] μ Q := by
  have hP7 := hR.2.1
  refine SPC.of (by decide +kernel) (Nat.le_of_ble_eq_true rfl) (ls := [(0, .ref (63)), (1, .int (i)), (2, .int (a))]) rfl ?_
  refine GG.aload_n e_X11_swings_0 (i := 0) rfl 0 rfl ?_
  refine GG.iload_n e_X11_swings_1 (i := 1) rfl 1 rfl ?_
  refine GG.callV (d' := 1) (a := 63) (as := [.int _]) e_X11_swings_2 ml_X11_159 mf_X11_isOne mv_X11_isOne (rc_X11 i_X11_63) rfl (by decide) (Nat.le_of_ble_eq_true rfl) rfl ?_
  refine s_X11_isOne hR ?_
  refine GG.if_eq (tgt := 18) e_X11_swings_5 rfl (fun h5 => ?_) (fun h5 => ?_)
  · skip
    have oo := (bI_0 _).mp h5
    refine GG.aload_n e_X11_swings_18 (i := 0) rfl 0 rfl ?_
    refine GG.bipush (v := -2) e_X11_swings_19 rfl ?_
    refine GG.callV (d' := 0) (a := 63) (as := [.int _]) e_X11_swings_21 ml_X11_55 mf_X11_refuse mv_X11_refuse (rc_X11 i_X11_63) rfl (by decide) (Nat.le_of_ble_eq_true rfl) rfl ?_
    refine s_X11_refB ?_
    refine GG.iret e_X11_swings_24 rfl rfl ?_
    exact hbad (by simp [oo])
  · skip
    obtain ⟨k, hk, rfl⟩ := mIn_of ((bI_n0 _).mp h5) (by omega)
    have z0 : 0 + nI k = nI k := by rw [show (0 : Int32) = nI 0 from rfl, nI_add, Nat.zero_add]
    refine GG.iload_n e_X11_swings_8 (i := 2) rfl 2 rfl ?_
    refine GG.iconst (v := 0) e_X11_swings_9 rfl ?_
    refine GG.bipush (v := 9) e_X11_swings_10 rfl ?_
    refine GG.callS (d' := 0) (as := [.int _, .int _, .int _]) e_X11_swings_12 ml_X11_51 mf_X11_in ms_X11_in rfl (by decide) (Nat.le_of_ble_eq_true rfl) rfl ?_
    refine s_X11_inO ?_
    refine GG.if_ne (tgt := 25) e_X11_swings_15 rfl (fun h15 => ?_) (fun h15 => ?_)
    · skip
      have o := inF h15
      refine GG.aload_n e_X11_swings_25 (i := 0) rfl 0 rfl ?_
      refine GG.getR (b := 64) e_X11_swings_26 fl_X11_7 (sf_X11_0 i_X11_63) ?_
      refine GG.iconst (v := 0) e_X11_swings_29 rfl ?_
      refine GG.iload_n e_X11_swings_30 (i := 1) rfl 1 rfl ?_
      refine GG.iadd e_X11_swings_31 ?_
      refine GG.ialoadE (k := k) e_X11_swings_32 (sa_X11_0 i_X11_63) (z0) (by omega) (Nat.le_of_ble_eq_true rfl) ?_
      refine GG.istore_n e_X11_swings_33 (i := 3) rfl (Nat.le_of_ble_eq_true rfl) (ls' := [(3, .int _), (0, .ref _), (1, .int _), (2, .int _)]) rfl ?_
      refine GG.iload_n e_X11_swings_34 (i := 3) rfl 0 rfl ?_
      refine GG.iload_n e_X11_swings_35 (i := 2) rfl 3 rfl ?_
      refine GG.icmp_ne (tgt := 46) e_X11_swings_36 rfl (fun h36 => ?_) (fun h36 => ?_)
      · skip
        refine GG.aload_n e_X11_swings_46 (i := 0) rfl 1 rfl ?_
        refine GG.callV (d' := 0) (a := 63) (as := []) e_X11_swings_47 ml_X11_156 mf_X11_keepPast mv_X11_keepPast (rc_X11 i_X11_63) rfl (by decide) (Nat.le_of_ble_eq_true rfl) rfl ?_
        refine s_X11_keepPast hU hU8 ?_
        refine GG.aload_n e_X11_swings_50 (i := 0) rfl 1 rfl ?_
        refine GG.getR (b := 64) e_X11_swings_51 fl_X11_7 (sf_X11_0 i_X11_63) ?_
        refine GG.iconst (v := 0) e_X11_swings_54 rfl ?_
        refine GG.iload_n e_X11_swings_55 (i := 1) rfl 2 rfl ?_
        refine GG.iadd e_X11_swings_56 ?_
        refine GG.iload_n e_X11_swings_57 (i := 2) rfl 3 rfl ?_
        refine GG.iastoreE (k := k) e_X11_swings_58 (sa_X11_0 i_X11_63) (z0) (by omega) (Nat.le_of_ble_eq_true rfl) ?_
        refine GG.iload_n e_X11_swings_59 (i := 3) rfl 0 rfl ?_
        refine GG.iret e_X11_swings_60 rfl rfl ?_
        exact hok k hk rfl o h36
      · skip
        refine GG.aload_n e_X11_swings_39 (i := 0) rfl 1 rfl ?_
        refine GG.bipush (v := -3) e_X11_swings_40 rfl ?_
        refine GG.callV (d' := 0) (a := 63) (as := [.int _]) e_X11_swings_42 ml_X11_55 mf_X11_refuse mv_X11_refuse (rc_X11 i_X11_63) rfl (by decide) (Nat.le_of_ble_eq_true rfl) rfl ?_
        refine s_X11_refN ?_
        refine GG.iret e_X11_swings_45 rfl rfl ?_
        exact hno k hk rfl o h36
    · skip
      have oo := inT h15
      refine GG.aload_n e_X11_swings_18 (i := 0) rfl 0 rfl ?_
      refine GG.bipush (v := -2) e_X11_swings_19 rfl ?_
      refine GG.callV (d' := 0) (a := 63) (as := [.int _]) e_X11_swings_21 ml_X11_55 mf_X11_refuse mv_X11_refuse (rc_X11 i_X11_63) rfl (by decide) (Nat.le_of_ble_eq_true rfl) rfl ?_
      refine s_X11_refB ?_
      refine GG.iret e_X11_swings_24 rfl rfl ?_
      exact hbad (by simp [oo])
theorem s_X11_sends (hR : MR μ P A) (hU : mrd μ 64 98 = nI U) (hU8 : U ≤ 8) (hbad : (!mIn i A || oB z 0 1) = true → Q (some (.int (-2))) (rRf μ 0))
    (hno : ∀ k, k < A → i = nI k → oB z 0 1 = false → (mrd μ 64 7 >>> (nI k &&& 31)) &&& 1 = z → Q (some (.int (-3))) (rRf μ 1))
    (hok : ∀ k, k < A → i = nI k → oB z 0 1 = false → ¬ (mrd μ 64 7 >>> (nI k &&& 31)) &&& 1 = z → Q (some (.int ((mrd μ 64 7 >>> (nI k &&& 31)) &&& 1))) (mwr (mRk μ U) 64 7 (mrd μ 64 7 ^^^ ((1 : Int32) <<< (nI k &&& 31))))) : SPC 2 MX11_sends [.ref 63, .int i, .int z] μ Q := by
  have hA4 := hR.2.2.2
  refine SPC.of (by decide +kernel) (Nat.le_of_ble_eq_true rfl) (ls := [(0, .ref (63)), (1, .int (i)), (2, .int (z))]) rfl ?_
  refine GG.aload_n e_X11_sends_0 (i := 0) rfl 0 rfl ?_
  refine GG.iload_n e_X11_sends_1 (i := 1) rfl 1 rfl ?_
  refine GG.callV (d' := 1) (a := 63) (as := [.int _]) e_X11_sends_2 ml_X11_162 mf_X11_isAunt mv_X11_isAunt (rc_X11 i_X11_63) rfl (by decide) (Nat.le_of_ble_eq_true rfl) rfl ?_
  refine s_X11_isAunt hR ?_
  refine GG.if_eq (tgt := 17) e_X11_sends_5 rfl (fun h5 => ?_) (fun h5 => ?_)
  · skip
    have oo := (bI_0 _).mp h5
    refine GG.aload_n e_X11_sends_17 (i := 0) rfl 0 rfl ?_
    refine GG.bipush (v := -2) e_X11_sends_18 rfl ?_
    refine GG.callV (d' := 0) (a := 63) (as := [.int _]) e_X11_sends_20 ml_X11_55 mf_X11_refuse mv_X11_refuse (rc_X11 i_X11_63) rfl (by decide) (Nat.le_of_ble_eq_true rfl) rfl ?_
    refine s_X11_refB ?_
    refine GG.iret e_X11_sends_23 rfl rfl ?_
    exact hbad (by simp [oo])
  · skip
    obtain ⟨k, hk, rfl⟩ := mIn_of ((bI_n0 _).mp h5) (by omega)
    refine GG.iload_n e_X11_sends_8 (i := 2) rfl 2 rfl ?_
    refine GG.iconst (v := 0) e_X11_sends_9 rfl ?_
    refine GG.iconst (v := 1) e_X11_sends_10 rfl ?_
    refine GG.callS (d' := 0) (as := [.int _, .int _, .int _]) e_X11_sends_11 ml_X11_51 mf_X11_in ms_X11_in rfl (by decide) (Nat.le_of_ble_eq_true rfl) rfl ?_
    refine s_X11_inO ?_
    refine GG.if_ne (tgt := 24) e_X11_sends_14 rfl (fun h14 => ?_) (fun h14 => ?_)
    · skip
      have o := inF h14
      refine GG.aload_n e_X11_sends_24 (i := 0) rfl 0 rfl ?_
      refine GG.getR (b := 64) e_X11_sends_25 fl_X11_7 (sf_X11_0 i_X11_63) ?_
      refine GG.bipush (v := 7) e_X11_sends_28 rfl ?_
      refine GG.ialoadE (k := 7) e_X11_sends_30 (sa_X11_0 i_X11_63) (rfl) (by omega) (Nat.le_of_ble_eq_true rfl) ?_
      refine GG.iload_n e_X11_sends_31 (i := 1) rfl 1 rfl ?_
      refine GG.ishr e_X11_sends_32 ?_
      refine GG.iconst (v := 1) e_X11_sends_33 rfl ?_
      refine GG.iand e_X11_sends_34 ?_
      refine GG.istore_n e_X11_sends_35 (i := 3) rfl (Nat.le_of_ble_eq_true rfl) (ls' := [(3, .int _), (0, .ref _), (1, .int _), (2, .int _)]) rfl ?_
      refine GG.iload_n e_X11_sends_36 (i := 3) rfl 0 rfl ?_
      refine GG.iload_n e_X11_sends_37 (i := 2) rfl 3 rfl ?_
      refine GG.icmp_ne (tgt := 48) e_X11_sends_38 rfl (fun h38 => ?_) (fun h38 => ?_)
      · skip
        refine GG.aload_n e_X11_sends_48 (i := 0) rfl 1 rfl ?_
        refine GG.callV (d' := 0) (a := 63) (as := []) e_X11_sends_49 ml_X11_156 mf_X11_keepPast mv_X11_keepPast (rc_X11 i_X11_63) rfl (by decide) (Nat.le_of_ble_eq_true rfl) rfl ?_
        refine s_X11_keepPast hU hU8 ?_
        refine GG.aload_n e_X11_sends_52 (i := 0) rfl 1 rfl ?_
        refine GG.getR (b := 64) e_X11_sends_53 fl_X11_7 (sf_X11_0 i_X11_63) ?_
        refine GG.bipush (v := 7) e_X11_sends_56 rfl ?_
        refine GG.dup2 e_X11_sends_58 rfl rfl ?_
        refine GG.ialoadV (k := 7) (v := mrd μ 64 7) e_X11_sends_59 (sa_X11_0 i_X11_63) (rfl) (by omega) (Nat.le_of_ble_eq_true rfl) (mrd_Rk (by omega) hU8) ?_
        refine GG.iconst (v := 1) e_X11_sends_60 rfl ?_
        refine GG.iload_n e_X11_sends_61 (i := 1) rfl 2 rfl ?_
        refine GG.ishl e_X11_sends_62 ?_
        refine GG.ixor e_X11_sends_63 ?_
        refine GG.iastoreE (k := 7) e_X11_sends_64 (sa_X11_0 i_X11_63) (rfl) (by omega) (Nat.le_of_ble_eq_true rfl) ?_
        refine GG.iload_n e_X11_sends_65 (i := 3) rfl 0 rfl ?_
        refine GG.iret e_X11_sends_66 rfl rfl ?_
        exact hok k hk rfl o h38
      · skip
        refine GG.aload_n e_X11_sends_41 (i := 0) rfl 1 rfl ?_
        refine GG.bipush (v := -3) e_X11_sends_42 rfl ?_
        refine GG.callV (d' := 0) (a := 63) (as := [.int _]) e_X11_sends_44 ml_X11_55 mf_X11_refuse mv_X11_refuse (rc_X11 i_X11_63) rfl (by decide) (Nat.le_of_ble_eq_true rfl) rfl ?_
        refine s_X11_refN ?_
        refine GG.iret e_X11_sends_47 rfl rfl ?_
        exact hno k hk rfl o h38
    · skip
      have oo := inT h14
      refine GG.aload_n e_X11_sends_17 (i := 0) rfl 0 rfl ?_
      refine GG.bipush (v := -2) e_X11_sends_18 rfl ?_
      refine GG.callV (d' := 0) (a := 63) (as := [.int _]) e_X11_sends_20 ml_X11_55 mf_X11_refuse mv_X11_refuse (rc_X11 i_X11_63) rfl (by decide) (Nat.le_of_ble_eq_true rfl) rfl ?_
      refine s_X11_refB ?_
      refine GG.iret e_X11_sends_23 rfl rfl ?_
      exact hbad (by simp [oo])
theorem s_X11_undo (hU : mrd μ 64 98 = nI U) (hU8 : U ≤ 8) (hno : U = 0 → Q (some (.int (-3))) (rRf μ 1)) (hok : 0 < U → Q (some (.int (mrd μ 64 (99 + 10 * (U - 1) + 9)))) (mCr (mwr μ 64 98 (nI (U - 1))) (99 + 10 * (U - 1)) 0 10)) : SPC 1 MX11_undo [.ref 63] μ Q := by
  have lp : 0 < U → ∀ n i, 10 - i < n → i ≤ 10 → GG 1 MX11_undo 30 [(1, .int (nI i)), (0, .ref 63)] [] (mCr (mwr μ 64 98 (nI (U - 1))) (99 + 10 * (U - 1)) 0 i) Q := by
    intro h0 n
    induction n with
    | zero => intro i h; omega
    | succ n ih =>
      intro i hn hi
      have e98 : mrd (mCr (mwr μ 64 98 (nI (U - 1))) (99 + 10 * (U - 1)) 0 i) 64 98 = nI (U - 1) := by rw [mrd_Cr, if_neg (by omega), mrd_wr, if_pos ⟨rfl, rfl⟩]
      refine GG.iload_n e_X11_undo_30 (i := 1) rfl 0 rfl ?_
      refine GG.bipush (v := 10) e_X11_undo_31 rfl ?_
      refine GG.icmp_ge (tgt := 68) e_X11_undo_33 rfl (fun h33 => ?_) (fun h33 => ?_)
      · skip
        have e : i = 10 := by have := nle (a := 10) (b := i) h33 (by omega) (by omega); omega
        refine GG.aload_n e_X11_undo_68 (i := 0) rfl 1 rfl ?_
        refine GG.getR (b := 64) e_X11_undo_69 fl_X11_7 (sf_X11_0 i_X11_63) ?_
        refine GG.bipush (v := 9) e_X11_undo_72 rfl ?_
        refine GG.ialoadV (k := 9) (v := mrd μ 64 (99 + 10 * (U - 1) + 9)) e_X11_undo_74 (sa_X11_0 i_X11_63) (rfl) (by omega) (Nat.le_of_ble_eq_true rfl) (by subst e; rw [mrd_Cr, if_pos (by omega), mrd_wr, if_neg (by omega)]; congr 1; omega) ?_
        refine GG.iret e_X11_undo_75 rfl rfl ?_
        subst e
        exact hok h0
      · skip
        have e := nnle (a := 10) (b := i) h33 (by omega) (by omega)
        refine GG.aload_n e_X11_undo_36 (i := 0) rfl 1 rfl ?_
        refine GG.getR (b := 64) e_X11_undo_37 fl_X11_7 (sf_X11_0 i_X11_63) ?_
        refine GG.iload_n e_X11_undo_40 (i := 1) rfl 0 rfl ?_
        refine GG.aload_n e_X11_undo_41 (i := 0) rfl 1 rfl ?_
        refine GG.getR (b := 64) e_X11_undo_42 fl_X11_7 (sf_X11_0 i_X11_63) ?_
        refine GG.bipush (v := 99) e_X11_undo_45 rfl ?_
        refine GG.bipush (v := 10) e_X11_undo_47 rfl ?_
        refine GG.aload_n e_X11_undo_49 (i := 0) rfl 1 rfl ?_
        refine GG.getR (b := 64) e_X11_undo_50 fl_X11_7 (sf_X11_0 i_X11_63) ?_
        refine GG.bipush (v := 98) e_X11_undo_53 rfl ?_
        refine GG.ialoadV (k := 98) (v := nI (U - 1)) e_X11_undo_55 (sa_X11_0 i_X11_63) (rfl) (by omega) (Nat.le_of_ble_eq_true rfl) (e98) ?_
        refine GG.imul e_X11_undo_56 ?_
        refine GG.top (show 10 * nI (U - 1) = nI (10 * (U - 1)) by rw [show (10 : Int32) = nI 10 from rfl, pk_mul]) ?_
        refine GG.iadd e_X11_undo_57 ?_
        refine GG.top (show 99 + nI (10 * (U - 1)) = nI (99 + 10 * (U - 1)) by rw [show (99 : Int32) = nI 99 from rfl, nI_add]) ?_
        refine GG.iload_n e_X11_undo_58 (i := 1) rfl 0 rfl ?_
        refine GG.iadd e_X11_undo_59 ?_
        refine GG.top (nI_add (99 + 10 * (U - 1)) i) ?_
        refine GG.ialoadE (k := 99 + 10 * (U - 1) + i) e_X11_undo_60 (sa_X11_0 i_X11_63) (rfl) (by omega) (Nat.le_of_ble_eq_true rfl) ?_
        refine GG.iastoreE (k := i) e_X11_undo_61 (sa_X11_0 i_X11_63) (rfl) (by omega) (Nat.le_of_ble_eq_true rfl) ?_
        refine GG.iinc e_X11_undo_62 0 rfl (v := _) (by first | exact nI_s _ | exact nI_d _ | rfl) (Nat.le_of_ble_eq_true rfl) (ls' := [(1, .int _), (0, .ref _)]) rfl ?_
        refine GG.goto (tgt := 30) e_X11_undo_65 rfl ?_
        refine GG.mem ?_ (ih (i + 1) (by omega) (by omega))
        refine gM_ext (fun c q => ?_) (fun c q => by simp only [mrL_wr, mrL_Cr])
        simp only [mrd_wr, mrd_Cr]
        grind
  refine SPC.of (by decide +kernel) (Nat.le_of_ble_eq_true rfl) (ls := [(0, .ref (63))]) rfl ?_
  refine GG.aload_n e_X11_undo_0 (i := 0) rfl 0 rfl ?_
  refine GG.getR (b := 64) e_X11_undo_1 fl_X11_7 (sf_X11_0 i_X11_63) ?_
  refine GG.bipush (v := 98) e_X11_undo_4 rfl ?_
  refine GG.ialoadV (k := 98) (v := nI U) e_X11_undo_6 (sa_X11_0 i_X11_63) (rfl) (by omega) (Nat.le_of_ble_eq_true rfl) (hU) ?_
  refine GG.if_ne (tgt := 17) e_X11_undo_7 rfl (fun h7 => ?_) (fun h7 => ?_)
  · skip
    have e : 0 < U := Nat.pos_of_ne_zero (fun z => h7 (by rw [z]; rfl))
    refine GG.aload_n e_X11_undo_17 (i := 0) rfl 0 rfl ?_
    refine GG.getR (b := 64) e_X11_undo_18 fl_X11_7 (sf_X11_0 i_X11_63) ?_
    refine GG.bipush (v := 98) e_X11_undo_21 rfl ?_
    refine GG.dup2 e_X11_undo_23 rfl rfl ?_
    refine GG.ialoadV (k := 98) (v := nI U) e_X11_undo_24 (sa_X11_0 i_X11_63) (rfl) (by omega) (Nat.le_of_ble_eq_true rfl) (hU) ?_
    refine GG.iconst (v := 1) e_X11_undo_25 rfl ?_
    refine GG.isub e_X11_undo_26 ?_
    refine GG.top (show nI U - 1 = nI (U - 1) by rw [show (1 : Int32) = nI 1 from rfl, pk_sub (by omega)]) ?_
    refine GG.iastoreE (k := 98) e_X11_undo_27 (sa_X11_0 i_X11_63) (rfl) (by omega) (Nat.le_of_ble_eq_true rfl) ?_
    refine GG.iconst (v := 0) e_X11_undo_28 rfl ?_
    refine GG.istore_n e_X11_undo_29 (i := 1) rfl (Nat.le_of_ble_eq_true rfl) (ls' := [(1, .int _), (0, .ref _)]) rfl ?_
    refine GG.mem ?_ (lp e 11 0 (by omega) (by omega))
    refine gM_ext (fun c q => ?_) (fun c q => by simp only [mrL_wr, mrL_Cr])
    rw [mrd_Cr, if_neg (by omega)]
  · skip
    have e : U = 0 := (nI_eq (b := 0) (by omega) (by omega)).mp h7
    refine GG.aload_n e_X11_undo_10 (i := 0) rfl 0 rfl ?_
    refine GG.bipush (v := -3) e_X11_undo_11 rfl ?_
    refine GG.callV (d' := 0) (a := 63) (as := [.int _]) e_X11_undo_13 ml_X11_55 mf_X11_refuse mv_X11_refuse (rc_X11 i_X11_63) rfl (by decide) (Nat.le_of_ble_eq_true rfl) rfl ?_
    refine s_X11_refN ?_
    refine GG.iret e_X11_undo_16 rfl rfl ?_
    exact hno e
theorem s_X11_of (hR : MR μ P A) (hbad : (!mIn i P || oB z 0 2) = true → Q (some (.int (-2))) (rRf μ 0))
    (hok : ∀ k, k < P → i = nI k → oB z 0 2 = false → Q (some (.int (if z = 0 then mrd μ 64 (12 + k) else if z = 1 then mrd μ 64 (19 + k) else mrd μ 64 k))) μ) : SPC 2 MX11_of [.ref 63, .int i, .int z] μ Q := by
  have hP7 := hR.2.1
  refine SPC.of (by decide +kernel) (Nat.le_of_ble_eq_true rfl) (ls := [(0, .ref (63)), (1, .int (i)), (2, .int (z))]) rfl ?_
  refine GG.aload_n e_X11_of_0 (i := 0) rfl 0 rfl ?_
  refine GG.iload_n e_X11_of_1 (i := 1) rfl 1 rfl ?_
  refine GG.callV (d' := 1) (a := 63) (as := [.int _]) e_X11_of_2 ml_X11_159 mf_X11_isOne mv_X11_isOne (rc_X11 i_X11_63) rfl (by decide) (Nat.le_of_ble_eq_true rfl) rfl ?_
  refine s_X11_isOne hR ?_
  refine GG.if_eq (tgt := 17) e_X11_of_5 rfl (fun h5 => ?_) (fun h5 => ?_)
  · skip
    have oo := (bI_0 _).mp h5
    refine GG.aload_n e_X11_of_17 (i := 0) rfl 0 rfl ?_
    refine GG.bipush (v := -2) e_X11_of_18 rfl ?_
    refine GG.callV (d' := 0) (a := 63) (as := [.int _]) e_X11_of_20 ml_X11_55 mf_X11_refuse mv_X11_refuse (rc_X11 i_X11_63) rfl (by decide) (Nat.le_of_ble_eq_true rfl) rfl ?_
    refine s_X11_refB ?_
    refine GG.iret e_X11_of_23 rfl rfl ?_
    exact hbad (by simp [oo])
  · skip
    obtain ⟨k, hk, rfl⟩ := mIn_of ((bI_n0 _).mp h5) (by omega)
    have z0 : 0 + nI k = nI k := by rw [show (0 : Int32) = nI 0 from rfl, nI_add, Nat.zero_add]
    refine GG.iload_n e_X11_of_8 (i := 2) rfl 2 rfl ?_
    refine GG.iconst (v := 0) e_X11_of_9 rfl ?_
    refine GG.iconst (v := 2) e_X11_of_10 rfl ?_
    refine GG.callS (d' := 0) (as := [.int _, .int _, .int _]) e_X11_of_11 ml_X11_51 mf_X11_in ms_X11_in rfl (by decide) (Nat.le_of_ble_eq_true rfl) rfl ?_
    refine s_X11_inO ?_
    refine GG.if_ne (tgt := 24) e_X11_of_14 rfl (fun h14 => ?_) (fun h14 => ?_)
    · skip
      have o := inF h14
      refine GG.iload_n e_X11_of_24 (i := 2) rfl 2 rfl ?_
      refine GG.if_ne (tgt := 40) e_X11_of_25 rfl (fun h25 => ?_) (fun h25 => ?_)
      · skip
        refine GG.iload_n e_X11_of_40 (i := 2) rfl 2 rfl ?_
        refine GG.iconst (v := 1) e_X11_of_41 rfl ?_
        refine GG.icmp_ne (tgt := 57) e_X11_of_42 rfl (fun h42 => ?_) (fun h42 => ?_)
        · skip
          refine GG.aload_n e_X11_of_57 (i := 0) rfl 0 rfl ?_
          refine GG.getR (b := 64) e_X11_of_58 fl_X11_7 (sf_X11_0 i_X11_63) ?_
          refine GG.iconst (v := 0) e_X11_of_61 rfl ?_
          refine GG.iload_n e_X11_of_62 (i := 1) rfl 1 rfl ?_
          refine GG.iadd e_X11_of_63 ?_
          refine GG.ialoadE (k := k) e_X11_of_64 (sa_X11_0 i_X11_63) (z0) (by omega) (Nat.le_of_ble_eq_true rfl) ?_
          refine GG.iret e_X11_of_65 rfl rfl ?_
          exact qI (hok k hk rfl o) (by simp [*])
        · skip
          refine GG.aload_n e_X11_of_45 (i := 0) rfl 0 rfl ?_
          refine GG.getR (b := 64) e_X11_of_46 fl_X11_7 (sf_X11_0 i_X11_63) ?_
          refine GG.bipush (v := 19) e_X11_of_49 rfl ?_
          refine GG.iload_n e_X11_of_51 (i := 1) rfl 1 rfl ?_
          refine GG.iadd e_X11_of_52 ?_
          refine GG.ialoadE (k := 19 + k) e_X11_of_53 (sa_X11_0 i_X11_63) (nI_add 19 k) (by omega) (Nat.le_of_ble_eq_true rfl) ?_
          refine GG.goto (tgt := 65) e_X11_of_54 rfl ?_
          refine GG.iret e_X11_of_65 rfl rfl ?_
          exact qI (hok k hk rfl o) (by simp [*])
      · skip
        refine GG.aload_n e_X11_of_28 (i := 0) rfl 0 rfl ?_
        refine GG.getR (b := 64) e_X11_of_29 fl_X11_7 (sf_X11_0 i_X11_63) ?_
        refine GG.bipush (v := 12) e_X11_of_32 rfl ?_
        refine GG.iload_n e_X11_of_34 (i := 1) rfl 1 rfl ?_
        refine GG.iadd e_X11_of_35 ?_
        refine GG.ialoadE (k := 12 + k) e_X11_of_36 (sa_X11_0 i_X11_63) (nI_add 12 k) (by omega) (Nat.le_of_ble_eq_true rfl) ?_
        refine GG.goto (tgt := 65) e_X11_of_37 rfl ?_
        refine GG.iret e_X11_of_65 rfl rfl ?_
        exact qI (hok k hk rfl o) (by simp [*])
    · skip
      have oo := inT h14
      refine GG.aload_n e_X11_of_17 (i := 0) rfl 0 rfl ?_
      refine GG.bipush (v := -2) e_X11_of_18 rfl ?_
      refine GG.callV (d' := 0) (a := 63) (as := [.int _]) e_X11_of_20 ml_X11_55 mf_X11_refuse mv_X11_refuse (rc_X11 i_X11_63) rfl (by decide) (Nat.le_of_ble_eq_true rfl) rfl ?_
      refine s_X11_refB ?_
      refine GG.iret e_X11_of_23 rfl rfl ?_
      exact hbad (by simp [oo])
theorem s_X11_about (hR : MR μ P A) (hbad : (!mIn i A || oB z 0 2) = true → Q (some (.int (-2))) (rRf μ 0))
    (hok : ∀ k, k < A → i = nI k → oB z 0 2 = false → Q (some (.int (if z = 0 then mrd μ 64 (27 + k) else if z = 1 then mrd μ 64 (31 + k) else (mrd μ 64 7 >>> (nI k &&& 31)) &&& 1))) μ) : SPC 2 MX11_about [.ref 63, .int i, .int z] μ Q := by
  have hA4 := hR.2.2.2
  refine SPC.of (by decide +kernel) (Nat.le_of_ble_eq_true rfl) (ls := [(0, .ref (63)), (1, .int (i)), (2, .int (z))]) rfl ?_
  refine GG.aload_n e_X11_about_0 (i := 0) rfl 0 rfl ?_
  refine GG.iload_n e_X11_about_1 (i := 1) rfl 1 rfl ?_
  refine GG.callV (d' := 1) (a := 63) (as := [.int _]) e_X11_about_2 ml_X11_162 mf_X11_isAunt mv_X11_isAunt (rc_X11 i_X11_63) rfl (by decide) (Nat.le_of_ble_eq_true rfl) rfl ?_
  refine s_X11_isAunt hR ?_
  refine GG.if_eq (tgt := 17) e_X11_about_5 rfl (fun h5 => ?_) (fun h5 => ?_)
  · skip
    have oo := (bI_0 _).mp h5
    refine GG.aload_n e_X11_about_17 (i := 0) rfl 0 rfl ?_
    refine GG.bipush (v := -2) e_X11_about_18 rfl ?_
    refine GG.callV (d' := 0) (a := 63) (as := [.int _]) e_X11_about_20 ml_X11_55 mf_X11_refuse mv_X11_refuse (rc_X11 i_X11_63) rfl (by decide) (Nat.le_of_ble_eq_true rfl) rfl ?_
    refine s_X11_refB ?_
    refine GG.iret e_X11_about_23 rfl rfl ?_
    exact hbad (by simp [oo])
  · skip
    obtain ⟨k, hk, rfl⟩ := mIn_of ((bI_n0 _).mp h5) (by omega)
    refine GG.iload_n e_X11_about_8 (i := 2) rfl 2 rfl ?_
    refine GG.iconst (v := 0) e_X11_about_9 rfl ?_
    refine GG.iconst (v := 2) e_X11_about_10 rfl ?_
    refine GG.callS (d' := 0) (as := [.int _, .int _, .int _]) e_X11_about_11 ml_X11_51 mf_X11_in ms_X11_in rfl (by decide) (Nat.le_of_ble_eq_true rfl) rfl ?_
    refine s_X11_inO ?_
    refine GG.if_ne (tgt := 24) e_X11_about_14 rfl (fun h14 => ?_) (fun h14 => ?_)
    · skip
      have o := inF h14
      refine GG.iload_n e_X11_about_24 (i := 2) rfl 2 rfl ?_
      refine GG.if_ne (tgt := 40) e_X11_about_25 rfl (fun h25 => ?_) (fun h25 => ?_)
      · skip
        refine GG.iload_n e_X11_about_40 (i := 2) rfl 2 rfl ?_
        refine GG.iconst (v := 1) e_X11_about_41 rfl ?_
        refine GG.icmp_ne (tgt := 57) e_X11_about_42 rfl (fun h42 => ?_) (fun h42 => ?_)
        · skip
          refine GG.aload_n e_X11_about_57 (i := 0) rfl 0 rfl ?_
          refine GG.getR (b := 64) e_X11_about_58 fl_X11_7 (sf_X11_0 i_X11_63) ?_
          refine GG.bipush (v := 7) e_X11_about_61 rfl ?_
          refine GG.ialoadE (k := 7) e_X11_about_63 (sa_X11_0 i_X11_63) (rfl) (by omega) (Nat.le_of_ble_eq_true rfl) ?_
          refine GG.iload_n e_X11_about_64 (i := 1) rfl 1 rfl ?_
          refine GG.ishr e_X11_about_65 ?_
          refine GG.iconst (v := 1) e_X11_about_66 rfl ?_
          refine GG.iand e_X11_about_67 ?_
          refine GG.iret e_X11_about_68 rfl rfl ?_
          exact qI (hok k hk rfl o) (by simp [*])
        · skip
          refine GG.aload_n e_X11_about_45 (i := 0) rfl 0 rfl ?_
          refine GG.getR (b := 64) e_X11_about_46 fl_X11_7 (sf_X11_0 i_X11_63) ?_
          refine GG.bipush (v := 31) e_X11_about_49 rfl ?_
          refine GG.iload_n e_X11_about_51 (i := 1) rfl 1 rfl ?_
          refine GG.iadd e_X11_about_52 ?_
          refine GG.ialoadE (k := 31 + k) e_X11_about_53 (sa_X11_0 i_X11_63) (nI_add 31 k) (by omega) (Nat.le_of_ble_eq_true rfl) ?_
          refine GG.goto (tgt := 68) e_X11_about_54 rfl ?_
          refine GG.iret e_X11_about_68 rfl rfl ?_
          exact qI (hok k hk rfl o) (by simp [*])
      · skip
        refine GG.aload_n e_X11_about_28 (i := 0) rfl 0 rfl ?_
        refine GG.getR (b := 64) e_X11_about_29 fl_X11_7 (sf_X11_0 i_X11_63) ?_
        refine GG.bipush (v := 27) e_X11_about_32 rfl ?_
        refine GG.iload_n e_X11_about_34 (i := 1) rfl 1 rfl ?_
        refine GG.iadd e_X11_about_35 ?_
        refine GG.ialoadE (k := 27 + k) e_X11_about_36 (sa_X11_0 i_X11_63) (nI_add 27 k) (by omega) (Nat.le_of_ble_eq_true rfl) ?_
        refine GG.goto (tgt := 68) e_X11_about_37 rfl ?_
        refine GG.iret e_X11_about_68 rfl rfl ?_
        exact qI (hok k hk rfl o) (by simp [*])
    · skip
      have oo := inT h14
      refine GG.aload_n e_X11_about_17 (i := 0) rfl 0 rfl ?_
      refine GG.bipush (v := -2) e_X11_about_18 rfl ?_
      refine GG.callV (d' := 0) (a := 63) (as := [.int _]) e_X11_about_20 ml_X11_55 mf_X11_refuse mv_X11_refuse (rc_X11 i_X11_63) rfl (by decide) (Nat.le_of_ble_eq_true rfl) rfl ?_
      refine s_X11_refB ?_
      refine GG.iret e_X11_about_23 rfl rfl ?_
      exact hbad (by simp [oo])
theorem s_X11_leans (hR : MR μ P A) (hbad : (!mIn i P || oB c 0 99 || oB z 0 1) = true → Q (some (.int (-1000))) (rRf μ 0))
    (hok : ∀ k, k < P → i = nI k → oB c 0 99 = false → oB z 0 1 = false → Q (some (.int (if z = 0 then mLean (mrd μ 64 (12 + k)) (mrd μ 64 k) c else mLng (rV μ 0) (mrd μ 64 7) A k c))) μ) : SPC 3 MX11_leans [.ref 63, .int i, .int c, .int z] μ Q := by
  have hP7 := hR.2.1
  refine SPC.of (by decide +kernel) (Nat.le_of_ble_eq_true rfl) (ls := [(0, .ref (63)), (1, .int (i)), (2, .int (c)), (3, .int (z))]) rfl ?_
  refine GG.aload_n e_X11_leans_0 (i := 0) rfl 0 rfl ?_
  refine GG.iload_n e_X11_leans_1 (i := 1) rfl 1 rfl ?_
  refine GG.callV (d' := 1) (a := 63) (as := [.int _]) e_X11_leans_2 ml_X11_159 mf_X11_isOne mv_X11_isOne (rc_X11 i_X11_63) rfl (by decide) (Nat.le_of_ble_eq_true rfl) rfl ?_
  refine s_X11_isOne hR ?_
  refine GG.if_eq (tgt := 27) e_X11_leans_5 rfl (fun h5 => ?_) (fun h5 => ?_)
  · skip
    have oo := (bI_0 _).mp h5
    refine GG.aload_n e_X11_leans_27 (i := 0) rfl 0 rfl ?_
    refine GG.sipush (v := -1000) e_X11_leans_28 rfl ?_
    refine GG.callV (d' := 1) (a := 63) (as := [.int _]) e_X11_leans_31 ml_X11_165 mf_X11_badAs mv_X11_badAs (rc_X11 i_X11_63) rfl (by decide) (Nat.le_of_ble_eq_true rfl) rfl ?_
    refine s_X11_badAs ?_
    refine GG.iret e_X11_leans_34 rfl rfl ?_
    exact hbad (by simp [oo])
  · skip
    obtain ⟨k, hk, rfl⟩ := mIn_of ((bI_n0 _).mp h5) (by omega)
    have z0 : 0 + nI k = nI k := by rw [show (0 : Int32) = nI 0 from rfl, nI_add, Nat.zero_add]
    refine GG.iload_n e_X11_leans_8 (i := 2) rfl 2 rfl ?_
    refine GG.iconst (v := 0) e_X11_leans_9 rfl ?_
    refine GG.bipush (v := 99) e_X11_leans_10 rfl ?_
    refine GG.callS (d' := 0) (as := [.int _, .int _, .int _]) e_X11_leans_12 ml_X11_51 mf_X11_in ms_X11_in rfl (by decide) (Nat.le_of_ble_eq_true rfl) rfl ?_
    refine s_X11_inO ?_
    refine GG.if_eq (tgt := 27) e_X11_leans_15 rfl (fun h15 => ?_) (fun h15 => ?_)
    · skip
      have oo := inT h15
      refine GG.aload_n e_X11_leans_27 (i := 0) rfl 0 rfl ?_
      refine GG.sipush (v := -1000) e_X11_leans_28 rfl ?_
      refine GG.callV (d' := 1) (a := 63) (as := [.int _]) e_X11_leans_31 ml_X11_165 mf_X11_badAs mv_X11_badAs (rc_X11 i_X11_63) rfl (by decide) (Nat.le_of_ble_eq_true rfl) rfl ?_
      refine s_X11_badAs ?_
      refine GG.iret e_X11_leans_34 rfl rfl ?_
      exact hbad (by simp [oo])
    · skip
      have o1 := inF h15
      refine GG.iload_n e_X11_leans_18 (i := 3) rfl 3 rfl ?_
      refine GG.iconst (v := 0) e_X11_leans_19 rfl ?_
      refine GG.iconst (v := 1) e_X11_leans_20 rfl ?_
      refine GG.callS (d' := 0) (as := [.int _, .int _, .int _]) e_X11_leans_21 ml_X11_51 mf_X11_in ms_X11_in rfl (by decide) (Nat.le_of_ble_eq_true rfl) rfl ?_
      refine s_X11_inO ?_
      refine GG.if_ne (tgt := 35) e_X11_leans_24 rfl (fun h24 => ?_) (fun h24 => ?_)
      · skip
        have o2 := inF h24
        refine GG.iload_n e_X11_leans_35 (i := 3) rfl 3 rfl ?_
        refine GG.if_ne (tgt := 63) e_X11_leans_36 rfl (fun h36 => ?_) (fun h36 => ?_)
        · skip
          refine GG.aload_n e_X11_leans_63 (i := 0) rfl 0 rfl ?_
          refine GG.iconst (v := 0) e_X11_leans_64 rfl ?_
          refine GG.iload_n e_X11_leans_65 (i := 1) rfl 1 rfl ?_
          refine GG.iload_n e_X11_leans_66 (i := 2) rfl 2 rfl ?_
          refine GG.callV (d' := 2) (a := 63) (as := [.int _, .int _, .int _]) e_X11_leans_67 ml_X11_146 mf_X11_leaning mv_X11_leaning (rc_X11 i_X11_63) rfl (by decide) (Nat.le_of_ble_eq_true rfl) rfl ?_
          refine s_X11_leaning (B := 0) hR (by omega) (by omega) ?_
          refine GG.iret e_X11_leans_70 rfl rfl ?_
          exact qI (hok k hk rfl o1 o2) (by simp [h36])
        · skip
          refine GG.aload_n e_X11_leans_39 (i := 0) rfl 0 rfl ?_
          refine GG.getR (b := 64) e_X11_leans_40 fl_X11_7 (sf_X11_0 i_X11_63) ?_
          refine GG.bipush (v := 12) e_X11_leans_43 rfl ?_
          refine GG.iload_n e_X11_leans_45 (i := 1) rfl 1 rfl ?_
          refine GG.iadd e_X11_leans_46 ?_
          refine GG.ialoadE (k := 12 + k) e_X11_leans_47 (sa_X11_0 i_X11_63) (nI_add 12 k) (by omega) (Nat.le_of_ble_eq_true rfl) ?_
          refine GG.aload_n e_X11_leans_48 (i := 0) rfl 0 rfl ?_
          refine GG.getR (b := 64) e_X11_leans_49 fl_X11_7 (sf_X11_0 i_X11_63) ?_
          refine GG.iconst (v := 0) e_X11_leans_52 rfl ?_
          refine GG.iload_n e_X11_leans_53 (i := 1) rfl 1 rfl ?_
          refine GG.iadd e_X11_leans_54 ?_
          refine GG.ialoadE (k := k) e_X11_leans_55 (sa_X11_0 i_X11_63) (z0) (by omega) (Nat.le_of_ble_eq_true rfl) ?_
          refine GG.iload_n e_X11_leans_56 (i := 2) rfl 2 rfl ?_
          refine GG.callS (d' := 0) (as := [.int _, .int _, .int _]) e_X11_leans_57 ml_X11_135 mf_X11_leansBy ms_X11_leansBy rfl (by decide) (Nat.le_of_ble_eq_true rfl) rfl ?_
          refine s_X11_leansBy ?_
          refine GG.goto (tgt := 70) e_X11_leans_60 rfl ?_
          refine GG.iret e_X11_leans_70 rfl rfl ?_
          exact qI (hok k hk rfl o1 o2) (by simp [h36])
      · skip
        have oo := inT h24
        refine GG.aload_n e_X11_leans_27 (i := 0) rfl 0 rfl ?_
        refine GG.sipush (v := -1000) e_X11_leans_28 rfl ?_
        refine GG.callV (d' := 1) (a := 63) (as := [.int _]) e_X11_leans_31 ml_X11_165 mf_X11_badAs mv_X11_badAs (rc_X11 i_X11_63) rfl (by decide) (Nat.le_of_ble_eq_true rfl) rfl ?_
        refine s_X11_badAs ?_
        refine GG.iret e_X11_leans_34 rfl rfl ?_
        exact hbad (by simp [oo])
theorem s_X11_sound (hR : MR μ P A) (hbad : oB c 0 99 = true → Q (some (.int (-2))) (rRf μ 0)) (hok : oB c 0 99 = false → ∀ ν, gL9 μ ν → Q (some (.int (vSnd (rV μ 0) (mrd μ 64 7) A (mrd μ 64 10) P c))) ν) : SPC 5 MX11_sound [.ref 63, .int c] μ Q := by
  refine SPC.of (by decide +kernel) (Nat.le_of_ble_eq_true rfl) (ls := [(0, .ref (63)), (1, .int (c))]) rfl ?_
  refine GG.iload_n e_X11_sound_0 (i := 1) rfl 1 rfl ?_
  refine GG.iconst (v := 0) e_X11_sound_1 rfl ?_
  refine GG.bipush (v := 99) e_X11_sound_2 rfl ?_
  refine GG.callS (d' := 0) (as := [.int _, .int _, .int _]) e_X11_sound_4 ml_X11_51 mf_X11_in ms_X11_in rfl (by decide) (Nat.le_of_ble_eq_true rfl) rfl ?_
  refine s_X11_inO ?_
  refine GG.if_eq (tgt := 19) e_X11_sound_7 rfl (fun h7 => ?_) (fun h7 => ?_)
  · skip
    have oo := inT h7
    refine GG.aload_n e_X11_sound_19 (i := 0) rfl 0 rfl ?_
    refine GG.bipush (v := -2) e_X11_sound_20 rfl ?_
    refine GG.callV (d' := 0) (a := 63) (as := [.int _]) e_X11_sound_22 ml_X11_55 mf_X11_refuse mv_X11_refuse (rc_X11 i_X11_63) rfl (by decide) (Nat.le_of_ble_eq_true rfl) rfl ?_
    refine s_X11_refB ?_
    refine GG.iret e_X11_sound_25 rfl rfl ?_
    first | exact hbad oo | exact hok o ν hν
  · skip
    have o := inF h7
    refine GG.aload_n e_X11_sound_10 (i := 0) rfl 0 rfl ?_
    refine GG.iconst (v := 0) e_X11_sound_11 rfl ?_
    refine GG.iload_n e_X11_sound_12 (i := 1) rfl 1 rfl ?_
    refine GG.callV (d' := 4) (a := 63) (as := [.int _, .int _]) e_X11_sound_13 ml_X11_153 mf_X11_soundAt mv_X11_soundAt (rc_X11 i_X11_63) rfl (by decide) (Nat.le_of_ble_eq_true rfl) rfl ?_
    refine s_X11_soundAt (B := 0) hR (by omega) (fun ν hν => ?_)
    refine GG.goto (tgt := 25) e_X11_sound_16 rfl ?_
    refine GG.iret e_X11_sound_25 rfl rfl ?_
    first | exact hbad oo | exact hok o ν hν
theorem s_X11_entry {f : Nat → Bool} (hR : MR μ P A) (hf : ∀ d, d < 61 → f d = decide (0 < vSnd (rV μ 0) (mrd μ 64 7) A (mrd μ 64 10) P (mrd μ 64 9 + nI d)))
    (hn : (∀ d, d < 61 → f d = false) → ∀ ν, gL9 μ ν → Q (some (.int (-1))) ν) (hy : ∀ d, d < 61 → f d = true → (∀ e, e < d → f e = false) → ∀ ν, gL9 μ ν → Q (some (.int (nI d))) ν) : SPC 5 MX11_entry [.ref 63] μ Q := by
  have lp : ∀ n i ν, 61 - i < n → i ≤ 61 → gL9 μ ν → (∀ e, e < i → f e = false) → GG 5 MX11_entry 2 [(1, .int (nI i)), (0, .ref 63)] [] ν Q := by
    intro n
    induction n with
    | zero => intro i ν h; omega
    | succ n ih =>
      intro i ν hn' hi hν hff
      refine GG.iload_n e_X11_entry_2 (i := 1) rfl 0 rfl ?_
      refine GG.bipush (v := 61) e_X11_entry_3 rfl ?_
      refine GG.icmp_ge (tgt := 33) e_X11_entry_5 rfl (fun h5 => ?_) (fun h5 => ?_)
      · skip
        have e : i = 61 := by have := nle (a := 61) (b := i) h5 (by omega) (by omega); omega
        refine GG.iconst (v := -1) e_X11_entry_33 rfl ?_
        refine GG.iret e_X11_entry_34 rfl rfl ?_
        subst e
        exact hn hff ν hν
      · skip
        have e := nnle (a := 61) (b := i) h5 (by omega) (by omega)
        refine GG.aload_n e_X11_entry_8 (i := 0) rfl 1 rfl ?_
        refine GG.iconst (v := 0) e_X11_entry_9 rfl ?_
        refine GG.aload_n e_X11_entry_10 (i := 0) rfl 1 rfl ?_
        refine GG.getR (b := 64) e_X11_entry_11 fl_X11_7 (sf_X11_0 i_X11_63) ?_
        refine GG.bipush (v := 9) e_X11_entry_14 rfl ?_
        refine GG.ialoadV (k := 9) (v := mrd μ 64 9) e_X11_entry_16 (sa_X11_0 i_X11_63) (rfl) (by omega) (Nat.le_of_ble_eq_true rfl) (hν.row 9) ?_
        refine GG.iload_n e_X11_entry_17 (i := 1) rfl 0 rfl ?_
        refine GG.iadd e_X11_entry_18 ?_
        refine GG.callV (d' := 4) (a := 63) (as := [.int _, .int _]) e_X11_entry_19 ml_X11_153 mf_X11_soundAt mv_X11_soundAt (rc_X11 i_X11_63) rfl (by decide) (Nat.le_of_ble_eq_true rfl) rfl ?_
        refine s_X11_soundAt (B := 0) (hν.rl hR) (by omega) (fun ν2 hν2 => ?_)
        rw [hν.rV, hν.row, hν.row]
        refine GG.if_le (tgt := 27) e_X11_entry_22 rfl (fun h22 => ?_) (fun h22 => ?_)
        · skip
          refine GG.iinc e_X11_entry_27 0 rfl (v := _) (by first | exact nI_s _ | exact nI_d _ | rfl) (Nat.le_of_ble_eq_true rfl) (ls' := [(1, .int _), (0, .ref _)]) rfl ?_
          refine GG.goto (tgt := 2) e_X11_entry_30 rfl ?_
          refine ih (i + 1) ν2 (by omega) (by omega) (hν.tr hν2) (fun d hd => ?_)
          by_cases q : d = i
          · subst q
            rw [hf d e, decide_eq_false_iff_not]
            exact Int32.not_lt.mpr h22
          · exact hff d (by omega)
        · skip
          refine GG.iload_n e_X11_entry_25 (i := 1) rfl 0 rfl ?_
          refine GG.iret e_X11_entry_26 rfl rfl ?_
          exact hy i e (by rw [hf i e, decide_eq_true_eq]; exact Int32.not_le.mp h22) hff ν2 (hν.tr hν2)
  refine SPC.of (by decide +kernel) (Nat.le_of_ble_eq_true rfl) (ls := [(0, .ref (63))]) rfl ?_
  refine GG.iconst (v := 0) e_X11_entry_0 rfl ?_
  refine GG.istore_n e_X11_entry_1 (i := 1) rfl (Nat.le_of_ble_eq_true rfl) (ls' := [(1, .int _), (0, .ref _)]) rfl ?_
  exact lp 62 0 μ (by omega) (by omega) (gL9.rf μ) (fun e h => by omega)
/-- what is tried is scratch -/
def gTr (μ ν : gM) : Prop := (∀ c j, ¬ c = 69 → ¬ (c = 64 ∧ 537 ≤ j) → mrd ν c j = mrd μ c j) ∧ ∀ c j, mrL ν c j = mrL μ c j
theorem gTr.sm {ν : gM} (h : gTr μ ν) : gSm μ ν := ⟨fun c j q => h.1 c j (by rintro rfl; exact q (by unfold gScr; omega)) (by rintro ⟨rfl, z⟩; exact q (by unfold gScr; omega)), h.2⟩
theorem gTr.row {ν : gM} (h : gTr μ ν) {j : Nat} (hj : j < 537) : mrd ν 64 j = mrd μ 64 j := h.1 64 j (by omega) (by omega)
theorem gTr.cr : gTr μ (mCr μ 0 537 10) := ⟨fun c j h1 h2 => by rw [mrd_Cr, if_neg (by omega)], fun c j => rfl⟩
theorem gTr.l9 {ν ξ : gM} (h : gTr μ ν) (h2 : gL9 ν ξ) : gTr μ ξ := ⟨fun c j q q2 => (h2.1 c j q).trans (h.1 c j q q2), fun c j => (h2.2 c j).trans (h.2 c j)⟩
theorem gTr.wr {ν : gM} (h : gTr μ ν) (hk : 537 ≤ k) : gTr μ (mwr ν 64 k x) := ⟨fun c j q q2 => by rw [mrd_wr, if_neg (by omega)]; exact h.1 c j q q2, h.2⟩
theorem gTr.mr {ν : gM} (h : gTr μ ν) (hR : MR μ P A) : MR ν P A := by
  unfold MR
  rw [h.row (by omega), h.row (by omega)]
  exact hR
/-- what is tried stands so -/
def TT (ν : gM) (V : Nat → Nat → Int32) (P A : Nat) (th : Int32) : Prop := VE (rV ν 537) V P A ∧ mrd ν 64 544 = th
theorem TT.l9 {ν ξ : gM} {V : Nat → Nat → Int32} {th : Int32} (h : TT ν V P A th) (h2 : gL9 ν ξ) : TT ξ V P A th := by
  unfold TT
  rw [h2.rV, h2.row]
  exact h
theorem TT.cr (hR : MR μ P A) : TT (mCr μ 0 537 10) (rV μ 0) P A (mrd μ 64 7) := by
  have := hR.2.1
  have := hR.2.2.2
  refine ⟨⟨fun k hk => ⟨?_, ?_, ?_⟩, fun k hk => ⟨?_, ?_⟩⟩, ?_⟩
  · show mrd (mCr μ 0 537 10) 64 (12 + k) = mrd μ 64 (12 + k)
    rw [mrd_Cr, if_neg (by omega)]
  · show mrd (mCr μ 0 537 10) 64 (19 + k) = mrd μ 64 (19 + k)
    rw [mrd_Cr, if_neg (by omega)]
  · show mrd (mCr μ 0 537 10) 64 (537 + k) = mrd μ 64 (0 + k)
    rw [mrd_Cr, if_pos (by omega), show 537 + k - 537 + 0 = 0 + k by omega]
  · show mrd (mCr μ 0 537 10) 64 (27 + k) = mrd μ 64 (27 + k)
    rw [mrd_Cr, if_neg (by omega)]
  · show mrd (mCr μ 0 537 10) 64 (31 + k) = mrd μ 64 (31 + k)
    rw [mrd_Cr, if_neg (by omega)]
  · rw [mrd_Cr, if_pos (by omega)]
theorem TT.sw {ν : gM} {V : Nat → Nat → Int32} {th : Int32} (h : TT ν V P A th) (hk : k < 7) (hP : P ≤ 7) (hA : A ≤ 4) : TT (mwr ν 64 (537 + k) a) (uV V k a) P A th := by
  obtain ⟨⟨h1, h2⟩, h3⟩ := h
  refine ⟨⟨fun q hq => ?_, fun q hq => ?_⟩, ?_⟩
  · obtain ⟨b1, b2, b3⟩ := h1 q hq
    refine ⟨?_, ?_, ?_⟩
    · show mrd (mwr ν 64 (537 + k) a) 64 (12 + q) = _
      rw [mrd_wr, if_neg (by omega)]; exact b1
    · show mrd (mwr ν 64 (537 + k) a) 64 (19 + q) = _
      rw [mrd_wr, if_neg (by omega)]; exact b2
    · show mrd (mwr ν 64 (537 + k) a) 64 (537 + q) = if 2 = 2 ∧ q = k then a else V 2 q
      rw [mrd_wr]
      by_cases e : q = k
      · rw [if_pos ⟨rfl, by omega⟩, if_pos ⟨rfl, e⟩]
      · rw [if_neg (by omega), if_neg (by omega)]; exact b3
  · obtain ⟨b1, b2⟩ := h2 q hq
    refine ⟨?_, ?_⟩
    · show mrd (mwr ν 64 (537 + k) a) 64 (27 + q) = _
      rw [mrd_wr, if_neg (by omega)]; exact b1
    · show mrd (mwr ν 64 (537 + k) a) 64 (31 + q) = _
      rw [mrd_wr, if_neg (by omega)]; exact b2
  · rw [mrd_wr, if_neg (by omega)]; exact h3
theorem TT.th {ν : gM} {V : Nat → Nat → Int32} {th : Int32} (h : TT ν V P A th) (hP : P ≤ 7) (hA : A ≤ 4) : TT (mwr ν 64 544 a) V P A a := by
  obtain ⟨⟨h1, h2⟩, h3⟩ := h
  have e : ∀ j, ¬ j = 544 → mrd (mwr ν 64 544 a) 64 j = mrd ν 64 j := fun j hj => by rw [mrd_wr, if_neg (by omega)]
  refine ⟨⟨fun q hq => ?_, fun q hq => ?_⟩, by rw [mrd_wr, if_pos ⟨rfl, rfl⟩]⟩
  · obtain ⟨b1, b2, b3⟩ := h1 q hq
    exact ⟨(e (12 + q) (by omega)).trans b1, (e (19 + q) (by omega)).trans b2, (e (537 + q) (by omega)).trans b3⟩
  · obtain ⟨b1, b2⟩ := h2 q hq
    exact ⟨(e (27 + q) (by omega)).trans b1, (e (31 + q) (by omega)).trans b2⟩
theorem s_X11_then {snd : Int32 → Int32} {ok : Int32 → Bool} (hR : MR μ P A) (hok1 : ∀ t, ok t = true) (hs : ∀ c, snd c = vSnd (rV μ 0) (mrd μ 64 7) A (mrd μ 64 10) P c) (hbad : oB z 0 60 = true → Q (some (.int (-2))) (rRf μ 0))
    (hok : ∀ n, z = nI n → n ≤ 60 → ∀ ν, gSm μ ν → Q (some (.int (mPg snd ok n (mrd μ 64 8, mrd μ 64 9)).1)) ν) : SPC 6 MX11_then [.ref 63, .int z] μ Q := by
  have t1 : mrd (mCr μ 0 537 10) 64 545 = mrd μ 64 8 := by rw [mrd_Cr, if_pos (by omega)]
  have t2 : mrd (mCr μ 0 537 10) 64 546 = mrd μ 64 9 := by rw [mrd_Cr, if_pos (by omega)]
  refine SPC.of (by decide +kernel) (Nat.le_of_ble_eq_true rfl) (ls := [(0, .ref (63)), (1, .int (z))]) rfl ?_
  refine GG.iload_n e_X11_then_0 (i := 1) rfl 1 rfl ?_
  refine GG.iconst (v := 0) e_X11_then_1 rfl ?_
  refine GG.bipush (v := 60) e_X11_then_2 rfl ?_
  refine GG.callS (d' := 0) (as := [.int _, .int _, .int _]) e_X11_then_4 ml_X11_51 mf_X11_in ms_X11_in rfl (by decide) (Nat.le_of_ble_eq_true rfl) rfl ?_
  refine s_X11_inO ?_
  refine GG.if_ne (tgt := 17) e_X11_then_7 rfl (fun h7 => ?_) (fun h7 => ?_)
  · skip
    obtain ⟨n, rfl, o1, o2⟩ := oB_n (A := 0) (B := 60) (inF h7) rfl rfl (by omega) (by omega)
    refine GG.aload_n e_X11_then_17 (i := 0) rfl 0 rfl ?_
    refine GG.callV (d' := 0) (a := 63) (as := []) e_X11_then_18 ml_X11_168 mf_X11_layTried mv_X11_layTried (rc_X11 i_X11_63) rfl (by decide) (Nat.le_of_ble_eq_true rfl) rfl ?_
    refine s_X11_layTried ?_
    refine GG.aload_n e_X11_then_21 (i := 0) rfl 0 rfl ?_
    refine GG.sipush (v := 537) e_X11_then_22 rfl ?_
    refine GG.iload_n e_X11_then_25 (i := 1) rfl 1 rfl ?_
    refine GG.callV (d' := 5) (a := 63) (as := [.int _, .int _]) e_X11_then_26 ml_X11_118 mf_X11_goBy mv_X11_goBy (rc_X11 i_X11_63) rfl (by decide) (Nat.le_of_ble_eq_true rfl) rfl ?_
    refine s_X11_goBy (B := 537) (snd := snd) (ok := ok) (gTr.cr.mr hR) (Or.inr ⟨rfl, hok1⟩) (by omega) (fun c => ?_) (fun ν hν => ?_)
    · rw [hs c, (TT.cr hR).2, gTr.cr.row (show 10 < 537 by omega)]
      exact (vSnd_c (TT.cr hR).1).symm
    rw [t1, t2] at hν
    refine GG.aload_n e_X11_then_29 (i := 0) rfl 0 rfl ?_
    refine GG.getR (b := 64) e_X11_then_30 fl_X11_7 (sf_X11_0 i_X11_63) ?_
    refine GG.sipush (v := 545) e_X11_then_33 rfl ?_
    refine GG.ialoadV (k := 545) (v := (mPg snd ok n (mrd μ 64 8, mrd μ 64 9)).1) e_X11_then_36 (sa_X11_0 i_X11_63) (rfl) (by omega) (Nat.le_of_ble_eq_true rfl) (by rw [hν.row]; simp [mrd_wr]) ?_
    refine GG.iret e_X11_then_37 rfl rfl ?_
    exact hok n rfl o2 ν (((gTr.cr.wr (by omega)).wr (by omega)).l9 hν).sm
  · skip
    have oo := inT h7
    refine GG.aload_n e_X11_then_10 (i := 0) rfl 0 rfl ?_
    refine GG.bipush (v := -2) e_X11_then_11 rfl ?_
    refine GG.callV (d' := 0) (a := 63) (as := [.int _]) e_X11_then_13 ml_X11_55 mf_X11_refuse mv_X11_refuse (rc_X11 i_X11_63) rfl (by decide) (Nat.le_of_ble_eq_true rfl) rfl ?_
    refine s_X11_refB ?_
    refine GG.iret e_X11_then_16 rfl rfl ?_
    exact hbad oo
end S35
