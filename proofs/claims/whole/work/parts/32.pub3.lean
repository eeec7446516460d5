/-! THE FACE, third part -/
section S32
variable {μ : gM} {Q : Option Value → gM → Prop} {P A U L T N M : Nat} {i c a w z v x y k o : Int32}
theorem s_X6_addC {r : Nat} (hI_X6_r : gI_X6 r) (hN : mrd μ r 0 = nI N) (hN6 : N ≤ 6) (hQ : ∀ q ν, (N = 6 ∧ q = 0 ∧ ν = μ ∨ N < 6 ∧ q = 1 ∧ ν = mAd μ r N x y z w) → Q (some (.int q)) ν) : SPC 1 MX6_add [.ref r, .int x, .int y, .int z, .int w] μ Q :=
  s_X6_add hI_X6_r hN hN6 (fun h => hQ 0 μ (Or.inl ⟨h, rfl, rfl⟩)) (fun h => hQ 1 _ (Or.inr ⟨h, rfl, rfl⟩))
theorem s_X10_addedC {r : Nat} (hI_X6_r : gI_X6 r) (hQ : ∀ q ν, (z = 0 ∧ q = -4 ∧ ν = mRf μ 12 ∨ ¬ z = 0 ∧ q = mrd μ r 0 ∧ ν = μ) → Q (some (.int q)) ν) : SPC 1 MX10_added [.ref 0, .ref r, .int z] μ Q :=
  s_X10_added hI_X6_r (fun h => hQ _ _ (Or.inl ⟨h, rfl, rfl⟩)) (fun h => hQ _ _ (Or.inr ⟨h, rfl, rfl⟩))
theorem addFin {r : Nat} {q q2 : Int32} {ν ν2 : gM} (hr : N = 6 ∧ q = 0 ∧ ν = μ ∨ N < 6 ∧ q = 1 ∧ ν = mAd μ r N x y z w) (hr2 : q = 0 ∧ q2 = -4 ∧ ν2 = mRf ν 12 ∨ ¬ q = 0 ∧ q2 = mrd ν r 0 ∧ ν2 = ν)
    (hfull : N = 6 → Q (some (.int (-4))) (mRf μ 12)) (hok : N < 6 → Q (some (.int (nI (N + 1)))) (mAd μ r N x y z w)) : Q (some (.int q2)) ν2 := by
  rcases hr with ⟨e1, rfl, rfl⟩ | ⟨e1, rfl, rfl⟩
  · obtain ⟨-, rfl, rfl⟩ := hr2.resolve_right (fun z => z.1 rfl)
    exact hfull e1
  · obtain ⟨-, rfl, rfl⟩ := hr2.resolve_left (fun z => absurd z.1 (by decide))
    exact qI (hok e1) (by unfold mAd; rw [mrd_wr, if_pos ⟨rfl, rfl⟩])
theorem s_X10_heard (hT : mrd μ 8 0 = nI T) (hT6 : T ≤ 6) (hbad : (oB c 0 99 || oB z 0 1) = true → Q (some (.int (-2))) (mRf μ 10)) (hfull : (oB c 0 99 || oB z 0 1) = false → T = 6 → Q (some (.int (-4))) (mRf μ 12))
    (hok : (oB c 0 99 || oB z 0 1) = false → T < 6 → Q (some (.int (nI (T + 1)))) (mAd μ 8 T c z 0 0)) : SPC 2 MX10_heard [.ref 0, .int c, .int z] μ Q := by
  refine SPC.of (by decide +kernel) (Nat.le_of_ble_eq_true rfl) (ls := [(0, .ref (0)), (1, .int (c)), (2, .int (z))]) rfl ?_
  refine GG.iload_n e_X10_heard_0 (i := 1) rfl 1 rfl ?_
  refine GG.callS (d' := 1) (as := [.int _]) e_X10_heard_1 ml_X10_176 mf_X10_notAsked ms_X10_notAsked rfl (by decide) (Nat.le_of_ble_eq_true rfl) rfl ?_
  refine s_X10_notAsked ?_
  refine GG.if_ne (tgt := 16) e_X10_heard_4 rfl (fun h4 => ?_) (fun h4 => ?_)
  · skip
    have o : oB c 0 99 = true := (bI_n0 _).mp h4
    refine GG.aload_n e_X10_heard_16 (i := 0) rfl 0 rfl ?_
    refine GG.bipush (v := -2) e_X10_heard_17 rfl ?_
    refine GG.callV (d' := 0) (a := 0) (as := [.int _]) e_X10_heard_19 ml_X10_61 mf_X10_refuseBad mv_X10_refuseBad (rc_X10 i_X10_0) rfl (by decide) (Nat.le_of_ble_eq_true rfl) rfl ?_
    refine s_X10_refuseBad ?_
    refine GG.iret e_X10_heard_22 rfl rfl ?_
    exact hbad (by simp [o])
  · skip
    have o1 : oB c 0 99 = false := (bI_0 _).mp h4
    refine GG.iload_n e_X10_heard_7 (i := 2) rfl 2 rfl ?_
    refine GG.iconst (v := 0) e_X10_heard_8 rfl ?_
    refine GG.iconst (v := 1) e_X10_heard_9 rfl ?_
    refine GG.callS (d' := 0) (as := [.int _, .int _, .int _]) e_X10_heard_10 ml_X10_57 mf_X10_outside ms_X10_outside rfl (by decide) (Nat.le_of_ble_eq_true rfl) rfl ?_
    refine s_X10_outside ?_
    refine GG.if_eq (tgt := 23) e_X10_heard_13 rfl (fun h13 => ?_) (fun h13 => ?_)
    · skip
      have o2 : oB z 0 1 = false := (bI_0 _).mp h13
      refine GG.aload_n e_X10_heard_23 (i := 0) rfl 0 rfl ?_
      refine GG.aload_n e_X10_heard_24 (i := 0) rfl 0 rfl ?_
      refine GG.getR (b := 1) e_X10_heard_25 fl_X10_12 (sf_X10_0 i_X10_0) ?_
      refine GG.getR (b := 8) e_X10_heard_28 fl_X10_217 (sf_X2_1 i_X2_1) ?_
      refine GG.aload_n e_X10_heard_31 (i := 0) rfl 0 rfl ?_
      refine GG.getR (b := 1) e_X10_heard_32 fl_X10_12 (sf_X10_0 i_X10_0) ?_
      refine GG.getR (b := 8) e_X10_heard_35 fl_X10_217 (sf_X2_1 i_X2_1) ?_
      refine GG.iload_n e_X10_heard_38 (i := 1) rfl 1 rfl ?_
      refine GG.iload_n e_X10_heard_39 (i := 2) rfl 2 rfl ?_
      refine GG.iconst (v := 0) e_X10_heard_40 rfl ?_
      refine GG.iconst (v := 0) e_X10_heard_41 rfl ?_
      refine GG.callV (d' := 1) (a := 8) (as := [.int _, .int _, .int _, .int _]) e_X10_heard_42 ml_X10_221 mf_X6_add mv_X6_add (rc_X6 i_X6_8) rfl (by decide) (Nat.le_of_ble_eq_true rfl) rfl ?_
      refine s_X6_addC i_X6_8 hT hT6 (fun q ν hr => ?_)
      refine GG.callV (d' := 1) (a := 0) (as := [.ref 8, .int _]) e_X10_heard_45 ml_X10_227 mf_X10_added mv_X10_added (rc_X10 i_X10_0) rfl (by decide) (Nat.le_of_ble_eq_true rfl) rfl ?_
      refine s_X10_addedC i_X6_8 (fun q2 ν2 hr2 => ?_)
      refine GG.iret e_X10_heard_48 rfl rfl ?_
      exact addFin hr hr2 (hfull (by simp [o1, o2])) (hok (by simp [o1, o2]))
    · skip
      have o : oB z 0 1 = true := (bI_n0 _).mp h13
      refine GG.aload_n e_X10_heard_16 (i := 0) rfl 0 rfl ?_
      refine GG.bipush (v := -2) e_X10_heard_17 rfl ?_
      refine GG.callV (d' := 0) (a := 0) (as := [.int _]) e_X10_heard_19 ml_X10_61 mf_X10_refuseBad mv_X10_refuseBad (rc_X10 i_X10_0) rfl (by decide) (Nat.le_of_ble_eq_true rfl) rfl ?_
      refine s_X10_refuseBad ?_
      refine GG.iret e_X10_heard_22 rfl rfl ?_
      exact hbad (by simp [o])
theorem s_X10_note (hL : LC μ 2 P A) (hT : mrd μ 10 0 = nI T) (hT6 : T ≤ 6) (hbad : (!mIn i P || oB a 0 9 || oB c 0 99 || oB x (-20) 20) = true → Q (some (.int (-2))) (mRf μ 10)) (hfull : (!mIn i P || oB a 0 9 || oB c 0 99 || oB x (-20) 20) = false → T = 6 → Q (some (.int (-4))) (mRf μ 12))
    (hok : (!mIn i P || oB a 0 9 || oB c 0 99 || oB x (-20) 20) = false → T < 6 → Q (some (.int (nI (T + 1)))) (mAd μ 10 T i a c x)) : SPC 2 MX10_note [.ref 0, .int i, .int a, .int c, .int x] μ Q := by
  refine SPC.of (by decide +kernel) (Nat.le_of_ble_eq_true rfl) (ls := [(0, .ref (0)), (1, .int (i)), (2, .int (a)), (3, .int (c)), (4, .int (x))]) rfl ?_
  refine GG.aload_n e_X10_note_0 (i := 0) rfl 0 rfl ?_
  refine GG.getR (b := 1) e_X10_note_1 fl_X10_12 (sf_X10_0 i_X10_0) ?_
  refine GG.getR (b := 2) e_X10_note_4 fl_X10_65 (sf_X2_0 i_X2_1) ?_
  refine GG.iload_n e_X10_note_7 (i := 1) rfl 1 rfl ?_
  refine GG.callV (d' := 0) (a := 2) (as := [.int _]) e_X10_note_8 ml_X10_140 mf_X4_hasOne mv_X4_hasOne (rc_X4 i_X4_2) rfl (by decide) (Nat.le_of_ble_eq_true rfl) rfl ?_
  refine s_X4_hasOne i_X4_2 hL ?_
  refine GG.if_eq (tgt := 36) e_X10_note_11 rfl (fun h11 => ?_) (fun h11 => ?_)
  · skip
    have o := (bI_0 _).mp h11
    refine GG.aload_n e_X10_note_36 (i := 0) rfl 0 rfl ?_
    refine GG.bipush (v := -2) e_X10_note_37 rfl ?_
    refine GG.callV (d' := 0) (a := 0) (as := [.int _]) e_X10_note_39 ml_X10_61 mf_X10_refuseBad mv_X10_refuseBad (rc_X10 i_X10_0) rfl (by decide) (Nat.le_of_ble_eq_true rfl) rfl ?_
    refine s_X10_refuseBad ?_
    refine GG.iret e_X10_note_42 rfl rfl ?_
    exact hbad (by simp [o])
  · skip
    have o0 := (bI_n0 _).mp h11
    refine GG.iload_n e_X10_note_14 (i := 2) rfl 2 rfl ?_
    refine GG.callS (d' := 1) (as := [.int _]) e_X10_note_15 ml_X10_98 mf_X10_notSwing ms_X10_notSwing rfl (by decide) (Nat.le_of_ble_eq_true rfl) rfl ?_
    refine s_X10_notSwing ?_
    refine GG.if_ne (tgt := 36) e_X10_note_18 rfl (fun h18 => ?_) (fun h18 => ?_)
    · skip
      have o := (bI_n0 _).mp h18
      refine GG.aload_n e_X10_note_36 (i := 0) rfl 0 rfl ?_
      refine GG.bipush (v := -2) e_X10_note_37 rfl ?_
      refine GG.callV (d' := 0) (a := 0) (as := [.int _]) e_X10_note_39 ml_X10_61 mf_X10_refuseBad mv_X10_refuseBad (rc_X10 i_X10_0) rfl (by decide) (Nat.le_of_ble_eq_true rfl) rfl ?_
      refine s_X10_refuseBad ?_
      refine GG.iret e_X10_note_42 rfl rfl ?_
      exact hbad (by simp [o])
    · skip
      have o1 := (bI_0 _).mp h18
      refine GG.iload_n e_X10_note_21 (i := 3) rfl 3 rfl ?_
      refine GG.callS (d' := 1) (as := [.int _]) e_X10_note_22 ml_X10_176 mf_X10_notAsked ms_X10_notAsked rfl (by decide) (Nat.le_of_ble_eq_true rfl) rfl ?_
      refine s_X10_notAsked ?_
      refine GG.if_ne (tgt := 36) e_X10_note_25 rfl (fun h25 => ?_) (fun h25 => ?_)
      · skip
        have o := (bI_n0 _).mp h25
        refine GG.aload_n e_X10_note_36 (i := 0) rfl 0 rfl ?_
        refine GG.bipush (v := -2) e_X10_note_37 rfl ?_
        refine GG.callV (d' := 0) (a := 0) (as := [.int _]) e_X10_note_39 ml_X10_61 mf_X10_refuseBad mv_X10_refuseBad (rc_X10 i_X10_0) rfl (by decide) (Nat.le_of_ble_eq_true rfl) rfl ?_
        refine s_X10_refuseBad ?_
        refine GG.iret e_X10_note_42 rfl rfl ?_
        exact hbad (by simp [o])
      · skip
        have o2 := (bI_0 _).mp h25
        refine GG.iload e_X10_note_28 4 rfl ?_
        refine GG.callS (d' := 1) (as := [.int _]) e_X10_note_30 ml_X10_242 mf_X10_notLean ms_X10_notLean rfl (by decide) (Nat.le_of_ble_eq_true rfl) rfl ?_
        refine s_X10_notLean ?_
        refine GG.if_eq (tgt := 43) e_X10_note_33 rfl (fun h33 => ?_) (fun h33 => ?_)
        · skip
          have o3 := (bI_0 _).mp h33
          refine GG.aload_n e_X10_note_43 (i := 0) rfl 0 rfl ?_
          refine GG.aload_n e_X10_note_44 (i := 0) rfl 0 rfl ?_
          refine GG.getR (b := 1) e_X10_note_45 fl_X10_12 (sf_X10_0 i_X10_0) ?_
          refine GG.getR (b := 10) e_X10_note_48 fl_X10_245 (sf_X2_2 i_X2_1) ?_
          refine GG.aload_n e_X10_note_51 (i := 0) rfl 0 rfl ?_
          refine GG.getR (b := 1) e_X10_note_52 fl_X10_12 (sf_X10_0 i_X10_0) ?_
          refine GG.getR (b := 10) e_X10_note_55 fl_X10_245 (sf_X2_2 i_X2_1) ?_
          refine GG.iload_n e_X10_note_58 (i := 1) rfl 1 rfl ?_
          refine GG.iload_n e_X10_note_59 (i := 2) rfl 2 rfl ?_
          refine GG.iload_n e_X10_note_60 (i := 3) rfl 3 rfl ?_
          refine GG.iload e_X10_note_61 4 rfl ?_
          refine GG.callV (d' := 1) (a := 10) (as := [.int _, .int _, .int _, .int _]) e_X10_note_63 ml_X10_221 mf_X6_add mv_X6_add (rc_X6 i_X6_10) rfl (by decide) (Nat.le_of_ble_eq_true rfl) rfl ?_
          refine s_X6_addC i_X6_10 hT hT6 (fun q ν hr => ?_)
          refine GG.callV (d' := 1) (a := 0) (as := [.ref 10, .int _]) e_X10_note_66 ml_X10_227 mf_X10_added mv_X10_added (rc_X10 i_X10_0) rfl (by decide) (Nat.le_of_ble_eq_true rfl) rfl ?_
          refine s_X10_addedC i_X6_10 (fun q2 ν2 hr2 => ?_)
          refine GG.iret e_X10_note_69 rfl rfl ?_
          exact addFin hr hr2 (hfull (by simp [o0, o1, o2, o3])) (hok (by simp [o0, o1, o2, o3]))
        · skip
          have o := (bI_n0 _).mp h33
          refine GG.aload_n e_X10_note_36 (i := 0) rfl 0 rfl ?_
          refine GG.bipush (v := -2) e_X10_note_37 rfl ?_
          refine GG.callV (d' := 0) (a := 0) (as := [.int _]) e_X10_note_39 ml_X10_61 mf_X10_refuseBad mv_X10_refuseBad (rc_X10 i_X10_0) rfl (by decide) (Nat.le_of_ble_eq_true rfl) rfl ?_
          refine s_X10_refuseBad ?_
          refine GG.iret e_X10_note_42 rfl rfl ?_
          exact hbad (by simp [o])
theorem s_X10_mark (hL : LC μ 2 P A) (hT : mrd μ 12 0 = nI T) (hT6 : T ≤ 6) (hbad : (!mIn i A || oB a (-20) 20 || oB c 0 99 || oB x (-20) 20) = true → Q (some (.int (-2))) (mRf μ 10)) (hfull : (!mIn i A || oB a (-20) 20 || oB c 0 99 || oB x (-20) 20) = false → T = 6 → Q (some (.int (-4))) (mRf μ 12))
    (hok : (!mIn i A || oB a (-20) 20 || oB c 0 99 || oB x (-20) 20) = false → T < 6 → Q (some (.int (nI (T + 1)))) (mAd μ 12 T i a c x)) : SPC 2 MX10_mark [.ref 0, .int i, .int a, .int c, .int x] μ Q := by
  refine SPC.of (by decide +kernel) (Nat.le_of_ble_eq_true rfl) (ls := [(0, .ref (0)), (1, .int (i)), (2, .int (a)), (3, .int (c)), (4, .int (x))]) rfl ?_
  refine GG.aload_n e_X10_mark_0 (i := 0) rfl 0 rfl ?_
  refine GG.getR (b := 1) e_X10_mark_1 fl_X10_12 (sf_X10_0 i_X10_0) ?_
  refine GG.getR (b := 2) e_X10_mark_4 fl_X10_65 (sf_X2_0 i_X2_1) ?_
  refine GG.iload_n e_X10_mark_7 (i := 1) rfl 1 rfl ?_
  refine GG.callV (d' := 0) (a := 2) (as := [.int _]) e_X10_mark_8 ml_X10_152 mf_X4_hasAunt mv_X4_hasAunt (rc_X4 i_X4_2) rfl (by decide) (Nat.le_of_ble_eq_true rfl) rfl ?_
  refine s_X4_hasAunt i_X4_2 hL ?_
  refine GG.if_eq (tgt := 36) e_X10_mark_11 rfl (fun h11 => ?_) (fun h11 => ?_)
  · skip
    have o := (bI_0 _).mp h11
    refine GG.aload_n e_X10_mark_36 (i := 0) rfl 0 rfl ?_
    refine GG.bipush (v := -2) e_X10_mark_37 rfl ?_
    refine GG.callV (d' := 0) (a := 0) (as := [.int _]) e_X10_mark_39 ml_X10_61 mf_X10_refuseBad mv_X10_refuseBad (rc_X10 i_X10_0) rfl (by decide) (Nat.le_of_ble_eq_true rfl) rfl ?_
    refine s_X10_refuseBad ?_
    refine GG.iret e_X10_mark_42 rfl rfl ?_
    exact hbad (by simp [o])
  · skip
    have o0 := (bI_n0 _).mp h11
    refine GG.iload_n e_X10_mark_14 (i := 2) rfl 2 rfl ?_
    refine GG.callS (d' := 1) (as := [.int _]) e_X10_mark_15 ml_X10_242 mf_X10_notLean ms_X10_notLean rfl (by decide) (Nat.le_of_ble_eq_true rfl) rfl ?_
    refine s_X10_notLean ?_
    refine GG.if_ne (tgt := 36) e_X10_mark_18 rfl (fun h18 => ?_) (fun h18 => ?_)
    · skip
      have o := (bI_n0 _).mp h18
      refine GG.aload_n e_X10_mark_36 (i := 0) rfl 0 rfl ?_
      refine GG.bipush (v := -2) e_X10_mark_37 rfl ?_
      refine GG.callV (d' := 0) (a := 0) (as := [.int _]) e_X10_mark_39 ml_X10_61 mf_X10_refuseBad mv_X10_refuseBad (rc_X10 i_X10_0) rfl (by decide) (Nat.le_of_ble_eq_true rfl) rfl ?_
      refine s_X10_refuseBad ?_
      refine GG.iret e_X10_mark_42 rfl rfl ?_
      exact hbad (by simp [o])
    · skip
      have o1 := (bI_0 _).mp h18
      refine GG.iload_n e_X10_mark_21 (i := 3) rfl 3 rfl ?_
      refine GG.callS (d' := 1) (as := [.int _]) e_X10_mark_22 ml_X10_176 mf_X10_notAsked ms_X10_notAsked rfl (by decide) (Nat.le_of_ble_eq_true rfl) rfl ?_
      refine s_X10_notAsked ?_
      refine GG.if_ne (tgt := 36) e_X10_mark_25 rfl (fun h25 => ?_) (fun h25 => ?_)
      · skip
        have o := (bI_n0 _).mp h25
        refine GG.aload_n e_X10_mark_36 (i := 0) rfl 0 rfl ?_
        refine GG.bipush (v := -2) e_X10_mark_37 rfl ?_
        refine GG.callV (d' := 0) (a := 0) (as := [.int _]) e_X10_mark_39 ml_X10_61 mf_X10_refuseBad mv_X10_refuseBad (rc_X10 i_X10_0) rfl (by decide) (Nat.le_of_ble_eq_true rfl) rfl ?_
        refine s_X10_refuseBad ?_
        refine GG.iret e_X10_mark_42 rfl rfl ?_
        exact hbad (by simp [o])
      · skip
        have o2 := (bI_0 _).mp h25
        refine GG.iload e_X10_mark_28 4 rfl ?_
        refine GG.callS (d' := 1) (as := [.int _]) e_X10_mark_30 ml_X10_242 mf_X10_notLean ms_X10_notLean rfl (by decide) (Nat.le_of_ble_eq_true rfl) rfl ?_
        refine s_X10_notLean ?_
        refine GG.if_eq (tgt := 43) e_X10_mark_33 rfl (fun h33 => ?_) (fun h33 => ?_)
        · skip
          have o3 := (bI_0 _).mp h33
          refine GG.aload_n e_X10_mark_43 (i := 0) rfl 0 rfl ?_
          refine GG.aload_n e_X10_mark_44 (i := 0) rfl 0 rfl ?_
          refine GG.getR (b := 1) e_X10_mark_45 fl_X10_12 (sf_X10_0 i_X10_0) ?_
          refine GG.getR (b := 12) e_X10_mark_48 fl_X10_248 (sf_X2_3 i_X2_1) ?_
          refine GG.aload_n e_X10_mark_51 (i := 0) rfl 0 rfl ?_
          refine GG.getR (b := 1) e_X10_mark_52 fl_X10_12 (sf_X10_0 i_X10_0) ?_
          refine GG.getR (b := 12) e_X10_mark_55 fl_X10_248 (sf_X2_3 i_X2_1) ?_
          refine GG.iload_n e_X10_mark_58 (i := 1) rfl 1 rfl ?_
          refine GG.iload_n e_X10_mark_59 (i := 2) rfl 2 rfl ?_
          refine GG.iload_n e_X10_mark_60 (i := 3) rfl 3 rfl ?_
          refine GG.iload e_X10_mark_61 4 rfl ?_
          refine GG.callV (d' := 1) (a := 12) (as := [.int _, .int _, .int _, .int _]) e_X10_mark_63 ml_X10_221 mf_X6_add mv_X6_add (rc_X6 i_X6_12) rfl (by decide) (Nat.le_of_ble_eq_true rfl) rfl ?_
          refine s_X6_addC i_X6_12 hT hT6 (fun q ν hr => ?_)
          refine GG.callV (d' := 1) (a := 0) (as := [.ref 12, .int _]) e_X10_mark_66 ml_X10_227 mf_X10_added mv_X10_added (rc_X10 i_X10_0) rfl (by decide) (Nat.le_of_ble_eq_true rfl) rfl ?_
          refine s_X10_addedC i_X6_12 (fun q2 ν2 hr2 => ?_)
          refine GG.iret e_X10_mark_69 rfl rfl ?_
          exact addFin hr hr2 (hfull (by simp [o0, o1, o2, o3])) (hok (by simp [o0, o1, o2, o3]))
        · skip
          have o := (bI_n0 _).mp h33
          refine GG.aload_n e_X10_mark_36 (i := 0) rfl 0 rfl ?_
          refine GG.bipush (v := -2) e_X10_mark_37 rfl ?_
          refine GG.callV (d' := 0) (a := 0) (as := [.int _]) e_X10_mark_39 ml_X10_61 mf_X10_refuseBad mv_X10_refuseBad (rc_X10 i_X10_0) rfl (by decide) (Nat.le_of_ble_eq_true rfl) rfl ?_
          refine s_X10_refuseBad ?_
          refine GG.iret e_X10_mark_42 rfl rfl ?_
          exact hbad (by simp [o])
theorem s_X10_lanes {f : Nat → Bool} (hL : LC μ 2 P A) (hT : mrd μ 8 0 = nI T) (hT6 : T ≤ 6) (hf : ∀ k, k < 27 → f k = mAll (mFB μ (cV μ 2) (mrd μ 2 8) A P (nI (4 + k))) T)
    (hQ : ∀ ν, gSm μ ν → Q (some (.int (mBits f 27))) ν) : SPC 6 MX10_lanes [.ref 0] μ Q := by
  refine SPC.of (by decide +kernel) (Nat.le_of_ble_eq_true rfl) (ls := [(0, .ref (0))]) rfl ?_
  refine GG.aload_n e_X10_lanes_0 (i := 0) rfl 0 rfl ?_
  refine GG.getR (b := 50) e_X10_lanes_1 fl_X10_39 (sf_X10_7 i_X10_0) ?_
  refine GG.aload_n e_X10_lanes_4 (i := 0) rfl 0 rfl ?_
  refine GG.getR (b := 1) e_X10_lanes_5 fl_X10_12 (sf_X10_0 i_X10_0) ?_
  refine GG.getR (b := 2) e_X10_lanes_8 fl_X10_65 (sf_X2_0 i_X2_1) ?_
  refine GG.aload_n e_X10_lanes_11 (i := 0) rfl 0 rfl ?_
  refine GG.getR (b := 1) e_X10_lanes_12 fl_X10_12 (sf_X10_0 i_X10_0) ?_
  refine GG.getR (b := 8) e_X10_lanes_15 fl_X10_217 (sf_X2_1 i_X2_1) ?_
  refine GG.callV (d' := 5) (a := 50) (as := [.ref 2, .ref 8]) e_X10_lanes_18 ml_X10_231 mf_X8_lanesThatFit mv_X8_lanesThatFit (rc_X8 i_X8_50) rfl (by decide) (Nat.le_of_ble_eq_true rfl) rfl ?_
  refine s_X8_lanesThatFit hL hT hT6 hf (fun ν hν => ?_)
  refine GG.iret e_X10_lanes_21 rfl rfl ?_
  exact hQ ν hν
theorem s_X10_swung {f : Nat → Nat → Bool} (hL : LC μ 2 P A) (hT : mrd μ 8 0 = nI T) (hT6 : T ≤ 6) (hf : ∀ k a, a < 10 → f k a = mAll (mFB μ (uV (cV μ 2) k (nI a)) (mrd μ 2 8) A P (mrd μ 2 0)) T) (hbad : mIn i P = false → Q (some (.int (-2))) (mRf μ 10))
    (hok : ∀ k, k < P → i = nI k → ∀ ν, gSm μ ν → Q (some (.int (mBits (f k) 10))) ν) : SPC 6 MX10_swung [.ref 0, .int i] μ Q := by
  have hP7 := hL.2.1
  refine SPC.of (by decide +kernel) (Nat.le_of_ble_eq_true rfl) (ls := [(0, .ref (0)), (1, .int (i))]) rfl ?_
  refine GG.aload_n e_X10_swung_0 (i := 0) rfl 0 rfl ?_
  refine GG.getR (b := 1) e_X10_swung_1 fl_X10_12 (sf_X10_0 i_X10_0) ?_
  refine GG.getR (b := 2) e_X10_swung_4 fl_X10_65 (sf_X2_0 i_X2_1) ?_
  refine GG.iload_n e_X10_swung_7 (i := 1) rfl 1 rfl ?_
  refine GG.callV (d' := 0) (a := 2) (as := [.int _]) e_X10_swung_8 ml_X10_140 mf_X4_hasOne mv_X4_hasOne (rc_X4 i_X4_2) rfl (by decide) (Nat.le_of_ble_eq_true rfl) rfl ?_
  refine s_X4_hasOne i_X4_2 hL ?_
  refine GG.if_ne (tgt := 21) e_X10_swung_11 rfl (fun h11 => ?_) (fun h11 => ?_)
  · skip
    obtain ⟨k, hk, rfl⟩ := mIn_of ((bI_n0 _).mp h11) (by omega)
    refine GG.aload_n e_X10_swung_21 (i := 0) rfl 0 rfl ?_
    refine GG.getR (b := 50) e_X10_swung_22 fl_X10_39 (sf_X10_7 i_X10_0) ?_
    refine GG.aload_n e_X10_swung_25 (i := 0) rfl 0 rfl ?_
    refine GG.getR (b := 1) e_X10_swung_26 fl_X10_12 (sf_X10_0 i_X10_0) ?_
    refine GG.getR (b := 2) e_X10_swung_29 fl_X10_65 (sf_X2_0 i_X2_1) ?_
    refine GG.aload_n e_X10_swung_32 (i := 0) rfl 0 rfl ?_
    refine GG.getR (b := 1) e_X10_swung_33 fl_X10_12 (sf_X10_0 i_X10_0) ?_
    refine GG.getR (b := 8) e_X10_swung_36 fl_X10_217 (sf_X2_1 i_X2_1) ?_
    refine GG.iload_n e_X10_swung_39 (i := 1) rfl 1 rfl ?_
    refine GG.callV (d' := 5) (a := 50) (as := [.ref 2, .ref 8, .int _]) e_X10_swung_40 ml_X10_235 mf_X8_swingsThatFit mv_X8_swingsThatFit (rc_X8 i_X8_50) rfl (by decide) (Nat.le_of_ble_eq_true rfl) rfl ?_
    refine s_X8_swingsThatFit hL hk hT hT6 (f := f k) (fun a ha => hf k a ha) (fun ν hν => ?_)
    refine GG.iret e_X10_swung_43 rfl rfl ?_
    exact hok k hk rfl ν hν
  · skip
    have o := (bI_0 _).mp h11
    refine GG.aload_n e_X10_swung_14 (i := 0) rfl 0 rfl ?_
    refine GG.bipush (v := -2) e_X10_swung_15 rfl ?_
    refine GG.callV (d' := 0) (a := 0) (as := [.int _]) e_X10_swung_17 ml_X10_61 mf_X10_refuseBad mv_X10_refuseBad (rc_X10 i_X10_0) rfl (by decide) (Nat.le_of_ble_eq_true rfl) rfl ?_
    refine s_X10_refuseBad ?_
    refine GG.iret e_X10_swung_20 rfl rfl ?_
    exact hbad o
theorem vRch_sm {μ ν : gM} {c lo : Int32} (h : gSm μ ν) : vRch (cV ν 2) (mrd ν 2 8) A P c lo = vRch (cV μ 2) (mrd μ 2 8) A P c lo := by
  rw [h.at2 (by omega)]
  exact vRch_c h.cV
theorem s_X10_hear {f : Nat → Bool} {g : Nat → Int32} (hL : LC μ 2 P A) (hT : mrd μ 8 0 = nI T) (hT6 : T ≤ 6) (hf : ∀ k, k < 27 → f k = mAll (mFB μ (cV μ 2) (mrd μ 2 8) A P (nI (4 + k))) T) (hg : ∀ c, c < 24 → g c = mHg (vRch (cV μ 2) (mrd μ 2 8) A P (nI c) (-1)) (mBits f 27))
    (hQ : ∀ ν, gSm μ ν → Q (some (.int (if mBits f 27 = 0 then -1 else (mBst g 24).1))) ν) : SPC 6 MX10_hear [.ref 0] μ Q := by
  refine SPC.of (by decide +kernel) (Nat.le_of_ble_eq_true rfl) (ls := [(0, .ref (0))]) rfl ?_
  refine GG.aload_n e_X10_hear_0 (i := 0) rfl 0 rfl ?_
  refine GG.getR (b := 1) e_X10_hear_1 fl_X10_12 (sf_X10_0 i_X10_0) ?_
  refine GG.getR (b := 2) e_X10_hear_4 fl_X10_65 (sf_X2_0 i_X2_1) ?_
  refine GG.aload_n e_X10_hear_7 (i := 0) rfl 0 rfl ?_
  refine GG.getR (b := 50) e_X10_hear_8 fl_X10_39 (sf_X10_7 i_X10_0) ?_
  refine GG.aload_n e_X10_hear_11 (i := 0) rfl 0 rfl ?_
  refine GG.getR (b := 1) e_X10_hear_12 fl_X10_12 (sf_X10_0 i_X10_0) ?_
  refine GG.getR (b := 2) e_X10_hear_15 fl_X10_65 (sf_X2_0 i_X2_1) ?_
  refine GG.aload_n e_X10_hear_18 (i := 0) rfl 0 rfl ?_
  refine GG.getR (b := 1) e_X10_hear_19 fl_X10_12 (sf_X10_0 i_X10_0) ?_
  refine GG.getR (b := 8) e_X10_hear_22 fl_X10_217 (sf_X2_1 i_X2_1) ?_
  refine GG.callV (d' := 5) (a := 50) (as := [.ref 2, .ref 8]) e_X10_hear_25 ml_X10_231 mf_X8_lanesThatFit mv_X8_lanesThatFit (rc_X8 i_X8_50) rfl (by decide) (Nat.le_of_ble_eq_true rfl) rfl ?_
  refine s_X8_lanesThatFit hL hT hT6 hf (fun ν hν => ?_)
  refine GG.callS (d' := 3) (as := [.ref 2, .int _]) e_X10_hear_28 ml_X10_239 mf_X8_bestCount ms_X8_bestCount rfl (by decide) (Nat.le_of_ble_eq_true rfl) rfl ?_
  refine s_X8_bestCount (hν.lc hL) (g := g) (fun c hc => ?_) ?_
  · rw [hg c hc, vRch_sm hν]
  refine GG.iret e_X10_hear_31 rfl rfl ?_
  exact hQ ν hν
theorem s_X10_forget (g0 : z = 0 → Q (some (.int (mrd μ 8 0))) (mwr μ 8 0 0)) (g1 : z = 1 → Q (some (.int (mrd μ 10 0))) (mwr μ 10 0 0)) (g2 : z = 2 → Q (some (.int (mrd μ 12 0))) (mwr μ 12 0 0))
    (hbad : ¬ z = 0 → ¬ z = 1 → ¬ z = 2 → Q (some (.int (-2))) (mRf μ 10)) : SPC 1 MX10_forget [.ref 0, .int z] μ Q := by
  refine SPC.of (by decide +kernel) (Nat.le_of_ble_eq_true rfl) (ls := [(0, .ref (0)), (1, .int (z))]) rfl ?_
  refine GG.iload_n e_X10_forget_0 (i := 1) rfl 1 rfl ?_
  refine GG.tcase 0 (off := 27) (tgt := 28) e_X10_forget_1 (by decide) (by decide) (by decide) rfl (fun h1 => ?_) (fun h1_0 => ?_)
  · skip
    refine GG.aload_n e_X10_forget_28 (i := 0) rfl 0 rfl ?_
    refine GG.getR (b := 1) e_X10_forget_29 fl_X10_12 (sf_X10_0 i_X10_0) ?_
    refine GG.getR (b := 8) e_X10_forget_32 fl_X10_217 (sf_X2_1 i_X2_1) ?_
    refine GG.callV (d' := 0) (a := 8) (as := []) e_X10_forget_35 ml_X10_251 mf_X6_forgetAll mv_X6_forgetAll (rc_X6 i_X6_8) rfl (by decide) (Nat.le_of_ble_eq_true rfl) rfl ?_
    refine s_X6_forgetAll i_X6_8 ?_
    refine GG.iret e_X10_forget_38 rfl rfl ?_
    exact g0 (by assumption)
  refine GG.tcase 1 (off := 38) (tgt := 39) e_X10_forget_1 (by decide) (by decide) (by decide) rfl (fun h1 => ?_) (fun h1_1 => ?_)
  · skip
    refine GG.aload_n e_X10_forget_39 (i := 0) rfl 0 rfl ?_
    refine GG.getR (b := 1) e_X10_forget_40 fl_X10_12 (sf_X10_0 i_X10_0) ?_
    refine GG.getR (b := 10) e_X10_forget_43 fl_X10_245 (sf_X2_2 i_X2_1) ?_
    refine GG.callV (d' := 0) (a := 10) (as := []) e_X10_forget_46 ml_X10_251 mf_X6_forgetAll mv_X6_forgetAll (rc_X6 i_X6_10) rfl (by decide) (Nat.le_of_ble_eq_true rfl) rfl ?_
    refine s_X6_forgetAll i_X6_10 ?_
    refine GG.iret e_X10_forget_49 rfl rfl ?_
    exact g1 (by assumption)
  refine GG.tcase 2 (off := 49) (tgt := 50) e_X10_forget_1 (by decide) (by decide) (by decide) rfl (fun h1 => ?_) (fun h1_2 => ?_)
  · skip
    refine GG.aload_n e_X10_forget_50 (i := 0) rfl 0 rfl ?_
    refine GG.getR (b := 1) e_X10_forget_51 fl_X10_12 (sf_X10_0 i_X10_0) ?_
    refine GG.getR (b := 12) e_X10_forget_54 fl_X10_248 (sf_X2_3 i_X2_1) ?_
    refine GG.callV (d' := 0) (a := 12) (as := []) e_X10_forget_57 ml_X10_251 mf_X6_forgetAll mv_X6_forgetAll (rc_X6 i_X6_12) rfl (by decide) (Nat.le_of_ble_eq_true rfl) rfl ?_
    refine s_X6_forgetAll i_X6_12 ?_
    refine GG.iret e_X10_forget_60 rfl rfl ?_
    exact g2 (by assumption)
  refine GG.tableOut (tgt := 61) e_X10_forget_1 (by have a0 := sw_n 0 (by decide) h1_0; have a1 := sw_n 1 (by decide) h1_1; have a2 := sw_n 2 (by decide) h1_2; omega) rfl ?_
  refine GG.aload_n e_X10_forget_61 (i := 0) rfl 0 rfl ?_
  refine GG.bipush (v := -2) e_X10_forget_62 rfl ?_
  refine GG.callV (d' := 0) (a := 0) (as := [.int _]) e_X10_forget_64 ml_X10_61 mf_X10_refuseBad mv_X10_refuseBad (rc_X10 i_X10_0) rfl (by decide) (Nat.le_of_ble_eq_true rfl) rfl ?_
  refine s_X10_refuseBad ?_
  refine GG.iret e_X10_forget_67 rfl rfl ?_
  exact hbad (by assumption) (by assumption) (by assumption)
theorem s_X10_is (hL : LC μ 2 P A) (hN : mrd μ 10 0 = nI N) (hN6 : N ≤ 6) (hbad : mIn i P = false → Q (some (.int (-2))) (mRf μ 10))
    (hok : mIn i P = true → Q (some (.int (mBits (fun kind => mAll (mKn μ mLean 10 i kind) N) 6))) μ) : SPC 3 MX10_is [.ref 0, .int i] μ Q := by
  refine SPC.of (by decide +kernel) (Nat.le_of_ble_eq_true rfl) (ls := [(0, .ref (0)), (1, .int (i))]) rfl ?_
  refine GG.aload_n e_X10_is_0 (i := 0) rfl 0 rfl ?_
  refine GG.getR (b := 1) e_X10_is_1 fl_X10_12 (sf_X10_0 i_X10_0) ?_
  refine GG.getR (b := 2) e_X10_is_4 fl_X10_65 (sf_X2_0 i_X2_1) ?_
  refine GG.iload_n e_X10_is_7 (i := 1) rfl 1 rfl ?_
  refine GG.callV (d' := 0) (a := 2) (as := [.int _]) e_X10_is_8 ml_X10_140 mf_X4_hasOne mv_X4_hasOne (rc_X4 i_X4_2) rfl (by decide) (Nat.le_of_ble_eq_true rfl) rfl ?_
  refine s_X4_hasOne i_X4_2 hL ?_
  refine GG.if_ne (tgt := 21) e_X10_is_11 rfl (fun h11 => ?_) (fun h11 => ?_)
  · skip
    have o := (bI_n0 _).mp h11
    refine GG.aload_n e_X10_is_21 (i := 0) rfl 0 rfl ?_
    refine GG.getR (b := 1) e_X10_is_22 fl_X10_12 (sf_X10_0 i_X10_0) ?_
    refine GG.getR (b := 10) e_X10_is_25 fl_X10_245 (sf_X2_2 i_X2_1) ?_
    refine GG.iload_n e_X10_is_28 (i := 1) rfl 1 rfl ?_
    refine GG.callS (d' := 2) (as := [.ref 10, .int _]) e_X10_is_29 ml_X10_253 mf_X1_kindsOfOne ms_X1_kindsOfOne rfl (by decide) (Nat.le_of_ble_eq_true rfl) rfl ?_
    refine s_X1_kindsOfOne i_X6_10 hN hN6 ?_
    refine GG.iret e_X10_is_32 rfl rfl ?_
    exact hok o
  · skip
    have o := (bI_0 _).mp h11
    refine GG.aload_n e_X10_is_14 (i := 0) rfl 0 rfl ?_
    refine GG.bipush (v := -2) e_X10_is_15 rfl ?_
    refine GG.callV (d' := 0) (a := 0) (as := [.int _]) e_X10_is_17 ml_X10_61 mf_X10_refuseBad mv_X10_refuseBad (rc_X10 i_X10_0) rfl (by decide) (Nat.le_of_ble_eq_true rfl) rfl ?_
    refine s_X10_refuseBad ?_
    refine GG.iret e_X10_is_20 rfl rfl ?_
    exact hbad o
theorem s_X10_kinds (hL : LC μ 2 P A) (hN : mrd μ 12 0 = nI N) (hN6 : N ≤ 6) (hbad : mIn i A = false → Q (some (.int (-2))) (mRf μ 10))
    (hok : mIn i A = true → Q (some (.int (mBits (fun kind => mAll (mKn μ mDamp 12 i kind) N) 6))) μ) : SPC 3 MX10_kinds [.ref 0, .int i] μ Q := by
  refine SPC.of (by decide +kernel) (Nat.le_of_ble_eq_true rfl) (ls := [(0, .ref (0)), (1, .int (i))]) rfl ?_
  refine GG.aload_n e_X10_kinds_0 (i := 0) rfl 0 rfl ?_
  refine GG.getR (b := 1) e_X10_kinds_1 fl_X10_12 (sf_X10_0 i_X10_0) ?_
  refine GG.getR (b := 2) e_X10_kinds_4 fl_X10_65 (sf_X2_0 i_X2_1) ?_
  refine GG.iload_n e_X10_kinds_7 (i := 1) rfl 1 rfl ?_
  refine GG.callV (d' := 0) (a := 2) (as := [.int _]) e_X10_kinds_8 ml_X10_152 mf_X4_hasAunt mv_X4_hasAunt (rc_X4 i_X4_2) rfl (by decide) (Nat.le_of_ble_eq_true rfl) rfl ?_
  refine s_X4_hasAunt i_X4_2 hL ?_
  refine GG.if_ne (tgt := 21) e_X10_kinds_11 rfl (fun h11 => ?_) (fun h11 => ?_)
  · skip
    have o := (bI_n0 _).mp h11
    refine GG.aload_n e_X10_kinds_21 (i := 0) rfl 0 rfl ?_
    refine GG.getR (b := 1) e_X10_kinds_22 fl_X10_12 (sf_X10_0 i_X10_0) ?_
    refine GG.getR (b := 12) e_X10_kinds_25 fl_X10_248 (sf_X2_3 i_X2_1) ?_
    refine GG.iload_n e_X10_kinds_28 (i := 1) rfl 1 rfl ?_
    refine GG.callS (d' := 2) (as := [.ref 12, .int _]) e_X10_kinds_29 ml_X10_260 mf_X1_kindsOfAunt ms_X1_kindsOfAunt rfl (by decide) (Nat.le_of_ble_eq_true rfl) rfl ?_
    refine s_X1_kindsOfAunt i_X6_12 hN hN6 ?_
    refine GG.iret e_X10_kinds_32 rfl rfl ?_
    exact hok o
  · skip
    have o := (bI_0 _).mp h11
    refine GG.aload_n e_X10_kinds_14 (i := 0) rfl 0 rfl ?_
    refine GG.bipush (v := -2) e_X10_kinds_15 rfl ?_
    refine GG.callV (d' := 0) (a := 0) (as := [.int _]) e_X10_kinds_17 ml_X10_61 mf_X10_refuseBad mv_X10_refuseBad (rc_X10 i_X10_0) rfl (by decide) (Nat.le_of_ble_eq_true rfl) rfl ?_
    refine s_X10_refuseBad ?_
    refine GG.iret e_X10_kinds_20 rfl rfl ?_
    exact hbad o
theorem s_X10_look {s : Int32} {g : Nat → Nat} (hL : LC μ 2 P A) (hN : mrd μ 10 0 = nI N) (hN6 : N ≤ 6) (hs : s = mBits (fun kind => mAll (mKn μ mLean 10 i kind) N) 6) (hg : ∀ q, q < 120 → g q = mAk (fun k => mLean (nI k) (nI (q % 10)) (nI (q / 10))) s) (hbad : mIn i P = false → Q (some (.int (-2))) (mRf μ 10))
    (hok : mIn i P = true → ∀ ν, gSm μ ν → Q (some (.int (if s = 0 then -1 else (mFew g id 7 120).1))) ν) : SPC 3 MX10_look [.ref 0, .int i] μ Q := by
  refine SPC.of (by decide +kernel) (Nat.le_of_ble_eq_true rfl) (ls := [(0, .ref (0)), (1, .int (i))]) rfl ?_
  refine GG.aload_n e_X10_look_0 (i := 0) rfl 0 rfl ?_
  refine GG.getR (b := 1) e_X10_look_1 fl_X10_12 (sf_X10_0 i_X10_0) ?_
  refine GG.getR (b := 2) e_X10_look_4 fl_X10_65 (sf_X2_0 i_X2_1) ?_
  refine GG.iload_n e_X10_look_7 (i := 1) rfl 1 rfl ?_
  refine GG.callV (d' := 0) (a := 2) (as := [.int _]) e_X10_look_8 ml_X10_140 mf_X4_hasOne mv_X4_hasOne (rc_X4 i_X4_2) rfl (by decide) (Nat.le_of_ble_eq_true rfl) rfl ?_
  refine s_X4_hasOne i_X4_2 hL ?_
  refine GG.if_ne (tgt := 21) e_X10_look_11 rfl (fun h11 => ?_) (fun h11 => ?_)
  · skip
    have o := (bI_n0 _).mp h11
    refine GG.aload_n e_X10_look_21 (i := 0) rfl 0 rfl ?_
    refine GG.getR (b := 58) e_X10_look_22 fl_X10_46 (sf_X10_8 i_X10_0) ?_
    refine GG.aload_n e_X10_look_25 (i := 0) rfl 0 rfl ?_
    refine GG.getR (b := 1) e_X10_look_26 fl_X10_12 (sf_X10_0 i_X10_0) ?_
    refine GG.getR (b := 10) e_X10_look_29 fl_X10_245 (sf_X2_2 i_X2_1) ?_
    refine GG.iload_n e_X10_look_32 (i := 1) rfl 1 rfl ?_
    refine GG.callS (d' := 2) (as := [.ref 10, .int _]) e_X10_look_33 ml_X10_253 mf_X1_kindsOfOne ms_X1_kindsOfOne rfl (by decide) (Nat.le_of_ble_eq_true rfl) rfl ?_
    refine s_X1_kindsOfOne i_X6_10 hN hN6 ?_
    rw [← hs]
    refine GG.callV (d' := 2) (a := 58) (as := [.int _]) e_X10_look_36 ml_X10_257 mf_X1_bestLook mv_X1_bestLook (rc_X1 i_X1_58) rfl (by decide) (Nat.le_of_ble_eq_true rfl) rfl ?_
    refine s_X1_bestLook hg (fun ν hν => ?_)
    refine GG.iret e_X10_look_39 rfl rfl ?_
    exact hok o ν hν
  · skip
    have o := (bI_0 _).mp h11
    refine GG.aload_n e_X10_look_14 (i := 0) rfl 0 rfl ?_
    refine GG.bipush (v := -2) e_X10_look_15 rfl ?_
    refine GG.callV (d' := 0) (a := 0) (as := [.int _]) e_X10_look_17 ml_X10_61 mf_X10_refuseBad mv_X10_refuseBad (rc_X10 i_X10_0) rfl (by decide) (Nat.le_of_ble_eq_true rfl) rfl ?_
    refine s_X10_refuseBad ?_
    refine GG.iret e_X10_look_20 rfl rfl ?_
    exact hbad o
theorem s_X10_ask {s : Int32} {g : Nat → Nat} (hL : LC μ 2 P A) (hN : mrd μ 12 0 = nI N) (hN6 : N ≤ 6) (hs : s = mBits (fun kind => mAll (mKn μ mDamp 12 i kind) N) 6) (hg : ∀ q, q < 160 → g q = mAk (fun k => mDamp (nI k) (nI (q % 16)) (nI (q / 16))) s) (hbad : mIn i A = false → Q (some (.int (-2))) (mRf μ 10))
    (hok : mIn i A = true → ∀ ν, gSm μ ν → Q (some (.int (if s = 0 then -1 else (mFew g (fun q => 100 * (q / 16) + q % 16) 7 160).1))) ν) : SPC 3 MX10_ask [.ref 0, .int i] μ Q := by
  refine SPC.of (by decide +kernel) (Nat.le_of_ble_eq_true rfl) (ls := [(0, .ref (0)), (1, .int (i))]) rfl ?_
  refine GG.aload_n e_X10_ask_0 (i := 0) rfl 0 rfl ?_
  refine GG.getR (b := 1) e_X10_ask_1 fl_X10_12 (sf_X10_0 i_X10_0) ?_
  refine GG.getR (b := 2) e_X10_ask_4 fl_X10_65 (sf_X2_0 i_X2_1) ?_
  refine GG.iload_n e_X10_ask_7 (i := 1) rfl 1 rfl ?_
  refine GG.callV (d' := 0) (a := 2) (as := [.int _]) e_X10_ask_8 ml_X10_152 mf_X4_hasAunt mv_X4_hasAunt (rc_X4 i_X4_2) rfl (by decide) (Nat.le_of_ble_eq_true rfl) rfl ?_
  refine s_X4_hasAunt i_X4_2 hL ?_
  refine GG.if_ne (tgt := 21) e_X10_ask_11 rfl (fun h11 => ?_) (fun h11 => ?_)
  · skip
    have o := (bI_n0 _).mp h11
    refine GG.aload_n e_X10_ask_21 (i := 0) rfl 0 rfl ?_
    refine GG.getR (b := 58) e_X10_ask_22 fl_X10_46 (sf_X10_8 i_X10_0) ?_
    refine GG.aload_n e_X10_ask_25 (i := 0) rfl 0 rfl ?_
    refine GG.getR (b := 1) e_X10_ask_26 fl_X10_12 (sf_X10_0 i_X10_0) ?_
    refine GG.getR (b := 12) e_X10_ask_29 fl_X10_248 (sf_X2_3 i_X2_1) ?_
    refine GG.iload_n e_X10_ask_32 (i := 1) rfl 1 rfl ?_
    refine GG.callS (d' := 2) (as := [.ref 12, .int _]) e_X10_ask_33 ml_X10_260 mf_X1_kindsOfAunt ms_X1_kindsOfAunt rfl (by decide) (Nat.le_of_ble_eq_true rfl) rfl ?_
    refine s_X1_kindsOfAunt i_X6_12 hN hN6 ?_
    rw [← hs]
    refine GG.callV (d' := 2) (a := 58) (as := [.int _]) e_X10_ask_36 ml_X10_263 mf_X1_bestAsk mv_X1_bestAsk (rc_X1 i_X1_58) rfl (by decide) (Nat.le_of_ble_eq_true rfl) rfl ?_
    refine s_X1_bestAsk hg (fun ν hν => ?_)
    refine GG.iret e_X10_ask_39 rfl rfl ?_
    exact hok o ν hν
  · skip
    have o := (bI_0 _).mp h11
    refine GG.aload_n e_X10_ask_14 (i := 0) rfl 0 rfl ?_
    refine GG.bipush (v := -2) e_X10_ask_15 rfl ?_
    refine GG.callV (d' := 0) (a := 0) (as := [.int _]) e_X10_ask_17 ml_X10_61 mf_X10_refuseBad mv_X10_refuseBad (rc_X10 i_X10_0) rfl (by decide) (Nat.le_of_ble_eq_true rfl) rfl ?_
    refine s_X10_refuseBad ?_
    refine GG.iret e_X10_ask_20 rfl rfl ?_
    exact hbad o
def gGm (G : Nat → Int32) (k r : Int32) : Prop := k = -1 ∧ r = nI (mCt (gRs G) 20) ∨ ¬ k = -1 ∧ (∀ q, q < 20 → gRs G q = true → ¬ nI (mCt (gRs G) q) = k) ∧ r = -5 ∨ ¬ k = -1 ∧ ∃ q, q < 20 ∧ gRs G q = true ∧ nI (mCt (gRs G) q) = k ∧ r = nI q
theorem s_X10_game {k : Int32} (hL : LC μ 2 P A) (hT : mrd μ 2 8 = nI T) (hT16 : T < 16) (hbad : (!mIn i P || !mIn z A || oB c 0 99 || decide (k < -1)) = true → Q (some (.int (-10))) (mRf μ 10))
    (hok : ∀ p u, p < P → u < A → i = nI p → z = nI u → oB c 0 99 = false → ¬ k < -1 → ∀ ν G r, gSm μ ν → (∀ q, q < 20 → G q = vSnd (uV (cV μ 2) p (nI (q % 10))) (if q < 10 then nI (T &&& (15 ^^^ 2 ^ u)) else nI (T ||| 2 ^ u)) A (mrd μ 2 0) P c) →
      gGm G k r → Q (some (.int r)) ν) : SPC 5 MX10_game [.ref 0, .int i, .int z, .int c, .int k] μ Q := by
  have hP7 := hL.2.1
  have hA4 := hL.2.2.2
  have rp : ∀ (ν : gM) (Q : Option Value → gM → Prop), ¬ k = -1 → (∀ r, gGm (mrd ν 57) k r → Q (some (.int r)) ν) → SPC 4 MX8_restingPair [.ref 50, .int k] ν Q := fun ν Q hk h =>
    s_X8_restingPair (fun z => h _ (Or.inr (Or.inl ⟨hk, z, rfl⟩))) (fun q h1 h2 h3 => h _ (Or.inr (Or.inr ⟨hk, q, h1, h2, h3, rfl⟩)))
  refine SPC.of (by decide +kernel) (Nat.le_of_ble_eq_true rfl) (ls := [(0, .ref (0)), (1, .int (i)), (2, .int (z)), (3, .int (c)), (4, .int (k))]) rfl ?_
  refine GG.aload_n e_X10_game_0 (i := 0) rfl 0 rfl ?_
  refine GG.getR (b := 1) e_X10_game_1 fl_X10_12 (sf_X10_0 i_X10_0) ?_
  refine GG.getR (b := 2) e_X10_game_4 fl_X10_65 (sf_X2_0 i_X2_1) ?_
  refine GG.iload_n e_X10_game_7 (i := 1) rfl 1 rfl ?_
  refine GG.callV (d' := 0) (a := 2) (as := [.int _]) e_X10_game_8 ml_X10_140 mf_X4_hasOne mv_X4_hasOne (rc_X4 i_X4_2) rfl (by decide) (Nat.le_of_ble_eq_true rfl) rfl ?_
  refine s_X4_hasOne i_X4_2 hL ?_
  refine GG.if_eq (tgt := 41) e_X10_game_11 rfl (fun h11 => ?_) (fun h11 => ?_)
  · skip
    have o := (bI_0 _).mp h11
    refine GG.aload_n e_X10_game_41 (i := 0) rfl 0 rfl ?_
    refine GG.bipush (v := -10) e_X10_game_42 rfl ?_
    refine GG.callV (d' := 0) (a := 0) (as := [.int _]) e_X10_game_44 ml_X10_61 mf_X10_refuseBad mv_X10_refuseBad (rc_X10 i_X10_0) rfl (by decide) (Nat.le_of_ble_eq_true rfl) rfl ?_
    refine s_X10_refuseBad ?_
    refine GG.iret e_X10_game_47 rfl rfl ?_
    exact hbad (by simp [o])
  · skip
    obtain ⟨p, hp, rfl⟩ := mIn_of ((bI_n0 _).mp h11) (by omega)
    refine GG.aload_n e_X10_game_14 (i := 0) rfl 0 rfl ?_
    refine GG.getR (b := 1) e_X10_game_15 fl_X10_12 (sf_X10_0 i_X10_0) ?_
    refine GG.getR (b := 2) e_X10_game_18 fl_X10_65 (sf_X2_0 i_X2_1) ?_
    refine GG.iload_n e_X10_game_21 (i := 2) rfl 2 rfl ?_
    refine GG.callV (d' := 0) (a := 2) (as := [.int _]) e_X10_game_22 ml_X10_152 mf_X4_hasAunt mv_X4_hasAunt (rc_X4 i_X4_2) rfl (by decide) (Nat.le_of_ble_eq_true rfl) rfl ?_
    refine s_X4_hasAunt i_X4_2 hL ?_
    refine GG.if_eq (tgt := 41) e_X10_game_25 rfl (fun h25 => ?_) (fun h25 => ?_)
    · skip
      have o := (bI_0 _).mp h25
      refine GG.aload_n e_X10_game_41 (i := 0) rfl 0 rfl ?_
      refine GG.bipush (v := -10) e_X10_game_42 rfl ?_
      refine GG.callV (d' := 0) (a := 0) (as := [.int _]) e_X10_game_44 ml_X10_61 mf_X10_refuseBad mv_X10_refuseBad (rc_X10 i_X10_0) rfl (by decide) (Nat.le_of_ble_eq_true rfl) rfl ?_
      refine s_X10_refuseBad ?_
      refine GG.iret e_X10_game_47 rfl rfl ?_
      exact hbad (by simp [o])
    · skip
      obtain ⟨u, hu, rfl⟩ := mIn_of ((bI_n0 _).mp h25) (by omega)
      refine GG.iload_n e_X10_game_28 (i := 3) rfl 3 rfl ?_
      refine GG.callS (d' := 1) (as := [.int _]) e_X10_game_29 ml_X10_176 mf_X10_notAsked ms_X10_notAsked rfl (by decide) (Nat.le_of_ble_eq_true rfl) rfl ?_
      refine s_X10_notAsked ?_
      refine GG.if_ne (tgt := 41) e_X10_game_32 rfl (fun h32 => ?_) (fun h32 => ?_)
      · skip
        have o : oB c 0 99 = true := (bI_n0 _).mp h32
        refine GG.aload_n e_X10_game_41 (i := 0) rfl 0 rfl ?_
        refine GG.bipush (v := -10) e_X10_game_42 rfl ?_
        refine GG.callV (d' := 0) (a := 0) (as := [.int _]) e_X10_game_44 ml_X10_61 mf_X10_refuseBad mv_X10_refuseBad (rc_X10 i_X10_0) rfl (by decide) (Nat.le_of_ble_eq_true rfl) rfl ?_
        refine s_X10_refuseBad ?_
        refine GG.iret e_X10_game_47 rfl rfl ?_
        exact hbad (by simp [o])
      · skip
        have o1 : oB c 0 99 = false := (bI_0 _).mp h32
        refine GG.iload e_X10_game_35 4 rfl ?_
        refine GG.iconst (v := -1) e_X10_game_37 rfl ?_
        refine GG.icmp_ge (tgt := 48) e_X10_game_38 rfl (fun h38 => ?_) (fun h38 => ?_)
        · skip
          have o2 : ¬ k < -1 := by grind
          refine GG.aload_n e_X10_game_48 (i := 0) rfl 0 rfl ?_
          refine GG.getR (b := 50) e_X10_game_49 fl_X10_39 (sf_X10_7 i_X10_0) ?_
          refine GG.aload_n e_X10_game_52 (i := 0) rfl 0 rfl ?_
          refine GG.getR (b := 1) e_X10_game_53 fl_X10_12 (sf_X10_0 i_X10_0) ?_
          refine GG.getR (b := 2) e_X10_game_56 fl_X10_65 (sf_X2_0 i_X2_1) ?_
          refine GG.iload_n e_X10_game_59 (i := 1) rfl 1 rfl ?_
          refine GG.iload_n e_X10_game_60 (i := 2) rfl 2 rfl ?_
          refine GG.iload_n e_X10_game_61 (i := 3) rfl 3 rfl ?_
          refine GG.callV (d' := 3) (a := 50) (as := [.ref 2, .int _, .int _, .int _]) e_X10_game_62 ml_X10_266 mf_X8_play mv_X8_play (rc_X8 i_X8_50) rfl (by decide) (Nat.le_of_ble_eq_true rfl) rfl ?_
          refine s_X8_play hL hp hu hT hT16 (fun ν hν hG => ?_)
          refine GG.iload e_X10_game_65 4 rfl ?_
          refine GG.iconst (v := -1) e_X10_game_67 rfl ?_
          refine GG.icmp_ne (tgt := 81) e_X10_game_68 rfl (fun h68 => ?_) (fun h68 => ?_)
          · skip
            refine GG.aload_n e_X10_game_81 (i := 0) rfl 0 rfl ?_
            refine GG.getR (b := 50) e_X10_game_82 fl_X10_39 (sf_X10_7 i_X10_0) ?_
            refine GG.iload e_X10_game_85 4 rfl ?_
            refine GG.callV (d' := 4) (a := 50) (as := [.int _]) e_X10_game_87 ml_X10_273 mf_X8_restingPair mv_X8_restingPair (rc_X8 i_X8_50) rfl (by decide) (Nat.le_of_ble_eq_true rfl) rfl ?_
            refine rp ν _ h68 (fun r hr => ?_)
            refine GG.iret e_X10_game_90 rfl rfl ?_
            first | exact hok p u hp hu rfl rfl o1 o2 ν (mrd ν 57) _ hν hG (Or.inl ⟨h68, rfl⟩) | exact hok p u hp hu rfl rfl o1 o2 ν (mrd ν 57) _ hν hG hr
          · skip
            refine GG.aload_n e_X10_game_71 (i := 0) rfl 0 rfl ?_
            refine GG.getR (b := 50) e_X10_game_72 fl_X10_39 (sf_X10_7 i_X10_0) ?_
            refine GG.callV (d' := 4) (a := 50) (as := []) e_X10_game_75 ml_X10_270 mf_X8_restingPairs mv_X8_restingPairs (rc_X8 i_X8_50) rfl (by decide) (Nat.le_of_ble_eq_true rfl) rfl ?_
            refine s_X8_restingPairs ?_
            refine GG.goto (tgt := 90) e_X10_game_78 rfl ?_
            refine GG.iret e_X10_game_90 rfl rfl ?_
            first | exact hok p u hp hu rfl rfl o1 o2 ν (mrd ν 57) _ hν hG (Or.inl ⟨h68, rfl⟩) | exact hok p u hp hu rfl rfl o1 o2 ν (mrd ν 57) _ hν hG hr
        · skip
          have o : decide (k < -1) = true := by grind
          refine GG.aload_n e_X10_game_41 (i := 0) rfl 0 rfl ?_
          refine GG.bipush (v := -10) e_X10_game_42 rfl ?_
          refine GG.callV (d' := 0) (a := 0) (as := [.int _]) e_X10_game_44 ml_X10_61 mf_X10_refuseBad mv_X10_refuseBad (rc_X10 i_X10_0) rfl (by decide) (Nat.le_of_ble_eq_true rfl) rfl ?_
          refine s_X10_refuseBad ?_
          refine GG.iret e_X10_game_47 rfl rfl ?_
          exact hbad (by simp [o])
def gUp (μ : gM) (P A T : Nat) (c o : Int32) : Int64 := mSumL (mShr (cV μ 2) A P (mrd μ 2 0) c T o) 16
theorem s_X10_slips {U D : Int64} (hL : LC μ 2 P A) (hT : mrd μ 2 8 = nI T) (hT16 : T < 16) (hU : U = gUp μ P A T c o) (hD : D = mPow 10 (pcN T)) (hp : oB c 0 99 = false → oB o 0 10 = false → 0 < mGcd 100 U D) (hbad : (oB c 0 99 || oB o 0 10) = true → Q (some (.int (-2))) (mRf μ 10))
    (hok : oB c 0 99 = false → oB o 0 10 = false → ∀ ν, gSm μ ν → Q (some (.int 1)) (mwL (mwL ν 49 0 (U / mGcd 100 U D)) 49 1 (D / mGcd 100 U D))) : SPC 5 MX10_slips [.ref 0, .int c, .int o] μ Q := by
  have hpc := pcN_4 T
  subst hU hD
  refine SPC.of (by decide +kernel) (Nat.le_of_ble_eq_true rfl) (ls := [(0, .ref (0)), (1, .int (c)), (2, .int (o))]) rfl ?_
  refine GG.iload_n e_X10_slips_0 (i := 1) rfl 1 rfl ?_
  refine GG.callS (d' := 1) (as := [.int _]) e_X10_slips_1 ml_X10_176 mf_X10_notAsked ms_X10_notAsked rfl (by decide) (Nat.le_of_ble_eq_true rfl) rfl ?_
  refine s_X10_notAsked ?_
  refine GG.if_ne (tgt := 17) e_X10_slips_4 rfl (fun h4 => ?_) (fun h4 => ?_)
  · skip
    have oo : oB c 0 99 = true := (bI_n0 _).mp h4
    refine GG.aload_n e_X10_slips_17 (i := 0) rfl 0 rfl ?_
    refine GG.bipush (v := -2) e_X10_slips_18 rfl ?_
    refine GG.callV (d' := 0) (a := 0) (as := [.int _]) e_X10_slips_20 ml_X10_61 mf_X10_refuseBad mv_X10_refuseBad (rc_X10 i_X10_0) rfl (by decide) (Nat.le_of_ble_eq_true rfl) rfl ?_
    refine s_X10_refuseBad ?_
    refine GG.iret e_X10_slips_23 rfl rfl ?_
    exact hbad (by simp [oo])
  · skip
    have o1 : oB c 0 99 = false := (bI_0 _).mp h4
    refine GG.iload_n e_X10_slips_7 (i := 2) rfl 2 rfl ?_
    refine GG.iconst (v := 0) e_X10_slips_8 rfl ?_
    refine GG.bipush (v := 10) e_X10_slips_9 rfl ?_
    refine GG.callS (d' := 0) (as := [.int _, .int _, .int _]) e_X10_slips_11 ml_X10_57 mf_X10_outside ms_X10_outside rfl (by decide) (Nat.le_of_ble_eq_true rfl) rfl ?_
    refine s_X10_outside ?_
    refine GG.if_eq (tgt := 24) e_X10_slips_14 rfl (fun h14 => ?_) (fun h14 => ?_)
    · skip
      have o2 : oB o 0 10 = false := (bI_0 _).mp h14
      refine GG.ldc2 e_X10_slips_24 kc_X10_276 ?_
      refine GG.aload_n e_X10_slips_27 (i := 0) rfl 0 rfl ?_
      refine GG.getR (b := 1) e_X10_slips_28 fl_X10_12 (sf_X10_0 i_X10_0) ?_
      refine GG.getR (b := 2) e_X10_slips_31 fl_X10_65 (sf_X2_0 i_X2_1) ?_
      refine GG.getIv (v := nI T) e_X10_slips_34 fl_X10_278 (sf_X4_8 i_X4_2) (hT) ?_
      refine GG.callS (d' := 0) (as := [.int _]) e_X10_slips_37 ml_X10_281 mf_J6_bitCount_0f7a4 ms_J6_bitCount_0f7a4 rfl (by decide) (Nat.le_of_ble_eq_true rfl) rfl ?_
      refine s_J6_bitCount_0f7a4 ?_
      rw [mBc_16 T hT16]
      refine GG.callS (d' := 0) (as := [.long _, .int _]) e_X10_slips_40 ml_X10_286 mf_X10_power ms_X10_power rfl (by decide) (Nat.le_of_ble_eq_true rfl) rfl ?_
      refine s_X10_power (by omega) ?_
      refine GG.lstore_n e_X10_slips_43 (i := 3) rfl (Nat.le_of_ble_eq_true rfl) (ls' := [(3, .long _), (0, .ref _), (1, .int _), (2, .int _)]) rfl ?_
      refine GG.aload_n e_X10_slips_44 (i := 0) rfl 1 rfl ?_
      refine GG.getR (b := 49) e_X10_slips_45 fl_X10_32 (sf_X10_6 i_X10_0) ?_
      refine GG.aload_n e_X10_slips_48 (i := 0) rfl 1 rfl ?_
      refine GG.getR (b := 50) e_X10_slips_49 fl_X10_39 (sf_X10_7 i_X10_0) ?_
      refine GG.aload_n e_X10_slips_52 (i := 0) rfl 1 rfl ?_
      refine GG.getR (b := 1) e_X10_slips_53 fl_X10_12 (sf_X10_0 i_X10_0) ?_
      refine GG.getR (b := 2) e_X10_slips_56 fl_X10_65 (sf_X2_0 i_X2_1) ?_
      refine GG.iload_n e_X10_slips_59 (i := 1) rfl 2 rfl ?_
      refine GG.iload_n e_X10_slips_60 (i := 2) rfl 3 rfl ?_
      refine GG.callV (d' := 4) (a := 50) (as := [.ref 2, .int _, .int _]) e_X10_slips_61 ml_X10_290 mf_X8_soundingShare mv_X8_soundingShare (rc_X8 i_X8_50) rfl (by decide) (Nat.le_of_ble_eq_true rfl) rfl ?_
      refine s_X8_soundingShare hL hT hT16 (fun ν hν => ?_)
      refine GG.lload_n e_X10_slips_64 (i := 3) rfl 0 rfl ?_
      refine GG.callV (d' := 1) (a := 49) (as := [.long _, .long _]) e_X10_slips_65 ml_X10_294 mf_X0_become mv_X0_become (rc_X0 i_X0_49) rfl (by decide) (Nat.le_of_ble_eq_true rfl) rfl ?_
      refine s_X0_become (hp o1 o2) ?_
      refine GG.iconst (v := 1) e_X10_slips_68 rfl ?_
      refine GG.iret e_X10_slips_69 rfl rfl ?_
      exact hok o1 o2 ν hν
    · skip
      have oo : oB o 0 10 = true := (bI_n0 _).mp h14
      refine GG.aload_n e_X10_slips_17 (i := 0) rfl 0 rfl ?_
      refine GG.bipush (v := -2) e_X10_slips_18 rfl ?_
      refine GG.callV (d' := 0) (a := 0) (as := [.int _]) e_X10_slips_20 ml_X10_61 mf_X10_refuseBad mv_X10_refuseBad (rc_X10 i_X10_0) rfl (by decide) (Nat.le_of_ble_eq_true rfl) rfl ?_
      refine s_X10_refuseBad ?_
      refine GG.iret e_X10_slips_23 rfl rfl ?_
      exact hbad (by simp [oo])
theorem s_X10_reigns (hL : LC μ 2 P A) (hbad : (oB z 0 999999 || oB v 0 60) = true → Q (some (.int (-2))) (mRf μ 10))
    (hok : ∀ n, v = nI n → n ≤ 60 → oB z 0 999999 = false → ∀ ν, gSm μ ν → Q (some (.int (mRei (cV μ 2) (mrd μ 2 8) A (mrd μ 2 0) P (mrd μ 2 9) z.toInt64 n).2.2)) ν) : SPC 4 MX10_reigns [.ref 0, .int z, .int v] μ Q := by
  refine SPC.of (by decide +kernel) (Nat.le_of_ble_eq_true rfl) (ls := [(0, .ref (0)), (1, .int (z)), (2, .int (v))]) rfl ?_
  refine GG.iload_n e_X10_reigns_0 (i := 1) rfl 1 rfl ?_
  refine GG.iconst (v := 0) e_X10_reigns_1 rfl ?_
  refine GG.ldcw e_X10_reigns_2 kc_X10_298 ?_
  refine GG.callS (d' := 0) (as := [.int _, .int _, .int _]) e_X10_reigns_5 ml_X10_57 mf_X10_outside ms_X10_outside rfl (by decide) (Nat.le_of_ble_eq_true rfl) rfl ?_
  refine s_X10_outside ?_
  refine GG.if_ne (tgt := 21) e_X10_reigns_8 rfl (fun h8 => ?_) (fun h8 => ?_)
  · skip
    have oo : oB z 0 999999 = true := (bI_n0 _).mp h8
    refine GG.aload_n e_X10_reigns_21 (i := 0) rfl 0 rfl ?_
    refine GG.bipush (v := -2) e_X10_reigns_22 rfl ?_
    refine GG.callV (d' := 0) (a := 0) (as := [.int _]) e_X10_reigns_24 ml_X10_61 mf_X10_refuseBad mv_X10_refuseBad (rc_X10 i_X10_0) rfl (by decide) (Nat.le_of_ble_eq_true rfl) rfl ?_
    refine s_X10_refuseBad ?_
    refine GG.iret e_X10_reigns_27 rfl rfl ?_
    exact hbad (by simp [oo])
  · skip
    have o1 : oB z 0 999999 = false := (bI_0 _).mp h8
    refine GG.iload_n e_X10_reigns_11 (i := 2) rfl 2 rfl ?_
    refine GG.iconst (v := 0) e_X10_reigns_12 rfl ?_
    refine GG.bipush (v := 60) e_X10_reigns_13 rfl ?_
    refine GG.callS (d' := 0) (as := [.int _, .int _, .int _]) e_X10_reigns_15 ml_X10_57 mf_X10_outside ms_X10_outside rfl (by decide) (Nat.le_of_ble_eq_true rfl) rfl ?_
    refine s_X10_outside ?_
    refine GG.if_eq (tgt := 28) e_X10_reigns_18 rfl (fun h18 => ?_) (fun h18 => ?_)
    · skip
      obtain ⟨n, rfl, g1, g2⟩ := oB_n (A := 0) (B := 60) ((bI_0 _).mp h18) rfl rfl (by omega) (by omega)
      refine GG.aload_n e_X10_reigns_28 (i := 0) rfl 0 rfl ?_
      refine GG.getR (b := 50) e_X10_reigns_29 fl_X10_39 (sf_X10_7 i_X10_0) ?_
      refine GG.aload_n e_X10_reigns_32 (i := 0) rfl 0 rfl ?_
      refine GG.getR (b := 1) e_X10_reigns_33 fl_X10_12 (sf_X10_0 i_X10_0) ?_
      refine GG.getR (b := 2) e_X10_reigns_36 fl_X10_65 (sf_X2_0 i_X2_1) ?_
      refine GG.iload_n e_X10_reigns_39 (i := 1) rfl 1 rfl ?_
      refine GG.iload_n e_X10_reigns_40 (i := 2) rfl 2 rfl ?_
      refine GG.callV (d' := 3) (a := 50) (as := [.ref 2, .int _, .int _]) e_X10_reigns_41 ml_X10_299 mf_X8_soundOfReign mv_X8_soundOfReign (rc_X8 i_X8_50) rfl (by decide) (Nat.le_of_ble_eq_true rfl) rfl ?_
      refine s_X8_soundOfReign hL (by omega) (fun ν hν => ?_)
      refine GG.iret e_X10_reigns_44 rfl rfl ?_
      exact hok n rfl g2 o1 ν hν
    · skip
      have oo : oB v 0 60 = true := (bI_n0 _).mp h18
      refine GG.aload_n e_X10_reigns_21 (i := 0) rfl 0 rfl ?_
      refine GG.bipush (v := -2) e_X10_reigns_22 rfl ?_
      refine GG.callV (d' := 0) (a := 0) (as := [.int _]) e_X10_reigns_24 ml_X10_61 mf_X10_refuseBad mv_X10_refuseBad (rc_X10 i_X10_0) rfl (by decide) (Nat.le_of_ble_eq_true rfl) rfl ?_
      refine s_X10_refuseBad ?_
      refine GG.iret e_X10_reigns_27 rfl rfl ?_
      exact hbad (by simp [oo])
theorem s_X10_part (hbad : oB z 0 1 = true → Q (some (.long (Int32.toInt64 (-2)))) (mRf μ 10)) (hok : oB z 0 1 = false → Q (some (.long (if z = 0 then mrL μ 49 0 else mrL μ 49 1))) μ) : SPC 1 MX10_part [.ref 0, .int z] μ Q := by
  refine SPC.of (by decide +kernel) (Nat.le_of_ble_eq_true rfl) (ls := [(0, .ref (0)), (1, .int (z))]) rfl ?_
  refine GG.iload_n e_X10_part_0 (i := 1) rfl 1 rfl ?_
  refine GG.iconst (v := 0) e_X10_part_1 rfl ?_
  refine GG.iconst (v := 1) e_X10_part_2 rfl ?_
  refine GG.callS (d' := 0) (as := [.int _, .int _, .int _]) e_X10_part_3 ml_X10_57 mf_X10_outside ms_X10_outside rfl (by decide) (Nat.le_of_ble_eq_true rfl) rfl ?_
  refine s_X10_outside ?_
  refine GG.if_eq (tgt := 17) e_X10_part_6 rfl (fun h6 => ?_) (fun h6 => ?_)
  · skip
    have o1 : oB z 0 1 = false := (bI_0 _).mp h6
    refine GG.iload_n e_X10_part_17 (i := 1) rfl 1 rfl ?_
    refine GG.if_ne (tgt := 31) e_X10_part_18 rfl (fun h18 => ?_) (fun h18 => ?_)
    · skip
      refine GG.aload_n e_X10_part_31 (i := 0) rfl 0 rfl ?_
      refine GG.getR (b := 49) e_X10_part_32 fl_X10_32 (sf_X10_6 i_X10_0) ?_
      refine GG.getL e_X10_part_35 fl_X10_306 (sf_X0_1 i_X0_49) ?_
      refine GG.lret e_X10_part_38 rfl rfl ?_
      first | rw [if_pos (by assumption)] at hok; exact hok o1 | rw [if_neg (by assumption)] at hok; exact hok o1
    · skip
      refine GG.aload_n e_X10_part_21 (i := 0) rfl 0 rfl ?_
      refine GG.getR (b := 49) e_X10_part_22 fl_X10_32 (sf_X10_6 i_X10_0) ?_
      refine GG.getL e_X10_part_25 fl_X10_302 (sf_X0_0 i_X0_49) ?_
      refine GG.goto (tgt := 38) e_X10_part_28 rfl ?_
      refine GG.lret e_X10_part_38 rfl rfl ?_
      first | rw [if_pos (by assumption)] at hok; exact hok o1 | rw [if_neg (by assumption)] at hok; exact hok o1
  · skip
    have oo : oB z 0 1 = true := (bI_n0 _).mp h6
    refine GG.aload_n e_X10_part_9 (i := 0) rfl 0 rfl ?_
    refine GG.bipush (v := -2) e_X10_part_10 rfl ?_
    refine GG.callV (d' := 0) (a := 0) (as := [.int _]) e_X10_part_12 ml_X10_61 mf_X10_refuseBad mv_X10_refuseBad (rc_X10 i_X10_0) rfl (by decide) (Nat.le_of_ble_eq_true rfl) rfl ?_
    refine s_X10_refuseBad ?_
    refine GG.i2l e_X10_part_15 ?_
    refine GG.lret e_X10_part_16 rfl rfl ?_
    exact hbad oo
theorem s_X10_image (hbad : oB z 0 1 = true → Q (some (.int (-2))) (mRf μ 10)) (h0 : z = 0 → Q (some (.int 1)) (mwr (mHc μ 1 16) 0 3 1)) (h1 : oB z 0 1 = false → ¬ z = 0 → Q (some (.int 1)) (mwr (mHc μ 1 31) 0 4 1)) : SPC 3 MX10_image [.ref 0, .int z] μ Q := by
  refine SPC.of (by decide +kernel) (Nat.le_of_ble_eq_true rfl) (ls := [(0, .ref (0)), (1, .int (z))]) rfl ?_
  refine GG.iload_n e_X10_image_0 (i := 1) rfl 1 rfl ?_
  refine GG.iconst (v := 0) e_X10_image_1 rfl ?_
  refine GG.iconst (v := 1) e_X10_image_2 rfl ?_
  refine GG.callS (d' := 0) (as := [.int _, .int _, .int _]) e_X10_image_3 ml_X10_57 mf_X10_outside ms_X10_outside rfl (by decide) (Nat.le_of_ble_eq_true rfl) rfl ?_
  refine s_X10_outside ?_
  refine GG.if_eq (tgt := 16) e_X10_image_6 rfl (fun h6 => ?_) (fun h6 => ?_)
  · skip
    have o1 : oB z 0 1 = false := (bI_0 _).mp h6
    refine GG.iload_n e_X10_image_16 (i := 1) rfl 1 rfl ?_
    refine GG.if_ne (tgt := 39) e_X10_image_17 rfl (fun h17 => ?_) (fun h17 => ?_)
    · skip
      refine GG.aload_n e_X10_image_39 (i := 0) rfl 0 rfl ?_
      refine GG.getR (b := 31) e_X10_image_40 fl_X10_19 (sf_X10_2 i_X10_0) ?_
      refine GG.aload_n e_X10_image_43 (i := 0) rfl 0 rfl ?_
      refine GG.getR (b := 1) e_X10_image_44 fl_X10_12 (sf_X10_0 i_X10_0) ?_
      refine GG.callV (d' := 2) (a := 31) (as := [.ref 1]) e_X10_image_47 ml_X10_309 mf_X2_copyFrom mv_X2_copyFrom (rc_X2 i_X2_31) rfl (by decide) (Nat.le_of_ble_eq_true rfl) rfl ?_
      refine s_X2_copyFrom i_X2_1 i_X2_31 (by omega) ?_
      refine GG.aload_n e_X10_image_50 (i := 0) rfl 0 rfl ?_
      refine GG.iconst (v := 1) e_X10_image_51 rfl ?_
      refine GG.putZ e_X10_image_52 fl_X10_316 fp_X10_4 (sf_X10_4 i_X10_0) (by first | exact Or.inl rfl | exact Or.inr rfl | assumption) ?_
      refine GG.iconst (v := 1) e_X10_image_55 rfl ?_
      refine GG.iret e_X10_image_56 rfl rfl ?_
      first | exact h0 (by assumption) | exact h1 o1 (by assumption)
    · skip
      refine GG.aload_n e_X10_image_20 (i := 0) rfl 0 rfl ?_
      refine GG.getR (b := 16) e_X10_image_21 fl_X10_16 (sf_X10_1 i_X10_0) ?_
      refine GG.aload_n e_X10_image_24 (i := 0) rfl 0 rfl ?_
      refine GG.getR (b := 1) e_X10_image_25 fl_X10_12 (sf_X10_0 i_X10_0) ?_
      refine GG.callV (d' := 2) (a := 16) (as := [.ref 1]) e_X10_image_28 ml_X10_309 mf_X2_copyFrom mv_X2_copyFrom (rc_X2 i_X2_16) rfl (by decide) (Nat.le_of_ble_eq_true rfl) rfl ?_
      refine s_X2_copyFrom i_X2_1 i_X2_16 (by omega) ?_
      refine GG.aload_n e_X10_image_31 (i := 0) rfl 0 rfl ?_
      refine GG.iconst (v := 1) e_X10_image_32 rfl ?_
      refine GG.putZ e_X10_image_33 fl_X10_312 fp_X10_3 (sf_X10_3 i_X10_0) (by first | exact Or.inl rfl | exact Or.inr rfl | assumption) ?_
      refine GG.goto (tgt := 55) e_X10_image_36 rfl ?_
      refine GG.iconst (v := 1) e_X10_image_55 rfl ?_
      refine GG.iret e_X10_image_56 rfl rfl ?_
      first | exact h0 (by assumption) | exact h1 o1 (by assumption)
  · skip
    have oo : oB z 0 1 = true := (bI_n0 _).mp h6
    refine GG.aload_n e_X10_image_9 (i := 0) rfl 0 rfl ?_
    refine GG.bipush (v := -2) e_X10_image_10 rfl ?_
    refine GG.callV (d' := 0) (a := 0) (as := [.int _]) e_X10_image_12 ml_X10_61 mf_X10_refuseBad mv_X10_refuseBad (rc_X10 i_X10_0) rfl (by decide) (Nat.le_of_ble_eq_true rfl) rfl ?_
    refine s_X10_refuseBad ?_
    refine GG.iret e_X10_image_15 rfl rfl ?_
    exact hbad oo
theorem s_X10_from (hbad : oB z 0 1 = true → Q (some (.int (-2))) (mRf μ 10)) (hno : oB z 0 1 = false → (if z = 0 then mrd μ 0 3 else mrd μ 0 4) = 0 → Q (some (.int (-3))) (mRf μ 11))
    (hok : oB z 0 1 = false → ¬ (if z = 0 then mrd μ 0 3 else mrd μ 0 4) = 0 → Q (some (.int 1)) (mHc μ (if z = 0 then 16 else 31) 1)) : SPC 3 MX10_from [.ref 0, .int z] μ Q := by
  have j41a : ∀ v : Int32, (Q (some (.int 1)) (mHc μ 16 1)) → z = 0 → GG 3 MX10_from 41 [(2, .int v), (0, .ref 0), (1, .int z)] [] μ Q := by
    intro v hq hz
    refine GG.aload_n e_X10_from_41 (i := 0) rfl 1 rfl ?_
    refine GG.getR (b := 1) e_X10_from_42 fl_X10_12 (sf_X10_0 i_X10_0) ?_
    refine GG.iload_n e_X10_from_45 (i := 1) rfl 2 rfl ?_
    refine GG.if_ne (tgt := 56) e_X10_from_46 rfl (fun h46 => absurd h46 (by exact fun h => h hz)) (fun h46 => ?_)
    refine GG.aload_n e_X10_from_49 (i := 0) rfl 1 rfl ?_
    refine GG.getR (b := 16) e_X10_from_50 fl_X10_16 (sf_X10_1 i_X10_0) ?_
    refine GG.goto (tgt := 60) e_X10_from_53 rfl ?_
    refine GG.callV (d' := 2) (a := 1) (as := [.ref 16]) e_X10_from_60 ml_X10_309 mf_X2_copyFrom mv_X2_copyFrom (rc_X2 i_X2_1) rfl (by decide) (Nat.le_of_ble_eq_true rfl) rfl ?_
    refine s_X2_copyFrom i_X2_16 i_X2_1 (by omega) ?_
    refine GG.iconst (v := 1) e_X10_from_63 rfl ?_
    refine GG.iret e_X10_from_64 rfl rfl ?_
    exact hq
  have j41b : ∀ v : Int32, (Q (some (.int 1)) (mHc μ 31 1)) → ¬ z = 0 → GG 3 MX10_from 41 [(2, .int v), (0, .ref 0), (1, .int z)] [] μ Q := by
    intro v hq hz
    refine GG.aload_n e_X10_from_41 (i := 0) rfl 1 rfl ?_
    refine GG.getR (b := 1) e_X10_from_42 fl_X10_12 (sf_X10_0 i_X10_0) ?_
    refine GG.iload_n e_X10_from_45 (i := 1) rfl 2 rfl ?_
    refine GG.if_ne (tgt := 56) e_X10_from_46 rfl (fun h46 => ?_) (fun h46 => absurd h46 (by exact hz))
    refine GG.aload_n e_X10_from_56 (i := 0) rfl 1 rfl ?_
    refine GG.getR (b := 31) e_X10_from_57 fl_X10_19 (sf_X10_2 i_X10_0) ?_
    refine GG.callV (d' := 2) (a := 1) (as := [.ref 31]) e_X10_from_60 ml_X10_309 mf_X2_copyFrom mv_X2_copyFrom (rc_X2 i_X2_1) rfl (by decide) (Nat.le_of_ble_eq_true rfl) rfl ?_
    refine s_X2_copyFrom i_X2_31 i_X2_1 (by omega) ?_
    refine GG.iconst (v := 1) e_X10_from_63 rfl ?_
    refine GG.iret e_X10_from_64 rfl rfl ?_
    exact hq
  refine SPC.of (by decide +kernel) (Nat.le_of_ble_eq_true rfl) (ls := [(0, .ref (0)), (1, .int (z))]) rfl ?_
  refine GG.iload_n e_X10_from_0 (i := 1) rfl 1 rfl ?_
  refine GG.iconst (v := 0) e_X10_from_1 rfl ?_
  refine GG.iconst (v := 1) e_X10_from_2 rfl ?_
  refine GG.callS (d' := 0) (as := [.int _, .int _, .int _]) e_X10_from_3 ml_X10_57 mf_X10_outside ms_X10_outside rfl (by decide) (Nat.le_of_ble_eq_true rfl) rfl ?_
  refine s_X10_outside ?_
  refine GG.if_eq (tgt := 16) e_X10_from_6 rfl (fun h6 => ?_) (fun h6 => ?_)
  · skip
    have o1 : oB z 0 1 = false := (bI_0 _).mp h6
    refine GG.iload_n e_X10_from_16 (i := 1) rfl 1 rfl ?_
    refine GG.if_ne (tgt := 27) e_X10_from_17 rfl (fun h17 => ?_) (fun h17 => ?_)
    · skip
      have hz : ¬ z = 0 := h17
      refine GG.aload_n e_X10_from_27 (i := 0) rfl 0 rfl ?_
      refine GG.getI e_X10_from_28 fl_X10_316 (sf_X10_4 i_X10_0) ?_
      refine GG.istore_n e_X10_from_31 (i := 2) rfl (Nat.le_of_ble_eq_true rfl) (ls' := [(2, .int _), (0, .ref _), (1, .int _)]) rfl ?_
      refine GG.iload_n e_X10_from_32 (i := 2) rfl 0 rfl ?_
      refine GG.if_ne (tgt := 41) e_X10_from_33 rfl (fun h33 => ?_) (fun h33 => ?_)
      · skip
        have hv : ¬ (if z = 0 then mrd μ 0 3 else mrd μ 0 4) = 0 := by first | rw [if_pos h17]; exact h33 | rw [if_neg h17]; exact h33
        first | exact j41a _ (by have q := hok o1 hv; rw [if_pos hz] at q; exact q) hz | exact j41b _ (by have q := hok o1 hv; rw [if_neg hz] at q; exact q) hz
      · skip
        have hv : (if z = 0 then mrd μ 0 3 else mrd μ 0 4) = 0 := by first | rw [if_pos h17]; exact h33 | rw [if_neg h17]; exact h33
        refine GG.aload_n e_X10_from_36 (i := 0) rfl 1 rfl ?_
        refine GG.callV (d' := 0) (a := 0) (as := []) e_X10_from_37 ml_X10_146 mf_X10_refuseNo mv_X10_refuseNo (rc_X10 i_X10_0) rfl (by decide) (Nat.le_of_ble_eq_true rfl) rfl ?_
        refine s_X10_refuseNo ?_
        refine GG.iret e_X10_from_40 rfl rfl ?_
        exact hno o1 hv
    · skip
      have hz : z = 0 := h17
      refine GG.aload_n e_X10_from_20 (i := 0) rfl 0 rfl ?_
      refine GG.getI e_X10_from_21 fl_X10_312 (sf_X10_3 i_X10_0) ?_
      refine GG.goto (tgt := 31) e_X10_from_24 rfl ?_
      refine GG.istore_n e_X10_from_31 (i := 2) rfl (Nat.le_of_ble_eq_true rfl) (ls' := [(2, .int _), (0, .ref _), (1, .int _)]) rfl ?_
      refine GG.iload_n e_X10_from_32 (i := 2) rfl 0 rfl ?_
      refine GG.if_ne (tgt := 41) e_X10_from_33 rfl (fun h33 => ?_) (fun h33 => ?_)
      · skip
        have hv : ¬ (if z = 0 then mrd μ 0 3 else mrd μ 0 4) = 0 := by first | rw [if_pos h17]; exact h33 | rw [if_neg h17]; exact h33
        first | exact j41a _ (by have q := hok o1 hv; rw [if_pos hz] at q; exact q) hz | exact j41b _ (by have q := hok o1 hv; rw [if_neg hz] at q; exact q) hz
      · skip
        have hv : (if z = 0 then mrd μ 0 3 else mrd μ 0 4) = 0 := by first | rw [if_pos h17]; exact h33 | rw [if_neg h17]; exact h33
        refine GG.aload_n e_X10_from_36 (i := 0) rfl 1 rfl ?_
        refine GG.callV (d' := 0) (a := 0) (as := []) e_X10_from_37 ml_X10_146 mf_X10_refuseNo mv_X10_refuseNo (rc_X10 i_X10_0) rfl (by decide) (Nat.le_of_ble_eq_true rfl) rfl ?_
        refine s_X10_refuseNo ?_
        refine GG.iret e_X10_from_40 rfl rfl ?_
        exact hno o1 hv
  · skip
    have oo : oB z 0 1 = true := (bI_n0 _).mp h6
    refine GG.aload_n e_X10_from_9 (i := 0) rfl 0 rfl ?_
    refine GG.bipush (v := -2) e_X10_from_10 rfl ?_
    refine GG.callV (d' := 0) (a := 0) (as := [.int _]) e_X10_from_12 ml_X10_61 mf_X10_refuseBad mv_X10_refuseBad (rc_X10 i_X10_0) rfl (by decide) (Nat.le_of_ble_eq_true rfl) rfl ?_
    refine s_X10_refuseBad ?_
    refine GG.iret e_X10_from_15 rfl rfl ?_
    exact hbad oo
theorem s_X10_status (g0 : z = 0 → Q (some (.int (mrd μ 0 10))) μ) (g1 : z = 1 → Q (some (.int (mrd μ 0 11))) μ) (g2 : z = 2 → Q (some (.int (mrd μ 0 12))) μ) (hbad : ¬ z = 0 → ¬ z = 1 → ¬ z = 2 → Q (some (.int (-1))) (mRf μ 10)) : SPC 1 MX10_status [.ref 0, .int z] μ Q := by
  refine SPC.of (by decide +kernel) (Nat.le_of_ble_eq_true rfl) (ls := [(0, .ref (0)), (1, .int (z))]) rfl ?_
  refine GG.iload_n e_X10_status_0 (i := 1) rfl 1 rfl ?_
  refine GG.tcase 0 (off := 27) (tgt := 28) e_X10_status_1 (by decide) (by decide) (by decide) rfl (fun h1 => ?_) (fun h1_0 => ?_)
  · skip
    refine GG.aload_n e_X10_status_28 (i := 0) rfl 0 rfl ?_
    refine GG.getI e_X10_status_29 fl_X10_319 (sf_X10_10 i_X10_0) ?_
    refine GG.iret e_X10_status_32 rfl rfl ?_
    exact g0 (by assumption)
  refine GG.tcase 1 (off := 32) (tgt := 33) e_X10_status_1 (by decide) (by decide) (by decide) rfl (fun h1 => ?_) (fun h1_1 => ?_)
  · skip
    refine GG.aload_n e_X10_status_33 (i := 0) rfl 0 rfl ?_
    refine GG.getI e_X10_status_34 fl_X10_322 (sf_X10_11 i_X10_0) ?_
    refine GG.iret e_X10_status_37 rfl rfl ?_
    exact g1 (by assumption)
  refine GG.tcase 2 (off := 37) (tgt := 38) e_X10_status_1 (by decide) (by decide) (by decide) rfl (fun h1 => ?_) (fun h1_2 => ?_)
  · skip
    refine GG.aload_n e_X10_status_38 (i := 0) rfl 0 rfl ?_
    refine GG.getI e_X10_status_39 fl_X10_325 (sf_X10_12 i_X10_0) ?_
    refine GG.iret e_X10_status_42 rfl rfl ?_
    exact g2 (by assumption)
  refine GG.tableOut (tgt := 43) e_X10_status_1 (by have a0 := sw_n 0 (by decide) h1_0; have a1 := sw_n 1 (by decide) h1_1; have a2 := sw_n 2 (by decide) h1_2; omega) rfl ?_
  refine GG.aload_n e_X10_status_43 (i := 0) rfl 0 rfl ?_
  refine GG.iconst (v := -1) e_X10_status_44 rfl ?_
  refine GG.callV (d' := 0) (a := 0) (as := [.int _]) e_X10_status_45 ml_X10_61 mf_X10_refuseBad mv_X10_refuseBad (rc_X10 i_X10_0) rfl (by decide) (Nat.le_of_ble_eq_true rfl) rfl ?_
  refine s_X10_refuseBad ?_
  refine GG.iret e_X10_status_48 rfl rfl ?_
  exact hbad (by assumption) (by assumption) (by assumption)
theorem s_X10_numberOf {n : Nat} (hn : n ≤ 10) (hQ : Q (some (.int (mNm μ n))) μ) : SPC 1 MX10_numberOf [.ref 0, .int (nI n)] μ Q := by
  have k : ∀ j, nI n = nI j → j < 11 → n = j := fun j h hj => (nI_eq (by omega) (by omega)).mp h
  refine SPC.of (by decide +kernel) (Nat.le_of_ble_eq_true rfl) (ls := [(0, .ref (0)), (1, .int (nI n))]) rfl ?_
  refine GG.iload_n e_X10_numberOf_0 (i := 1) rfl 1 rfl ?_
  refine GG.tcase 0 (off := 55) (tgt := 56) e_X10_numberOf_1 (by decide) (by decide) (by decide) rfl (fun h1 => ?_) (fun h1_0 => ?_)
  · skip
    refine GG.aload_n e_X10_numberOf_56 (i := 0) rfl 0 rfl ?_
    refine GG.getR (b := 1) e_X10_numberOf_57 fl_X10_12 (sf_X10_0 i_X10_0) ?_
    refine GG.getR (b := 2) e_X10_numberOf_60 fl_X10_65 (sf_X2_0 i_X2_1) ?_
    refine GG.getI e_X10_numberOf_63 fl_X10_69 (sf_X4_1 i_X4_2) ?_
    refine GG.iret e_X10_numberOf_66 rfl rfl ?_
    exact qI hQ (by rw [k 0 (by assumption) (by omega)]; rfl)
  refine GG.tcase 1 (off := 66) (tgt := 67) e_X10_numberOf_1 (by decide) (by decide) (by decide) rfl (fun h1 => ?_) (fun h1_1 => ?_)
  · skip
    refine GG.aload_n e_X10_numberOf_67 (i := 0) rfl 0 rfl ?_
    refine GG.getR (b := 1) e_X10_numberOf_68 fl_X10_12 (sf_X10_0 i_X10_0) ?_
    refine GG.getR (b := 2) e_X10_numberOf_71 fl_X10_65 (sf_X2_0 i_X2_1) ?_
    refine GG.getI e_X10_numberOf_74 fl_X10_112 (sf_X4_5 i_X4_2) ?_
    refine GG.iret e_X10_numberOf_77 rfl rfl ?_
    exact qI hQ (by rw [k 1 (by assumption) (by omega)]; rfl)
  refine GG.tcase 2 (off := 77) (tgt := 78) e_X10_numberOf_1 (by decide) (by decide) (by decide) rfl (fun h1 => ?_) (fun h1_2 => ?_)
  · skip
    refine GG.aload_n e_X10_numberOf_78 (i := 0) rfl 0 rfl ?_
    refine GG.getR (b := 1) e_X10_numberOf_79 fl_X10_12 (sf_X10_0 i_X10_0) ?_
    refine GG.getR (b := 2) e_X10_numberOf_82 fl_X10_65 (sf_X2_0 i_X2_1) ?_
    refine GG.getI e_X10_numberOf_85 fl_X10_278 (sf_X4_8 i_X4_2) ?_
    refine GG.callS (d' := 0) (as := [.int _]) e_X10_numberOf_88 ml_X10_281 mf_J6_bitCount_0f7a4 ms_J6_bitCount_0f7a4 rfl (by decide) (Nat.le_of_ble_eq_true rfl) rfl ?_
    refine s_J6_bitCount_0f7a4 ?_
    refine GG.iret e_X10_numberOf_91 rfl rfl ?_
    exact qI hQ (by rw [k 2 (by assumption) (by omega)]; rfl)
  refine GG.tcase 3 (off := 91) (tgt := 92) e_X10_numberOf_1 (by decide) (by decide) (by decide) rfl (fun h1 => ?_) (fun h1_3 => ?_)
  · skip
    refine GG.aload_n e_X10_numberOf_92 (i := 0) rfl 0 rfl ?_
    refine GG.getR (b := 1) e_X10_numberOf_93 fl_X10_12 (sf_X10_0 i_X10_0) ?_
    refine GG.getR (b := 2) e_X10_numberOf_96 fl_X10_65 (sf_X2_0 i_X2_1) ?_
    refine GG.getI e_X10_numberOf_99 fl_X10_166 (sf_X4_9 i_X4_2) ?_
    refine GG.iret e_X10_numberOf_102 rfl rfl ?_
    exact qI hQ (by rw [k 3 (by assumption) (by omega)]; rfl)
  refine GG.tcase 4 (off := 102) (tgt := 103) e_X10_numberOf_1 (by decide) (by decide) (by decide) rfl (fun h1 => ?_) (fun h1_4 => ?_)
  · skip
    refine GG.aload_n e_X10_numberOf_103 (i := 0) rfl 0 rfl ?_
    refine GG.getR (b := 1) e_X10_numberOf_104 fl_X10_12 (sf_X10_0 i_X10_0) ?_
    refine GG.getR (b := 2) e_X10_numberOf_107 fl_X10_65 (sf_X2_0 i_X2_1) ?_
    refine GG.getI e_X10_numberOf_110 fl_X10_137 (sf_X4_10 i_X4_2) ?_
    refine GG.iret e_X10_numberOf_113 rfl rfl ?_
    exact qI hQ (by rw [k 4 (by assumption) (by omega)]; rfl)
  refine GG.tcase 5 (off := 113) (tgt := 114) e_X10_numberOf_1 (by decide) (by decide) (by decide) rfl (fun h1 => ?_) (fun h1_5 => ?_)
  · skip
    refine GG.aload_n e_X10_numberOf_114 (i := 0) rfl 0 rfl ?_
    refine GG.getR (b := 1) e_X10_numberOf_115 fl_X10_12 (sf_X10_0 i_X10_0) ?_
    refine GG.getR (b := 2) e_X10_numberOf_118 fl_X10_65 (sf_X2_0 i_X2_1) ?_
    refine GG.getI e_X10_numberOf_121 fl_X10_79 (sf_X4_0 i_X4_2) ?_
    refine GG.iret e_X10_numberOf_124 rfl rfl ?_
    exact qI hQ (by rw [k 5 (by assumption) (by omega)]; rfl)
  refine GG.tcase 6 (off := 124) (tgt := 125) e_X10_numberOf_1 (by decide) (by decide) (by decide) rfl (fun h1 => ?_) (fun h1_6 => ?_)
  · skip
    refine GG.aload_n e_X10_numberOf_125 (i := 0) rfl 0 rfl ?_
    refine GG.getR (b := 1) e_X10_numberOf_126 fl_X10_12 (sf_X10_0 i_X10_0) ?_
    refine GG.getR (b := 8) e_X10_numberOf_129 fl_X10_217 (sf_X2_1 i_X2_1) ?_
    refine GG.getI e_X10_numberOf_132 fl_X10_341 (sf_X6_0 i_X6_8) ?_
    refine GG.iret e_X10_numberOf_135 rfl rfl ?_
    exact qI hQ (by rw [k 6 (by assumption) (by omega)]; rfl)
  refine GG.tcase 7 (off := 135) (tgt := 136) e_X10_numberOf_1 (by decide) (by decide) (by decide) rfl (fun h1 => ?_) (fun h1_7 => ?_)
  · skip
    refine GG.aload_n e_X10_numberOf_136 (i := 0) rfl 0 rfl ?_
    refine GG.getR (b := 1) e_X10_numberOf_137 fl_X10_12 (sf_X10_0 i_X10_0) ?_
    refine GG.getR (b := 10) e_X10_numberOf_140 fl_X10_245 (sf_X2_2 i_X2_1) ?_
    refine GG.getI e_X10_numberOf_143 fl_X10_341 (sf_X6_0 i_X6_10) ?_
    refine GG.iret e_X10_numberOf_146 rfl rfl ?_
    exact qI hQ (by rw [k 7 (by assumption) (by omega)]; rfl)
  refine GG.tcase 8 (off := 146) (tgt := 147) e_X10_numberOf_1 (by decide) (by decide) (by decide) rfl (fun h1 => ?_) (fun h1_8 => ?_)
  · skip
    refine GG.aload_n e_X10_numberOf_147 (i := 0) rfl 0 rfl ?_
    refine GG.getR (b := 1) e_X10_numberOf_148 fl_X10_12 (sf_X10_0 i_X10_0) ?_
    refine GG.getR (b := 12) e_X10_numberOf_151 fl_X10_248 (sf_X2_3 i_X2_1) ?_
    refine GG.getI e_X10_numberOf_154 fl_X10_341 (sf_X6_0 i_X6_12) ?_
    refine GG.iret e_X10_numberOf_157 rfl rfl ?_
    exact qI hQ (by rw [k 8 (by assumption) (by omega)]; rfl)
  refine GG.tcase 9 (off := 157) (tgt := 158) e_X10_numberOf_1 (by decide) (by decide) (by decide) rfl (fun h1 => ?_) (fun h1_9 => ?_)
  · skip
    refine GG.aload_n e_X10_numberOf_158 (i := 0) rfl 0 rfl ?_
    refine GG.getR (b := 1) e_X10_numberOf_159 fl_X10_12 (sf_X10_0 i_X10_0) ?_
    refine GG.getR (b := 14) e_X10_numberOf_162 fl_X10_82 (sf_X2_4 i_X2_1) ?_
    refine GG.getI e_X10_numberOf_165 fl_X10_344 (sf_X5_0 i_X5_14) ?_
    refine GG.iret e_X10_numberOf_168 rfl rfl ?_
    exact qI hQ (by rw [k 9 (by assumption) (by omega)]; rfl)
  refine GG.tableOut (tgt := 169) e_X10_numberOf_1 (by have a0 := sw_n 0 (by decide) h1_0; have a1 := sw_n 1 (by decide) h1_1; have a2 := sw_n 2 (by decide) h1_2; have a3 := sw_n 3 (by decide) h1_3; have a4 := sw_n 4 (by decide) h1_4; have a5 := sw_n 5 (by decide) h1_5; have a6 := sw_n 6 (by decide) h1_6; have a7 := sw_n 7 (by decide) h1_7; have a8 := sw_n 8 (by decide) h1_8; have a9 := sw_n 9 (by decide) h1_9; omega) rfl ?_
  refine GG.aload_n e_X10_numberOf_169 (i := 0) rfl 0 rfl ?_
  refine GG.getR (b := 46) e_X10_numberOf_170 fl_X10_25 (sf_X10_5 i_X10_0) ?_
  refine GG.getI e_X10_numberOf_173 fl_X10_118 (sf_X7_0 i_X7_46) ?_
  refine GG.iret e_X10_numberOf_176 rfl rfl ?_
  have q : n = 10 := by
    have z : ∀ j, ¬ nI n = nI j → ¬ n = j := fun j h e => h (by rw [e])
    have := z 0 (by assumption)
    have := z 1 (by assumption)
    have := z 2 (by assumption)
    have := z 3 (by assumption)
    have := z 4 (by assumption)
    have := z 5 (by assumption)
    have := z 6 (by assumption)
    have := z 7 (by assumption)
    have := z 8 (by assumption)
    have := z 9 (by assumption)
    omega
  exact qI hQ (by rw [q]; rfl)
theorem s_X10_count (hbad : oB z 0 10 = true → Q (some (.int (-2))) (mRf μ 10)) (hok : ∀ n, z = nI n → n ≤ 10 → Q (some (.int (mNm μ n))) μ) : SPC 2 MX10_count [.ref 0, .int z] μ Q := by
  refine SPC.of (by decide +kernel) (Nat.le_of_ble_eq_true rfl) (ls := [(0, .ref (0)), (1, .int (z))]) rfl ?_
  refine GG.iload_n e_X10_count_0 (i := 1) rfl 1 rfl ?_
  refine GG.iconst (v := 0) e_X10_count_1 rfl ?_
  refine GG.bipush (v := 10) e_X10_count_2 rfl ?_
  refine GG.callS (d' := 0) (as := [.int _, .int _, .int _]) e_X10_count_4 ml_X10_57 mf_X10_outside ms_X10_outside rfl (by decide) (Nat.le_of_ble_eq_true rfl) rfl ?_
  refine s_X10_outside ?_
  refine GG.if_eq (tgt := 17) e_X10_count_7 rfl (fun h7 => ?_) (fun h7 => ?_)
  · skip
    obtain ⟨n, rfl, g1, g2⟩ := oB_n (A := 0) (B := 10) ((bI_0 _).mp h7) rfl rfl (by omega) (by omega)
    refine GG.aload_n e_X10_count_17 (i := 0) rfl 0 rfl ?_
    refine GG.iload_n e_X10_count_18 (i := 1) rfl 1 rfl ?_
    refine GG.callV (d' := 1) (a := 0) (as := [.int _]) e_X10_count_19 ml_X10_328 mf_X10_numberOf mv_X10_numberOf (rc_X10 i_X10_0) rfl (by decide) (Nat.le_of_ble_eq_true rfl) rfl ?_
    refine s_X10_numberOf g2 ?_
    refine GG.iret e_X10_count_22 rfl rfl ?_
    exact hok n rfl g2
  · skip
    have oo : oB z 0 10 = true := (bI_n0 _).mp h7
    refine GG.aload_n e_X10_count_10 (i := 0) rfl 0 rfl ?_
    refine GG.bipush (v := -2) e_X10_count_11 rfl ?_
    refine GG.callV (d' := 0) (a := 0) (as := [.int _]) e_X10_count_13 ml_X10_61 mf_X10_refuseBad mv_X10_refuseBad (rc_X10 i_X10_0) rfl (by decide) (Nat.le_of_ble_eq_true rfl) rfl ?_
    refine s_X10_refuseBad ?_
    refine GG.iret e_X10_count_16 rfl rfl ?_
    exact hbad oo
def fLn (μ : gM) (b P A : Nat) (h : Int64) : Int64 := mFo (fun k w => (if nI w = 0 then mrd μ (b + 4) k else if nI w = 1 then mrd μ (b + 5) k else bI (mHas (mrd μ b 8) (nI k))).toInt64) 3 A (mFo (fun k w => (if nI w = 0 then mrd μ (b + 1) k else if nI w = 1 then mrd μ (b + 2) k else mrd μ (b + 3) k).toInt64) 3 P h)
def fRw (μ : gM) (r C N : Nat) (h : Int64) : Int64 := mFo (fun k w => (mrd μ (r + 1) (4 * k + w)).toInt64) C N h
theorem s_X2_foldedInto {h : Int64} (hL : LC μ 2 P A) (hT : mrd μ 8 0 = nI T) (hT6 : T ≤ 6) (hN : mrd μ 10 0 = nI N) (hN6 : N ≤ 6) (hM : mrd μ 12 0 = nI M) (hM6 : M ≤ 6) (hQ : Q (some (.long (fRw μ 12 4 M (fRw μ 10 4 N (fRw μ 8 2 T (fLn μ 2 P A h)))))) μ) : SPC 4 MX2_foldedInto [.ref 1, .long h] μ Q := by
  refine SPC.of (by decide +kernel) (Nat.le_of_ble_eq_true rfl) (ls := [(0, .ref (1)), (1, .long (h))]) rfl ?_
  refine GG.aload_n e_X2_foldedInto_0 (i := 0) rfl 0 rfl ?_
  refine GG.getR (b := 2) e_X2_foldedInto_1 fl_X2_12 (sf_X2_0 i_X2_1) ?_
  refine GG.lload_n e_X2_foldedInto_4 (i := 1) rfl 1 rfl ?_
  refine GG.callV (d' := 3) (a := 2) (as := [.long _]) e_X2_foldedInto_5 ml_X2_58 mf_X4_foldedInto mv_X4_foldedInto (rc_X4 i_X4_2) rfl (by decide) (Nat.le_of_ble_eq_true rfl) rfl ?_
  refine s_X4_foldedInto i_X4_2 hL ?_
  refine GG.lstore_n e_X2_foldedInto_8 (i := 3) rfl (Nat.le_of_ble_eq_true rfl) (ls' := [(3, .long _), (0, .ref _), (1, .long _)]) rfl ?_
  refine GG.aload_n e_X2_foldedInto_9 (i := 0) rfl 1 rfl ?_
  refine GG.getR (b := 8) e_X2_foldedInto_10 fl_X2_21 (sf_X2_1 i_X2_1) ?_
  refine GG.lload_n e_X2_foldedInto_13 (i := 3) rfl 0 rfl ?_
  refine GG.iconst (v := 2) e_X2_foldedInto_14 rfl ?_
  refine GG.callV (d' := 2) (a := 8) (as := [.long _, .int _]) e_X2_foldedInto_15 ml_X2_62 mf_X6_foldedInto mv_X6_foldedInto (rc_X6 i_X6_8) rfl (by decide) (Nat.le_of_ble_eq_true rfl) rfl ?_
  refine s_X6_foldedInto (C := 2) i_X6_8 hT hT6 (by omega) ?_
  refine GG.lstore_n e_X2_foldedInto_18 (i := 3) rfl (Nat.le_of_ble_eq_true rfl) (ls' := [(3, .long _), (0, .ref _), (1, .long _)]) rfl ?_
  refine GG.aload_n e_X2_foldedInto_19 (i := 0) rfl 1 rfl ?_
  refine GG.getR (b := 10) e_X2_foldedInto_20 fl_X2_25 (sf_X2_2 i_X2_1) ?_
  refine GG.lload_n e_X2_foldedInto_23 (i := 3) rfl 0 rfl ?_
  refine GG.iconst (v := 4) e_X2_foldedInto_24 rfl ?_
  refine GG.callV (d' := 2) (a := 10) (as := [.long _, .int _]) e_X2_foldedInto_25 ml_X2_62 mf_X6_foldedInto mv_X6_foldedInto (rc_X6 i_X6_10) rfl (by decide) (Nat.le_of_ble_eq_true rfl) rfl ?_
  refine s_X6_foldedInto (C := 4) i_X6_10 hN hN6 (by omega) ?_
  refine GG.lstore_n e_X2_foldedInto_28 (i := 3) rfl (Nat.le_of_ble_eq_true rfl) (ls' := [(3, .long _), (0, .ref _), (1, .long _)]) rfl ?_
  refine GG.aload_n e_X2_foldedInto_29 (i := 0) rfl 1 rfl ?_
  refine GG.getR (b := 12) e_X2_foldedInto_30 fl_X2_28 (sf_X2_3 i_X2_1) ?_
  refine GG.lload_n e_X2_foldedInto_33 (i := 3) rfl 0 rfl ?_
  refine GG.iconst (v := 4) e_X2_foldedInto_34 rfl ?_
  refine GG.callV (d' := 2) (a := 12) (as := [.long _, .int _]) e_X2_foldedInto_35 ml_X2_62 mf_X6_foldedInto mv_X6_foldedInto (rc_X6 i_X6_12) rfl (by decide) (Nat.le_of_ble_eq_true rfl) rfl ?_
  refine s_X6_foldedInto (C := 4) i_X6_12 hM hM6 (by omega) ?_
  refine GG.lret e_X2_foldedInto_38 rfl rfl ?_
  exact hQ
theorem s_X10_digest (hL : LC μ 2 P A) (hT : mrd μ 8 0 = nI T) (hT6 : T ≤ 6) (hN : mrd μ 10 0 = nI N) (hN6 : N ≤ 6) (hM : mrd μ 12 0 = nI M) (hM6 : M ≤ 6)
    (hQ : Q (some (.long (31 * (31 * fRw μ 12 4 M (fRw μ 10 4 N (fRw μ 8 2 T (fLn μ 2 P A (mFw (fun k => (mNm μ k).toInt64) 11 1559)))) + mrL μ 49 0) + mrL μ 49 1))) μ) : SPC 5 MX10_digest [.ref 0] μ Q := by
  have lp : ∀ n i, 11 - i < n → i ≤ 11 → GG 5 MX10_digest 6 [(3, .int (nI i)), (1, .long (mFw (fun k => (mNm μ k).toInt64) i 1559)), (0, .ref 0)] [] μ Q := by
    intro n
    induction n with
    | zero => intro i h; omega
    | succ n ih =>
      intro i hn hi
      refine GG.iload_n e_X10_digest_6 (i := 3) rfl 0 rfl ?_
      refine GG.bipush (v := 10) e_X10_digest_7 rfl ?_
      refine GG.icmp_gt (tgt := 29) e_X10_digest_9 rfl (fun h9 => ?_) (fun h9 => ?_)
      · skip
        have e : i = 11 := by have := nlt (a := 10) (b := i) h9 (by omega) (by omega); omega
        refine GG.aload_n e_X10_digest_29 (i := 0) rfl 2 rfl ?_
        refine GG.getR (b := 1) e_X10_digest_30 fl_X10_12 (sf_X10_0 i_X10_0) ?_
        refine GG.lload_n e_X10_digest_33 (i := 1) rfl 1 rfl ?_
        refine GG.callV (d' := 4) (a := 1) (as := [.long _]) e_X10_digest_34 ml_X10_337 mf_X2_foldedInto mv_X2_foldedInto (rc_X2 i_X2_1) rfl (by decide) (Nat.le_of_ble_eq_true rfl) rfl ?_
        refine s_X2_foldedInto hL hT hT6 hN hN6 hM hM6 ?_
        refine GG.lstore_n e_X10_digest_37 (i := 1) rfl (Nat.le_of_ble_eq_true rfl) (ls' := [(1, .long _), (3, .int _), (0, .ref _)]) rfl ?_
        refine GG.lload_n e_X10_digest_38 (i := 1) rfl 0 rfl ?_
        refine GG.aload_n e_X10_digest_39 (i := 0) rfl 2 rfl ?_
        refine GG.getR (b := 49) e_X10_digest_40 fl_X10_32 (sf_X10_6 i_X10_0) ?_
        refine GG.getL e_X10_digest_43 fl_X10_302 (sf_X0_0 i_X0_49) ?_
        refine GG.callS (d' := 0) (as := [.long _, .long _]) e_X10_digest_46 ml_X10_333 mf_X10_folded ms_X10_folded rfl (by decide) (Nat.le_of_ble_eq_true rfl) rfl ?_
        refine s_X10_folded ?_
        refine GG.lstore_n e_X10_digest_49 (i := 1) rfl (Nat.le_of_ble_eq_true rfl) (ls' := [(1, .long _), (3, .int _), (0, .ref _)]) rfl ?_
        refine GG.lload_n e_X10_digest_50 (i := 1) rfl 0 rfl ?_
        refine GG.aload_n e_X10_digest_51 (i := 0) rfl 2 rfl ?_
        refine GG.getR (b := 49) e_X10_digest_52 fl_X10_32 (sf_X10_6 i_X10_0) ?_
        refine GG.getL e_X10_digest_55 fl_X10_306 (sf_X0_1 i_X0_49) ?_
        refine GG.callS (d' := 0) (as := [.long _, .long _]) e_X10_digest_58 ml_X10_333 mf_X10_folded ms_X10_folded rfl (by decide) (Nat.le_of_ble_eq_true rfl) rfl ?_
        refine s_X10_folded ?_
        refine GG.lret e_X10_digest_61 rfl rfl ?_
        subst e
        exact hQ
      · skip
        have e : i ≤ 10 := by have := nnlt (a := 10) (b := i) h9 (by omega) (by omega); omega
        refine GG.lload_n e_X10_digest_12 (i := 1) rfl 1 rfl ?_
        refine GG.aload_n e_X10_digest_13 (i := 0) rfl 2 rfl ?_
        refine GG.iload_n e_X10_digest_14 (i := 3) rfl 0 rfl ?_
        refine GG.callV (d' := 1) (a := 0) (as := [.int _]) e_X10_digest_15 ml_X10_328 mf_X10_numberOf mv_X10_numberOf (rc_X10 i_X10_0) rfl (by decide) (Nat.le_of_ble_eq_true rfl) rfl ?_
        refine s_X10_numberOf e ?_
        refine GG.i2l e_X10_digest_18 ?_
        refine GG.callS (d' := 0) (as := [.long _, .long _]) e_X10_digest_19 ml_X10_333 mf_X10_folded ms_X10_folded rfl (by decide) (Nat.le_of_ble_eq_true rfl) rfl ?_
        refine s_X10_folded ?_
        refine GG.lstore_n e_X10_digest_22 (i := 1) rfl (Nat.le_of_ble_eq_true rfl) (ls' := [(1, .long _), (3, .int _), (0, .ref _)]) rfl ?_
        refine GG.iinc e_X10_digest_23 1 rfl (v := _) (by first | exact nI_s _ | exact nI_d _ | rfl) (Nat.le_of_ble_eq_true rfl) (ls' := [(3, .int _), (1, .long _), (0, .ref _)]) rfl ?_
        refine GG.goto (tgt := 6) e_X10_digest_26 rfl ?_
        exact ih (i + 1) (by omega) (by omega)
  refine SPC.of (by decide +kernel) (Nat.le_of_ble_eq_true rfl) (ls := [(0, .ref (0))]) rfl ?_
  refine GG.ldc2 e_X10_digest_0 kc_X10_331 ?_
  refine GG.lstore_n e_X10_digest_3 (i := 1) rfl (Nat.le_of_ble_eq_true rfl) (ls' := [(1, .long _), (0, .ref _)]) rfl ?_
  refine GG.iconst (v := 0) e_X10_digest_4 rfl ?_
  refine GG.istore_n e_X10_digest_5 (i := 3) rfl (Nat.le_of_ble_eq_true rfl) (ls' := [(3, .int _), (1, .long _), (0, .ref _)]) rfl ?_
  exact lp 12 0 (by omega) (by omega)
end S32
