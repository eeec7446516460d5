/-! TRIAL: slips, reigns, the count to hear; FRACTION -/
def mShr (V : Nat → Nat → Int32) (A P : Nat) (w c : Int32) (T : Nat) (o : Int32) (a : Nat) : Int64 := if mSb a T = true ∧ w ≤ vRch V (nI (mSty T a)) A P c (-1) then mPow o.toInt64 (pcN a) * mPow (10 - o).toInt64 (pcN (mSty T a)) else 0
def mGcd : Nat → Int64 → Int64 → Int64
  | 0, a, _ => a
  | n + 1, a, b => if b = 0 then a else mGcd n b (a - a / b * b)
section S22
variable {μ ν : gM} {Q : Option Value → gM → Prop} {P A k T u : Nat} {V : Nat → Nat → Int32} {w th t c : Int32} {g : Nat → Int32}
theorem s_X8_soundingShare {o : Int32} (hL : LC μ 2 P A) (hT : mrd μ 2 8 = nI T) (hT16 : T < 16) (hQ : ∀ ν, gSm μ ν → Q (some (.long (mSumL (mShr (cV μ 2) A P (mrd μ 2 0) c T o) 16))) ν) : SPC 4 MX8_soundingShare [.ref 50, .ref 2, .int c, .int o] μ Q := by
  generalize hf : mShr (cV μ 2) A P (mrd μ 2 0) c T o = f at hQ
  have lp : ∀ n j x ν th, 16 - j < n → j ≤ 16 → x = mSumL f j → TL μ ν (cV μ 2) P A (mrd μ 2 0) th (mrd μ 2 9) → GG 4 MX8_soundingShare 23 [(7, .int (nI j)), (5, .long x), (4, .int (nI T)), (0, .ref 50), (2, .int c), (3, .int o)] [] ν Q := by
    intro n
    induction n with
    | zero => intro j x ν th h; omega
    | succ n ih =>
      intro j x ν th hn hj hl hTL
      refine GG.iload e_X8_soundingShare_23 0 rfl ?_
      refine GG.bipush (v := 16) e_X8_soundingShare_25 rfl ?_
      refine GG.icmp_ge (tgt := 104) e_X8_soundingShare_27 rfl (fun h27 => ?_) (fun h27 => ?_)
      · skip
        have e := nle (a := 16) h27 (by omega) (by omega)
        have e2 : j = 16 := by omega
        subst e2
        refine GG.lload e_X8_soundingShare_104 1 rfl ?_
        refine GG.lret e_X8_soundingShare_106 rfl rfl ?_
        rw [hl]
        exact hQ _ hTL.1
      · skip
        have e := nnle (a := 16) h27 (by omega) (by omega)
        have hs := mSty_16 T hT16 j e
        have hb := mSb_16 j e T hT16
        refine GG.iload e_X8_soundingShare_30 0 rfl ?_
        refine GG.iload e_X8_soundingShare_32 2 rfl ?_
        refine GG.iconst (v := -1) e_X8_soundingShare_34 rfl ?_
        refine GG.ixor e_X8_soundingShare_35 ?_
        refine GG.iand e_X8_soundingShare_36 ?_
        refine GG.if_ne (tgt := 98) e_X8_soundingShare_37 rfl (fun h37 => ?_) (fun h37 => ?_)
        · skip
          have hy : x = mSumL f (j + 1) := by rw [mSumL, ← hl, ← hf, mShr, if_neg (fun q => h37 (hb.mpr q.1))]; simp
          have hT3 := hTL
          refine GG.iinc e_X8_soundingShare_98 0 rfl (v := _) (by first | exact nI_s _ | exact nI_d _ | rfl) (Nat.le_of_ble_eq_true rfl) (ls' := [(7, .int _), (5, .long _), (4, .int _), (0, .ref _), (2, .int _), (3, .int _)]) rfl ?_
          refine GG.goto (tgt := 23) e_X8_soundingShare_101 rfl ?_
          exact ih (j + 1) _ _ _ (by omega) (by omega) hy hT3
        · skip
          have hT2 := hTL.th (x := nI (mSty T j))
          refine GG.iload e_X8_soundingShare_40 2 rfl ?_
          refine GG.iload e_X8_soundingShare_42 0 rfl ?_
          refine GG.iconst (v := -1) e_X8_soundingShare_44 rfl ?_
          refine GG.ixor e_X8_soundingShare_45 ?_
          refine GG.iand e_X8_soundingShare_46 ?_
          refine GG.top hs.1 ?_
          refine GG.istore e_X8_soundingShare_47 (Nat.le_of_ble_eq_true rfl) (ls' := [(8, .int _), (7, .int _), (5, .long _), (4, .int _), (0, .ref _), (2, .int _), (3, .int _)]) rfl ?_
          refine GG.aload_n e_X8_soundingShare_49 (i := 0) rfl 4 rfl ?_
          refine GG.getR (b := 51) e_X8_soundingShare_50 fl_X8_12 (sf_X8_0 i_X8_50) ?_
          refine GG.iload e_X8_soundingShare_53 0 rfl ?_
          refine GG.putI e_X8_soundingShare_55 fl_X8_46 fp_X4_8 (sf_X4_8 i_X4_51) ?_
          refine GG.aload_n e_X8_soundingShare_58 (i := 0) rfl 4 rfl ?_
          refine GG.getR (b := 51) e_X8_soundingShare_59 fl_X8_12 (sf_X8_0 i_X8_50) ?_
          refine GG.iload_n e_X8_soundingShare_62 (i := 2) rfl 5 rfl ?_
          refine GG.callV (d' := 3) (a := 51) (as := [.int _]) e_X8_soundingShare_63 ml_X8_55 mf_X4_soundsAt mv_X4_soundsAt (rc_X4 i_X4_51) rfl (by decide) (Nat.le_of_ble_eq_true rfl) rfl ?_
          refine t_soundsAt hT2 ?_
          refine GG.if_eq (tgt := 98) e_X8_soundingShare_66 rfl (fun h66 => ?_) (fun h66 => ?_)
          · skip
            have hy : x = mSumL f (j + 1) := by rw [bI_0] at h66; rw [mSumL, ← hl, ← hf, mShr, if_neg (fun q => of_decide_eq_false h66 q.2)]; simp
            have hT3 := hT2
            refine GG.iinc e_X8_soundingShare_98 1 rfl (v := _) (by first | exact nI_s _ | exact nI_d _ | rfl) (Nat.le_of_ble_eq_true rfl) (ls' := [(7, .int _), (8, .int _), (5, .long _), (4, .int _), (0, .ref _), (2, .int _), (3, .int _)]) rfl ?_
            refine GG.goto (tgt := 23) e_X8_soundingShare_101 rfl ?_
            refine GG.perm [0, 2, 3, 4, 5, 6] rfl ?_
            exact ih (j + 1) _ _ _ (by omega) (by omega) hy hT3
          · skip
            rw [bI_0, Bool.not_eq_false] at h66
            have hy : x + mPow o.toInt64 (pcN j) * mPow (10 - o).toInt64 (pcN (mSty T j)) = mSumL f (j + 1) := by rw [mSumL, ← hl, ← hf, mShr, if_pos ⟨hb.mp h37, of_decide_eq_true h66⟩]
            have hT3 := hT2
            refine GG.lload e_X8_soundingShare_69 2 rfl ?_
            refine GG.iload_n e_X8_soundingShare_71 (i := 3) rfl 6 rfl ?_
            refine GG.i2l e_X8_soundingShare_72 ?_
            refine GG.iload e_X8_soundingShare_73 1 rfl ?_
            refine GG.callS (d' := 0) (as := [.int _]) e_X8_soundingShare_75 ml_X8_40 mf_J6_bitCount_0f7a4 ms_J6_bitCount_0f7a4 rfl (by decide) (Nat.le_of_ble_eq_true rfl) rfl ?_
            refine s_J6_bitCount_0f7a4 ?_
            rw [mBc_16 j e]
            refine GG.callN (d' := 0) (as := [.long _, .int _]) e_X8_soundingShare_78 ml_X8_112 mf_X10_power ms_X10_power rfl (by decide) (Nat.le_of_ble_eq_true rfl) rfl ?_
            refine s_X10_power (by have := pcN_4 j; have := pcN_4 (mSty T j); omega) ?_
            refine GG.bipush (v := 10) e_X8_soundingShare_81 rfl ?_
            refine GG.iload_n e_X8_soundingShare_83 (i := 3) rfl 6 rfl ?_
            refine GG.isub e_X8_soundingShare_84 ?_
            refine GG.i2l e_X8_soundingShare_85 ?_
            refine GG.iload e_X8_soundingShare_86 0 rfl ?_
            refine GG.callS (d' := 0) (as := [.int _]) e_X8_soundingShare_88 ml_X8_40 mf_J6_bitCount_0f7a4 ms_J6_bitCount_0f7a4 rfl (by decide) (Nat.le_of_ble_eq_true rfl) rfl ?_
            refine s_J6_bitCount_0f7a4 ?_
            rw [mBc_16 _ hs.2]
            refine GG.callN (d' := 0) (as := [.long _, .int _]) e_X8_soundingShare_91 ml_X8_112 mf_X10_power ms_X10_power rfl (by decide) (Nat.le_of_ble_eq_true rfl) rfl ?_
            refine s_X10_power (by have := pcN_4 j; have := pcN_4 (mSty T j); omega) ?_
            refine GG.lmul e_X8_soundingShare_94 ?_
            refine GG.ladd e_X8_soundingShare_95 ?_
            refine GG.lstore e_X8_soundingShare_96 (Nat.le_of_ble_eq_true rfl) (ls' := [(5, .long _), (8, .int _), (7, .int _), (4, .int _), (0, .ref _), (2, .int _), (3, .int _)]) rfl ?_
            refine GG.iinc e_X8_soundingShare_98 2 rfl (v := _) (by first | exact nI_s _ | exact nI_d _ | rfl) (Nat.le_of_ble_eq_true rfl) (ls' := [(7, .int _), (5, .long _), (8, .int _), (4, .int _), (0, .ref _), (2, .int _), (3, .int _)]) rfl ?_
            refine GG.goto (tgt := 23) e_X8_soundingShare_101 rfl ?_
            refine GG.perm [0, 1, 3, 4, 5, 6] rfl ?_
            exact ih (j + 1) _ _ _ (by omega) (by omega) hy hT3
  refine SPC.of (by decide +kernel) (Nat.le_of_ble_eq_true rfl) (ls := [(0, .ref (50)), (1, .ref (2)), (2, .int (c)), (3, .int (o))]) rfl ?_
  refine GG.aload_n e_X8_soundingShare_0 (i := 0) rfl 0 rfl ?_
  refine GG.getR (b := 51) e_X8_soundingShare_1 fl_X8_12 (sf_X8_0 i_X8_50) ?_
  refine GG.aload_n e_X8_soundingShare_4 (i := 1) rfl 1 rfl ?_
  refine GG.callV (d' := 1) (a := 51) (as := [.ref 2]) e_X8_soundingShare_5 ml_X8_22 mf_X4_copyFrom mv_X4_copyFrom (rc_X4 i_X4_51) rfl (by decide) (Nat.le_of_ble_eq_true rfl) rfl ?_
  refine s_X4_copyFrom i_X4_2 i_X4_51 (by omega) ?_
  refine GG.aload_n e_X8_soundingShare_8 (i := 0) rfl 0 rfl ?_
  refine GG.getR (b := 51) e_X8_soundingShare_9 fl_X8_12 (sf_X8_0 i_X8_50) ?_
  refine GG.getIv (v := nI T) e_X8_soundingShare_12 fl_X8_46 (sf_X4_8 i_X4_51) (hT) ?_
  refine GG.istore e_X8_soundingShare_15 (Nat.le_of_ble_eq_true rfl) (ls' := [(4, .int _), (0, .ref _), (1, .ref _), (2, .int _), (3, .int _)]) rfl ?_
  refine GG.lconst (v := 0) e_X8_soundingShare_17 rfl ?_
  refine GG.lstore e_X8_soundingShare_18 (Nat.le_of_ble_eq_true rfl) (ls' := [(5, .long _), (4, .int _), (0, .ref _), (1, .ref _), (2, .int _), (3, .int _)]) rfl ?_
  refine GG.iconst (v := 0) e_X8_soundingShare_20 rfl ?_
  refine GG.istore e_X8_soundingShare_21 (Nat.le_of_ble_eq_true rfl) (ls' := [(7, .int _), (5, .long _), (4, .int _), (0, .ref _), (1, .ref _), (2, .int _), (3, .int _)]) rfl ?_
  refine GG.perm [0, 1, 2, 3, 5, 6] rfl ?_
  exact lp 17 0 _ _ _ (by omega) (by omega) rfl (TL_Lc hL)
theorem s_X8_soundOfReign {N : Nat} {z : Int32} (hL : LC μ 2 P A) (hN : N < 2 ^ 31) (hQ : ∀ ν, gSm μ ν → Q (some (.int (mRei (cV μ 2) (mrd μ 2 8) A (mrd μ 2 0) P (mrd μ 2 9) z.toInt64 N).2.2)) ν) : SPC 3 MX8_soundOfReign [.ref 50, .ref 2, .int z, .int (nI N)] μ Q := by
  have hP := hL.2.1
  generalize hf : mRei (cV μ 2) (mrd μ 2 8) A (mrd μ 2 0) P (mrd μ 2 9) z.toInt64 = f at hQ
  have lp : ∀ n j x s ν V, N - j < n → j ≤ N → f j = (x, V, s) → TL μ ν V P A (mrd μ 2 0) (mrd μ 2 8) (mrd μ 2 9) → GG 3 MX8_soundOfReign 18 [(7, .int (nI j)), (6, .int s), (4, .long x), (0, .ref 50), (3, .int (nI N))] [] ν Q := by
    intro n
    induction n with
    | zero => intro j x s ν V h; omega
    | succ n ih =>
      intro j x s ν V hn hj hl hTL
      have nx : ∀ ν' V', j < N → TL μ ν' V' P A (mrd μ 2 0) (mrd μ 2 8) (mrd μ 2 9) → V' = (if mIn (rIx (rXx x)) P = true then uV V (rIx (rXx x)).toNatClampNeg (rAx (rXx x)) else V) → GG 3 MX8_soundOfReign 69 [(4, .long (rXx x)), (7, .int (nI j)), (6, .int s), (0, .ref 50), (3, .int (nI N))] [] ν' Q := by
        intro ν' V' e hT' hV'
        refine GG.iload e_X8_soundOfReign_69 2 rfl ?_
        refine GG.aload_n e_X8_soundOfReign_71 (i := 0) rfl 3 rfl ?_
        refine GG.getR (b := 51) e_X8_soundOfReign_72 fl_X8_12 (sf_X8_0 i_X8_50) ?_
        refine GG.aload_n e_X8_soundOfReign_75 (i := 0) rfl 3 rfl ?_
        refine GG.getR (b := 51) e_X8_soundOfReign_76 fl_X8_12 (sf_X8_0 i_X8_50) ?_
        refine GG.getIv (v := mrd μ 2 9) e_X8_soundOfReign_79 fl_X8_26 (sf_X4_9 i_X4_51) (hT'.2.2.2.2.1) ?_
        refine GG.iload e_X8_soundOfReign_82 1 rfl ?_
        refine GG.iadd e_X8_soundOfReign_84 ?_
        refine GG.callV (d' := 2) (a := 51) (as := [.int _]) e_X8_soundOfReign_85 ml_X8_93 mf_X4_soundAt mv_X4_soundAt (rc_X4 i_X4_51) rfl (by decide) (Nat.le_of_ble_eq_true rfl) rfl ?_
        refine t_soundAt hT' ?_
        refine GG.iadd e_X8_soundOfReign_88 ?_
        refine GG.istore e_X8_soundOfReign_89 (Nat.le_of_ble_eq_true rfl) (ls' := [(6, .int _), (4, .long _), (7, .int _), (0, .ref _), (3, .int _)]) rfl ?_
        refine GG.iinc e_X8_soundOfReign_91 2 rfl (v := _) (by first | exact nI_s _ | exact nI_d _ | rfl) (Nat.le_of_ble_eq_true rfl) (ls' := [(7, .int _), (6, .int _), (4, .long _), (0, .ref _), (3, .int _)]) rfl ?_
        refine GG.goto (tgt := 18) e_X8_soundOfReign_94 rfl ?_
        refine ih (j + 1) _ _ _ _ (by omega) (by omega) ?_ hT'
        rw [← hf] at hl
        rw [← hf, mRei, hl, hV']
      refine GG.iload e_X8_soundOfReign_18 0 rfl ?_
      refine GG.iload_n e_X8_soundOfReign_20 (i := 3) rfl 4 rfl ?_
      refine GG.icmp_ge (tgt := 97) e_X8_soundOfReign_21 rfl (fun h21 => ?_) (fun h21 => ?_)
      · skip
        have e := nle h21 (by omega) (by omega)
        have e2 : j = N := by omega
        subst e2
        refine GG.iload e_X8_soundOfReign_97 1 rfl ?_
        refine GG.iret e_X8_soundOfReign_99 rfl rfl ?_
        refine qI (hQ _ hTL.1) ?_
        rw [hl]
      · skip
        have e := nnle h21 (by omega) (by omega)
        refine GG.lload e_X8_soundOfReign_24 2 rfl ?_
        refine GG.ldc2 e_X8_soundOfReign_26 kc_X8_116 ?_
        refine GG.lmul e_X8_soundOfReign_29 ?_
        refine GG.ldc2 e_X8_soundOfReign_30 kc_X8_118 ?_
        refine GG.ladd e_X8_soundOfReign_33 ?_
        refine GG.ldc2 e_X8_soundOfReign_34 kc_X8_120 ?_
        refine GG.lrem e_X8_soundOfReign_37 (by decide) ?_
        refine GG.lstore e_X8_soundOfReign_38 (Nat.le_of_ble_eq_true rfl) (ls' := [(4, .long _), (7, .int _), (6, .int _), (0, .ref _), (3, .int _)]) rfl ?_
        refine GG.aload_n e_X8_soundOfReign_40 (i := 0) rfl 3 rfl ?_
        refine GG.getR (b := 51) e_X8_soundOfReign_41 fl_X8_12 (sf_X8_0 i_X8_50) ?_
        refine GG.lload e_X8_soundOfReign_44 0 rfl ?_
        refine GG.ldc2 e_X8_soundOfReign_46 kc_X8_122 ?_
        refine GG.ldiv e_X8_soundOfReign_49 (by decide) ?_
        refine GG.ldc2 e_X8_soundOfReign_50 kc_X8_124 ?_
        refine GG.lrem e_X8_soundOfReign_53 (by decide) ?_
        refine GG.l2i e_X8_soundOfReign_54 ?_
        refine GG.lload e_X8_soundOfReign_55 0 rfl ?_
        refine GG.ldc2 e_X8_soundOfReign_57 kc_X8_126 ?_
        refine GG.ldiv e_X8_soundOfReign_60 (by decide) ?_
        refine GG.ldc2 e_X8_soundOfReign_61 kc_X8_128 ?_
        refine GG.lrem e_X8_soundOfReign_64 (by decide) ?_
        refine GG.l2i e_X8_soundOfReign_65 ?_
        refine GG.callV (d' := 1) (a := 51) (as := [.int _, .int _]) e_X8_soundOfReign_66 ml_X8_52 mf_X4_setSwing mv_X4_setSwing (rc_X4 i_X4_51) rfl (by decide) (Nat.le_of_ble_eq_true rfl) rfl ?_
        refine s_X4_setSwing i_X4_51 hTL.2.1 (fun h => ?_) (fun q hq hkq => ?_)
        · exact GG.perm [0, 1, 2, 3, 4] rfl (nx ν V e hTL (by rw [if_neg (fun z => by rw [show mIn (rIx (rXx x)) P = false from h] at z; cases z)]))
        · have hm : mIn (rIx (rXx x)) P = true := by rw [show rIx (rXx x) = nI q from hkq, mIn_n (by omega), decide_eq_true hq]
          exact GG.perm [0, 1, 2, 3, 4] rfl (nx _ _ e (hTL.sw (k := q) (a := rAx (rXx x))) (by rw [if_pos hm, show rIx (rXx x) = nI q from hkq, nI_clamp (by omega)]))
  refine SPC.of (by decide +kernel) (Nat.le_of_ble_eq_true rfl) (ls := [(0, .ref (50)), (1, .ref (2)), (2, .int (z)), (3, .int (nI N))]) rfl ?_
  refine GG.aload_n e_X8_soundOfReign_0 (i := 0) rfl 0 rfl ?_
  refine GG.getR (b := 51) e_X8_soundOfReign_1 fl_X8_12 (sf_X8_0 i_X8_50) ?_
  refine GG.aload_n e_X8_soundOfReign_4 (i := 1) rfl 1 rfl ?_
  refine GG.callV (d' := 1) (a := 51) (as := [.ref 2]) e_X8_soundOfReign_5 ml_X8_22 mf_X4_copyFrom mv_X4_copyFrom (rc_X4 i_X4_51) rfl (by decide) (Nat.le_of_ble_eq_true rfl) rfl ?_
  refine s_X4_copyFrom i_X4_2 i_X4_51 (by omega) ?_
  refine GG.iload_n e_X8_soundOfReign_8 (i := 2) rfl 2 rfl ?_
  refine GG.i2l e_X8_soundOfReign_9 ?_
  refine GG.lstore e_X8_soundOfReign_10 (Nat.le_of_ble_eq_true rfl) (ls' := [(4, .long _), (0, .ref _), (1, .ref _), (2, .int _), (3, .int _)]) rfl ?_
  refine GG.iconst (v := 0) e_X8_soundOfReign_12 rfl ?_
  refine GG.istore e_X8_soundOfReign_13 (Nat.le_of_ble_eq_true rfl) (ls' := [(6, .int _), (4, .long _), (0, .ref _), (1, .ref _), (2, .int _), (3, .int _)]) rfl ?_
  refine GG.iconst (v := 0) e_X8_soundOfReign_15 rfl ?_
  refine GG.istore e_X8_soundOfReign_16 (Nat.le_of_ble_eq_true rfl) (ls' := [(7, .int _), (6, .int _), (4, .long _), (0, .ref _), (1, .ref _), (2, .int _), (3, .int _)]) rfl ?_
  refine GG.perm [0, 1, 2, 3, 6] rfl ?_
  exact lp (N + 1) 0 _ _ _ _ (by omega) (by omega) (by rw [← hf]; rfl) (TL_Lc hL)
theorem s_X8_lanesUpTo {x : Int32} (hQ : Q (some (.int (mUp x))) μ) : SPC 1 MX8_lanesUpTo [.int x] μ Q := by
  refine SPC.of (by decide +kernel) (Nat.le_of_ble_eq_true rfl) (ls := [(0, .int (x))]) rfl ?_
  refine GG.iconst (v := 0) e_X8_lanesUpTo_0 rfl ?_
  refine GG.iload_n e_X8_lanesUpTo_1 (i := 0) rfl 0 rfl ?_
  refine GG.bipush (v := 30) e_X8_lanesUpTo_2 rfl ?_
  refine GG.min e_X8_lanesUpTo_4 ml_X8_86 (by decide) (Nat.le_of_ble_eq_true rfl) ?_
  refine GG.iconst (v := 4) e_X8_lanesUpTo_7 rfl ?_
  refine GG.isub e_X8_lanesUpTo_8 ?_
  refine GG.iconst (v := 1) e_X8_lanesUpTo_9 rfl ?_
  refine GG.iadd e_X8_lanesUpTo_10 ?_
  refine GG.max e_X8_lanesUpTo_11 ml_X8_81 (by decide) (Nat.le_of_ble_eq_true rfl) ?_
  refine GG.istore_n e_X8_lanesUpTo_14 (i := 1) rfl (Nat.le_of_ble_eq_true rfl) (ls' := [(1, .int _), (0, .int _)]) rfl ?_
  refine GG.iconst (v := 1) e_X8_lanesUpTo_15 rfl ?_
  refine GG.iload_n e_X8_lanesUpTo_16 (i := 1) rfl 0 rfl ?_
  refine GG.ishl e_X8_lanesUpTo_17 ?_
  refine GG.iconst (v := 1) e_X8_lanesUpTo_18 rfl ?_
  refine GG.isub e_X8_lanesUpTo_19 ?_
  refine GG.iret e_X8_lanesUpTo_20 rfl rfl ?_
  exact hQ
theorem s_X8_bestCount {b : Int32} (hL : LC μ 2 P A) (hg : ∀ c, c < 24 → g c = mHg (vRch (cV μ 2) (mrd μ 2 8) A P (nI c) (-1)) b) (hQ : Q (some (.int (if b = 0 then -1 else (mBst g 24).1))) μ) : SPC 3 MX8_bestCount [.ref 2, .int b] μ Q := by
  have lp : ∀ n j x y, 24 - j < n → j ≤ 24 → (j = 0 ∨ ¬ b = 0) → mBst g j = (x, y) → GG 3 MX8_bestCount 8 [(4, .int (nI j)), (3, .int y), (2, .int x), (0, .ref 2), (1, .int b)] [] μ Q := by
    intro n
    induction n with
    | zero => intro j x y h; omega
    | succ n ih =>
      intro j x y hn hj hb hl
      refine GG.aload_n e_X8_bestCount_8 (i := 0) rfl 3 rfl ?_
      refine GG.ifnull e_X8_bestCount_9 ?_
      refine GG.iload_n e_X8_bestCount_12 (i := 1) rfl 4 rfl ?_
      refine GG.if_eq (tgt := 72) e_X8_bestCount_13 rfl (fun h13 => ?_) (fun h13 => ?_)
      · skip
        refine GG.iload_n e_X8_bestCount_72 (i := 2) rfl 2 rfl ?_
        refine GG.iret e_X8_bestCount_73 rfl rfl ?_
        refine qI hQ ?_
        first | (rw [if_pos h13]; rcases hb with hb | hb; subst hb; cases hl; rfl; exact absurd h13 hb) | rw [if_neg h13, hl]
      · skip
        refine GG.iload e_X8_bestCount_16 0 rfl ?_
        refine GG.bipush (v := 24) e_X8_bestCount_18 rfl ?_
        refine GG.icmp_ge (tgt := 72) e_X8_bestCount_20 rfl (fun h20 => ?_) (fun h20 => ?_)
        · skip
          have e := nle (a := 24) h20 (by omega) (by omega)
          have e2 : j = 24 := by omega
          subst e2
          refine GG.iload_n e_X8_bestCount_72 (i := 2) rfl 2 rfl ?_
          refine GG.iret e_X8_bestCount_73 rfl rfl ?_
          refine qI hQ ?_
          first | (rw [if_pos h13]; rcases hb with hb | hb; subst hb; cases hl; rfl; exact absurd h13 hb) | rw [if_neg h13, hl]
        · skip
          have e := nnle (a := 24) h20 (by omega) (by omega)
          refine GG.iload_n e_X8_bestCount_23 (i := 1) rfl 4 rfl ?_
          refine GG.aload_n e_X8_bestCount_24 (i := 0) rfl 3 rfl ?_
          refine GG.iload e_X8_bestCount_25 0 rfl ?_
          refine GG.iconst (v := -1) e_X8_bestCount_27 rfl ?_
          refine GG.callV (d' := 2) (a := 2) (as := [.int _, .int _]) e_X8_bestCount_28 ml_X8_75 mf_X4_reachAt mv_X4_reachAt (rc_X4 i_X4_2) rfl (by decide) (Nat.le_of_ble_eq_true rfl) rfl ?_
          refine s_X4_reachAt i_X4_2 hL ?_
          refine GG.callS (d' := 1) (as := [.int _]) e_X8_bestCount_31 ml_X8_78 mf_X8_lanesUpTo ms_X8_lanesUpTo rfl (by decide) (Nat.le_of_ble_eq_true rfl) rfl ?_
          refine s_X8_lanesUpTo ?_
          refine GG.iand e_X8_bestCount_34 ?_
          refine GG.callS (d' := 0) (as := [.int _]) e_X8_bestCount_35 ml_X8_40 mf_J6_bitCount_0f7a4 ms_J6_bitCount_0f7a4 rfl (by decide) (Nat.le_of_ble_eq_true rfl) rfl ?_
          refine s_J6_bitCount_0f7a4 ?_
          refine GG.istore e_X8_bestCount_38 (Nat.le_of_ble_eq_true rfl) (ls' := [(5, .int _), (4, .int _), (3, .int _), (2, .int _), (0, .ref _), (1, .int _)]) rfl ?_
          refine GG.iload e_X8_bestCount_40 0 rfl ?_
          refine GG.iload_n e_X8_bestCount_42 (i := 1) rfl 5 rfl ?_
          refine GG.callS (d' := 0) (as := [.int _]) e_X8_bestCount_43 ml_X8_40 mf_J6_bitCount_0f7a4 ms_J6_bitCount_0f7a4 rfl (by decide) (Nat.le_of_ble_eq_true rfl) rfl ?_
          refine s_J6_bitCount_0f7a4 ?_
          refine GG.iload e_X8_bestCount_46 0 rfl ?_
          refine GG.isub e_X8_bestCount_48 ?_
          refine GG.max e_X8_bestCount_49 ml_X8_81 (by decide) (Nat.le_of_ble_eq_true rfl) ?_
          refine GG.istore e_X8_bestCount_52 (Nat.le_of_ble_eq_true rfl) (ls' := [(6, .int _), (5, .int _), (4, .int _), (3, .int _), (2, .int _), (0, .ref _), (1, .int _)]) rfl ?_
          refine GG.iload e_X8_bestCount_54 0 rfl ?_
          refine GG.iload_n e_X8_bestCount_56 (i := 3) rfl 3 rfl ?_
          refine GG.icmp_ge (tgt := 66) e_X8_bestCount_57 rfl (fun h57 => ?_) (fun h57 => ?_)
          · skip
            have hy : mBst g (j + 1) = (x, y) := by rw [mBst, hl, hg j e, if_neg (Int32.not_lt.mpr (show y ≤ mHg (vRch (cV μ 2) (mrd μ 2 8) A P (nI j) (-1)) b from h57))]
            refine GG.iinc e_X8_bestCount_66 2 rfl (v := _) (by first | exact nI_s _ | exact nI_d _ | rfl) (Nat.le_of_ble_eq_true rfl) (ls' := [(4, .int _), (6, .int _), (5, .int _), (3, .int _), (2, .int _), (0, .ref _), (1, .int _)]) rfl ?_
            refine GG.goto (tgt := 8) e_X8_bestCount_69 rfl ?_
            refine GG.perm [0, 3, 4, 5, 6] rfl ?_
            exact ih (j + 1) _ _ (by omega) (by omega) (Or.inr h13) hy
          · skip
            have hy : mBst g (j + 1) = (nI j, mHg (vRch (cV μ 2) (mrd μ 2 8) A P (nI j) (-1)) b) := by rw [mBst, hl, hg j e, if_pos (Int32.not_le.mp (show ¬ y ≤ mHg (vRch (cV μ 2) (mrd μ 2 8) A P (nI j) (-1)) b from h57))]
            refine GG.iload e_X8_bestCount_60 0 rfl ?_
            refine GG.istore_n e_X8_bestCount_62 (i := 3) rfl (Nat.le_of_ble_eq_true rfl) (ls' := [(3, .int _), (6, .int _), (5, .int _), (4, .int _), (2, .int _), (0, .ref _), (1, .int _)]) rfl ?_
            refine GG.iload e_X8_bestCount_63 3 rfl ?_
            refine GG.istore_n e_X8_bestCount_65 (i := 2) rfl (Nat.le_of_ble_eq_true rfl) (ls' := [(2, .int _), (3, .int _), (6, .int _), (5, .int _), (4, .int _), (0, .ref _), (1, .int _)]) rfl ?_
            refine GG.iinc e_X8_bestCount_66 4 rfl (v := _) (by first | exact nI_s _ | exact nI_d _ | rfl) (Nat.le_of_ble_eq_true rfl) (ls' := [(4, .int _), (2, .int _), (3, .int _), (6, .int _), (5, .int _), (0, .ref _), (1, .int _)]) rfl ?_
            refine GG.goto (tgt := 8) e_X8_bestCount_69 rfl ?_
            refine GG.perm [0, 2, 1, 5, 6] rfl ?_
            exact ih (j + 1) _ _ (by omega) (by omega) (Or.inr h13) hy
  refine SPC.of (by decide +kernel) (Nat.le_of_ble_eq_true rfl) (ls := [(0, .ref (2)), (1, .int (b))]) rfl ?_
  refine GG.iconst (v := -1) e_X8_bestCount_0 rfl ?_
  refine GG.istore_n e_X8_bestCount_1 (i := 2) rfl (Nat.le_of_ble_eq_true rfl) (ls' := [(2, .int _), (0, .ref _), (1, .int _)]) rfl ?_
  refine GG.bipush (v := 28) e_X8_bestCount_2 rfl ?_
  refine GG.istore_n e_X8_bestCount_4 (i := 3) rfl (Nat.le_of_ble_eq_true rfl) (ls' := [(3, .int _), (2, .int _), (0, .ref _), (1, .int _)]) rfl ?_
  refine GG.iconst (v := 0) e_X8_bestCount_5 rfl ?_
  refine GG.istore e_X8_bestCount_6 (Nat.le_of_ble_eq_true rfl) (ls' := [(4, .int _), (3, .int _), (2, .int _), (0, .ref _), (1, .int _)]) rfl ?_
  exact lp 25 0 _ _ (by omega) (by omega) (Or.inl rfl) rfl
theorem s_X0_commonDivisor {a b : Int64} (hQ : Q (some (.long (mGcd 100 a b))) μ) : SPC 0 MX0_commonDivisor [.long a, .long b] μ Q := by
  have lp : ∀ n j x y, 100 - j < n → j ≤ 100 → mGcd (100 - j) x y = mGcd 100 a b → GG 0 MX0_commonDivisor 3 [(4, .int (nI j)), (0, .long x), (2, .long y)] [] μ Q := by
    intro n
    induction n with
    | zero => intro j x y h; omega
    | succ n ih =>
      intro j x y hn hj hl
      refine GG.iload e_X0_commonDivisor_3 0 rfl ?_
      refine GG.bipush (v := 100) e_X0_commonDivisor_5 rfl ?_
      refine GG.icmp_ge (tgt := 32) e_X0_commonDivisor_7 rfl (fun h7 => ?_) (fun h7 => ?_)
      · skip
        have e := nle (a := 100) h7 (by omega) (by omega)
        have e2 : j = 100 := by omega
        subst e2
        refine GG.lload_n e_X0_commonDivisor_32 (i := 0) rfl 1 rfl ?_
        refine GG.lret e_X0_commonDivisor_33 rfl rfl ?_
        rw [show x = mGcd 100 a b by rw [← hl]; first | rfl | rw [e3, mGcd, if_pos hy]]
        exact hQ
      · skip
        have e := nnle (a := 100) h7 (by omega) (by omega)
        have e3 : 100 - j = (100 - (j + 1)) + 1 := by omega
        refine GG.lload_n e_X0_commonDivisor_10 (i := 2) rfl 2 rfl ?_
        refine GG.lconst (v := 0) e_X0_commonDivisor_11 rfl ?_
        refine GG.lcmp e_X0_commonDivisor_12 ?_
        refine GG.if_eq (tgt := 32) e_X0_commonDivisor_13 rfl (fun h13 => ?_) (fun h13 => ?_)
        · skip
          have hy : y = 0 := by rw [lg_cmp] at h13; grind
          refine GG.lload_n e_X0_commonDivisor_32 (i := 0) rfl 1 rfl ?_
          refine GG.lret e_X0_commonDivisor_33 rfl rfl ?_
          rw [show x = mGcd 100 a b by rw [← hl]; first | rfl | rw [e3, mGcd, if_pos hy]]
          exact hQ
        · skip
          have hy : ¬ y = 0 := by rw [lg_cmp] at h13; grind
          refine GG.lload_n e_X0_commonDivisor_16 (i := 0) rfl 1 rfl ?_
          refine GG.lload_n e_X0_commonDivisor_17 (i := 2) rfl 2 rfl ?_
          refine GG.lrem e_X0_commonDivisor_18 hy ?_
          refine GG.lstore e_X0_commonDivisor_19 (Nat.le_of_ble_eq_true rfl) (ls' := [(5, .long _), (4, .int _), (0, .long _), (2, .long _)]) rfl ?_
          refine GG.lload_n e_X0_commonDivisor_21 (i := 2) rfl 3 rfl ?_
          refine GG.lstore_n e_X0_commonDivisor_22 (i := 0) rfl (Nat.le_of_ble_eq_true rfl) (ls' := [(0, .long _), (5, .long _), (4, .int _), (2, .long _)]) rfl ?_
          refine GG.lload e_X0_commonDivisor_23 1 rfl ?_
          refine GG.lstore_n e_X0_commonDivisor_25 (i := 2) rfl (Nat.le_of_ble_eq_true rfl) (ls' := [(2, .long _), (0, .long _), (5, .long _), (4, .int _)]) rfl ?_
          refine GG.iinc e_X0_commonDivisor_26 3 rfl (v := _) (by first | exact nI_s _ | exact nI_d _ | rfl) (Nat.le_of_ble_eq_true rfl) (ls' := [(4, .int _), (2, .long _), (0, .long _), (5, .long _)]) rfl ?_
          refine GG.goto (tgt := 3) e_X0_commonDivisor_29 rfl ?_
          refine GG.perm [0, 2, 1] rfl ?_
          refine ih (j + 1) _ _ (by omega) (by omega) ?_
          rw [← hl, e3, mGcd, if_neg hy]
  refine SPC.of (by decide +kernel) (Nat.le_of_ble_eq_true rfl) (ls := [(0, .long (a)), (2, .long (b))]) rfl ?_
  refine GG.iconst (v := 0) e_X0_commonDivisor_0 rfl ?_
  refine GG.istore e_X0_commonDivisor_1 (Nat.le_of_ble_eq_true rfl) (ls' := [(4, .int _), (0, .long _), (2, .long _)]) rfl ?_
  exact lp 101 0 _ _ (by omega) (by omega) rfl
theorem s_X0_become {a b : Int64} (hp : 0 < mGcd 100 a b) (hQ : Q none (mwL (mwL μ 49 0 (a / mGcd 100 a b)) 49 1 (b / mGcd 100 a b))) : SPC 1 MX0_become [.ref 49, .long a, .long b] μ Q := by
  have h0 : ¬ mGcd 100 a b = 0 := by intro z; rw [z] at hp; exact absurd hp (by decide)
  refine SPC.of (by decide +kernel) (Nat.le_of_ble_eq_true rfl) (ls := [(0, .ref (49)), (1, .long (a)), (3, .long (b))]) rfl ?_
  refine GG.lload_n e_X0_become_0 (i := 1) rfl 1 rfl ?_
  refine GG.lload_n e_X0_become_1 (i := 3) rfl 2 rfl ?_
  refine GG.callS (d' := 0) (as := [.long _, .long _]) e_X0_become_2 ml_X0_13 mf_X0_commonDivisor ms_X0_commonDivisor rfl (by decide) (Nat.le_of_ble_eq_true rfl) rfl ?_
  refine s_X0_commonDivisor ?_
  refine GG.lstore e_X0_become_5 (Nat.le_of_ble_eq_true rfl) (ls' := [(5, .long _), (0, .ref _), (1, .long _), (3, .long _)]) rfl ?_
  refine GG.lload e_X0_become_7 0 rfl ?_
  refine GG.lconst (v := 0) e_X0_become_9 rfl ?_
  refine GG.lcmp e_X0_become_10 ?_
  refine GG.if_le (tgt := 30) e_X0_become_11 rfl (fun h11 => absurd h11 (by rw [lg_cmp]; grind)) (fun h11 => ?_)
  refine GG.aload_n e_X0_become_14 (i := 0) rfl 1 rfl ?_
  refine GG.lload_n e_X0_become_15 (i := 1) rfl 2 rfl ?_
  refine GG.lload e_X0_become_16 0 rfl ?_
  refine GG.ldiv e_X0_become_18 h0 ?_
  refine GG.putL e_X0_become_19 fl_X0_17 fp_X0_0 (sf_X0_0 i_X0_49) ?_
  refine GG.aload_n e_X0_become_22 (i := 0) rfl 1 rfl ?_
  refine GG.lload_n e_X0_become_23 (i := 3) rfl 3 rfl ?_
  refine GG.lload e_X0_become_24 0 rfl ?_
  refine GG.ldiv e_X0_become_26 h0 ?_
  refine GG.putL e_X0_become_27 fl_X0_7 fp_X0_1 (sf_X0_1 i_X0_49) ?_
  refine GG.vret e_X0_become_30 rfl rfl ?_
  exact hQ
end S22
