/-! KINDS: how far one leans, how far one is damped; in class and reference the same -/
def mRem (x z : Int32) : Int32 := x - x / z * z
def mPlain (a c : Int32) : Int32 := if mRem c 4 = 1 then a else if mRem c 4 = 3 then -a else 0
def mLean (kind a c : Int32) : Int32 :=
  if kind = 1 then (if 0 < mPlain a c then mPlain a c + 1 else mPlain a c)
  else if kind = 2 then mPlain a c / 2
  else if kind = 3 then (if mRem c 3 = 0 then 0 else mPlain a c)
  else if kind = 4 then (if 0 < mPlain a (c + 1) then mPlain a (c + 1) + 1 else mPlain a (c + 1))
  else if kind = 5 then 3 * (mPlain a c / 2) else mPlain a c
def mOnce (x : Int32) : Int32 := if 2 < x then x - 2 else if 0 < x then 0 else x
def mDamp (kind x c : Int32) : Int32 :=
  if kind = 1 then (if 8 < x then x / 2 else mOnce x)
  else if kind = 2 then mOnce (mOnce x)
  else if kind = 3 then (if mRem c 2 = 0 then mOnce x else x)
  else if kind = 4 then (if mRem c 5 = 4 then x else if mRem c 2 = 0 then mOnce x else x)
  else if kind = 5 then (if mRem c 4 = 0 then 0 else mOnce (mOnce x)) else mOnce x
theorem s_X10_outside {μ : gM} {Q : Option Value → gM → Prop} {v a b : Int32} (hQ : Q (some (.int (bI (decide (v < a ∨ b < v))))) μ) : SPC 0 MX10_outside [.int v, .int a, .int b] μ Q := by
  refine SPC.of (by decide +kernel) (Nat.le_of_ble_eq_true rfl) (ls := [(0, .int v), (1, .int a), (2, .int b)]) rfl ?_
  refine GG.iload_n e_X10_outside_0 (i := 0) rfl 0 rfl ?_
  refine GG.iload_n e_X10_outside_1 (i := 1) rfl 1 rfl ?_
  refine GG.icmp_lt (tgt := 10) e_X10_outside_2 rfl (fun h2 => ?_) (fun h2 => ?_)
  · skip
    refine GG.iconst (v := 1) e_X10_outside_10 rfl ?_
    refine GG.goto (tgt := 15) e_X10_outside_11 rfl ?_
    refine GG.zret e_X10_outside_15 rfl rfl rfl ?_
    exact qI hQ (by simp_all [bI])
  · skip
    refine GG.iload_n e_X10_outside_5 (i := 0) rfl 0 rfl ?_
    refine GG.iload_n e_X10_outside_6 (i := 2) rfl 2 rfl ?_
    refine GG.icmp_le (tgt := 14) e_X10_outside_7 rfl (fun h7 => ?_) (fun h7 => ?_)
    · skip
      refine GG.iconst (v := 0) e_X10_outside_14 rfl ?_
      refine GG.zret e_X10_outside_15 rfl rfl rfl ?_
      exact qI hQ (by simp_all [bI])
    · skip
      refine GG.iconst (v := 1) e_X10_outside_10 rfl ?_
      refine GG.goto (tgt := 15) e_X10_outside_11 rfl ?_
      refine GG.zret e_X10_outside_15 rfl rfl rfl ?_
      exact qI hQ (by simp_all [bI])
theorem s_X11_in {μ : gM} {Q : Option Value → gM → Prop} {v a b : Int32} (hQ : Q (some (.int (bI (decide (a ≤ v ∧ v ≤ b))))) μ) : SPC 0 MX11_in [.int v, .int a, .int b] μ Q := by
  refine SPC.of (by decide +kernel) (Nat.le_of_ble_eq_true rfl) (ls := [(0, .int v), (1, .int a), (2, .int b)]) rfl ?_
  refine GG.iload_n e_X11_in_0 (i := 0) rfl 0 rfl ?_
  refine GG.iload_n e_X11_in_1 (i := 1) rfl 1 rfl ?_
  refine GG.icmp_lt (tgt := 14) e_X11_in_2 rfl (fun h2 => ?_) (fun h2 => ?_)
  · skip
    refine GG.iconst (v := 0) e_X11_in_14 rfl ?_
    refine GG.zret e_X11_in_15 rfl rfl rfl ?_
    exact qI hQ (by simp_all [bI])
  · skip
    refine GG.iload_n e_X11_in_5 (i := 0) rfl 0 rfl ?_
    refine GG.iload_n e_X11_in_6 (i := 2) rfl 2 rfl ?_
    refine GG.icmp_gt (tgt := 14) e_X11_in_7 rfl (fun h7 => ?_) (fun h7 => ?_)
    · skip
      refine GG.iconst (v := 0) e_X11_in_14 rfl ?_
      refine GG.zret e_X11_in_15 rfl rfl rfl ?_
      exact qI hQ (by simp_all [bI])
    · skip
      refine GG.iconst (v := 1) e_X11_in_10 rfl ?_
      refine GG.goto (tgt := 15) e_X11_in_11 rfl ?_
      refine GG.zret e_X11_in_15 rfl rfl rfl ?_
      exact qI hQ (by simp_all [bI])
theorem s_X3_leanAs {μ : gM} {Q : Option Value → gM → Prop} {k a c : Int32} (hQ : Q (some (.int (mLean k a c))) μ) : SPC 0 MX3_leanAs [.int k, .int a, .int c] μ Q := by
  refine SPC.of (by decide +kernel) (Nat.le_of_ble_eq_true rfl) (ls := [(0, .int k), (1, .int a), (2, .int c)]) rfl ?_
  refine GG.iload_n e_X3_leanAs_0 (i := 0) rfl 0 rfl ?_
  refine GG.iconst (v := 4) e_X3_leanAs_1 rfl ?_
  refine GG.icmp_ne (tgt := 11) e_X3_leanAs_2 rfl (fun h2 => ?_) (fun h2 => ?_)
  · skip
    refine GG.iload_n e_X3_leanAs_11 (i := 2) rfl 2 rfl ?_
    refine GG.iconst (v := 4) e_X3_leanAs_12 rfl ?_
    refine GG.irem e_X3_leanAs_13 (by decide) ?_
    refine GG.istore_n e_X3_leanAs_14 (i := 3) rfl (Nat.le_of_ble_eq_true rfl) (ls' := [(3, .int _), (0, .int _), (1, .int _), (2, .int _)]) rfl ?_
    refine GG.iload_n e_X3_leanAs_15 (i := 3) rfl 0 rfl ?_
    refine GG.iconst (v := 1) e_X3_leanAs_16 rfl ?_
    refine GG.icmp_ne (tgt := 24) e_X3_leanAs_17 rfl (fun h17 => ?_) (fun h17 => ?_)
    · skip
      refine GG.iload_n e_X3_leanAs_24 (i := 3) rfl 0 rfl ?_
      refine GG.iconst (v := 3) e_X3_leanAs_25 rfl ?_
      refine GG.icmp_ne (tgt := 34) e_X3_leanAs_26 rfl (fun h26 => ?_) (fun h26 => ?_)
      · skip
        refine GG.iconst (v := 0) e_X3_leanAs_34 rfl ?_
        refine GG.istore e_X3_leanAs_35 (Nat.le_of_ble_eq_true rfl) (ls' := [(4, .int _), (3, .int _), (0, .int _), (1, .int _), (2, .int _)]) rfl ?_
        refine GG.iload_n e_X3_leanAs_37 (i := 0) rfl 2 rfl ?_
        refine GG.tcase 1 (off := 34) (tgt := 72) e_X3_leanAs_38 (by decide) (by decide) (by decide) rfl (fun h38 => ?_) (fun h38_1 => ?_)
        · skip
          refine GG.iload e_X3_leanAs_72 0 rfl ?_
          refine GG.if_le (tgt := 84) e_X3_leanAs_74 rfl (fun h74 => ?_) (fun h74 => ?_)
          · skip
            refine GG.iload e_X3_leanAs_84 0 rfl ?_
            refine GG.iret e_X3_leanAs_86 rfl rfl ?_
            exact qI hQ (by simp_all [mLean, mPlain, mRem])
          · skip
            refine GG.iload e_X3_leanAs_77 0 rfl ?_
            refine GG.iconst (v := 1) e_X3_leanAs_79 rfl ?_
            refine GG.iadd e_X3_leanAs_80 ?_
            refine GG.goto (tgt := 86) e_X3_leanAs_81 rfl ?_
            refine GG.iret e_X3_leanAs_86 rfl rfl ?_
            exact qI hQ (by simp_all [mLean, mPlain, mRem])
        refine GG.tcase 2 (off := 49) (tgt := 87) e_X3_leanAs_38 (by decide) (by decide) (by decide) rfl (fun h38 => ?_) (fun h38_2 => ?_)
        · skip
          refine GG.iload e_X3_leanAs_87 0 rfl ?_
          refine GG.iconst (v := 2) e_X3_leanAs_89 rfl ?_
          refine GG.idiv e_X3_leanAs_90 (by decide) ?_
          refine GG.iret e_X3_leanAs_91 rfl rfl ?_
          exact qI hQ (by simp_all [mLean, mPlain, mRem])
        refine GG.tcase 3 (off := 54) (tgt := 92) e_X3_leanAs_38 (by decide) (by decide) (by decide) rfl (fun h38 => ?_) (fun h38_3 => ?_)
        · skip
          refine GG.iload_n e_X3_leanAs_92 (i := 2) rfl 4 rfl ?_
          refine GG.iconst (v := 3) e_X3_leanAs_93 rfl ?_
          refine GG.irem e_X3_leanAs_94 (by decide) ?_
          refine GG.if_ne (tgt := 102) e_X3_leanAs_95 rfl (fun h95 => ?_) (fun h95 => ?_)
          · skip
            refine GG.iload e_X3_leanAs_102 0 rfl ?_
            refine GG.iret e_X3_leanAs_104 rfl rfl ?_
            exact qI hQ (by simp_all [mLean, mPlain, mRem])
          · skip
            refine GG.iconst (v := 0) e_X3_leanAs_98 rfl ?_
            refine GG.goto (tgt := 104) e_X3_leanAs_99 rfl ?_
            refine GG.iret e_X3_leanAs_104 rfl rfl ?_
            exact qI hQ (by simp_all [mLean, mPlain, mRem])
        refine GG.tcase 4 (off := 34) (tgt := 72) e_X3_leanAs_38 (by decide) (by decide) (by decide) rfl (fun h38 => ?_) (fun h38_4 => ?_)
        · skip
          refine GG.iload e_X3_leanAs_72 0 rfl ?_
          refine GG.if_le (tgt := 84) e_X3_leanAs_74 rfl (fun h74 => ?_) (fun h74 => ?_)
          · skip
            refine GG.iload e_X3_leanAs_84 0 rfl ?_
            refine GG.iret e_X3_leanAs_86 rfl rfl ?_
            exact qI hQ (by simp_all [mLean, mPlain, mRem])
          · skip
            refine GG.iload e_X3_leanAs_77 0 rfl ?_
            refine GG.iconst (v := 1) e_X3_leanAs_79 rfl ?_
            refine GG.iadd e_X3_leanAs_80 ?_
            refine GG.goto (tgt := 86) e_X3_leanAs_81 rfl ?_
            refine GG.iret e_X3_leanAs_86 rfl rfl ?_
            exact qI hQ (by simp_all [mLean, mPlain, mRem])
        refine GG.tcase 5 (off := 67) (tgt := 105) e_X3_leanAs_38 (by decide) (by decide) (by decide) rfl (fun h38 => ?_) (fun h38_5 => ?_)
        · skip
          refine GG.iconst (v := 3) e_X3_leanAs_105 rfl ?_
          refine GG.iload e_X3_leanAs_106 0 rfl ?_
          refine GG.iconst (v := 2) e_X3_leanAs_108 rfl ?_
          refine GG.idiv e_X3_leanAs_109 (by decide) ?_
          refine GG.imul e_X3_leanAs_110 ?_
          refine GG.iret e_X3_leanAs_111 rfl rfl ?_
          exact qI hQ (by simp_all [mLean, mPlain, mRem])
        refine GG.tableOut (tgt := 112) e_X3_leanAs_38 (by have a1 := sw_n 1 (by decide) h38_1; have a2 := sw_n 2 (by decide) h38_2; have a3 := sw_n 3 (by decide) h38_3; have a4 := sw_n 4 (by decide) h38_4; have a5 := sw_n 5 (by decide) h38_5; omega) rfl ?_
        refine GG.iload e_X3_leanAs_112 0 rfl ?_
        refine GG.iret e_X3_leanAs_114 rfl rfl ?_
        exact qI hQ (by simp_all [mLean, mPlain, mRem])
      · skip
        refine GG.iload_n e_X3_leanAs_29 (i := 1) rfl 2 rfl ?_
        refine GG.ineg e_X3_leanAs_30 ?_
        refine GG.goto (tgt := 35) e_X3_leanAs_31 rfl ?_
        refine GG.istore e_X3_leanAs_35 (Nat.le_of_ble_eq_true rfl) (ls' := [(4, .int _), (3, .int _), (0, .int _), (1, .int _), (2, .int _)]) rfl ?_
        refine GG.iload_n e_X3_leanAs_37 (i := 0) rfl 2 rfl ?_
        refine GG.tcase 1 (off := 34) (tgt := 72) e_X3_leanAs_38 (by decide) (by decide) (by decide) rfl (fun h38 => ?_) (fun h38_1 => ?_)
        · skip
          refine GG.iload e_X3_leanAs_72 0 rfl ?_
          refine GG.if_le (tgt := 84) e_X3_leanAs_74 rfl (fun h74 => ?_) (fun h74 => ?_)
          · skip
            refine GG.iload e_X3_leanAs_84 0 rfl ?_
            refine GG.iret e_X3_leanAs_86 rfl rfl ?_
            exact qI hQ (by simp_all [mLean, mPlain, mRem])
          · skip
            refine GG.iload e_X3_leanAs_77 0 rfl ?_
            refine GG.iconst (v := 1) e_X3_leanAs_79 rfl ?_
            refine GG.iadd e_X3_leanAs_80 ?_
            refine GG.goto (tgt := 86) e_X3_leanAs_81 rfl ?_
            refine GG.iret e_X3_leanAs_86 rfl rfl ?_
            exact qI hQ (by simp_all [mLean, mPlain, mRem])
        refine GG.tcase 2 (off := 49) (tgt := 87) e_X3_leanAs_38 (by decide) (by decide) (by decide) rfl (fun h38 => ?_) (fun h38_2 => ?_)
        · skip
          refine GG.iload e_X3_leanAs_87 0 rfl ?_
          refine GG.iconst (v := 2) e_X3_leanAs_89 rfl ?_
          refine GG.idiv e_X3_leanAs_90 (by decide) ?_
          refine GG.iret e_X3_leanAs_91 rfl rfl ?_
          exact qI hQ (by simp_all [mLean, mPlain, mRem])
        refine GG.tcase 3 (off := 54) (tgt := 92) e_X3_leanAs_38 (by decide) (by decide) (by decide) rfl (fun h38 => ?_) (fun h38_3 => ?_)
        · skip
          refine GG.iload_n e_X3_leanAs_92 (i := 2) rfl 4 rfl ?_
          refine GG.iconst (v := 3) e_X3_leanAs_93 rfl ?_
          refine GG.irem e_X3_leanAs_94 (by decide) ?_
          refine GG.if_ne (tgt := 102) e_X3_leanAs_95 rfl (fun h95 => ?_) (fun h95 => ?_)
          · skip
            refine GG.iload e_X3_leanAs_102 0 rfl ?_
            refine GG.iret e_X3_leanAs_104 rfl rfl ?_
            exact qI hQ (by simp_all [mLean, mPlain, mRem])
          · skip
            refine GG.iconst (v := 0) e_X3_leanAs_98 rfl ?_
            refine GG.goto (tgt := 104) e_X3_leanAs_99 rfl ?_
            refine GG.iret e_X3_leanAs_104 rfl rfl ?_
            exact qI hQ (by simp_all [mLean, mPlain, mRem])
        refine GG.tcase 4 (off := 34) (tgt := 72) e_X3_leanAs_38 (by decide) (by decide) (by decide) rfl (fun h38 => ?_) (fun h38_4 => ?_)
        · skip
          refine GG.iload e_X3_leanAs_72 0 rfl ?_
          refine GG.if_le (tgt := 84) e_X3_leanAs_74 rfl (fun h74 => ?_) (fun h74 => ?_)
          · skip
            refine GG.iload e_X3_leanAs_84 0 rfl ?_
            refine GG.iret e_X3_leanAs_86 rfl rfl ?_
            exact qI hQ (by simp_all [mLean, mPlain, mRem])
          · skip
            refine GG.iload e_X3_leanAs_77 0 rfl ?_
            refine GG.iconst (v := 1) e_X3_leanAs_79 rfl ?_
            refine GG.iadd e_X3_leanAs_80 ?_
            refine GG.goto (tgt := 86) e_X3_leanAs_81 rfl ?_
            refine GG.iret e_X3_leanAs_86 rfl rfl ?_
            exact qI hQ (by simp_all [mLean, mPlain, mRem])
        refine GG.tcase 5 (off := 67) (tgt := 105) e_X3_leanAs_38 (by decide) (by decide) (by decide) rfl (fun h38 => ?_) (fun h38_5 => ?_)
        · skip
          refine GG.iconst (v := 3) e_X3_leanAs_105 rfl ?_
          refine GG.iload e_X3_leanAs_106 0 rfl ?_
          refine GG.iconst (v := 2) e_X3_leanAs_108 rfl ?_
          refine GG.idiv e_X3_leanAs_109 (by decide) ?_
          refine GG.imul e_X3_leanAs_110 ?_
          refine GG.iret e_X3_leanAs_111 rfl rfl ?_
          exact qI hQ (by simp_all [mLean, mPlain, mRem])
        refine GG.tableOut (tgt := 112) e_X3_leanAs_38 (by have a1 := sw_n 1 (by decide) h38_1; have a2 := sw_n 2 (by decide) h38_2; have a3 := sw_n 3 (by decide) h38_3; have a4 := sw_n 4 (by decide) h38_4; have a5 := sw_n 5 (by decide) h38_5; omega) rfl ?_
        refine GG.iload e_X3_leanAs_112 0 rfl ?_
        refine GG.iret e_X3_leanAs_114 rfl rfl ?_
        exact qI hQ (by simp_all [mLean, mPlain, mRem])
    · skip
      refine GG.iload_n e_X3_leanAs_20 (i := 1) rfl 2 rfl ?_
      refine GG.goto (tgt := 35) e_X3_leanAs_21 rfl ?_
      refine GG.istore e_X3_leanAs_35 (Nat.le_of_ble_eq_true rfl) (ls' := [(4, .int _), (3, .int _), (0, .int _), (1, .int _), (2, .int _)]) rfl ?_
      refine GG.iload_n e_X3_leanAs_37 (i := 0) rfl 2 rfl ?_
      refine GG.tcase 1 (off := 34) (tgt := 72) e_X3_leanAs_38 (by decide) (by decide) (by decide) rfl (fun h38 => ?_) (fun h38_1 => ?_)
      · skip
        refine GG.iload e_X3_leanAs_72 0 rfl ?_
        refine GG.if_le (tgt := 84) e_X3_leanAs_74 rfl (fun h74 => ?_) (fun h74 => ?_)
        · skip
          refine GG.iload e_X3_leanAs_84 0 rfl ?_
          refine GG.iret e_X3_leanAs_86 rfl rfl ?_
          exact qI hQ (by simp_all [mLean, mPlain, mRem])
        · skip
          refine GG.iload e_X3_leanAs_77 0 rfl ?_
          refine GG.iconst (v := 1) e_X3_leanAs_79 rfl ?_
          refine GG.iadd e_X3_leanAs_80 ?_
          refine GG.goto (tgt := 86) e_X3_leanAs_81 rfl ?_
          refine GG.iret e_X3_leanAs_86 rfl rfl ?_
          exact qI hQ (by simp_all [mLean, mPlain, mRem])
      refine GG.tcase 2 (off := 49) (tgt := 87) e_X3_leanAs_38 (by decide) (by decide) (by decide) rfl (fun h38 => ?_) (fun h38_2 => ?_)
      · skip
        refine GG.iload e_X3_leanAs_87 0 rfl ?_
        refine GG.iconst (v := 2) e_X3_leanAs_89 rfl ?_
        refine GG.idiv e_X3_leanAs_90 (by decide) ?_
        refine GG.iret e_X3_leanAs_91 rfl rfl ?_
        exact qI hQ (by simp_all [mLean, mPlain, mRem])
      refine GG.tcase 3 (off := 54) (tgt := 92) e_X3_leanAs_38 (by decide) (by decide) (by decide) rfl (fun h38 => ?_) (fun h38_3 => ?_)
      · skip
        refine GG.iload_n e_X3_leanAs_92 (i := 2) rfl 4 rfl ?_
        refine GG.iconst (v := 3) e_X3_leanAs_93 rfl ?_
        refine GG.irem e_X3_leanAs_94 (by decide) ?_
        refine GG.if_ne (tgt := 102) e_X3_leanAs_95 rfl (fun h95 => ?_) (fun h95 => ?_)
        · skip
          refine GG.iload e_X3_leanAs_102 0 rfl ?_
          refine GG.iret e_X3_leanAs_104 rfl rfl ?_
          exact qI hQ (by simp_all [mLean, mPlain, mRem])
        · skip
          refine GG.iconst (v := 0) e_X3_leanAs_98 rfl ?_
          refine GG.goto (tgt := 104) e_X3_leanAs_99 rfl ?_
          refine GG.iret e_X3_leanAs_104 rfl rfl ?_
          exact qI hQ (by simp_all [mLean, mPlain, mRem])
      refine GG.tcase 4 (off := 34) (tgt := 72) e_X3_leanAs_38 (by decide) (by decide) (by decide) rfl (fun h38 => ?_) (fun h38_4 => ?_)
      · skip
        refine GG.iload e_X3_leanAs_72 0 rfl ?_
        refine GG.if_le (tgt := 84) e_X3_leanAs_74 rfl (fun h74 => ?_) (fun h74 => ?_)
        · skip
          refine GG.iload e_X3_leanAs_84 0 rfl ?_
          refine GG.iret e_X3_leanAs_86 rfl rfl ?_
          exact qI hQ (by simp_all [mLean, mPlain, mRem])
        · skip
          refine GG.iload e_X3_leanAs_77 0 rfl ?_
          refine GG.iconst (v := 1) e_X3_leanAs_79 rfl ?_
          refine GG.iadd e_X3_leanAs_80 ?_
          refine GG.goto (tgt := 86) e_X3_leanAs_81 rfl ?_
          refine GG.iret e_X3_leanAs_86 rfl rfl ?_
          exact qI hQ (by simp_all [mLean, mPlain, mRem])
      refine GG.tcase 5 (off := 67) (tgt := 105) e_X3_leanAs_38 (by decide) (by decide) (by decide) rfl (fun h38 => ?_) (fun h38_5 => ?_)
      · skip
        refine GG.iconst (v := 3) e_X3_leanAs_105 rfl ?_
        refine GG.iload e_X3_leanAs_106 0 rfl ?_
        refine GG.iconst (v := 2) e_X3_leanAs_108 rfl ?_
        refine GG.idiv e_X3_leanAs_109 (by decide) ?_
        refine GG.imul e_X3_leanAs_110 ?_
        refine GG.iret e_X3_leanAs_111 rfl rfl ?_
        exact qI hQ (by simp_all [mLean, mPlain, mRem])
      refine GG.tableOut (tgt := 112) e_X3_leanAs_38 (by have a1 := sw_n 1 (by decide) h38_1; have a2 := sw_n 2 (by decide) h38_2; have a3 := sw_n 3 (by decide) h38_3; have a4 := sw_n 4 (by decide) h38_4; have a5 := sw_n 5 (by decide) h38_5; omega) rfl ?_
      refine GG.iload e_X3_leanAs_112 0 rfl ?_
      refine GG.iret e_X3_leanAs_114 rfl rfl ?_
      exact qI hQ (by simp_all [mLean, mPlain, mRem])
  · skip
    refine GG.iload_n e_X3_leanAs_5 (i := 2) rfl 2 rfl ?_
    refine GG.iconst (v := 1) e_X3_leanAs_6 rfl ?_
    refine GG.iadd e_X3_leanAs_7 ?_
    refine GG.goto (tgt := 12) e_X3_leanAs_8 rfl ?_
    refine GG.iconst (v := 4) e_X3_leanAs_12 rfl ?_
    refine GG.irem e_X3_leanAs_13 (by decide) ?_
    refine GG.istore_n e_X3_leanAs_14 (i := 3) rfl (Nat.le_of_ble_eq_true rfl) (ls' := [(3, .int _), (0, .int _), (1, .int _), (2, .int _)]) rfl ?_
    refine GG.iload_n e_X3_leanAs_15 (i := 3) rfl 0 rfl ?_
    refine GG.iconst (v := 1) e_X3_leanAs_16 rfl ?_
    refine GG.icmp_ne (tgt := 24) e_X3_leanAs_17 rfl (fun h17 => ?_) (fun h17 => ?_)
    · skip
      refine GG.iload_n e_X3_leanAs_24 (i := 3) rfl 0 rfl ?_
      refine GG.iconst (v := 3) e_X3_leanAs_25 rfl ?_
      refine GG.icmp_ne (tgt := 34) e_X3_leanAs_26 rfl (fun h26 => ?_) (fun h26 => ?_)
      · skip
        refine GG.iconst (v := 0) e_X3_leanAs_34 rfl ?_
        refine GG.istore e_X3_leanAs_35 (Nat.le_of_ble_eq_true rfl) (ls' := [(4, .int _), (3, .int _), (0, .int _), (1, .int _), (2, .int _)]) rfl ?_
        refine GG.iload_n e_X3_leanAs_37 (i := 0) rfl 2 rfl ?_
        refine GG.tcase 1 (off := 34) (tgt := 72) e_X3_leanAs_38 (by decide) (by decide) (by decide) rfl (fun h38 => ?_) (fun h38_1 => ?_)
        · skip
          refine GG.iload e_X3_leanAs_72 0 rfl ?_
          refine GG.if_le (tgt := 84) e_X3_leanAs_74 rfl (fun h74 => ?_) (fun h74 => ?_)
          · skip
            refine GG.iload e_X3_leanAs_84 0 rfl ?_
            refine GG.iret e_X3_leanAs_86 rfl rfl ?_
            exact qI hQ (by simp_all [mLean, mPlain, mRem])
          · skip
            refine GG.iload e_X3_leanAs_77 0 rfl ?_
            refine GG.iconst (v := 1) e_X3_leanAs_79 rfl ?_
            refine GG.iadd e_X3_leanAs_80 ?_
            refine GG.goto (tgt := 86) e_X3_leanAs_81 rfl ?_
            refine GG.iret e_X3_leanAs_86 rfl rfl ?_
            exact qI hQ (by simp_all [mLean, mPlain, mRem])
        refine GG.tcase 2 (off := 49) (tgt := 87) e_X3_leanAs_38 (by decide) (by decide) (by decide) rfl (fun h38 => ?_) (fun h38_2 => ?_)
        · skip
          refine GG.iload e_X3_leanAs_87 0 rfl ?_
          refine GG.iconst (v := 2) e_X3_leanAs_89 rfl ?_
          refine GG.idiv e_X3_leanAs_90 (by decide) ?_
          refine GG.iret e_X3_leanAs_91 rfl rfl ?_
          exact qI hQ (by simp_all [mLean, mPlain, mRem])
        refine GG.tcase 3 (off := 54) (tgt := 92) e_X3_leanAs_38 (by decide) (by decide) (by decide) rfl (fun h38 => ?_) (fun h38_3 => ?_)
        · skip
          refine GG.iload_n e_X3_leanAs_92 (i := 2) rfl 4 rfl ?_
          refine GG.iconst (v := 3) e_X3_leanAs_93 rfl ?_
          refine GG.irem e_X3_leanAs_94 (by decide) ?_
          refine GG.if_ne (tgt := 102) e_X3_leanAs_95 rfl (fun h95 => ?_) (fun h95 => ?_)
          · skip
            refine GG.iload e_X3_leanAs_102 0 rfl ?_
            refine GG.iret e_X3_leanAs_104 rfl rfl ?_
            exact qI hQ (by simp_all [mLean, mPlain, mRem])
          · skip
            refine GG.iconst (v := 0) e_X3_leanAs_98 rfl ?_
            refine GG.goto (tgt := 104) e_X3_leanAs_99 rfl ?_
            refine GG.iret e_X3_leanAs_104 rfl rfl ?_
            exact qI hQ (by simp_all [mLean, mPlain, mRem])
        refine GG.tcase 4 (off := 34) (tgt := 72) e_X3_leanAs_38 (by decide) (by decide) (by decide) rfl (fun h38 => ?_) (fun h38_4 => ?_)
        · skip
          refine GG.iload e_X3_leanAs_72 0 rfl ?_
          refine GG.if_le (tgt := 84) e_X3_leanAs_74 rfl (fun h74 => ?_) (fun h74 => ?_)
          · skip
            refine GG.iload e_X3_leanAs_84 0 rfl ?_
            refine GG.iret e_X3_leanAs_86 rfl rfl ?_
            exact qI hQ (by simp_all [mLean, mPlain, mRem])
          · skip
            refine GG.iload e_X3_leanAs_77 0 rfl ?_
            refine GG.iconst (v := 1) e_X3_leanAs_79 rfl ?_
            refine GG.iadd e_X3_leanAs_80 ?_
            refine GG.goto (tgt := 86) e_X3_leanAs_81 rfl ?_
            refine GG.iret e_X3_leanAs_86 rfl rfl ?_
            exact qI hQ (by simp_all [mLean, mPlain, mRem])
        refine GG.tcase 5 (off := 67) (tgt := 105) e_X3_leanAs_38 (by decide) (by decide) (by decide) rfl (fun h38 => ?_) (fun h38_5 => ?_)
        · skip
          refine GG.iconst (v := 3) e_X3_leanAs_105 rfl ?_
          refine GG.iload e_X3_leanAs_106 0 rfl ?_
          refine GG.iconst (v := 2) e_X3_leanAs_108 rfl ?_
          refine GG.idiv e_X3_leanAs_109 (by decide) ?_
          refine GG.imul e_X3_leanAs_110 ?_
          refine GG.iret e_X3_leanAs_111 rfl rfl ?_
          exact qI hQ (by simp_all [mLean, mPlain, mRem])
        refine GG.tableOut (tgt := 112) e_X3_leanAs_38 (by have a1 := sw_n 1 (by decide) h38_1; have a2 := sw_n 2 (by decide) h38_2; have a3 := sw_n 3 (by decide) h38_3; have a4 := sw_n 4 (by decide) h38_4; have a5 := sw_n 5 (by decide) h38_5; omega) rfl ?_
        refine GG.iload e_X3_leanAs_112 0 rfl ?_
        refine GG.iret e_X3_leanAs_114 rfl rfl ?_
        exact qI hQ (by simp_all [mLean, mPlain, mRem])
      · skip
        refine GG.iload_n e_X3_leanAs_29 (i := 1) rfl 2 rfl ?_
        refine GG.ineg e_X3_leanAs_30 ?_
        refine GG.goto (tgt := 35) e_X3_leanAs_31 rfl ?_
        refine GG.istore e_X3_leanAs_35 (Nat.le_of_ble_eq_true rfl) (ls' := [(4, .int _), (3, .int _), (0, .int _), (1, .int _), (2, .int _)]) rfl ?_
        refine GG.iload_n e_X3_leanAs_37 (i := 0) rfl 2 rfl ?_
        refine GG.tcase 1 (off := 34) (tgt := 72) e_X3_leanAs_38 (by decide) (by decide) (by decide) rfl (fun h38 => ?_) (fun h38_1 => ?_)
        · skip
          refine GG.iload e_X3_leanAs_72 0 rfl ?_
          refine GG.if_le (tgt := 84) e_X3_leanAs_74 rfl (fun h74 => ?_) (fun h74 => ?_)
          · skip
            refine GG.iload e_X3_leanAs_84 0 rfl ?_
            refine GG.iret e_X3_leanAs_86 rfl rfl ?_
            exact qI hQ (by simp_all [mLean, mPlain, mRem])
          · skip
            refine GG.iload e_X3_leanAs_77 0 rfl ?_
            refine GG.iconst (v := 1) e_X3_leanAs_79 rfl ?_
            refine GG.iadd e_X3_leanAs_80 ?_
            refine GG.goto (tgt := 86) e_X3_leanAs_81 rfl ?_
            refine GG.iret e_X3_leanAs_86 rfl rfl ?_
            exact qI hQ (by simp_all [mLean, mPlain, mRem])
        refine GG.tcase 2 (off := 49) (tgt := 87) e_X3_leanAs_38 (by decide) (by decide) (by decide) rfl (fun h38 => ?_) (fun h38_2 => ?_)
        · skip
          refine GG.iload e_X3_leanAs_87 0 rfl ?_
          refine GG.iconst (v := 2) e_X3_leanAs_89 rfl ?_
          refine GG.idiv e_X3_leanAs_90 (by decide) ?_
          refine GG.iret e_X3_leanAs_91 rfl rfl ?_
          exact qI hQ (by simp_all [mLean, mPlain, mRem])
        refine GG.tcase 3 (off := 54) (tgt := 92) e_X3_leanAs_38 (by decide) (by decide) (by decide) rfl (fun h38 => ?_) (fun h38_3 => ?_)
        · skip
          refine GG.iload_n e_X3_leanAs_92 (i := 2) rfl 4 rfl ?_
          refine GG.iconst (v := 3) e_X3_leanAs_93 rfl ?_
          refine GG.irem e_X3_leanAs_94 (by decide) ?_
          refine GG.if_ne (tgt := 102) e_X3_leanAs_95 rfl (fun h95 => ?_) (fun h95 => ?_)
          · skip
            refine GG.iload e_X3_leanAs_102 0 rfl ?_
            refine GG.iret e_X3_leanAs_104 rfl rfl ?_
            exact qI hQ (by simp_all [mLean, mPlain, mRem])
          · skip
            refine GG.iconst (v := 0) e_X3_leanAs_98 rfl ?_
            refine GG.goto (tgt := 104) e_X3_leanAs_99 rfl ?_
            refine GG.iret e_X3_leanAs_104 rfl rfl ?_
            exact qI hQ (by simp_all [mLean, mPlain, mRem])
        refine GG.tcase 4 (off := 34) (tgt := 72) e_X3_leanAs_38 (by decide) (by decide) (by decide) rfl (fun h38 => ?_) (fun h38_4 => ?_)
        · skip
          refine GG.iload e_X3_leanAs_72 0 rfl ?_
          refine GG.if_le (tgt := 84) e_X3_leanAs_74 rfl (fun h74 => ?_) (fun h74 => ?_)
          · skip
            refine GG.iload e_X3_leanAs_84 0 rfl ?_
            refine GG.iret e_X3_leanAs_86 rfl rfl ?_
            exact qI hQ (by simp_all [mLean, mPlain, mRem])
          · skip
            refine GG.iload e_X3_leanAs_77 0 rfl ?_
            refine GG.iconst (v := 1) e_X3_leanAs_79 rfl ?_
            refine GG.iadd e_X3_leanAs_80 ?_
            refine GG.goto (tgt := 86) e_X3_leanAs_81 rfl ?_
            refine GG.iret e_X3_leanAs_86 rfl rfl ?_
            exact qI hQ (by simp_all [mLean, mPlain, mRem])
        refine GG.tcase 5 (off := 67) (tgt := 105) e_X3_leanAs_38 (by decide) (by decide) (by decide) rfl (fun h38 => ?_) (fun h38_5 => ?_)
        · skip
          refine GG.iconst (v := 3) e_X3_leanAs_105 rfl ?_
          refine GG.iload e_X3_leanAs_106 0 rfl ?_
          refine GG.iconst (v := 2) e_X3_leanAs_108 rfl ?_
          refine GG.idiv e_X3_leanAs_109 (by decide) ?_
          refine GG.imul e_X3_leanAs_110 ?_
          refine GG.iret e_X3_leanAs_111 rfl rfl ?_
          exact qI hQ (by simp_all [mLean, mPlain, mRem])
        refine GG.tableOut (tgt := 112) e_X3_leanAs_38 (by have a1 := sw_n 1 (by decide) h38_1; have a2 := sw_n 2 (by decide) h38_2; have a3 := sw_n 3 (by decide) h38_3; have a4 := sw_n 4 (by decide) h38_4; have a5 := sw_n 5 (by decide) h38_5; omega) rfl ?_
        refine GG.iload e_X3_leanAs_112 0 rfl ?_
        refine GG.iret e_X3_leanAs_114 rfl rfl ?_
        exact qI hQ (by simp_all [mLean, mPlain, mRem])
    · skip
      refine GG.iload_n e_X3_leanAs_20 (i := 1) rfl 2 rfl ?_
      refine GG.goto (tgt := 35) e_X3_leanAs_21 rfl ?_
      refine GG.istore e_X3_leanAs_35 (Nat.le_of_ble_eq_true rfl) (ls' := [(4, .int _), (3, .int _), (0, .int _), (1, .int _), (2, .int _)]) rfl ?_
      refine GG.iload_n e_X3_leanAs_37 (i := 0) rfl 2 rfl ?_
      refine GG.tcase 1 (off := 34) (tgt := 72) e_X3_leanAs_38 (by decide) (by decide) (by decide) rfl (fun h38 => ?_) (fun h38_1 => ?_)
      · skip
        refine GG.iload e_X3_leanAs_72 0 rfl ?_
        refine GG.if_le (tgt := 84) e_X3_leanAs_74 rfl (fun h74 => ?_) (fun h74 => ?_)
        · skip
          refine GG.iload e_X3_leanAs_84 0 rfl ?_
          refine GG.iret e_X3_leanAs_86 rfl rfl ?_
          exact qI hQ (by simp_all [mLean, mPlain, mRem])
        · skip
          refine GG.iload e_X3_leanAs_77 0 rfl ?_
          refine GG.iconst (v := 1) e_X3_leanAs_79 rfl ?_
          refine GG.iadd e_X3_leanAs_80 ?_
          refine GG.goto (tgt := 86) e_X3_leanAs_81 rfl ?_
          refine GG.iret e_X3_leanAs_86 rfl rfl ?_
          exact qI hQ (by simp_all [mLean, mPlain, mRem])
      refine GG.tcase 2 (off := 49) (tgt := 87) e_X3_leanAs_38 (by decide) (by decide) (by decide) rfl (fun h38 => ?_) (fun h38_2 => ?_)
      · skip
        refine GG.iload e_X3_leanAs_87 0 rfl ?_
        refine GG.iconst (v := 2) e_X3_leanAs_89 rfl ?_
        refine GG.idiv e_X3_leanAs_90 (by decide) ?_
        refine GG.iret e_X3_leanAs_91 rfl rfl ?_
        exact qI hQ (by simp_all [mLean, mPlain, mRem])
      refine GG.tcase 3 (off := 54) (tgt := 92) e_X3_leanAs_38 (by decide) (by decide) (by decide) rfl (fun h38 => ?_) (fun h38_3 => ?_)
      · skip
        refine GG.iload_n e_X3_leanAs_92 (i := 2) rfl 4 rfl ?_
        refine GG.iconst (v := 3) e_X3_leanAs_93 rfl ?_
        refine GG.irem e_X3_leanAs_94 (by decide) ?_
        refine GG.if_ne (tgt := 102) e_X3_leanAs_95 rfl (fun h95 => ?_) (fun h95 => ?_)
        · skip
          refine GG.iload e_X3_leanAs_102 0 rfl ?_
          refine GG.iret e_X3_leanAs_104 rfl rfl ?_
          exact qI hQ (by simp_all [mLean, mPlain, mRem])
        · skip
          refine GG.iconst (v := 0) e_X3_leanAs_98 rfl ?_
          refine GG.goto (tgt := 104) e_X3_leanAs_99 rfl ?_
          refine GG.iret e_X3_leanAs_104 rfl rfl ?_
          exact qI hQ (by simp_all [mLean, mPlain, mRem])
      refine GG.tcase 4 (off := 34) (tgt := 72) e_X3_leanAs_38 (by decide) (by decide) (by decide) rfl (fun h38 => ?_) (fun h38_4 => ?_)
      · skip
        refine GG.iload e_X3_leanAs_72 0 rfl ?_
        refine GG.if_le (tgt := 84) e_X3_leanAs_74 rfl (fun h74 => ?_) (fun h74 => ?_)
        · skip
          refine GG.iload e_X3_leanAs_84 0 rfl ?_
          refine GG.iret e_X3_leanAs_86 rfl rfl ?_
          exact qI hQ (by simp_all [mLean, mPlain, mRem])
        · skip
          refine GG.iload e_X3_leanAs_77 0 rfl ?_
          refine GG.iconst (v := 1) e_X3_leanAs_79 rfl ?_
          refine GG.iadd e_X3_leanAs_80 ?_
          refine GG.goto (tgt := 86) e_X3_leanAs_81 rfl ?_
          refine GG.iret e_X3_leanAs_86 rfl rfl ?_
          exact qI hQ (by simp_all [mLean, mPlain, mRem])
      refine GG.tcase 5 (off := 67) (tgt := 105) e_X3_leanAs_38 (by decide) (by decide) (by decide) rfl (fun h38 => ?_) (fun h38_5 => ?_)
      · skip
        refine GG.iconst (v := 3) e_X3_leanAs_105 rfl ?_
        refine GG.iload e_X3_leanAs_106 0 rfl ?_
        refine GG.iconst (v := 2) e_X3_leanAs_108 rfl ?_
        refine GG.idiv e_X3_leanAs_109 (by decide) ?_
        refine GG.imul e_X3_leanAs_110 ?_
        refine GG.iret e_X3_leanAs_111 rfl rfl ?_
        exact qI hQ (by simp_all [mLean, mPlain, mRem])
      refine GG.tableOut (tgt := 112) e_X3_leanAs_38 (by have a1 := sw_n 1 (by decide) h38_1; have a2 := sw_n 2 (by decide) h38_2; have a3 := sw_n 3 (by decide) h38_3; have a4 := sw_n 4 (by decide) h38_4; have a5 := sw_n 5 (by decide) h38_5; omega) rfl ?_
      refine GG.iload e_X3_leanAs_112 0 rfl ?_
      refine GG.iret e_X3_leanAs_114 rfl rfl ?_
      exact qI hQ (by simp_all [mLean, mPlain, mRem])
