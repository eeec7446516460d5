/-! KINDS: how far one leans, how far one is damped; in class and reference the same -/
def mRem (x z : Int32) : Int32 := x - x / z * z
def mPlain (a c : Int32) : Int32 := if mRem c 4 = 1 then a else if mRem c 4 = 3 then -a else 0
def mLean (kind a c : Int32) : Int32 :=
  if kind = 1 then (if 0 < mPlain a c then mPlain a c + 1 else mPlain a c)
  else if kind = 2 then mPlain a c / 2
  else if kind = 3 then (if mRem c 3 = 0 then 0 else mPlain a c)
  else if kind = 4 then (if 0 < mPlain a (c + 1) then mPlain a (c + 1) + 1 else mPlain a (c + 1))
  else if kind = 5 then 3 * (mPlain a c / 2) else mPlain a c
def mOnce (x : Int32) : Int32 := if 2 < x then x - 2 else if 0 < x then 0 else x
def mDamp (kind x c : Int32) : Int32 :=
  if kind = 1 then (if 8 < x then x / 2 else mOnce x)
  else if kind = 2 then mOnce (mOnce x)
  else if kind = 3 then (if mRem c 2 = 0 then mOnce x else x)
  else if kind = 4 then (if mRem c 5 = 4 then x else if mRem c 2 = 0 then mOnce x else x)
  else if kind = 5 then (if mRem c 4 = 0 then 0 else mOnce (mOnce x)) else mOnce x
def mHas (s k : Int32) : Bool := decide ((s >>> (k &&& 31)) &&& 1 = 1)
theorem s_X10_outside {μ : gM} {Q : Option Value → gM → Prop} {v a b : Int32} (hQ : Q (some (.int (bI (decide (v < a ∨ b < v))))) μ) : SPC 0 MX10_outside [.int v, .int a, .int b] μ Q := by
  refine SPC.of (by decide +kernel) (Nat.le_of_ble_eq_true rfl) (ls := [(0, .int v), (1, .int a), (2, .int b)]) rfl ?_
  refine GG.iload_n e_X10_outside_0 (i := 0) rfl 0 rfl ?_
  refine GG.iload_n e_X10_outside_1 (i := 1) rfl 1 rfl ?_
  refine GG.icmp_lt (tgt := 10) e_X10_outside_2 rfl (fun h2 => ?_) (fun h2 => ?_)
  · skip
    refine GG.iconst (v := 1) e_X10_outside_10 rfl ?_
    refine GG.goto (tgt := 15) e_X10_outside_11 rfl ?_
    refine GG.zret e_X10_outside_15 rfl rfl rfl ?_
    exact qI hQ (by first | (simp_all [bI]; done) | grind [bI])
  · skip
    refine GG.iload_n e_X10_outside_5 (i := 0) rfl 0 rfl ?_
    refine GG.iload_n e_X10_outside_6 (i := 2) rfl 2 rfl ?_
    refine GG.icmp_le (tgt := 14) e_X10_outside_7 rfl (fun h7 => ?_) (fun h7 => ?_)
    · skip
      refine GG.iconst (v := 0) e_X10_outside_14 rfl ?_
      refine GG.zret e_X10_outside_15 rfl rfl rfl ?_
      exact qI hQ (by first | (simp_all [bI]; done) | grind [bI])
    · skip
      refine GG.iconst (v := 1) e_X10_outside_10 rfl ?_
      refine GG.goto (tgt := 15) e_X10_outside_11 rfl ?_
      refine GG.zret e_X10_outside_15 rfl rfl rfl ?_
      exact qI hQ (by first | (simp_all [bI]; done) | grind [bI])
theorem s_X11_in {μ : gM} {Q : Option Value → gM → Prop} {v a b : Int32} (hQ : Q (some (.int (bI (decide (a ≤ v ∧ v ≤ b))))) μ) : SPC 0 MX11_in [.int v, .int a, .int b] μ Q := by
  refine SPC.of (by decide +kernel) (Nat.le_of_ble_eq_true rfl) (ls := [(0, .int v), (1, .int a), (2, .int b)]) rfl ?_
  refine GG.iload_n e_X11_in_0 (i := 0) rfl 0 rfl ?_
  refine GG.iload_n e_X11_in_1 (i := 1) rfl 1 rfl ?_
  refine GG.icmp_lt (tgt := 14) e_X11_in_2 rfl (fun h2 => ?_) (fun h2 => ?_)
  · skip
    refine GG.iconst (v := 0) e_X11_in_14 rfl ?_
    refine GG.zret e_X11_in_15 rfl rfl rfl ?_
    exact qI hQ (by first | (simp_all [bI]; done) | grind [bI])
  · skip
    refine GG.iload_n e_X11_in_5 (i := 0) rfl 0 rfl ?_
    refine GG.iload_n e_X11_in_6 (i := 2) rfl 2 rfl ?_
    refine GG.icmp_gt (tgt := 14) e_X11_in_7 rfl (fun h7 => ?_) (fun h7 => ?_)
    · skip
      refine GG.iconst (v := 0) e_X11_in_14 rfl ?_
      refine GG.zret e_X11_in_15 rfl rfl rfl ?_
      exact qI hQ (by first | (simp_all [bI]; done) | grind [bI])
    · skip
      refine GG.iconst (v := 1) e_X11_in_10 rfl ?_
      refine GG.goto (tgt := 15) e_X11_in_11 rfl ?_
      refine GG.zret e_X11_in_15 rfl rfl rfl ?_
      exact qI hQ (by first | (simp_all [bI]; done) | grind [bI])
theorem s_X3_leanAs {μ : gM} {Q : Option Value → gM → Prop} {k a c : Int32} (hQ : Q (some (.int (mLean k a c))) μ) : SPC 0 MX3_leanAs [.int k, .int a, .int c] μ Q := by
  refine SPC.of (by decide +kernel) (Nat.le_of_ble_eq_true rfl) (ls := [(0, .int k), (1, .int a), (2, .int c)]) rfl ?_
  refine GG.iload_n e_X3_leanAs_0 (i := 0) rfl 0 rfl ?_
  refine GG.iconst (v := 4) e_X3_leanAs_1 rfl ?_
  refine GG.icmp_ne (tgt := 11) e_X3_leanAs_2 rfl (fun h2 => ?_) (fun h2 => ?_)
  · skip
    refine GG.iload_n e_X3_leanAs_11 (i := 2) rfl 2 rfl ?_
    refine GG.iconst (v := 4) e_X3_leanAs_12 rfl ?_
    refine GG.irem e_X3_leanAs_13 (by decide) ?_
    refine GG.istore_n e_X3_leanAs_14 (i := 3) rfl (Nat.le_of_ble_eq_true rfl) (ls' := [(3, .int _), (0, .int _), (1, .int _), (2, .int _)]) rfl ?_
    refine GG.iload_n e_X3_leanAs_15 (i := 3) rfl 0 rfl ?_
    refine GG.iconst (v := 1) e_X3_leanAs_16 rfl ?_
    refine GG.icmp_ne (tgt := 24) e_X3_leanAs_17 rfl (fun h17 => ?_) (fun h17 => ?_)
    · skip
      refine GG.iload_n e_X3_leanAs_24 (i := 3) rfl 0 rfl ?_
      refine GG.iconst (v := 3) e_X3_leanAs_25 rfl ?_
      refine GG.icmp_ne (tgt := 34) e_X3_leanAs_26 rfl (fun h26 => ?_) (fun h26 => ?_)
      · skip
        refine GG.iconst (v := 0) e_X3_leanAs_34 rfl ?_
        refine GG.istore e_X3_leanAs_35 (Nat.le_of_ble_eq_true rfl) (ls' := [(4, .int _), (3, .int _), (0, .int _), (1, .int _), (2, .int _)]) rfl ?_
        refine GG.iload_n e_X3_leanAs_37 (i := 0) rfl 2 rfl ?_
        refine GG.tcase 1 (off := 34) (tgt := 72) e_X3_leanAs_38 (by decide) (by decide) (by decide) rfl (fun h38 => ?_) (fun h38_1 => ?_)
        · skip
          refine GG.iload e_X3_leanAs_72 0 rfl ?_
          refine GG.if_le (tgt := 84) e_X3_leanAs_74 rfl (fun h74 => ?_) (fun h74 => ?_)
          · skip
            refine GG.iload e_X3_leanAs_84 0 rfl ?_
            refine GG.iret e_X3_leanAs_86 rfl rfl ?_
            exact qI hQ (by first | (simp_all [mLean, mPlain, mRem]; done) | grind [mLean, mPlain, mRem])
          · skip
            refine GG.iload e_X3_leanAs_77 0 rfl ?_
            refine GG.iconst (v := 1) e_X3_leanAs_79 rfl ?_
            refine GG.iadd e_X3_leanAs_80 ?_
            refine GG.goto (tgt := 86) e_X3_leanAs_81 rfl ?_
            refine GG.iret e_X3_leanAs_86 rfl rfl ?_
            exact qI hQ (by first | (simp_all [mLean, mPlain, mRem]; done) | grind [mLean, mPlain, mRem])
        refine GG.tcase 2 (off := 49) (tgt := 87) e_X3_leanAs_38 (by decide) (by decide) (by decide) rfl (fun h38 => ?_) (fun h38_2 => ?_)
        · skip
          refine GG.iload e_X3_leanAs_87 0 rfl ?_
          refine GG.iconst (v := 2) e_X3_leanAs_89 rfl ?_
          refine GG.idiv e_X3_leanAs_90 (by decide) ?_
          refine GG.iret e_X3_leanAs_91 rfl rfl ?_
          exact qI hQ (by first | (simp_all [mLean, mPlain, mRem]; done) | grind [mLean, mPlain, mRem])
        refine GG.tcase 3 (off := 54) (tgt := 92) e_X3_leanAs_38 (by decide) (by decide) (by decide) rfl (fun h38 => ?_) (fun h38_3 => ?_)
        · skip
          refine GG.iload_n e_X3_leanAs_92 (i := 2) rfl 4 rfl ?_
          refine GG.iconst (v := 3) e_X3_leanAs_93 rfl ?_
          refine GG.irem e_X3_leanAs_94 (by decide) ?_
          refine GG.if_ne (tgt := 102) e_X3_leanAs_95 rfl (fun h95 => ?_) (fun h95 => ?_)
          · skip
            refine GG.iload e_X3_leanAs_102 0 rfl ?_
            refine GG.iret e_X3_leanAs_104 rfl rfl ?_
            exact qI hQ (by first | (simp_all [mLean, mPlain, mRem]; done) | grind [mLean, mPlain, mRem])
          · skip
            refine GG.iconst (v := 0) e_X3_leanAs_98 rfl ?_
            refine GG.goto (tgt := 104) e_X3_leanAs_99 rfl ?_
            refine GG.iret e_X3_leanAs_104 rfl rfl ?_
            exact qI hQ (by first | (simp_all [mLean, mPlain, mRem]; done) | grind [mLean, mPlain, mRem])
        refine GG.tcase 4 (off := 34) (tgt := 72) e_X3_leanAs_38 (by decide) (by decide) (by decide) rfl (fun h38 => ?_) (fun h38_4 => ?_)
        · skip
          refine GG.iload e_X3_leanAs_72 0 rfl ?_
          refine GG.if_le (tgt := 84) e_X3_leanAs_74 rfl (fun h74 => ?_) (fun h74 => ?_)
          · skip
            refine GG.iload e_X3_leanAs_84 0 rfl ?_
            refine GG.iret e_X3_leanAs_86 rfl rfl ?_
            exact qI hQ (by first | (simp_all [mLean, mPlain, mRem]; done) | grind [mLean, mPlain, mRem])
          · skip
            refine GG.iload e_X3_leanAs_77 0 rfl ?_
            refine GG.iconst (v := 1) e_X3_leanAs_79 rfl ?_
            refine GG.iadd e_X3_leanAs_80 ?_
            refine GG.goto (tgt := 86) e_X3_leanAs_81 rfl ?_
            refine GG.iret e_X3_leanAs_86 rfl rfl ?_
            exact qI hQ (by first | (simp_all [mLean, mPlain, mRem]; done) | grind [mLean, mPlain, mRem])
        refine GG.tcase 5 (off := 67) (tgt := 105) e_X3_leanAs_38 (by decide) (by decide) (by decide) rfl (fun h38 => ?_) (fun h38_5 => ?_)
        · skip
          refine GG.iconst (v := 3) e_X3_leanAs_105 rfl ?_
          refine GG.iload e_X3_leanAs_106 0 rfl ?_
          refine GG.iconst (v := 2) e_X3_leanAs_108 rfl ?_
          refine GG.idiv e_X3_leanAs_109 (by decide) ?_
          refine GG.imul e_X3_leanAs_110 ?_
          refine GG.iret e_X3_leanAs_111 rfl rfl ?_
          exact qI hQ (by first | (simp_all [mLean, mPlain, mRem]; done) | grind [mLean, mPlain, mRem])
        refine GG.tableOut (tgt := 112) e_X3_leanAs_38 (by have a1 := sw_n 1 (by decide) h38_1; have a2 := sw_n 2 (by decide) h38_2; have a3 := sw_n 3 (by decide) h38_3; have a4 := sw_n 4 (by decide) h38_4; have a5 := sw_n 5 (by decide) h38_5; omega) rfl ?_
        refine GG.iload e_X3_leanAs_112 0 rfl ?_
        refine GG.iret e_X3_leanAs_114 rfl rfl ?_
        exact qI hQ (by first | (simp_all [mLean, mPlain, mRem]; done) | grind [mLean, mPlain, mRem])
      · skip
        refine GG.iload_n e_X3_leanAs_29 (i := 1) rfl 2 rfl ?_
        refine GG.ineg e_X3_leanAs_30 ?_
        refine GG.goto (tgt := 35) e_X3_leanAs_31 rfl ?_
        refine GG.istore e_X3_leanAs_35 (Nat.le_of_ble_eq_true rfl) (ls' := [(4, .int _), (3, .int _), (0, .int _), (1, .int _), (2, .int _)]) rfl ?_
        refine GG.iload_n e_X3_leanAs_37 (i := 0) rfl 2 rfl ?_
        refine GG.tcase 1 (off := 34) (tgt := 72) e_X3_leanAs_38 (by decide) (by decide) (by decide) rfl (fun h38 => ?_) (fun h38_1 => ?_)
        · skip
          refine GG.iload e_X3_leanAs_72 0 rfl ?_
          refine GG.if_le (tgt := 84) e_X3_leanAs_74 rfl (fun h74 => ?_) (fun h74 => ?_)
          · skip
            refine GG.iload e_X3_leanAs_84 0 rfl ?_
            refine GG.iret e_X3_leanAs_86 rfl rfl ?_
            exact qI hQ (by first | (simp_all [mLean, mPlain, mRem]; done) | grind [mLean, mPlain, mRem])
          · skip
            refine GG.iload e_X3_leanAs_77 0 rfl ?_
            refine GG.iconst (v := 1) e_X3_leanAs_79 rfl ?_
            refine GG.iadd e_X3_leanAs_80 ?_
            refine GG.goto (tgt := 86) e_X3_leanAs_81 rfl ?_
            refine GG.iret e_X3_leanAs_86 rfl rfl ?_
            exact qI hQ (by first | (simp_all [mLean, mPlain, mRem]; done) | grind [mLean, mPlain, mRem])
        refine GG.tcase 2 (off := 49) (tgt := 87) e_X3_leanAs_38 (by decide) (by decide) (by decide) rfl (fun h38 => ?_) (fun h38_2 => ?_)
        · skip
          refine GG.iload e_X3_leanAs_87 0 rfl ?_
          refine GG.iconst (v := 2) e_X3_leanAs_89 rfl ?_
          refine GG.idiv e_X3_leanAs_90 (by decide) ?_
          refine GG.iret e_X3_leanAs_91 rfl rfl ?_
          exact qI hQ (by first | (simp_all [mLean, mPlain, mRem]; done) | grind [mLean, mPlain, mRem])
        refine GG.tcase 3 (off := 54) (tgt := 92) e_X3_leanAs_38 (by decide) (by decide) (by decide) rfl (fun h38 => ?_) (fun h38_3 => ?_)
        · skip
          refine GG.iload_n e_X3_leanAs_92 (i := 2) rfl 4 rfl ?_
          refine GG.iconst (v := 3) e_X3_leanAs_93 rfl ?_
          refine GG.irem e_X3_leanAs_94 (by decide) ?_
          refine GG.if_ne (tgt := 102) e_X3_leanAs_95 rfl (fun h95 => ?_) (fun h95 => ?_)
          · skip
            refine GG.iload e_X3_leanAs_102 0 rfl ?_
            refine GG.iret e_X3_leanAs_104 rfl rfl ?_
            exact qI hQ (by first | (simp_all [mLean, mPlain, mRem]; done) | grind [mLean, mPlain, mRem])
          · skip
            refine GG.iconst (v := 0) e_X3_leanAs_98 rfl ?_
            refine GG.goto (tgt := 104) e_X3_leanAs_99 rfl ?_
            refine GG.iret e_X3_leanAs_104 rfl rfl ?_
            exact qI hQ (by first | (simp_all [mLean, mPlain, mRem]; done) | grind [mLean, mPlain, mRem])
        refine GG.tcase 4 (off := 34) (tgt := 72) e_X3_leanAs_38 (by decide) (by decide) (by decide) rfl (fun h38 => ?_) (fun h38_4 => ?_)
        · skip
          refine GG.iload e_X3_leanAs_72 0 rfl ?_
          refine GG.if_le (tgt := 84) e_X3_leanAs_74 rfl (fun h74 => ?_) (fun h74 => ?_)
          · skip
            refine GG.iload e_X3_leanAs_84 0 rfl ?_
            refine GG.iret e_X3_leanAs_86 rfl rfl ?_
            exact qI hQ (by first | (simp_all [mLean, mPlain, mRem]; done) | grind [mLean, mPlain, mRem])
          · skip
            refine GG.iload e_X3_leanAs_77 0 rfl ?_
            refine GG.iconst (v := 1) e_X3_leanAs_79 rfl ?_
            refine GG.iadd e_X3_leanAs_80 ?_
            refine GG.goto (tgt := 86) e_X3_leanAs_81 rfl ?_
            refine GG.iret e_X3_leanAs_86 rfl rfl ?_
            exact qI hQ (by first | (simp_all [mLean, mPlain, mRem]; done) | grind [mLean, mPlain, mRem])
        refine GG.tcase 5 (off := 67) (tgt := 105) e_X3_leanAs_38 (by decide) (by decide) (by decide) rfl (fun h38 => ?_) (fun h38_5 => ?_)
        · skip
          refine GG.iconst (v := 3) e_X3_leanAs_105 rfl ?_
          refine GG.iload e_X3_leanAs_106 0 rfl ?_
          refine GG.iconst (v := 2) e_X3_leanAs_108 rfl ?_
          refine GG.idiv e_X3_leanAs_109 (by decide) ?_
          refine GG.imul e_X3_leanAs_110 ?_
          refine GG.iret e_X3_leanAs_111 rfl rfl ?_
          exact qI hQ (by first | (simp_all [mLean, mPlain, mRem]; done) | grind [mLean, mPlain, mRem])
        refine GG.tableOut (tgt := 112) e_X3_leanAs_38 (by have a1 := sw_n 1 (by decide) h38_1; have a2 := sw_n 2 (by decide) h38_2; have a3 := sw_n 3 (by decide) h38_3; have a4 := sw_n 4 (by decide) h38_4; have a5 := sw_n 5 (by decide) h38_5; omega) rfl ?_
        refine GG.iload e_X3_leanAs_112 0 rfl ?_
        refine GG.iret e_X3_leanAs_114 rfl rfl ?_
        exact qI hQ (by first | (simp_all [mLean, mPlain, mRem]; done) | grind [mLean, mPlain, mRem])
    · skip
      refine GG.iload_n e_X3_leanAs_20 (i := 1) rfl 2 rfl ?_
      refine GG.goto (tgt := 35) e_X3_leanAs_21 rfl ?_
      refine GG.istore e_X3_leanAs_35 (Nat.le_of_ble_eq_true rfl) (ls' := [(4, .int _), (3, .int _), (0, .int _), (1, .int _), (2, .int _)]) rfl ?_
      refine GG.iload_n e_X3_leanAs_37 (i := 0) rfl 2 rfl ?_
      refine GG.tcase 1 (off := 34) (tgt := 72) e_X3_leanAs_38 (by decide) (by decide) (by decide) rfl (fun h38 => ?_) (fun h38_1 => ?_)
      · skip
        refine GG.iload e_X3_leanAs_72 0 rfl ?_
        refine GG.if_le (tgt := 84) e_X3_leanAs_74 rfl (fun h74 => ?_) (fun h74 => ?_)
        · skip
          refine GG.iload e_X3_leanAs_84 0 rfl ?_
          refine GG.iret e_X3_leanAs_86 rfl rfl ?_
          exact qI hQ (by first | (simp_all [mLean, mPlain, mRem]; done) | grind [mLean, mPlain, mRem])
        · skip
          refine GG.iload e_X3_leanAs_77 0 rfl ?_
          refine GG.iconst (v := 1) e_X3_leanAs_79 rfl ?_
          refine GG.iadd e_X3_leanAs_80 ?_
          refine GG.goto (tgt := 86) e_X3_leanAs_81 rfl ?_
          refine GG.iret e_X3_leanAs_86 rfl rfl ?_
          exact qI hQ (by first | (simp_all [mLean, mPlain, mRem]; done) | grind [mLean, mPlain, mRem])
      refine GG.tcase 2 (off := 49) (tgt := 87) e_X3_leanAs_38 (by decide) (by decide) (by decide) rfl (fun h38 => ?_) (fun h38_2 => ?_)
      · skip
        refine GG.iload e_X3_leanAs_87 0 rfl ?_
        refine GG.iconst (v := 2) e_X3_leanAs_89 rfl ?_
        refine GG.idiv e_X3_leanAs_90 (by decide) ?_
        refine GG.iret e_X3_leanAs_91 rfl rfl ?_
        exact qI hQ (by first | (simp_all [mLean, mPlain, mRem]; done) | grind [mLean, mPlain, mRem])
      refine GG.tcase 3 (off := 54) (tgt := 92) e_X3_leanAs_38 (by decide) (by decide) (by decide) rfl (fun h38 => ?_) (fun h38_3 => ?_)
      · skip
        refine GG.iload_n e_X3_leanAs_92 (i := 2) rfl 4 rfl ?_
        refine GG.iconst (v := 3) e_X3_leanAs_93 rfl ?_
        refine GG.irem e_X3_leanAs_94 (by decide) ?_
        refine GG.if_ne (tgt := 102) e_X3_leanAs_95 rfl (fun h95 => ?_) (fun h95 => ?_)
        · skip
          refine GG.iload e_X3_leanAs_102 0 rfl ?_
          refine GG.iret e_X3_leanAs_104 rfl rfl ?_
          exact qI hQ (by first | (simp_all [mLean, mPlain, mRem]; done) | grind [mLean, mPlain, mRem])
        · skip
          refine GG.iconst (v := 0) e_X3_leanAs_98 rfl ?_
          refine GG.goto (tgt := 104) e_X3_leanAs_99 rfl ?_
          refine GG.iret e_X3_leanAs_104 rfl rfl ?_
          exact qI hQ (by first | (simp_all [mLean, mPlain, mRem]; done) | grind [mLean, mPlain, mRem])
      refine GG.tcase 4 (off := 34) (tgt := 72) e_X3_leanAs_38 (by decide) (by decide) (by decide) rfl (fun h38 => ?_) (fun h38_4 => ?_)
      · skip
        refine GG.iload e_X3_leanAs_72 0 rfl ?_
        refine GG.if_le (tgt := 84) e_X3_leanAs_74 rfl (fun h74 => ?_) (fun h74 => ?_)
        · skip
          refine GG.iload e_X3_leanAs_84 0 rfl ?_
          refine GG.iret e_X3_leanAs_86 rfl rfl ?_
          exact qI hQ (by first | (simp_all [mLean, mPlain, mRem]; done) | grind [mLean, mPlain, mRem])
        · skip
          refine GG.iload e_X3_leanAs_77 0 rfl ?_
          refine GG.iconst (v := 1) e_X3_leanAs_79 rfl ?_
          refine GG.iadd e_X3_leanAs_80 ?_
          refine GG.goto (tgt := 86) e_X3_leanAs_81 rfl ?_
          refine GG.iret e_X3_leanAs_86 rfl rfl ?_
          exact qI hQ (by first | (simp_all [mLean, mPlain, mRem]; done) | grind [mLean, mPlain, mRem])
      refine GG.tcase 5 (off := 67) (tgt := 105) e_X3_leanAs_38 (by decide) (by decide) (by decide) rfl (fun h38 => ?_) (fun h38_5 => ?_)
      · skip
        refine GG.iconst (v := 3) e_X3_leanAs_105 rfl ?_
        refine GG.iload e_X3_leanAs_106 0 rfl ?_
        refine GG.iconst (v := 2) e_X3_leanAs_108 rfl ?_
        refine GG.idiv e_X3_leanAs_109 (by decide) ?_
        refine GG.imul e_X3_leanAs_110 ?_
        refine GG.iret e_X3_leanAs_111 rfl rfl ?_
        exact qI hQ (by first | (simp_all [mLean, mPlain, mRem]; done) | grind [mLean, mPlain, mRem])
      refine GG.tableOut (tgt := 112) e_X3_leanAs_38 (by have a1 := sw_n 1 (by decide) h38_1; have a2 := sw_n 2 (by decide) h38_2; have a3 := sw_n 3 (by decide) h38_3; have a4 := sw_n 4 (by decide) h38_4; have a5 := sw_n 5 (by decide) h38_5; omega) rfl ?_
      refine GG.iload e_X3_leanAs_112 0 rfl ?_
      refine GG.iret e_X3_leanAs_114 rfl rfl ?_
      exact qI hQ (by first | (simp_all [mLean, mPlain, mRem]; done) | grind [mLean, mPlain, mRem])
  · skip
    refine GG.iload_n e_X3_leanAs_5 (i := 2) rfl 2 rfl ?_
    refine GG.iconst (v := 1) e_X3_leanAs_6 rfl ?_
    refine GG.iadd e_X3_leanAs_7 ?_
    refine GG.goto (tgt := 12) e_X3_leanAs_8 rfl ?_
    refine GG.iconst (v := 4) e_X3_leanAs_12 rfl ?_
    refine GG.irem e_X3_leanAs_13 (by decide) ?_
    refine GG.istore_n e_X3_leanAs_14 (i := 3) rfl (Nat.le_of_ble_eq_true rfl) (ls' := [(3, .int _), (0, .int _), (1, .int _), (2, .int _)]) rfl ?_
    refine GG.iload_n e_X3_leanAs_15 (i := 3) rfl 0 rfl ?_
    refine GG.iconst (v := 1) e_X3_leanAs_16 rfl ?_
    refine GG.icmp_ne (tgt := 24) e_X3_leanAs_17 rfl (fun h17 => ?_) (fun h17 => ?_)
    · skip
      refine GG.iload_n e_X3_leanAs_24 (i := 3) rfl 0 rfl ?_
      refine GG.iconst (v := 3) e_X3_leanAs_25 rfl ?_
      refine GG.icmp_ne (tgt := 34) e_X3_leanAs_26 rfl (fun h26 => ?_) (fun h26 => ?_)
      · skip
        refine GG.iconst (v := 0) e_X3_leanAs_34 rfl ?_
        refine GG.istore e_X3_leanAs_35 (Nat.le_of_ble_eq_true rfl) (ls' := [(4, .int _), (3, .int _), (0, .int _), (1, .int _), (2, .int _)]) rfl ?_
        refine GG.iload_n e_X3_leanAs_37 (i := 0) rfl 2 rfl ?_
        refine GG.tcase 1 (off := 34) (tgt := 72) e_X3_leanAs_38 (by decide) (by decide) (by decide) rfl (fun h38 => ?_) (fun h38_1 => ?_)
        · skip
          refine GG.iload e_X3_leanAs_72 0 rfl ?_
          refine GG.if_le (tgt := 84) e_X3_leanAs_74 rfl (fun h74 => ?_) (fun h74 => ?_)
          · skip
            refine GG.iload e_X3_leanAs_84 0 rfl ?_
            refine GG.iret e_X3_leanAs_86 rfl rfl ?_
            exact qI hQ (by first | (simp_all [mLean, mPlain, mRem]; done) | grind [mLean, mPlain, mRem])
          · skip
            refine GG.iload e_X3_leanAs_77 0 rfl ?_
            refine GG.iconst (v := 1) e_X3_leanAs_79 rfl ?_
            refine GG.iadd e_X3_leanAs_80 ?_
            refine GG.goto (tgt := 86) e_X3_leanAs_81 rfl ?_
            refine GG.iret e_X3_leanAs_86 rfl rfl ?_
            exact qI hQ (by first | (simp_all [mLean, mPlain, mRem]; done) | grind [mLean, mPlain, mRem])
        refine GG.tcase 2 (off := 49) (tgt := 87) e_X3_leanAs_38 (by decide) (by decide) (by decide) rfl (fun h38 => ?_) (fun h38_2 => ?_)
        · skip
          refine GG.iload e_X3_leanAs_87 0 rfl ?_
          refine GG.iconst (v := 2) e_X3_leanAs_89 rfl ?_
          refine GG.idiv e_X3_leanAs_90 (by decide) ?_
          refine GG.iret e_X3_leanAs_91 rfl rfl ?_
          exact qI hQ (by first | (simp_all [mLean, mPlain, mRem]; done) | grind [mLean, mPlain, mRem])
        refine GG.tcase 3 (off := 54) (tgt := 92) e_X3_leanAs_38 (by decide) (by decide) (by decide) rfl (fun h38 => ?_) (fun h38_3 => ?_)
        · skip
          refine GG.iload_n e_X3_leanAs_92 (i := 2) rfl 4 rfl ?_
          refine GG.iconst (v := 3) e_X3_leanAs_93 rfl ?_
          refine GG.irem e_X3_leanAs_94 (by decide) ?_
          refine GG.if_ne (tgt := 102) e_X3_leanAs_95 rfl (fun h95 => ?_) (fun h95 => ?_)
          · skip
            refine GG.iload e_X3_leanAs_102 0 rfl ?_
            refine GG.iret e_X3_leanAs_104 rfl rfl ?_
            exact qI hQ (by first | (simp_all [mLean, mPlain, mRem]; done) | grind [mLean, mPlain, mRem])
          · skip
            refine GG.iconst (v := 0) e_X3_leanAs_98 rfl ?_
            refine GG.goto (tgt := 104) e_X3_leanAs_99 rfl ?_
            refine GG.iret e_X3_leanAs_104 rfl rfl ?_
            exact qI hQ (by first | (simp_all [mLean, mPlain, mRem]; done) | grind [mLean, mPlain, mRem])
        refine GG.tcase 4 (off := 34) (tgt := 72) e_X3_leanAs_38 (by decide) (by decide) (by decide) rfl (fun h38 => ?_) (fun h38_4 => ?_)
        · skip
          refine GG.iload e_X3_leanAs_72 0 rfl ?_
          refine GG.if_le (tgt := 84) e_X3_leanAs_74 rfl (fun h74 => ?_) (fun h74 => ?_)
          · skip
            refine GG.iload e_X3_leanAs_84 0 rfl ?_
            refine GG.iret e_X3_leanAs_86 rfl rfl ?_
            exact qI hQ (by first | (simp_all [mLean, mPlain, mRem]; done) | grind [mLean, mPlain, mRem])
          · skip
            refine GG.iload e_X3_leanAs_77 0 rfl ?_
            refine GG.iconst (v := 1) e_X3_leanAs_79 rfl ?_
            refine GG.iadd e_X3_leanAs_80 ?_
            refine GG.goto (tgt := 86) e_X3_leanAs_81 rfl ?_
            refine GG.iret e_X3_leanAs_86 rfl rfl ?_
            exact qI hQ (by first | (simp_all [mLean, mPlain, mRem]; done) | grind [mLean, mPlain, mRem])
        refine GG.tcase 5 (off := 67) (tgt := 105) e_X3_leanAs_38 (by decide) (by decide) (by decide) rfl (fun h38 => ?_) (fun h38_5 => ?_)
        · skip
          refine GG.iconst (v := 3) e_X3_leanAs_105 rfl ?_
          refine GG.iload e_X3_leanAs_106 0 rfl ?_
          refine GG.iconst (v := 2) e_X3_leanAs_108 rfl ?_
          refine GG.idiv e_X3_leanAs_109 (by decide) ?_
          refine GG.imul e_X3_leanAs_110 ?_
          refine GG.iret e_X3_leanAs_111 rfl rfl ?_
          exact qI hQ (by first | (simp_all [mLean, mPlain, mRem]; done) | grind [mLean, mPlain, mRem])
        refine GG.tableOut (tgt := 112) e_X3_leanAs_38 (by have a1 := sw_n 1 (by decide) h38_1; have a2 := sw_n 2 (by decide) h38_2; have a3 := sw_n 3 (by decide) h38_3; have a4 := sw_n 4 (by decide) h38_4; have a5 := sw_n 5 (by decide) h38_5; omega) rfl ?_
        refine GG.iload e_X3_leanAs_112 0 rfl ?_
        refine GG.iret e_X3_leanAs_114 rfl rfl ?_
        exact qI hQ (by first | (simp_all [mLean, mPlain, mRem]; done) | grind [mLean, mPlain, mRem])
      · skip
        refine GG.iload_n e_X3_leanAs_29 (i := 1) rfl 2 rfl ?_
        refine GG.ineg e_X3_leanAs_30 ?_
        refine GG.goto (tgt := 35) e_X3_leanAs_31 rfl ?_
        refine GG.istore e_X3_leanAs_35 (Nat.le_of_ble_eq_true rfl) (ls' := [(4, .int _), (3, .int _), (0, .int _), (1, .int _), (2, .int _)]) rfl ?_
        refine GG.iload_n e_X3_leanAs_37 (i := 0) rfl 2 rfl ?_
        refine GG.tcase 1 (off := 34) (tgt := 72) e_X3_leanAs_38 (by decide) (by decide) (by decide) rfl (fun h38 => ?_) (fun h38_1 => ?_)
        · skip
          refine GG.iload e_X3_leanAs_72 0 rfl ?_
          refine GG.if_le (tgt := 84) e_X3_leanAs_74 rfl (fun h74 => ?_) (fun h74 => ?_)
          · skip
            refine GG.iload e_X3_leanAs_84 0 rfl ?_
            refine GG.iret e_X3_leanAs_86 rfl rfl ?_
            exact qI hQ (by first | (simp_all [mLean, mPlain, mRem]; done) | grind [mLean, mPlain, mRem])
          · skip
            refine GG.iload e_X3_leanAs_77 0 rfl ?_
            refine GG.iconst (v := 1) e_X3_leanAs_79 rfl ?_
            refine GG.iadd e_X3_leanAs_80 ?_
            refine GG.goto (tgt := 86) e_X3_leanAs_81 rfl ?_
            refine GG.iret e_X3_leanAs_86 rfl rfl ?_
            exact qI hQ (by first | (simp_all [mLean, mPlain, mRem]; done) | grind [mLean, mPlain, mRem])
        refine GG.tcase 2 (off := 49) (tgt := 87) e_X3_leanAs_38 (by decide) (by decide) (by decide) rfl (fun h38 => ?_) (fun h38_2 => ?_)
        · skip
          refine GG.iload e_X3_leanAs_87 0 rfl ?_
          refine GG.iconst (v := 2) e_X3_leanAs_89 rfl ?_
          refine GG.idiv e_X3_leanAs_90 (by decide) ?_
          refine GG.iret e_X3_leanAs_91 rfl rfl ?_
          exact qI hQ (by first | (simp_all [mLean, mPlain, mRem]; done) | grind [mLean, mPlain, mRem])
        refine GG.tcase 3 (off := 54) (tgt := 92) e_X3_leanAs_38 (by decide) (by decide) (by decide) rfl (fun h38 => ?_) (fun h38_3 => ?_)
        · skip
          refine GG.iload_n e_X3_leanAs_92 (i := 2) rfl 4 rfl ?_
          refine GG.iconst (v := 3) e_X3_leanAs_93 rfl ?_
          refine GG.irem e_X3_leanAs_94 (by decide) ?_
          refine GG.if_ne (tgt := 102) e_X3_leanAs_95 rfl (fun h95 => ?_) (fun h95 => ?_)
          · skip
            refine GG.iload e_X3_leanAs_102 0 rfl ?_
            refine GG.iret e_X3_leanAs_104 rfl rfl ?_
            exact qI hQ (by first | (simp_all [mLean, mPlain, mRem]; done) | grind [mLean, mPlain, mRem])
          · skip
            refine GG.iconst (v := 0) e_X3_leanAs_98 rfl ?_
            refine GG.goto (tgt := 104) e_X3_leanAs_99 rfl ?_
            refine GG.iret e_X3_leanAs_104 rfl rfl ?_
            exact qI hQ (by first | (simp_all [mLean, mPlain, mRem]; done) | grind [mLean, mPlain, mRem])
        refine GG.tcase 4 (off := 34) (tgt := 72) e_X3_leanAs_38 (by decide) (by decide) (by decide) rfl (fun h38 => ?_) (fun h38_4 => ?_)
        · skip
          refine GG.iload e_X3_leanAs_72 0 rfl ?_
          refine GG.if_le (tgt := 84) e_X3_leanAs_74 rfl (fun h74 => ?_) (fun h74 => ?_)
          · skip
            refine GG.iload e_X3_leanAs_84 0 rfl ?_
            refine GG.iret e_X3_leanAs_86 rfl rfl ?_
            exact qI hQ (by first | (simp_all [mLean, mPlain, mRem]; done) | grind [mLean, mPlain, mRem])
          · skip
            refine GG.iload e_X3_leanAs_77 0 rfl ?_
            refine GG.iconst (v := 1) e_X3_leanAs_79 rfl ?_
            refine GG.iadd e_X3_leanAs_80 ?_
            refine GG.goto (tgt := 86) e_X3_leanAs_81 rfl ?_
            refine GG.iret e_X3_leanAs_86 rfl rfl ?_
            exact qI hQ (by first | (simp_all [mLean, mPlain, mRem]; done) | grind [mLean, mPlain, mRem])
        refine GG.tcase 5 (off := 67) (tgt := 105) e_X3_leanAs_38 (by decide) (by decide) (by decide) rfl (fun h38 => ?_) (fun h38_5 => ?_)
        · skip
          refine GG.iconst (v := 3) e_X3_leanAs_105 rfl ?_
          refine GG.iload e_X3_leanAs_106 0 rfl ?_
          refine GG.iconst (v := 2) e_X3_leanAs_108 rfl ?_
          refine GG.idiv e_X3_leanAs_109 (by decide) ?_
          refine GG.imul e_X3_leanAs_110 ?_
          refine GG.iret e_X3_leanAs_111 rfl rfl ?_
          exact qI hQ (by first | (simp_all [mLean, mPlain, mRem]; done) | grind [mLean, mPlain, mRem])
        refine GG.tableOut (tgt := 112) e_X3_leanAs_38 (by have a1 := sw_n 1 (by decide) h38_1; have a2 := sw_n 2 (by decide) h38_2; have a3 := sw_n 3 (by decide) h38_3; have a4 := sw_n 4 (by decide) h38_4; have a5 := sw_n 5 (by decide) h38_5; omega) rfl ?_
        refine GG.iload e_X3_leanAs_112 0 rfl ?_
        refine GG.iret e_X3_leanAs_114 rfl rfl ?_
        exact qI hQ (by first | (simp_all [mLean, mPlain, mRem]; done) | grind [mLean, mPlain, mRem])
    · skip
      refine GG.iload_n e_X3_leanAs_20 (i := 1) rfl 2 rfl ?_
      refine GG.goto (tgt := 35) e_X3_leanAs_21 rfl ?_
      refine GG.istore e_X3_leanAs_35 (Nat.le_of_ble_eq_true rfl) (ls' := [(4, .int _), (3, .int _), (0, .int _), (1, .int _), (2, .int _)]) rfl ?_
      refine GG.iload_n e_X3_leanAs_37 (i := 0) rfl 2 rfl ?_
      refine GG.tcase 1 (off := 34) (tgt := 72) e_X3_leanAs_38 (by decide) (by decide) (by decide) rfl (fun h38 => ?_) (fun h38_1 => ?_)
      · skip
        refine GG.iload e_X3_leanAs_72 0 rfl ?_
        refine GG.if_le (tgt := 84) e_X3_leanAs_74 rfl (fun h74 => ?_) (fun h74 => ?_)
        · skip
          refine GG.iload e_X3_leanAs_84 0 rfl ?_
          refine GG.iret e_X3_leanAs_86 rfl rfl ?_
          exact qI hQ (by first | (simp_all [mLean, mPlain, mRem]; done) | grind [mLean, mPlain, mRem])
        · skip
          refine GG.iload e_X3_leanAs_77 0 rfl ?_
          refine GG.iconst (v := 1) e_X3_leanAs_79 rfl ?_
          refine GG.iadd e_X3_leanAs_80 ?_
          refine GG.goto (tgt := 86) e_X3_leanAs_81 rfl ?_
          refine GG.iret e_X3_leanAs_86 rfl rfl ?_
          exact qI hQ (by first | (simp_all [mLean, mPlain, mRem]; done) | grind [mLean, mPlain, mRem])
      refine GG.tcase 2 (off := 49) (tgt := 87) e_X3_leanAs_38 (by decide) (by decide) (by decide) rfl (fun h38 => ?_) (fun h38_2 => ?_)
      · skip
        refine GG.iload e_X3_leanAs_87 0 rfl ?_
        refine GG.iconst (v := 2) e_X3_leanAs_89 rfl ?_
        refine GG.idiv e_X3_leanAs_90 (by decide) ?_
        refine GG.iret e_X3_leanAs_91 rfl rfl ?_
        exact qI hQ (by first | (simp_all [mLean, mPlain, mRem]; done) | grind [mLean, mPlain, mRem])
      refine GG.tcase 3 (off := 54) (tgt := 92) e_X3_leanAs_38 (by decide) (by decide) (by decide) rfl (fun h38 => ?_) (fun h38_3 => ?_)
      · skip
        refine GG.iload_n e_X3_leanAs_92 (i := 2) rfl 4 rfl ?_
        refine GG.iconst (v := 3) e_X3_leanAs_93 rfl ?_
        refine GG.irem e_X3_leanAs_94 (by decide) ?_
        refine GG.if_ne (tgt := 102) e_X3_leanAs_95 rfl (fun h95 => ?_) (fun h95 => ?_)
        · skip
          refine GG.iload e_X3_leanAs_102 0 rfl ?_
          refine GG.iret e_X3_leanAs_104 rfl rfl ?_
          exact qI hQ (by first | (simp_all [mLean, mPlain, mRem]; done) | grind [mLean, mPlain, mRem])
        · skip
          refine GG.iconst (v := 0) e_X3_leanAs_98 rfl ?_
          refine GG.goto (tgt := 104) e_X3_leanAs_99 rfl ?_
          refine GG.iret e_X3_leanAs_104 rfl rfl ?_
          exact qI hQ (by first | (simp_all [mLean, mPlain, mRem]; done) | grind [mLean, mPlain, mRem])
      refine GG.tcase 4 (off := 34) (tgt := 72) e_X3_leanAs_38 (by decide) (by decide) (by decide) rfl (fun h38 => ?_) (fun h38_4 => ?_)
      · skip
        refine GG.iload e_X3_leanAs_72 0 rfl ?_
        refine GG.if_le (tgt := 84) e_X3_leanAs_74 rfl (fun h74 => ?_) (fun h74 => ?_)
        · skip
          refine GG.iload e_X3_leanAs_84 0 rfl ?_
          refine GG.iret e_X3_leanAs_86 rfl rfl ?_
          exact qI hQ (by first | (simp_all [mLean, mPlain, mRem]; done) | grind [mLean, mPlain, mRem])
        · skip
          refine GG.iload e_X3_leanAs_77 0 rfl ?_
          refine GG.iconst (v := 1) e_X3_leanAs_79 rfl ?_
          refine GG.iadd e_X3_leanAs_80 ?_
          refine GG.goto (tgt := 86) e_X3_leanAs_81 rfl ?_
          refine GG.iret e_X3_leanAs_86 rfl rfl ?_
          exact qI hQ (by first | (simp_all [mLean, mPlain, mRem]; done) | grind [mLean, mPlain, mRem])
      refine GG.tcase 5 (off := 67) (tgt := 105) e_X3_leanAs_38 (by decide) (by decide) (by decide) rfl (fun h38 => ?_) (fun h38_5 => ?_)
      · skip
        refine GG.iconst (v := 3) e_X3_leanAs_105 rfl ?_
        refine GG.iload e_X3_leanAs_106 0 rfl ?_
        refine GG.iconst (v := 2) e_X3_leanAs_108 rfl ?_
        refine GG.idiv e_X3_leanAs_109 (by decide) ?_
        refine GG.imul e_X3_leanAs_110 ?_
        refine GG.iret e_X3_leanAs_111 rfl rfl ?_
        exact qI hQ (by first | (simp_all [mLean, mPlain, mRem]; done) | grind [mLean, mPlain, mRem])
      refine GG.tableOut (tgt := 112) e_X3_leanAs_38 (by have a1 := sw_n 1 (by decide) h38_1; have a2 := sw_n 2 (by decide) h38_2; have a3 := sw_n 3 (by decide) h38_3; have a4 := sw_n 4 (by decide) h38_4; have a5 := sw_n 5 (by decide) h38_5; omega) rfl ?_
      refine GG.iload e_X3_leanAs_112 0 rfl ?_
      refine GG.iret e_X3_leanAs_114 rfl rfl ?_
      exact qI hQ (by first | (simp_all [mLean, mPlain, mRem]; done) | grind [mLean, mPlain, mRem])
theorem s_X11_leansBy {μ : gM} {Q : Option Value → gM → Prop} {k a c : Int32} (hQ : Q (some (.int (mLean k a c))) μ) : SPC 0 MX11_leansBy [.int k, .int a, .int c] μ Q := by
  refine SPC.of (by decide +kernel) (Nat.le_of_ble_eq_true rfl) (ls := [(0, .int k), (1, .int a), (2, .int c)]) rfl ?_
  refine GG.iload_n e_X11_leansBy_0 (i := 0) rfl 0 rfl ?_
  refine GG.iconst (v := 4) e_X11_leansBy_1 rfl ?_
  refine GG.icmp_ne (tgt := 11) e_X11_leansBy_2 rfl (fun h2 => ?_) (fun h2 => ?_)
  · skip
    refine GG.iload_n e_X11_leansBy_11 (i := 2) rfl 2 rfl ?_
    refine GG.istore_n e_X11_leansBy_12 (i := 3) rfl (Nat.le_of_ble_eq_true rfl) (ls' := [(3, .int _), (0, .int _), (1, .int _), (2, .int _)]) rfl ?_
    refine GG.iload_n e_X11_leansBy_13 (i := 3) rfl 0 rfl ?_
    refine GG.iconst (v := 4) e_X11_leansBy_14 rfl ?_
    refine GG.irem e_X11_leansBy_15 (by decide) ?_
    refine GG.iconst (v := 1) e_X11_leansBy_16 rfl ?_
    refine GG.icmp_ne (tgt := 24) e_X11_leansBy_17 rfl (fun h17 => ?_) (fun h17 => ?_)
    · skip
      refine GG.iload_n e_X11_leansBy_24 (i := 3) rfl 0 rfl ?_
      refine GG.iconst (v := 4) e_X11_leansBy_25 rfl ?_
      refine GG.irem e_X11_leansBy_26 (by decide) ?_
      refine GG.iconst (v := 3) e_X11_leansBy_27 rfl ?_
      refine GG.icmp_ne (tgt := 36) e_X11_leansBy_28 rfl (fun h28 => ?_) (fun h28 => ?_)
      · skip
        refine GG.iconst (v := 0) e_X11_leansBy_36 rfl ?_
        refine GG.istore e_X11_leansBy_37 (Nat.le_of_ble_eq_true rfl) (ls' := [(4, .int _), (3, .int _), (0, .int _), (1, .int _), (2, .int _)]) rfl ?_
        refine GG.iload_n e_X11_leansBy_39 (i := 0) rfl 2 rfl ?_
        refine GG.tcase 1 (off := 36) (tgt := 76) e_X11_leansBy_40 (by decide) (by decide) (by decide) rfl (fun h40 => ?_) (fun h40_1 => ?_)
        · skip
          refine GG.iload e_X11_leansBy_76 0 rfl ?_
          refine GG.if_le (tgt := 88) e_X11_leansBy_78 rfl (fun h78 => ?_) (fun h78 => ?_)
          · skip
            refine GG.iload e_X11_leansBy_88 0 rfl ?_
            refine GG.iret e_X11_leansBy_90 rfl rfl ?_
            exact qI hQ (by first | (simp_all [mLean, mPlain, mRem]; done) | grind [mLean, mPlain, mRem])
          · skip
            refine GG.iload e_X11_leansBy_81 0 rfl ?_
            refine GG.iconst (v := 1) e_X11_leansBy_83 rfl ?_
            refine GG.iadd e_X11_leansBy_84 ?_
            refine GG.goto (tgt := 90) e_X11_leansBy_85 rfl ?_
            refine GG.iret e_X11_leansBy_90 rfl rfl ?_
            exact qI hQ (by first | (simp_all [mLean, mPlain, mRem]; done) | grind [mLean, mPlain, mRem])
        refine GG.tcase 2 (off := 51) (tgt := 91) e_X11_leansBy_40 (by decide) (by decide) (by decide) rfl (fun h40 => ?_) (fun h40_2 => ?_)
        · skip
          refine GG.iload e_X11_leansBy_91 0 rfl ?_
          refine GG.iconst (v := 2) e_X11_leansBy_93 rfl ?_
          refine GG.idiv e_X11_leansBy_94 (by decide) ?_
          refine GG.iret e_X11_leansBy_95 rfl rfl ?_
          exact qI hQ (by first | (simp_all [mLean, mPlain, mRem]; done) | grind [mLean, mPlain, mRem])
        refine GG.tcase 3 (off := 56) (tgt := 96) e_X11_leansBy_40 (by decide) (by decide) (by decide) rfl (fun h40 => ?_) (fun h40_3 => ?_)
        · skip
          refine GG.iload_n e_X11_leansBy_96 (i := 2) rfl 4 rfl ?_
          refine GG.iconst (v := 3) e_X11_leansBy_97 rfl ?_
          refine GG.irem e_X11_leansBy_98 (by decide) ?_
          refine GG.if_ne (tgt := 106) e_X11_leansBy_99 rfl (fun h99 => ?_) (fun h99 => ?_)
          · skip
            refine GG.iload e_X11_leansBy_106 0 rfl ?_
            refine GG.iret e_X11_leansBy_108 rfl rfl ?_
            exact qI hQ (by first | (simp_all [mLean, mPlain, mRem]; done) | grind [mLean, mPlain, mRem])
          · skip
            refine GG.iconst (v := 0) e_X11_leansBy_102 rfl ?_
            refine GG.goto (tgt := 108) e_X11_leansBy_103 rfl ?_
            refine GG.iret e_X11_leansBy_108 rfl rfl ?_
            exact qI hQ (by first | (simp_all [mLean, mPlain, mRem]; done) | grind [mLean, mPlain, mRem])
        refine GG.tcase 4 (off := 36) (tgt := 76) e_X11_leansBy_40 (by decide) (by decide) (by decide) rfl (fun h40 => ?_) (fun h40_4 => ?_)
        · skip
          refine GG.iload e_X11_leansBy_76 0 rfl ?_
          refine GG.if_le (tgt := 88) e_X11_leansBy_78 rfl (fun h78 => ?_) (fun h78 => ?_)
          · skip
            refine GG.iload e_X11_leansBy_88 0 rfl ?_
            refine GG.iret e_X11_leansBy_90 rfl rfl ?_
            exact qI hQ (by first | (simp_all [mLean, mPlain, mRem]; done) | grind [mLean, mPlain, mRem])
          · skip
            refine GG.iload e_X11_leansBy_81 0 rfl ?_
            refine GG.iconst (v := 1) e_X11_leansBy_83 rfl ?_
            refine GG.iadd e_X11_leansBy_84 ?_
            refine GG.goto (tgt := 90) e_X11_leansBy_85 rfl ?_
            refine GG.iret e_X11_leansBy_90 rfl rfl ?_
            exact qI hQ (by first | (simp_all [mLean, mPlain, mRem]; done) | grind [mLean, mPlain, mRem])
        refine GG.tcase 5 (off := 69) (tgt := 109) e_X11_leansBy_40 (by decide) (by decide) (by decide) rfl (fun h40 => ?_) (fun h40_5 => ?_)
        · skip
          refine GG.iconst (v := 3) e_X11_leansBy_109 rfl ?_
          refine GG.iload e_X11_leansBy_110 0 rfl ?_
          refine GG.iconst (v := 2) e_X11_leansBy_112 rfl ?_
          refine GG.idiv e_X11_leansBy_113 (by decide) ?_
          refine GG.imul e_X11_leansBy_114 ?_
          refine GG.iret e_X11_leansBy_115 rfl rfl ?_
          exact qI hQ (by first | (simp_all [mLean, mPlain, mRem]; done) | grind [mLean, mPlain, mRem])
        refine GG.tableOut (tgt := 116) e_X11_leansBy_40 (by have a1 := sw_n 1 (by decide) h40_1; have a2 := sw_n 2 (by decide) h40_2; have a3 := sw_n 3 (by decide) h40_3; have a4 := sw_n 4 (by decide) h40_4; have a5 := sw_n 5 (by decide) h40_5; omega) rfl ?_
        refine GG.iload e_X11_leansBy_116 0 rfl ?_
        refine GG.iret e_X11_leansBy_118 rfl rfl ?_
        exact qI hQ (by first | (simp_all [mLean, mPlain, mRem]; done) | grind [mLean, mPlain, mRem])
      · skip
        refine GG.iload_n e_X11_leansBy_31 (i := 1) rfl 2 rfl ?_
        refine GG.ineg e_X11_leansBy_32 ?_
        refine GG.goto (tgt := 37) e_X11_leansBy_33 rfl ?_
        refine GG.istore e_X11_leansBy_37 (Nat.le_of_ble_eq_true rfl) (ls' := [(4, .int _), (3, .int _), (0, .int _), (1, .int _), (2, .int _)]) rfl ?_
        refine GG.iload_n e_X11_leansBy_39 (i := 0) rfl 2 rfl ?_
        refine GG.tcase 1 (off := 36) (tgt := 76) e_X11_leansBy_40 (by decide) (by decide) (by decide) rfl (fun h40 => ?_) (fun h40_1 => ?_)
        · skip
          refine GG.iload e_X11_leansBy_76 0 rfl ?_
          refine GG.if_le (tgt := 88) e_X11_leansBy_78 rfl (fun h78 => ?_) (fun h78 => ?_)
          · skip
            refine GG.iload e_X11_leansBy_88 0 rfl ?_
            refine GG.iret e_X11_leansBy_90 rfl rfl ?_
            exact qI hQ (by first | (simp_all [mLean, mPlain, mRem]; done) | grind [mLean, mPlain, mRem])
          · skip
            refine GG.iload e_X11_leansBy_81 0 rfl ?_
            refine GG.iconst (v := 1) e_X11_leansBy_83 rfl ?_
            refine GG.iadd e_X11_leansBy_84 ?_
            refine GG.goto (tgt := 90) e_X11_leansBy_85 rfl ?_
            refine GG.iret e_X11_leansBy_90 rfl rfl ?_
            exact qI hQ (by first | (simp_all [mLean, mPlain, mRem]; done) | grind [mLean, mPlain, mRem])
        refine GG.tcase 2 (off := 51) (tgt := 91) e_X11_leansBy_40 (by decide) (by decide) (by decide) rfl (fun h40 => ?_) (fun h40_2 => ?_)
        · skip
          refine GG.iload e_X11_leansBy_91 0 rfl ?_
          refine GG.iconst (v := 2) e_X11_leansBy_93 rfl ?_
          refine GG.idiv e_X11_leansBy_94 (by decide) ?_
          refine GG.iret e_X11_leansBy_95 rfl rfl ?_
          exact qI hQ (by first | (simp_all [mLean, mPlain, mRem]; done) | grind [mLean, mPlain, mRem])
        refine GG.tcase 3 (off := 56) (tgt := 96) e_X11_leansBy_40 (by decide) (by decide) (by decide) rfl (fun h40 => ?_) (fun h40_3 => ?_)
        · skip
          refine GG.iload_n e_X11_leansBy_96 (i := 2) rfl 4 rfl ?_
          refine GG.iconst (v := 3) e_X11_leansBy_97 rfl ?_
          refine GG.irem e_X11_leansBy_98 (by decide) ?_
          refine GG.if_ne (tgt := 106) e_X11_leansBy_99 rfl (fun h99 => ?_) (fun h99 => ?_)
          · skip
            refine GG.iload e_X11_leansBy_106 0 rfl ?_
            refine GG.iret e_X11_leansBy_108 rfl rfl ?_
            exact qI hQ (by first | (simp_all [mLean, mPlain, mRem]; done) | grind [mLean, mPlain, mRem])
          · skip
            refine GG.iconst (v := 0) e_X11_leansBy_102 rfl ?_
            refine GG.goto (tgt := 108) e_X11_leansBy_103 rfl ?_
            refine GG.iret e_X11_leansBy_108 rfl rfl ?_
            exact qI hQ (by first | (simp_all [mLean, mPlain, mRem]; done) | grind [mLean, mPlain, mRem])
        refine GG.tcase 4 (off := 36) (tgt := 76) e_X11_leansBy_40 (by decide) (by decide) (by decide) rfl (fun h40 => ?_) (fun h40_4 => ?_)
        · skip
          refine GG.iload e_X11_leansBy_76 0 rfl ?_
          refine GG.if_le (tgt := 88) e_X11_leansBy_78 rfl (fun h78 => ?_) (fun h78 => ?_)
          · skip
            refine GG.iload e_X11_leansBy_88 0 rfl ?_
            refine GG.iret e_X11_leansBy_90 rfl rfl ?_
            exact qI hQ (by first | (simp_all [mLean, mPlain, mRem]; done) | grind [mLean, mPlain, mRem])
          · skip
            refine GG.iload e_X11_leansBy_81 0 rfl ?_
            refine GG.iconst (v := 1) e_X11_leansBy_83 rfl ?_
            refine GG.iadd e_X11_leansBy_84 ?_
            refine GG.goto (tgt := 90) e_X11_leansBy_85 rfl ?_
            refine GG.iret e_X11_leansBy_90 rfl rfl ?_
            exact qI hQ (by first | (simp_all [mLean, mPlain, mRem]; done) | grind [mLean, mPlain, mRem])
        refine GG.tcase 5 (off := 69) (tgt := 109) e_X11_leansBy_40 (by decide) (by decide) (by decide) rfl (fun h40 => ?_) (fun h40_5 => ?_)
        · skip
          refine GG.iconst (v := 3) e_X11_leansBy_109 rfl ?_
          refine GG.iload e_X11_leansBy_110 0 rfl ?_
          refine GG.iconst (v := 2) e_X11_leansBy_112 rfl ?_
          refine GG.idiv e_X11_leansBy_113 (by decide) ?_
          refine GG.imul e_X11_leansBy_114 ?_
          refine GG.iret e_X11_leansBy_115 rfl rfl ?_
          exact qI hQ (by first | (simp_all [mLean, mPlain, mRem]; done) | grind [mLean, mPlain, mRem])
        refine GG.tableOut (tgt := 116) e_X11_leansBy_40 (by have a1 := sw_n 1 (by decide) h40_1; have a2 := sw_n 2 (by decide) h40_2; have a3 := sw_n 3 (by decide) h40_3; have a4 := sw_n 4 (by decide) h40_4; have a5 := sw_n 5 (by decide) h40_5; omega) rfl ?_
        refine GG.iload e_X11_leansBy_116 0 rfl ?_
        refine GG.iret e_X11_leansBy_118 rfl rfl ?_
        exact qI hQ (by first | (simp_all [mLean, mPlain, mRem]; done) | grind [mLean, mPlain, mRem])
    · skip
      refine GG.iload_n e_X11_leansBy_20 (i := 1) rfl 2 rfl ?_
      refine GG.goto (tgt := 37) e_X11_leansBy_21 rfl ?_
      refine GG.istore e_X11_leansBy_37 (Nat.le_of_ble_eq_true rfl) (ls' := [(4, .int _), (3, .int _), (0, .int _), (1, .int _), (2, .int _)]) rfl ?_
      refine GG.iload_n e_X11_leansBy_39 (i := 0) rfl 2 rfl ?_
      refine GG.tcase 1 (off := 36) (tgt := 76) e_X11_leansBy_40 (by decide) (by decide) (by decide) rfl (fun h40 => ?_) (fun h40_1 => ?_)
      · skip
        refine GG.iload e_X11_leansBy_76 0 rfl ?_
        refine GG.if_le (tgt := 88) e_X11_leansBy_78 rfl (fun h78 => ?_) (fun h78 => ?_)
        · skip
          refine GG.iload e_X11_leansBy_88 0 rfl ?_
          refine GG.iret e_X11_leansBy_90 rfl rfl ?_
          exact qI hQ (by first | (simp_all [mLean, mPlain, mRem]; done) | grind [mLean, mPlain, mRem])
        · skip
          refine GG.iload e_X11_leansBy_81 0 rfl ?_
          refine GG.iconst (v := 1) e_X11_leansBy_83 rfl ?_
          refine GG.iadd e_X11_leansBy_84 ?_
          refine GG.goto (tgt := 90) e_X11_leansBy_85 rfl ?_
          refine GG.iret e_X11_leansBy_90 rfl rfl ?_
          exact qI hQ (by first | (simp_all [mLean, mPlain, mRem]; done) | grind [mLean, mPlain, mRem])
      refine GG.tcase 2 (off := 51) (tgt := 91) e_X11_leansBy_40 (by decide) (by decide) (by decide) rfl (fun h40 => ?_) (fun h40_2 => ?_)
      · skip
        refine GG.iload e_X11_leansBy_91 0 rfl ?_
        refine GG.iconst (v := 2) e_X11_leansBy_93 rfl ?_
        refine GG.idiv e_X11_leansBy_94 (by decide) ?_
        refine GG.iret e_X11_leansBy_95 rfl rfl ?_
        exact qI hQ (by first | (simp_all [mLean, mPlain, mRem]; done) | grind [mLean, mPlain, mRem])
      refine GG.tcase 3 (off := 56) (tgt := 96) e_X11_leansBy_40 (by decide) (by decide) (by decide) rfl (fun h40 => ?_) (fun h40_3 => ?_)
      · skip
        refine GG.iload_n e_X11_leansBy_96 (i := 2) rfl 4 rfl ?_
        refine GG.iconst (v := 3) e_X11_leansBy_97 rfl ?_
        refine GG.irem e_X11_leansBy_98 (by decide) ?_
        refine GG.if_ne (tgt := 106) e_X11_leansBy_99 rfl (fun h99 => ?_) (fun h99 => ?_)
        · skip
          refine GG.iload e_X11_leansBy_106 0 rfl ?_
          refine GG.iret e_X11_leansBy_108 rfl rfl ?_
          exact qI hQ (by first | (simp_all [mLean, mPlain, mRem]; done) | grind [mLean, mPlain, mRem])
        · skip
          refine GG.iconst (v := 0) e_X11_leansBy_102 rfl ?_
          refine GG.goto (tgt := 108) e_X11_leansBy_103 rfl ?_
          refine GG.iret e_X11_leansBy_108 rfl rfl ?_
          exact qI hQ (by first | (simp_all [mLean, mPlain, mRem]; done) | grind [mLean, mPlain, mRem])
      refine GG.tcase 4 (off := 36) (tgt := 76) e_X11_leansBy_40 (by decide) (by decide) (by decide) rfl (fun h40 => ?_) (fun h40_4 => ?_)
      · skip
        refine GG.iload e_X11_leansBy_76 0 rfl ?_
        refine GG.if_le (tgt := 88) e_X11_leansBy_78 rfl (fun h78 => ?_) (fun h78 => ?_)
        · skip
          refine GG.iload e_X11_leansBy_88 0 rfl ?_
          refine GG.iret e_X11_leansBy_90 rfl rfl ?_
          exact qI hQ (by first | (simp_all [mLean, mPlain, mRem]; done) | grind [mLean, mPlain, mRem])
        · skip
          refine GG.iload e_X11_leansBy_81 0 rfl ?_
          refine GG.iconst (v := 1) e_X11_leansBy_83 rfl ?_
          refine GG.iadd e_X11_leansBy_84 ?_
          refine GG.goto (tgt := 90) e_X11_leansBy_85 rfl ?_
          refine GG.iret e_X11_leansBy_90 rfl rfl ?_
          exact qI hQ (by first | (simp_all [mLean, mPlain, mRem]; done) | grind [mLean, mPlain, mRem])
      refine GG.tcase 5 (off := 69) (tgt := 109) e_X11_leansBy_40 (by decide) (by decide) (by decide) rfl (fun h40 => ?_) (fun h40_5 => ?_)
      · skip
        refine GG.iconst (v := 3) e_X11_leansBy_109 rfl ?_
        refine GG.iload e_X11_leansBy_110 0 rfl ?_
        refine GG.iconst (v := 2) e_X11_leansBy_112 rfl ?_
        refine GG.idiv e_X11_leansBy_113 (by decide) ?_
        refine GG.imul e_X11_leansBy_114 ?_
        refine GG.iret e_X11_leansBy_115 rfl rfl ?_
        exact qI hQ (by first | (simp_all [mLean, mPlain, mRem]; done) | grind [mLean, mPlain, mRem])
      refine GG.tableOut (tgt := 116) e_X11_leansBy_40 (by have a1 := sw_n 1 (by decide) h40_1; have a2 := sw_n 2 (by decide) h40_2; have a3 := sw_n 3 (by decide) h40_3; have a4 := sw_n 4 (by decide) h40_4; have a5 := sw_n 5 (by decide) h40_5; omega) rfl ?_
      refine GG.iload e_X11_leansBy_116 0 rfl ?_
      refine GG.iret e_X11_leansBy_118 rfl rfl ?_
      exact qI hQ (by first | (simp_all [mLean, mPlain, mRem]; done) | grind [mLean, mPlain, mRem])
  · skip
    refine GG.iload_n e_X11_leansBy_5 (i := 2) rfl 2 rfl ?_
    refine GG.iconst (v := 1) e_X11_leansBy_6 rfl ?_
    refine GG.iadd e_X11_leansBy_7 ?_
    refine GG.goto (tgt := 12) e_X11_leansBy_8 rfl ?_
    refine GG.istore_n e_X11_leansBy_12 (i := 3) rfl (Nat.le_of_ble_eq_true rfl) (ls' := [(3, .int _), (0, .int _), (1, .int _), (2, .int _)]) rfl ?_
    refine GG.iload_n e_X11_leansBy_13 (i := 3) rfl 0 rfl ?_
    refine GG.iconst (v := 4) e_X11_leansBy_14 rfl ?_
    refine GG.irem e_X11_leansBy_15 (by decide) ?_
    refine GG.iconst (v := 1) e_X11_leansBy_16 rfl ?_
    refine GG.icmp_ne (tgt := 24) e_X11_leansBy_17 rfl (fun h17 => ?_) (fun h17 => ?_)
    · skip
      refine GG.iload_n e_X11_leansBy_24 (i := 3) rfl 0 rfl ?_
      refine GG.iconst (v := 4) e_X11_leansBy_25 rfl ?_
      refine GG.irem e_X11_leansBy_26 (by decide) ?_
      refine GG.iconst (v := 3) e_X11_leansBy_27 rfl ?_
      refine GG.icmp_ne (tgt := 36) e_X11_leansBy_28 rfl (fun h28 => ?_) (fun h28 => ?_)
      · skip
        refine GG.iconst (v := 0) e_X11_leansBy_36 rfl ?_
        refine GG.istore e_X11_leansBy_37 (Nat.le_of_ble_eq_true rfl) (ls' := [(4, .int _), (3, .int _), (0, .int _), (1, .int _), (2, .int _)]) rfl ?_
        refine GG.iload_n e_X11_leansBy_39 (i := 0) rfl 2 rfl ?_
        refine GG.tcase 1 (off := 36) (tgt := 76) e_X11_leansBy_40 (by decide) (by decide) (by decide) rfl (fun h40 => ?_) (fun h40_1 => ?_)
        · skip
          refine GG.iload e_X11_leansBy_76 0 rfl ?_
          refine GG.if_le (tgt := 88) e_X11_leansBy_78 rfl (fun h78 => ?_) (fun h78 => ?_)
          · skip
            refine GG.iload e_X11_leansBy_88 0 rfl ?_
            refine GG.iret e_X11_leansBy_90 rfl rfl ?_
            exact qI hQ (by first | (simp_all [mLean, mPlain, mRem]; done) | grind [mLean, mPlain, mRem])
          · skip
            refine GG.iload e_X11_leansBy_81 0 rfl ?_
            refine GG.iconst (v := 1) e_X11_leansBy_83 rfl ?_
            refine GG.iadd e_X11_leansBy_84 ?_
            refine GG.goto (tgt := 90) e_X11_leansBy_85 rfl ?_
            refine GG.iret e_X11_leansBy_90 rfl rfl ?_
            exact qI hQ (by first | (simp_all [mLean, mPlain, mRem]; done) | grind [mLean, mPlain, mRem])
        refine GG.tcase 2 (off := 51) (tgt := 91) e_X11_leansBy_40 (by decide) (by decide) (by decide) rfl (fun h40 => ?_) (fun h40_2 => ?_)
        · skip
          refine GG.iload e_X11_leansBy_91 0 rfl ?_
          refine GG.iconst (v := 2) e_X11_leansBy_93 rfl ?_
          refine GG.idiv e_X11_leansBy_94 (by decide) ?_
          refine GG.iret e_X11_leansBy_95 rfl rfl ?_
          exact qI hQ (by first | (simp_all [mLean, mPlain, mRem]; done) | grind [mLean, mPlain, mRem])
        refine GG.tcase 3 (off := 56) (tgt := 96) e_X11_leansBy_40 (by decide) (by decide) (by decide) rfl (fun h40 => ?_) (fun h40_3 => ?_)
        · skip
          refine GG.iload_n e_X11_leansBy_96 (i := 2) rfl 4 rfl ?_
          refine GG.iconst (v := 3) e_X11_leansBy_97 rfl ?_
          refine GG.irem e_X11_leansBy_98 (by decide) ?_
          refine GG.if_ne (tgt := 106) e_X11_leansBy_99 rfl (fun h99 => ?_) (fun h99 => ?_)
          · skip
            refine GG.iload e_X11_leansBy_106 0 rfl ?_
            refine GG.iret e_X11_leansBy_108 rfl rfl ?_
            exact qI hQ (by first | (simp_all [mLean, mPlain, mRem]; done) | grind [mLean, mPlain, mRem])
          · skip
            refine GG.iconst (v := 0) e_X11_leansBy_102 rfl ?_
            refine GG.goto (tgt := 108) e_X11_leansBy_103 rfl ?_
            refine GG.iret e_X11_leansBy_108 rfl rfl ?_
            exact qI hQ (by first | (simp_all [mLean, mPlain, mRem]; done) | grind [mLean, mPlain, mRem])
        refine GG.tcase 4 (off := 36) (tgt := 76) e_X11_leansBy_40 (by decide) (by decide) (by decide) rfl (fun h40 => ?_) (fun h40_4 => ?_)
        · skip
          refine GG.iload e_X11_leansBy_76 0 rfl ?_
          refine GG.if_le (tgt := 88) e_X11_leansBy_78 rfl (fun h78 => ?_) (fun h78 => ?_)
          · skip
            refine GG.iload e_X11_leansBy_88 0 rfl ?_
            refine GG.iret e_X11_leansBy_90 rfl rfl ?_
            exact qI hQ (by first | (simp_all [mLean, mPlain, mRem]; done) | grind [mLean, mPlain, mRem])
          · skip
            refine GG.iload e_X11_leansBy_81 0 rfl ?_
            refine GG.iconst (v := 1) e_X11_leansBy_83 rfl ?_
            refine GG.iadd e_X11_leansBy_84 ?_
            refine GG.goto (tgt := 90) e_X11_leansBy_85 rfl ?_
            refine GG.iret e_X11_leansBy_90 rfl rfl ?_
            exact qI hQ (by first | (simp_all [mLean, mPlain, mRem]; done) | grind [mLean, mPlain, mRem])
        refine GG.tcase 5 (off := 69) (tgt := 109) e_X11_leansBy_40 (by decide) (by decide) (by decide) rfl (fun h40 => ?_) (fun h40_5 => ?_)
        · skip
          refine GG.iconst (v := 3) e_X11_leansBy_109 rfl ?_
          refine GG.iload e_X11_leansBy_110 0 rfl ?_
          refine GG.iconst (v := 2) e_X11_leansBy_112 rfl ?_
          refine GG.idiv e_X11_leansBy_113 (by decide) ?_
          refine GG.imul e_X11_leansBy_114 ?_
          refine GG.iret e_X11_leansBy_115 rfl rfl ?_
          exact qI hQ (by first | (simp_all [mLean, mPlain, mRem]; done) | grind [mLean, mPlain, mRem])
        refine GG.tableOut (tgt := 116) e_X11_leansBy_40 (by have a1 := sw_n 1 (by decide) h40_1; have a2 := sw_n 2 (by decide) h40_2; have a3 := sw_n 3 (by decide) h40_3; have a4 := sw_n 4 (by decide) h40_4; have a5 := sw_n 5 (by decide) h40_5; omega) rfl ?_
        refine GG.iload e_X11_leansBy_116 0 rfl ?_
        refine GG.iret e_X11_leansBy_118 rfl rfl ?_
        exact qI hQ (by first | (simp_all [mLean, mPlain, mRem]; done) | grind [mLean, mPlain, mRem])
      · skip
        refine GG.iload_n e_X11_leansBy_31 (i := 1) rfl 2 rfl ?_
        refine GG.ineg e_X11_leansBy_32 ?_
        refine GG.goto (tgt := 37) e_X11_leansBy_33 rfl ?_
        refine GG.istore e_X11_leansBy_37 (Nat.le_of_ble_eq_true rfl) (ls' := [(4, .int _), (3, .int _), (0, .int _), (1, .int _), (2, .int _)]) rfl ?_
        refine GG.iload_n e_X11_leansBy_39 (i := 0) rfl 2 rfl ?_
        refine GG.tcase 1 (off := 36) (tgt := 76) e_X11_leansBy_40 (by decide) (by decide) (by decide) rfl (fun h40 => ?_) (fun h40_1 => ?_)
        · skip
          refine GG.iload e_X11_leansBy_76 0 rfl ?_
          refine GG.if_le (tgt := 88) e_X11_leansBy_78 rfl (fun h78 => ?_) (fun h78 => ?_)
          · skip
            refine GG.iload e_X11_leansBy_88 0 rfl ?_
            refine GG.iret e_X11_leansBy_90 rfl rfl ?_
            exact qI hQ (by first | (simp_all [mLean, mPlain, mRem]; done) | grind [mLean, mPlain, mRem])
          · skip
            refine GG.iload e_X11_leansBy_81 0 rfl ?_
            refine GG.iconst (v := 1) e_X11_leansBy_83 rfl ?_
            refine GG.iadd e_X11_leansBy_84 ?_
            refine GG.goto (tgt := 90) e_X11_leansBy_85 rfl ?_
            refine GG.iret e_X11_leansBy_90 rfl rfl ?_
            exact qI hQ (by first | (simp_all [mLean, mPlain, mRem]; done) | grind [mLean, mPlain, mRem])
        refine GG.tcase 2 (off := 51) (tgt := 91) e_X11_leansBy_40 (by decide) (by decide) (by decide) rfl (fun h40 => ?_) (fun h40_2 => ?_)
        · skip
          refine GG.iload e_X11_leansBy_91 0 rfl ?_
          refine GG.iconst (v := 2) e_X11_leansBy_93 rfl ?_
          refine GG.idiv e_X11_leansBy_94 (by decide) ?_
          refine GG.iret e_X11_leansBy_95 rfl rfl ?_
          exact qI hQ (by first | (simp_all [mLean, mPlain, mRem]; done) | grind [mLean, mPlain, mRem])
        refine GG.tcase 3 (off := 56) (tgt := 96) e_X11_leansBy_40 (by decide) (by decide) (by decide) rfl (fun h40 => ?_) (fun h40_3 => ?_)
        · skip
          refine GG.iload_n e_X11_leansBy_96 (i := 2) rfl 4 rfl ?_
          refine GG.iconst (v := 3) e_X11_leansBy_97 rfl ?_
          refine GG.irem e_X11_leansBy_98 (by decide) ?_
          refine GG.if_ne (tgt := 106) e_X11_leansBy_99 rfl (fun h99 => ?_) (fun h99 => ?_)
          · skip
            refine GG.iload e_X11_leansBy_106 0 rfl ?_
            refine GG.iret e_X11_leansBy_108 rfl rfl ?_
            exact qI hQ (by first | (simp_all [mLean, mPlain, mRem]; done) | grind [mLean, mPlain, mRem])
          · skip
            refine GG.iconst (v := 0) e_X11_leansBy_102 rfl ?_
            refine GG.goto (tgt := 108) e_X11_leansBy_103 rfl ?_
            refine GG.iret e_X11_leansBy_108 rfl rfl ?_
            exact qI hQ (by first | (simp_all [mLean, mPlain, mRem]; done) | grind [mLean, mPlain, mRem])
        refine GG.tcase 4 (off := 36) (tgt := 76) e_X11_leansBy_40 (by decide) (by decide) (by decide) rfl (fun h40 => ?_) (fun h40_4 => ?_)
        · skip
          refine GG.iload e_X11_leansBy_76 0 rfl ?_
          refine GG.if_le (tgt := 88) e_X11_leansBy_78 rfl (fun h78 => ?_) (fun h78 => ?_)
          · skip
            refine GG.iload e_X11_leansBy_88 0 rfl ?_
            refine GG.iret e_X11_leansBy_90 rfl rfl ?_
            exact qI hQ (by first | (simp_all [mLean, mPlain, mRem]; done) | grind [mLean, mPlain, mRem])
          · skip
            refine GG.iload e_X11_leansBy_81 0 rfl ?_
            refine GG.iconst (v := 1) e_X11_leansBy_83 rfl ?_
            refine GG.iadd e_X11_leansBy_84 ?_
            refine GG.goto (tgt := 90) e_X11_leansBy_85 rfl ?_
            refine GG.iret e_X11_leansBy_90 rfl rfl ?_
            exact qI hQ (by first | (simp_all [mLean, mPlain, mRem]; done) | grind [mLean, mPlain, mRem])
        refine GG.tcase 5 (off := 69) (tgt := 109) e_X11_leansBy_40 (by decide) (by decide) (by decide) rfl (fun h40 => ?_) (fun h40_5 => ?_)
        · skip
          refine GG.iconst (v := 3) e_X11_leansBy_109 rfl ?_
          refine GG.iload e_X11_leansBy_110 0 rfl ?_
          refine GG.iconst (v := 2) e_X11_leansBy_112 rfl ?_
          refine GG.idiv e_X11_leansBy_113 (by decide) ?_
          refine GG.imul e_X11_leansBy_114 ?_
          refine GG.iret e_X11_leansBy_115 rfl rfl ?_
          exact qI hQ (by first | (simp_all [mLean, mPlain, mRem]; done) | grind [mLean, mPlain, mRem])
        refine GG.tableOut (tgt := 116) e_X11_leansBy_40 (by have a1 := sw_n 1 (by decide) h40_1; have a2 := sw_n 2 (by decide) h40_2; have a3 := sw_n 3 (by decide) h40_3; have a4 := sw_n 4 (by decide) h40_4; have a5 := sw_n 5 (by decide) h40_5; omega) rfl ?_
        refine GG.iload e_X11_leansBy_116 0 rfl ?_
        refine GG.iret e_X11_leansBy_118 rfl rfl ?_
        exact qI hQ (by first | (simp_all [mLean, mPlain, mRem]; done) | grind [mLean, mPlain, mRem])
    · skip
      refine GG.iload_n e_X11_leansBy_20 (i := 1) rfl 2 rfl ?_
      refine GG.goto (tgt := 37) e_X11_leansBy_21 rfl ?_
      refine GG.istore e_X11_leansBy_37 (Nat.le_of_ble_eq_true rfl) (ls' := [(4, .int _), (3, .int _), (0, .int _), (1, .int _), (2, .int _)]) rfl ?_
      refine GG.iload_n e_X11_leansBy_39 (i := 0) rfl 2 rfl ?_
      refine GG.tcase 1 (off := 36) (tgt := 76) e_X11_leansBy_40 (by decide) (by decide) (by decide) rfl (fun h40 => ?_) (fun h40_1 => ?_)
      · skip
        refine GG.iload e_X11_leansBy_76 0 rfl ?_
        refine GG.if_le (tgt := 88) e_X11_leansBy_78 rfl (fun h78 => ?_) (fun h78 => ?_)
        · skip
          refine GG.iload e_X11_leansBy_88 0 rfl ?_
          refine GG.iret e_X11_leansBy_90 rfl rfl ?_
          exact qI hQ (by first | (simp_all [mLean, mPlain, mRem]; done) | grind [mLean, mPlain, mRem])
        · skip
          refine GG.iload e_X11_leansBy_81 0 rfl ?_
          refine GG.iconst (v := 1) e_X11_leansBy_83 rfl ?_
          refine GG.iadd e_X11_leansBy_84 ?_
          refine GG.goto (tgt := 90) e_X11_leansBy_85 rfl ?_
          refine GG.iret e_X11_leansBy_90 rfl rfl ?_
          exact qI hQ (by first | (simp_all [mLean, mPlain, mRem]; done) | grind [mLean, mPlain, mRem])
      refine GG.tcase 2 (off := 51) (tgt := 91) e_X11_leansBy_40 (by decide) (by decide) (by decide) rfl (fun h40 => ?_) (fun h40_2 => ?_)
      · skip
        refine GG.iload e_X11_leansBy_91 0 rfl ?_
        refine GG.iconst (v := 2) e_X11_leansBy_93 rfl ?_
        refine GG.idiv e_X11_leansBy_94 (by decide) ?_
        refine GG.iret e_X11_leansBy_95 rfl rfl ?_
        exact qI hQ (by first | (simp_all [mLean, mPlain, mRem]; done) | grind [mLean, mPlain, mRem])
      refine GG.tcase 3 (off := 56) (tgt := 96) e_X11_leansBy_40 (by decide) (by decide) (by decide) rfl (fun h40 => ?_) (fun h40_3 => ?_)
      · skip
        refine GG.iload_n e_X11_leansBy_96 (i := 2) rfl 4 rfl ?_
        refine GG.iconst (v := 3) e_X11_leansBy_97 rfl ?_
        refine GG.irem e_X11_leansBy_98 (by decide) ?_
        refine GG.if_ne (tgt := 106) e_X11_leansBy_99 rfl (fun h99 => ?_) (fun h99 => ?_)
        · skip
          refine GG.iload e_X11_leansBy_106 0 rfl ?_
          refine GG.iret e_X11_leansBy_108 rfl rfl ?_
          exact qI hQ (by first | (simp_all [mLean, mPlain, mRem]; done) | grind [mLean, mPlain, mRem])
        · skip
          refine GG.iconst (v := 0) e_X11_leansBy_102 rfl ?_
          refine GG.goto (tgt := 108) e_X11_leansBy_103 rfl ?_
          refine GG.iret e_X11_leansBy_108 rfl rfl ?_
          exact qI hQ (by first | (simp_all [mLean, mPlain, mRem]; done) | grind [mLean, mPlain, mRem])
      refine GG.tcase 4 (off := 36) (tgt := 76) e_X11_leansBy_40 (by decide) (by decide) (by decide) rfl (fun h40 => ?_) (fun h40_4 => ?_)
      · skip
        refine GG.iload e_X11_leansBy_76 0 rfl ?_
        refine GG.if_le (tgt := 88) e_X11_leansBy_78 rfl (fun h78 => ?_) (fun h78 => ?_)
        · skip
          refine GG.iload e_X11_leansBy_88 0 rfl ?_
          refine GG.iret e_X11_leansBy_90 rfl rfl ?_
          exact qI hQ (by first | (simp_all [mLean, mPlain, mRem]; done) | grind [mLean, mPlain, mRem])
        · skip
          refine GG.iload e_X11_leansBy_81 0 rfl ?_
          refine GG.iconst (v := 1) e_X11_leansBy_83 rfl ?_
          refine GG.iadd e_X11_leansBy_84 ?_
          refine GG.goto (tgt := 90) e_X11_leansBy_85 rfl ?_
          refine GG.iret e_X11_leansBy_90 rfl rfl ?_
          exact qI hQ (by first | (simp_all [mLean, mPlain, mRem]; done) | grind [mLean, mPlain, mRem])
      refine GG.tcase 5 (off := 69) (tgt := 109) e_X11_leansBy_40 (by decide) (by decide) (by decide) rfl (fun h40 => ?_) (fun h40_5 => ?_)
      · skip
        refine GG.iconst (v := 3) e_X11_leansBy_109 rfl ?_
        refine GG.iload e_X11_leansBy_110 0 rfl ?_
        refine GG.iconst (v := 2) e_X11_leansBy_112 rfl ?_
        refine GG.idiv e_X11_leansBy_113 (by decide) ?_
        refine GG.imul e_X11_leansBy_114 ?_
        refine GG.iret e_X11_leansBy_115 rfl rfl ?_
        exact qI hQ (by first | (simp_all [mLean, mPlain, mRem]; done) | grind [mLean, mPlain, mRem])
      refine GG.tableOut (tgt := 116) e_X11_leansBy_40 (by have a1 := sw_n 1 (by decide) h40_1; have a2 := sw_n 2 (by decide) h40_2; have a3 := sw_n 3 (by decide) h40_3; have a4 := sw_n 4 (by decide) h40_4; have a5 := sw_n 5 (by decide) h40_5; omega) rfl ?_
      refine GG.iload e_X11_leansBy_116 0 rfl ?_
      refine GG.iret e_X11_leansBy_118 rfl rfl ?_
      exact qI hQ (by first | (simp_all [mLean, mPlain, mRem]; done) | grind [mLean, mPlain, mRem])
theorem s_X11_dampedPlain {μ : gM} {Q : Option Value → gM → Prop} {x : Int32} (hQ : Q (some (.int (mOnce x))) μ) : SPC 0 MX11_dampedPlain [.int x] μ Q := by
  refine SPC.of (by decide +kernel) (Nat.le_of_ble_eq_true rfl) (ls := [(0, .int x)]) rfl ?_
  refine GG.iload_n e_X11_dampedPlain_0 (i := 0) rfl 0 rfl ?_
  refine GG.iconst (v := 2) e_X11_dampedPlain_1 rfl ?_
  refine GG.icmp_le (tgt := 11) e_X11_dampedPlain_2 rfl (fun h2 => ?_) (fun h2 => ?_)
  · skip
    refine GG.iload_n e_X11_dampedPlain_11 (i := 0) rfl 0 rfl ?_
    refine GG.if_le (tgt := 19) e_X11_dampedPlain_12 rfl (fun h12 => ?_) (fun h12 => ?_)
    · skip
      refine GG.iload_n e_X11_dampedPlain_19 (i := 0) rfl 0 rfl ?_
      refine GG.iret e_X11_dampedPlain_20 rfl rfl ?_
      exact qI hQ (by first | (simp_all [mOnce]; done) | grind [mOnce])
    · skip
      refine GG.iconst (v := 0) e_X11_dampedPlain_15 rfl ?_
      refine GG.goto (tgt := 20) e_X11_dampedPlain_16 rfl ?_
      refine GG.iret e_X11_dampedPlain_20 rfl rfl ?_
      exact qI hQ (by first | (simp_all [mOnce]; done) | grind [mOnce])
  · skip
    refine GG.iload_n e_X11_dampedPlain_5 (i := 0) rfl 0 rfl ?_
    refine GG.iconst (v := 2) e_X11_dampedPlain_6 rfl ?_
    refine GG.isub e_X11_dampedPlain_7 ?_
    refine GG.goto (tgt := 20) e_X11_dampedPlain_8 rfl ?_
    refine GG.iret e_X11_dampedPlain_20 rfl rfl ?_
    exact qI hQ (by first | (simp_all [mOnce]; done) | grind [mOnce])
theorem s_X11_dampedBy {μ : gM} {Q : Option Value → gM → Prop} {k x c : Int32} (hQ : Q (some (.int (mDamp k x c))) μ) : SPC 1 MX11_dampedBy [.int k, .int x, .int c] μ Q := by
  refine SPC.of (by decide +kernel) (Nat.le_of_ble_eq_true rfl) (ls := [(0, .int k), (1, .int x), (2, .int c)]) rfl ?_
  refine GG.iload_n e_X11_dampedBy_0 (i := 0) rfl 0 rfl ?_
  refine GG.tcase 1 (off := 35) (tgt := 36) e_X11_dampedBy_1 (by decide) (by decide) (by decide) rfl (fun h1 => ?_) (fun h1_1 => ?_)
  · skip
    refine GG.iload_n e_X11_dampedBy_36 (i := 1) rfl 1 rfl ?_
    refine GG.bipush (v := 8) e_X11_dampedBy_37 rfl ?_
    refine GG.icmp_le (tgt := 48) e_X11_dampedBy_39 rfl (fun h39 => ?_) (fun h39 => ?_)
    · skip
      refine GG.iload_n e_X11_dampedBy_48 (i := 1) rfl 1 rfl ?_
      refine GG.callS (d' := 0) (as := [.int _]) e_X11_dampedBy_49 ml_X11_132 mf_X11_dampedPlain ms_X11_dampedPlain rfl (by decide) (Nat.le_of_ble_eq_true rfl) rfl ?_
      refine s_X11_dampedPlain ?_
      refine GG.iret e_X11_dampedBy_52 rfl rfl ?_
      exact qI hQ (by first | (simp_all [mDamp, mRem]; done) | grind [mDamp, mRem])
    · skip
      refine GG.iload_n e_X11_dampedBy_42 (i := 1) rfl 1 rfl ?_
      refine GG.iconst (v := 2) e_X11_dampedBy_43 rfl ?_
      refine GG.idiv e_X11_dampedBy_44 (by decide) ?_
      refine GG.goto (tgt := 52) e_X11_dampedBy_45 rfl ?_
      refine GG.iret e_X11_dampedBy_52 rfl rfl ?_
      exact qI hQ (by first | (simp_all [mDamp, mRem]; done) | grind [mDamp, mRem])
  refine GG.tcase 2 (off := 52) (tgt := 53) e_X11_dampedBy_1 (by decide) (by decide) (by decide) rfl (fun h1 => ?_) (fun h1_2 => ?_)
  · skip
    refine GG.iload_n e_X11_dampedBy_53 (i := 1) rfl 1 rfl ?_
    refine GG.callS (d' := 0) (as := [.int _]) e_X11_dampedBy_54 ml_X11_132 mf_X11_dampedPlain ms_X11_dampedPlain rfl (by decide) (Nat.le_of_ble_eq_true rfl) rfl ?_
    refine s_X11_dampedPlain ?_
    refine GG.callS (d' := 0) (as := [.int _]) e_X11_dampedBy_57 ml_X11_132 mf_X11_dampedPlain ms_X11_dampedPlain rfl (by decide) (Nat.le_of_ble_eq_true rfl) rfl ?_
    refine s_X11_dampedPlain ?_
    refine GG.iret e_X11_dampedBy_60 rfl rfl ?_
    exact qI hQ (by first | (simp_all [mDamp, mRem]; done) | grind [mDamp, mRem])
  refine GG.tcase 3 (off := 60) (tgt := 61) e_X11_dampedBy_1 (by decide) (by decide) (by decide) rfl (fun h1 => ?_) (fun h1_3 => ?_)
  · skip
    refine GG.iload_n e_X11_dampedBy_61 (i := 2) rfl 2 rfl ?_
    refine GG.iconst (v := 2) e_X11_dampedBy_62 rfl ?_
    refine GG.irem e_X11_dampedBy_63 (by decide) ?_
    refine GG.if_ne (tgt := 74) e_X11_dampedBy_64 rfl (fun h64 => ?_) (fun h64 => ?_)
    · skip
      refine GG.iload_n e_X11_dampedBy_74 (i := 1) rfl 1 rfl ?_
      refine GG.iret e_X11_dampedBy_75 rfl rfl ?_
      exact qI hQ (by first | (simp_all [mDamp, mRem]; done) | grind [mDamp, mRem])
    · skip
      refine GG.iload_n e_X11_dampedBy_67 (i := 1) rfl 1 rfl ?_
      refine GG.callS (d' := 0) (as := [.int _]) e_X11_dampedBy_68 ml_X11_132 mf_X11_dampedPlain ms_X11_dampedPlain rfl (by decide) (Nat.le_of_ble_eq_true rfl) rfl ?_
      refine s_X11_dampedPlain ?_
      refine GG.goto (tgt := 75) e_X11_dampedBy_71 rfl ?_
      refine GG.iret e_X11_dampedBy_75 rfl rfl ?_
      exact qI hQ (by first | (simp_all [mDamp, mRem]; done) | grind [mDamp, mRem])
  refine GG.tcase 4 (off := 75) (tgt := 76) e_X11_dampedBy_1 (by decide) (by decide) (by decide) rfl (fun h1 => ?_) (fun h1_4 => ?_)
  · skip
    refine GG.iload_n e_X11_dampedBy_76 (i := 2) rfl 2 rfl ?_
    refine GG.iconst (v := 5) e_X11_dampedBy_77 rfl ?_
    refine GG.irem e_X11_dampedBy_78 (by decide) ?_
    refine GG.iconst (v := 4) e_X11_dampedBy_79 rfl ?_
    refine GG.icmp_eq (tgt := 96) e_X11_dampedBy_80 rfl (fun h80 => ?_) (fun h80 => ?_)
    · skip
      refine GG.iload_n e_X11_dampedBy_96 (i := 1) rfl 1 rfl ?_
      refine GG.iret e_X11_dampedBy_97 rfl rfl ?_
      exact qI hQ (by first | (simp_all [mDamp, mRem]; done) | grind [mDamp, mRem])
    · skip
      refine GG.iload_n e_X11_dampedBy_83 (i := 2) rfl 2 rfl ?_
      refine GG.iconst (v := 2) e_X11_dampedBy_84 rfl ?_
      refine GG.irem e_X11_dampedBy_85 (by decide) ?_
      refine GG.if_ne (tgt := 96) e_X11_dampedBy_86 rfl (fun h86 => ?_) (fun h86 => ?_)
      · skip
        refine GG.iload_n e_X11_dampedBy_96 (i := 1) rfl 1 rfl ?_
        refine GG.iret e_X11_dampedBy_97 rfl rfl ?_
        exact qI hQ (by first | (simp_all [mDamp, mRem]; done) | grind [mDamp, mRem])
      · skip
        refine GG.iload_n e_X11_dampedBy_89 (i := 1) rfl 1 rfl ?_
        refine GG.callS (d' := 0) (as := [.int _]) e_X11_dampedBy_90 ml_X11_132 mf_X11_dampedPlain ms_X11_dampedPlain rfl (by decide) (Nat.le_of_ble_eq_true rfl) rfl ?_
        refine s_X11_dampedPlain ?_
        refine GG.goto (tgt := 97) e_X11_dampedBy_93 rfl ?_
        refine GG.iret e_X11_dampedBy_97 rfl rfl ?_
        exact qI hQ (by first | (simp_all [mDamp, mRem]; done) | grind [mDamp, mRem])
  refine GG.tcase 5 (off := 97) (tgt := 98) e_X11_dampedBy_1 (by decide) (by decide) (by decide) rfl (fun h1 => ?_) (fun h1_5 => ?_)
  · skip
    refine GG.iload_n e_X11_dampedBy_98 (i := 2) rfl 2 rfl ?_
    refine GG.iconst (v := 4) e_X11_dampedBy_99 rfl ?_
    refine GG.irem e_X11_dampedBy_100 (by decide) ?_
    refine GG.if_ne (tgt := 108) e_X11_dampedBy_101 rfl (fun h101 => ?_) (fun h101 => ?_)
    · skip
      refine GG.iload_n e_X11_dampedBy_108 (i := 1) rfl 1 rfl ?_
      refine GG.callS (d' := 0) (as := [.int _]) e_X11_dampedBy_109 ml_X11_132 mf_X11_dampedPlain ms_X11_dampedPlain rfl (by decide) (Nat.le_of_ble_eq_true rfl) rfl ?_
      refine s_X11_dampedPlain ?_
      refine GG.callS (d' := 0) (as := [.int _]) e_X11_dampedBy_112 ml_X11_132 mf_X11_dampedPlain ms_X11_dampedPlain rfl (by decide) (Nat.le_of_ble_eq_true rfl) rfl ?_
      refine s_X11_dampedPlain ?_
      refine GG.iret e_X11_dampedBy_115 rfl rfl ?_
      exact qI hQ (by first | (simp_all [mDamp, mRem]; done) | grind [mDamp, mRem])
    · skip
      refine GG.iconst (v := 0) e_X11_dampedBy_104 rfl ?_
      refine GG.goto (tgt := 115) e_X11_dampedBy_105 rfl ?_
      refine GG.iret e_X11_dampedBy_115 rfl rfl ?_
      exact qI hQ (by first | (simp_all [mDamp, mRem]; done) | grind [mDamp, mRem])
  refine GG.tableOut (tgt := 116) e_X11_dampedBy_1 (by have a1 := sw_n 1 (by decide) h1_1; have a2 := sw_n 2 (by decide) h1_2; have a3 := sw_n 3 (by decide) h1_3; have a4 := sw_n 4 (by decide) h1_4; have a5 := sw_n 5 (by decide) h1_5; omega) rfl ?_
  refine GG.iload_n e_X11_dampedBy_116 (i := 1) rfl 1 rfl ?_
  refine GG.callS (d' := 0) (as := [.int _]) e_X11_dampedBy_117 ml_X11_132 mf_X11_dampedPlain ms_X11_dampedPlain rfl (by decide) (Nat.le_of_ble_eq_true rfl) rfl ?_
  refine s_X11_dampedPlain ?_
  refine GG.iret e_X11_dampedBy_120 rfl rfl ?_
  exact qI hQ (by first | (simp_all [mDamp, mRem]; done) | grind [mDamp, mRem])
theorem s_X3_dampAs {μ : gM} {Q : Option Value → gM → Prop} {k x c : Int32} (hQ : Q (some (.int (mDamp k x c))) μ) : SPC 0 MX3_dampAs [.int k, .int x, .int c] μ Q := by
  refine SPC.of (by decide +kernel) (Nat.le_of_ble_eq_true rfl) (ls := [(0, .int k), (1, .int x), (2, .int c)]) rfl ?_
  have j41 : ∀ o v : Int32, o = mOnce x → v = mOnce (mOnce x) → GG 0 MX3_dampAs 41 [(3, .int o), (0, .int k), (1, .int x), (2, .int c)] [.int v] μ Q := by
    intro o v ho hv
    refine GG.istore e_X3_dampAs_41 (Nat.le_of_ble_eq_true rfl) (ls' := [(4, .int _), (3, .int _), (0, .int _), (1, .int _), (2, .int _)]) rfl ?_
    refine GG.iload_n e_X3_dampAs_43 (i := 2) rfl 4 rfl ?_
    refine GG.iconst (v := 2) e_X3_dampAs_44 rfl ?_
    refine GG.irem e_X3_dampAs_45 (by decide) ?_
    refine GG.if_ne (tgt := 53) e_X3_dampAs_46 rfl (fun h46 => ?_) (fun h46 => ?_)
    · skip
      refine GG.iload_n e_X3_dampAs_53 (i := 1) rfl 3 rfl ?_
      refine GG.istore e_X3_dampAs_54 (Nat.le_of_ble_eq_true rfl) (ls' := [(5, .int _), (4, .int _), (3, .int _), (0, .int _), (1, .int _), (2, .int _)]) rfl ?_
      refine GG.iload_n e_X3_dampAs_56 (i := 0) rfl 3 rfl ?_
      refine GG.tcase 1 (off := 35) (tgt := 92) e_X3_dampAs_57 (by decide) (by decide) (by decide) rfl (fun h57 => ?_) (fun h57_1 => ?_)
      · skip
        refine GG.iload_n e_X3_dampAs_92 (i := 1) rfl 4 rfl ?_
        refine GG.bipush (v := 8) e_X3_dampAs_93 rfl ?_
        refine GG.icmp_le (tgt := 104) e_X3_dampAs_95 rfl (fun h95 => ?_) (fun h95 => ?_)
        · skip
          refine GG.iload_n e_X3_dampAs_104 (i := 3) rfl 2 rfl ?_
          refine GG.iret e_X3_dampAs_105 rfl rfl ?_
          exact qI hQ (by first | (simp_all [mDamp, mRem]; done) | grind [mDamp, mRem])
        · skip
          refine GG.iload_n e_X3_dampAs_98 (i := 1) rfl 4 rfl ?_
          refine GG.iconst (v := 2) e_X3_dampAs_99 rfl ?_
          refine GG.idiv e_X3_dampAs_100 (by decide) ?_
          refine GG.goto (tgt := 105) e_X3_dampAs_101 rfl ?_
          refine GG.iret e_X3_dampAs_105 rfl rfl ?_
          exact qI hQ (by first | (simp_all [mDamp, mRem]; done) | grind [mDamp, mRem])
      refine GG.tcase 2 (off := 49) (tgt := 106) e_X3_dampAs_57 (by decide) (by decide) (by decide) rfl (fun h57 => ?_) (fun h57_2 => ?_)
      · skip
        refine GG.iload e_X3_dampAs_106 1 rfl ?_
        refine GG.iret e_X3_dampAs_108 rfl rfl ?_
        exact qI hQ (by first | (simp_all [mDamp, mRem]; done) | grind [mDamp, mRem])
      refine GG.tcase 3 (off := 52) (tgt := 109) e_X3_dampAs_57 (by decide) (by decide) (by decide) rfl (fun h57 => ?_) (fun h57_3 => ?_)
      · skip
        refine GG.iload e_X3_dampAs_109 0 rfl ?_
        refine GG.iret e_X3_dampAs_111 rfl rfl ?_
        exact qI hQ (by first | (simp_all [mDamp, mRem]; done) | grind [mDamp, mRem])
      refine GG.tcase 4 (off := 55) (tgt := 112) e_X3_dampAs_57 (by decide) (by decide) (by decide) rfl (fun h57 => ?_) (fun h57_4 => ?_)
      · skip
        refine GG.iload_n e_X3_dampAs_112 (i := 2) rfl 5 rfl ?_
        refine GG.iconst (v := 5) e_X3_dampAs_113 rfl ?_
        refine GG.irem e_X3_dampAs_114 (by decide) ?_
        refine GG.iconst (v := 4) e_X3_dampAs_115 rfl ?_
        refine GG.icmp_ne (tgt := 123) e_X3_dampAs_116 rfl (fun h116 => ?_) (fun h116 => ?_)
        · skip
          refine GG.iload e_X3_dampAs_123 0 rfl ?_
          refine GG.iret e_X3_dampAs_125 rfl rfl ?_
          exact qI hQ (by first | (simp_all [mDamp, mRem]; done) | grind [mDamp, mRem])
        · skip
          refine GG.iload_n e_X3_dampAs_119 (i := 1) rfl 4 rfl ?_
          refine GG.goto (tgt := 125) e_X3_dampAs_120 rfl ?_
          refine GG.iret e_X3_dampAs_125 rfl rfl ?_
          exact qI hQ (by first | (simp_all [mDamp, mRem]; done) | grind [mDamp, mRem])
      refine GG.tcase 5 (off := 69) (tgt := 126) e_X3_dampAs_57 (by decide) (by decide) (by decide) rfl (fun h57 => ?_) (fun h57_5 => ?_)
      · skip
        refine GG.iload_n e_X3_dampAs_126 (i := 2) rfl 5 rfl ?_
        refine GG.iconst (v := 4) e_X3_dampAs_127 rfl ?_
        refine GG.irem e_X3_dampAs_128 (by decide) ?_
        refine GG.if_ne (tgt := 136) e_X3_dampAs_129 rfl (fun h129 => ?_) (fun h129 => ?_)
        · skip
          refine GG.iload e_X3_dampAs_136 1 rfl ?_
          refine GG.iret e_X3_dampAs_138 rfl rfl ?_
          exact qI hQ (by first | (simp_all [mDamp, mRem]; done) | grind [mDamp, mRem])
        · skip
          refine GG.iconst (v := 0) e_X3_dampAs_132 rfl ?_
          refine GG.goto (tgt := 138) e_X3_dampAs_133 rfl ?_
          refine GG.iret e_X3_dampAs_138 rfl rfl ?_
          exact qI hQ (by first | (simp_all [mDamp, mRem]; done) | grind [mDamp, mRem])
      refine GG.tableOut (tgt := 139) e_X3_dampAs_57 (by have a1 := sw_n 1 (by decide) h57_1; have a2 := sw_n 2 (by decide) h57_2; have a3 := sw_n 3 (by decide) h57_3; have a4 := sw_n 4 (by decide) h57_4; have a5 := sw_n 5 (by decide) h57_5; omega) rfl ?_
      refine GG.iload_n e_X3_dampAs_139 (i := 3) rfl 2 rfl ?_
      refine GG.iret e_X3_dampAs_140 rfl rfl ?_
      exact qI hQ (by first | (simp_all [mDamp, mRem]; done) | grind [mDamp, mRem])
    · skip
      refine GG.iload_n e_X3_dampAs_49 (i := 3) rfl 1 rfl ?_
      refine GG.goto (tgt := 54) e_X3_dampAs_50 rfl ?_
      refine GG.istore e_X3_dampAs_54 (Nat.le_of_ble_eq_true rfl) (ls' := [(5, .int _), (4, .int _), (3, .int _), (0, .int _), (1, .int _), (2, .int _)]) rfl ?_
      refine GG.iload_n e_X3_dampAs_56 (i := 0) rfl 3 rfl ?_
      refine GG.tcase 1 (off := 35) (tgt := 92) e_X3_dampAs_57 (by decide) (by decide) (by decide) rfl (fun h57 => ?_) (fun h57_1 => ?_)
      · skip
        refine GG.iload_n e_X3_dampAs_92 (i := 1) rfl 4 rfl ?_
        refine GG.bipush (v := 8) e_X3_dampAs_93 rfl ?_
        refine GG.icmp_le (tgt := 104) e_X3_dampAs_95 rfl (fun h95 => ?_) (fun h95 => ?_)
        · skip
          refine GG.iload_n e_X3_dampAs_104 (i := 3) rfl 2 rfl ?_
          refine GG.iret e_X3_dampAs_105 rfl rfl ?_
          exact qI hQ (by first | (simp_all [mDamp, mRem]; done) | grind [mDamp, mRem])
        · skip
          refine GG.iload_n e_X3_dampAs_98 (i := 1) rfl 4 rfl ?_
          refine GG.iconst (v := 2) e_X3_dampAs_99 rfl ?_
          refine GG.idiv e_X3_dampAs_100 (by decide) ?_
          refine GG.goto (tgt := 105) e_X3_dampAs_101 rfl ?_
          refine GG.iret e_X3_dampAs_105 rfl rfl ?_
          exact qI hQ (by first | (simp_all [mDamp, mRem]; done) | grind [mDamp, mRem])
      refine GG.tcase 2 (off := 49) (tgt := 106) e_X3_dampAs_57 (by decide) (by decide) (by decide) rfl (fun h57 => ?_) (fun h57_2 => ?_)
      · skip
        refine GG.iload e_X3_dampAs_106 1 rfl ?_
        refine GG.iret e_X3_dampAs_108 rfl rfl ?_
        exact qI hQ (by first | (simp_all [mDamp, mRem]; done) | grind [mDamp, mRem])
      refine GG.tcase 3 (off := 52) (tgt := 109) e_X3_dampAs_57 (by decide) (by decide) (by decide) rfl (fun h57 => ?_) (fun h57_3 => ?_)
      · skip
        refine GG.iload e_X3_dampAs_109 0 rfl ?_
        refine GG.iret e_X3_dampAs_111 rfl rfl ?_
        exact qI hQ (by first | (simp_all [mDamp, mRem]; done) | grind [mDamp, mRem])
      refine GG.tcase 4 (off := 55) (tgt := 112) e_X3_dampAs_57 (by decide) (by decide) (by decide) rfl (fun h57 => ?_) (fun h57_4 => ?_)
      · skip
        refine GG.iload_n e_X3_dampAs_112 (i := 2) rfl 5 rfl ?_
        refine GG.iconst (v := 5) e_X3_dampAs_113 rfl ?_
        refine GG.irem e_X3_dampAs_114 (by decide) ?_
        refine GG.iconst (v := 4) e_X3_dampAs_115 rfl ?_
        refine GG.icmp_ne (tgt := 123) e_X3_dampAs_116 rfl (fun h116 => ?_) (fun h116 => ?_)
        · skip
          refine GG.iload e_X3_dampAs_123 0 rfl ?_
          refine GG.iret e_X3_dampAs_125 rfl rfl ?_
          exact qI hQ (by first | (simp_all [mDamp, mRem]; done) | grind [mDamp, mRem])
        · skip
          refine GG.iload_n e_X3_dampAs_119 (i := 1) rfl 4 rfl ?_
          refine GG.goto (tgt := 125) e_X3_dampAs_120 rfl ?_
          refine GG.iret e_X3_dampAs_125 rfl rfl ?_
          exact qI hQ (by first | (simp_all [mDamp, mRem]; done) | grind [mDamp, mRem])
      refine GG.tcase 5 (off := 69) (tgt := 126) e_X3_dampAs_57 (by decide) (by decide) (by decide) rfl (fun h57 => ?_) (fun h57_5 => ?_)
      · skip
        refine GG.iload_n e_X3_dampAs_126 (i := 2) rfl 5 rfl ?_
        refine GG.iconst (v := 4) e_X3_dampAs_127 rfl ?_
        refine GG.irem e_X3_dampAs_128 (by decide) ?_
        refine GG.if_ne (tgt := 136) e_X3_dampAs_129 rfl (fun h129 => ?_) (fun h129 => ?_)
        · skip
          refine GG.iload e_X3_dampAs_136 1 rfl ?_
          refine GG.iret e_X3_dampAs_138 rfl rfl ?_
          exact qI hQ (by first | (simp_all [mDamp, mRem]; done) | grind [mDamp, mRem])
        · skip
          refine GG.iconst (v := 0) e_X3_dampAs_132 rfl ?_
          refine GG.goto (tgt := 138) e_X3_dampAs_133 rfl ?_
          refine GG.iret e_X3_dampAs_138 rfl rfl ?_
          exact qI hQ (by first | (simp_all [mDamp, mRem]; done) | grind [mDamp, mRem])
      refine GG.tableOut (tgt := 139) e_X3_dampAs_57 (by have a1 := sw_n 1 (by decide) h57_1; have a2 := sw_n 2 (by decide) h57_2; have a3 := sw_n 3 (by decide) h57_3; have a4 := sw_n 4 (by decide) h57_4; have a5 := sw_n 5 (by decide) h57_5; omega) rfl ?_
      refine GG.iload_n e_X3_dampAs_139 (i := 3) rfl 2 rfl ?_
      refine GG.iret e_X3_dampAs_140 rfl rfl ?_
      exact qI hQ (by first | (simp_all [mDamp, mRem]; done) | grind [mDamp, mRem])
  have j20 : ∀ o : Int32, o = mOnce x → GG 0 MX3_dampAs 20 [(0, .int k), (1, .int x), (2, .int c)] [.int o] μ Q := by
    intro o ho
    refine GG.istore_n e_X3_dampAs_20 (i := 3) rfl (Nat.le_of_ble_eq_true rfl) (ls' := [(3, .int _), (0, .int _), (1, .int _), (2, .int _)]) rfl ?_
    refine GG.iload_n e_X3_dampAs_21 (i := 3) rfl 0 rfl ?_
    refine GG.iconst (v := 2) e_X3_dampAs_22 rfl ?_
    refine GG.icmp_le (tgt := 32) e_X3_dampAs_23 rfl (fun h23 => ?_) (fun h23 => ?_)
    · skip
      refine GG.iload_n e_X3_dampAs_32 (i := 3) rfl 0 rfl ?_
      refine GG.if_le (tgt := 40) e_X3_dampAs_33 rfl (fun h33 => ?_) (fun h33 => ?_)
      · skip
        refine GG.iload_n e_X3_dampAs_40 (i := 3) rfl 0 rfl ?_
        exact j41 _ _ ho (by first | (simp_all [mOnce]; done) | grind [mOnce])
      · skip
        refine GG.iconst (v := 0) e_X3_dampAs_36 rfl ?_
        refine GG.goto (tgt := 41) e_X3_dampAs_37 rfl ?_
        exact j41 _ _ ho (by first | (simp_all [mOnce]; done) | grind [mOnce])
    · skip
      refine GG.iload_n e_X3_dampAs_26 (i := 3) rfl 0 rfl ?_
      refine GG.iconst (v := 2) e_X3_dampAs_27 rfl ?_
      refine GG.isub e_X3_dampAs_28 ?_
      refine GG.goto (tgt := 41) e_X3_dampAs_29 rfl ?_
      exact j41 _ _ ho (by first | (simp_all [mOnce]; done) | grind [mOnce])
  refine GG.iload_n e_X3_dampAs_0 (i := 1) rfl 1 rfl ?_
  refine GG.iconst (v := 2) e_X3_dampAs_1 rfl ?_
  refine GG.icmp_le (tgt := 11) e_X3_dampAs_2 rfl (fun h2 => ?_) (fun h2 => ?_)
  · skip
    refine GG.iload_n e_X3_dampAs_11 (i := 1) rfl 1 rfl ?_
    refine GG.if_le (tgt := 19) e_X3_dampAs_12 rfl (fun h12 => ?_) (fun h12 => ?_)
    · skip
      refine GG.iload_n e_X3_dampAs_19 (i := 1) rfl 1 rfl ?_
      exact j20 _ (by first | (simp_all [mOnce]; done) | grind [mOnce])
    · skip
      refine GG.iconst (v := 0) e_X3_dampAs_15 rfl ?_
      refine GG.goto (tgt := 20) e_X3_dampAs_16 rfl ?_
      exact j20 _ (by first | (simp_all [mOnce]; done) | grind [mOnce])
  · skip
    refine GG.iload_n e_X3_dampAs_5 (i := 1) rfl 1 rfl ?_
    refine GG.iconst (v := 2) e_X3_dampAs_6 rfl ?_
    refine GG.isub e_X3_dampAs_7 ?_
    refine GG.goto (tgt := 20) e_X3_dampAs_8 rfl ?_
    exact j20 _ (by first | (simp_all [mOnce]; done) | grind [mOnce])
theorem s_X10_hasBit {μ : gM} {Q : Option Value → gM → Prop} {s k : Int32} (hQ : Q (some (.int (bI (mHas s k)))) μ) : SPC 0 MX10_hasBit [.int s, .int k] μ Q := by
  refine SPC.of (by decide +kernel) (Nat.le_of_ble_eq_true rfl) (ls := [(0, .int s), (1, .int k)]) rfl ?_
  refine GG.iload_n e_X10_hasBit_0 (i := 0) rfl 0 rfl ?_
  refine GG.iload_n e_X10_hasBit_1 (i := 1) rfl 1 rfl ?_
  refine GG.ishr e_X10_hasBit_2 ?_
  refine GG.iconst (v := 1) e_X10_hasBit_3 rfl ?_
  refine GG.iand e_X10_hasBit_4 ?_
  refine GG.iconst (v := 1) e_X10_hasBit_5 rfl ?_
  refine GG.icmp_ne (tgt := 13) e_X10_hasBit_6 rfl (fun h6 => ?_) (fun h6 => ?_)
  · skip
    refine GG.iconst (v := 0) e_X10_hasBit_13 rfl ?_
    refine GG.zret e_X10_hasBit_14 rfl rfl rfl ?_
    exact qI hQ (by first | (simp_all [mHas, bI]; done) | grind [mHas, bI])
  · skip
    refine GG.iconst (v := 1) e_X10_hasBit_9 rfl ?_
    refine GG.goto (tgt := 14) e_X10_hasBit_10 rfl ?_
    refine GG.zret e_X10_hasBit_14 rfl rfl rfl ?_
    exact qI hQ (by first | (simp_all [mHas, bI]; done) | grind [mHas, bI])
theorem s_X11_has {μ : gM} {Q : Option Value → gM → Prop} {s k : Int32} (hQ : Q (some (.int (bI (mHas s k)))) μ) : SPC 0 MX11_has [.int s, .int k] μ Q := by
  refine SPC.of (by decide +kernel) (Nat.le_of_ble_eq_true rfl) (ls := [(0, .int s), (1, .int k)]) rfl ?_
  refine GG.iload_n e_X11_has_0 (i := 0) rfl 0 rfl ?_
  refine GG.iload_n e_X11_has_1 (i := 1) rfl 1 rfl ?_
  refine GG.ishr e_X11_has_2 ?_
  refine GG.iconst (v := 1) e_X11_has_3 rfl ?_
  refine GG.iand e_X11_has_4 ?_
  refine GG.iconst (v := 1) e_X11_has_5 rfl ?_
  refine GG.icmp_ne (tgt := 13) e_X11_has_6 rfl (fun h6 => ?_) (fun h6 => ?_)
  · skip
    refine GG.iconst (v := 0) e_X11_has_13 rfl ?_
    refine GG.zret e_X11_has_14 rfl rfl rfl ?_
    exact qI hQ (by first | (simp_all [mHas, bI]; done) | grind [mHas, bI])
  · skip
    refine GG.iconst (v := 1) e_X11_has_9 rfl ?_
    refine GG.goto (tgt := 14) e_X11_has_10 rfl ?_
    refine GG.zret e_X11_has_14 rfl rfl rfl ?_
    exact qI hQ (by first | (simp_all [mHas, bI]; done) | grind [mHas, bI])
theorem s_X10_folded {μ : gM} {Q : Option Value → gM → Prop} {h v : Int64} (hQ : Q (some (.long (31 * h + v))) μ) : SPC 0 MX10_folded [.long h, .long v] μ Q := by
  refine SPC.of (by decide +kernel) (Nat.le_of_ble_eq_true rfl) (ls := [(0, .long h), (2, .long v)]) rfl ?_
  refine GG.ldc2 e_X10_folded_0 kc_X10_345 ?_
  refine GG.lload_n e_X10_folded_3 (i := 0) rfl 0 rfl ?_
  refine GG.lmul e_X10_folded_4 ?_
  refine GG.lload_n e_X10_folded_5 (i := 2) rfl 1 rfl ?_
  refine GG.ladd e_X10_folded_6 ?_
  refine GG.lret e_X10_folded_7 rfl rfl ?_
  exact hQ
