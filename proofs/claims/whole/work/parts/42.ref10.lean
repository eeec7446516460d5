/-! THE REFERENCE: its face, eighth part: slips, reigns, digest -/
def gEnd : Nat → Int64 → Int64 → Bool
  | 0, _, y => decide (y = 0)
  | n + 1, x, y => decide (y = 0) || gEnd n y (x - x / y * y)
def rWy (T : Nat) (o : Int32) (a : Nat) : Nat → Int64
  | 0 => if nI a &&& (nI T ^^^ (-1)) = 0 then 1 else 0
  | k + 1 => rWy T o a k * (if mHas (nI T) (nI k) = true then (if mHas (nI a) (nI k) = true then o.toInt64 else (10 - o).toInt64) else 1)
def rUp (μ : gM) (P A T : Nat) (c o : Int32) (a : Nat) : Int64 := if 0 < vSnd (rV μ 0) (nI T &&& (nI a ^^^ (-1))) A (mrd μ 64 10) P c then rWy T o a 4 else 0
section S42
variable {μ : gM} {Q : Option Value → gM → Prop} {P A U L T N M B k r : Nat} {i c a w z v x y o s : Int32}
theorem s_X11_tell {n : Nat} {a b : Int64} (hg : gEnd n a b = true) (hp : ¬ mGcd n a b = 0) (hQ : Q none (mwL (mwL μ 63 3 (a / mGcd n a b)) 63 4 (b / mGcd n a b))) : SPC 0 MX11_tell [.ref 63, .long a, .long b] μ Q := by
  have lp : ∀ n' x y, gEnd n' x y = true → mGcd n' x y = mGcd n a b → GG 0 MX11_tell 6 [(7, .long y), (5, .long x), (0, .ref 63), (1, .long a), (3, .long b)] [] μ Q := by
    intro n'
    induction n' with
    | zero =>
      intro x y hy hm
      have h0 : y = 0 := of_decide_eq_true hy
      have hx : x = mGcd n a b := hm
      refine GG.lload e_X11_tell_6 0 rfl ?_
      refine GG.lconst (v := 0) e_X11_tell_8 rfl ?_
      refine GG.lcmp e_X11_tell_9 ?_
      refine GG.if_eq (tgt := 31) e_X11_tell_10 rfl (fun h10 => ?_) (fun h10 => absurd h10 (by rw [lg_cmp]; grind))
      refine GG.aload_n e_X11_tell_31 (i := 0) rfl 2 rfl ?_
      refine GG.lload_n e_X11_tell_32 (i := 1) rfl 3 rfl ?_
      refine GG.lload e_X11_tell_33 1 rfl ?_
      refine GG.ldiv e_X11_tell_35 (by rw [hx]; exact hp) ?_
      refine GG.putL e_X11_tell_36 fl_X11_213 fp_X11_3 (sf_X11_3 i_X11_63) ?_
      refine GG.aload_n e_X11_tell_39 (i := 0) rfl 2 rfl ?_
      refine GG.lload_n e_X11_tell_40 (i := 3) rfl 4 rfl ?_
      refine GG.lload e_X11_tell_41 1 rfl ?_
      refine GG.ldiv e_X11_tell_43 (by rw [hx]; exact hp) ?_
      refine GG.putL e_X11_tell_44 fl_X11_20 fp_X11_4 (sf_X11_4 i_X11_63) ?_
      refine GG.vret e_X11_tell_47 rfl rfl ?_
      rw [hx]
      exact hQ
    | succ n' ih =>
      intro x y hy hm
      refine GG.lload e_X11_tell_6 0 rfl ?_
      refine GG.lconst (v := 0) e_X11_tell_8 rfl ?_
      refine GG.lcmp e_X11_tell_9 ?_
      refine GG.if_eq (tgt := 31) e_X11_tell_10 rfl (fun h10 => ?_) (fun h10 => ?_)
      · skip
        have h0 : y = 0 := by rw [lg_cmp] at h10; grind
        have hx : x = mGcd n a b := by rw [← hm, mGcd, if_pos h0]
        refine GG.aload_n e_X11_tell_31 (i := 0) rfl 2 rfl ?_
        refine GG.lload_n e_X11_tell_32 (i := 1) rfl 3 rfl ?_
        refine GG.lload e_X11_tell_33 1 rfl ?_
        refine GG.ldiv e_X11_tell_35 (by rw [hx]; exact hp) ?_
        refine GG.putL e_X11_tell_36 fl_X11_213 fp_X11_3 (sf_X11_3 i_X11_63) ?_
        refine GG.aload_n e_X11_tell_39 (i := 0) rfl 2 rfl ?_
        refine GG.lload_n e_X11_tell_40 (i := 3) rfl 4 rfl ?_
        refine GG.lload e_X11_tell_41 1 rfl ?_
        refine GG.ldiv e_X11_tell_43 (by rw [hx]; exact hp) ?_
        refine GG.putL e_X11_tell_44 fl_X11_20 fp_X11_4 (sf_X11_4 i_X11_63) ?_
        refine GG.vret e_X11_tell_47 rfl rfl ?_
        rw [hx]
        exact hQ
      · skip
        have h0 : ¬ y = 0 := by rw [lg_cmp] at h10; grind
        refine GG.lload e_X11_tell_13 1 rfl ?_
        refine GG.lload e_X11_tell_15 0 rfl ?_
        refine GG.lrem e_X11_tell_17 h0 ?_
        refine GG.lstore e_X11_tell_18 (Nat.le_of_ble_eq_true rfl) (ls' := [(9, .long _), (7, .long _), (5, .long _), (0, .ref _), (1, .long _), (3, .long _)]) rfl ?_
        refine GG.lload e_X11_tell_20 1 rfl ?_
        refine GG.lstore e_X11_tell_22 (Nat.le_of_ble_eq_true rfl) (ls' := [(5, .long _), (9, .long _), (7, .long _), (0, .ref _), (1, .long _), (3, .long _)]) rfl ?_
        refine GG.lload e_X11_tell_24 1 rfl ?_
        refine GG.lstore e_X11_tell_26 (Nat.le_of_ble_eq_true rfl) (ls' := [(7, .long _), (5, .long _), (9, .long _), (0, .ref _), (1, .long _), (3, .long _)]) rfl ?_
        refine GG.goto (tgt := 6) e_X11_tell_28 rfl ?_
        refine GG.perm [0, 1, 3, 4, 5] rfl ?_
        refine ih _ _ ?_ ?_
        · rw [gEnd, decide_eq_false h0, Bool.false_or] at hy; exact hy
        · rw [← hm, mGcd, if_neg h0]
  refine SPC.of (by decide +kernel) (Nat.le_of_ble_eq_true rfl) (ls := [(0, .ref (63)), (1, .long (a)), (3, .long (b))]) rfl ?_
  refine GG.lload_n e_X11_tell_0 (i := 1) rfl 1 rfl ?_
  refine GG.lstore e_X11_tell_1 (Nat.le_of_ble_eq_true rfl) (ls' := [(5, .long _), (0, .ref _), (1, .long _), (3, .long _)]) rfl ?_
  refine GG.lload_n e_X11_tell_3 (i := 3) rfl 3 rfl ?_
  refine GG.lstore e_X11_tell_4 (Nat.le_of_ble_eq_true rfl) (ls' := [(7, .long _), (5, .long _), (0, .ref _), (1, .long _), (3, .long _)]) rfl ?_
  exact lp n a b hg rfl
theorem s_X11_slips {F G : Int64} {n : Nat} (hR : MR μ P A) (hT : mrd μ 64 7 = nI T) (hT16 : T < 16) (hF : F = mSumL (rUp μ P A T c o) 16) (hG : G = mSumL (fun a => rWy T o a 4) 16) (hg : oB c 0 99 = false → oB o 0 10 = false → gEnd n F G = true ∧ ¬ mGcd n F G = 0)
    (hbad : (oB c 0 99 || oB o 0 10) = true → Q (some (.int (-2))) (rRf μ 0))
    (hok : oB c 0 99 = false → oB o 0 10 = false → ∀ ν, gSm μ ν → Q (some (.int 1)) (mwL (mwL ν 63 3 (F / mGcd n F G)) 63 4 (G / mGcd n F G))) : SPC 5 MX11_slips [.ref 63, .int c, .int o] μ Q := by
  have hP7 := hR.2.1
  have hA4 := hR.2.2.2
  generalize hf : rUp μ P A T c o = f at hF
  generalize hw : (fun a => rWy T o a 4) = wy at hG
  have hwy : ∀ a, wy a = rWy T o a 4 := fun a => by rw [← hw]
  have lp : (oB c 0 99 = false ∧ oB o 0 10 = false) → ∀ n' j ν th, 16 - j < n' → j ≤ 16 → gTr μ ν → TT ν (rV μ 0) P A th → GG 5 MX11_slips 39 [(7, .int (nI j)), (5, .long (mSumL wy j)), (3, .long (mSumL f j)), (0, .ref 63), (1, .int c), (2, .int o)] [] ν Q := by
    intro hco n'
    induction n' with
    | zero => intro j ν th h; omega
    | succ n' ih =>
      intro j ν th hn hj hν hTT
      have h7 : mrd ν 64 7 = nI T := by rw [hν.row (by omega), hT]
      have inn : ∀ m k, 4 - k < m → k ≤ 4 → j < 16 → GG 5 MX11_slips 71 [(10, .int (nI k)), (8, .long (rWy T o j k)), (7, .int (nI j)), (5, .long (mSumL wy j)), (3, .long (mSumL f j)), (0, .ref 63), (1, .int c), (2, .int o)] [] ν Q := by
        intro m
        induction m with
        | zero => intro k h; omega
        | succ m ihm =>
          intro k hm hk hj16
          have hν1 : gTr μ (mwr ν 64 544 (nI T &&& (nI j ^^^ (-1)))) := hν.wr (by omega)
          have hT1 : TT (mwr ν 64 544 (nI T &&& (nI j ^^^ (-1)))) (rV μ 0) P A (nI T &&& (nI j ^^^ (-1))) := hTT.th hP7 hA4
          have st : ∀ v, v = (if mHas (nI T) (nI k) = true then (if mHas (nI j) (nI k) = true then o.toInt64 else (10 - o).toInt64) else 1) → k < 4 → GG 5 MX11_slips 118 [(10, .int (nI k)), (8, .long (rWy T o j k)), (7, .int (nI j)), (5, .long (mSumL wy j)), (3, .long (mSumL f j)), (0, .ref 63), (1, .int c), (2, .int o)] [.long v, .long (rWy T o j k)] ν Q := by
            intro v hv hk4
            refine GG.lmul e_X11_slips_118 ?_
            refine GG.lstore e_X11_slips_119 (Nat.le_of_ble_eq_true rfl) (ls' := [(8, .long _), (10, .int _), (7, .int _), (5, .long _), (3, .long _), (0, .ref _), (1, .int _), (2, .int _)]) rfl ?_
            refine GG.iinc e_X11_slips_121 1 rfl (v := _) (by first | exact nI_s _ | exact nI_d _ | rfl) (Nat.le_of_ble_eq_true rfl) (ls' := [(10, .int _), (8, .long _), (7, .int _), (5, .long _), (3, .long _), (0, .ref _), (1, .int _), (2, .int _)]) rfl ?_
            refine GG.goto (tgt := 71) e_X11_slips_124 rfl ?_
            have g := ihm (k + 1) (by omega) (by omega) hj16
            rw [rWy, ← hv] at g
            exact g
          refine GG.iload e_X11_slips_71 0 rfl ?_
          refine GG.iconst (v := 4) e_X11_slips_73 rfl ?_
          refine GG.icmp_ge (tgt := 127) e_X11_slips_74 rfl (fun h74 => ?_) (fun h74 => ?_)
          · skip
            have e : k = 4 := by have := nle (a := 4) (b := k) h74 (by omega) (by omega); omega
            subst e
            refine GG.aload_n e_X11_slips_127 (i := 0) rfl 5 rfl ?_
            refine GG.getR (b := 64) e_X11_slips_128 fl_X11_7 (sf_X11_0 i_X11_63) ?_
            refine GG.sipush (v := 544) e_X11_slips_131 rfl ?_
            refine GG.aload_n e_X11_slips_134 (i := 0) rfl 5 rfl ?_
            refine GG.getR (b := 64) e_X11_slips_135 fl_X11_7 (sf_X11_0 i_X11_63) ?_
            refine GG.bipush (v := 7) e_X11_slips_138 rfl ?_
            refine GG.ialoadV (k := 7) (v := nI T) e_X11_slips_140 (sa_X11_0 i_X11_63) (rfl) (by omega) (Nat.le_of_ble_eq_true rfl) (h7) ?_
            refine GG.iload e_X11_slips_141 2 rfl ?_
            refine GG.iconst (v := -1) e_X11_slips_143 rfl ?_
            refine GG.ixor e_X11_slips_144 ?_
            refine GG.iand e_X11_slips_145 ?_
            refine GG.iastoreE (k := 544) e_X11_slips_146 (sa_X11_0 i_X11_63) (rfl) (by omega) (Nat.le_of_ble_eq_true rfl) ?_
            refine GG.lload_n e_X11_slips_147 (i := 3) rfl 4 rfl ?_
            refine GG.aload_n e_X11_slips_148 (i := 0) rfl 5 rfl ?_
            refine GG.sipush (v := 537) e_X11_slips_149 rfl ?_
            refine GG.iload_n e_X11_slips_152 (i := 1) rfl 6 rfl ?_
            refine GG.callV (d' := 4) (a := 63) (as := [.int _, .int _]) e_X11_slips_153 ml_X11_153 mf_X11_soundAt mv_X11_soundAt (rc_X11 i_X11_63) rfl (by decide) (Nat.le_of_ble_eq_true rfl) rfl ?_
            refine s_X11_soundAtS (B := 537) (hν1.mr hR) (by omega) (fun ν2 hν2 => ?_)
            rw [hT1.st, hν1.row (show 10 < 537 by omega)]
            refine GG.if_le (tgt := 164) e_X11_slips_156 rfl (fun h156 => ?_) (fun h156 => ?_)
            · skip
              refine GG.lconst (v := 0) e_X11_slips_164 rfl ?_
              refine GG.ladd e_X11_slips_165 ?_
              refine GG.lstore_n e_X11_slips_166 (i := 3) rfl (Nat.le_of_ble_eq_true rfl) (ls' := [(3, .long _), (10, .int _), (8, .long _), (7, .int _), (5, .long _), (0, .ref _), (1, .int _), (2, .int _)]) rfl ?_
              refine GG.lload e_X11_slips_167 4 rfl ?_
              refine GG.lload e_X11_slips_169 2 rfl ?_
              refine GG.ladd e_X11_slips_171 ?_
              refine GG.lstore e_X11_slips_172 (Nat.le_of_ble_eq_true rfl) (ls' := [(5, .long _), (3, .long _), (10, .int _), (8, .long _), (7, .int _), (0, .ref _), (1, .int _), (2, .int _)]) rfl ?_
              refine GG.iinc e_X11_slips_174 4 rfl (v := _) (by first | exact nI_s _ | exact nI_d _ | rfl) (Nat.le_of_ble_eq_true rfl) (ls' := [(7, .int _), (5, .long _), (3, .long _), (10, .int _), (8, .long _), (0, .ref _), (1, .int _), (2, .int _)]) rfl ?_
              refine GG.goto (tgt := 39) e_X11_slips_177 rfl ?_
              refine GG.perm [0, 1, 2, 5, 6, 7] rfl ?_
              have g := ih (j + 1) ν2 _ (by omega) (by omega) (hν1.l9 hν2) (hT1.l9 hν2)
              rw [mSumL, mSumL, hwy j, ← hf] at g
              unfold rUp at g
              rw [← hf]
              unfold rUp
              first | (rw [if_pos (Int32.not_le.mp h156)] at g; exact g) | (rw [if_neg (Int32.not_lt.mpr h156)] at g; exact g)
            · skip
              refine GG.lload e_X11_slips_159 1 rfl ?_
              refine GG.goto (tgt := 165) e_X11_slips_161 rfl ?_
              refine GG.ladd e_X11_slips_165 ?_
              refine GG.lstore_n e_X11_slips_166 (i := 3) rfl (Nat.le_of_ble_eq_true rfl) (ls' := [(3, .long _), (10, .int _), (8, .long _), (7, .int _), (5, .long _), (0, .ref _), (1, .int _), (2, .int _)]) rfl ?_
              refine GG.lload e_X11_slips_167 4 rfl ?_
              refine GG.lload e_X11_slips_169 2 rfl ?_
              refine GG.ladd e_X11_slips_171 ?_
              refine GG.lstore e_X11_slips_172 (Nat.le_of_ble_eq_true rfl) (ls' := [(5, .long _), (3, .long _), (10, .int _), (8, .long _), (7, .int _), (0, .ref _), (1, .int _), (2, .int _)]) rfl ?_
              refine GG.iinc e_X11_slips_174 4 rfl (v := _) (by first | exact nI_s _ | exact nI_d _ | rfl) (Nat.le_of_ble_eq_true rfl) (ls' := [(7, .int _), (5, .long _), (3, .long _), (10, .int _), (8, .long _), (0, .ref _), (1, .int _), (2, .int _)]) rfl ?_
              refine GG.goto (tgt := 39) e_X11_slips_177 rfl ?_
              refine GG.perm [0, 1, 2, 5, 6, 7] rfl ?_
              have g := ih (j + 1) ν2 _ (by omega) (by omega) (hν1.l9 hν2) (hT1.l9 hν2)
              rw [mSumL, mSumL, hwy j, ← hf] at g
              unfold rUp at g
              rw [← hf]
              unfold rUp
              first | (rw [if_pos (Int32.not_le.mp h156)] at g; exact g) | (rw [if_neg (Int32.not_lt.mpr h156)] at g; exact g)
          · skip
            have e := nnle (a := 4) (b := k) h74 (by omega) (by omega)
            refine GG.lload e_X11_slips_77 1 rfl ?_
            refine GG.aload_n e_X11_slips_79 (i := 0) rfl 5 rfl ?_
            refine GG.getR (b := 64) e_X11_slips_80 fl_X11_7 (sf_X11_0 i_X11_63) ?_
            refine GG.bipush (v := 7) e_X11_slips_83 rfl ?_
            refine GG.ialoadV (k := 7) (v := nI T) e_X11_slips_85 (sa_X11_0 i_X11_63) (rfl) (by omega) (Nat.le_of_ble_eq_true rfl) (h7) ?_
            refine GG.iload e_X11_slips_86 0 rfl ?_
            refine GG.callS (d' := 0) (as := [.int _, .int _]) e_X11_slips_88 ml_X11_139 mf_X11_has ms_X11_has rfl (by decide) (Nat.le_of_ble_eq_true rfl) rfl ?_
            refine s_X11_has ?_
            refine GG.if_ne (tgt := 98) e_X11_slips_91 rfl (fun h91 => ?_) (fun h91 => ?_)
            · skip
              have g1 := (bI_n0 _).mp h91
              refine GG.iload e_X11_slips_98 2 rfl ?_
              refine GG.iload e_X11_slips_100 0 rfl ?_
              refine GG.callS (d' := 0) (as := [.int _, .int _]) e_X11_slips_102 ml_X11_139 mf_X11_has ms_X11_has rfl (by decide) (Nat.le_of_ble_eq_true rfl) rfl ?_
              refine s_X11_has ?_
              refine GG.if_eq (tgt := 113) e_X11_slips_105 rfl (fun h105 => ?_) (fun h105 => ?_)
              · skip
                have g2 := (bI_0 _).mp h105
                refine GG.bipush (v := 10) e_X11_slips_113 rfl ?_
                refine GG.iload_n e_X11_slips_115 (i := 2) rfl 7 rfl ?_
                refine GG.isub e_X11_slips_116 ?_
                refine GG.i2l e_X11_slips_117 ?_
                refine st _ ?_ e
                first | (rw [g1]; rfl) | (rw [if_pos g1, if_pos g2]; done) | (rw [if_pos g1, g2]; rfl)
              · skip
                have g2 := (bI_n0 _).mp h105
                refine GG.iload_n e_X11_slips_108 (i := 2) rfl 7 rfl ?_
                refine GG.i2l e_X11_slips_109 ?_
                refine GG.goto (tgt := 118) e_X11_slips_110 rfl ?_
                refine st _ ?_ e
                first | (rw [g1]; rfl) | (rw [if_pos g1, if_pos g2]; done) | (rw [if_pos g1, g2]; rfl)
            · skip
              have g1 := (bI_0 _).mp h91
              refine GG.lconst (v := 1) e_X11_slips_94 rfl ?_
              refine GG.goto (tgt := 118) e_X11_slips_95 rfl ?_
              refine st _ ?_ e
              first | (rw [g1]; rfl) | (rw [if_pos g1, if_pos g2]; done) | (rw [if_pos g1, g2]; rfl)
      refine GG.iload e_X11_slips_39 0 rfl ?_
      refine GG.bipush (v := 16) e_X11_slips_41 rfl ?_
      refine GG.icmp_ge (tgt := 180) e_X11_slips_43 rfl (fun h43 => ?_) (fun h43 => ?_)
      · skip
        have e : j = 16 := by have := nle (a := 16) (b := j) h43 (by omega) (by omega); omega
        subst e
        refine GG.aload_n e_X11_slips_180 (i := 0) rfl 3 rfl ?_
        refine GG.lload_n e_X11_slips_181 (i := 3) rfl 2 rfl ?_
        refine GG.lload e_X11_slips_182 1 rfl ?_
        refine GG.callV (d' := 0) (a := 63) (as := [.long _, .long _]) e_X11_slips_184 ml_X11_216 mf_X11_tell mv_X11_tell (rc_X11 i_X11_63) rfl (by decide) (Nat.le_of_ble_eq_true rfl) rfl ?_
        refine s_X11_tell (n := n) (by rw [← hF, ← hG]; exact (hg hco.1 hco.2).1) (by rw [← hF, ← hG]; exact (hg hco.1 hco.2).2) ?_
        rw [← hF, ← hG]
        refine GG.iconst (v := 1) e_X11_slips_187 rfl ?_
        refine GG.iret e_X11_slips_188 rfl rfl ?_
        exact hok hco.1 hco.2 ν hν.sm
      · skip
        have e := nnle (a := 16) (b := j) h43 (by omega) (by omega)
        refine GG.iload e_X11_slips_46 0 rfl ?_
        refine GG.aload_n e_X11_slips_48 (i := 0) rfl 3 rfl ?_
        refine GG.getR (b := 64) e_X11_slips_49 fl_X11_7 (sf_X11_0 i_X11_63) ?_
        refine GG.bipush (v := 7) e_X11_slips_52 rfl ?_
        refine GG.ialoadV (k := 7) (v := nI T) e_X11_slips_54 (sa_X11_0 i_X11_63) (rfl) (by omega) (Nat.le_of_ble_eq_true rfl) (h7) ?_
        refine GG.iconst (v := -1) e_X11_slips_55 rfl ?_
        refine GG.ixor e_X11_slips_56 ?_
        refine GG.iand e_X11_slips_57 ?_
        refine GG.if_ne (tgt := 65) e_X11_slips_58 rfl (fun h58 => ?_) (fun h58 => ?_)
        · skip
          refine GG.lconst (v := 0) e_X11_slips_65 rfl ?_
          refine GG.lstore e_X11_slips_66 (Nat.le_of_ble_eq_true rfl) (ls' := [(8, .long _), (7, .int _), (5, .long _), (3, .long _), (0, .ref _), (1, .int _), (2, .int _)]) rfl ?_
          refine GG.iconst (v := 0) e_X11_slips_68 rfl ?_
          refine GG.istore e_X11_slips_69 (Nat.le_of_ble_eq_true rfl) (ls' := [(10, .int _), (8, .long _), (7, .int _), (5, .long _), (3, .long _), (0, .ref _), (1, .int _), (2, .int _)]) rfl ?_
          have g := inn 5 0 (by omega) (by omega) e
          rw [rWy] at g
          first | (rw [if_pos h58] at g; exact g) | (rw [if_neg h58] at g; exact g)
        · skip
          refine GG.lconst (v := 1) e_X11_slips_61 rfl ?_
          refine GG.goto (tgt := 66) e_X11_slips_62 rfl ?_
          refine GG.lstore e_X11_slips_66 (Nat.le_of_ble_eq_true rfl) (ls' := [(8, .long _), (7, .int _), (5, .long _), (3, .long _), (0, .ref _), (1, .int _), (2, .int _)]) rfl ?_
          refine GG.iconst (v := 0) e_X11_slips_68 rfl ?_
          refine GG.istore e_X11_slips_69 (Nat.le_of_ble_eq_true rfl) (ls' := [(10, .int _), (8, .long _), (7, .int _), (5, .long _), (3, .long _), (0, .ref _), (1, .int _), (2, .int _)]) rfl ?_
          have g := inn 5 0 (by omega) (by omega) e
          rw [rWy] at g
          first | (rw [if_pos h58] at g; exact g) | (rw [if_neg h58] at g; exact g)
  refine SPC.of (by decide +kernel) (Nat.le_of_ble_eq_true rfl) (ls := [(0, .ref (63)), (1, .int (c)), (2, .int (o))]) rfl ?_
  refine GG.iload_n e_X11_slips_0 (i := 1) rfl 1 rfl ?_
  refine GG.iconst (v := 0) e_X11_slips_1 rfl ?_
  refine GG.bipush (v := 99) e_X11_slips_2 rfl ?_
  refine GG.callS (d' := 0) (as := [.int _, .int _, .int _]) e_X11_slips_4 ml_X11_51 mf_X11_in ms_X11_in rfl (by decide) (Nat.le_of_ble_eq_true rfl) rfl ?_
  refine s_X11_inO ?_
  refine GG.if_eq (tgt := 20) e_X11_slips_7 rfl (fun h7 => ?_) (fun h7 => ?_)
  · skip
    have oo := inT h7
    refine GG.aload_n e_X11_slips_20 (i := 0) rfl 0 rfl ?_
    refine GG.bipush (v := -2) e_X11_slips_21 rfl ?_
    refine GG.callV (d' := 0) (a := 63) (as := [.int _]) e_X11_slips_23 ml_X11_55 mf_X11_refuse mv_X11_refuse (rc_X11 i_X11_63) rfl (by decide) (Nat.le_of_ble_eq_true rfl) rfl ?_
    refine s_X11_refB ?_
    refine GG.iret e_X11_slips_26 rfl rfl ?_
    exact hbad (by simp [oo])
  · skip
    have o1 := inF h7
    refine GG.iload_n e_X11_slips_10 (i := 2) rfl 2 rfl ?_
    refine GG.iconst (v := 0) e_X11_slips_11 rfl ?_
    refine GG.bipush (v := 10) e_X11_slips_12 rfl ?_
    refine GG.callS (d' := 0) (as := [.int _, .int _, .int _]) e_X11_slips_14 ml_X11_51 mf_X11_in ms_X11_in rfl (by decide) (Nat.le_of_ble_eq_true rfl) rfl ?_
    refine s_X11_inO ?_
    refine GG.if_ne (tgt := 27) e_X11_slips_17 rfl (fun h17 => ?_) (fun h17 => ?_)
    · skip
      have o2 := inF h17
      refine GG.aload_n e_X11_slips_27 (i := 0) rfl 0 rfl ?_
      refine GG.callV (d' := 0) (a := 63) (as := []) e_X11_slips_28 ml_X11_168 mf_X11_layTried mv_X11_layTried (rc_X11 i_X11_63) rfl (by decide) (Nat.le_of_ble_eq_true rfl) rfl ?_
      refine s_X11_layTried ?_
      refine GG.lconst (v := 0) e_X11_slips_31 rfl ?_
      refine GG.lstore_n e_X11_slips_32 (i := 3) rfl (Nat.le_of_ble_eq_true rfl) (ls' := [(3, .long _), (0, .ref _), (1, .int _), (2, .int _)]) rfl ?_
      refine GG.lconst (v := 0) e_X11_slips_33 rfl ?_
      refine GG.lstore e_X11_slips_34 (Nat.le_of_ble_eq_true rfl) (ls' := [(5, .long _), (3, .long _), (0, .ref _), (1, .int _), (2, .int _)]) rfl ?_
      refine GG.iconst (v := 0) e_X11_slips_36 rfl ?_
      refine GG.istore e_X11_slips_37 (Nat.le_of_ble_eq_true rfl) (ls' := [(7, .int _), (5, .long _), (3, .long _), (0, .ref _), (1, .int _), (2, .int _)]) rfl ?_
      exact lp ⟨o1, o2⟩ 17 0 _ _ (by omega) (by omega) gTr.cr (TT.cr hR)
    · skip
      have oo := inT h17
      refine GG.aload_n e_X11_slips_20 (i := 0) rfl 0 rfl ?_
      refine GG.bipush (v := -2) e_X11_slips_21 rfl ?_
      refine GG.callV (d' := 0) (a := 63) (as := [.int _]) e_X11_slips_23 ml_X11_55 mf_X11_refuse mv_X11_refuse (rc_X11 i_X11_63) rfl (by decide) (Nat.le_of_ble_eq_true rfl) rfl ?_
      refine s_X11_refB ?_
      refine GG.iret e_X11_slips_26 rfl rfl ?_
      exact hbad (by simp [oo])
theorem s_X11_reigns (hR : MR μ P A) (hbad : (oB z 0 999999 || oB v 0 60) = true → Q (some (.int (-2))) (rRf μ 0))
    (hok : ∀ n, v = nI n → n ≤ 60 → oB z 0 999999 = false → ∀ ν, gSm μ ν → Q (some (.int (mRei (rV μ 0) (mrd μ 64 7) A (mrd μ 64 10) P (mrd μ 64 9) z.toInt64 n).2.2)) ν) : SPC 5 MX11_reigns [.ref 63, .int z, .int v] μ Q := by
  have hP7 := hR.2.1
  have hA4 := hR.2.2.2
  generalize hf : mRei (rV μ 0) (mrd μ 64 7) A (mrd μ 64 10) P (mrd μ 64 9) z.toInt64 = f at hok
  have lp : ∀ N, (∀ ν, gSm μ ν → Q (some (.int (f N).2.2)) ν) → N ≤ 60 → ∀ n j x s ν V, N - j < n → j ≤ N → f j = (x, V, s) → gTr μ ν → TT ν V P A (mrd μ 64 7) → GG 5 MX11_reigns 40 [(6, .int (nI j)), (5, .int s), (3, .long x), (0, .ref 63), (1, .int z), (2, .int (nI N))] [] ν Q := by
    intro N hq hN n
    induction n with
    | zero => intro j x s ν V h; omega
    | succ n ih =>
      intro j x s ν V hn hj hl hν hTT
      have nx : ∀ ν' V', j < N → gTr μ ν' → TT ν' V' P A (mrd μ 64 7) → V' = (if mIn (rIx (rXx x)) P = true then uV V (rIx (rXx x)).toNatClampNeg (rAx (rXx x)) else V) → GG 5 MX11_reigns 102 [(7, .int (rIx (rXx x))), (3, .long (rXx x)), (6, .int (nI j)), (5, .int s), (0, .ref 63), (1, .int z), (2, .int (nI N))] [] ν' Q := by
        intro ν' V' e hν' hT' hV'
        refine GG.iload e_X11_reigns_102 3 rfl ?_
        refine GG.aload_n e_X11_reigns_104 (i := 0) rfl 4 rfl ?_
        refine GG.sipush (v := 537) e_X11_reigns_105 rfl ?_
        refine GG.aload_n e_X11_reigns_108 (i := 0) rfl 4 rfl ?_
        refine GG.getR (b := 64) e_X11_reigns_109 fl_X11_7 (sf_X11_0 i_X11_63) ?_
        refine GG.bipush (v := 9) e_X11_reigns_112 rfl ?_
        refine GG.ialoadV (k := 9) (v := mrd μ 64 9) e_X11_reigns_114 (sa_X11_0 i_X11_63) (rfl) (by omega) (Nat.le_of_ble_eq_true rfl) (hν'.row (by omega)) ?_
        refine GG.iload e_X11_reigns_115 2 rfl ?_
        refine GG.iadd e_X11_reigns_117 ?_
        refine GG.callV (d' := 4) (a := 63) (as := [.int _, .int _]) e_X11_reigns_118 ml_X11_153 mf_X11_soundAt mv_X11_soundAt (rc_X11 i_X11_63) rfl (by decide) (Nat.le_of_ble_eq_true rfl) rfl ?_
        refine s_X11_soundAtS (B := 537) (hν'.mr hR) (by omega) (fun ν2 hν2 => ?_)
        rw [hT'.st, hν'.row (show 10 < 537 by omega)]
        refine GG.iadd e_X11_reigns_121 ?_
        refine GG.istore e_X11_reigns_122 (Nat.le_of_ble_eq_true rfl) (ls' := [(5, .int _), (7, .int _), (3, .long _), (6, .int _), (0, .ref _), (1, .int _), (2, .int _)]) rfl ?_
        refine GG.iinc e_X11_reigns_124 3 rfl (v := _) (by first | exact nI_s _ | exact nI_d _ | rfl) (Nat.le_of_ble_eq_true rfl) (ls' := [(6, .int _), (5, .int _), (7, .int _), (3, .long _), (0, .ref _), (1, .int _), (2, .int _)]) rfl ?_
        refine GG.goto (tgt := 40) e_X11_reigns_127 rfl ?_
        refine GG.perm [0, 1, 3, 4, 5, 6] rfl ?_
        refine ih (j + 1) _ _ _ _ (by omega) (by omega) ?_ (hν'.l9 hν2) (hT'.l9 hν2)
        rw [← hf] at hl
        rw [← hf, mRei, hl, hV']
      refine GG.iload e_X11_reigns_40 0 rfl ?_
      refine GG.iload_n e_X11_reigns_42 (i := 2) rfl 5 rfl ?_
      refine GG.icmp_ge (tgt := 130) e_X11_reigns_43 rfl (fun h43 => ?_) (fun h43 => ?_)
      · skip
        have e : j = N := by have := nle h43 (by omega) (by omega); omega
        subst e
        refine GG.iload e_X11_reigns_130 1 rfl ?_
        refine GG.iret e_X11_reigns_132 rfl rfl ?_
        exact qI (hq ν hν.sm) (by rw [hl])
      · skip
        have e := nnle h43 (by omega) (by omega)
        refine GG.lload_n e_X11_reigns_46 (i := 3) rfl 2 rfl ?_
        refine GG.ldc2 e_X11_reigns_47 kc_X11_221 ?_
        refine GG.lmul e_X11_reigns_50 ?_
        refine GG.ldc2 e_X11_reigns_51 kc_X11_223 ?_
        refine GG.ladd e_X11_reigns_54 ?_
        refine GG.ldc2 e_X11_reigns_55 kc_X11_225 ?_
        refine GG.lrem e_X11_reigns_58 (by decide) ?_
        refine GG.lstore_n e_X11_reigns_59 (i := 3) rfl (Nat.le_of_ble_eq_true rfl) (ls' := [(3, .long _), (6, .int _), (5, .int _), (0, .ref _), (1, .int _), (2, .int _)]) rfl ?_
        refine GG.lload_n e_X11_reigns_60 (i := 3) rfl 0 rfl ?_
        refine GG.ldc2 e_X11_reigns_61 kc_X11_227 ?_
        refine GG.ldiv e_X11_reigns_64 (by decide) ?_
        refine GG.ldc2 e_X11_reigns_65 kc_X11_229 ?_
        refine GG.lrem e_X11_reigns_68 (by decide) ?_
        refine GG.l2i e_X11_reigns_69 ?_
        refine GG.istore e_X11_reigns_70 (Nat.le_of_ble_eq_true rfl) (ls' := [(7, .int _), (3, .long _), (6, .int _), (5, .int _), (0, .ref _), (1, .int _), (2, .int _)]) rfl ?_
        refine GG.aload_n e_X11_reigns_72 (i := 0) rfl 4 rfl ?_
        refine GG.iload e_X11_reigns_73 0 rfl ?_
        refine GG.callV (d' := 1) (a := 63) (as := [.int _]) e_X11_reigns_75 ml_X11_159 mf_X11_isOne mv_X11_isOne (rc_X11 i_X11_63) rfl (by decide) (Nat.le_of_ble_eq_true rfl) rfl ?_
        refine s_X11_isOne (hν.mr hR) ?_
        refine GG.if_eq (tgt := 102) e_X11_reigns_78 rfl (fun h78 => ?_) (fun h78 => ?_)
        · skip
          have g : mIn (rIx (rXx x)) P = false := (bI_0 _).mp h78
          refine GG.perm [0, 1, 2, 3, 4, 5, 6] rfl ?_
          first | exact nx (mwr ν 64 (537 + k) (rAx (rXx x))) (uV V k (rAx (rXx x))) e (hν.wr (by omega)) (hTT.sw (k := k) (by omega) hP7 hA4) (by rw [if_pos g, hik, nI_clamp (by omega)]) | exact nx ν V e hν hTT (by rw [if_neg (by rw [g]; decide)])
        · skip
          have g : mIn (rIx (rXx x)) P = true := (bI_n0 _).mp h78
          obtain ⟨k, hk, hik⟩ := mIn_of g (by omega)
          refine GG.aload_n e_X11_reigns_81 (i := 0) rfl 4 rfl ?_
          refine GG.getR (b := 64) e_X11_reigns_82 fl_X11_7 (sf_X11_0 i_X11_63) ?_
          refine GG.sipush (v := 537) e_X11_reigns_85 rfl ?_
          refine GG.iload e_X11_reigns_88 0 rfl ?_
          refine GG.iadd e_X11_reigns_90 ?_
          refine GG.lload_n e_X11_reigns_91 (i := 3) rfl 1 rfl ?_
          refine GG.ldc2 e_X11_reigns_92 kc_X11_231 ?_
          refine GG.ldiv e_X11_reigns_95 (by decide) ?_
          refine GG.ldc2 e_X11_reigns_96 kc_X11_233 ?_
          refine GG.lrem e_X11_reigns_99 (by decide) ?_
          refine GG.l2i e_X11_reigns_100 ?_
          refine GG.iastoreE (k := 537 + k) e_X11_reigns_101 (sa_X11_0 i_X11_63) ((show 537 + rIx (rXx x) = nI (537 + k) by rw [hik, show (537 : Int32) = nI 537 from rfl, nI_add])) (by omega) (Nat.le_of_ble_eq_true rfl) ?_
          refine GG.perm [0, 1, 2, 3, 4, 5, 6] rfl ?_
          first | exact nx (mwr ν 64 (537 + k) (rAx (rXx x))) (uV V k (rAx (rXx x))) e (hν.wr (by omega)) (hTT.sw (k := k) (by omega) hP7 hA4) (by rw [if_pos g, hik, nI_clamp (by omega)]) | exact nx ν V e hν hTT (by rw [if_neg (by rw [g]; decide)])
  refine SPC.of (by decide +kernel) (Nat.le_of_ble_eq_true rfl) (ls := [(0, .ref (63)), (1, .int (z)), (2, .int (v))]) rfl ?_
  refine GG.iload_n e_X11_reigns_0 (i := 1) rfl 1 rfl ?_
  refine GG.iconst (v := 0) e_X11_reigns_1 rfl ?_
  refine GG.ldcI e_X11_reigns_2 kc_X11_220 ?_
  refine GG.callS (d' := 0) (as := [.int _, .int _, .int _]) e_X11_reigns_4 ml_X11_51 mf_X11_in ms_X11_in rfl (by decide) (Nat.le_of_ble_eq_true rfl) rfl ?_
  refine s_X11_inO ?_
  refine GG.if_eq (tgt := 20) e_X11_reigns_7 rfl (fun h7 => ?_) (fun h7 => ?_)
  · skip
    have oo := inT h7
    refine GG.aload_n e_X11_reigns_20 (i := 0) rfl 0 rfl ?_
    refine GG.bipush (v := -2) e_X11_reigns_21 rfl ?_
    refine GG.callV (d' := 0) (a := 63) (as := [.int _]) e_X11_reigns_23 ml_X11_55 mf_X11_refuse mv_X11_refuse (rc_X11 i_X11_63) rfl (by decide) (Nat.le_of_ble_eq_true rfl) rfl ?_
    refine s_X11_refB ?_
    refine GG.iret e_X11_reigns_26 rfl rfl ?_
    exact hbad (by simp [oo])
  · skip
    have o1 := inF h7
    refine GG.iload_n e_X11_reigns_10 (i := 2) rfl 2 rfl ?_
    refine GG.iconst (v := 0) e_X11_reigns_11 rfl ?_
    refine GG.bipush (v := 60) e_X11_reigns_12 rfl ?_
    refine GG.callS (d' := 0) (as := [.int _, .int _, .int _]) e_X11_reigns_14 ml_X11_51 mf_X11_in ms_X11_in rfl (by decide) (Nat.le_of_ble_eq_true rfl) rfl ?_
    refine s_X11_inO ?_
    refine GG.if_ne (tgt := 27) e_X11_reigns_17 rfl (fun h17 => ?_) (fun h17 => ?_)
    · skip
      obtain ⟨n, rfl, g1, g2⟩ := oB_n (A := 0) (B := 60) (inF h17) rfl rfl (by omega) (by omega)
      refine GG.aload_n e_X11_reigns_27 (i := 0) rfl 0 rfl ?_
      refine GG.callV (d' := 0) (a := 63) (as := []) e_X11_reigns_28 ml_X11_168 mf_X11_layTried mv_X11_layTried (rc_X11 i_X11_63) rfl (by decide) (Nat.le_of_ble_eq_true rfl) rfl ?_
      refine s_X11_layTried ?_
      refine GG.iload_n e_X11_reigns_31 (i := 1) rfl 1 rfl ?_
      refine GG.i2l e_X11_reigns_32 ?_
      refine GG.lstore_n e_X11_reigns_33 (i := 3) rfl (Nat.le_of_ble_eq_true rfl) (ls' := [(3, .long _), (0, .ref _), (1, .int _), (2, .int _)]) rfl ?_
      refine GG.iconst (v := 0) e_X11_reigns_34 rfl ?_
      refine GG.istore e_X11_reigns_35 (Nat.le_of_ble_eq_true rfl) (ls' := [(5, .int _), (3, .long _), (0, .ref _), (1, .int _), (2, .int _)]) rfl ?_
      refine GG.iconst (v := 0) e_X11_reigns_37 rfl ?_
      refine GG.istore e_X11_reigns_38 (Nat.le_of_ble_eq_true rfl) (ls' := [(6, .int _), (5, .int _), (3, .long _), (0, .ref _), (1, .int _), (2, .int _)]) rfl ?_
      exact lp n (hok n rfl g2 o1) g2 (n + 1) 0 _ _ _ _ (by omega) (by omega) (by rw [← hf]; rfl) gTr.cr (TT.cr hR)
    · skip
      have oo := inT h17
      refine GG.aload_n e_X11_reigns_20 (i := 0) rfl 0 rfl ?_
      refine GG.bipush (v := -2) e_X11_reigns_21 rfl ?_
      refine GG.callV (d' := 0) (a := 63) (as := [.int _]) e_X11_reigns_23 ml_X11_55 mf_X11_refuse mv_X11_refuse (rc_X11 i_X11_63) rfl (by decide) (Nat.le_of_ble_eq_true rfl) rfl ?_
      refine s_X11_refB ?_
      refine GG.iret e_X11_reigns_26 rfl rfl ?_
      exact hbad (by simp [oo])
def rLn (μ : gM) (P A : Nat) (h : Int64) : Int64 := mFo (fun k w => (if w = 0 then mrd μ 64 (27 + k) else if w = 1 then mrd μ 64 (31 + k) else (mrd μ 64 7 >>> (nI k &&& 31)) &&& 1).toInt64) 3 A (mFo (fun k w => (if w = 0 then mrd μ 64 (12 + k) else if w = 1 then mrd μ 64 (19 + k) else mrd μ 64 k).toInt64) 3 P h)
def rJn (μ : gM) (p n : Nat) (h : Int64) : Int64 := mFw (fun k => (mrd μ 64 (p + k)).toInt64) n h
theorem s_X11_digest (hR : MR μ P A) (hT : mrd μ 64 35 = nI T) (hT6 : T ≤ 6) (hN : mrd μ 64 48 = nI N) (hN6 : N ≤ 6) (hM : mrd μ 64 73 = nI M) (hM6 : M ≤ 6)
    (hQ : Q (some (.long (31 * (31 * rJn μ 74 (4 * M) (rJn μ 49 (4 * N) (rJn μ 36 (2 * T) (rLn μ P A (mFw (fun k => (rNm μ k).toInt64) 11 1559)))) + mrL μ 63 3) + mrL μ 63 4))) μ) : SPC 2 MX11_digest [.ref 63] μ Q := by
  have hP7 := hR.2.1
  have hA4 := hR.2.2.2
  unfold rLn rJn at hQ
  generalize hp : (fun (k w : Nat) => (if w = 0 then mrd μ 64 (12 + k) else if w = 1 then mrd μ 64 (19 + k) else mrd μ 64 k).toInt64) = fp at hQ
  generalize ha : (fun (k w : Nat) => (if w = 0 then mrd μ 64 (27 + k) else if w = 1 then mrd μ 64 (31 + k) else (mrd μ 64 7 >>> (nI k &&& 31)) &&& 1).toInt64) = fa at hQ
  generalize hn : (fun k => (rNm μ k).toInt64) = fn at hQ
  have lp3 : ∀ n i, A - i < n → i ≤ A → GG 2 MX11_digest 98 [(3, .int (nI i)), (1, .long (mFo fa 3 i (mFo fp 3 P (mFw fn 11 1559)))), (0, .ref 63)] [] μ Q := by
    intro n
    induction n with
    | zero => intro i h; omega
    | succ n ih =>
      intro i hn' hi
      refine GG.iload_n e_X11_digest_98 (i := 3) rfl 0 rfl ?_
      refine GG.aload_n e_X11_digest_99 (i := 0) rfl 2 rfl ?_
      refine GG.getR (b := 64) e_X11_digest_100 fl_X11_7 (sf_X11_0 i_X11_63) ?_
      refine GG.bipush (v := 26) e_X11_digest_103 rfl ?_
      refine GG.ialoadV (k := 26) (v := nI A) e_X11_digest_105 (sa_X11_0 i_X11_63) (rfl) (by omega) (Nat.le_of_ble_eq_true rfl) (hR.2.2.1) ?_
      refine GG.icmp_ge (tgt := 164) e_X11_digest_106 rfl (fun h106 => ?_) (fun h106 => ?_)
      · skip
        have e : i = A := by have := nle h106 (by omega) (by omega); omega
        subst e
        refine GG.aload_n e_X11_digest_164 (i := 0) rfl 2 rfl ?_
        refine GG.lload_n e_X11_digest_165 (i := 1) rfl 1 rfl ?_
        refine GG.bipush (v := 36) e_X11_digest_166 rfl ?_
        refine GG.iconst (v := 2) e_X11_digest_168 rfl ?_
        refine GG.aload_n e_X11_digest_169 (i := 0) rfl 2 rfl ?_
        refine GG.getR (b := 64) e_X11_digest_170 fl_X11_7 (sf_X11_0 i_X11_63) ?_
        refine GG.bipush (v := 35) e_X11_digest_173 rfl ?_
        refine GG.ialoadV (k := 35) (v := nI T) e_X11_digest_175 (sa_X11_0 i_X11_63) (rfl) (by omega) (Nat.le_of_ble_eq_true rfl) (hT) ?_
        refine GG.imul e_X11_digest_176 ?_
        refine GG.top (show 2 * nI T = nI (2 * T) from by rw [show (2 : Int32) = nI 2 from rfl, pk_mul]) ?_
        refine GG.callV (d' := 0) (a := 63) (as := [.long _, .int _, .int _]) e_X11_digest_177 ml_X11_242 mf_X11_join mv_X11_join (rc_X11 i_X11_63) rfl (by decide) (Nat.le_of_ble_eq_true rfl) rfl ?_
        refine s_X11_join (M := 36) (N := 2 * T) (by omega) ?_
        refine GG.lstore_n e_X11_digest_180 (i := 1) rfl (Nat.le_of_ble_eq_true rfl) (ls' := [(1, .long _), (3, .int _), (0, .ref _)]) rfl ?_
        refine GG.aload_n e_X11_digest_181 (i := 0) rfl 2 rfl ?_
        refine GG.lload_n e_X11_digest_182 (i := 1) rfl 0 rfl ?_
        refine GG.bipush (v := 49) e_X11_digest_183 rfl ?_
        refine GG.iconst (v := 4) e_X11_digest_185 rfl ?_
        refine GG.aload_n e_X11_digest_186 (i := 0) rfl 2 rfl ?_
        refine GG.getR (b := 64) e_X11_digest_187 fl_X11_7 (sf_X11_0 i_X11_63) ?_
        refine GG.bipush (v := 48) e_X11_digest_190 rfl ?_
        refine GG.ialoadV (k := 48) (v := nI N) e_X11_digest_192 (sa_X11_0 i_X11_63) (rfl) (by omega) (Nat.le_of_ble_eq_true rfl) (hN) ?_
        refine GG.imul e_X11_digest_193 ?_
        refine GG.top (show 4 * nI N = nI (4 * N) from by rw [show (4 : Int32) = nI 4 from rfl, pk_mul]) ?_
        refine GG.callV (d' := 0) (a := 63) (as := [.long _, .int _, .int _]) e_X11_digest_194 ml_X11_242 mf_X11_join mv_X11_join (rc_X11 i_X11_63) rfl (by decide) (Nat.le_of_ble_eq_true rfl) rfl ?_
        refine s_X11_join (M := 49) (N := 4 * N) (by omega) ?_
        refine GG.lstore_n e_X11_digest_197 (i := 1) rfl (Nat.le_of_ble_eq_true rfl) (ls' := [(1, .long _), (3, .int _), (0, .ref _)]) rfl ?_
        refine GG.aload_n e_X11_digest_198 (i := 0) rfl 2 rfl ?_
        refine GG.lload_n e_X11_digest_199 (i := 1) rfl 0 rfl ?_
        refine GG.bipush (v := 74) e_X11_digest_200 rfl ?_
        refine GG.iconst (v := 4) e_X11_digest_202 rfl ?_
        refine GG.aload_n e_X11_digest_203 (i := 0) rfl 2 rfl ?_
        refine GG.getR (b := 64) e_X11_digest_204 fl_X11_7 (sf_X11_0 i_X11_63) ?_
        refine GG.bipush (v := 73) e_X11_digest_207 rfl ?_
        refine GG.ialoadV (k := 73) (v := nI M) e_X11_digest_209 (sa_X11_0 i_X11_63) (rfl) (by omega) (Nat.le_of_ble_eq_true rfl) (hM) ?_
        refine GG.imul e_X11_digest_210 ?_
        refine GG.top (show 4 * nI M = nI (4 * M) from by rw [show (4 : Int32) = nI 4 from rfl, pk_mul]) ?_
        refine GG.callV (d' := 0) (a := 63) (as := [.long _, .int _, .int _]) e_X11_digest_211 ml_X11_242 mf_X11_join mv_X11_join (rc_X11 i_X11_63) rfl (by decide) (Nat.le_of_ble_eq_true rfl) rfl ?_
        refine s_X11_join (M := 74) (N := 4 * M) (by omega) ?_
        refine GG.lstore_n e_X11_digest_214 (i := 1) rfl (Nat.le_of_ble_eq_true rfl) (ls' := [(1, .long _), (3, .int _), (0, .ref _)]) rfl ?_
        refine GG.ldc2 e_X11_digest_215 kc_X11_238 ?_
        refine GG.ldc2 e_X11_digest_218 kc_X11_238 ?_
        refine GG.lload_n e_X11_digest_221 (i := 1) rfl 0 rfl ?_
        refine GG.lmul e_X11_digest_222 ?_
        refine GG.aload_n e_X11_digest_223 (i := 0) rfl 2 rfl ?_
        refine GG.getL e_X11_digest_224 fl_X11_213 (sf_X11_3 i_X11_63) ?_
        refine GG.ladd e_X11_digest_227 ?_
        refine GG.lmul e_X11_digest_228 ?_
        refine GG.aload_n e_X11_digest_229 (i := 0) rfl 2 rfl ?_
        refine GG.getL e_X11_digest_230 fl_X11_20 (sf_X11_4 i_X11_63) ?_
        refine GG.ladd e_X11_digest_233 ?_
        refine GG.lret e_X11_digest_234 rfl rfl ?_
        exact hQ
      · skip
        have e : i < A := by have := nnle h106 (by omega) (by omega); omega
        refine GG.ldc2 e_X11_digest_109 kc_X11_238 ?_
        refine GG.ldc2 e_X11_digest_112 kc_X11_238 ?_
        refine GG.ldc2 e_X11_digest_115 kc_X11_238 ?_
        refine GG.lload_n e_X11_digest_118 (i := 1) rfl 1 rfl ?_
        refine GG.lmul e_X11_digest_119 ?_
        refine GG.aload_n e_X11_digest_120 (i := 0) rfl 2 rfl ?_
        refine GG.getR (b := 64) e_X11_digest_121 fl_X11_7 (sf_X11_0 i_X11_63) ?_
        refine GG.bipush (v := 27) e_X11_digest_124 rfl ?_
        refine GG.iload_n e_X11_digest_126 (i := 3) rfl 0 rfl ?_
        refine GG.iadd e_X11_digest_127 ?_
        refine GG.ialoadE (k := 27 + i) e_X11_digest_128 (sa_X11_0 i_X11_63) (nI_add 27 i) (by omega) (Nat.le_of_ble_eq_true rfl) ?_
        refine GG.i2l e_X11_digest_129 ?_
        refine GG.ladd e_X11_digest_130 ?_
        refine GG.lmul e_X11_digest_131 ?_
        refine GG.aload_n e_X11_digest_132 (i := 0) rfl 2 rfl ?_
        refine GG.getR (b := 64) e_X11_digest_133 fl_X11_7 (sf_X11_0 i_X11_63) ?_
        refine GG.bipush (v := 31) e_X11_digest_136 rfl ?_
        refine GG.iload_n e_X11_digest_138 (i := 3) rfl 0 rfl ?_
        refine GG.iadd e_X11_digest_139 ?_
        refine GG.ialoadE (k := 31 + i) e_X11_digest_140 (sa_X11_0 i_X11_63) (nI_add 31 i) (by omega) (Nat.le_of_ble_eq_true rfl) ?_
        refine GG.i2l e_X11_digest_141 ?_
        refine GG.ladd e_X11_digest_142 ?_
        refine GG.lmul e_X11_digest_143 ?_
        refine GG.aload_n e_X11_digest_144 (i := 0) rfl 2 rfl ?_
        refine GG.getR (b := 64) e_X11_digest_145 fl_X11_7 (sf_X11_0 i_X11_63) ?_
        refine GG.bipush (v := 7) e_X11_digest_148 rfl ?_
        refine GG.ialoadE (k := 7) e_X11_digest_150 (sa_X11_0 i_X11_63) (rfl) (by omega) (Nat.le_of_ble_eq_true rfl) ?_
        refine GG.iload_n e_X11_digest_151 (i := 3) rfl 0 rfl ?_
        refine GG.ishr e_X11_digest_152 ?_
        refine GG.iconst (v := 1) e_X11_digest_153 rfl ?_
        refine GG.iand e_X11_digest_154 ?_
        refine GG.i2l e_X11_digest_155 ?_
        refine GG.ladd e_X11_digest_156 ?_
        refine GG.lstore_n e_X11_digest_157 (i := 1) rfl (Nat.le_of_ble_eq_true rfl) (ls' := [(1, .long _), (3, .int _), (0, .ref _)]) rfl ?_
        refine GG.iinc e_X11_digest_158 1 rfl (v := _) (by first | exact nI_s _ | exact nI_d _ | rfl) (Nat.le_of_ble_eq_true rfl) (ls' := [(3, .int _), (1, .long _), (0, .ref _)]) rfl ?_
        refine GG.goto (tgt := 98) e_X11_digest_161 rfl ?_
        have g := ih (i + 1) (by omega) (by omega)
        rw [mFo, mFw, mFw, mFw, mFw, ← ha] at g
        rw [← ha]
        exact g
  have lp2 : ∀ n i, P - i < n → i ≤ P → GG 2 MX11_digest 33 [(3, .int (nI i)), (1, .long (mFo fp 3 i (mFw fn 11 1559))), (0, .ref 63)] [] μ Q := by
    intro n
    induction n with
    | zero => intro i h; omega
    | succ n ih =>
      intro i hn' hi
      refine GG.iload_n e_X11_digest_33 (i := 3) rfl 0 rfl ?_
      refine GG.aload_n e_X11_digest_34 (i := 0) rfl 2 rfl ?_
      refine GG.getR (b := 64) e_X11_digest_35 fl_X11_7 (sf_X11_0 i_X11_63) ?_
      refine GG.bipush (v := 11) e_X11_digest_38 rfl ?_
      refine GG.ialoadV (k := 11) (v := nI P) e_X11_digest_40 (sa_X11_0 i_X11_63) (rfl) (by omega) (Nat.le_of_ble_eq_true rfl) (hR.1) ?_
      refine GG.icmp_ge (tgt := 96) e_X11_digest_41 rfl (fun h41 => ?_) (fun h41 => ?_)
      · skip
        have e : i = P := by have := nle h41 (by omega) (by omega); omega
        subst e
        refine GG.iconst (v := 0) e_X11_digest_96 rfl ?_
        refine GG.istore_n e_X11_digest_97 (i := 3) rfl (Nat.le_of_ble_eq_true rfl) (ls' := [(3, .int _), (1, .long _), (0, .ref _)]) rfl ?_
        exact lp3 (A + 1) 0 (by omega) (by omega)
      · skip
        have e : i < P := by have := nnle h41 (by omega) (by omega); omega
        refine GG.ldc2 e_X11_digest_44 kc_X11_238 ?_
        refine GG.ldc2 e_X11_digest_47 kc_X11_238 ?_
        refine GG.ldc2 e_X11_digest_50 kc_X11_238 ?_
        refine GG.lload_n e_X11_digest_53 (i := 1) rfl 1 rfl ?_
        refine GG.lmul e_X11_digest_54 ?_
        refine GG.aload_n e_X11_digest_55 (i := 0) rfl 2 rfl ?_
        refine GG.getR (b := 64) e_X11_digest_56 fl_X11_7 (sf_X11_0 i_X11_63) ?_
        refine GG.bipush (v := 12) e_X11_digest_59 rfl ?_
        refine GG.iload_n e_X11_digest_61 (i := 3) rfl 0 rfl ?_
        refine GG.iadd e_X11_digest_62 ?_
        refine GG.ialoadE (k := 12 + i) e_X11_digest_63 (sa_X11_0 i_X11_63) (nI_add 12 i) (by omega) (Nat.le_of_ble_eq_true rfl) ?_
        refine GG.i2l e_X11_digest_64 ?_
        refine GG.ladd e_X11_digest_65 ?_
        refine GG.lmul e_X11_digest_66 ?_
        refine GG.aload_n e_X11_digest_67 (i := 0) rfl 2 rfl ?_
        refine GG.getR (b := 64) e_X11_digest_68 fl_X11_7 (sf_X11_0 i_X11_63) ?_
        refine GG.bipush (v := 19) e_X11_digest_71 rfl ?_
        refine GG.iload_n e_X11_digest_73 (i := 3) rfl 0 rfl ?_
        refine GG.iadd e_X11_digest_74 ?_
        refine GG.ialoadE (k := 19 + i) e_X11_digest_75 (sa_X11_0 i_X11_63) (nI_add 19 i) (by omega) (Nat.le_of_ble_eq_true rfl) ?_
        refine GG.i2l e_X11_digest_76 ?_
        refine GG.ladd e_X11_digest_77 ?_
        refine GG.lmul e_X11_digest_78 ?_
        refine GG.aload_n e_X11_digest_79 (i := 0) rfl 2 rfl ?_
        refine GG.getR (b := 64) e_X11_digest_80 fl_X11_7 (sf_X11_0 i_X11_63) ?_
        refine GG.iconst (v := 0) e_X11_digest_83 rfl ?_
        refine GG.iload_n e_X11_digest_84 (i := 3) rfl 0 rfl ?_
        refine GG.iadd e_X11_digest_85 ?_
        refine GG.ialoadE (k := i) e_X11_digest_86 (sa_X11_0 i_X11_63) ((by rw [show (0 : Int32) = nI 0 from rfl, nI_add, Nat.zero_add])) (by omega) (Nat.le_of_ble_eq_true rfl) ?_
        refine GG.i2l e_X11_digest_87 ?_
        refine GG.ladd e_X11_digest_88 ?_
        refine GG.lstore_n e_X11_digest_89 (i := 1) rfl (Nat.le_of_ble_eq_true rfl) (ls' := [(1, .long _), (3, .int _), (0, .ref _)]) rfl ?_
        refine GG.iinc e_X11_digest_90 1 rfl (v := _) (by first | exact nI_s _ | exact nI_d _ | rfl) (Nat.le_of_ble_eq_true rfl) (ls' := [(3, .int _), (1, .long _), (0, .ref _)]) rfl ?_
        refine GG.goto (tgt := 33) e_X11_digest_93 rfl ?_
        have g := ih (i + 1) (by omega) (by omega)
        rw [mFo, mFw, mFw, mFw, mFw, ← hp] at g
        rw [← hp]
        exact g
  have lp1 : ∀ n i, 11 - i < n → i ≤ 11 → GG 2 MX11_digest 6 [(3, .int (nI i)), (1, .long (mFw fn i 1559)), (0, .ref 63)] [] μ Q := by
    intro n
    induction n with
    | zero => intro i h; omega
    | succ n ih =>
      intro i hn' hi
      refine GG.iload_n e_X11_digest_6 (i := 3) rfl 0 rfl ?_
      refine GG.bipush (v := 11) e_X11_digest_7 rfl ?_
      refine GG.icmp_ge (tgt := 31) e_X11_digest_9 rfl (fun h9 => ?_) (fun h9 => ?_)
      · skip
        have e : i = 11 := by have := nle (a := 11) (b := i) h9 (by omega) (by omega); omega
        subst e
        refine GG.iconst (v := 0) e_X11_digest_31 rfl ?_
        refine GG.istore_n e_X11_digest_32 (i := 3) rfl (Nat.le_of_ble_eq_true rfl) (ls' := [(3, .int _), (1, .long _), (0, .ref _)]) rfl ?_
        exact lp2 (P + 1) 0 (by omega) (by omega)
      · skip
        have e := nnle (a := 11) (b := i) h9 (by omega) (by omega)
        refine GG.ldc2 e_X11_digest_12 kc_X11_238 ?_
        refine GG.lload_n e_X11_digest_15 (i := 1) rfl 1 rfl ?_
        refine GG.lmul e_X11_digest_16 ?_
        refine GG.aload_n e_X11_digest_17 (i := 0) rfl 2 rfl ?_
        refine GG.iload_n e_X11_digest_18 (i := 3) rfl 0 rfl ?_
        refine GG.callV (d' := 1) (a := 63) (as := [.int _]) e_X11_digest_19 ml_X11_235 mf_X11_countOf mv_X11_countOf (rc_X11 i_X11_63) rfl (by decide) (Nat.le_of_ble_eq_true rfl) rfl ?_
        refine s_X11_countOf (by omega) ?_
        refine GG.i2l e_X11_digest_22 ?_
        refine GG.ladd e_X11_digest_23 ?_
        refine GG.lstore_n e_X11_digest_24 (i := 1) rfl (Nat.le_of_ble_eq_true rfl) (ls' := [(1, .long _), (3, .int _), (0, .ref _)]) rfl ?_
        refine GG.iinc e_X11_digest_25 1 rfl (v := _) (by first | exact nI_s _ | exact nI_d _ | rfl) (Nat.le_of_ble_eq_true rfl) (ls' := [(3, .int _), (1, .long _), (0, .ref _)]) rfl ?_
        refine GG.goto (tgt := 6) e_X11_digest_28 rfl ?_
        have g := ih (i + 1) (by omega) (by omega)
        rw [mFw, ← hn] at g
        rw [← hn]
        exact g
  refine SPC.of (by decide +kernel) (Nat.le_of_ble_eq_true rfl) (ls := [(0, .ref (63))]) rfl ?_
  refine GG.ldc2 e_X11_digest_0 kc_X11_240 ?_
  refine GG.lstore_n e_X11_digest_3 (i := 1) rfl (Nat.le_of_ble_eq_true rfl) (ls' := [(1, .long _), (0, .ref _)]) rfl ?_
  refine GG.iconst (v := 0) e_X11_digest_4 rfl ?_
  refine GG.istore_n e_X11_digest_5 (i := 3) rfl (Nat.le_of_ble_eq_true rfl) (ls' := [(3, .int _), (1, .long _), (0, .ref _)]) rfl ?_
  exact lp1 12 0 (by omega) (by omega)
end S42
