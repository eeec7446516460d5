/-! ROWS, PAST, HOUSES -/
def mDo (μ : gM) (p : Nat) : gM := (fun c j => if c = p + 1 ∧ j < 70 then μ.1 (p + 1) (j + 10) else if c = p ∧ j = 0 then nI 7 else μ.1 c j, μ.2)
theorem mrd_Do (μ : gM) (p c j : Nat) : mrd (mDo μ p) c j = if c = p + 1 ∧ j < 70 then mrd μ (p + 1) (j + 10) else if c = p ∧ j = 0 then nI 7 else mrd μ c j := rfl
def mHc (μ : gM) (s d : Nat) : gM := mRc (mRc (mRc (mRc (mLc μ (s + 1) (d + 1)) (s + 7) (d + 7) 24) (s + 9) (d + 9) 24) (s + 11) (d + 11) 24) (s + 13) (d + 13) 80
def mHs (μ : gM) (h : Nat) (w : Int32) : gM := mwr (mwr (mwr (mwr (mSt μ (h + 1) w) (h + 7) 0 0) (h + 9) 0 0) (h + 11) 0 0) (h + 13) 0 0
section S18
variable {μ : gM} {Q : Option Value → gM → Prop} {r p h b P A N U : Nat} {i c a : Int32}
theorem s_X6_add {x y z w : Int32} (hI_X6_r : gI_X6 r) (hN : mrd μ r 0 = nI N) (hN6 : N ≤ 6) (hn : N = 6 → Q (some (.int 0)) μ) (hy : N < 6 → Q (some (.int 1)) (mwr (mwr (mwr (mwr (mwr μ (r + 1) (4 * N) x) (r + 1) (4 * N + 1) y) (r + 1) (4 * N + 2) z) (r + 1) (4 * N + 3) w) r 0 (nI (N + 1)))) : SPC 1 MX6_add [.ref r, .int x, .int y, .int z, .int w] μ Q := by
  have e4 : nI N * 4 = nI (4 * N) := by rw [show (4 : Int32) = nI 4 from rfl, pk_mul, Nat.mul_comm]
  refine SPC.of (by decide +kernel) (Nat.le_of_ble_eq_true rfl) (ls := [(0, .ref (r)), (1, .int (x)), (2, .int (y)), (3, .int (z)), (4, .int (w))]) rfl ?_
  refine GG.aload_n e_X6_add_0 (i := 0) rfl 0 rfl ?_
  refine GG.getIv (v := nI N) e_X6_add_1 fl_X6_15 (sf_X6_0 hI_X6_r) (hN) ?_
  refine GG.iconst (v := 0) e_X6_add_4 rfl ?_
  refine GG.iconst (v := 5) e_X6_add_5 rfl ?_
  refine GG.callN (d' := 0) (as := [.int _, .int _, .int _]) e_X6_add_6 ml_X6_19 mf_X10_outside ms_X10_outside rfl (by decide) (Nat.le_of_ble_eq_true rfl) rfl ?_
  refine s_X10_outside ?_
  refine GG.if_eq (tgt := 14) e_X6_add_9 rfl (fun h9 => ?_) (fun h9 => ?_)
  · skip
    have e : N < 6 := by rw [bI_0, decide_eq_false_iff_not, not_or] at h9; have := nnlt (a := 5) h9.2 (by omega) (by omega); omega
    refine GG.aload_n e_X6_add_14 (i := 0) rfl 0 rfl ?_
    refine GG.getIv (v := nI N) e_X6_add_15 fl_X6_15 (sf_X6_0 hI_X6_r) (hN) ?_
    refine GG.iconst (v := 4) e_X6_add_18 rfl ?_
    refine GG.imul e_X6_add_19 ?_
    refine GG.istore e_X6_add_20 (Nat.le_of_ble_eq_true rfl) (ls' := [(5, .int _), (0, .ref _), (1, .int _), (2, .int _), (3, .int _), (4, .int _)]) rfl ?_
    refine GG.aload_n e_X6_add_22 (i := 0) rfl 1 rfl ?_
    refine GG.getR (b := (r + 1)) e_X6_add_23 fl_X6_9 (sf_X6_1 hI_X6_r) ?_
    refine GG.iload e_X6_add_26 0 rfl ?_
    refine GG.iload_n e_X6_add_28 (i := 1) rfl 2 rfl ?_
    refine GG.iastoreE (k := 4 * N) e_X6_add_29 (sa_X6_1 hI_X6_r) (e4) (by omega) (Nat.le_of_ble_eq_true rfl) ?_
    refine GG.aload_n e_X6_add_30 (i := 0) rfl 1 rfl ?_
    refine GG.getR (b := (r + 1)) e_X6_add_31 fl_X6_9 (sf_X6_1 hI_X6_r) ?_
    refine GG.iload e_X6_add_34 0 rfl ?_
    refine GG.iconst (v := 1) e_X6_add_36 rfl ?_
    refine GG.iadd e_X6_add_37 ?_
    refine GG.iload_n e_X6_add_38 (i := 2) rfl 3 rfl ?_
    refine GG.iastoreE (k := 4 * N + 1) e_X6_add_39 (sa_X6_1 hI_X6_r) (by rw [e4, nI_1]) (by omega) (Nat.le_of_ble_eq_true rfl) ?_
    refine GG.aload_n e_X6_add_40 (i := 0) rfl 1 rfl ?_
    refine GG.getR (b := (r + 1)) e_X6_add_41 fl_X6_9 (sf_X6_1 hI_X6_r) ?_
    refine GG.iload e_X6_add_44 0 rfl ?_
    refine GG.iconst (v := 2) e_X6_add_46 rfl ?_
    refine GG.iadd e_X6_add_47 ?_
    refine GG.iload_n e_X6_add_48 (i := 3) rfl 4 rfl ?_
    refine GG.iastoreE (k := 4 * N + 2) e_X6_add_49 (sa_X6_1 hI_X6_r) (by rw [e4, show (2 : Int32) = nI 2 from rfl, nI_add]) (by omega) (Nat.le_of_ble_eq_true rfl) ?_
    refine GG.aload_n e_X6_add_50 (i := 0) rfl 1 rfl ?_
    refine GG.getR (b := (r + 1)) e_X6_add_51 fl_X6_9 (sf_X6_1 hI_X6_r) ?_
    refine GG.iload e_X6_add_54 0 rfl ?_
    refine GG.iconst (v := 3) e_X6_add_56 rfl ?_
    refine GG.iadd e_X6_add_57 ?_
    refine GG.iload e_X6_add_58 5 rfl ?_
    refine GG.iastoreE (k := 4 * N + 3) e_X6_add_60 (sa_X6_1 hI_X6_r) (by rw [e4, show (3 : Int32) = nI 3 from rfl, nI_add]) (by omega) (Nat.le_of_ble_eq_true rfl) ?_
    refine GG.aload_n e_X6_add_61 (i := 0) rfl 1 rfl ?_
    refine GG.dup e_X6_add_62 rfl ?_
    refine GG.getIv (v := nI N) e_X6_add_63 fl_X6_15 (sf_X6_0 hI_X6_r) (by simp [mrd_wr, hN]) ?_
    refine GG.iconst (v := 1) e_X6_add_66 rfl ?_
    refine GG.iadd e_X6_add_67 ?_
    refine GG.putI e_X6_add_68 fl_X6_15 fp_X6_0 (sf_X6_0 hI_X6_r) ?_
    refine GG.iconst (v := 1) e_X6_add_71 rfl ?_
    refine GG.zret e_X6_add_72 rfl rfl rfl ?_
    rw [nI_1]
    exact hy e
  · skip
    have e : N = 6 := by rw [bI_0, Bool.not_eq_false, decide_eq_true_eq] at h9; rcases h9 with h | h; exact absurd h (nI_pos (by omega)); have := nlt (a := 5) h (by omega) (by omega); omega
    refine GG.iconst (v := 0) e_X6_add_12 rfl ?_
    refine GG.zret e_X6_add_13 rfl rfl rfl ?_
    exact hn e
theorem s_X6_cell {x y : Nat} (hI_X6_r : gI_X6 r) (hx : x < 6) (hy : y < 4) (hQ : Q (some (.int (mrd μ (r + 1) (4 * x + y)))) μ) : SPC 1 MX6_cell [.ref r, .int (nI x), .int (nI y)] μ Q := by
  have e0 : ¬ (nI x < 0 ∨ 5 < nI x) := by
    intro q
    rcases q with q | q
    · exact nI_pos (by omega) q
    · have := nlt (a := 5) q (by omega) (by omega)
      omega
  have e1 : ¬ (nI y < 0 ∨ 3 < nI y) := by
    intro q
    rcases q with q | q
    · exact nI_pos (by omega) q
    · have := nlt (a := 3) q (by omega) (by omega)
      omega
  refine SPC.of (by decide +kernel) (Nat.le_of_ble_eq_true rfl) (ls := [(0, .ref (r)), (1, .int (nI x)), (2, .int (nI y))]) rfl ?_
  refine GG.iload_n e_X6_cell_0 (i := 1) rfl 1 rfl ?_
  refine GG.iconst (v := 0) e_X6_cell_1 rfl ?_
  refine GG.iconst (v := 5) e_X6_cell_2 rfl ?_
  refine GG.callN (d' := 0) (as := [.int _, .int _, .int _]) e_X6_cell_3 ml_X6_19 mf_X10_outside ms_X10_outside rfl (by decide) (Nat.le_of_ble_eq_true rfl) rfl ?_
  refine s_X10_outside ?_
  refine GG.if_ne (tgt := 18) e_X6_cell_6 rfl (fun h6 => absurd h6 (by rw [bI_0, decide_eq_false_iff_not]; exact fun z => z e0)) (fun h6 => ?_)
  refine GG.iload_n e_X6_cell_9 (i := 2) rfl 2 rfl ?_
  refine GG.iconst (v := 0) e_X6_cell_10 rfl ?_
  refine GG.iconst (v := 3) e_X6_cell_11 rfl ?_
  refine GG.callN (d' := 0) (as := [.int _, .int _, .int _]) e_X6_cell_12 ml_X6_19 mf_X10_outside ms_X10_outside rfl (by decide) (Nat.le_of_ble_eq_true rfl) rfl ?_
  refine s_X10_outside ?_
  refine GG.if_eq (tgt := 20) e_X6_cell_15 rfl (fun h15 => ?_) (fun h15 => absurd h15 (by rw [bI_0, decide_eq_false_iff_not]; exact fun z => z e1))
  refine GG.aload_n e_X6_cell_20 (i := 0) rfl 0 rfl ?_
  refine GG.getR (b := (r + 1)) e_X6_cell_21 fl_X6_9 (sf_X6_1 hI_X6_r) ?_
  refine GG.iload_n e_X6_cell_24 (i := 1) rfl 1 rfl ?_
  refine GG.iconst (v := 4) e_X6_cell_25 rfl ?_
  refine GG.imul e_X6_cell_26 ?_
  refine GG.iload_n e_X6_cell_27 (i := 2) rfl 2 rfl ?_
  refine GG.iadd e_X6_cell_28 ?_
  refine GG.ialoadE (k := 4 * x + y) e_X6_cell_29 (sa_X6_1 hI_X6_r) (by rw [show (4 : Int32) = nI 4 from rfl, pk_mul, nI_add, Nat.mul_comm]) (by omega) (Nat.le_of_ble_eq_true rfl) ?_
  refine GG.iret e_X6_cell_30 rfl rfl ?_
  exact hQ
theorem s_X6_forgetAll (hI_X6_r : gI_X6 r) (hQ : Q (some (.int (mrd μ r 0))) (mwr μ r 0 0)) : SPC 0 MX6_forgetAll [.ref r] μ Q := by
  refine SPC.of (by decide +kernel) (Nat.le_of_ble_eq_true rfl) (ls := [(0, .ref (r))]) rfl ?_
  refine GG.aload_n e_X6_forgetAll_0 (i := 0) rfl 0 rfl ?_
  refine GG.getI e_X6_forgetAll_1 fl_X6_15 (sf_X6_0 hI_X6_r) ?_
  refine GG.istore_n e_X6_forgetAll_4 (i := 1) rfl (Nat.le_of_ble_eq_true rfl) (ls' := [(1, .int _), (0, .ref _)]) rfl ?_
  refine GG.aload_n e_X6_forgetAll_5 (i := 0) rfl 1 rfl ?_
  refine GG.iconst (v := 0) e_X6_forgetAll_6 rfl ?_
  refine GG.putI e_X6_forgetAll_7 fl_X6_15 fp_X6_0 (sf_X6_0 hI_X6_r) ?_
  refine GG.iload_n e_X6_forgetAll_10 (i := 1) rfl 0 rfl ?_
  refine GG.iret e_X6_forgetAll_11 rfl rfl ?_
  exact hQ
theorem s_X6_copyFrom {s d : Nat} (hI_X6_s : gI_X6 s) (hI_X6_d : gI_X6 d) (hsd : s + 1 < d ∨ d + 1 < s) (hQ : Q none (mRc μ s d 24)) : SPC 1 MX6_copyFrom [.ref d, .ref s] μ Q := by
  refine SPC.of (by decide +kernel) (Nat.le_of_ble_eq_true rfl) (ls := [(0, .ref (d)), (1, .ref (s))]) rfl ?_
  refine GG.aload_n e_X6_copyFrom_0 (i := 1) rfl 1 rfl ?_
  refine GG.ifnull e_X6_copyFrom_1 ?_
  refine GG.aload_n e_X6_copyFrom_4 (i := 0) rfl 0 rfl ?_
  refine GG.aload_n e_X6_copyFrom_5 (i := 1) rfl 1 rfl ?_
  refine GG.getI e_X6_copyFrom_6 fl_X6_15 (sf_X6_0 hI_X6_s) ?_
  refine GG.putI e_X6_copyFrom_9 fl_X6_15 fp_X6_0 (sf_X6_0 hI_X6_d) ?_
  refine GG.aload_n e_X6_copyFrom_12 (i := 1) rfl 1 rfl ?_
  refine GG.getR (b := (s + 1)) e_X6_copyFrom_13 fl_X6_9 (sf_X6_1 hI_X6_s) ?_
  refine GG.aload_n e_X6_copyFrom_16 (i := 0) rfl 0 rfl ?_
  refine GG.getR (b := (d + 1)) e_X6_copyFrom_17 fl_X6_9 (sf_X6_1 hI_X6_d) ?_
  refine GG.callN (d' := 0) (as := [.ref (s + 1), .ref (d + 1)]) e_X6_copyFrom_20 ml_X6_23 mf_X10_copyInto ms_X10_copyInto rfl (by decide) (Nat.le_of_ble_eq_true rfl) rfl ?_
  refine s_X10_copyInto (sa_X6_1 hI_X6_s) (sa_X6_1 hI_X6_d) (by omega) (by omega) ?_
  refine GG.vret e_X6_copyFrom_23 rfl rfl ?_
  refine qM hQ (gM_ext (fun c q => ?_) (fun c q => rfl))
  simp only [mrd_wr, mrd_cp, mrd_Rc]
  grind
theorem s_X6_foldedInto {h0 : Int64} {C : Nat} (hI_X6_r : gI_X6 r) (hN : mrd μ r 0 = nI N) (hN6 : N ≤ 6) (hC : C ≤ 4) (hQ : Q (some (.long (mFo (fun k w => (mrd μ (r + 1) (4 * k + w)).toInt64) C N h0))) μ) : SPC 2 MX6_foldedInto [.ref r, .long h0, .int (nI C)] μ Q := by
  generalize hf : (fun (k w : Nat) => (mrd μ (r + 1) (4 * k + w)).toInt64) = f at hQ
  have lp : ∀ n i x, N - i < n → i ≤ N → x = mFo f C i h0 → GG 2 MX6_foldedInto 6 [(6, .int (nI i)), (4, .long x), (0, .ref r), (3, .int (nI C))] [] μ Q := by
    intro n
    induction n with
    | zero => intro i x h; omega
    | succ n ih =>
      intro i x hn hi hl
      have inn : ∀ m j z, C - j < m → j ≤ C → i < N → z = mFw (f i) j x → GG 2 MX6_foldedInto 18 [(7, .int (nI j)), (6, .int (nI i)), (4, .long z), (0, .ref r), (3, .int (nI C))] [] μ Q := by
        intro m
        induction m with
        | zero => intro j z h; omega
        | succ m ihm =>
          intro j z hm hj hi2 hz
          refine GG.iload e_X6_foldedInto_18 0 rfl ?_
          refine GG.iload_n e_X6_foldedInto_20 (i := 3) rfl 4 rfl ?_
          refine GG.icmp_ge (tgt := 46) e_X6_foldedInto_21 rfl (fun h21 => ?_) (fun h21 => ?_)
          · skip
            have e := nle h21 (by omega) (by omega)
            have e2 : j = C := by omega
            subst e2
            refine GG.iinc e_X6_foldedInto_46 1 rfl (v := _) (by first | exact nI_s _ | exact nI_d _ | rfl) (Nat.le_of_ble_eq_true rfl) (ls' := [(6, .int _), (7, .int _), (4, .long _), (0, .ref _), (3, .int _)]) rfl ?_
            refine GG.goto (tgt := 6) e_X6_foldedInto_49 rfl ?_
            refine GG.perm [0, 2, 3, 4] rfl ?_
            refine ih (i + 1) _ (by omega) (by omega) ?_
            rw [mFo, hz, hl]
          · skip
            have e := nnle h21 (by omega) (by omega)
            refine GG.lload e_X6_foldedInto_24 2 rfl ?_
            refine GG.aload_n e_X6_foldedInto_26 (i := 0) rfl 3 rfl ?_
            refine GG.iload e_X6_foldedInto_27 1 rfl ?_
            refine GG.iload e_X6_foldedInto_29 0 rfl ?_
            refine GG.callV (d' := 1) (a := r) (as := [.int _, .int _]) e_X6_foldedInto_31 ml_X6_27 mf_X6_cell mv_X6_cell (rc_X6 hI_X6_r) rfl (by decide) (Nat.le_of_ble_eq_true rfl) rfl ?_
            refine s_X6_cell hI_X6_r (by omega) (by omega) ?_
            refine GG.i2l e_X6_foldedInto_34 ?_
            refine GG.callN (d' := 0) (as := [.long _, .long _]) e_X6_foldedInto_35 ml_X6_31 mf_X10_folded ms_X10_folded rfl (by decide) (Nat.le_of_ble_eq_true rfl) rfl ?_
            refine s_X10_folded ?_
            refine GG.lstore e_X6_foldedInto_38 (Nat.le_of_ble_eq_true rfl) (ls' := [(4, .long _), (7, .int _), (6, .int _), (0, .ref _), (3, .int _)]) rfl ?_
            refine GG.iinc e_X6_foldedInto_40 1 rfl (v := _) (by first | exact nI_s _ | exact nI_d _ | rfl) (Nat.le_of_ble_eq_true rfl) (ls' := [(7, .int _), (4, .long _), (6, .int _), (0, .ref _), (3, .int _)]) rfl ?_
            refine GG.goto (tgt := 18) e_X6_foldedInto_43 rfl ?_
            refine GG.perm [0, 2, 1, 3, 4] rfl ?_
            refine ihm (j + 1) _ (by omega) (by omega) hi2 ?_
            rw [mFw, hz, ← hf]
      refine GG.iload e_X6_foldedInto_6 0 rfl ?_
      refine GG.aload_n e_X6_foldedInto_8 (i := 0) rfl 2 rfl ?_
      refine GG.getIv (v := nI N) e_X6_foldedInto_9 fl_X6_15 (sf_X6_0 hI_X6_r) (hN) ?_
      refine GG.icmp_ge (tgt := 52) e_X6_foldedInto_12 rfl (fun h12 => ?_) (fun h12 => ?_)
      · skip
        have e := nle h12 (by omega) (by omega)
        have e2 : i = N := by omega
        subst e2
        refine GG.lload e_X6_foldedInto_52 1 rfl ?_
        refine GG.lret e_X6_foldedInto_54 rfl rfl ?_
        rw [hl]
        exact hQ
      · skip
        have e := nnle h12 (by omega) (by omega)
        refine GG.iconst (v := 0) e_X6_foldedInto_15 rfl ?_
        refine GG.istore e_X6_foldedInto_16 (Nat.le_of_ble_eq_true rfl) (ls' := [(7, .int _), (6, .int _), (4, .long _), (0, .ref _), (3, .int _)]) rfl ?_
        exact inn (C + 1) 0 _ (by omega) (by omega) e rfl
  refine SPC.of (by decide +kernel) (Nat.le_of_ble_eq_true rfl) (ls := [(0, .ref (r)), (1, .long (h0)), (3, .int (nI C))]) rfl ?_
  refine GG.lload_n e_X6_foldedInto_0 (i := 1) rfl 1 rfl ?_
  refine GG.lstore e_X6_foldedInto_1 (Nat.le_of_ble_eq_true rfl) (ls' := [(4, .long _), (0, .ref _), (1, .long _), (3, .int _)]) rfl ?_
  refine GG.iconst (v := 0) e_X6_foldedInto_3 rfl ?_
  refine GG.istore e_X6_foldedInto_4 (Nat.le_of_ble_eq_true rfl) (ls' := [(6, .int _), (4, .long _), (0, .ref _), (1, .long _), (3, .int _)]) rfl ?_
  refine GG.perm [0, 1, 2, 4] rfl ?_
  exact lp (N + 1) 0 _ (by omega) (by omega) rfl
theorem s_X5_forgetAll (hI_X5_p : gI_X5 p) (hQ : Q none (mwr μ p 0 0)) : SPC 0 MX5_forgetAll [.ref p] μ Q := by
  refine SPC.of (by decide +kernel) (Nat.le_of_ble_eq_true rfl) (ls := [(0, .ref (p))]) rfl ?_
  refine GG.aload_n e_X5_forgetAll_0 (i := 0) rfl 0 rfl ?_
  refine GG.iconst (v := 0) e_X5_forgetAll_1 rfl ?_
  refine GG.putI e_X5_forgetAll_2 fl_X5_17 fp_X5_0 (sf_X5_0 hI_X5_p) ?_
  refine GG.vret e_X5_forgetAll_5 rfl rfl ?_
  exact hQ
theorem s_X5_copyFrom {s d : Nat} (hI_X5_s : gI_X5 s) (hI_X5_d : gI_X5 d) (hsd : s + 1 < d ∨ d + 1 < s) (hQ : Q none (mRc μ s d 80)) : SPC 1 MX5_copyFrom [.ref d, .ref s] μ Q := by
  refine SPC.of (by decide +kernel) (Nat.le_of_ble_eq_true rfl) (ls := [(0, .ref (d)), (1, .ref (s))]) rfl ?_
  refine GG.aload_n e_X5_copyFrom_0 (i := 1) rfl 1 rfl ?_
  refine GG.ifnull e_X5_copyFrom_1 ?_
  refine GG.aload_n e_X5_copyFrom_4 (i := 0) rfl 0 rfl ?_
  refine GG.aload_n e_X5_copyFrom_5 (i := 1) rfl 1 rfl ?_
  refine GG.getI e_X5_copyFrom_6 fl_X5_17 (sf_X5_0 hI_X5_s) ?_
  refine GG.putI e_X5_copyFrom_9 fl_X5_17 fp_X5_0 (sf_X5_0 hI_X5_d) ?_
  refine GG.aload_n e_X5_copyFrom_12 (i := 1) rfl 1 rfl ?_
  refine GG.getR (b := (s + 1)) e_X5_copyFrom_13 fl_X5_11 (sf_X5_1 hI_X5_s) ?_
  refine GG.aload_n e_X5_copyFrom_16 (i := 0) rfl 0 rfl ?_
  refine GG.getR (b := (d + 1)) e_X5_copyFrom_17 fl_X5_11 (sf_X5_1 hI_X5_d) ?_
  refine GG.callN (d' := 0) (as := [.ref (s + 1), .ref (d + 1)]) e_X5_copyFrom_20 ml_X5_35 mf_X10_copyInto ms_X10_copyInto rfl (by decide) (Nat.le_of_ble_eq_true rfl) rfl ?_
  refine s_X10_copyInto (sa_X5_1 hI_X5_s) (sa_X5_1 hI_X5_d) (by omega) (by omega) ?_
  refine GG.vret e_X5_copyFrom_23 rfl rfl ?_
  refine qM hQ (gM_ext (fun c q => ?_) (fun c q => rfl))
  simp only [mrd_wr, mrd_cp, mrd_Rc]
  grind
theorem s_X5_dropOldest (hI_X5_p : gI_X5 p) (hQ : Q none (mDo μ p)) : SPC 0 MX5_dropOldest [.ref p] μ Q := by
  have lp : ∀ n j, 70 - j < n → j ≤ 70 → GG 0 MX5_dropOldest 3 [(1, .int (nI (j + 10))), (0, .ref p)] [] (mfn (fun c q => if c = p + 1 ∧ q < j then mrd μ (p + 1) (q + 10) else mrd μ c q) μ) Q := by
    intro n
    induction n with
    | zero => intro j h; omega
    | succ n ih =>
      intro j hn hj
      refine GG.iload_n e_X5_dropOldest_3 (i := 1) rfl 0 rfl ?_
      refine GG.aload_n e_X5_dropOldest_4 (i := 0) rfl 1 rfl ?_
      refine GG.getR (b := (p + 1)) e_X5_dropOldest_5 fl_X5_11 (sf_X5_1 hI_X5_p) ?_
      refine GG.alen e_X5_dropOldest_8 (sa_X5_1 hI_X5_p) rfl ?_
      refine GG.icmp_ge (tgt := 33) e_X5_dropOldest_9 rfl (fun h9 => ?_) (fun h9 => ?_)
      · skip
        have e := nle (a := 80) h9 (by omega) (by omega)
        have e2 : j = 70 := by omega
        subst e2
        refine GG.aload_n e_X5_dropOldest_33 (i := 0) rfl 1 rfl ?_
        refine GG.bipush (v := 7) e_X5_dropOldest_34 rfl ?_
        refine GG.putI e_X5_dropOldest_36 fl_X5_17 fp_X5_0 (sf_X5_0 hI_X5_p) ?_
        refine GG.vret e_X5_dropOldest_39 rfl rfl ?_
        refine qM hQ (gM_ext (fun c q => ?_) (fun c q => rfl))
        simp only [mrd_Do, mrd_wr, mrd_fn]
        clear ih hQ
        have e7 : (7 : Int32) = nI 7 := rfl
        grind
      · skip
        have e := nnle (a := 80) h9 (by omega) (by omega)
        refine GG.aload_n e_X5_dropOldest_12 (i := 0) rfl 1 rfl ?_
        refine GG.getR (b := (p + 1)) e_X5_dropOldest_13 fl_X5_11 (sf_X5_1 hI_X5_p) ?_
        refine GG.iload_n e_X5_dropOldest_16 (i := 1) rfl 0 rfl ?_
        refine GG.bipush (v := 10) e_X5_dropOldest_17 rfl ?_
        refine GG.isub e_X5_dropOldest_19 ?_
        refine GG.aload_n e_X5_dropOldest_20 (i := 0) rfl 1 rfl ?_
        refine GG.getR (b := (p + 1)) e_X5_dropOldest_21 fl_X5_11 (sf_X5_1 hI_X5_p) ?_
        refine GG.iload_n e_X5_dropOldest_24 (i := 1) rfl 0 rfl ?_
        refine GG.ialoadV (k := _) (v := mrd μ (p + 1) (j + 10)) e_X5_dropOldest_25 (sa_X5_1 hI_X5_p) (rfl) (by omega) (Nat.le_of_ble_eq_true rfl) (by simp only [mrd_fn]; rw [if_neg (by omega)]) ?_
        refine GG.iastoreE (k := j) e_X5_dropOldest_26 (sa_X5_1 hI_X5_p) (by rw [show (10 : Int32) = nI 10 from rfl, pk_sub (by omega)]; rfl) (by omega) (Nat.le_of_ble_eq_true rfl) ?_
        refine GG.iinc e_X5_dropOldest_27 0 rfl (v := nI (j + 1 + 10)) (by rw [nI_s, show j + 10 + 1 = j + 1 + 10 by omega]) (Nat.le_of_ble_eq_true rfl) (ls' := [(1, .int _), (0, .ref _)]) rfl ?_
        refine GG.goto (tgt := 3) e_X5_dropOldest_30 rfl ?_
        refine GG.mem ?_ (ih (j + 1) (by omega) (by omega))
        refine gM_ext (fun c q => ?_) (fun c q => rfl)
        simp only [mrd_wr, mrd_fn]
        clear ih hQ
        grind
  refine SPC.of (by decide +kernel) (Nat.le_of_ble_eq_true rfl) (ls := [(0, .ref (p))]) rfl ?_
  refine GG.bipush (v := 10) e_X5_dropOldest_0 rfl ?_
  refine GG.istore_n e_X5_dropOldest_2 (i := 1) rfl (Nat.le_of_ble_eq_true rfl) (ls' := [(1, .int _), (0, .ref _)]) rfl ?_
  refine GG.mem ?_ (lp 71 0 (by omega) (by omega))
  refine gM_ext (fun c q => ?_) (fun c q => rfl)
  simp only [mrd_fn]
  grind
theorem gI_ap (hb : gI_X4 b) (hp : gI_X5 p) : ¬ p + 1 = b ∧ ¬ p + 1 = b + 3 ∧ ¬ p = b ∧ ¬ p = b + 3 := by
  unfold gI_X4 at hb
  unfold gI_X5 at hp
  omega
theorem s_X5_keep (hI_X4_b : gI_X4 b) (hI_X5_p : gI_X5 p) (hU : mrd μ p 0 = nI U) (hU8 : U ≤ 8) (h1 : U < 8 → Q none (mwr (msv μ b (p + 1) (10 * U)) p 0 (nI (U + 1)))) (h2 : U = 8 → Q none (mwr (msv (mDo μ p) b (p + 1) 70) p 0 (nI 8))) : SPC 1 MX5_keep [.ref p, .ref b] μ Q := by
  obtain ⟨q1, q2, q3, q4⟩ := gI_ap hI_X4_b hI_X5_p
  have e10 : ∀ u, nI u * 10 = nI (10 * u) := fun u => by rw [show (10 : Int32) = nI 10 from rfl, pk_mul, Nat.mul_comm]
  have j18 : ∀ (ν : gM) u, u < 8 → mrd ν p 0 = nI u → Q none (mwr (msv ν b (p + 1) (10 * u)) p 0 (nI (u + 1))) → GG 1 MX5_keep 18 [(0, .ref p), (1, .ref b)] [] ν Q := by
    intro ν u hu hz hq
    refine GG.aload_n e_X5_keep_18 (i := 1) rfl 1 rfl ?_
    refine GG.aload_n e_X5_keep_19 (i := 0) rfl 0 rfl ?_
    refine GG.getR (b := (p + 1)) e_X5_keep_20 fl_X5_11 (sf_X5_1 hI_X5_p) ?_
    refine GG.aload_n e_X5_keep_23 (i := 0) rfl 0 rfl ?_
    refine GG.getIv (v := nI u) e_X5_keep_24 fl_X5_17 (sf_X5_0 hI_X5_p) (hz) ?_
    refine GG.bipush (v := 10) e_X5_keep_27 rfl ?_
    refine GG.imul e_X5_keep_29 ?_
    refine GG.top (e10 u) ?_
    refine GG.callV (d' := 0) (a := b) (as := [.ref (p + 1), .int _]) e_X5_keep_30 ml_X5_24 mf_X4_saveInto mv_X4_saveInto (rc_X4 hI_X4_b) rfl (by decide) (Nat.le_of_ble_eq_true rfl) rfl ?_
    refine s_X4_saveInto hI_X4_b (sa_X5_1 hI_X5_p) (by omega) ⟨q1, q2⟩ ?_
    refine GG.aload_n e_X5_keep_33 (i := 0) rfl 0 rfl ?_
    refine GG.dup e_X5_keep_34 rfl ?_
    refine GG.getIv (v := nI u) e_X5_keep_35 fl_X5_17 (sf_X5_0 hI_X5_p) (by rw [mrd_sv, if_neg (by omega), hz]) ?_
    refine GG.iconst (v := 1) e_X5_keep_38 rfl ?_
    refine GG.iadd e_X5_keep_39 ?_
    refine GG.putI e_X5_keep_40 fl_X5_17 fp_X5_0 (sf_X5_0 hI_X5_p) ?_
    refine GG.vret e_X5_keep_43 rfl rfl ?_
    rw [nI_1]
    exact hq
  refine SPC.of (by decide +kernel) (Nat.le_of_ble_eq_true rfl) (ls := [(0, .ref (p)), (1, .ref (b))]) rfl ?_
  refine GG.aload_n e_X5_keep_0 (i := 1) rfl 1 rfl ?_
  refine GG.ifnonnull (tgt := 5) e_X5_keep_1 rfl ?_
  refine GG.aload_n e_X5_keep_5 (i := 0) rfl 0 rfl ?_
  refine GG.getIv (v := nI U) e_X5_keep_6 fl_X5_17 (sf_X5_0 hI_X5_p) (hU) ?_
  refine GG.bipush (v := 8) e_X5_keep_9 rfl ?_
  refine GG.icmp_lt (tgt := 18) e_X5_keep_11 rfl (fun h11 => ?_) (fun h11 => ?_)
  · skip
    have e := nlt (b := 8) h11 (by omega) (by omega)
    exact j18 _ U e hU (h1 e)
  · skip
    have e : U = 8 := by have := nnlt (b := 8) h11 (by omega) (by omega); omega
    refine GG.aload_n e_X5_keep_14 (i := 0) rfl 0 rfl ?_
    refine GG.callV (d' := 0) (a := p) (as := []) e_X5_keep_15 ml_X5_21 mf_X5_dropOldest mv_X5_dropOldest (rc_X5 hI_X5_p) rfl (by decide) (Nat.le_of_ble_eq_true rfl) rfl ?_
    refine s_X5_dropOldest hI_X5_p ?_
    exact j18 _ 7 (by omega) (by rw [mrd_Do, if_neg (by omega), if_pos ⟨rfl, rfl⟩]) (h2 e)
theorem s_X5_takeBack (hI_X4_b : gI_X4 b) (hI_X5_p : gI_X5 p) (hU : mrd μ p 0 = nI U) (hU8 : U ≤ 8) (h1 : U = 0 → Q (some (.int 0)) μ) (h2 : 0 < U → Q (some (.int 1)) (mrs (mwr μ p 0 (nI (U - 1))) b (p + 1) (10 * (U - 1)))) : SPC 1 MX5_takeBack [.ref p, .ref b] μ Q := by
  obtain ⟨q1, q2, q3, q4⟩ := gI_ap hI_X4_b hI_X5_p
  have e10 : ∀ u, nI u * 10 = nI (10 * u) := fun u => by rw [show (10 : Int32) = nI 10 from rfl, pk_mul, Nat.mul_comm]
  refine SPC.of (by decide +kernel) (Nat.le_of_ble_eq_true rfl) (ls := [(0, .ref (p)), (1, .ref (b))]) rfl ?_
  refine GG.aload_n e_X5_takeBack_0 (i := 1) rfl 1 rfl ?_
  refine GG.ifnull e_X5_takeBack_1 ?_
  refine GG.aload_n e_X5_takeBack_4 (i := 0) rfl 0 rfl ?_
  refine GG.getIv (v := nI U) e_X5_takeBack_5 fl_X5_17 (sf_X5_0 hI_X5_p) (hU) ?_
  refine GG.iconst (v := 1) e_X5_takeBack_8 rfl ?_
  refine GG.bipush (v := 8) e_X5_takeBack_9 rfl ?_
  refine GG.callN (d' := 0) (as := [.int _, .int _, .int _]) e_X5_takeBack_11 ml_X5_28 mf_X10_outside ms_X10_outside rfl (by decide) (Nat.le_of_ble_eq_true rfl) rfl ?_
  refine s_X10_outside ?_
  refine GG.if_eq (tgt := 19) e_X5_takeBack_14 rfl (fun h14 => ?_) (fun h14 => ?_)
  · skip
    have e : 0 < U := by rw [bI_0, decide_eq_false_iff_not, not_or] at h14; have := nnlt (b := 1) h14.1 (by omega) (by omega); omega
    refine GG.aload_n e_X5_takeBack_19 (i := 0) rfl 0 rfl ?_
    refine GG.dup e_X5_takeBack_20 rfl ?_
    refine GG.getIv (v := nI U) e_X5_takeBack_21 fl_X5_17 (sf_X5_0 hI_X5_p) (hU) ?_
    refine GG.iconst (v := 1) e_X5_takeBack_24 rfl ?_
    refine GG.isub e_X5_takeBack_25 ?_
    refine GG.top (show nI U - 1 = nI (U - 1) by rw [show (1 : Int32) = nI 1 from rfl, pk_sub (by omega)]) ?_
    refine GG.putI e_X5_takeBack_26 fl_X5_17 fp_X5_0 (sf_X5_0 hI_X5_p) ?_
    refine GG.aload_n e_X5_takeBack_29 (i := 1) rfl 1 rfl ?_
    refine GG.aload_n e_X5_takeBack_30 (i := 0) rfl 0 rfl ?_
    refine GG.getR (b := (p + 1)) e_X5_takeBack_31 fl_X5_11 (sf_X5_1 hI_X5_p) ?_
    refine GG.aload_n e_X5_takeBack_34 (i := 0) rfl 0 rfl ?_
    refine GG.getIv (v := nI (U - 1)) e_X5_takeBack_35 fl_X5_17 (sf_X5_0 hI_X5_p) (by simp [mrd_wr]) ?_
    refine GG.bipush (v := 10) e_X5_takeBack_38 rfl ?_
    refine GG.imul e_X5_takeBack_40 ?_
    refine GG.top (e10 (U - 1)) ?_
    refine GG.callV (d' := 0) (a := b) (as := [.ref (p + 1), .int _]) e_X5_takeBack_41 ml_X5_32 mf_X4_restoreFrom mv_X4_restoreFrom (rc_X4 hI_X4_b) rfl (by decide) (Nat.le_of_ble_eq_true rfl) rfl ?_
    refine s_X4_restoreFrom hI_X4_b (sa_X5_1 hI_X5_p) (by omega) ⟨q1, q2⟩ ?_
    refine GG.iconst (v := 1) e_X5_takeBack_44 rfl ?_
    refine GG.zret e_X5_takeBack_45 rfl rfl rfl ?_
    exact h2 e
  · skip
    have e : U = 0 := by rw [bI_0, Bool.not_eq_false, decide_eq_true_eq] at h14; rcases h14 with h | h; have := nlt (b := 1) h (by omega) (by omega); omega; have := nlt (a := 8) h (by omega) (by omega); omega
    refine GG.iconst (v := 0) e_X5_takeBack_17 rfl ?_
    refine GG.zret e_X5_takeBack_18 rfl rfl rfl ?_
    exact h1 e
theorem s_X2_startAgain {w : Int32} (hI_X2_h : gI_X2 h) (hQ : Q none (mHs μ h w)) : SPC 1 MX2_startAgain [.ref h, .int w] μ Q := by
  refine SPC.of (by decide +kernel) (Nat.le_of_ble_eq_true rfl) (ls := [(0, .ref (h)), (1, .int (w))]) rfl ?_
  refine GG.aload_n e_X2_startAgain_0 (i := 0) rfl 0 rfl ?_
  refine GG.getR (b := (h + 1)) e_X2_startAgain_1 fl_X2_12 (sf_X2_0 hI_X2_h) ?_
  refine GG.iload_n e_X2_startAgain_4 (i := 1) rfl 1 rfl ?_
  refine GG.callV (d' := 0) (a := (h + 1)) (as := [.int _]) e_X2_startAgain_5 ml_X2_38 mf_X4_startAgain mv_X4_startAgain (rc_X4 (in_X2_0 hI_X2_h)) rfl (by decide) (Nat.le_of_ble_eq_true rfl) rfl ?_
  refine s_X4_startAgain (in_X2_0 hI_X2_h) ?_
  refine GG.aload_n e_X2_startAgain_8 (i := 0) rfl 0 rfl ?_
  refine GG.getR (b := (h + 7)) e_X2_startAgain_9 fl_X2_21 (sf_X2_1 hI_X2_h) ?_
  refine GG.callV (d' := 0) (a := (h + 7)) (as := []) e_X2_startAgain_12 ml_X2_42 mf_X6_forgetAll mv_X6_forgetAll (rc_X6 (in_X2_1 hI_X2_h)) rfl (by decide) (Nat.le_of_ble_eq_true rfl) rfl ?_
  refine s_X6_forgetAll (in_X2_1 hI_X2_h) ?_
  refine GG.pop e_X2_startAgain_15 rfl ?_
  refine GG.aload_n e_X2_startAgain_16 (i := 0) rfl 0 rfl ?_
  refine GG.getR (b := (h + 9)) e_X2_startAgain_17 fl_X2_25 (sf_X2_2 hI_X2_h) ?_
  refine GG.callV (d' := 0) (a := (h + 9)) (as := []) e_X2_startAgain_20 ml_X2_42 mf_X6_forgetAll mv_X6_forgetAll (rc_X6 (in_X2_2 hI_X2_h)) rfl (by decide) (Nat.le_of_ble_eq_true rfl) rfl ?_
  refine s_X6_forgetAll (in_X2_2 hI_X2_h) ?_
  refine GG.pop e_X2_startAgain_23 rfl ?_
  refine GG.aload_n e_X2_startAgain_24 (i := 0) rfl 0 rfl ?_
  refine GG.getR (b := (h + 11)) e_X2_startAgain_25 fl_X2_28 (sf_X2_3 hI_X2_h) ?_
  refine GG.callV (d' := 0) (a := (h + 11)) (as := []) e_X2_startAgain_28 ml_X2_42 mf_X6_forgetAll mv_X6_forgetAll (rc_X6 (in_X2_3 hI_X2_h)) rfl (by decide) (Nat.le_of_ble_eq_true rfl) rfl ?_
  refine s_X6_forgetAll (in_X2_3 hI_X2_h) ?_
  refine GG.pop e_X2_startAgain_31 rfl ?_
  refine GG.aload_n e_X2_startAgain_32 (i := 0) rfl 0 rfl ?_
  refine GG.getR (b := (h + 13)) e_X2_startAgain_33 fl_X2_34 (sf_X2_4 hI_X2_h) ?_
  refine GG.callV (d' := 0) (a := (h + 13)) (as := []) e_X2_startAgain_36 ml_X2_46 mf_X5_forgetAll mv_X5_forgetAll (rc_X5 (in_X2_4 hI_X2_h)) rfl (by decide) (Nat.le_of_ble_eq_true rfl) rfl ?_
  refine s_X5_forgetAll (in_X2_4 hI_X2_h) ?_
  refine GG.vret e_X2_startAgain_39 rfl rfl ?_
  exact hQ
theorem s_X2_copyFrom {s d : Nat} (hI_X2_s : gI_X2 s) (hI_X2_d : gI_X2 d) (hsd : s + 14 < d ∨ d + 14 < s) (hQ : Q none (mHc μ s d)) : SPC 2 MX2_copyFrom [.ref d, .ref s] μ Q := by
  refine SPC.of (by decide +kernel) (Nat.le_of_ble_eq_true rfl) (ls := [(0, .ref (d)), (1, .ref (s))]) rfl ?_
  refine GG.aload_n e_X2_copyFrom_0 (i := 1) rfl 1 rfl ?_
  refine GG.ifnonnull (tgt := 5) e_X2_copyFrom_1 rfl ?_
  refine GG.aload_n e_X2_copyFrom_5 (i := 0) rfl 0 rfl ?_
  refine GG.getR (b := (d + 1)) e_X2_copyFrom_6 fl_X2_12 (sf_X2_0 hI_X2_d) ?_
  refine GG.aload_n e_X2_copyFrom_9 (i := 1) rfl 1 rfl ?_
  refine GG.getR (b := (s + 1)) e_X2_copyFrom_10 fl_X2_12 (sf_X2_0 hI_X2_s) ?_
  refine GG.callV (d' := 1) (a := (d + 1)) (as := [.ref (s + 1)]) e_X2_copyFrom_13 ml_X2_48 mf_X4_copyFrom mv_X4_copyFrom (rc_X4 (in_X2_0 hI_X2_d)) rfl (by decide) (Nat.le_of_ble_eq_true rfl) rfl ?_
  refine s_X4_copyFrom (in_X2_0 hI_X2_s) (in_X2_0 hI_X2_d) (by omega) ?_
  refine GG.aload_n e_X2_copyFrom_16 (i := 0) rfl 0 rfl ?_
  refine GG.getR (b := (d + 7)) e_X2_copyFrom_17 fl_X2_21 (sf_X2_1 hI_X2_d) ?_
  refine GG.aload_n e_X2_copyFrom_20 (i := 1) rfl 1 rfl ?_
  refine GG.getR (b := (s + 7)) e_X2_copyFrom_21 fl_X2_21 (sf_X2_1 hI_X2_s) ?_
  refine GG.callV (d' := 1) (a := (d + 7)) (as := [.ref (s + 7)]) e_X2_copyFrom_24 ml_X2_52 mf_X6_copyFrom mv_X6_copyFrom (rc_X6 (in_X2_1 hI_X2_d)) rfl (by decide) (Nat.le_of_ble_eq_true rfl) rfl ?_
  refine s_X6_copyFrom (in_X2_1 hI_X2_s) (in_X2_1 hI_X2_d) (by omega) ?_
  refine GG.aload_n e_X2_copyFrom_27 (i := 0) rfl 0 rfl ?_
  refine GG.getR (b := (d + 9)) e_X2_copyFrom_28 fl_X2_25 (sf_X2_2 hI_X2_d) ?_
  refine GG.aload_n e_X2_copyFrom_31 (i := 1) rfl 1 rfl ?_
  refine GG.getR (b := (s + 9)) e_X2_copyFrom_32 fl_X2_25 (sf_X2_2 hI_X2_s) ?_
  refine GG.callV (d' := 1) (a := (d + 9)) (as := [.ref (s + 9)]) e_X2_copyFrom_35 ml_X2_52 mf_X6_copyFrom mv_X6_copyFrom (rc_X6 (in_X2_2 hI_X2_d)) rfl (by decide) (Nat.le_of_ble_eq_true rfl) rfl ?_
  refine s_X6_copyFrom (in_X2_2 hI_X2_s) (in_X2_2 hI_X2_d) (by omega) ?_
  refine GG.aload_n e_X2_copyFrom_38 (i := 0) rfl 0 rfl ?_
  refine GG.getR (b := (d + 11)) e_X2_copyFrom_39 fl_X2_28 (sf_X2_3 hI_X2_d) ?_
  refine GG.aload_n e_X2_copyFrom_42 (i := 1) rfl 1 rfl ?_
  refine GG.getR (b := (s + 11)) e_X2_copyFrom_43 fl_X2_28 (sf_X2_3 hI_X2_s) ?_
  refine GG.callV (d' := 1) (a := (d + 11)) (as := [.ref (s + 11)]) e_X2_copyFrom_46 ml_X2_52 mf_X6_copyFrom mv_X6_copyFrom (rc_X6 (in_X2_3 hI_X2_d)) rfl (by decide) (Nat.le_of_ble_eq_true rfl) rfl ?_
  refine s_X6_copyFrom (in_X2_3 hI_X2_s) (in_X2_3 hI_X2_d) (by omega) ?_
  refine GG.aload_n e_X2_copyFrom_49 (i := 0) rfl 0 rfl ?_
  refine GG.getR (b := (d + 13)) e_X2_copyFrom_50 fl_X2_34 (sf_X2_4 hI_X2_d) ?_
  refine GG.aload_n e_X2_copyFrom_53 (i := 1) rfl 1 rfl ?_
  refine GG.getR (b := (s + 13)) e_X2_copyFrom_54 fl_X2_34 (sf_X2_4 hI_X2_s) ?_
  refine GG.callV (d' := 1) (a := (d + 13)) (as := [.ref (s + 13)]) e_X2_copyFrom_57 ml_X2_55 mf_X5_copyFrom mv_X5_copyFrom (rc_X5 (in_X2_4 hI_X2_d)) rfl (by decide) (Nat.le_of_ble_eq_true rfl) rfl ?_
  refine s_X5_copyFrom (in_X2_4 hI_X2_s) (in_X2_4 hI_X2_d) (by omega) ?_
  refine GG.vret e_X2_copyFrom_60 rfl rfl ?_
  exact hQ
end S18
