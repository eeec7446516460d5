/-! LANE, ROWS, PAST, HOUSES: what is kept and copied -/
def mFw (f : Nat → Int64) : Nat → Int64 → Int64
  | 0, h => h
  | n + 1, h => 31 * mFw f n h + f n
def mFo (g : Nat → Nat → Int64) (c : Nat) : Nat → Int64 → Int64
  | 0, h => h
  | n + 1, h => mFw (g n) c (mFo g c n h)
def mRc (μ : gM) (s d n : Nat) : gM := (fun c j => if c = d ∧ j = 0 then μ.1 s 0 else if c = d + 1 ∧ j < n then μ.1 (s + 1) j else μ.1 c j, μ.2)
theorem mrd_Rc (μ : gM) (s d n c j : Nat) : mrd (mRc μ s d n) c j = if c = d ∧ j = 0 then mrd μ s 0 else if c = d + 1 ∧ j < n then mrd μ (s + 1) j else mrd μ c j := rfl
theorem mrL_Rc (μ : gM) (s d n c j : Nat) : mrL (mRc μ s d n) c j = mrL μ c j := rfl
def mSt (μ : gM) (b : Nat) (w : Int32) : gM := (fun c j => if c = b ∧ j = 0 then w else if c = b ∧ (j = 1 ∨ j = 5 ∨ j = 8 ∨ j = 9 ∨ j = 10) then 0 else μ.1 c j, μ.2)
theorem mrd_St (μ : gM) (b : Nat) (w : Int32) (c j : Nat) : mrd (mSt μ b w) c j = if c = b ∧ j = 0 then w else if c = b ∧ (j = 1 ∨ j = 5 ∨ j = 8 ∨ j = 9 ∨ j = 10) then 0 else mrd μ c j := rfl
theorem mrL_St (μ : gM) (b : Nat) (w : Int32) (c j : Nat) : mrL (mSt μ b w) c j = mrL μ c j := rfl
def mfn (g : Nat → Nat → Int32) (μ : gM) : gM := (g, μ.2)
theorem mrd_fn (g : Nat → Nat → Int32) (μ : gM) (c j : Nat) : mrd (mfn g μ) c j = g c j := rfl
theorem mrL_fn (g : Nat → Nat → Int32) (μ : gM) (c j : Nat) : mrL (mfn g μ) c j = mrL μ c j := rfl
section S17
variable {μ : gM} {Q : Option Value → gM → Prop} {b P A k : Nat} {i c a : Int32}
theorem s_X4_startAgain {w : Int32} (hI_X4_b : gI_X4 b) (hQ : Q none (mSt μ b w)) : SPC 0 MX4_startAgain [.ref b, .int w] μ Q := by
  refine SPC.of (by decide +kernel) (Nat.le_of_ble_eq_true rfl) (ls := [(0, .ref (b)), (1, .int (w))]) rfl ?_
  refine GG.aload_n e_X4_startAgain_0 (i := 0) rfl 0 rfl ?_
  refine GG.iload_n e_X4_startAgain_1 (i := 1) rfl 1 rfl ?_
  refine GG.putI e_X4_startAgain_2 fl_X4_9 fp_X4_0 (sf_X4_0 hI_X4_b) ?_
  refine GG.aload_n e_X4_startAgain_5 (i := 0) rfl 0 rfl ?_
  refine GG.iconst (v := 0) e_X4_startAgain_6 rfl ?_
  refine GG.putI e_X4_startAgain_7 fl_X4_31 fp_X4_1 (sf_X4_1 hI_X4_b) ?_
  refine GG.aload_n e_X4_startAgain_10 (i := 0) rfl 0 rfl ?_
  refine GG.iconst (v := 0) e_X4_startAgain_11 rfl ?_
  refine GG.putI e_X4_startAgain_12 fl_X4_34 fp_X4_5 (sf_X4_5 hI_X4_b) ?_
  refine GG.aload_n e_X4_startAgain_15 (i := 0) rfl 0 rfl ?_
  refine GG.iconst (v := 0) e_X4_startAgain_16 rfl ?_
  refine GG.putI e_X4_startAgain_17 fl_X4_37 fp_X4_8 (sf_X4_8 hI_X4_b) ?_
  refine GG.aload_n e_X4_startAgain_20 (i := 0) rfl 0 rfl ?_
  refine GG.iconst (v := 0) e_X4_startAgain_21 rfl ?_
  refine GG.putI e_X4_startAgain_22 fl_X4_40 fp_X4_9 (sf_X4_9 hI_X4_b) ?_
  refine GG.aload_n e_X4_startAgain_25 (i := 0) rfl 0 rfl ?_
  refine GG.iconst (v := 0) e_X4_startAgain_26 rfl ?_
  refine GG.putI e_X4_startAgain_27 fl_X4_43 fp_X4_10 (sf_X4_10 hI_X4_b) ?_
  refine GG.vret e_X4_startAgain_30 rfl rfl ?_
  refine qM hQ (gM_ext (fun c q => ?_) (fun c q => rfl))
  simp only [mrd_wr, mrd_St]
  grind
theorem s_X4_saveInto {t u : Nat} (hI_X4_b : gI_X4 b) (ht : gAr t = some (0, 80)) (hu : u ≤ 70) (hbt : ¬ t = b ∧ ¬ t = b + 3) (hQ : Q none (msv μ b t u)) : SPC 0 MX4_saveInto [.ref b, .ref t, .int (nI u)] μ Q := by
  have lp : ∀ n j, 7 - j < n → j ≤ 7 → GG 0 MX4_saveInto 45 [(3, .int (nI j)), (0, .ref b), (1, .ref t), (2, .int (nI u))] [] (mfn (fun c q => if c = t ∧ u ≤ q ∧ q < u + 3 + j then mrd (msv μ b t u) c q else mrd μ c q) μ) Q := by
    intro n
    induction n with
    | zero => intro j h; omega
    | succ n ih =>
      intro j hn hj
      refine GG.iload_n e_X4_saveInto_45 (i := 3) rfl 0 rfl ?_
      refine GG.bipush (v := 7) e_X4_saveInto_46 rfl ?_
      refine GG.icmp_ge (tgt := 70) e_X4_saveInto_48 rfl (fun h48 => ?_) (fun h48 => ?_)
      · skip
        have e := nle (a := 7) h48 (by omega) (by omega)
        have e2 : j = 7 := by omega
        subst e2
        refine GG.vret e_X4_saveInto_70 rfl rfl ?_
        refine qM hQ (gM_ext (fun c q => ?_) (fun c q => rfl))
        simp only [mrd_sv, mrd_fn]
        grind
      · skip
        have e := nnle (a := 7) h48 (by omega) (by omega)
        refine GG.aload_n e_X4_saveInto_51 (i := 1) rfl 2 rfl ?_
        refine GG.iload_n e_X4_saveInto_52 (i := 2) rfl 3 rfl ?_
        refine GG.iconst (v := 3) e_X4_saveInto_53 rfl ?_
        refine GG.iadd e_X4_saveInto_54 ?_
        refine GG.iload_n e_X4_saveInto_55 (i := 3) rfl 0 rfl ?_
        refine GG.iadd e_X4_saveInto_56 ?_
        refine GG.aload_n e_X4_saveInto_57 (i := 0) rfl 1 rfl ?_
        refine GG.getR (b := (b + 3)) e_X4_saveInto_58 fl_X4_22 (sf_X4_4 hI_X4_b) ?_
        refine GG.iload_n e_X4_saveInto_61 (i := 3) rfl 0 rfl ?_
        refine GG.ialoadV (k := _) (v := mrd μ (b + 3) j) e_X4_saveInto_62 (sa_X4_4 hI_X4_b) (rfl) (by omega) (Nat.le_of_ble_eq_true rfl) (by simp only [mrd_fn]; rw [if_neg (by rintro ⟨q, -⟩; exact hbt.2 q.symm)]) ?_
        refine GG.iastoreE (k := u + 3 + j) e_X4_saveInto_63 ht (by rw [show (3 : Int32) = nI 3 from rfl, nI_add, nI_add]) (by omega) (Nat.le_of_ble_eq_true rfl) ?_
        refine GG.iinc e_X4_saveInto_64 0 rfl (v := _) (by first | exact nI_s _ | exact nI_d _ | rfl) (Nat.le_of_ble_eq_true rfl) (ls' := [(3, .int _), (0, .ref _), (1, .ref _), (2, .int _)]) rfl ?_
        refine GG.goto (tgt := 45) e_X4_saveInto_67 rfl ?_
        refine GG.mem ?_ (ih (j + 1) (by omega) (by omega))
        refine gM_ext (fun c q => ?_) (fun c q => rfl)
        simp only [mrd_wr, mrd_sv, mrd_fn]
        clear ih hQ
        grind
  refine SPC.of (by decide +kernel) (Nat.le_of_ble_eq_true rfl) (ls := [(0, .ref (b)), (1, .ref (t)), (2, .int (nI u))]) rfl ?_
  refine GG.aload_n e_X4_saveInto_0 (i := 1) rfl 1 rfl ?_
  refine GG.ifnull e_X4_saveInto_1 ?_
  refine GG.iload_n e_X4_saveInto_4 (i := 2) rfl 2 rfl ?_
  refine GG.if_lt (tgt := 17) e_X4_saveInto_5 rfl (fun h5 => absurd h5 (by exact nI_pos (by omega))) (fun h5 => ?_)
  refine GG.iload_n e_X4_saveInto_8 (i := 2) rfl 2 rfl ?_
  refine GG.aload_n e_X4_saveInto_9 (i := 1) rfl 1 rfl ?_
  refine GG.alen e_X4_saveInto_10 ht rfl ?_
  refine GG.bipush (v := 10) e_X4_saveInto_11 rfl ?_
  refine GG.isub e_X4_saveInto_13 ?_
  refine GG.icmp_le (tgt := 18) e_X4_saveInto_14 rfl (fun h14 => ?_) (fun h14 => absurd h14 (by exact fun z => z (by rw [show Int32.ofNat 80 - 10 = nI 70 from rfl]; exact nI_le hu (by omega))))
  refine GG.aload_n e_X4_saveInto_18 (i := 1) rfl 1 rfl ?_
  refine GG.iload_n e_X4_saveInto_19 (i := 2) rfl 2 rfl ?_
  refine GG.aload_n e_X4_saveInto_20 (i := 0) rfl 0 rfl ?_
  refine GG.getI e_X4_saveInto_21 fl_X4_40 (sf_X4_9 hI_X4_b) ?_
  refine GG.iastoreE (k := _) e_X4_saveInto_24 ht (rfl) (by omega) (Nat.le_of_ble_eq_true rfl) ?_
  refine GG.aload_n e_X4_saveInto_25 (i := 1) rfl 1 rfl ?_
  refine GG.iload_n e_X4_saveInto_26 (i := 2) rfl 2 rfl ?_
  refine GG.iconst (v := 1) e_X4_saveInto_27 rfl ?_
  refine GG.iadd e_X4_saveInto_28 ?_
  refine GG.aload_n e_X4_saveInto_29 (i := 0) rfl 0 rfl ?_
  refine GG.getIv (v := mrd μ b 10) e_X4_saveInto_30 fl_X4_43 (sf_X4_10 hI_X4_b) (by simp only [mrd_wr]; grind) ?_
  refine GG.iastoreE (k := u + 1) e_X4_saveInto_33 ht (nI_1 u) (by omega) (Nat.le_of_ble_eq_true rfl) ?_
  refine GG.aload_n e_X4_saveInto_34 (i := 1) rfl 1 rfl ?_
  refine GG.iload_n e_X4_saveInto_35 (i := 2) rfl 2 rfl ?_
  refine GG.iconst (v := 2) e_X4_saveInto_36 rfl ?_
  refine GG.iadd e_X4_saveInto_37 ?_
  refine GG.aload_n e_X4_saveInto_38 (i := 0) rfl 0 rfl ?_
  refine GG.getIv (v := mrd μ b 8) e_X4_saveInto_39 fl_X4_37 (sf_X4_8 hI_X4_b) (by simp only [mrd_wr]; grind) ?_
  refine GG.iastoreE (k := u + 2) e_X4_saveInto_42 ht (by rw [show (2 : Int32) = nI 2 from rfl, nI_add]) (by omega) (Nat.le_of_ble_eq_true rfl) ?_
  refine GG.iconst (v := 0) e_X4_saveInto_43 rfl ?_
  refine GG.istore_n e_X4_saveInto_44 (i := 3) rfl (Nat.le_of_ble_eq_true rfl) (ls' := [(3, .int _), (0, .ref _), (1, .ref _), (2, .int _)]) rfl ?_
  refine GG.mem ?_ (lp 8 0 (by omega) (by omega))
  refine gM_ext (fun c q => ?_) (fun c q => rfl)
  simp only [mrd_wr, mrd_sv, mrd_fn]
  grind
theorem s_X4_restoreFrom {t u : Nat} (hI_X4_b : gI_X4 b) (ht : gAr t = some (0, 80)) (hu : u ≤ 70) (hbt : ¬ t = b ∧ ¬ t = b + 3) (hQ : Q none (mrs μ b t u)) : SPC 0 MX4_restoreFrom [.ref b, .ref t, .int (nI u)] μ Q := by
  have lp : ∀ n j, 7 - j < n → j ≤ 7 → GG 0 MX4_restoreFrom 45 [(3, .int (nI j)), (0, .ref b), (1, .ref t), (2, .int (nI u))] [] (mfn (fun c q => if c = b ∨ (c = b + 3 ∧ q < j) then mrd (mrs μ b t u) c q else mrd μ c q) μ) Q := by
    intro n
    induction n with
    | zero => intro j h; omega
    | succ n ih =>
      intro j hn hj
      refine GG.iload_n e_X4_restoreFrom_45 (i := 3) rfl 0 rfl ?_
      refine GG.bipush (v := 7) e_X4_restoreFrom_46 rfl ?_
      refine GG.icmp_ge (tgt := 70) e_X4_restoreFrom_48 rfl (fun h48 => ?_) (fun h48 => ?_)
      · skip
        have e := nle (a := 7) h48 (by omega) (by omega)
        have e2 : j = 7 := by omega
        subst e2
        refine GG.vret e_X4_restoreFrom_70 rfl rfl ?_
        refine qM hQ (gM_ext (fun c q => ?_) (fun c q => rfl))
        simp only [mrd_rs, mrd_fn]
        grind
      · skip
        have e := nnle (a := 7) h48 (by omega) (by omega)
        refine GG.aload_n e_X4_restoreFrom_51 (i := 0) rfl 1 rfl ?_
        refine GG.getR (b := (b + 3)) e_X4_restoreFrom_52 fl_X4_22 (sf_X4_4 hI_X4_b) ?_
        refine GG.iload_n e_X4_restoreFrom_55 (i := 3) rfl 0 rfl ?_
        refine GG.aload_n e_X4_restoreFrom_56 (i := 1) rfl 2 rfl ?_
        refine GG.iload_n e_X4_restoreFrom_57 (i := 2) rfl 3 rfl ?_
        refine GG.iconst (v := 3) e_X4_restoreFrom_58 rfl ?_
        refine GG.iadd e_X4_restoreFrom_59 ?_
        refine GG.iload_n e_X4_restoreFrom_60 (i := 3) rfl 0 rfl ?_
        refine GG.iadd e_X4_restoreFrom_61 ?_
        refine GG.ialoadV (k := u + 3 + j) (v := mrd μ t (u + 3 + j)) e_X4_restoreFrom_62 ht (by rw [show (3 : Int32) = nI 3 from rfl, nI_add, nI_add]) (by omega) (Nat.le_of_ble_eq_true rfl) (by simp only [mrd_fn]; rw [if_neg (by omega)]) ?_
        refine GG.iastoreE (k := _) e_X4_restoreFrom_63 (sa_X4_4 hI_X4_b) (rfl) (by omega) (Nat.le_of_ble_eq_true rfl) ?_
        refine GG.iinc e_X4_restoreFrom_64 0 rfl (v := _) (by first | exact nI_s _ | exact nI_d _ | rfl) (Nat.le_of_ble_eq_true rfl) (ls' := [(3, .int _), (0, .ref _), (1, .ref _), (2, .int _)]) rfl ?_
        refine GG.goto (tgt := 45) e_X4_restoreFrom_67 rfl ?_
        refine GG.mem ?_ (ih (j + 1) (by omega) (by omega))
        refine gM_ext (fun c q => ?_) (fun c q => rfl)
        simp only [mrd_wr, mrd_rs, mrd_fn]
        clear ih hQ
        grind
  refine SPC.of (by decide +kernel) (Nat.le_of_ble_eq_true rfl) (ls := [(0, .ref (b)), (1, .ref (t)), (2, .int (nI u))]) rfl ?_
  refine GG.aload_n e_X4_restoreFrom_0 (i := 1) rfl 1 rfl ?_
  refine GG.ifnull e_X4_restoreFrom_1 ?_
  refine GG.iload_n e_X4_restoreFrom_4 (i := 2) rfl 2 rfl ?_
  refine GG.if_lt (tgt := 17) e_X4_restoreFrom_5 rfl (fun h5 => absurd h5 (by exact nI_pos (by omega))) (fun h5 => ?_)
  refine GG.iload_n e_X4_restoreFrom_8 (i := 2) rfl 2 rfl ?_
  refine GG.aload_n e_X4_restoreFrom_9 (i := 1) rfl 1 rfl ?_
  refine GG.alen e_X4_restoreFrom_10 ht rfl ?_
  refine GG.bipush (v := 10) e_X4_restoreFrom_11 rfl ?_
  refine GG.isub e_X4_restoreFrom_13 ?_
  refine GG.icmp_le (tgt := 18) e_X4_restoreFrom_14 rfl (fun h14 => ?_) (fun h14 => absurd h14 (by exact fun z => z (by rw [show Int32.ofNat 80 - 10 = nI 70 from rfl]; exact nI_le hu (by omega))))
  refine GG.aload_n e_X4_restoreFrom_18 (i := 0) rfl 0 rfl ?_
  refine GG.aload_n e_X4_restoreFrom_19 (i := 1) rfl 1 rfl ?_
  refine GG.iload_n e_X4_restoreFrom_20 (i := 2) rfl 2 rfl ?_
  refine GG.ialoadE (k := _) e_X4_restoreFrom_21 ht (rfl) (by omega) (Nat.le_of_ble_eq_true rfl) ?_
  refine GG.putI e_X4_restoreFrom_22 fl_X4_40 fp_X4_9 (sf_X4_9 hI_X4_b) ?_
  refine GG.aload_n e_X4_restoreFrom_25 (i := 0) rfl 0 rfl ?_
  refine GG.aload_n e_X4_restoreFrom_26 (i := 1) rfl 1 rfl ?_
  refine GG.iload_n e_X4_restoreFrom_27 (i := 2) rfl 2 rfl ?_
  refine GG.iconst (v := 1) e_X4_restoreFrom_28 rfl ?_
  refine GG.iadd e_X4_restoreFrom_29 ?_
  refine GG.ialoadV (k := u + 1) (v := mrd μ t (u + 1)) e_X4_restoreFrom_30 ht (nI_1 u) (by omega) (Nat.le_of_ble_eq_true rfl) (by simp only [mrd_wr]; grind) ?_
  refine GG.putI e_X4_restoreFrom_31 fl_X4_43 fp_X4_10 (sf_X4_10 hI_X4_b) ?_
  refine GG.aload_n e_X4_restoreFrom_34 (i := 0) rfl 0 rfl ?_
  refine GG.aload_n e_X4_restoreFrom_35 (i := 1) rfl 1 rfl ?_
  refine GG.iload_n e_X4_restoreFrom_36 (i := 2) rfl 2 rfl ?_
  refine GG.iconst (v := 2) e_X4_restoreFrom_37 rfl ?_
  refine GG.iadd e_X4_restoreFrom_38 ?_
  refine GG.ialoadV (k := u + 2) (v := mrd μ t (u + 2)) e_X4_restoreFrom_39 ht (by rw [show (2 : Int32) = nI 2 from rfl, nI_add]) (by omega) (Nat.le_of_ble_eq_true rfl) (by simp only [mrd_wr]; grind) ?_
  refine GG.putI e_X4_restoreFrom_40 fl_X4_37 fp_X4_8 (sf_X4_8 hI_X4_b) ?_
  refine GG.iconst (v := 0) e_X4_restoreFrom_43 rfl ?_
  refine GG.istore_n e_X4_restoreFrom_44 (i := 3) rfl (Nat.le_of_ble_eq_true rfl) (ls' := [(3, .int _), (0, .ref _), (1, .ref _), (2, .int _)]) rfl ?_
  refine GG.mem ?_ (lp 8 0 (by omega) (by omega))
  refine gM_ext (fun c q => ?_) (fun c q => rfl)
  simp only [mrd_wr, mrd_rs, mrd_fn]
  grind
theorem s_X4_copyFrom {s d : Nat} (hI_X4_s : gI_X4 s) (hI_X4_d : gI_X4 d) (hsd : s + 5 < d ∨ d + 5 < s) (hQ : Q none (mLc μ s d)) : SPC 1 MX4_copyFrom [.ref d, .ref s] μ Q := by
  refine SPC.of (by decide +kernel) (Nat.le_of_ble_eq_true rfl) (ls := [(0, .ref (d)), (1, .ref (s))]) rfl ?_
  refine GG.aload_n e_X4_copyFrom_0 (i := 1) rfl 1 rfl ?_
  refine GG.ifnonnull (tgt := 5) e_X4_copyFrom_1 rfl ?_
  refine GG.aload_n e_X4_copyFrom_5 (i := 0) rfl 0 rfl ?_
  refine GG.aload_n e_X4_copyFrom_6 (i := 1) rfl 1 rfl ?_
  refine GG.getI e_X4_copyFrom_7 fl_X4_9 (sf_X4_0 hI_X4_s) ?_
  refine GG.putI e_X4_copyFrom_10 fl_X4_9 fp_X4_0 (sf_X4_0 hI_X4_d) ?_
  refine GG.aload_n e_X4_copyFrom_13 (i := 0) rfl 0 rfl ?_
  refine GG.aload_n e_X4_copyFrom_14 (i := 1) rfl 1 rfl ?_
  refine GG.getIv (v := mrd μ s 1) e_X4_copyFrom_15 fl_X4_31 (sf_X4_1 hI_X4_s) (by simp only [mrd_wr]; grind) ?_
  refine GG.putI e_X4_copyFrom_18 fl_X4_31 fp_X4_1 (sf_X4_1 hI_X4_d) ?_
  refine GG.aload_n e_X4_copyFrom_21 (i := 0) rfl 0 rfl ?_
  refine GG.aload_n e_X4_copyFrom_22 (i := 1) rfl 1 rfl ?_
  refine GG.getIv (v := mrd μ s 5) e_X4_copyFrom_23 fl_X4_34 (sf_X4_5 hI_X4_s) (by simp only [mrd_wr]; grind) ?_
  refine GG.putI e_X4_copyFrom_26 fl_X4_34 fp_X4_5 (sf_X4_5 hI_X4_d) ?_
  refine GG.aload_n e_X4_copyFrom_29 (i := 0) rfl 0 rfl ?_
  refine GG.aload_n e_X4_copyFrom_30 (i := 1) rfl 1 rfl ?_
  refine GG.getIv (v := mrd μ s 8) e_X4_copyFrom_31 fl_X4_37 (sf_X4_8 hI_X4_s) (by simp only [mrd_wr]; grind) ?_
  refine GG.putI e_X4_copyFrom_34 fl_X4_37 fp_X4_8 (sf_X4_8 hI_X4_d) ?_
  refine GG.aload_n e_X4_copyFrom_37 (i := 0) rfl 0 rfl ?_
  refine GG.aload_n e_X4_copyFrom_38 (i := 1) rfl 1 rfl ?_
  refine GG.getIv (v := mrd μ s 9) e_X4_copyFrom_39 fl_X4_40 (sf_X4_9 hI_X4_s) (by simp only [mrd_wr]; grind) ?_
  refine GG.putI e_X4_copyFrom_42 fl_X4_40 fp_X4_9 (sf_X4_9 hI_X4_d) ?_
  refine GG.aload_n e_X4_copyFrom_45 (i := 0) rfl 0 rfl ?_
  refine GG.aload_n e_X4_copyFrom_46 (i := 1) rfl 1 rfl ?_
  refine GG.getIv (v := mrd μ s 10) e_X4_copyFrom_47 fl_X4_43 (sf_X4_10 hI_X4_s) (by simp only [mrd_wr]; grind) ?_
  refine GG.putI e_X4_copyFrom_50 fl_X4_43 fp_X4_10 (sf_X4_10 hI_X4_d) ?_
  refine GG.aload_n e_X4_copyFrom_53 (i := 1) rfl 1 rfl ?_
  refine GG.getR (b := (s + 1)) e_X4_copyFrom_54 fl_X4_15 (sf_X4_2 hI_X4_s) ?_
  refine GG.aload_n e_X4_copyFrom_57 (i := 0) rfl 0 rfl ?_
  refine GG.getR (b := (d + 1)) e_X4_copyFrom_58 fl_X4_15 (sf_X4_2 hI_X4_d) ?_
  refine GG.callN (d' := 0) (as := [.ref (s + 1), .ref (d + 1)]) e_X4_copyFrom_61 ml_X4_46 mf_X10_copyInto ms_X10_copyInto rfl (by decide) (Nat.le_of_ble_eq_true rfl) rfl ?_
  refine s_X10_copyInto (sa_X4_2 hI_X4_s) (sa_X4_2 hI_X4_d) (by omega) (by omega) ?_
  refine GG.aload_n e_X4_copyFrom_64 (i := 1) rfl 1 rfl ?_
  refine GG.getR (b := (s + 2)) e_X4_copyFrom_65 fl_X4_19 (sf_X4_3 hI_X4_s) ?_
  refine GG.aload_n e_X4_copyFrom_68 (i := 0) rfl 0 rfl ?_
  refine GG.getR (b := (d + 2)) e_X4_copyFrom_69 fl_X4_19 (sf_X4_3 hI_X4_d) ?_
  refine GG.callN (d' := 0) (as := [.ref (s + 2), .ref (d + 2)]) e_X4_copyFrom_72 ml_X4_46 mf_X10_copyInto ms_X10_copyInto rfl (by decide) (Nat.le_of_ble_eq_true rfl) rfl ?_
  refine s_X10_copyInto (sa_X4_3 hI_X4_s) (sa_X4_3 hI_X4_d) (by omega) (by omega) ?_
  refine GG.aload_n e_X4_copyFrom_75 (i := 1) rfl 1 rfl ?_
  refine GG.getR (b := (s + 3)) e_X4_copyFrom_76 fl_X4_22 (sf_X4_4 hI_X4_s) ?_
  refine GG.aload_n e_X4_copyFrom_79 (i := 0) rfl 0 rfl ?_
  refine GG.getR (b := (d + 3)) e_X4_copyFrom_80 fl_X4_22 (sf_X4_4 hI_X4_d) ?_
  refine GG.callN (d' := 0) (as := [.ref (s + 3), .ref (d + 3)]) e_X4_copyFrom_83 ml_X4_46 mf_X10_copyInto ms_X10_copyInto rfl (by decide) (Nat.le_of_ble_eq_true rfl) rfl ?_
  refine s_X10_copyInto (sa_X4_4 hI_X4_s) (sa_X4_4 hI_X4_d) (by omega) (by omega) ?_
  refine GG.aload_n e_X4_copyFrom_86 (i := 1) rfl 1 rfl ?_
  refine GG.getR (b := (s + 4)) e_X4_copyFrom_87 fl_X4_25 (sf_X4_6 hI_X4_s) ?_
  refine GG.aload_n e_X4_copyFrom_90 (i := 0) rfl 0 rfl ?_
  refine GG.getR (b := (d + 4)) e_X4_copyFrom_91 fl_X4_25 (sf_X4_6 hI_X4_d) ?_
  refine GG.callN (d' := 0) (as := [.ref (s + 4), .ref (d + 4)]) e_X4_copyFrom_94 ml_X4_46 mf_X10_copyInto ms_X10_copyInto rfl (by decide) (Nat.le_of_ble_eq_true rfl) rfl ?_
  refine s_X10_copyInto (sa_X4_6 hI_X4_s) (sa_X4_6 hI_X4_d) (by omega) (by omega) ?_
  refine GG.aload_n e_X4_copyFrom_97 (i := 1) rfl 1 rfl ?_
  refine GG.getR (b := (s + 5)) e_X4_copyFrom_98 fl_X4_28 (sf_X4_7 hI_X4_s) ?_
  refine GG.aload_n e_X4_copyFrom_101 (i := 0) rfl 0 rfl ?_
  refine GG.getR (b := (d + 5)) e_X4_copyFrom_102 fl_X4_28 (sf_X4_7 hI_X4_d) ?_
  refine GG.callN (d' := 0) (as := [.ref (s + 5), .ref (d + 5)]) e_X4_copyFrom_105 ml_X4_46 mf_X10_copyInto ms_X10_copyInto rfl (by decide) (Nat.le_of_ble_eq_true rfl) rfl ?_
  refine s_X10_copyInto (sa_X4_7 hI_X4_s) (sa_X4_7 hI_X4_d) (by omega) (by omega) ?_
  refine GG.vret e_X4_copyFrom_108 rfl rfl ?_
  refine qM hQ (gM_ext (fun c q => ?_) (fun c q => rfl))
  simp only [mrd_wr, mrd_cp, mrd_Lc]
  clear hQ hI_X4_s hI_X4_d
  grind (splits := 40)
theorem s_X4_addOne {x y z : Int32} (hI_X4_b : gI_X4 b) (hL : LC μ b P A) (hn : P = 7 → Q (some (.int 0)) μ) (hy : P < 7 → Q (some (.int 1)) (mwr (mwr (mwr (mwr μ (b + 1) P x) (b + 2) P y) (b + 3) P z) b 1 (nI (P + 1)))) : SPC 1 MX4_addOne [.ref b, .int x, .int y, .int z] μ Q := by
  obtain ⟨h1p, h2p, h3p, h4p⟩ := hL
  refine SPC.of (by decide +kernel) (Nat.le_of_ble_eq_true rfl) (ls := [(0, .ref (b)), (1, .int (x)), (2, .int (y)), (3, .int (z))]) rfl ?_
  refine GG.aload_n e_X4_addOne_0 (i := 0) rfl 0 rfl ?_
  refine GG.getIv (v := nI P) e_X4_addOne_1 fl_X4_31 (sf_X4_1 hI_X4_b) (h1p) ?_
  refine GG.iconst (v := 0) e_X4_addOne_4 rfl ?_
  refine GG.bipush (v := 6) e_X4_addOne_5 rfl ?_
  refine GG.callN (d' := 0) (as := [.int _, .int _, .int _]) e_X4_addOne_7 ml_X4_50 mf_X10_outside ms_X10_outside rfl (by decide) (Nat.le_of_ble_eq_true rfl) rfl ?_
  refine s_X10_outside ?_
  refine GG.if_eq (tgt := 15) e_X4_addOne_10 rfl (fun h10 => ?_) (fun h10 => ?_)
  · skip
    have e : P < 7 := by rw [bI_0, decide_eq_false_iff_not, not_or] at h10; have := nnlt (a := 6) h10.2 (by omega) (by omega); omega
    refine GG.aload_n e_X4_addOne_15 (i := 0) rfl 0 rfl ?_
    refine GG.getR (b := (b + 1)) e_X4_addOne_16 fl_X4_15 (sf_X4_2 hI_X4_b) ?_
    refine GG.aload_n e_X4_addOne_19 (i := 0) rfl 0 rfl ?_
    refine GG.getIv (v := nI P) e_X4_addOne_20 fl_X4_31 (sf_X4_1 hI_X4_b) (h1p) ?_
    refine GG.iload_n e_X4_addOne_23 (i := 1) rfl 1 rfl ?_
    refine GG.iastoreE (k := _) e_X4_addOne_24 (sa_X4_2 hI_X4_b) (rfl) (by omega) (Nat.le_of_ble_eq_true rfl) ?_
    refine GG.aload_n e_X4_addOne_25 (i := 0) rfl 0 rfl ?_
    refine GG.getR (b := (b + 2)) e_X4_addOne_26 fl_X4_19 (sf_X4_3 hI_X4_b) ?_
    refine GG.aload_n e_X4_addOne_29 (i := 0) rfl 0 rfl ?_
    refine GG.getIv (v := nI P) e_X4_addOne_30 fl_X4_31 (sf_X4_1 hI_X4_b) (by simp [mrd_wr, h1p]) ?_
    refine GG.iload_n e_X4_addOne_33 (i := 2) rfl 2 rfl ?_
    refine GG.iastoreE (k := _) e_X4_addOne_34 (sa_X4_3 hI_X4_b) (rfl) (by omega) (Nat.le_of_ble_eq_true rfl) ?_
    refine GG.aload_n e_X4_addOne_35 (i := 0) rfl 0 rfl ?_
    refine GG.getR (b := (b + 3)) e_X4_addOne_36 fl_X4_22 (sf_X4_4 hI_X4_b) ?_
    refine GG.aload_n e_X4_addOne_39 (i := 0) rfl 0 rfl ?_
    refine GG.getIv (v := nI P) e_X4_addOne_40 fl_X4_31 (sf_X4_1 hI_X4_b) (by simp [mrd_wr, h1p]) ?_
    refine GG.iload_n e_X4_addOne_43 (i := 3) rfl 3 rfl ?_
    refine GG.iastoreE (k := _) e_X4_addOne_44 (sa_X4_4 hI_X4_b) (rfl) (by omega) (Nat.le_of_ble_eq_true rfl) ?_
    refine GG.aload_n e_X4_addOne_45 (i := 0) rfl 0 rfl ?_
    refine GG.dup e_X4_addOne_46 rfl ?_
    refine GG.getIv (v := nI P) e_X4_addOne_47 fl_X4_31 (sf_X4_1 hI_X4_b) (by simp [mrd_wr, h1p]) ?_
    refine GG.iconst (v := 1) e_X4_addOne_50 rfl ?_
    refine GG.iadd e_X4_addOne_51 ?_
    refine GG.putI e_X4_addOne_52 fl_X4_31 fp_X4_1 (sf_X4_1 hI_X4_b) ?_
    refine GG.iconst (v := 1) e_X4_addOne_55 rfl ?_
    refine GG.zret e_X4_addOne_56 rfl rfl rfl ?_
    rw [nI_1]
    exact hy e
  · skip
    have e : P = 7 := by rw [bI_0, Bool.not_eq_false, decide_eq_true_eq] at h10; rcases h10 with h | h; exact absurd h (nI_pos (by omega)); have := nlt (a := 6) h (by omega) (by omega); omega
    refine GG.iconst (v := 0) e_X4_addOne_13 rfl ?_
    refine GG.zret e_X4_addOne_14 rfl rfl rfl ?_
    exact hn e
theorem s_X4_addAunt {x y : Int32} (hI_X4_b : gI_X4 b) (hL : LC μ b P A) (hn : A = 4 → Q (some (.int 0)) μ) (hy : A < 4 → Q (some (.int 1)) (mwr (mwr (mwr (mwr μ (b + 4) A x) (b + 5) A y) b 8 (mrd μ b 8 ||| ((1 : Int32) <<< (nI A &&& 31)))) b 5 (nI (A + 1)))) : SPC 1 MX4_addAunt [.ref b, .int x, .int y] μ Q := by
  obtain ⟨h1p, h2p, h3p, h4p⟩ := hL
  refine SPC.of (by decide +kernel) (Nat.le_of_ble_eq_true rfl) (ls := [(0, .ref (b)), (1, .int (x)), (2, .int (y))]) rfl ?_
  refine GG.aload_n e_X4_addAunt_0 (i := 0) rfl 0 rfl ?_
  refine GG.getIv (v := nI A) e_X4_addAunt_1 fl_X4_34 (sf_X4_5 hI_X4_b) (h3p) ?_
  refine GG.iconst (v := 0) e_X4_addAunt_4 rfl ?_
  refine GG.iconst (v := 3) e_X4_addAunt_5 rfl ?_
  refine GG.callN (d' := 0) (as := [.int _, .int _, .int _]) e_X4_addAunt_6 ml_X4_50 mf_X10_outside ms_X10_outside rfl (by decide) (Nat.le_of_ble_eq_true rfl) rfl ?_
  refine s_X10_outside ?_
  refine GG.if_eq (tgt := 14) e_X4_addAunt_9 rfl (fun h9 => ?_) (fun h9 => ?_)
  · skip
    have e : A < 4 := by rw [bI_0, decide_eq_false_iff_not, not_or] at h9; have := nnlt (a := 3) h9.2 (by omega) (by omega); omega
    refine GG.aload_n e_X4_addAunt_14 (i := 0) rfl 0 rfl ?_
    refine GG.getR (b := (b + 4)) e_X4_addAunt_15 fl_X4_25 (sf_X4_6 hI_X4_b) ?_
    refine GG.aload_n e_X4_addAunt_18 (i := 0) rfl 0 rfl ?_
    refine GG.getIv (v := nI A) e_X4_addAunt_19 fl_X4_34 (sf_X4_5 hI_X4_b) (h3p) ?_
    refine GG.iload_n e_X4_addAunt_22 (i := 1) rfl 1 rfl ?_
    refine GG.iastoreE (k := _) e_X4_addAunt_23 (sa_X4_6 hI_X4_b) (rfl) (by omega) (Nat.le_of_ble_eq_true rfl) ?_
    refine GG.aload_n e_X4_addAunt_24 (i := 0) rfl 0 rfl ?_
    refine GG.getR (b := (b + 5)) e_X4_addAunt_25 fl_X4_28 (sf_X4_7 hI_X4_b) ?_
    refine GG.aload_n e_X4_addAunt_28 (i := 0) rfl 0 rfl ?_
    refine GG.getIv (v := nI A) e_X4_addAunt_29 fl_X4_34 (sf_X4_5 hI_X4_b) (by simp [mrd_wr, h3p]) ?_
    refine GG.iload_n e_X4_addAunt_32 (i := 2) rfl 2 rfl ?_
    refine GG.iastoreE (k := _) e_X4_addAunt_33 (sa_X4_7 hI_X4_b) (rfl) (by omega) (Nat.le_of_ble_eq_true rfl) ?_
    refine GG.aload_n e_X4_addAunt_34 (i := 0) rfl 0 rfl ?_
    refine GG.dup e_X4_addAunt_35 rfl ?_
    refine GG.getIv (v := mrd μ b 8) e_X4_addAunt_36 fl_X4_37 (sf_X4_8 hI_X4_b) (by simp [mrd_wr]) ?_
    refine GG.iconst (v := 1) e_X4_addAunt_39 rfl ?_
    refine GG.aload_n e_X4_addAunt_40 (i := 0) rfl 0 rfl ?_
    refine GG.getIv (v := nI A) e_X4_addAunt_41 fl_X4_34 (sf_X4_5 hI_X4_b) (by simp [mrd_wr, h3p]) ?_
    refine GG.ishl e_X4_addAunt_44 ?_
    refine GG.ior e_X4_addAunt_45 ?_
    refine GG.putI e_X4_addAunt_46 fl_X4_37 fp_X4_8 (sf_X4_8 hI_X4_b) ?_
    refine GG.aload_n e_X4_addAunt_49 (i := 0) rfl 0 rfl ?_
    refine GG.dup e_X4_addAunt_50 rfl ?_
    refine GG.getIv (v := nI A) e_X4_addAunt_51 fl_X4_34 (sf_X4_5 hI_X4_b) (by simp [mrd_wr, h3p]) ?_
    refine GG.iconst (v := 1) e_X4_addAunt_54 rfl ?_
    refine GG.iadd e_X4_addAunt_55 ?_
    refine GG.putI e_X4_addAunt_56 fl_X4_34 fp_X4_5 (sf_X4_5 hI_X4_b) ?_
    refine GG.iconst (v := 1) e_X4_addAunt_59 rfl ?_
    refine GG.zret e_X4_addAunt_60 rfl rfl rfl ?_
    rw [nI_1]
    exact hy e
  · skip
    have e : A = 4 := by rw [bI_0, Bool.not_eq_false, decide_eq_true_eq] at h9; rcases h9 with h | h; exact absurd h (nI_pos (by omega)); have := nlt (a := 3) h (by omega) (by omega); omega
    refine GG.iconst (v := 0) e_X4_addAunt_12 rfl ?_
    refine GG.zret e_X4_addAunt_13 rfl rfl rfl ?_
    exact hn e
theorem s_X4_foldedInto {h : Int64} (hI_X4_b : gI_X4 b) (hL : LC μ b P A) (hQ : Q (some (.long (mFo (fun k w => (if nI w = 0 then mrd μ (b + 4) k else if nI w = 1 then mrd μ (b + 5) k else bI (mHas (mrd μ b 8) (nI k))).toInt64) 3 A (mFo (fun k w => (if nI w = 0 then mrd μ (b + 1) k else if nI w = 1 then mrd μ (b + 2) k else mrd μ (b + 3) k).toInt64) 3 P h)))) μ) : SPC 3 MX4_foldedInto [.ref b, .long h] μ Q := by
  obtain ⟨h1p, h2p, h3p, h4p⟩ := id hL
  generalize hf : (fun (k w : Nat) => (if nI w = 0 then mrd μ (b + 1) k else if nI w = 1 then mrd μ (b + 2) k else mrd μ (b + 3) k).toInt64) = f at hQ
  generalize hg : (fun (k w : Nat) => (if nI w = 0 then mrd μ (b + 4) k else if nI w = 1 then mrd μ (b + 5) k else bI (mHas (mrd μ b 8) (nI k))).toInt64) = g at hQ
  have lpA : ∀ n i x, A - i < n → i ≤ A → x = mFo g 3 i (mFo f 3 P h) → GG 3 MX4_foldedInto 52 [(5, .int (nI i)), (3, .long x), (0, .ref b)] [] μ Q := by
    intro n
    induction n with
    | zero => intro i x h; omega
    | succ n ih =>
      intro i x hn hi hl
      have inn : ∀ m j z, 3 - j < m → j ≤ 3 → i < A → z = mFw (g i) j x → GG 3 MX4_foldedInto 64 [(6, .int (nI j)), (5, .int (nI i)), (3, .long z), (0, .ref b)] [] μ Q := by
        intro m
        induction m with
        | zero => intro j z h; omega
        | succ m ihm =>
          intro j z hm hj hi2 hz
          refine GG.iload e_X4_foldedInto_64 0 rfl ?_
          refine GG.iconst (v := 2) e_X4_foldedInto_66 rfl ?_
          refine GG.icmp_gt (tgt := 90) e_X4_foldedInto_67 rfl (fun h67 => ?_) (fun h67 => ?_)
          · skip
            have e := nlt (a := 2) h67 (by omega) (by omega)
            have e2 : j = 3 := by omega
            subst e2
            refine GG.iinc e_X4_foldedInto_90 1 rfl (v := _) (by first | exact nI_s _ | exact nI_d _ | rfl) (Nat.le_of_ble_eq_true rfl) (ls' := [(5, .int _), (6, .int _), (3, .long _), (0, .ref _)]) rfl ?_
            refine GG.goto (tgt := 52) e_X4_foldedInto_93 rfl ?_
            refine GG.perm [0, 2, 3] rfl ?_
            refine ih (i + 1) _ (by omega) (by omega) ?_
            rw [mFo, hz, hl]
          · skip
            have e := nnlt (a := 2) h67 (by omega) (by omega)
            refine GG.lload_n e_X4_foldedInto_70 (i := 3) rfl 2 rfl ?_
            refine GG.aload_n e_X4_foldedInto_71 (i := 0) rfl 3 rfl ?_
            refine GG.iload e_X4_foldedInto_72 1 rfl ?_
            refine GG.iload e_X4_foldedInto_74 0 rfl ?_
            refine GG.callV (d' := 2) (a := b) (as := [.int _, .int _]) e_X4_foldedInto_76 ml_X4_112 mf_X4_factOfAunt mv_X4_factOfAunt (rc_X4 hI_X4_b) rfl (by decide) (Nat.le_of_ble_eq_true rfl) rfl ?_
            refine s_X4_factOfAunt hI_X4_b hL hi2 ?_
            refine GG.i2l e_X4_foldedInto_79 ?_
            refine GG.callN (d' := 0) (as := [.long _, .long _]) e_X4_foldedInto_80 ml_X4_108 mf_X10_folded ms_X10_folded rfl (by decide) (Nat.le_of_ble_eq_true rfl) rfl ?_
            refine s_X10_folded ?_
            refine GG.lstore_n e_X4_foldedInto_83 (i := 3) rfl (Nat.le_of_ble_eq_true rfl) (ls' := [(3, .long _), (6, .int _), (5, .int _), (0, .ref _)]) rfl ?_
            refine GG.iinc e_X4_foldedInto_84 1 rfl (v := _) (by first | exact nI_s _ | exact nI_d _ | rfl) (Nat.le_of_ble_eq_true rfl) (ls' := [(6, .int _), (3, .long _), (5, .int _), (0, .ref _)]) rfl ?_
            refine GG.goto (tgt := 64) e_X4_foldedInto_87 rfl ?_
            refine GG.perm [0, 2, 1, 3] rfl ?_
            refine ihm (j + 1) _ (by omega) (by omega) hi2 ?_
            rw [mFw, hz, ← hg]
      refine GG.iload e_X4_foldedInto_52 0 rfl ?_
      refine GG.aload_n e_X4_foldedInto_54 (i := 0) rfl 2 rfl ?_
      refine GG.getIv (v := nI A) e_X4_foldedInto_55 fl_X4_34 (sf_X4_5 hI_X4_b) (h3p) ?_
      refine GG.icmp_ge (tgt := 96) e_X4_foldedInto_58 rfl (fun h58 => ?_) (fun h58 => ?_)
      · skip
        have e := nle h58 (by omega) (by omega)
        have e2 : i = A := by omega
        subst e2
        refine GG.lload_n e_X4_foldedInto_96 (i := 3) rfl 1 rfl ?_
        refine GG.lret e_X4_foldedInto_97 rfl rfl ?_
        rw [hl]
        exact hQ
      · skip
        have e := nnle h58 (by omega) (by omega)
        refine GG.iconst (v := 0) e_X4_foldedInto_61 rfl ?_
        refine GG.istore e_X4_foldedInto_62 (Nat.le_of_ble_eq_true rfl) (ls' := [(6, .int _), (5, .int _), (3, .long _), (0, .ref _)]) rfl ?_
        exact inn 4 0 _ (by omega) (by omega) e rfl
  have lpP : ∀ n i x, P - i < n → i ≤ P → x = mFo f 3 i h → GG 3 MX4_foldedInto 5 [(5, .int (nI i)), (3, .long x), (0, .ref b)] [] μ Q := by
    intro n
    induction n with
    | zero => intro i x h; omega
    | succ n ih =>
      intro i x hn hi hl
      have inn : ∀ m j z, 3 - j < m → j ≤ 3 → i < P → z = mFw (f i) j x → GG 3 MX4_foldedInto 17 [(6, .int (nI j)), (5, .int (nI i)), (3, .long z), (0, .ref b)] [] μ Q := by
        intro m
        induction m with
        | zero => intro j z h; omega
        | succ m ihm =>
          intro j z hm hj hi2 hz
          refine GG.iload e_X4_foldedInto_17 0 rfl ?_
          refine GG.iconst (v := 2) e_X4_foldedInto_19 rfl ?_
          refine GG.icmp_gt (tgt := 43) e_X4_foldedInto_20 rfl (fun h20 => ?_) (fun h20 => ?_)
          · skip
            have e := nlt (a := 2) h20 (by omega) (by omega)
            have e2 : j = 3 := by omega
            subst e2
            refine GG.iinc e_X4_foldedInto_43 1 rfl (v := _) (by first | exact nI_s _ | exact nI_d _ | rfl) (Nat.le_of_ble_eq_true rfl) (ls' := [(5, .int _), (6, .int _), (3, .long _), (0, .ref _)]) rfl ?_
            refine GG.goto (tgt := 5) e_X4_foldedInto_46 rfl ?_
            refine GG.perm [0, 2, 3] rfl ?_
            refine ih (i + 1) _ (by omega) (by omega) ?_
            rw [mFo, hz, hl]
          · skip
            have e := nnlt (a := 2) h20 (by omega) (by omega)
            refine GG.lload_n e_X4_foldedInto_23 (i := 3) rfl 2 rfl ?_
            refine GG.aload_n e_X4_foldedInto_24 (i := 0) rfl 3 rfl ?_
            refine GG.iload e_X4_foldedInto_25 1 rfl ?_
            refine GG.iload e_X4_foldedInto_27 0 rfl ?_
            refine GG.callV (d' := 1) (a := b) (as := [.int _, .int _]) e_X4_foldedInto_29 ml_X4_105 mf_X4_factOfOne mv_X4_factOfOne (rc_X4 hI_X4_b) rfl (by decide) (Nat.le_of_ble_eq_true rfl) rfl ?_
            refine s_X4_factOfOne hI_X4_b hL hi2 ?_
            refine GG.i2l e_X4_foldedInto_32 ?_
            refine GG.callN (d' := 0) (as := [.long _, .long _]) e_X4_foldedInto_33 ml_X4_108 mf_X10_folded ms_X10_folded rfl (by decide) (Nat.le_of_ble_eq_true rfl) rfl ?_
            refine s_X10_folded ?_
            refine GG.lstore_n e_X4_foldedInto_36 (i := 3) rfl (Nat.le_of_ble_eq_true rfl) (ls' := [(3, .long _), (6, .int _), (5, .int _), (0, .ref _)]) rfl ?_
            refine GG.iinc e_X4_foldedInto_37 1 rfl (v := _) (by first | exact nI_s _ | exact nI_d _ | rfl) (Nat.le_of_ble_eq_true rfl) (ls' := [(6, .int _), (3, .long _), (5, .int _), (0, .ref _)]) rfl ?_
            refine GG.goto (tgt := 17) e_X4_foldedInto_40 rfl ?_
            refine GG.perm [0, 2, 1, 3] rfl ?_
            refine ihm (j + 1) _ (by omega) (by omega) hi2 ?_
            rw [mFw, hz, ← hf]
      refine GG.iload e_X4_foldedInto_5 0 rfl ?_
      refine GG.aload_n e_X4_foldedInto_7 (i := 0) rfl 2 rfl ?_
      refine GG.getIv (v := nI P) e_X4_foldedInto_8 fl_X4_31 (sf_X4_1 hI_X4_b) (h1p) ?_
      refine GG.icmp_ge (tgt := 49) e_X4_foldedInto_11 rfl (fun h11 => ?_) (fun h11 => ?_)
      · skip
        have e := nle h11 (by omega) (by omega)
        have e2 : i = P := by omega
        subst e2
        refine GG.iconst (v := 0) e_X4_foldedInto_49 rfl ?_
        refine GG.istore e_X4_foldedInto_50 (Nat.le_of_ble_eq_true rfl) (ls' := [(5, .int _), (3, .long _), (0, .ref _)]) rfl ?_
        exact lpA (A + 1) 0 _ (by omega) (by omega) (by rw [hl]; rfl)
      · skip
        have e := nnle h11 (by omega) (by omega)
        refine GG.iconst (v := 0) e_X4_foldedInto_14 rfl ?_
        refine GG.istore e_X4_foldedInto_15 (Nat.le_of_ble_eq_true rfl) (ls' := [(6, .int _), (5, .int _), (3, .long _), (0, .ref _)]) rfl ?_
        exact inn 4 0 _ (by omega) (by omega) e rfl
  refine SPC.of (by decide +kernel) (Nat.le_of_ble_eq_true rfl) (ls := [(0, .ref (b)), (1, .long (h))]) rfl ?_
  refine GG.lload_n e_X4_foldedInto_0 (i := 1) rfl 1 rfl ?_
  refine GG.lstore_n e_X4_foldedInto_1 (i := 3) rfl (Nat.le_of_ble_eq_true rfl) (ls' := [(3, .long _), (0, .ref _), (1, .long _)]) rfl ?_
  refine GG.iconst (v := 0) e_X4_foldedInto_2 rfl ?_
  refine GG.istore e_X4_foldedInto_3 (Nat.le_of_ble_eq_true rfl) (ls' := [(5, .int _), (3, .long _), (0, .ref _), (1, .long _)]) rfl ?_
  refine GG.perm [0, 1, 2] rfl ?_
  exact lpP (P + 1) 0 _ (by omega) (by omega) rfl
end S17
