/-! LANE: who is there, small methods -/
def mIn (i : Int32) (P : Nat) : Bool := decide (0 ≤ i.toInt ∧ i.toInt < (P : Int))
theorem mIn_of {i : Int32} {P : Nat} (h : mIn i P = true) (hP : P < 2 ^ 31) : ∃ k, k < P ∧ i = nI k := vp_in_of (vp_in_iff.mpr (of_decide_eq_true h)) hP
theorem mIn_n {k P : Nat} (hk : k < 2 ^ 31) : mIn (nI k) P = decide (k < P) := by
  unfold mIn
  rw [nI_toInt hk]
  congr 1
  simp
theorem mIn_f0 {i : Int32} {P : Nat} (h : i < 0) : mIn i P = false := by
  have := Int32.lt_iff_toInt_lt.mp h
  have e : (0 : Int32).toInt = 0 := by decide
  unfold mIn
  simp only [decide_eq_false_iff_not]
  omega
theorem mIn_f1 {i : Int32} {P : Nat} (h : nI P ≤ i) (hP : P < 2 ^ 31) : mIn i P = false := by
  have := Int32.le_iff_toInt_le.mp h
  rw [nI_toInt hP] at this
  unfold mIn
  simp only [decide_eq_false_iff_not]
  omega
theorem mIn_t {i : Int32} {P : Nat} (h0 : ¬ i < 0) (h1 : ¬ nI P ≤ i) (hP : P < 2 ^ 31) : mIn i P = true := by
  have e : (0 : Int32).toInt = 0 := by decide
  have a : ¬ i.toInt < 0 := fun z => h0 (Int32.lt_iff_toInt_lt.mpr (by rw [e]; exact z))
  have b : ¬ (P : Int) ≤ i.toInt := fun z => h1 (Int32.le_iff_toInt_le.mpr (by rw [nI_toInt hP]; exact z))
  unfold mIn
  simp only [decide_eq_true_eq]
  omega
theorem mIn_f7 {i : Int32} {P n : Nat} (h : nI n ≤ i) (hn : n < 2 ^ 31) (hP : P ≤ n) : mIn i P = false := by
  have := Int32.le_iff_toInt_le.mp h
  rw [nI_toInt hn] at this
  unfold mIn
  simp only [decide_eq_false_iff_not]
  omega
def LC (μ : gM) (b P A : Nat) : Prop := mrd μ b 1 = nI P ∧ P ≤ 7 ∧ mrd μ b 5 = nI A ∧ A ≤ 4
section S13
variable {μ : gM} {Q : Option Value → gM → Prop} {b P A : Nat} {i c a : Int32}
theorem s_X4_hasOne (hI_X4_b : gI_X4 b) (hL : LC μ b P A) (hQ : Q (some (.int (bI (mIn i P)))) μ) : SPC 0 MX4_hasOne [.ref b, .int i] μ Q := by
  obtain ⟨h1p, h2p, h3p, h4p⟩ := hL
  refine SPC.of (by decide +kernel) (Nat.le_of_ble_eq_true rfl) (ls := [(0, .ref (b)), (1, .int (i))]) rfl ?_
  refine GG.iload_n e_X4_hasOne_0 (i := 1) rfl 1 rfl ?_
  refine GG.if_lt (tgt := 22) e_X4_hasOne_1 rfl (fun h1 => ?_) (fun h1 => ?_)
  · skip
    refine GG.iconst (v := 0) e_X4_hasOne_22 rfl ?_
    refine GG.zret e_X4_hasOne_23 rfl rfl rfl ?_
    rw [h1p] at *
    first | exact qI hQ (by rw [mIn_f0 (by assumption)]; rfl) | exact qI hQ (by rw [mIn_f1 (P := P) (by assumption) (by omega)]; rfl) | exact qI hQ (by rw [mIn_f7 (n := 7) (by assumption) (by omega) (by omega)]; rfl) | exact qI hQ (by rw [mIn_t (by assumption) (by assumption) (by omega)]; rfl)
  · skip
    refine GG.iload_n e_X4_hasOne_4 (i := 1) rfl 1 rfl ?_
    refine GG.aload_n e_X4_hasOne_5 (i := 0) rfl 0 rfl ?_
    refine GG.getI e_X4_hasOne_6 fl_X4_31 (sf_X4_1 hI_X4_b) ?_
    refine GG.icmp_ge (tgt := 22) e_X4_hasOne_9 rfl (fun h9 => ?_) (fun h9 => ?_)
    · skip
      refine GG.iconst (v := 0) e_X4_hasOne_22 rfl ?_
      refine GG.zret e_X4_hasOne_23 rfl rfl rfl ?_
      rw [h1p] at *
      first | exact qI hQ (by rw [mIn_f0 (by assumption)]; rfl) | exact qI hQ (by rw [mIn_f1 (P := P) (by assumption) (by omega)]; rfl) | exact qI hQ (by rw [mIn_f7 (n := 7) (by assumption) (by omega) (by omega)]; rfl) | exact qI hQ (by rw [mIn_t (by assumption) (by assumption) (by omega)]; rfl)
    · skip
      refine GG.iload_n e_X4_hasOne_12 (i := 1) rfl 1 rfl ?_
      refine GG.bipush (v := 7) e_X4_hasOne_13 rfl ?_
      refine GG.icmp_ge (tgt := 22) e_X4_hasOne_15 rfl (fun h15 => ?_) (fun h15 => ?_)
      · skip
        refine GG.iconst (v := 0) e_X4_hasOne_22 rfl ?_
        refine GG.zret e_X4_hasOne_23 rfl rfl rfl ?_
        rw [h1p] at *
        first | exact qI hQ (by rw [mIn_f0 (by assumption)]; rfl) | exact qI hQ (by rw [mIn_f1 (P := P) (by assumption) (by omega)]; rfl) | exact qI hQ (by rw [mIn_f7 (n := 7) (by assumption) (by omega) (by omega)]; rfl) | exact qI hQ (by rw [mIn_t (by assumption) (by assumption) (by omega)]; rfl)
      · skip
        refine GG.iconst (v := 1) e_X4_hasOne_18 rfl ?_
        refine GG.goto (tgt := 23) e_X4_hasOne_19 rfl ?_
        refine GG.zret e_X4_hasOne_23 rfl rfl rfl ?_
        rw [h1p] at *
        first | exact qI hQ (by rw [mIn_f0 (by assumption)]; rfl) | exact qI hQ (by rw [mIn_f1 (P := P) (by assumption) (by omega)]; rfl) | exact qI hQ (by rw [mIn_f7 (n := 7) (by assumption) (by omega) (by omega)]; rfl) | exact qI hQ (by rw [mIn_t (by assumption) (by assumption) (by omega)]; rfl)
theorem s_X4_hasAunt (hI_X4_b : gI_X4 b) (hL : LC μ b P A) (hQ : Q (some (.int (bI (mIn i A)))) μ) : SPC 0 MX4_hasAunt [.ref b, .int i] μ Q := by
  obtain ⟨h1p, h2p, h3p, h4p⟩ := hL
  refine SPC.of (by decide +kernel) (Nat.le_of_ble_eq_true rfl) (ls := [(0, .ref (b)), (1, .int (i))]) rfl ?_
  refine GG.iload_n e_X4_hasAunt_0 (i := 1) rfl 1 rfl ?_
  refine GG.if_lt (tgt := 21) e_X4_hasAunt_1 rfl (fun h1 => ?_) (fun h1 => ?_)
  · skip
    refine GG.iconst (v := 0) e_X4_hasAunt_21 rfl ?_
    refine GG.zret e_X4_hasAunt_22 rfl rfl rfl ?_
    rw [h3p] at *
    first | exact qI hQ (by rw [mIn_f0 (by assumption)]; rfl) | exact qI hQ (by rw [mIn_f1 (P := A) (by assumption) (by omega)]; rfl) | exact qI hQ (by rw [mIn_f7 (n := 4) (by assumption) (by omega) (by omega)]; rfl) | exact qI hQ (by rw [mIn_t (by assumption) (by assumption) (by omega)]; rfl)
  · skip
    refine GG.iload_n e_X4_hasAunt_4 (i := 1) rfl 1 rfl ?_
    refine GG.aload_n e_X4_hasAunt_5 (i := 0) rfl 0 rfl ?_
    refine GG.getI e_X4_hasAunt_6 fl_X4_34 (sf_X4_5 hI_X4_b) ?_
    refine GG.icmp_ge (tgt := 21) e_X4_hasAunt_9 rfl (fun h9 => ?_) (fun h9 => ?_)
    · skip
      refine GG.iconst (v := 0) e_X4_hasAunt_21 rfl ?_
      refine GG.zret e_X4_hasAunt_22 rfl rfl rfl ?_
      rw [h3p] at *
      first | exact qI hQ (by rw [mIn_f0 (by assumption)]; rfl) | exact qI hQ (by rw [mIn_f1 (P := A) (by assumption) (by omega)]; rfl) | exact qI hQ (by rw [mIn_f7 (n := 4) (by assumption) (by omega) (by omega)]; rfl) | exact qI hQ (by rw [mIn_t (by assumption) (by assumption) (by omega)]; rfl)
    · skip
      refine GG.iload_n e_X4_hasAunt_12 (i := 1) rfl 1 rfl ?_
      refine GG.iconst (v := 4) e_X4_hasAunt_13 rfl ?_
      refine GG.icmp_ge (tgt := 21) e_X4_hasAunt_14 rfl (fun h14 => ?_) (fun h14 => ?_)
      · skip
        refine GG.iconst (v := 0) e_X4_hasAunt_21 rfl ?_
        refine GG.zret e_X4_hasAunt_22 rfl rfl rfl ?_
        rw [h3p] at *
        first | exact qI hQ (by rw [mIn_f0 (by assumption)]; rfl) | exact qI hQ (by rw [mIn_f1 (P := A) (by assumption) (by omega)]; rfl) | exact qI hQ (by rw [mIn_f7 (n := 4) (by assumption) (by omega) (by omega)]; rfl) | exact qI hQ (by rw [mIn_t (by assumption) (by assumption) (by omega)]; rfl)
      · skip
        refine GG.iconst (v := 1) e_X4_hasAunt_17 rfl ?_
        refine GG.goto (tgt := 22) e_X4_hasAunt_18 rfl ?_
        refine GG.zret e_X4_hasAunt_22 rfl rfl rfl ?_
        rw [h3p] at *
        first | exact qI hQ (by rw [mIn_f0 (by assumption)]; rfl) | exact qI hQ (by rw [mIn_f1 (P := A) (by assumption) (by omega)]; rfl) | exact qI hQ (by rw [mIn_f7 (n := 4) (by assumption) (by omega) (by omega)]; rfl) | exact qI hQ (by rw [mIn_t (by assumption) (by assumption) (by omega)]; rfl)
theorem s_X4_isThere (hI_X4_b : gI_X4 b) (hL : LC μ b P A) (hQ : Q (some (.int (bI (mIn i A && mHas (mrd μ b 8) i)))) μ) : SPC 1 MX4_isThere [.ref b, .int i] μ Q := by
  refine SPC.of (by decide +kernel) (Nat.le_of_ble_eq_true rfl) (ls := [(0, .ref (b)), (1, .int (i))]) rfl ?_
  refine GG.aload_n e_X4_isThere_0 (i := 0) rfl 0 rfl ?_
  refine GG.iload_n e_X4_isThere_1 (i := 1) rfl 1 rfl ?_
  refine GG.callV (d' := 0) (a := b) (as := [.int _]) e_X4_isThere_2 ml_X4_54 mf_X4_hasAunt mv_X4_hasAunt (rc_X4 hI_X4_b) rfl (by decide) (Nat.le_of_ble_eq_true rfl) rfl ?_
  refine s_X4_hasAunt hI_X4_b hL ?_
  refine GG.if_eq (tgt := 23) e_X4_isThere_5 rfl (fun h5 => ?_) (fun h5 => ?_)
  · skip
    refine GG.iconst (v := 0) e_X4_isThere_23 rfl ?_
    refine GG.zret e_X4_isThere_24 rfl rfl rfl ?_
    refine qI hQ ?_
    revert h5
    cases mIn i A <;> simp_all [bI]
  · skip
    refine GG.aload_n e_X4_isThere_8 (i := 0) rfl 0 rfl ?_
    refine GG.getI e_X4_isThere_9 fl_X4_37 (sf_X4_8 hI_X4_b) ?_
    refine GG.iload_n e_X4_isThere_12 (i := 1) rfl 1 rfl ?_
    refine GG.callN (d' := 0) (as := [.int _, .int _]) e_X4_isThere_13 ml_X4_58 mf_X10_hasBit ms_X10_hasBit rfl (by decide) (Nat.le_of_ble_eq_true rfl) rfl ?_
    refine s_X10_hasBit ?_
    refine GG.if_eq (tgt := 23) e_X4_isThere_16 rfl (fun h16 => ?_) (fun h16 => ?_)
    · skip
      refine GG.iconst (v := 0) e_X4_isThere_23 rfl ?_
      refine GG.zret e_X4_isThere_24 rfl rfl rfl ?_
      refine qI hQ ?_
      revert h5
      cases mIn i A <;> simp_all [bI]
    · skip
      refine GG.iconst (v := 1) e_X4_isThere_19 rfl ?_
      refine GG.goto (tgt := 24) e_X4_isThere_20 rfl ?_
      refine GG.zret e_X4_isThere_24 rfl rfl rfl ?_
      refine qI hQ ?_
      revert h5
      cases mIn i A <;> simp_all [bI]

theorem s_X4_setThere {z : Int32} (hI_X4_b : gI_X4 b) (hL : LC μ b P A) (hn : mIn i A = false → Q none μ) (h0 : mIn i A = true → z = 0 → Q none (mwr μ b 8 (mrd μ b 8 &&& (((1 : Int32) <<< (i &&& 31)) ^^^ (-1))))) (h1 : mIn i A = true → ¬ z = 0 → Q none (mwr μ b 8 (mrd μ b 8 ||| ((1 : Int32) <<< (i &&& 31))))) : SPC 1 MX4_setThere [.ref b, .int i, .int z] μ Q := by
  refine SPC.of (by decide +kernel) (Nat.le_of_ble_eq_true rfl) (ls := [(0, .ref (b)), (1, .int (i)), (2, .int (z))]) rfl ?_
  refine GG.aload_n e_X4_setThere_0 (i := 0) rfl 0 rfl ?_
  refine GG.iload_n e_X4_setThere_1 (i := 1) rfl 1 rfl ?_
  refine GG.callV (d' := 0) (a := b) (as := [.int _]) e_X4_setThere_2 ml_X4_54 mf_X4_hasAunt mv_X4_hasAunt (rc_X4 hI_X4_b) rfl (by decide) (Nat.le_of_ble_eq_true rfl) rfl ?_
  refine s_X4_hasAunt hI_X4_b hL ?_
  refine GG.if_eq (tgt := 37) e_X4_setThere_5 rfl (fun h5 => ?_) (fun h5 => ?_)
  · skip
    refine GG.vret e_X4_setThere_37 rfl rfl ?_
    cases hm : mIn i A <;> simp_all [bI]
  · skip
    refine GG.aload_n e_X4_setThere_8 (i := 0) rfl 0 rfl ?_
    refine GG.iload_n e_X4_setThere_9 (i := 2) rfl 2 rfl ?_
    refine GG.if_eq (tgt := 24) e_X4_setThere_10 rfl (fun h10 => ?_) (fun h10 => ?_)
    · skip
      refine GG.aload_n e_X4_setThere_24 (i := 0) rfl 0 rfl ?_
      refine GG.getI e_X4_setThere_25 fl_X4_37 (sf_X4_8 hI_X4_b) ?_
      refine GG.iconst (v := 1) e_X4_setThere_28 rfl ?_
      refine GG.iload_n e_X4_setThere_29 (i := 1) rfl 1 rfl ?_
      refine GG.ishl e_X4_setThere_30 ?_
      refine GG.iconst (v := -1) e_X4_setThere_31 rfl ?_
      refine GG.ixor e_X4_setThere_32 ?_
      refine GG.iand e_X4_setThere_33 ?_
      refine GG.putI e_X4_setThere_34 fl_X4_37 fp_X4_8 (sf_X4_8 hI_X4_b) ?_
      refine GG.vret e_X4_setThere_37 rfl rfl ?_
      cases hm : mIn i A <;> simp_all [bI]
    · skip
      refine GG.aload_n e_X4_setThere_13 (i := 0) rfl 0 rfl ?_
      refine GG.getI e_X4_setThere_14 fl_X4_37 (sf_X4_8 hI_X4_b) ?_
      refine GG.iconst (v := 1) e_X4_setThere_17 rfl ?_
      refine GG.iload_n e_X4_setThere_18 (i := 1) rfl 1 rfl ?_
      refine GG.ishl e_X4_setThere_19 ?_
      refine GG.ior e_X4_setThere_20 ?_
      refine GG.goto (tgt := 34) e_X4_setThere_21 rfl ?_
      refine GG.putI e_X4_setThere_34 fl_X4_37 fp_X4_8 (sf_X4_8 hI_X4_b) ?_
      refine GG.vret e_X4_setThere_37 rfl rfl ?_
      cases hm : mIn i A <;> simp_all [bI]
/-- somebody of the number k -/
theorem s_X4_houseOf (hI_X4_b : gI_X4 b) (hL : LC μ b P A) (hn : mIn i P = false → Q (some (.int (-1))) μ) (hy : ∀ k, k < P → i = nI k → Q (some (.int (mrd μ (b + 2) k))) μ) : SPC 1 MX4_houseOf [.ref b, .int i] μ Q := by
  refine SPC.of (by decide +kernel) (Nat.le_of_ble_eq_true rfl) (ls := [(0, .ref (b)), (1, .int (i))]) rfl ?_
  refine GG.aload_n e_X4_houseOf_0 (i := 0) rfl 0 rfl ?_
  refine GG.iload_n e_X4_houseOf_1 (i := 1) rfl 1 rfl ?_
  refine GG.callV (d' := 0) (a := b) (as := [.int _]) e_X4_houseOf_2 ml_X4_62 mf_X4_hasOne mv_X4_hasOne (rc_X4 hI_X4_b) rfl (by decide) (Nat.le_of_ble_eq_true rfl) rfl ?_
  refine s_X4_hasOne hI_X4_b hL ?_
  refine GG.if_eq (tgt := 17) e_X4_houseOf_5 rfl (fun h5 => ?_) (fun h5 => ?_)
  · skip
    refine GG.iconst (v := -1) e_X4_houseOf_17 rfl ?_
    refine GG.iret e_X4_houseOf_18 rfl rfl ?_
    exact hn ((bI_0 _).mp h5)
  · skip
    have hm : mIn i P = true := by cases hh : mIn i P <;> simp_all [bI]
    obtain ⟨k, hk, hik⟩ := mIn_of hm (by have := hL.2.1; omega)
    refine GG.aload_n e_X4_houseOf_8 (i := 0) rfl 0 rfl ?_
    refine GG.getR (b := (b + 2)) e_X4_houseOf_9 fl_X4_19 (sf_X4_3 hI_X4_b) ?_
    refine GG.iload_n e_X4_houseOf_12 (i := 1) rfl 1 rfl ?_
    refine GG.ialoadE (k := k) e_X4_houseOf_13 (sa_X4_3 hI_X4_b) (hik) (by have := hL.2.1; omega) (Nat.le_of_ble_eq_true rfl) ?_
    refine GG.goto (tgt := 18) e_X4_houseOf_14 rfl ?_
    refine GG.iret e_X4_houseOf_18 rfl rfl ?_
    exact hy k hk hik
end S13
