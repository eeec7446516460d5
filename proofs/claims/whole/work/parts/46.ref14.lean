/-! THE REFERENCE: the text, tokens -/
section S46
variable {μ : gM} {Q : Option Value → gM → Prop} {L k : Nat}
theorem s_X11_isLetter (hL : mrd μ 63 6 = nI L) (hL5 : L ≤ 150) (hk : k ≤ 150) (hQ : Q (some (.int (bI (decide (k < L) && !oB (mrd μ 67 k) 97 122)))) μ) : SPC 1 MX11_isLetter [.ref 63, .int (nI k)] μ Q := by
  refine SPC.of (by decide +kernel) (Nat.le_of_ble_eq_true rfl) (ls := [(0, .ref (63)), (1, .int (nI k))]) rfl ?_
  refine GG.iload_n e_X11_isLetter_0 (i := 1) rfl 1 rfl ?_
  refine GG.aload_n e_X11_isLetter_1 (i := 0) rfl 0 rfl ?_
  refine GG.getIv (v := nI L) e_X11_isLetter_2 fl_X11_71 (sf_X11_6 i_X11_63) (hL) ?_
  refine GG.icmp_ge (tgt := 28) e_X11_isLetter_5 rfl (fun h5 => ?_) (fun h5 => ?_)
  · skip
    have e : ¬ k < L := by have := nle h5 (by omega) (by omega); omega
    refine GG.iconst (v := 0) e_X11_isLetter_28 rfl ?_
    refine GG.zret e_X11_isLetter_29 rfl rfl rfl ?_
    refine qI hQ ?_
    first | (rw [decide_eq_false e]; rfl) | (rw [g, Bool.and_false]; rfl) | (rw [g, decide_eq_true e]; rfl)
  · skip
    have e := nnle h5 (by omega) (by omega)
    refine GG.aload_n e_X11_isLetter_8 (i := 0) rfl 0 rfl ?_
    refine GG.getR (b := 67) e_X11_isLetter_9 fl_X11_24 (sf_X11_5 i_X11_63) ?_
    refine GG.iload_n e_X11_isLetter_12 (i := 1) rfl 1 rfl ?_
    refine GG.ialoadE (k := k) e_X11_isLetter_13 (sa_X11_5 i_X11_63) (rfl) (by omega) (Nat.le_of_ble_eq_true rfl) ?_
    refine GG.bipush (v := 97) e_X11_isLetter_14 rfl ?_
    refine GG.bipush (v := 122) e_X11_isLetter_16 rfl ?_
    refine GG.callS (d' := 0) (as := [.int _, .int _, .int _]) e_X11_isLetter_18 ml_X11_51 mf_X11_in ms_X11_in rfl (by decide) (Nat.le_of_ble_eq_true rfl) rfl ?_
    refine s_X11_inO ?_
    refine GG.if_eq (tgt := 28) e_X11_isLetter_21 rfl (fun h21 => ?_) (fun h21 => ?_)
    · skip
      have g := (bI_0 _).mp h21
      refine GG.iconst (v := 0) e_X11_isLetter_28 rfl ?_
      refine GG.zret e_X11_isLetter_29 rfl rfl rfl ?_
      refine qI hQ ?_
      first | (rw [decide_eq_false e]; rfl) | (rw [g, Bool.and_false]; rfl) | (rw [g, decide_eq_true e]; rfl)
    · skip
      have g := (bI_n0 _).mp h21
      refine GG.iconst (v := 1) e_X11_isLetter_24 rfl ?_
      refine GG.goto (tgt := 29) e_X11_isLetter_25 rfl ?_
      refine GG.zret e_X11_isLetter_29 rfl rfl rfl ?_
      refine qI hQ ?_
      first | (rw [decide_eq_false e]; rfl) | (rw [g, Bool.and_false]; rfl) | (rw [g, decide_eq_true e]; rfl)
theorem s_X11_isFigure (hL : mrd μ 63 6 = nI L) (hL5 : L ≤ 150) (hk : k ≤ 150) (hQ : Q (some (.int (bI (decide (k < L) && !oB (mrd μ 67 k) 48 57)))) μ) : SPC 1 MX11_isFigure [.ref 63, .int (nI k)] μ Q := by
  refine SPC.of (by decide +kernel) (Nat.le_of_ble_eq_true rfl) (ls := [(0, .ref (63)), (1, .int (nI k))]) rfl ?_
  refine GG.iload_n e_X11_isFigure_0 (i := 1) rfl 1 rfl ?_
  refine GG.aload_n e_X11_isFigure_1 (i := 0) rfl 0 rfl ?_
  refine GG.getIv (v := nI L) e_X11_isFigure_2 fl_X11_71 (sf_X11_6 i_X11_63) (hL) ?_
  refine GG.icmp_ge (tgt := 28) e_X11_isFigure_5 rfl (fun h5 => ?_) (fun h5 => ?_)
  · skip
    have e : ¬ k < L := by have := nle h5 (by omega) (by omega); omega
    refine GG.iconst (v := 0) e_X11_isFigure_28 rfl ?_
    refine GG.zret e_X11_isFigure_29 rfl rfl rfl ?_
    refine qI hQ ?_
    first | (rw [decide_eq_false e]; rfl) | (rw [g, Bool.and_false]; rfl) | (rw [g, decide_eq_true e]; rfl)
  · skip
    have e := nnle h5 (by omega) (by omega)
    refine GG.aload_n e_X11_isFigure_8 (i := 0) rfl 0 rfl ?_
    refine GG.getR (b := 67) e_X11_isFigure_9 fl_X11_24 (sf_X11_5 i_X11_63) ?_
    refine GG.iload_n e_X11_isFigure_12 (i := 1) rfl 1 rfl ?_
    refine GG.ialoadE (k := k) e_X11_isFigure_13 (sa_X11_5 i_X11_63) (rfl) (by omega) (Nat.le_of_ble_eq_true rfl) ?_
    refine GG.bipush (v := 48) e_X11_isFigure_14 rfl ?_
    refine GG.bipush (v := 57) e_X11_isFigure_16 rfl ?_
    refine GG.callS (d' := 0) (as := [.int _, .int _, .int _]) e_X11_isFigure_18 ml_X11_51 mf_X11_in ms_X11_in rfl (by decide) (Nat.le_of_ble_eq_true rfl) rfl ?_
    refine s_X11_inO ?_
    refine GG.if_eq (tgt := 28) e_X11_isFigure_21 rfl (fun h21 => ?_) (fun h21 => ?_)
    · skip
      have g := (bI_0 _).mp h21
      refine GG.iconst (v := 0) e_X11_isFigure_28 rfl ?_
      refine GG.zret e_X11_isFigure_29 rfl rfl rfl ?_
      refine qI hQ ?_
      first | (rw [decide_eq_false e]; rfl) | (rw [g, Bool.and_false]; rfl) | (rw [g, decide_eq_true e]; rfl)
    · skip
      have g := (bI_n0 _).mp h21
      refine GG.iconst (v := 1) e_X11_isFigure_24 rfl ?_
      refine GG.goto (tgt := 29) e_X11_isFigure_25 rfl ?_
      refine GG.zret e_X11_isFigure_29 rfl rfl rfl ?_
      refine qI hQ ?_
      first | (rw [decide_eq_false e]; rfl) | (rw [g, Bool.and_false]; rfl) | (rw [g, decide_eq_true e]; rfl)
theorem tKd_let (v : Int32) : (!oB v 97 122) = decide (tKd v = 1) := by
  rw [← in_oB]
  unfold tKd
  by_cases h : 97 ≤ v ∧ v ≤ 122
  · rw [if_pos h, decide_eq_true h]; rfl
  · rw [if_neg h, decide_eq_false h]
    split
    · rfl
    · split <;> rfl
theorem tKd_fig (v : Int32) : (!oB v 48 57) = decide (tKd v = 2) := by
  rw [← in_oB]
  unfold tKd
  by_cases h : 97 ≤ v ∧ v ≤ 122
  · have n : ¬ (48 ≤ v ∧ v ≤ 57) := by
      rintro ⟨_, z⟩
      have z1 := Int32.le_iff_toInt_le.mp h.1
      have z2 := Int32.le_iff_toInt_le.mp z
      have e1 : (97 : Int32).toInt = 97 := by decide
      have e2 : (57 : Int32).toInt = 57 := by decide
      omega
    rw [if_pos h, decide_eq_false n]; rfl
  · rw [if_neg h]
    by_cases h2 : 48 ≤ v ∧ v ≤ 57
    · rw [if_pos h2, decide_eq_true h2]; rfl
    · rw [if_neg h2, decide_eq_false h2]
      split <;> rfl
theorem s_X11_isKd {kd : Nat} (hL : mrd μ 63 6 = nI L) (hL5 : L ≤ 150) (hk : k ≤ 150) {b : Nat → Int32} (hb : mrd μ 67 = b) (hQ : Q (some (.int (bI (decide (k < L ∧ tKd (b k) = kd))))) μ) : (kd = 1 → SPC 1 MX11_isLetter [.ref 63, .int (nI k)] μ Q) ∧ (kd = 2 → SPC 1 MX11_isFigure [.ref 63, .int (nI k)] μ Q) := by
  subst hb
  refine ⟨fun h => s_X11_isLetter hL hL5 hk (qI hQ ?_), fun h => s_X11_isFigure hL hL5 hk (qI hQ ?_)⟩
  · rw [tKd_let, h, Bool.decide_and]
  · rw [tKd_fig, h, Bool.decide_and]
end S46
