/-! THE REFERENCE: who marries whom, third part -/
section S45
variable {μ : gM} {Q : Option Value → gM → Prop} {P A : Nat} {i : Int32}
theorem s_X11_marry {f g : Nat → Bool} {al : Nat → Nat → Bool} {F G : Nat} {ms : Int32 × (Nat → Int32)} (hR : MR μ P A) (hf : ∀ i, f i = decide (mrd μ 64 (19 + i) = 0)) (hg : ∀ i, g i = !f i) (hF : F = mCt f P) (hG : G = mCt g P) (hal : ∀ i j, i < 7 → j < 7 → al i j = rAlk μ i j) (hpw : (G + 1) ^ F ≤ 256)
    (hms : ms = rMst (sdA f P) (sdA g P) G al F ((G + 1) ^ F)) (hbad : (!decide (i = -1) && !mIn i P) = true → Q (some (.int (-10))) (rRf μ 0))
    (hall : i = -1 → ∀ ν, gSm μ ν → Q (some (.int ms.1)) ν) (hone : ∀ k, k < P → i = nI k → ∀ ν v, gSm μ ν → (v = ms.2 k ∨ ms.1 = -1) → Q (some (.int v)) ν) : SPC 4 MX11_marry [.ref 63, .int i] μ Q := by
  have hP7 := hR.2.1
  subst hms
  have j20a : i = -1 → GG 4 MX11_marry 20 [(0, .ref 63), (1, .int i)] [] μ Q := by
    intro hi
    have hq := hall hi
    refine GG.aload_n e_X11_marry_20 (i := 0) rfl 0 rfl ?_
    refine GG.callV (d' := 3) (a := 63) (as := []) e_X11_marry_21 ml_X11_192 mf_X11_mostPairs mv_X11_mostPairs (rc_X11 i_X11_63) rfl (by decide) (Nat.le_of_ble_eq_true rfl) rfl ?_
    refine s_X11_mostPairs hR hf hg hF hG hal hpw (fun ν hν h73 => ?_)
    refine GG.istore_n e_X11_marry_24 (i := 2) rfl (Nat.le_of_ble_eq_true rfl) (ls' := [(2, .int _), (0, .ref _), (1, .int _)]) rfl ?_
    refine GG.iload_n e_X11_marry_25 (i := 1) rfl 2 rfl ?_
    refine GG.iconst (v := -1) e_X11_marry_26 rfl ?_
    refine GG.icmp_ne (tgt := 34) e_X11_marry_27 rfl (fun h27 => absurd h27 (by exact fun z => z hi)) (fun h27 => ?_)
    refine GG.iload_n e_X11_marry_30 (i := 2) rfl 0 rfl ?_
    refine GG.goto (tgt := 40) e_X11_marry_31 rfl ?_
    refine GG.iret e_X11_marry_40 rfl rfl ?_
    exact hq ν hν.sm
  have j20b : ∀ k, k < P → i = nI k → GG 4 MX11_marry 20 [(0, .ref 63), (1, .int i)] [] μ Q := by
    intro k hk hi
    have hq := hone k hk hi
    refine GG.aload_n e_X11_marry_20 (i := 0) rfl 0 rfl ?_
    refine GG.callV (d' := 3) (a := 63) (as := []) e_X11_marry_21 ml_X11_192 mf_X11_mostPairs mv_X11_mostPairs (rc_X11 i_X11_63) rfl (by decide) (Nat.le_of_ble_eq_true rfl) rfl ?_
    refine s_X11_mostPairs hR hf hg hF hG hal hpw (fun ν hν h73 => ?_)
    refine GG.istore_n e_X11_marry_24 (i := 2) rfl (Nat.le_of_ble_eq_true rfl) (ls' := [(2, .int _), (0, .ref _), (1, .int _)]) rfl ?_
    refine GG.iload_n e_X11_marry_25 (i := 1) rfl 2 rfl ?_
    refine GG.iconst (v := -1) e_X11_marry_26 rfl ?_
    refine GG.icmp_ne (tgt := 34) e_X11_marry_27 rfl (fun h27 => ?_) (fun h27 => absurd h27 (by exact fun z => nI_m1 (show k < 2 ^ 31 by omega) (hi.symm.trans z)))
    refine GG.aload_n e_X11_marry_34 (i := 0) rfl 1 rfl ?_
    refine GG.getR (b := 73) e_X11_marry_35 fl_X11_42 (sf_X11_19 i_X11_63) ?_
    refine GG.iload_n e_X11_marry_38 (i := 1) rfl 2 rfl ?_
    refine GG.ialoadE (k := k) e_X11_marry_39 (sa_X11_19 i_X11_63) (hi) (by omega) (Nat.le_of_ble_eq_true rfl) ?_
    refine GG.iret e_X11_marry_40 rfl rfl ?_
    exact hq ν _ hν.sm (h73 k (by omega))
  refine SPC.of (by decide +kernel) (Nat.le_of_ble_eq_true rfl) (ls := [(0, .ref (63)), (1, .int (i))]) rfl ?_
  refine GG.iload_n e_X11_marry_0 (i := 1) rfl 1 rfl ?_
  refine GG.iconst (v := -1) e_X11_marry_1 rfl ?_
  refine GG.icmp_eq (tgt := 20) e_X11_marry_2 rfl (fun h2 => ?_) (fun h2 => ?_)
  · skip
    first | exact j20a h2 | exact j20b k hk hik
  · skip
    refine GG.aload_n e_X11_marry_5 (i := 0) rfl 0 rfl ?_
    refine GG.iload_n e_X11_marry_6 (i := 1) rfl 1 rfl ?_
    refine GG.callV (d' := 1) (a := 63) (as := [.int _]) e_X11_marry_7 ml_X11_159 mf_X11_isOne mv_X11_isOne (rc_X11 i_X11_63) rfl (by decide) (Nat.le_of_ble_eq_true rfl) rfl ?_
    refine s_X11_isOne hR ?_
    refine GG.if_ne (tgt := 20) e_X11_marry_10 rfl (fun h10 => ?_) (fun h10 => ?_)
    · skip
      obtain ⟨k, hk, hik⟩ := mIn_of ((bI_n0 _).mp h10) (by omega)
      first | exact j20a h2 | exact j20b k hk hik
    · skip
      have oo := (bI_0 _).mp h10
      refine GG.aload_n e_X11_marry_13 (i := 0) rfl 0 rfl ?_
      refine GG.bipush (v := -10) e_X11_marry_14 rfl ?_
      refine GG.callV (d' := 1) (a := 63) (as := [.int _]) e_X11_marry_16 ml_X11_165 mf_X11_badAs mv_X11_badAs (rc_X11 i_X11_63) rfl (by decide) (Nat.le_of_ble_eq_true rfl) rfl ?_
      refine s_X11_badAs ?_
      refine GG.iret e_X11_marry_19 rfl rfl ?_
      exact hbad (by simp [oo, h2])
end S45
