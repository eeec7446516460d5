/-! CALLS: lane, wide, one, aunt, type, clear -/
theorem tf {b : Bool} {p : Prop} (h : b = true) (h' : b = false) : p := by rw [h] at h'; cases h'
theorem c_lane {μ : gM} {w : Int32} (hI : INV μ) : CTi 2 1 MX10_lane MX11_lane [.int w] μ := by
  have h0 := hI.1
  obtain ⟨P, A, W, th, t, T, N, M, U, h1, h2, h3, h4, h5⟩ := h0
  refine s_X10_lane h1.lc (fun hb => ⟨_, rfl, ?_⟩) (fun hb => ⟨_, rfl, ?_⟩)
  · exact s_X11_lane (h1.mr (RS.rf 10)) (fun _ => ⟨rfl, hI.rf (k := 0) (by omega)⟩) (fun q => tf hb q)
  · have hRS : RS μ (mHs μ 1 w) := ⟨fun c j a _ => by simp only [mHs, mrd_wr, mrd_St]; repeat rw [if_neg (by omega)], fun j => rfl⟩
    refine s_X11_lane (h1.mr hRS) (fun q => tf q hb) (fun _ => ⟨rfl, ?_⟩)
    obtain ⟨n, rfl, o1, o2⟩ := oB_n (A := 4) (B := 30) hb rfl rfl (by omega) (by omega)
    refine hI.hs (fun c j _ a b => by simp only [mHs, mrd_wr, mrd_Zr, mrd_St]; repeat rw [if_neg (by omega)]) (fun c j => rfl) ?_
    exact HR0 (W := n) (by simp [cH, mHs, mrd_wr, mrd_Zr, mrd_St]) (by simp [rH, mHs, mrd_wr, mrd_Zr, mrd_St]) (by simp [cH, mHs, mrd_wr, mrd_Zr, mrd_St]) (by simp [rH, mHs, mrd_wr, mrd_Zr, mrd_St]) (by simp [cH, mHs, mrd_wr, mrd_Zr, mrd_St]) (by simp [rH, mHs, mrd_wr, mrd_Zr, mrd_St]) o1 o2 (by simp [cH, mHs, mrd_wr, mrd_Zr, mrd_St]) (by simp [rH, mHs, mrd_wr, mrd_Zr, mrd_St]) (by simp [cH, mHs, mrd_wr, mrd_Zr, mrd_St]) (by simp [rH, mHs, mrd_wr, mrd_Zr, mrd_St]) (by simp [cH, rH, mHs, mrd_wr, mrd_Zr, mrd_St]) (by simp [cH, mHs, mrd_wr, mrd_Zr, mrd_St]) (by simp [rH, mHs, mrd_wr, mrd_Zr, mrd_St]) (by simp [cH, mHs, mrd_wr, mrd_Zr, mrd_St]) (by simp [rH, mHs, mrd_wr, mrd_Zr, mrd_St]) (by simp [cH, mHs, mrd_wr, mrd_Zr, mrd_St]) (by simp [rH, mHs, mrd_wr, mrd_Zr, mrd_St]) (by simp [cH, mHs, mrd_wr, mrd_Zr, mrd_St]) (by simp [rH, mHs, mrd_wr, mrd_Zr, mrd_St])
theorem c_wide {μ : gM} {w : Int32} (hI : INV μ) : CTi 1 1 MX10_wide MX11_wide [.int w] μ := by
  have h0 := hI.1
  obtain ⟨P, A, W, th, t, T, N, M, U, h1, h2, h3, h4, h5⟩ := h0
  refine s_X10_wide (fun hb => ⟨_, rfl, ?_⟩) (fun hb => ⟨_, rfl, ?_⟩)
  · exact s_X11_wide (fun _ => ⟨rfl, hI.rf (k := 0) (by omega)⟩) (fun q => tf hb q)
  · refine s_X11_wide (fun q => tf q hb) (fun _ => ⟨?_, ?_⟩)
    · have e : mrd (mwr (mwr μ 2 0 w) 14 0 0) 64 10 = mrd μ 2 0 := by
        rw [mrd_wr, if_neg (by omega), mrd_wr, if_neg (by omega)]
        exact h1.2.2.1.2.1.trans h1.2.2.1.1.symm
      rw [e]
    · obtain ⟨n, rfl, o1, o2⟩ := oB_n (A := 4) (B := 30) hb rfl rfl (by omega) (by omega)
      have fr : ∀ c j, ¬ (c = 2 ∧ j = 0) → ¬ (c = 14 ∧ j = 0) → ¬ (c = 64 ∧ (j = 10 ∨ j = 98)) → mrd (mwr (mwr (mwr (mwr μ 2 0 (nI n)) 14 0 0) 64 10 (nI n)) 64 98 0) c j = mrd μ c j := fun c j a b d => by simp only [mrd_wr]; repeat rw [if_neg (by omega)]
      refine hI.hs (fun c j _ a b => fr c j (by omega) (by omega) (by omega)) (fun c j => rfl) ⟨P, A, n, th, t, T, N, M, 0, ?_, ?_, ?_, ?_, ?_⟩
      · exact h1.wide o1 o2 (by simp [cH, mrd_wr]) (by simp [rH, mrd_wr]) (fun i j q q2 => fr _ _ (by omega) (by unfold lR at q; omega) (by unfold lR at q; omega)) (fun j q q2 => fr _ _ (by omega) (by omega) (by omega))
      · exact h2.c (fr _ _ (by omega) (by omega) (by omega)) (fun j q => fr _ _ (by omega) (by omega) (by omega)) (fun j q q2 => fr _ _ (by omega) (by omega) (by omega))
      · exact h3.c (fr _ _ (by omega) (by omega) (by omega)) (fun j q => fr _ _ (by omega) (by omega) (by omega)) (fun j q q2 => fr _ _ (by omega) (by omega) (by omega))
      · exact h4.c (fr _ _ (by omega) (by omega) (by omega)) (fun j q => fr _ _ (by omega) (by omega) (by omega)) (fun j q q2 => fr _ _ (by omega) (by omega) (by omega))
      · exact HU.no (by simp [cH, mrd_wr]) (by simp [rH, mrd_wr])
theorem c_one {μ : gM} {x y z : Int32} (hI : INV μ) : CTi 2 1 MX10_one MX11_one [.int x, .int y, .int z] μ := by
  have h0 := hI.1
  obtain ⟨P, A, W, th, t, T, N, M, U, h1, h2, h3, h4, h5⟩ := h0
  refine s_X10_one h1.lc (fun hb => ⟨_, rfl, ?_⟩) (fun hb hP => ⟨_, rfl, ?_⟩) (fun hb hP => ⟨_, rfl, ?_⟩)
  · exact s_X11_one (h1.mr (RS.rf 10)) (fun _ => ⟨rfl, hI.rf (k := 0) (by omega)⟩) (fun q _ => tf hb q) (fun q _ => tf hb q)
  · exact s_X11_one (h1.mr (RS.rf 12)) (fun q => tf q hb) (fun _ _ => ⟨rfl, hI.rf (k := 2) (by omega)⟩) (fun _ q => by omega)
  · have hRS : RS μ (mwr (mwr (mwr (mwr (mwr μ 3 P x) 4 P y) 5 P z) 2 1 (nI (P + 1))) 14 0 0) := ⟨fun c j a _ => by simp only [mrd_wr]; repeat rw [if_neg (by omega)], fun j => rfl⟩
    refine s_X11_one (h1.mr hRS) (fun q => tf q hb) (fun _ q => by omega) (fun _ _ => ⟨rfl, ?_⟩)
    have hb' := hb
    simp only [Bool.or_eq_false_iff] at hb'
    obtain ⟨⟨b1, b2⟩, b3⟩ := hb'
    obtain ⟨a, ez, a0, a9⟩ := oB_n (A := 0) (B := 9) b3 rfl rfl (by omega) (by omega)
    have ey := oB_01 b2
    have fr : ∀ c j, ¬ (3 ≤ c ∧ c ≤ 5 ∧ j = P) → ¬ (c = 2 ∧ j = 1) → ¬ (c = 14 ∧ j = 0) → ¬ (c = 64 ∧ (j = 12 + P ∨ j = 19 + P ∨ j = P ∨ j = 11 ∨ j = 98)) → mrd (rOne (mwr (mwr (mwr (mwr (mwr μ 3 P x) 4 P y) 5 P z) 2 1 (nI (P + 1))) 14 0 0) P x y z) c j = mrd μ c j := fun c j a1 a2 a3 a4 => by
      rw [mrd_rOne (by omega)]
      simp only [mrd_wr]
      repeat rw [if_neg (by omega)]
    have eP : ¬ 12 + P = 11 := by omega
    refine hI.hs (fun c j _ a b => fr c j (by omega) (by omega) (by omega) (by omega)) (fun c j => rfl) ⟨P + 1, A, W, th, t, T, N, M, 0, ?_, ?_, ?_, ?_, ?_⟩
    · refine h1.one (x := x) (y := y) (z := z) hP ?_ ?_ ?_ ?_ ?_ ?_ ?_ ?_ ey a9 ez (fun i j q q2 q3 => fr _ _ (by unfold lR at q; omega) (by omega) (by unfold lR at q; omega) (by unfold lR at q; omega)) (fun j q q2 q3 q4 q5 => fr _ _ (by omega) (by omega) (by omega) (by omega))
      · show mrd _ (1 + 1) 1 = _
        rw [mrd_rOne (by omega), mrd_wr, if_neg (by omega), mrd_wr, if_pos ⟨rfl, rfl⟩]
      · show mrd _ 64 11 = _
        unfold rOne
        rw [mrd_wr, if_neg (by omega), mrd_wr, if_pos ⟨rfl, rfl⟩]
      · show mrd _ (1 + 2) P = _
        rw [mrd_rOne (by omega), mrd_wr, if_neg (by omega), mrd_wr, if_neg (by omega), mrd_wr, if_neg (by omega), mrd_wr, if_neg (by omega), mrd_wr, if_pos ⟨rfl, rfl⟩]
      · show mrd _ (1 + 3) P = _
        rw [mrd_rOne (by omega), mrd_wr, if_neg (by omega), mrd_wr, if_neg (by omega), mrd_wr, if_neg (by omega), mrd_wr, if_pos ⟨rfl, rfl⟩]
      · show mrd _ (1 + 4) P = _
        rw [mrd_rOne (by omega), mrd_wr, if_neg (by omega), mrd_wr, if_neg (by omega), mrd_wr, if_pos ⟨rfl, rfl⟩]
      · show mrd _ 64 (12 + P) = _
        unfold rOne
        rw [mrd_wr, if_neg (by omega), mrd_wr, if_neg (by omega), mrd_wr, if_neg (by omega), mrd_wr, if_neg (by omega), mrd_wr, if_pos ⟨rfl, rfl⟩]
      · show mrd _ 64 (19 + P) = _
        unfold rOne
        rw [mrd_wr, if_neg (by omega), mrd_wr, if_neg (by omega), mrd_wr, if_neg (by omega), mrd_wr, if_pos ⟨rfl, rfl⟩]
      · show mrd _ 64 P = _
        unfold rOne
        rw [mrd_wr, if_neg (by omega), mrd_wr, if_neg (by omega), mrd_wr, if_pos ⟨rfl, rfl⟩]
    · exact h2.c (fr _ _ (by omega) (by omega) (by omega) (by omega)) (fun j q => fr _ _ (by omega) (by omega) (by omega) (by omega)) (fun j q q2 => fr _ _ (by omega) (by omega) (by omega) (by omega))
    · exact h3.c (fr _ _ (by omega) (by omega) (by omega) (by omega)) (fun j q => fr _ _ (by omega) (by omega) (by omega) (by omega)) (fun j q q2 => fr _ _ (by omega) (by omega) (by omega) (by omega))
    · exact h4.c (fr _ _ (by omega) (by omega) (by omega) (by omega)) (fun j q => fr _ _ (by omega) (by omega) (by omega) (by omega)) (fun j q q2 => fr _ _ (by omega) (by omega) (by omega) (by omega))
    · refine HU.no ?_ ?_
      · show mrd _ (1 + 13) 0 = _
        rw [mrd_rOne (by omega), mrd_wr, if_pos ⟨rfl, rfl⟩]
      · show mrd _ 64 98 = _
        unfold rOne
        rw [mrd_wr, if_pos ⟨rfl, rfl⟩]
theorem th_or : ∀ A, A < 4 → ∀ T, T < 2 ^ A → nI T ||| ((1 : Int32) <<< (nI A &&& 31)) = nI (T ||| 2 ^ A) ∧ T ||| 2 ^ A < 2 ^ (A + 1) := by decide +kernel
theorem c_aunt {μ : gM} {x y : Int32} (hI : INV μ) : CTi 2 1 MX10_aunt MX11_aunt [.int x, .int y] μ := by
  have h0 := hI.1
  obtain ⟨P, A, W, th, t, T, N, M, U, h1, h2, h3, h4, h5⟩ := h0
  refine s_X10_aunt h1.lc (fun hb => ⟨_, rfl, ?_⟩) (fun hb hA => ⟨_, rfl, ?_⟩) (fun hb hA => ⟨_, rfl, ?_⟩)
  · exact s_X11_aunt (h1.mr (RS.rf 10)) (fun _ => ⟨rfl, hI.rf (k := 0) (by omega)⟩) (fun q _ => tf hb q) (fun q _ => tf hb q)
  · exact s_X11_aunt (h1.mr (RS.rf 12)) (fun q => tf q hb) (fun _ _ => ⟨rfl, hI.rf (k := 2) (by omega)⟩) (fun _ q => by omega)
  · have hRS : RS μ (mwr (mwr (mwr (mwr (mwr μ 6 A x) 7 A y) 2 8 (mrd μ 2 8 ||| ((1 : Int32) <<< (nI A &&& 31)))) 2 5 (nI (A + 1))) 14 0 0) := ⟨fun c j a _ => by simp only [mrd_wr]; repeat rw [if_neg (by omega)], fun j => rfl⟩
    refine s_X11_aunt (h1.mr hRS) (fun q => tf q hb) (fun _ q => by omega) (fun _ _ => ⟨rfl, ?_⟩)
    obtain ⟨-, c8, -, -⟩ := h1.cw
    obtain ⟨o1, o2⟩ := th_or A hA th h1.2.2.2.1.2.2
    have r7 := (h1.rw hRS).2.1
    rw [c8, o1] at *
    generalize hν : mwr (mwr (mwr (mwr (mwr μ 6 A x) 7 A y) 2 8 (nI (th ||| 2 ^ A))) 2 5 (nI (A + 1))) 14 0 0 = ν at *
    have fν : ∀ c j, ¬ (6 ≤ c ∧ c ≤ 7 ∧ j = A) → ¬ (c = 2 ∧ (j = 8 ∨ j = 5)) → ¬ (c = 14 ∧ j = 0) → mrd ν c j = mrd μ c j := fun c j a1 a2 a3 => by
      rw [← hν]
      simp only [mrd_wr]
      repeat rw [if_neg (by omega)]
    have fr : ∀ c j, ¬ (6 ≤ c ∧ c ≤ 7 ∧ j = A) → ¬ (c = 2 ∧ (j = 8 ∨ j = 5)) → ¬ (c = 14 ∧ j = 0) → ¬ (c = 64 ∧ (j = 27 + A ∨ j = 31 + A ∨ j = 7 ∨ j = 26 ∨ j = 98)) → mrd (rAunt ν A x y) c j = mrd μ c j := fun c j a1 a2 a3 a4 => by
      rw [mrd_rAunt (by omega), fν c j a1 a2 a3]
    refine hI.hs (fun c j _ a b => fr c j (by omega) (by omega) (by omega) (by omega)) (fun c j => by rw [← hν]; rfl) ⟨P, A + 1, W, th ||| 2 ^ A, t, T, N, M, 0, ?_, ?_, ?_, ?_, ?_⟩
    · refine h1.aunt (x := x) (y := y) hA ?_ ?_ ?_ ?_ ?_ ?_ ?_ ?_ o2 (fun i j q q2 q3 q4 => fr _ _ (by unfold lR at q; omega) (by omega) (by unfold lR at q; omega) (by unfold lR at q; omega)) (fun j q q2 q3 q4 q5 => fr _ _ (by omega) (by omega) (by omega) (by omega))
      · show mrd _ (1 + 1) 5 = _
        rw [mrd_rAunt (by omega), ← hν, mrd_wr, if_neg (by omega), mrd_wr, if_pos ⟨rfl, rfl⟩]
      · show mrd _ 64 26 = _
        unfold rAunt
        rw [mrd_wr, if_neg (by omega), mrd_wr, if_pos ⟨rfl, rfl⟩]
      · show mrd _ (1 + 5) A = _
        rw [mrd_rAunt (by omega), ← hν, mrd_wr, if_neg (by omega), mrd_wr, if_neg (by omega), mrd_wr, if_neg (by omega), mrd_wr, if_neg (by omega), mrd_wr, if_pos ⟨rfl, rfl⟩]
      · show mrd _ (1 + 6) A = _
        rw [mrd_rAunt (by omega), ← hν, mrd_wr, if_neg (by omega), mrd_wr, if_neg (by omega), mrd_wr, if_neg (by omega), mrd_wr, if_pos ⟨rfl, rfl⟩]
      · show mrd _ 64 (27 + A) = _
        unfold rAunt
        rw [mrd_wr, if_neg (by omega), mrd_wr, if_neg (by omega), mrd_wr, if_neg (by omega), mrd_wr, if_neg (by omega), mrd_wr, if_pos ⟨rfl, rfl⟩]
      · show mrd _ 64 (31 + A) = _
        unfold rAunt
        rw [mrd_wr, if_neg (by omega), mrd_wr, if_neg (by omega), mrd_wr, if_neg (by omega), mrd_wr, if_pos ⟨rfl, rfl⟩]
      · show mrd _ (1 + 1) 8 = _
        rw [mrd_rAunt (by omega), ← hν, mrd_wr, if_neg (by omega), mrd_wr, if_neg (by omega), mrd_wr, if_pos ⟨rfl, rfl⟩]
      · show mrd _ 64 7 = _
        unfold rAunt
        rw [mrd_wr, if_neg (by omega), mrd_wr, if_neg (by omega), mrd_wr, if_pos ⟨rfl, rfl⟩, r7, (th_or A hA th h1.2.2.2.1.2.2).1]
    · exact h2.c (fr _ _ (by omega) (by omega) (by omega) (by omega)) (fun j q => fr _ _ (by omega) (by omega) (by omega) (by omega)) (fun j q q2 => fr _ _ (by omega) (by omega) (by omega) (by omega))
    · exact h3.c (fr _ _ (by omega) (by omega) (by omega) (by omega)) (fun j q => fr _ _ (by omega) (by omega) (by omega) (by omega)) (fun j q q2 => fr _ _ (by omega) (by omega) (by omega) (by omega))
    · exact h4.c (fr _ _ (by omega) (by omega) (by omega) (by omega)) (fun j q => fr _ _ (by omega) (by omega) (by omega) (by omega)) (fun j q q2 => fr _ _ (by omega) (by omega) (by omega) (by omega))
    · refine HU.no ?_ ?_
      · show mrd _ (1 + 13) 0 = _
        rw [mrd_rAunt (by omega), ← hν, mrd_wr, if_pos ⟨rfl, rfl⟩]
      · show mrd _ 64 98 = _
        unfold rAunt
        rw [mrd_wr, if_pos ⟨rfl, rfl⟩]
/-- only the text changes -/
theorem INV.tx {μ ν : gM} {L' : Nat} (h : INV μ) (hL : L' ≤ 150) (h46 : mrd ν 46 0 = nI L') (h63 : mrd ν 63 6 = nI L') (h47 : mrd ν 47 = mrd ν 67) (fr : ∀ c j, ¬ c = 46 → ¬ c = 47 → ¬ c = 63 → ¬ c = 67 → mrd ν c j = mrd μ c j) (hl : ∀ c j, mrL ν c j = mrL μ c j) : INV ν := by
  obtain ⟨h0, h1, h2, ⟨L, l1, l2, l3⟩, l4, l5, l6, l7, l8⟩ := h
  refine ⟨h0.c (fun i j hij => fr _ _ (by unfold hR lR at hij; omega) (by unfold hR lR at hij; omega) (by unfold hR lR at hij; omega) (by unfold hR lR at hij; omega)) (fun j hj => fr _ _ (by omega) (by omega) (by omega) (by omega)), h1.c (by omega) (fr _ _ (by omega) (by omega) (by omega) (by omega)) (fr _ _ (by omega) (by omega) (by omega) (by omega)) (fun c j a b => fr c j (by omega) (by omega) (by omega) (by omega)) (fun j a b => fr _ _ (by omega) (by omega) (by omega) (by omega)), h2.c (by omega) (fr _ _ (by omega) (by omega) (by omega) (by omega)) (fr _ _ (by omega) (by omega) (by omega) (by omega)) (fun c j a b => fr c j (by omega) (by omega) (by omega) (by omega)) (fun j a b => fr _ _ (by omega) (by omega) (by omega) (by omega)), ⟨L', hL, h46, h63⟩, h47, fun i k hi hk => by rw [fr _ _ (by omega) (by omega) (by omega) (by omega), l5 i k hi hk], by rw [hl, hl, l6], by rw [hl, hl, l7], fun k hk => by rw [fr _ _ (by omega) (by omega) (by omega) (by omega), fr _ _ (by omega) (by omega) (by omega) (by omega), l8 k hk]⟩
theorem c_type {μ : gM} {c : Int32} (hI : INV μ) : CTi 2 1 MX10_type MX11_type [.int c] μ := by
  have hT := hI.2.2.2
  obtain ⟨⟨L, l1, l2, l3⟩, l4, -⟩ := hT
  refine s_X10_type l2 l1 (fun hb => ⟨_, rfl, ?_⟩) (fun hb hP => ⟨_, rfl, ?_⟩) (fun hb hP => ⟨_, rfl, ?_⟩)
  · exact s_X11_type (L := L) (by unfold mRf; rw [mrd_wr, if_neg (by omega), l3]) l1 (fun _ => ⟨rfl, hI.rf (k := 0) (by omega)⟩) (fun q _ => tf hb q) (fun q _ => tf hb q)
  · exact s_X11_type (L := L) (by unfold mRf; rw [mrd_wr, if_neg (by omega), l3]) l1 (fun q => tf q hb) (fun _ _ => ⟨rfl, hI.rf (k := 2) (by omega)⟩) (fun _ q => by omega)
  · refine s_X11_type (L := L) (by rw [mrd_wr, if_neg (by omega), mrd_wr, if_neg (by omega), l3]) l1 (fun q => tf q hb) (fun _ q => by omega) (fun _ _ => ⟨rfl, ?_⟩)
    refine hI.tx (L' := L + 1) hP (by simp [mrd_wr]) (by simp [mrd_wr]) ?_ (fun c' j a1 a2 a3 a4 => by simp only [mrd_wr]; repeat rw [if_neg (by omega)]) (fun c' j => rfl)
    funext j
    have e := congrFun l4 j
    simp only [mrd_wr]
    by_cases ej : j = L
    · simp [ej]
    · simp [ej, e]
theorem c_clear {μ : gM} (hI : INV μ) : CTi 0 0 MX10_clear MX11_clear [] μ := by
  have hT := hI.2.2.2
  obtain ⟨⟨L, l1, l2, l3⟩, l4, -⟩ := hT
  refine s_X10_clear ⟨_, rfl, ?_⟩
  refine s_X11_clear ⟨?_, ?_⟩
  · rw [mrd_wr, if_neg (by omega), l3, l2]
  · refine hI.tx (L' := 0) (by omega) (by simp [mrd_wr]; rfl) (by simp [mrd_wr]; rfl) ?_ (fun c' j a1 a2 a3 a4 => by simp only [mrd_wr]; repeat rw [if_neg (by omega)]) (fun c' j => rfl)
    funext j
    have e := congrFun l4 j
    simp only [mrd_wr]
    simp [e]
