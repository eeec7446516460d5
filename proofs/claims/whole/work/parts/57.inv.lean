/-! BETWEEN TWO CALLS: class and reference hold the same -/
def HL (C : Nat → Nat → Int32) (R : Nat → Int32) (P A W th t : Nat) : Prop :=
  (C 1 1 = nI P ∧ R 11 = nI P ∧ P ≤ 7) ∧ (C 1 5 = nI A ∧ R 26 = nI A ∧ A ≤ 4) ∧ (C 1 0 = nI W ∧ R 10 = nI W ∧ 4 ≤ W ∧ W ≤ 30) ∧ (C 1 8 = nI th ∧ R 7 = nI th ∧ th < 2 ^ A) ∧ (C 1 9 = nI t ∧ R 9 = nI t ∧ t ≤ 9999) ∧ R 8 = C 1 10 ∧
  (∀ k, k < P → R (12 + k) = C 2 k ∧ R (19 + k) = C 3 k ∧ R k = C 4 k ∧ (C 3 k = 0 ∨ C 3 k = 1) ∧ ∃ a, a ≤ 9 ∧ C 4 k = nI a) ∧ ∀ j, j < A → R (27 + j) = C 5 j ∧ R (31 + j) = C 6 j
def HT (C : Nat → Nat → Int32) (R : Nat → Int32) (T : Nat) : Prop := C 7 0 = nI T ∧ R 35 = nI T ∧ T ≤ 6 ∧ ∀ q, q < T → R (36 + 2 * q) = C 8 (4 * q) ∧ R (37 + 2 * q) = C 8 (4 * q + 1)
def HN (C : Nat → Nat → Int32) (R : Nat → Int32) (i p N : Nat) : Prop := C i 0 = nI N ∧ R p = nI N ∧ N ≤ 6 ∧ ∀ j, j < 4 * N → R (p + 1 + j) = C (i + 1) j
def KP (c r : Nat → Int32) (P A : Nat) : Prop := ∃ t th, t ≤ 9999 ∧ th < 2 ^ A ∧ c 0 = nI t ∧ r 9 = nI t ∧ r 8 = c 1 ∧ c 2 = nI th ∧ r 7 = nI th ∧ ∀ k, k < P → r k = c (3 + k) ∧ ∃ a, a ≤ 9 ∧ c (3 + k) = nI a
def HU (C : Nat → Nat → Int32) (R : Nat → Int32) (P A U : Nat) : Prop := C 13 0 = nI U ∧ R 98 = nI U ∧ U ≤ 8 ∧ ∀ u, u < U → KP (fun j => C 14 (10 * u + j)) (fun j => R (99 + 10 * u + j)) P A
def HR (C : Nat → Nat → Int32) (R : Nat → Int32) : Prop := ∃ P A W th t T N M U, HL C R P A W th t ∧ HT C R T ∧ HN C R 9 48 N ∧ HN C R 11 73 M ∧ HU C R P A U
def cH (μ : gM) (h : Nat) : Nat → Nat → Int32 := fun i j => mrd μ (h + i) j
def rH (μ : gM) (o : Nat) : Nat → Int32 := fun j => mrd μ 64 (j + o)
def IM (μ : gM) (d : Nat) : Prop := mrd μ 0 (3 + d) = mrd μ 65 d ∧ (¬ mrd μ 65 d = 0 → HR (cH μ (16 + 15 * d)) (rH μ (179 + 179 * d)))
def IT (μ : gM) : Prop := (∃ L, L ≤ 150 ∧ mrd μ 46 0 = nI L ∧ mrd μ 63 6 = nI L) ∧ mrd μ 47 = mrd μ 67 ∧ (∀ i k, i < 5 → k < 6 → mrd μ 68 (6 * i + k) = rW68 i k) ∧ mrL μ 49 0 = mrL μ 63 3 ∧ mrL μ 49 1 = mrL μ 63 4 ∧ ∀ k, k < 3 → mrd μ 0 (10 + k) = mrd μ 66 k
def INV (μ : gM) : Prop := HR (cH μ 1) (rH μ 0) ∧ IM μ 0 ∧ IM μ 1 ∧ IT μ
/-- the cells that tell of a lane; of all that an image keeps -/
def lR (i j : Nat) : Prop := (i = 1 ∧ (j = 0 ∨ j = 1 ∨ j = 5 ∨ j = 8 ∨ j = 9 ∨ j = 10)) ∨ (2 ≤ i ∧ i ≤ 4 ∧ j < 7) ∨ (5 ≤ i ∧ i ≤ 6 ∧ j < 4)
def hR (i j : Nat) : Prop := lR i j ∨ ((i = 7 ∨ i = 9 ∨ i = 11 ∨ i = 13) ∧ j = 0) ∨ ((i = 8 ∨ i = 10 ∨ i = 12) ∧ j < 24) ∨ (i = 14 ∧ j < 80)
section S57
variable {C C' : Nat → Nat → Int32} {R R' : Nat → Int32} {P A W th t T N M U i p : Nat} {μ ν ξ : gM}
theorem HL.c (h : HL C R P A W th t) (hC : ∀ i j, lR i j → C' i j = C i j) (hr : ∀ j, j < 35 → R' j = R j) : HL C' R' P A W th t := by
  obtain ⟨⟨a1, a2, a3⟩, ⟨b1, b2, b3⟩, ⟨c1, c2, c3, c4⟩, ⟨d1, d2, d3⟩, ⟨e1, e2, e3⟩, f1, g1, i1⟩ := h
  refine ⟨⟨by rw [hC 1 1 (by unfold lR; omega), a1], by rw [hr 11 (by omega), a2], a3⟩, ⟨by rw [hC 1 5 (by unfold lR; omega), b1], by rw [hr 26 (by omega), b2], b3⟩, ⟨by rw [hC 1 0 (by unfold lR; omega), c1], by rw [hr 10 (by omega), c2], c3, c4⟩, ⟨by rw [hC 1 8 (by unfold lR; omega), d1], by rw [hr 7 (by omega), d2], d3⟩, ⟨by rw [hC 1 9 (by unfold lR; omega), e1], by rw [hr 9 (by omega), e2], e3⟩, by rw [hC 1 10 (by unfold lR; omega), hr 8 (by omega), f1], fun k hk => ?_, fun j hj => ?_⟩
  · rw [hC 2 k (by unfold lR; omega), hC 3 k (by unfold lR; omega), hC 4 k (by unfold lR; omega), hr (12 + k) (by omega), hr (19 + k) (by omega), hr k (by omega)]
    exact g1 k hk
  · rw [hC 5 j (by unfold lR; omega), hC 6 j (by unfold lR; omega), hr (27 + j) (by omega), hr (31 + j) (by omega)]
    exact i1 j hj
theorem HT.c (h : HT C R T) (h0 : C' 7 0 = C 7 0) (hC : ∀ j, j < 24 → C' 8 j = C 8 j) (hr : ∀ j, 35 ≤ j → j < 48 → R' j = R j) : HT C' R' T := by
  obtain ⟨a1, a2, a3, a4⟩ := h
  refine ⟨by rw [h0, a1], by rw [hr 35 (by omega) (by omega), a2], a3, fun q hq => ?_⟩
  rw [hC _ (by omega), hC _ (by omega), hr _ (by omega) (by omega), hr _ (by omega) (by omega)]
  exact a4 q hq
theorem HN.c (h : HN C R i p N) (h0 : C' i 0 = C i 0) (hC : ∀ j, j < 24 → C' (i + 1) j = C (i + 1) j) (hr : ∀ j, p ≤ j → j < p + 25 → R' j = R j) : HN C' R' i p N := by
  obtain ⟨a1, a2, a3, a4⟩ := h
  refine ⟨by rw [h0, a1], by rw [hr p (by omega) (by omega), a2], a3, fun j hj => ?_⟩
  rw [hC _ (by omega), hr _ (by omega) (by omega)]
  exact a4 j hj
theorem KP.c {c c' r r' : Nat → Int32} (h : KP c r P A) (hP : P ≤ 7) (hc : ∀ j, j < 10 → c' j = c j) (hr : ∀ j, j < 10 → r' j = r j) : KP c' r' P A := by
  obtain ⟨t, th, a1, a2, a3, a4, a5, a6, a7, a8⟩ := h
  refine ⟨t, th, a1, a2, by rw [hc 0 (by omega), a3], by rw [hr 9 (by omega), a4], by rw [hr 8 (by omega), hc 1 (by omega), a5], by rw [hc 2 (by omega), a6], by rw [hr 7 (by omega), a7], fun k hk => ?_⟩
  rw [hc (3 + k) (by omega), hr k (by omega)]
  exact a8 k hk
theorem HU.c (h : HU C R P A U) (hP : P ≤ 7) (h0 : C' 13 0 = C 13 0) (hC : ∀ j, j < 80 → C' 14 j = C 14 j) (hr : ∀ j, 98 ≤ j → j < 179 → R' j = R j) : HU C' R' P A U := by
  obtain ⟨a1, a2, a3, a4⟩ := h
  exact ⟨by rw [h0, a1], by rw [hr 98 (by omega) (by omega), a2], a3, fun u hu => (a4 u hu).c hP (fun j hj => hC _ (by omega)) (fun j hj => hr _ (by omega) (by omega))⟩
theorem HR.c (h : HR C R) (hC : ∀ i j, hR i j → C' i j = C i j) (hr : ∀ j, j < 179 → R' j = R j) : HR C' R' := by
  obtain ⟨P, A, W, th, t, T, N, M, U, h1, h2, h3, h4, h5⟩ := h
  refine ⟨P, A, W, th, t, T, N, M, U, h1.c (fun i j q => hC i j (Or.inl q)) (fun j hj => hr j (by omega)), h2.c (hC 7 0 (by unfold hR lR; omega)) (fun j hj => hC 8 j (by unfold hR lR; omega)) (fun j _ hj => hr j (by omega)), h3.c (hC 9 0 (by unfold hR lR; omega)) (fun j hj => hC 10 j (by unfold hR lR; omega)) (fun j _ hj => hr j (by omega)), h4.c (hC 11 0 (by unfold hR lR; omega)) (fun j hj => hC 12 j (by unfold hR lR; omega)) (fun j _ hj => hr j (by omega)), h5.c h1.1.2.2 (hC 13 0 (by unfold hR lR; omega)) (fun j hj => hC 14 j (by unfold hR lR; omega)) (fun j _ hj => hr j (by omega))⟩
/-- what is scratch doesn't matter -/
theorem gSm.nh (h : gSm μ ν) {c : Nat} (hc : c < 46) (j : Nat) : mrd ν c j = mrd μ c j := h.1 c j (by unfold gScr; omega)
theorem gSm.nr (h : gSm μ ν) {j : Nat} (hj : j < 537) : mrd ν 64 j = mrd μ 64 j := h.1 64 j (by unfold gScr; omega)
theorem IM.c {d : Nat} (h : IM μ d) (hd : d < 2) (h0 : mrd ν 0 (3 + d) = mrd μ 0 (3 + d)) (h1 : mrd ν 65 d = mrd μ 65 d) (hC : ∀ c j, 16 ≤ c → c < 46 → mrd ν c j = mrd μ c j) (hr : ∀ j, 179 ≤ j → j < 537 → mrd ν 64 j = mrd μ 64 j) : IM ν d := by
  obtain ⟨a1, a2⟩ := h
  refine ⟨by rw [h0, h1, a1], fun q => ?_⟩
  rw [h1] at q
  refine (a2 q).c (fun i j hij => ?_) (fun j hj => ?_)
  · exact hC _ _ (by omega) (by unfold hR lR at hij; omega)
  · exact hr _ (by omega) (by omega)
theorem INV.hs (h : INV μ) (hc : ∀ c j, ¬ gScr c j → ¬ (1 ≤ c ∧ c ≤ 15) → ¬ (c = 64 ∧ j < 179) → mrd ν c j = mrd μ c j) (hl : ∀ c j, mrL ν c j = mrL μ c j) (hH : HR (cH ν 1) (rH ν 0)) : INV ν := by
  obtain ⟨-, h1, h2, ⟨L, l1, l2, l3⟩, l4, l5, l6, l7, l8⟩ := h
  have e : ∀ c j, 16 ≤ c → c < 46 → mrd ν c j = mrd μ c j := fun c j a b => hc c j (by unfold gScr; omega) (by omega) (by omega)
  have er : ∀ j, 179 ≤ j → j < 537 → mrd ν 64 j = mrd μ 64 j := fun j a b => hc 64 j (by unfold gScr; omega) (by omega) (by omega)
  refine ⟨hH, h1.c (by omega) (hc _ _ (by unfold gScr; omega) (by omega) (by omega)) (hc _ _ (by unfold gScr; omega) (by omega) (by omega)) e er, h2.c (by omega) (hc _ _ (by unfold gScr; omega) (by omega) (by omega)) (hc _ _ (by unfold gScr; omega) (by omega) (by omega)) e er, ⟨L, l1, ?_, ?_⟩, ?_, fun i k hi hk => ?_, ?_, ?_, fun k hk => ?_⟩
  · rw [hc 46 0 (by unfold gScr; omega) (by omega) (by omega), l2]
  · rw [hc 63 6 (by unfold gScr; omega) (by omega) (by omega), l3]
  · funext j
    rw [hc 47 j (by unfold gScr; omega) (by omega) (by omega), hc 67 j (by unfold gScr; omega) (by omega) (by omega), l4]
  · rw [hc 68 _ (by unfold gScr; omega) (by omega) (by omega), l5 i k hi hk]
  · rw [hl, hl, l6]
  · rw [hl, hl, l7]
  · rw [hc 0 _ (by unfold gScr; omega) (by omega) (by omega), hc 66 _ (by unfold gScr; omega) (by omega) (by omega), l8 k hk]
theorem INV.sm (h : INV μ) (hs : gSm μ ν) : INV ν := by
  refine h.hs (fun c j q _ _ => hs.1 c j q) hs.2 (h.1.c (fun i j hij => ?_) (fun j hj => ?_))
  · exact hs.nh (by unfold hR lR at hij; omega) j
  · exact hs.nr (by omega)
/-- a refused call is counted on both sides -/
theorem INV.rf {k : Nat} (h : INV μ) (hk : k < 3) : INV (rRf (mRf μ (10 + k)) k) := by
  have e : ∀ c j, ¬ (c = 0 ∧ j = 10 + k) → ¬ (c = 66 ∧ j = k) → mrd (rRf (mRf μ (10 + k)) k) c j = mrd μ c j := fun c j a b => by
    unfold rRf mRf
    rw [mrd_wr, if_neg b, mrd_wr, if_neg a]
  obtain ⟨h0, h1, h2, ⟨L, l1, l2, l3⟩, l4, l5, l6, l7, l8⟩ := h
  refine ⟨h0.c (fun i j hij => e _ _ (by omega) (by unfold hR lR at hij; omega)) (fun j hj => e _ _ (by omega) (by omega)), h1.c (by omega) (e _ _ (by omega) (by omega)) (e _ _ (by omega) (by omega)) (fun c j a b => e c j (by omega) (by omega)) (fun j a b => e _ _ (by omega) (by omega)), h2.c (by omega) (e _ _ (by omega) (by omega)) (e _ _ (by omega) (by omega)) (fun c j a b => e c j (by omega) (by omega)) (fun j a b => e _ _ (by omega) (by omega)), ⟨L, l1, by rw [e _ _ (by omega) (by omega), l2], by rw [e _ _ (by omega) (by omega), l3]⟩, ?_, fun i k hi hk => by rw [e _ _ (by omega) (by omega), l5 i k hi hk], l6, l7, fun q hq => ?_⟩
  · funext j
    rw [e _ _ (by omega) (by omega), e _ _ (by omega) (by omega), l4]
  · by_cases eq : q = k
    · subst eq
      have e1 : mrd (rRf (mRf μ (10 + q)) q) 0 (10 + q) = mrd μ 0 (10 + q) + 1 := by unfold rRf mRf; rw [mrd_wr, if_neg (by omega), mrd_wr, if_pos ⟨rfl, rfl⟩]
      have e2 : mrd (rRf (mRf μ (10 + q)) q) 66 q = mrd μ 66 q + 1 := by unfold rRf mRf; rw [mrd_wr, if_pos ⟨rfl, rfl⟩, mrd_wr, if_neg (by omega)]
      rw [e1, e2, l8 q hq]
    · rw [e _ _ (by omega) (by omega), e _ _ (by omega) (by omega), l8 q hq]
/-- the reference's cells are as they were -/
def RS (μ ν : gM) : Prop := (∀ c j, 63 ≤ c → ¬ gScr c j → mrd ν c j = mrd μ c j) ∧ ∀ j, mrL ν 63 j = mrL μ 63 j
theorem gSm.rs (h : gSm μ ν) : RS μ ν := ⟨fun c j _ q => h.1 c j q, fun j => h.2 63 j⟩
theorem RS.rf (k : Nat) : RS μ (mRf μ k) := ⟨fun c j a _ => by unfold mRf; rw [mrd_wr, if_neg (by omega)], fun j => rfl⟩
theorem RS.self : RS μ μ := ⟨fun _ _ _ _ => rfl, fun _ => rfl⟩
theorem RS.row (h : RS μ ν) {j : Nat} (hj : j < 537) : mrd ν 64 j = mrd μ 64 j := h.1 64 j (by omega) (by unfold gScr; omega)
theorem HL.lc (h : HL (cH μ 1) (rH μ 0) P A W th t) : LC μ 2 P A := ⟨h.1.1, h.1.2.2, h.2.1.1, h.2.1.2.2⟩
theorem HL.vw (h : HL (cH μ 1) (rH μ 0) P A W th t) : VW (cV μ 2) P := ⟨h.1.2.2, fun k hk => ⟨(h.2.2.2.2.2.2.1 k hk).2.2.2.1, (h.2.2.2.2.2.2.1 k hk).2.2.2.2⟩⟩
theorem HL.mr (h : HL (cH μ 1) (rH μ 0) P A W th t) (hs : RS μ ν) : MR ν P A := ⟨by rw [hs.row (by omega)]; exact h.1.2.1, h.1.2.2, by rw [hs.row (by omega)]; exact h.2.1.2.1, h.2.1.2.2⟩
theorem HL.ve (h : HL (cH μ 1) (rH μ 0) P A W th t) (hs : RS μ ν) : VE (rV ν 0) (cV μ 2) P A := by
  have p7 := h.1.2.2
  have a4 := h.2.1.2.2
  refine ⟨fun k hk => ?_, fun j hj => ?_⟩
  · obtain ⟨g1, g2, g3, -⟩ := h.2.2.2.2.2.2.1 k hk
    refine ⟨?_, ?_, ?_⟩
    · show mrd ν 64 (12 + k) = _
      rw [hs.row (by omega)]; exact g1
    · show mrd ν 64 (19 + k) = _
      rw [hs.row (by omega)]; exact g2
    · show mrd ν 64 (0 + k) = _
      rw [Nat.zero_add, hs.row (by omega)]; exact g3
  · obtain ⟨g1, g2⟩ := h.2.2.2.2.2.2.2 j hj
    refine ⟨?_, ?_⟩
    · show mrd ν 64 (27 + j) = _
      rw [hs.row (by omega)]; exact g1
    · show mrd ν 64 (31 + j) = _
      rw [hs.row (by omega)]; exact g2
theorem VE.sw {V V' : Nat → Nat → Int32} {k : Nat} {a : Int32} (h : VE V V' P A) : VE (uV V k a) (uV V' k a) P A := by
  refine ⟨fun q hq => ?_, fun j hj => ?_⟩
  · obtain ⟨b1, b2, b3⟩ := h.1 q hq
    refine ⟨by simpa [uV] using b1, by simpa [uV] using b2, ?_⟩
    by_cases e : q = k
    · simp [uV, e]
    · simpa [uV, e] using b3
  · obtain ⟨b1, b2⟩ := h.2 j hj
    exact ⟨by simpa [uV] using b1, by simpa [uV] using b2⟩
theorem HL.cw (h : HL (cH μ 1) (rH μ 0) P A W th t) : mrd μ 2 0 = nI W ∧ mrd μ 2 8 = nI th ∧ mrd μ 2 9 = nI t ∧ th < 16 := by
  have a4 := h.2.1.2.2
  have : 2 ^ A ≤ 2 ^ 4 := Nat.pow_le_pow_right (by omega) a4
  exact ⟨h.2.2.1.1, h.2.2.2.1.1, h.2.2.2.2.1.1, by have := h.2.2.2.1.2.2; omega⟩
theorem HL.rw (h : HL (cH μ 1) (rH μ 0) P A W th t) (hs : RS μ ν) : mrd ν 64 10 = nI W ∧ mrd ν 64 7 = nI th ∧ mrd ν 64 9 = nI t ∧ mrd ν 64 8 = mrd μ 2 10 := ⟨by rw [hs.row (by omega)]; exact h.2.2.1.2.1, by rw [hs.row (by omega)]; exact h.2.2.2.1.2.1, by rw [hs.row (by omega)]; exact h.2.2.2.2.1.2.1, by rw [hs.row (by omega)]; exact h.2.2.2.2.2.1⟩
end S57
/-- one call answers alike on both sides, and they hold the same behind it -/
def CTi (d d' : Nat) (Y Y' : gMI) (as : List Value) (μ : gM) : Prop := SPC d Y (.ref 0 :: as) μ (fun r ν => ∃ v : Int32, r = some (.int v) ∧ SPC d' Y' (.ref 63 :: as) ν (fun r' ν' => r' = some (.int v) ∧ INV ν'))
def CTl (d d' : Nat) (Y Y' : gMI) (as : List Value) (μ : gM) : Prop := SPC d Y (.ref 0 :: as) μ (fun r ν => ∃ v : Int64, r = some (.long v) ∧ SPC d' Y' (.ref 63 :: as) ν (fun r' ν' => r' = some (.long v) ∧ INV ν'))
