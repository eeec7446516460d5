/-! BETWEEN TWO CALLS: how the parts change -/
section S58
variable {C C' : Nat → Nat → Int32} {R R' : Nat → Int32} {P A W th t T N M U i p W' th' t' a : Nat} {x y z w : Int32}
theorem HR0 (c11 : C 1 1 = 0) (r11 : R 11 = 0) (c15 : C 1 5 = 0) (r26 : R 26 = 0) (c10 : C 1 0 = nI W) (r10 : R 10 = nI W) (h4 : 4 ≤ W) (h30 : W ≤ 30) (c18 : C 1 8 = 0) (r7 : R 7 = 0) (c19 : C 1 9 = 0) (r9 : R 9 = 0) (r8 : R 8 = C 1 10) (c7 : C 7 0 = 0) (r35 : R 35 = 0) (c9 : C 9 0 = 0) (r48 : R 48 = 0) (c11' : C 11 0 = 0) (r73 : R 73 = 0) (c13 : C 13 0 = 0) (r98 : R 98 = 0) : HR C R :=
  ⟨0, 0, W, 0, 0, 0, 0, 0, 0, ⟨⟨c11, r11, by omega⟩, ⟨c15, r26, by omega⟩, ⟨c10, r10, h4, h30⟩, ⟨c18, r7, by decide⟩, ⟨c19, r9, by omega⟩, r8, fun k hk => absurd hk (Nat.not_lt_zero _), fun k hk => absurd hk (Nat.not_lt_zero _)⟩, ⟨c7, r35, by omega, fun k hk => absurd hk (Nat.not_lt_zero _)⟩, ⟨c9, r48, by omega, fun k hk => absurd hk (Nat.not_lt_zero _)⟩, ⟨c11', r73, by omega, fun k hk => absurd hk (Nat.not_lt_zero _)⟩, ⟨c13, r98, by omega, fun k hk => absurd hk (Nat.not_lt_zero _)⟩⟩
theorem HL.wide (h : HL C R P A W th t) (h4 : 4 ≤ W') (h30 : W' ≤ 30) (c0 : C' 1 0 = nI W') (r10 : R' 10 = nI W') (hC : ∀ i j, lR i j → ¬ (i = 1 ∧ j = 0) → C' i j = C i j) (hr : ∀ j, j < 35 → ¬ j = 10 → R' j = R j) : HL C' R' P A W' th t := by
  obtain ⟨⟨a1, a2, a3⟩, ⟨b1, b2, b3⟩, -, ⟨d1, d2, d3⟩, ⟨e1, e2, e3⟩, f1, g1, i1⟩ := h
  refine ⟨⟨by rw [hC 1 1 (by unfold lR; omega) (by omega), a1], by rw [hr 11 (by omega) (by omega), a2], a3⟩, ⟨by rw [hC 1 5 (by unfold lR; omega) (by omega), b1], by rw [hr 26 (by omega) (by omega), b2], b3⟩, ⟨c0, r10, h4, h30⟩, ⟨by rw [hC 1 8 (by unfold lR; omega) (by omega), d1], by rw [hr 7 (by omega) (by omega), d2], d3⟩, ⟨by rw [hC 1 9 (by unfold lR; omega) (by omega), e1], by rw [hr 9 (by omega) (by omega), e2], e3⟩, by rw [hC 1 10 (by unfold lR; omega) (by omega), hr 8 (by omega) (by omega), f1], fun k hk => ?_, fun j hj => ?_⟩
  · rw [hC 2 k (by unfold lR; omega) (by omega), hC 3 k (by unfold lR; omega) (by omega), hC 4 k (by unfold lR; omega) (by omega), hr (12 + k) (by omega) (by omega), hr (19 + k) (by omega) (by omega), hr k (by omega) (by omega)]
    exact g1 k hk
  · rw [hC 5 j (by unfold lR; omega) (by omega), hC 6 j (by unfold lR; omega) (by omega), hr (27 + j) (by omega) (by omega), hr (31 + j) (by omega) (by omega)]
    exact i1 j hj
theorem HL.one (h : HL C R P A W th t) (hP : P < 7) (c11 : C' 1 1 = nI (P + 1)) (r11 : R' 11 = nI (P + 1)) (c2 : C' 2 P = x) (c3 : C' 3 P = y) (c4 : C' 4 P = z) (r2 : R' (12 + P) = x) (r3 : R' (19 + P) = y) (r4 : R' P = z) (hy : y = 0 ∨ y = 1) (ha : a ≤ 9) (hz : z = nI a) (hC : ∀ i j, lR i j → ¬ (i = 1 ∧ j = 1) → ¬ (2 ≤ i ∧ i ≤ 4 ∧ j = P) → C' i j = C i j) (hr : ∀ j, j < 35 → ¬ j = 11 → ¬ j = 12 + P → ¬ j = 19 + P → ¬ j = P → R' j = R j) : HL C' R' (P + 1) A W th t := by
  obtain ⟨⟨a1, a2, a3⟩, ⟨b1, b2, b3⟩, ⟨k1, k2, k3, k4⟩, ⟨d1, d2, d3⟩, ⟨e1, e2, e3⟩, f1, g1, i1⟩ := h
  refine ⟨⟨c11, r11, hP⟩, ⟨by rw [hC 1 5 (by unfold lR; omega) (by omega) (by omega), b1], by rw [hr 26 (by omega) (by omega) (by omega) (by omega) (by omega), b2], b3⟩, ⟨by rw [hC 1 0 (by unfold lR; omega) (by omega) (by omega), k1], by rw [hr 10 (by omega) (by omega) (by omega) (by omega) (by omega), k2], k3, k4⟩, ⟨by rw [hC 1 8 (by unfold lR; omega) (by omega) (by omega), d1], by rw [hr 7 (by omega) (by omega) (by omega) (by omega) (by omega), d2], d3⟩, ⟨by rw [hC 1 9 (by unfold lR; omega) (by omega) (by omega), e1], by rw [hr 9 (by omega) (by omega) (by omega) (by omega) (by omega), e2], e3⟩, by rw [hC 1 10 (by unfold lR; omega) (by omega) (by omega), hr 8 (by omega) (by omega) (by omega) (by omega) (by omega), f1], fun k hk => ?_, fun j hj => ?_⟩
  · by_cases e : k = P
    · rw [e, c2, c3, c4, r2, r3, r4]
      exact ⟨rfl, rfl, rfl, hy, a, ha, hz⟩
    · rw [hC 2 k (by unfold lR; omega) (by omega) (by omega), hC 3 k (by unfold lR; omega) (by omega) (by omega), hC 4 k (by unfold lR; omega) (by omega) (by omega), hr (12 + k) (by omega) (by omega) (by omega) (by omega) (by omega), hr (19 + k) (by omega) (by omega) (by omega) (by omega) (by omega), hr k (by omega) (by omega) (by omega) (by omega) (by omega)]
      exact g1 k (by omega)
  · rw [hC 5 j (by unfold lR; omega) (by omega) (by omega), hC 6 j (by unfold lR; omega) (by omega) (by omega), hr (27 + j) (by omega) (by omega) (by omega) (by omega) (by omega), hr (31 + j) (by omega) (by omega) (by omega) (by omega) (by omega)]
    exact i1 j hj
theorem HL.aunt (h : HL C R P A W th t) (hA : A < 4) (c15 : C' 1 5 = nI (A + 1)) (r26 : R' 26 = nI (A + 1)) (c5 : C' 5 A = x) (c6 : C' 6 A = y) (r5 : R' (27 + A) = x) (r6 : R' (31 + A) = y) (c18 : C' 1 8 = nI th') (r7 : R' 7 = nI th') (ht : th' < 2 ^ (A + 1)) (hC : ∀ i j, lR i j → ¬ (i = 1 ∧ j = 5) → ¬ (i = 1 ∧ j = 8) → ¬ (5 ≤ i ∧ i ≤ 6 ∧ j = A) → C' i j = C i j) (hr : ∀ j, j < 35 → ¬ j = 26 → ¬ j = 27 + A → ¬ j = 31 + A → ¬ j = 7 → R' j = R j) : HL C' R' P (A + 1) W th' t := by
  obtain ⟨⟨a1, a2, a3⟩, ⟨b1, b2, b3⟩, ⟨k1, k2, k3, k4⟩, -, ⟨e1, e2, e3⟩, f1, g1, i1⟩ := h
  refine ⟨⟨by rw [hC 1 1 (by unfold lR; omega) (by omega) (by omega) (by omega), a1], by rw [hr 11 (by omega) (by omega) (by omega) (by omega) (by omega), a2], a3⟩, ⟨c15, r26, hA⟩, ⟨by rw [hC 1 0 (by unfold lR; omega) (by omega) (by omega) (by omega), k1], by rw [hr 10 (by omega) (by omega) (by omega) (by omega) (by omega), k2], k3, k4⟩, ⟨c18, r7, ht⟩, ⟨by rw [hC 1 9 (by unfold lR; omega) (by omega) (by omega) (by omega), e1], by rw [hr 9 (by omega) (by omega) (by omega) (by omega) (by omega), e2], e3⟩, by rw [hC 1 10 (by unfold lR; omega) (by omega) (by omega) (by omega), hr 8 (by omega) (by omega) (by omega) (by omega) (by omega), f1], fun k hk => ?_, fun j hj => ?_⟩
  · rw [hC 2 k (by unfold lR; omega) (by omega) (by omega) (by omega), hC 3 k (by unfold lR; omega) (by omega) (by omega) (by omega), hC 4 k (by unfold lR; omega) (by omega) (by omega) (by omega), hr (12 + k) (by omega) (by omega) (by omega) (by omega) (by omega), hr (19 + k) (by omega) (by omega) (by omega) (by omega) (by omega), hr k (by omega) (by omega) (by omega) (by omega) (by omega)]
    exact g1 k hk
  · by_cases e : j = A
    · rw [e, c5, c6, r5, r6]
      exact ⟨rfl, rfl⟩
    · rw [hC 5 j (by unfold lR; omega) (by omega) (by omega) (by omega), hC 6 j (by unfold lR; omega) (by omega) (by omega) (by omega), hr (27 + j) (by omega) (by omega) (by omega) (by omega) (by omega), hr (31 + j) (by omega) (by omega) (by omega) (by omega) (by omega)]
      exact i1 j (by omega)
/-- time, noise, who is there, swings -/
theorem HL.tm (h : HL C R P A W th t) (c19 : C' 1 9 = nI t') (r9 : R' 9 = nI t') (ht : t' ≤ 9999) (c18 : C' 1 8 = nI th') (r7 : R' 7 = nI th') (hth : th' < 2 ^ A) (r8 : R' 8 = C' 1 10) (hs : ∀ k, k < P → R' k = C' 4 k ∧ ∃ a, a ≤ 9 ∧ C' 4 k = nI a) (hC : ∀ i j, lR i j → ¬ (i = 1 ∧ 8 ≤ j) → ¬ i = 4 → C' i j = C i j) (hr : ∀ j, 10 ≤ j → j < 35 → R' j = R j) : HL C' R' P A W th' t' := by
  obtain ⟨⟨a1, a2, a3⟩, ⟨b1, b2, b3⟩, ⟨k1, k2, k3, k4⟩, -, -, f1, g1, i1⟩ := h
  refine ⟨⟨by rw [hC 1 1 (by unfold lR; omega) (by omega) (by omega), a1], by rw [hr 11 (by omega) (by omega), a2], a3⟩, ⟨by rw [hC 1 5 (by unfold lR; omega) (by omega) (by omega), b1], by rw [hr 26 (by omega) (by omega), b2], b3⟩, ⟨by rw [hC 1 0 (by unfold lR; omega) (by omega) (by omega), k1], by rw [hr 10 (by omega) (by omega), k2], k3, k4⟩, ⟨c18, r7, hth⟩, ⟨c19, r9, ht⟩, r8, fun k hk => ?_, fun j hj => ?_⟩
  · obtain ⟨q1, q2, q3, q4, -⟩ := g1 k hk
    rw [hC 2 k (by unfold lR; omega) (by omega) (by omega), hC 3 k (by unfold lR; omega) (by omega) (by omega), hr (12 + k) (by omega) (by omega), hr (19 + k) (by omega) (by omega)]
    exact ⟨q1, q2, (hs k hk).1, q4, (hs k hk).2⟩
  · rw [hC 5 j (by unfold lR; omega) (by omega) (by omega), hC 6 j (by unfold lR; omega) (by omega) (by omega), hr (27 + j) (by omega) (by omega), hr (31 + j) (by omega) (by omega)]
    exact i1 j hj
theorem HT.add (h : HT C R T) (hT : T < 6) (c7 : C' 7 0 = nI (T + 1)) (r35 : R' 35 = nI (T + 1)) (c8 : C' 8 (4 * T) = x) (c8' : C' 8 (4 * T + 1) = y) (r8 : R' (36 + 2 * T) = x) (r8' : R' (37 + 2 * T) = y) (hC : ∀ j, j < 4 * T → C' 8 j = C 8 j) (hr : ∀ j, 36 ≤ j → j < 36 + 2 * T → R' j = R j) : HT C' R' (T + 1) := by
  obtain ⟨a1, a2, a3, a4⟩ := h
  refine ⟨c7, r35, hT, fun q hq => ?_⟩
  by_cases e : q = T
  · rw [e, c8, c8', r8, r8']
    exact ⟨rfl, rfl⟩
  · rw [hC _ (by omega), hC _ (by omega), hr _ (by omega) (by omega), hr _ (by omega) (by omega)]
    exact a4 q (by omega)
theorem HN.add (h : HN C R i p N) (hN : N < 6) (c0 : C' i 0 = nI (N + 1)) (r0 : R' p = nI (N + 1)) (hn : ∀ k, k < 4 → R' (p + 1 + (4 * N + k)) = C' (i + 1) (4 * N + k)) (hC : ∀ j, j < 4 * N → C' (i + 1) j = C (i + 1) j) (hr : ∀ j, p + 1 ≤ j → j < p + 1 + 4 * N → R' j = R j) : HN C' R' i p (N + 1) := by
  obtain ⟨a1, a2, a3, a4⟩ := h
  refine ⟨c0, r0, hN, fun j hj => ?_⟩
  by_cases e : j < 4 * N
  · rw [hC _ e, hr _ (by omega) (by omega)]
    exact a4 j e
  · have := hn (j - 4 * N) (by omega)
    rw [show 4 * N + (j - 4 * N) = j by omega] at this
    exact this
theorem HT.no (c7 : C' 7 0 = 0) (r35 : R' 35 = 0) : HT C' R' 0 := ⟨c7, r35, by omega, fun q hq => absurd hq (Nat.not_lt_zero _)⟩
theorem HN.no (c0 : C' i 0 = 0) (r0 : R' p = 0) : HN C' R' i p 0 := ⟨c0, r0, by omega, fun q hq => absurd hq (Nat.not_lt_zero _)⟩
theorem HU.no (c0 : C' 13 0 = 0) (r0 : R' 98 = 0) : HU C' R' P A 0 := ⟨c0, r0, by omega, fun q hq => absurd hq (Nat.not_lt_zero _)⟩
theorem KP.of {c r : Nat → Int32} (h : HL C R P A W th t) (c0 : c 0 = C 1 9) (c1 : c 1 = C 1 10) (c2 : c 2 = C 1 8) (c3 : ∀ k, k < 7 → c (3 + k) = C 4 k) (hr : ∀ j, j < 10 → r j = R j) : KP c r P A := by
  obtain ⟨⟨a1, a2, a3⟩, -, -, ⟨d1, d2, d3⟩, ⟨e1, e2, e3⟩, f1, g1, -⟩ := h
  refine ⟨t, th, e3, d3, by rw [c0, e1], by rw [hr 9 (by omega), e2], by rw [hr 8 (by omega), c1, f1], by rw [c2, d1], by rw [hr 7 (by omega), d2], fun k hk => ?_⟩
  rw [c3 k (by omega), hr k (by omega)]
  obtain ⟨-, -, q3, -, q5⟩ := g1 k hk
  exact ⟨q3, q5⟩
theorem HU.add (h : HU C R P A U) (hP : P ≤ 7) (hU : U < 8) (c13 : C' 13 0 = nI (U + 1)) (r98 : R' 98 = nI (U + 1)) (hC : ∀ j, j < 10 * U → C' 14 j = C 14 j) (hr : ∀ j, 99 ≤ j → j < 99 + 10 * U → R' j = R j) (hk : KP (fun j => C' 14 (10 * U + j)) (fun j => R' (99 + 10 * U + j)) P A) : HU C' R' P A (U + 1) := by
  obtain ⟨a1, a2, a3, a4⟩ := h
  refine ⟨c13, r98, hU, fun u hu => ?_⟩
  by_cases e : u = U
  · rw [e]; exact hk
  · exact (a4 u (by omega)).c hP (fun j hj => hC _ (by omega)) (fun j hj => hr _ (by omega) (by omega))
theorem HU.shift (h : HU C R P A 8) (hP : P ≤ 7) (c13 : C' 13 0 = nI 8) (r98 : R' 98 = nI 8) (hC : ∀ j, j < 70 → C' 14 j = C 14 (j + 10)) (hr : ∀ j, 99 ≤ j → j < 169 → R' j = R (j + 10)) (hk : KP (fun j => C' 14 (70 + j)) (fun j => R' (169 + j)) P A) : HU C' R' P A 8 := by
  obtain ⟨a1, a2, a3, a4⟩ := h
  refine ⟨c13, r98, by omega, fun u hu => ?_⟩
  by_cases e : u = 7
  · rw [e]; exact hk
  · refine (a4 (u + 1) (by omega)).c hP (fun j hj => ?_) (fun j hj => ?_)
    · show C' 14 (10 * u + j) = C 14 (10 * (u + 1) + j)
      rw [hC _ (by omega)]
      congr 1
      omega
    · show R' (99 + 10 * u + j) = R (99 + 10 * (u + 1) + j)
      rw [hr _ (by omega) (by omega)]
      congr 1
      omega
theorem HU.less (h : HU C R P A U) (hP : P ≤ 7) (h0 : 0 < U) (c13 : C' 13 0 = nI (U - 1)) (r98 : R' 98 = nI (U - 1)) (hC : ∀ j, j < 80 → C' 14 j = C 14 j) (hr : ∀ j, 99 ≤ j → j < 179 → R' j = R j) : HU C' R' P A (U - 1) := by
  obtain ⟨a1, a2, a3, a4⟩ := h
  exact ⟨c13, r98, by omega, fun u hu => (a4 u (by omega)).c hP (fun j hj => hC _ (by omega)) (fun j hj => hr _ (by omega) (by omega))⟩
end S58
