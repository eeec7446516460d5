/-! THE REFERENCE: the text, items -/
/-- the row is as told -/
def RR (ν : gM) (S : aL) : Prop := match S with
  | (V, P, A, wd, th, t, n) => MR ν P A ∧ mrd ν 64 10 = wd ∧ mrd ν 64 7 = th ∧ mrd ν 64 9 = t ∧ mrd ν 64 8 = n ∧ VE (rV ν 0) V P A ∧ mrd ν 64 35 = 0 ∧ mrd ν 64 48 = 0 ∧ mrd ν 64 73 = 0
def gRz (z : Bool) (μ ν : gM) : Prop := (∀ c j, ¬ (c = 63 ∧ 8 ≤ j ∧ j ≤ 12) → ¬ (z = true ∧ (c = 64 ∧ j < 179 ∨ c = 69)) → mrd ν c j = mrd μ c j) ∧ ∀ c j, mrL ν c j = mrL μ c j
/-- between two items: what is read so far -/
def RI (z : Bool) (μ ν : gM) (i : Nat) (S : aL) : Prop := gRz z μ ν ∧ mrd ν 63 10 = nI S.2.1 ∧ mrd ν 63 11 = nI S.2.2.1 ∧ mrd ν 63 12 = bI z ∧ S.2.1 ≤ 7 ∧ S.2.2.1 ≤ 4 ∧ (z = true → 0 < i → RR ν S)
section S49
variable {μ ν ξ : gM} {Q : Option Value → gM → Prop} {L k p q f i w : Nat} {b : Nat → Int32} {lo hi v v0 v1 v2 : Int32} {z : Bool} {S : aL}
theorem RR.rt (h : RR ν S) (g : gRt ν ξ) : RR ξ S := by
  obtain ⟨V, P, A, wd, th, t, n⟩ := S
  obtain ⟨⟨m1, m2, m3, m4⟩, h1, h2, h3, h4, hV, h5, h6, h7⟩ := h
  have e : ∀ j, mrd ξ 64 j = mrd ν 64 j := fun j => g.1 64 j (by omega)
  have eV : rV ξ 0 = rV ν 0 := by funext f k; simp only [rV, e]
  exact ⟨⟨by rw [e, m1], m2, by rw [e, m3], m4⟩, by rw [e, h1], by rw [e, h2], by rw [e, h3], by rw [e, h4], by rw [eV]; exact hV, by rw [e, h5], by rw [e, h6], by rw [e, h7]⟩
theorem RI.rt (h : RI z μ ν i S) (g : gRt ν ξ) : RI z μ ξ i S := by
  obtain ⟨h1, h2, h3, h4, h5, h6, h7⟩ := h
  refine ⟨⟨fun c j a b => (g.1 c j (by omega)).trans (h1.1 c j a b), fun c j => (g.2 c j).trans (h1.2 c j)⟩, by rw [g.1 63 10 (by omega), h2], by rw [g.1 63 11 (by omega), h3], by rw [g.1 63 12 (by omega), h4], h5, h6, fun a b => (h7 a b).rt g⟩
theorem TR.w63 {x : Int32} (h : TR ν b L p) (hk : 10 ≤ k) : TR (mwr ν 63 k x) b L p := by
  obtain ⟨h1, h2, h3, h4, h5, h6⟩ := h
  refine ⟨by rw [mrd_wr, if_neg (by omega), h1], h2, by rw [mrd_wr, if_neg (by omega), h3], h4, ?_, fun i k hi hk => ?_⟩
  · rw [← h5]; funext j; rw [mrd_wr, if_neg (by omega)]
  · rw [← h6 i k hi hk, mrd_wr, if_neg (by omega)]
theorem TR.of (h : TR ν b L p) (g : ∀ c j, ¬ c = 64 → ¬ c = 69 → mrd ξ c j = mrd ν c j) : TR ξ b L p := by
  obtain ⟨h1, h2, h3, h4, h5, h6⟩ := h
  refine ⟨by rw [g _ _ (by omega) (by omega), h1], h2, by rw [g _ _ (by omega) (by omega), h3], h4, ?_, fun i k hi hk => ?_⟩
  · rw [← h5]; funext j; rw [g _ _ (by omega) (by omega)]
  · rw [← h6 i k hi hk, g _ _ (by omega) (by omega)]
theorem num_no (hlo : 0 ≤ lo) (hv : (if tNk b L p lo hi = true then tVal b L p else -1) = v) (h : v = -1) : tNk b L p lo hi = false := by
  cases hn : tNk b L p lo hi with
  | false => rfl
  | true =>
    rw [if_pos hn] at hv
    have r := (tNk_r hn).1
    rw [hv, h] at r
    have a := Int32.le_iff_toInt_le.mp (Int32.le_trans hlo r)
    exact absurd a (by decide)
theorem num_ok (hv : (if tNk b L p lo hi = true then tVal b L p else -1) = v) (h : ¬ v = -1) : tNk b L p lo hi = true ∧ tVal b L p = v := by
  cases hn : tNk b L p lo hi with
  | false => rw [hn] at hv; exact absurd hv.symm h
  | true => rw [if_pos hn] at hv; exact ⟨rfl, hv⟩
theorem gRz.sub (h : gRz z μ ν) (g : ∀ c j, ¬ (c = 63 ∧ 8 ≤ j ∧ j ≤ 12) → ¬ (z = true ∧ (c = 64 ∧ j < 179 ∨ c = 69)) → mrd ξ c j = mrd ν c j) (g2 : ∀ c j, mrL ξ c j = mrL ν c j) : gRz z μ ξ := ⟨fun c j a b => (g c j a b).trans (h.1 c j a b), fun c j => (g2 c j).trans (h.2 c j)⟩
theorem RI.w1 (h : RI true μ ν 0 aS0) : RI true μ (mwr (mZr ν 179) 64 10 v0) 1 (aStep 1 v0 v1 v2 aS0) := by
  obtain ⟨h1, h2, h3, h4, h5, h6, h7⟩ := h
  refine ⟨h1.sub (fun c j a b => ?_) (fun c j => rfl), ?_, ?_, ?_, Nat.zero_le _, Nat.zero_le _, fun _ _ => ?_⟩
  · rw [mrd_wr, if_neg (fun z => b ⟨rfl, Or.inl ⟨z.1, by omega⟩⟩), mrd_Zr, if_neg (fun z => b ⟨rfl, Or.inl z⟩)]
  · rw [mrd_wr, if_neg (by omega), mrd_Zr, if_neg (by omega), h2]; rfl
  · rw [mrd_wr, if_neg (by omega), mrd_Zr, if_neg (by omega), h3]; rfl
  · rw [mrd_wr, if_neg (by omega), mrd_Zr, if_neg (by omega), h4]
  · have e : ∀ j, j < 179 → ¬ j = 10 → mrd (mwr (mZr ν 179) 64 10 v0) 64 j = 0 := fun j h1 h2 => by rw [mrd_wr, if_neg (by omega), mrd_Zr, if_pos ⟨rfl, h1⟩]
    exact ⟨⟨e 11 (by omega) (by omega), Nat.zero_le _, e 26 (by omega) (by omega), Nat.zero_le _⟩, by rw [mrd_wr, if_pos ⟨rfl, rfl⟩], e 7 (by omega) (by omega), e 9 (by omega) (by omega), e 8 (by omega) (by omega), ⟨fun k hk => absurd hk (Nat.not_lt_zero _), fun k hk => absurd hk (Nat.not_lt_zero _)⟩, e 35 (by omega) (by omega), e 48 (by omega) (by omega), e 73 (by omega) (by omega)⟩
theorem RI.f1 (h : RI false μ ν i S) : RI false μ ν (i + 1) (aStep 1 v0 v1 v2 S) := by
  obtain ⟨V, P, A, wd, th, t, n⟩ := S
  obtain ⟨h1, h2, h3, h4, h5, h6, h7⟩ := h
  exact ⟨h1, h2, h3, h4, h5, h6, fun z => by cases z⟩
theorem RI.f4 (h : RI false μ ν i S) : RI false μ ν (i + 1) (aStep 4 v0 v1 v2 S) := by
  obtain ⟨V, P, A, wd, th, t, n⟩ := S
  obtain ⟨h1, h2, h3, h4, h5, h6, h7⟩ := h
  exact ⟨h1, h2, h3, h4, h5, h6, fun z => by cases z⟩
theorem RI.f5 (h : RI false μ ν i S) : RI false μ ν (i + 1) (aStep 5 v0 v1 v2 S) := by
  obtain ⟨V, P, A, wd, th, t, n⟩ := S
  obtain ⟨h1, h2, h3, h4, h5, h6, h7⟩ := h
  exact ⟨h1, h2, h3, h4, h5, h6, fun z => by cases z⟩
theorem RI.f2 (h : RI false μ ν i S) (hP : S.2.1 < 7) : RI false μ (mwr ν 63 10 (nI (S.2.1 + 1))) (i + 1) (aStep 2 v0 v1 v2 S) := by
  obtain ⟨V, P, A, wd, th, t, n⟩ := S
  obtain ⟨h1, h2, h3, h4, h5, h6, h7⟩ := h
  refine ⟨h1.sub (fun c j a b => ?_) (fun c j => rfl), ?_, ?_, ?_, hP, h6, fun z => by cases z⟩
  · rw [mrd_wr, if_neg (by omega)]
  · rw [mrd_wr, if_pos ⟨rfl, rfl⟩]; rfl
  · rw [mrd_wr, if_neg (by omega), h3]; rfl
  · rw [mrd_wr, if_neg (by omega), h4]
theorem RI.f3 (h : RI false μ ν i S) (hA : S.2.2.1 < 4) : RI false μ (mwr ν 63 11 (nI (S.2.2.1 + 1))) (i + 1) (aStep 3 v0 v1 v2 S) := by
  obtain ⟨V, P, A, wd, th, t, n⟩ := S
  obtain ⟨h1, h2, h3, h4, h5, h6, h7⟩ := h
  refine ⟨h1.sub (fun c j a b => ?_) (fun c j => rfl), ?_, ?_, ?_, h5, hA, fun z => by cases z⟩
  · rw [mrd_wr, if_neg (by omega)]
  · rw [mrd_wr, if_neg (by omega), h2]; rfl
  · rw [mrd_wr, if_pos ⟨rfl, rfl⟩]; rfl
  · rw [mrd_wr, if_neg (by omega), h4]
theorem mrd_rOne {P : Nat} {x y a : Int32} {c j : Nat} (h : ¬ (c = 64 ∧ (j = 12 + P ∨ j = 19 + P ∨ j = P ∨ j = 11 ∨ j = 98))) : mrd (rOne ν P x y a) c j = mrd ν c j := by
  unfold rOne
  rw [mrd_wr, if_neg (by omega), mrd_wr, if_neg (by omega), mrd_wr, if_neg (by omega), mrd_wr, if_neg (by omega), mrd_wr, if_neg (by omega)]
theorem mrd_rAunt {A : Nat} {x y : Int32} {c j : Nat} (h : ¬ (c = 64 ∧ (j = 27 + A ∨ j = 31 + A ∨ j = 7 ∨ j = 26 ∨ j = 98))) : mrd (rAunt ν A x y) c j = mrd ν c j := by
  unfold rAunt
  rw [mrd_wr, if_neg (by omega), mrd_wr, if_neg (by omega), mrd_wr, if_neg (by omega), mrd_wr, if_neg (by omega), mrd_wr, if_neg (by omega)]
theorem RR.w2 (h : RR ν S) (hP : S.2.1 < 7) : RR (rOne ν S.2.1 v0 v1 v2) (aStep 2 v0 v1 v2 S) := by
  obtain ⟨V, P, A, wd, th, t, n⟩ := S
  obtain ⟨⟨m1, m2, m3, m4⟩, h1, h2, h3, h4, hV, h5, h6, h7⟩ := h
  have hP' : P < 7 := hP
  show RR (rOne ν P v0 v1 v2) (aV (aV (aV V 0 P v0) 1 P v1) 2 P v2, P + 1, A, wd, th, t, n)
  refine ⟨⟨?_, hP', by rw [mrd_rOne (by omega), m3], m4⟩, by rw [mrd_rOne (by omega), h1], by rw [mrd_rOne (by omega), h2], by rw [mrd_rOne (by omega), h3], by rw [mrd_rOne (by omega), h4], ⟨fun k hk => ?_, fun k hk => ?_⟩, by rw [mrd_rOne (by omega), h5], by rw [mrd_rOne (by omega), h6], by rw [mrd_rOne (by omega), h7]⟩
  · unfold rOne
    rw [mrd_wr, if_neg (by omega), mrd_wr, if_pos ⟨rfl, rfl⟩]
  · by_cases e : k = P
    · subst e
      have e1 : ¬ 19 + k = 12 + k := by omega
      have e2 : ¬ 0 + k = 12 + k := by omega
      refine ⟨?_, ?_, ?_⟩
      · simp only [rV, if_pos, aV]
        unfold rOne
        rw [mrd_wr, if_neg (by omega), mrd_wr, if_neg (by omega), mrd_wr, if_neg (by omega), mrd_wr, if_neg (by omega), mrd_wr, if_pos ⟨rfl, rfl⟩]
        simp
      · simp only [rV, aV]
        unfold rOne
        simp
        rw [mrd_wr, if_neg (by omega), mrd_wr, if_neg (by omega), mrd_wr, if_neg (by omega), mrd_wr, if_pos ⟨rfl, rfl⟩]
      · simp only [rV, aV]
        unfold rOne
        simp
        rw [mrd_wr, if_neg (by omega), mrd_wr, if_neg (by omega), mrd_wr, if_pos ⟨rfl, rfl⟩]
    · obtain ⟨a1, a2, a3⟩ := hV.1 k (by omega)
      refine ⟨?_, ?_, ?_⟩
      · have q : rV (rOne ν P v0 v1 v2) 0 0 k = rV ν 0 0 k := mrd_rOne (by omega)
        rw [q, a1]; simp [aV, e]
      · have q : rV (rOne ν P v0 v1 v2) 0 1 k = rV ν 0 1 k := mrd_rOne (by omega)
        rw [q, a2]; simp [aV, e]
      · have q : rV (rOne ν P v0 v1 v2) 0 2 k = rV ν 0 2 k := mrd_rOne (by omega)
        rw [q, a3]; simp [aV, e]
  · obtain ⟨a1, a2⟩ := hV.2 k hk
    refine ⟨?_, ?_⟩
    · have q : rV (rOne ν P v0 v1 v2) 0 3 k = rV ν 0 3 k := mrd_rOne (by omega)
      rw [q, a1]; simp [aV]
    · have q : rV (rOne ν P v0 v1 v2) 0 4 k = rV ν 0 4 k := mrd_rOne (by omega)
      rw [q, a2]; simp [aV]
theorem RR.w3 (h : RR ν S) (hA : S.2.2.1 < 4) : RR (rAunt ν S.2.2.1 v0 v1) (aStep 3 v0 v1 v2 S) := by
  obtain ⟨V, P, A, wd, th, t, n⟩ := S
  obtain ⟨⟨m1, m2, m3, m4⟩, h1, h2, h3, h4, hV, h5, h6, h7⟩ := h
  have hA' : A < 4 := hA
  show RR (rAunt ν A v0 v1) (aV (aV V 3 A v0) 4 A v1, P, A + 1, wd, th ||| ((1 : Int32) <<< (nI A &&& 31)), t, n)
  refine ⟨⟨by rw [mrd_rAunt (by omega), m1], m2, ?_, hA'⟩, by rw [mrd_rAunt (by omega), h1], ?_, by rw [mrd_rAunt (by omega), h3], by rw [mrd_rAunt (by omega), h4], ⟨fun k hk => ?_, fun k hk => ?_⟩, by rw [mrd_rAunt (by omega), h5], by rw [mrd_rAunt (by omega), h6], by rw [mrd_rAunt (by omega), h7]⟩
  · unfold rAunt
    rw [mrd_wr, if_neg (by omega), mrd_wr, if_pos ⟨rfl, rfl⟩]
  · unfold rAunt
    rw [mrd_wr, if_neg (by omega), mrd_wr, if_neg (by omega), mrd_wr, if_pos ⟨rfl, rfl⟩, h2]
  · obtain ⟨a1, a2, a3⟩ := hV.1 k hk
    refine ⟨?_, ?_, ?_⟩
    · have q : rV (rAunt ν A v0 v1) 0 0 k = rV ν 0 0 k := mrd_rAunt (by omega)
      rw [q, a1]; simp [aV]
    · have q : rV (rAunt ν A v0 v1) 0 1 k = rV ν 0 1 k := mrd_rAunt (by omega)
      rw [q, a2]; simp [aV]
    · have q : rV (rAunt ν A v0 v1) 0 2 k = rV ν 0 2 k := mrd_rAunt (by omega)
      rw [q, a3]; simp [aV]
  · by_cases e : k = A
    · subst e
      refine ⟨?_, ?_⟩
      · simp only [rV, aV]
        unfold rAunt
        simp
        rw [mrd_wr, if_neg (by omega), mrd_wr, if_neg (by omega), mrd_wr, if_neg (by omega), mrd_wr, if_neg (by omega), mrd_wr, if_pos ⟨rfl, rfl⟩]
      · simp only [rV, aV]
        unfold rAunt
        simp
        rw [mrd_wr, if_neg (by omega), mrd_wr, if_neg (by omega), mrd_wr, if_neg (by omega), mrd_wr, if_pos ⟨rfl, rfl⟩]
    · obtain ⟨a1, a2⟩ := hV.2 k (by omega)
      refine ⟨?_, ?_⟩
      · have q : rV (rAunt ν A v0 v1) 0 3 k = rV ν 0 3 k := mrd_rAunt (by omega)
        rw [q, a1]; simp [aV, e]
      · have q : rV (rAunt ν A v0 v1) 0 4 k = rV ν 0 4 k := mrd_rAunt (by omega)
        rw [q, a2]; simp [aV, e]
theorem RR.w63 {x : Int32} (h : RR ν S) : RR (mwr ν 63 k x) S := by
  obtain ⟨V, P, A, wd, th, t, n⟩ := S
  obtain ⟨⟨m1, m2, m3, m4⟩, h1, h2, h3, h4, hV, h5, h6, h7⟩ := h
  have e : ∀ j, mrd (mwr ν 63 k x) 64 j = mrd ν 64 j := fun j => by rw [mrd_wr, if_neg (by omega)]
  have eV : rV (mwr ν 63 k x) 0 = rV ν 0 := by funext f k; simp only [rV, e]
  exact ⟨⟨by rw [e, m1], m2, by rw [e, m3], m4⟩, by rw [e, h1], by rw [e, h2], by rw [e, h3], by rw [e, h4], by rw [eV]; exact hV, by rw [e, h5], by rw [e, h6], by rw [e, h7]⟩
theorem RI.w2 (h : RI true μ ν i S) (hi : 0 < i) (hP : S.2.1 < 7) : RI true μ (rOne (mwr ν 63 10 (nI (S.2.1 + 1))) S.2.1 v0 v1 v2) (i + 1) (aStep 2 v0 v1 v2 S) := by
  have r := ((h.2.2.2.2.2.2 rfl hi).w63 (k := 10) (x := nI (S.2.1 + 1))).w2 (v0 := v0) (v1 := v1) (v2 := v2) hP
  obtain ⟨V, P, A, wd, th, t, n⟩ := S
  obtain ⟨h1, h2, h3, h4, h5, h6, h7⟩ := h
  have hP' : P < 7 := hP
  refine ⟨h1.sub (fun c j a b => ?_) (fun c j => rfl), ?_, ?_, ?_, hP, h6, fun _ _ => r⟩
  · rw [mrd_rOne (fun z => b ⟨rfl, Or.inl ⟨z.1, by have := z.2; have : P < 7 := hP'; show j < 179; simp only at *; omega⟩⟩), mrd_wr, if_neg (by omega)]
  · rw [mrd_rOne (by omega), mrd_wr, if_pos ⟨rfl, rfl⟩]; rfl
  · rw [mrd_rOne (by omega), mrd_wr, if_neg (by omega), h3]; rfl
  · rw [mrd_rOne (by omega), mrd_wr, if_neg (by omega), h4]
theorem RI.w3 (h : RI true μ ν i S) (hi : 0 < i) (hA : S.2.2.1 < 4) : RI true μ (rAunt (mwr ν 63 11 (nI (S.2.2.1 + 1))) S.2.2.1 v0 v1) (i + 1) (aStep 3 v0 v1 v2 S) := by
  have r := ((h.2.2.2.2.2.2 rfl hi).w63 (k := 11) (x := nI (S.2.2.1 + 1))).w3 (v0 := v0) (v1 := v1) (v2 := v2) hA
  obtain ⟨V, P, A, wd, th, t, n⟩ := S
  obtain ⟨h1, h2, h3, h4, h5, h6, h7⟩ := h
  have hA' : A < 4 := hA
  refine ⟨h1.sub (fun c j a b => ?_) (fun c j => rfl), ?_, ?_, ?_, h5, hA, fun _ _ => r⟩
  · rw [mrd_rAunt (fun z => b ⟨rfl, Or.inl ⟨z.1, by have := z.2; simp only at *; omega⟩⟩), mrd_wr, if_neg (by omega)]
  · rw [mrd_rAunt (by omega), mrd_wr, if_neg (by omega), h2]; rfl
  · rw [mrd_rAunt (by omega), mrd_wr, if_pos ⟨rfl, rfl⟩]; rfl
  · rw [mrd_rAunt (by omega), mrd_wr, if_neg (by omega), h4]
theorem RI.w4 (h : RI true μ ν i S) (hi : 0 < i) : RI true μ (mwr ν 64 7 (mrd ν 64 7 &&& (((1 : Int32) <<< (v0 &&& 31)) ^^^ (-1)))) (i + 1) (aStep 4 v0 v1 v2 S) := by
  have r := h.2.2.2.2.2.2 rfl hi
  obtain ⟨V, P, A, wd, th, t, n⟩ := S
  obtain ⟨h1, h2, h3, h4, h5, h6, h7⟩ := h
  obtain ⟨⟨m1, m2, m3, m4⟩, r1, r2, r3, r4, hV, r5, r6, r7⟩ := r
  refine ⟨h1.sub (fun c j a b => ?_) (fun c j => rfl), ?_, ?_, ?_, h5, h6, fun _ _ => ?_⟩
  · rw [mrd_wr, if_neg (fun z => b ⟨rfl, Or.inl ⟨z.1, by omega⟩⟩)]
  · rw [mrd_wr, if_neg (by omega), h2]; rfl
  · rw [mrd_wr, if_neg (by omega), h3]; rfl
  · rw [mrd_wr, if_neg (by omega), h4]
  · generalize hx : mrd ν 64 7 &&& (((1 : Int32) <<< (v0 &&& 31)) ^^^ (-1)) = x
    have e : ∀ j, ¬ j = 7 → mrd (mwr ν 64 7 x) 64 j = mrd ν 64 j := fun j hj => by rw [mrd_wr, if_neg (by omega)]
    show RR (mwr ν 64 7 x) (V, P, A, wd, th &&& (((1 : Int32) <<< (v0 &&& 31)) ^^^ (-1)), t, n)
    refine ⟨⟨by rw [e _ (by omega), m1], m2, by rw [e _ (by omega), m3], m4⟩, by rw [e _ (by omega), r1], by rw [mrd_wr, if_pos ⟨rfl, rfl⟩, ← hx, r2], by rw [e _ (by omega), r3], by rw [e _ (by omega), r4], ⟨fun k hk => ?_, fun k hk => ?_⟩, by rw [e _ (by omega), r5], by rw [e _ (by omega), r6], by rw [e _ (by omega), r7]⟩
    · have q := hV.1 k hk
      have hk7 : k < 7 := by omega
      simp only [rV] at q ⊢
      simpa [e (12 + k) (by omega), e (19 + k) (by omega), e (0 + k) (by omega), e k (by omega)] using q
    · have q := hV.2 k hk
      simp only [rV] at q ⊢
      simpa [e (27 + k) (by omega), e (31 + k) (by omega)] using q
theorem RI.w5 {m : Nat} (h : RI true μ ν i S) (hi : 0 < i) (hm : v0 = nI m) (hm2 : m < 2 ^ 31) {x y : Int32} (hxy : (x, y) = mPass (vSnd S.1 S.2.2.2.2.1 S.2.2.1 S.2.2.2.1 S.2.1) 9999 m (S.2.2.2.2.2.2, S.2.2.2.2.2.1)) (g : gL9 (mwr (mwr ν 64 8 x) 64 9 y) ξ) : RI true μ ξ (i + 1) (aStep 5 v0 v1 v2 S) := by
  have r := h.2.2.2.2.2.2 rfl hi
  obtain ⟨V, P, A, wd, th, t, n⟩ := S
  obtain ⟨h1, h2, h3, h4, h5, h6, h7⟩ := h
  obtain ⟨⟨m1, m2, m3, m4⟩, r1, r2, r3, r4, hV, r5, r6, r7⟩ := r
  subst hm
  refine ⟨h1.sub (fun c j a b => ?_) (fun c j => ?_), ?_, ?_, ?_, h5, h6, fun _ _ => ?_⟩
  · rw [g.1 c j (fun z => b ⟨rfl, Or.inr z⟩), mrd_wr, if_neg (fun z => b ⟨rfl, Or.inl ⟨z.1, by omega⟩⟩), mrd_wr, if_neg (fun z => b ⟨rfl, Or.inl ⟨z.1, by omega⟩⟩)]
  · rw [g.2]; rfl
  · rw [g.1 _ _ (by omega), mrd_wr, if_neg (by omega), mrd_wr, if_neg (by omega), h2]; rfl
  · rw [g.1 _ _ (by omega), mrd_wr, if_neg (by omega), mrd_wr, if_neg (by omega), h3]; rfl
  · rw [g.1 _ _ (by omega), mrd_wr, if_neg (by omega), mrd_wr, if_neg (by omega), h4]
  · have e : ∀ j, ¬ j = 8 → ¬ j = 9 → mrd ξ 64 j = mrd ν 64 j := fun j h1 h2 => by rw [g.row, mrd_wr, if_neg (by omega), mrd_wr, if_neg (by omega)]
    have e8 : mrd ξ 64 8 = x := by rw [g.row, mrd_wr, if_neg (by omega), mrd_wr, if_pos ⟨rfl, rfl⟩]
    have e9 : mrd ξ 64 9 = y := by rw [g.row, mrd_wr, if_pos ⟨rfl, rfl⟩]
    show RR ξ (V, P, A, wd, th, (mPass (vSnd V th A wd P) 9999 (nI m).toNatClampNeg (n, t)).2, (mPass (vSnd V th A wd P) 9999 (nI m).toNatClampNeg (n, t)).1)
    rw [nI_clamp hm2]
    have hxy' : (x, y) = mPass (vSnd V th A wd P) 9999 m (n, t) := hxy
    rw [← hxy']
    refine ⟨⟨by rw [e _ (by omega) (by omega), m1], m2, by rw [e _ (by omega) (by omega), m3], m4⟩, by rw [e _ (by omega) (by omega), r1], by rw [e _ (by omega) (by omega), r2], e9, e8, ⟨fun k hk => ?_, fun k hk => ?_⟩, by rw [e _ (by omega) (by omega), r5], by rw [e _ (by omega) (by omega), r6], by rw [e _ (by omega) (by omega), r7]⟩
    · have q := hV.1 k hk
      have hk7 : k < 7 := by omega
      simp only [rV] at q ⊢
      simpa [e (12 + k) (by omega) (by omega), e (19 + k) (by omega) (by omega), e (0 + k) (by omega) (by omega), e k (by omega) (by omega)] using q
    · have q := hV.2 k hk
      simp only [rV] at q ⊢
      simpa [e (27 + k) (by omega) (by omega), e (31 + k) (by omega) (by omega)] using q
end S49
