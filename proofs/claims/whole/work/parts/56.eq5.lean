/-! OTHER ANSWERS TOLD TWICE -/
theorem mPass_then {snd : Int32 → Int32} {ok : Int32 → Bool} {x : Int32} {t n : Nat} (hok : ∀ t, ok t = true) (ht : t + n < 2 ^ 31) : ∀ k, k ≤ n → mPass snd (nI t + nI n) k (x, nI t) = mPg snd ok k (x, nI t) ∧ (mPg snd ok k (x, nI t)).2 = nI (t + k) := by
  intro k
  induction k with
  | zero => intro _; exact ⟨rfl, rfl⟩
  | succ k ih =>
    intro hk
    obtain ⟨e1, e2⟩ := ih (by omega)
    rw [mPass, mPg, e1, if_pos (hok _), e2, if_pos (by rw [nI_add]; exact nI_lt (by omega) (by omega))]
    exact ⟨rfl, nI_1 _⟩
theorem mBst_r {g g' : Nat → Int32} (h28 : g 0 < 28) (h99 : g 0 < 99) : ∀ n, 1 ≤ n → (∀ c, c < n → g c = g' c) → mBst g n = rBst g' n := by
  intro n
  induction n with
  | zero => intro h; omega
  | succ n ih =>
    intro _ hg
    by_cases e : n = 0
    · subst e
      have e1 : mBst g 1 = (nI 0, g 0) := if_pos h28
      have e2 : rBst g' 1 = (nI 0, g' 0) := if_pos (by show g' 0 < 99; rw [← hg 0 (by omega)]; exact h99)
      rw [e1, e2, hg 0 (by omega)]
    · rw [mBst, rBst, ih (by omega) (fun c hc => hg c (by omega)), hg n (by omega)]
theorem mFew_B {g : Nat → Nat} {an : Nat → Nat} {B B' : Nat} (h : g 0 < B) (h' : g 0 < B') : ∀ n, 1 ≤ n → mFew g an B n = mFew g an B' n := by
  intro n
  induction n with
  | zero => intro h; omega
  | succ n ih =>
    intro _
    by_cases e : n = 0
    · subst e
      have e1 : mFew g an B 1 = (nI (an 0), g 0) := if_pos h
      have e2 : mFew g an B' 1 = (nI (an 0), g 0) := if_pos h'
      rw [e1, e2]
    · rw [mFew, mFew, ih (by omega)]
/-- lanes that fit lie side by side -/
theorem fitI (R : Nat → Nat) (s : Nat → Bool) : ∀ T, ∃ a b, a ≤ 27 ∧ b ≤ 27 ∧ ∀ k, k < 27 → mAll (fun q => decide (4 + k ≤ R q) == s q) T = decide (a ≤ k ∧ k < b) := by
  intro T
  induction T with
  | zero => exact ⟨0, 27, by omega, by omega, fun k hk => by rw [mAll, decide_eq_true (⟨Nat.zero_le _, hk⟩ : 0 ≤ k ∧ k < 27)]⟩
  | succ T ih =>
    obtain ⟨a, b, ha, hb, h⟩ := ih
    cases hs : s T with
    | true =>
      refine ⟨a, min b (R T - 3), ha, by omega, fun k hk => ?_⟩
      rw [mAll, h k hk, hs, Bool.eq_iff_iff]
      simp only [Bool.and_eq_true, decide_eq_true_eq, beq_iff_eq]
      omega
    | false =>
      refine ⟨max a (min 27 (R T - 3)), b, by omega, hb, fun k hk => ?_⟩
      rw [mAll, h k hk, hs, Bool.eq_iff_iff]
      simp only [Bool.and_eq_true, decide_eq_true_eq, beq_iff_eq, decide_eq_false_iff_not]
      omega
def iv (a b : Nat) : Nat → Bool := fun k => decide (a ≤ k ∧ k < b)
theorem iv_Bc : ∀ a, a < 28 → ∀ b, b < 28 → mBc (mBits (iv a b) 27) = nI (b - a) := by decide +kernel
theorem iv_Cnt : ∀ a, a < 28 → ∀ b, b < 28 → mCnt (mBits (iv a b) 27) = nI (b - a) := by decide +kernel
theorem iv_Sum : ∀ a, a < 28 → ∀ b, b < 28 → mSum (fun k => if iv a b k = true then 1 else 0) 27 = nI (b - a) := by decide +kernel
theorem mUp_v : ∀ R, R < 27 → mUp (nI R) = nI (2 ^ (R - 3) - 1) := by decide +kernel
theorem iv_up {a b R : Nat} (hR : R < 27) : mBits (iv a b) 27 &&& mUp (nI R) = mBits (iv a (min b (R - 3))) 27 := by
  obtain ⟨s, e, hs, hb⟩ := mBits_v (f := iv a b) 27 (by omega)
  obtain ⟨s', e', hs', hb'⟩ := mBits_v (f := iv a (min b (R - 3))) 27 (by omega)
  rw [e, e', mUp_v R hR, nI_and]
  congr 1
  apply Nat.eq_of_testBit_eq
  intro k
  rw [Nat.testBit_and, hb, hb', Nat.testBit_two_pow_sub_one, Bool.eq_iff_iff]
  unfold iv
  simp only [Bool.and_eq_true, decide_eq_true_eq]
  omega
theorem hear_g {a b R : Nat} (ha : a ≤ 27) (hb : b ≤ 27) (hR : R < 27) {h : Nat → Bool} (hh : ∀ k, k < 27 → h k = (mHas (mBits (iv a b) 27) (nI k) && decide (4 + k ≤ R))) : ∃ v, v ≤ 27 ∧ mHg (nI R) (mBits (iv a b) 27) = nI v ∧ rPt (mBits (iv a b) 27) h = nI v := by
  have eh : mSum (fun k => if h k = true then 1 else 0) 27 = nI (min b (R - 3) - a) := by
    rw [← iv_Sum a (by omega) (min b (R - 3)) (by omega)]
    refine mSum_c (fun k hk => ?_)
    have : h k = iv a (min b (R - 3)) k := by
      rw [hh k hk, mBits_has (by omega) (by omega), Bool.eq_iff_iff]
      unfold iv
      simp only [Bool.and_eq_true, decide_eq_true_eq]
      omega
    rw [this]
  unfold mHg rPt
  rw [eh, iv_up hR, iv_Bc a (by omega) b (by omega), iv_Bc a (by omega) _ (by omega), iv_Cnt a (by omega) b (by omega), pk_sub (by omega)]
  unfold mMax
  by_cases c1 : min b (R - 3) - a < b - a - (min b (R - 3) - a)
  · refine ⟨b - a - (min b (R - 3) - a), by omega, if_pos (nI_lt c1 (by omega)), if_neg (nI_nlt (by omega) (by omega))⟩
  · rw [if_neg (nI_nlt (by omega) (by omega))]
    refine ⟨min b (R - 3) - a, by omega, rfl, ?_⟩
    by_cases c2 : b - a - (min b (R - 3) - a) < min b (R - 3) - a
    · exact if_pos (nI_lt c2 (by omega))
    · rw [if_neg (nI_nlt (by omega) (by omega))]
      congr 1
      omega
/-- the game's answer is one -/
theorem mAll_c {f f' : Nat → Bool} : ∀ n, (∀ k, k < n → f k = f' k) → mAll f n = mAll f' n := by
  intro n
  induction n with
  | zero => intro _; rfl
  | succ n ih => intro h; rw [mAll, mAll, ih (fun k hk => h k (by omega)), h n (by omega)]
theorem gRs_c {g g' : Nat → Int32} (h : ∀ q, q < 20 → g q = g' q) {q : Nat} (hq : q < 20) : gRs g q = gRs g' q := by
  have eS : ∀ q, q < 20 → gSw g q = gSw g' q := fun q hq => by unfold gSw; rw [h q hq]
  have eA : ∀ q, q < 20 → gAu g q = gAu g' q := fun q hq => by unfold gAu; rw [h q hq]
  have e1 := mAll_c (f := fun a => decide (gSw g (q - q % 10 + a) ≤ gSw g q)) (f' := fun a => decide (gSw g' (q - q % 10 + a) ≤ gSw g' q)) 10 (fun a ha => by rw [eS q hq, eS (q - q % 10 + a) (by omega)])
  have e2 := eA ((q + 10) % 20) (by omega)
  unfold gRs
  rw [e1, e2, eA q hq]
theorem mCt_c {f f' : Nat → Bool} : ∀ n, (∀ k, k < n → f k = f' k) → mCt f n = mCt f' n := by
  intro n
  induction n with
  | zero => intro _; rfl
  | succ n ih => intro h; rw [mCt, mCt, ih (fun k hk => h k (by omega)), h n (by omega)]
theorem gGm_u {G G' : Nat → Int32} {k r r' : Int32} (hG : ∀ q, q < 20 → G q = G' q) (h : gGm G k r) (h' : gGm G' k r') : r = r' := by
  have e : ∀ q, q < 20 → gRs G q = gRs G' q := fun q hq => gRs_c hG hq
  have ec : ∀ n, n ≤ 20 → mCt (gRs G) n = mCt (gRs G') n := fun n hn => mCt_c n (fun q hq => e q (by omega))
  have uq : ∀ q q', q < 20 → q' < 20 → gRs G' q = true → gRs G' q' = true → nI (mCt (gRs G') q) = nI (mCt (gRs G') q') → q = q' := by
    intro q q' h1 h2 h3 h4 h5
    have b1 := mCt_le (gRs G') q
    have b2 := mCt_le (gRs G') q'
    have h6 := (nI_eq (by omega) (by omega)).mp h5
    rcases Nat.lt_trichotomy q q' with l | l | l
    · have := mCt_lt h3 l; omega
    · exact l
    · have := mCt_lt h4 l; omega
  rcases h with ⟨a1, a2⟩ | ⟨a1, a2, a3⟩ | ⟨a1, q, a2, a3, a4, a5⟩
  · rcases h' with ⟨b1, b2⟩ | ⟨b1, -⟩ | ⟨b1, -⟩
    · rw [a2, b2, ec 20 (Nat.le_refl _)]
    · exact absurd a1 b1
    · exact absurd a1 b1
  · rcases h' with ⟨b1, b2⟩ | ⟨b1, b2, b3⟩ | ⟨b1, q', b2, b3, b4, b5⟩
    · exact absurd b1 a1
    · rw [a3, b3]
    · exact absurd (by rw [ec q' (by omega)]; exact b4) (a2 q' b2 (by rw [e q' b2]; exact b3))
  · rcases h' with ⟨b1, b2⟩ | ⟨b1, b2, b3⟩ | ⟨b1, q', b2, b3, b4, b5⟩
    · exact absurd b1 a1
    · exact absurd (by rw [← ec q (by omega)]; exact a4) (b2 q a2 (by rw [← e q a2]; exact a3))
    · rw [a5, b5, uq q q' a2 b2 (by rw [← e q a2]; exact a3) b3 (by rw [← ec q (by omega), a4, b4])]
/-! chances -/
theorem rWy_v : ∀ T, T < 16 → ∀ o, o < 11 → ∀ a, a < 16 → rWy T (nI o) a 4 = (if mSb a T = true then mPow (nI o).toInt64 (pcN a) * mPow (10 - nI o).toInt64 (pcN (mSty T a)) else 0) ∧ 0 ≤ rWy T (nI o) a 4 ∧ rWy T (nI o) a 4 ≤ 10000 := by decide +kernel
theorem rWy_s : ∀ T, T < 16 → ∀ o, o < 11 → mSumL (fun a => rWy T (nI o) a 4) 16 = mPow 10 (pcN T) ∧ mPow 10 (pcN T) = lN (10 ^ pcN T) ∧ 10 ^ pcN T ≤ 10000 ∧ 1 ≤ 10 ^ pcN T := by decide +kernel
theorem mSumL_v {f : Nat → Int64} {B : Nat} (hB : B < 2 ^ 40) : ∀ n, n ≤ 16 → (∀ j, j < n → ∃ m, m ≤ B ∧ f j = lN m) → ∃ s, s ≤ n * B ∧ mSumL f n = lN s := by
  intro n
  induction n with
  | zero => exact fun _ _ => ⟨0, by omega, rfl⟩
  | succ n ih =>
    intro hn h
    obtain ⟨s, h1, h2⟩ := ih (by omega) (fun j hj => h j (by omega))
    obtain ⟨m, m1, m2⟩ := h n (by omega)
    refine ⟨s + m, by rw [Nat.succ_mul]; omega, ?_⟩
    rw [mSumL, h2, m2]
    exact (Int64.ofNat_add s m).symm
theorem gcd_v : ∀ k a b, a < 2 ^ 62 → b < 2 ^ k → k ≤ 62 → 0 < a + b → gEnd (2 * k) (lN a) (lN b) = true ∧ ∃ d, 0 < d ∧ d < 2 ^ 62 ∧ mGcd (2 * k) (lN a) (lN b) = lN d := by
  intro k
  induction k with
  | zero =>
    intro a b ha hb _ h0
    have e : b = 0 := by simpa using hb
    subst e
    exact ⟨rfl, a, by omega, ha, rfl⟩
  | succ k ih =>
    intro a b ha hb hk h0
    have p2 : 2 ^ (k + 1) ≤ 2 ^ 62 := Nat.pow_le_pow_right (by omega) hk
    have e2 : 2 * (k + 1) = 2 * k + 1 + 1 := by omega
    rw [e2]
    by_cases b0 : b = 0
    · subst b0
      refine ⟨?_, a, by omega, ha, ?_⟩
      · rw [gEnd, decide_eq_true (show lN 0 = 0 from rfl)]; rfl
      · rw [mGcd, if_pos (show lN 0 = 0 from rfl)]
    · have nb0 : ¬ lN b = 0 := fun z => b0 ((pk_lEQ (b := 0) (by omega) (by omega)).mp z)
      have r1 := Nat.mod_lt a (show 0 < b by omega)
      rw [gEnd, mGcd, if_neg nb0, decide_eq_false nb0, Bool.false_or, pk_lRem (by omega) (by omega) (by omega)]
      by_cases r0 : a % b = 0
      · rw [r0]
        refine ⟨?_, b, by omega, by omega, ?_⟩
        · rw [gEnd, decide_eq_true (show lN 0 = 0 from rfl)]; rfl
        · rw [mGcd, if_pos (show lN 0 = 0 from rfl)]
      · have nr0 : ¬ lN (a % b) = 0 := fun z => r0 ((pk_lEQ (b := 0) (by omega) (by omega)).mp z)
        rw [gEnd, mGcd, if_neg nr0, decide_eq_false nr0, Bool.false_or, pk_lRem (by omega) (by omega) (by omega)]
        have r2 := Nat.mod_lt b (show 0 < a % b by omega)
        have r3 : a % b + b % (a % b) ≤ b := by
          have := Nat.div_add_mod b (a % b)
          have q1 : 1 ≤ b / (a % b) := Nat.div_pos (by omega) (by omega)
          have : (a % b) * 1 ≤ (a % b) * (b / (a % b)) := Nat.mul_le_mul_left _ q1
          omega
        refine ih (a % b) (b % (a % b)) (by omega) ?_ (by omega) (by omega)
        rw [Nat.pow_succ] at hb
        omega
theorem lN_pos {d : Nat} (h0 : 0 < d) (h : d < 2 ^ 62) : 0 < lN d ∧ ¬ lN d = 0 := ⟨(pk_lLT (a := 0) (by omega) (by omega)).mpr h0, fun z => by have := (pk_lEQ (b := 0) (by omega) (by omega)).mp z; omega⟩
/-- both sums, and their greatest divisor -/
theorem slips_v {f : Nat → Int64} {T o : Nat} (hT : T < 16) (ho : o < 11) (hf : ∀ a, a < 16 → f a = 0 ∨ f a = rWy T (nI o) a 4) : gEnd 100 (mSumL f 16) (mPow 10 (pcN T)) = true ∧ 0 < mGcd 100 (mSumL f 16) (mPow 10 (pcN T)) ∧ ¬ mGcd 100 (mSumL f 16) (mPow 10 (pcN T)) = 0 := by
  obtain ⟨s, h1, h2⟩ := mSumL_v (f := f) (B := 10000) (by omega) 16 (by omega) (fun a ha => by
    rcases hf a ha with e | e
    · exact ⟨0, by omega, e⟩
    · obtain ⟨-, w1, w2⟩ := rWy_v T hT o ho a ha
      have nn : ¬ rWy T (nI o) a 4 < 0 := Int64.not_lt.mpr w1
      obtain ⟨m, m1, m2⟩ := pk_lOf nn
      rw [m2] at w2
      have := (pk_lLE (b := 10000) m1 (by omega)).mp w2
      exact ⟨m, this, by rw [e, m2]⟩)
  obtain ⟨-, d1, d2, d3⟩ := rWy_s T hT o ho
  rw [h2, d1]
  obtain ⟨g1, d, g2, g3, g4⟩ := gcd_v 50 s (10 ^ pcN T) (by omega) (Nat.lt_of_le_of_lt d2 (by decide)) (by omega) (by omega)
  rw [g4]
  exact ⟨g1, lN_pos g2 g3⟩
