/-! WHAT SOUNDS, TOLD TWICE: something sounds just if the reach is as much as the lane is wide -/
/-- a leaning's size -/
def sB (x : Int32) : Prop := ∃ n, n < 27 ∧ x = nI n - 13
theorem sB_0 : sB 0 := ⟨13, by omega, by decide⟩
theorem s27_once : ∀ n, n < 27 → (∃ m, m < 27 ∧ mOnce (nI n - 13) = nI m - 13) ∧ (nI n - 13 ≤ 0 → mOnce (nI n - 13) ≤ 0) := by
  have h : ∀ n, n < 27 → (mOnce (nI n - 13) = nI ((mOnce (nI n - 13) + 13).toNatClampNeg) - 13 ∧ (mOnce (nI n - 13) + 13).toNatClampNeg < 27) ∧ (nI n - 13 ≤ 0 → mOnce (nI n - 13) ≤ 0) := by decide +kernel
  exact fun n hn => ⟨⟨_, (h n hn).1.2, (h n hn).1.1⟩, (h n hn).2⟩
theorem s27_half : ∀ n, n < 27 → (∃ m, m < 27 ∧ (nI n - 13) / 2 = nI m - 13) ∧ (nI n - 13 ≤ 0 → (nI n - 13) / 2 ≤ 0) := by
  have h : ∀ n, n < 27 → ((nI n - 13) / 2 = nI (((nI n - 13) / 2 + 13).toNatClampNeg) - 13 ∧ ((nI n - 13) / 2 + 13).toNatClampNeg < 27) ∧ (nI n - 13 ≤ 0 → (nI n - 13) / 2 ≤ 0) := by decide +kernel
  exact fun n hn => ⟨⟨_, (h n hn).1.2, (h n hn).1.1⟩, (h n hn).2⟩
theorem s27_pos : ∀ n, n < 27 → 0 < nI n - 13 → nI n - 13 = nI (n - 13) ∧ 1 ≤ n - 13 ∧ n - 13 ≤ 13 := by decide +kernel
theorem s19_lean : ∀ m, m < 19 → ((if 0 < nI m - 9 then nI m - 9 + 1 else nI m - 9) = nI (((if 0 < nI m - 9 then nI m - 9 + 1 else nI m - 9) + 13).toNatClampNeg) - 13 ∧ ((if 0 < nI m - 9 then nI m - 9 + 1 else nI m - 9) + 13).toNatClampNeg < 27) ∧ ((nI m - 9) / 2 = nI (((nI m - 9) / 2 + 13).toNatClampNeg) - 13 ∧ ((nI m - 9) / 2 + 13).toNatClampNeg < 27) ∧ (3 * ((nI m - 9) / 2) = nI ((3 * ((nI m - 9) / 2) + 13).toNatClampNeg) - 13 ∧ (3 * ((nI m - 9) / 2) + 13).toNatClampNeg < 27) ∧ (nI m - 9 = nI (m + 4) - 13) := by decide +kernel
theorem s10_p : ∀ j, j < 10 → nI j = nI (j + 9) - 9 ∧ -nI j = nI (9 - j) - 9 := by decide +kernel
theorem sB_once {x : Int32} (h : sB x) : sB (mOnce x) ∧ (x ≤ 0 → mOnce x ≤ 0) := by
  obtain ⟨n, hn, rfl⟩ := h
  exact s27_once n hn
theorem sB_half {x : Int32} (h : sB x) : sB (x / 2) ∧ (x ≤ 0 → x / 2 ≤ 0) := by
  obtain ⟨n, hn, rfl⟩ := h
  exact s27_half n hn
theorem sB_pos {x : Int32} (h : sB x) (h0 : 0 < x) : ∃ a, 1 ≤ a ∧ a ≤ 13 ∧ x = nI a := by
  obtain ⟨n, hn, rfl⟩ := h
  obtain ⟨e, e1, e2⟩ := s27_pos n hn h0
  exact ⟨n - 13, e1, e2, e⟩
theorem sB_damp {k x c : Int32} (h : sB x) : sB (mDamp k x c) ∧ (x ≤ 0 → mDamp k x c ≤ 0) := by
  have h1 := sB_once h
  have h2 := sB_once h1.1
  have h3 := sB_half h
  unfold mDamp
  split
  · split
    · exact h3
    · exact h1
  · split
    · exact ⟨h2.1, fun q => h2.2 (h1.2 q)⟩
    · split
      · split
        · exact h1
        · exact ⟨h, id⟩
      · split
        · split
          · exact ⟨h, id⟩
          · split
            · exact h1
            · exact ⟨h, id⟩
        · split
          · split
            · exact ⟨sB_0, fun _ => by decide⟩
            · exact ⟨h2.1, fun q => h2.2 (h1.2 q)⟩
          · exact h1
theorem sB_dmp {V : Nat → Nat → Int32} {th h c x : Int32} (hx : sB x) : ∀ A, sB (mDmp V th h c A x) ∧ (x ≤ 0 → mDmp V th h c A x ≤ 0) := by
  intro A
  induction A with
  | zero => exact ⟨hx, id⟩
  | succ A ih =>
    rw [mDmp]
    split
    · have q := sB_damp (k := V 3 A) (c := c) ih.1
      exact ⟨q.1, fun z => q.2 (ih.2 z)⟩
    · exact ih
theorem sB_plain {a c : Int32} {j : Nat} (hj : j ≤ 9) (ha : a = nI j) : ∃ m, m < 19 ∧ mPlain a c = nI m - 9 := by
  subst ha
  obtain ⟨e1, e2⟩ := s10_p j (by omega)
  unfold mPlain
  split
  · exact ⟨j + 9, by omega, e1⟩
  · split
    · exact ⟨9 - j, by omega, e2⟩
    · exact ⟨9, by omega, by decide⟩
theorem sB_lean {k a c : Int32} {j : Nat} (hj : j ≤ 9) (ha : a = nI j) : sB (mLean k a c) := by
  obtain ⟨m, hm, e⟩ := sB_plain (c := c) hj ha
  obtain ⟨m', hm', e'⟩ := sB_plain (c := c + 1) hj ha
  obtain ⟨f1, f2, f3, f4⟩ := s19_lean m hm
  obtain ⟨f1', -, -, -⟩ := s19_lean m' hm'
  unfold mLean
  rw [e, e']
  split
  · exact ⟨_, f1.2, f1.1⟩
  · split
    · exact ⟨_, f2.2, f2.1⟩
    · split
      · split
        · exact sB_0
        · exact ⟨m + 4, by omega, f4⟩
      · split
        · exact ⟨_, f1'.2, f1'.1⟩
        · split
          · exact ⟨_, f3.2, f3.1⟩
          · exact ⟨m + 4, by omega, f4⟩
/-- people whose houses and swings are as told -/
def VW (V : Nat → Nat → Int32) (P : Nat) : Prop := P ≤ 7 ∧ ∀ k, k < P → (V 1 k = 0 ∨ V 1 k = 1) ∧ ∃ a, a ≤ 9 ∧ V 2 k = nI a
theorem sB_lng {V : Nat → Nat → Int32} {P A k : Nat} {th c : Int32} (h : VW V P) (hk : k < P) : sB (mLng V th A k c) ∧ (mLean (V 0 k) (V 2 k) c ≤ 0 → mLng V th A k c ≤ 0) := by
  obtain ⟨a, ha, e⟩ := (h.2 k hk).2
  exact sB_dmp (sB_lean ha e) A
def sPr (h X : Nat → Int32) (W P : Nat) : Prop := ∃ i j a b, i < P ∧ j < P ∧ h i = 0 ∧ h j = 1 ∧ X i = nI a ∧ X j = nI b ∧ 1 ≤ a ∧ a ≤ 13 ∧ 1 ≤ b ∧ b ≤ 13 ∧ W ≤ a + b
theorem mPair_v {h X : Nat → Int32} {W i j : Nat} (hi : sB (X i)) (hj : sB (X j)) (h4 : 4 ≤ W) (h30 : W ≤ 30) : ∃ m, m ≤ 23 ∧ mPair h X (nI W) i j = nI m ∧ (0 < m ↔ ∃ a b, h i = 0 ∧ h j = 1 ∧ X i = nI a ∧ X j = nI b ∧ 1 ≤ a ∧ a ≤ 13 ∧ 1 ≤ b ∧ b ≤ 13 ∧ W ≤ a + b) := by
  unfold mPair
  by_cases c : h i = 0 ∧ h j = 1 ∧ 0 < X i ∧ 0 < X j ∧ nI W ≤ X i + X j
  · obtain ⟨c1, c2, c3, c4, c5⟩ := id c
    obtain ⟨a, a1, a2, ea⟩ := sB_pos hi c3
    obtain ⟨b, b1, b2, eb⟩ := sB_pos hj c4
    rw [if_pos c]
    rw [ea, eb, nI_add] at c5 ⊢
    have c6 := nle c5 (by omega) (by omega)
    rw [pk_sub c6, nI_1]
    exact ⟨a + b - W + 1, by omega, rfl, fun _ => ⟨a, b, c1, c2, rfl, rfl, a1, a2, b1, b2, c6⟩, fun _ => by omega⟩
  · rw [if_neg c]
    refine ⟨0, by omega, rfl, fun z => absurd z (Nat.lt_irrefl 0), ?_⟩
    rintro ⟨a, b, c1, c2, ea, eb, a1, a2, b1, b2, c6⟩
    refine absurd ⟨c1, c2, ?_, ?_, ?_⟩ c
    · rw [ea]; exact nI_lt (a := 0) (by omega) (by omega)
    · rw [eb]; exact nI_lt (a := 0) (by omega) (by omega)
    · rw [ea, eb, nI_add]; exact nI_le c6 (by omega)
theorem nI_z {m : Nat} (h : m < 2 ^ 31) : nI m = 0 ↔ m = 0 := nI_eq (b := 0) h (by omega)
theorem mSum_v {f : Nat → Int32} {B : Nat} (hB : B < 2 ^ 31) : ∀ n, (∀ j, j < n → ∃ m, m ≤ B ∧ f j = nI m) → ∃ s, s ≤ n * B ∧ mSum f n = nI s ∧ (0 < s ↔ ∃ j, j < n ∧ ¬ f j = 0) := by
  intro n
  induction n with
  | zero => exact fun _ => ⟨0, by omega, rfl, fun z => absurd z (Nat.lt_irrefl 0), fun ⟨j, hj, _⟩ => absurd hj (Nat.not_lt_zero _)⟩
  | succ n ih =>
    intro h
    obtain ⟨s, h1, h2, h3⟩ := ih (fun j hj => h j (by omega))
    obtain ⟨m, m1, m2⟩ := h n (by omega)
    have hm : ¬ f n = 0 ↔ 0 < m := by rw [m2, nI_z (by omega)]; omega
    refine ⟨s + m, by rw [Nat.succ_mul]; omega, by rw [mSum, h2, m2, nI_add], ?_, ?_⟩
    · intro z
      by_cases hs : 0 < s
      · obtain ⟨j, a, b⟩ := h3.mp hs
        exact ⟨j, by omega, b⟩
      · exact ⟨n, by omega, hm.mpr (by omega)⟩
    · rintro ⟨j, a, b⟩
      by_cases e : j = n
      · rw [e] at b
        have := hm.mp b
        omega
      · have := h3.mpr ⟨j, by omega, b⟩
        omega
theorem mSnd_v {h X : Nat → Int32} {W P : Nat} (hP : P ≤ 7) (hX : ∀ k, k < P → sB (X k)) (h4 : 4 ≤ W) (h30 : W ≤ 30) : ∃ s, s < 2 ^ 20 ∧ mSnd h X (nI W) P = nI s ∧ (0 < s ↔ sPr h X W P) := by
  have inn : ∀ i, i < P → ∃ s, s ≤ P * 23 ∧ mSum (fun j => mPair h X (nI W) i j) P = nI s ∧ (0 < s ↔ ∃ j, j < P ∧ ¬ mPair h X (nI W) i j = 0) := by
    intro i hi
    refine mSum_v (by omega) P (fun j hj => ?_)
    obtain ⟨m, m1, m2, -⟩ := mPair_v (h := h) (hX i hi) (hX j hj) h4 h30
    exact ⟨m, m1, m2⟩
  obtain ⟨s, s1, s2, s3⟩ := mSum_v (f := fun i => mSum (fun j => mPair h X (nI W) i j) P) (B := 161) (by omega) P (fun i hi => by
    obtain ⟨t, t1, t2, -⟩ := inn i hi
    exact ⟨t, by omega, t2⟩)
  refine ⟨s, by have : P * 161 ≤ 7 * 161 := Nat.mul_le_mul_right _ hP; omega, s2, s3.trans ?_⟩
  have pz : ∀ i j, i < P → j < P → (¬ mPair h X (nI W) i j = 0 ↔ ∃ a b, h i = 0 ∧ h j = 1 ∧ X i = nI a ∧ X j = nI b ∧ 1 ≤ a ∧ a ≤ 13 ∧ 1 ≤ b ∧ b ≤ 13 ∧ W ≤ a + b) := by
    intro i j hi hj
    obtain ⟨m, m1, m2, m3⟩ := mPair_v (h := h) (hX i hi) (hX j hj) h4 h30
    rw [← m3, m2, nI_z (by omega)]
    omega
  constructor
  · rintro ⟨i, hi, z⟩
    obtain ⟨t, t1, t2, t3⟩ := inn i hi
    have zt : 0 < t := by
      have z' : ¬ nI t = 0 := by rw [← t2]; exact z
      rw [nI_z (by omega)] at z'
      omega
    obtain ⟨j, hj, w⟩ := t3.mp zt
    obtain ⟨a, b, c1, c2, c3, c4, c5⟩ := (pz i j hi hj).mp w
    exact ⟨i, j, a, b, hi, hj, c1, c2, c3, c4, c5⟩
  · rintro ⟨i, j, a, b, hi, hj, c1, c2, c3, c4, c5⟩
    refine ⟨i, hi, ?_⟩
    obtain ⟨t, t1, t2, t3⟩ := inn i hi
    have zt := t3.mpr ⟨j, hj, (pz i j hi hj).mpr ⟨a, b, c1, c2, c3, c4, c5⟩⟩
    show ¬ mSum (fun j => mPair h X (nI W) i j) P = 0
    rw [t2, nI_z (by omega)]
    omega
/-- the greatest that lean so far -/
theorem mRch_v {h Y : Nat → Int32} : ∀ n, (∀ k, k < n → sB (Y k)) → ∃ r s, r ≤ 13 ∧ s ≤ 13 ∧ mRch h Y n = (nI r, nI s) ∧ (∀ k a, k < n → h k = 0 → Y k = nI a → a ≤ 13 → a ≤ r) ∧ (∀ k a, k < n → ¬ h k = 0 → Y k = nI a → a ≤ 13 → a ≤ s) ∧ (1 ≤ r → ∃ k, k < n ∧ h k = 0 ∧ Y k = nI r) ∧ (1 ≤ s → ∃ k, k < n ∧ ¬ h k = 0 ∧ Y k = nI s) := by
  intro n
  induction n with
  | zero => exact fun _ => ⟨0, 0, by omega, by omega, rfl, fun k a hk => absurd hk (Nat.not_lt_zero _), fun k a hk => absurd hk (Nat.not_lt_zero _), by omega, by omega⟩
  | succ n ih =>
    intro hY
    obtain ⟨r, s, r1, s1, e, ar, as, br, bs⟩ := ih (fun k hk => hY k (by omega))
    have hn := hY n (by omega)
    have mx : ∀ q, q ≤ 13 → ∃ q', q' ≤ 13 ∧ mMax (nI q) (Y n) = nI q' ∧ q ≤ q' ∧ (∀ a, Y n = nI a → a ≤ 13 → a ≤ q') ∧ (q' = q ∨ Y n = nI q') := by
      intro q hq
      unfold mMax
      by_cases c : nI q < Y n
      · rw [if_pos c]
        have c0 : 0 < Y n := by
          have a1 := Int32.lt_iff_toInt_lt.mp c
          rw [nI_toInt (by omega)] at a1
          refine Int32.lt_iff_toInt_lt.mpr ?_
          have e0 : (0 : Int32).toInt = 0 := by decide
          omega
        obtain ⟨a, a1, a2, ea⟩ := sB_pos hn c0
        rw [ea] at c ⊢
        have c2 := nlt c (by omega) (by omega)
        refine ⟨a, a2, rfl, by omega, fun a' e' h' => ?_, Or.inr rfl⟩
        have := (nI_eq (by omega) (by omega)).mp e'
        omega
      · rw [if_neg c]
        refine ⟨q, hq, rfl, Nat.le_refl _, fun a ea ha => ?_, Or.inl rfl⟩
        rw [ea] at c
        exact nnlt c (by omega) (by omega)
    rw [mRch, e]
    by_cases hh : h n = 0
    · rw [if_pos hh]
      obtain ⟨q, q1, q2, q3, q4, q5⟩ := mx r r1
      refine ⟨q, s, q1, s1, by rw [q2], fun k a hk h0 ek ha => ?_, fun k a hk h0 ek ha => ?_, fun z => ?_, fun z => ?_⟩
      · by_cases ekn : k = n
        · rw [ekn] at ek; exact q4 a ek ha
        · have := ar k a (by omega) h0 ek ha
          omega
      · by_cases ekn : k = n
        · rw [ekn] at h0; exact absurd hh h0
        · exact as k a (by omega) h0 ek ha
      · rcases q5 with q5 | q5
        · obtain ⟨k, k1, k2, k3⟩ := br (by omega)
          exact ⟨k, by omega, k2, by rw [q5]; exact k3⟩
        · exact ⟨n, by omega, hh, q5⟩
      · obtain ⟨k, k1, k2, k3⟩ := bs z
        exact ⟨k, by omega, k2, k3⟩
    · rw [if_neg hh]
      obtain ⟨q, q1, q2, q3, q4, q5⟩ := mx s s1
      refine ⟨r, q, r1, q1, by rw [q2], fun k a hk h0 ek ha => ?_, fun k a hk h0 ek ha => ?_, fun z => ?_, fun z => ?_⟩
      · by_cases ekn : k = n
        · rw [ekn] at h0; exact absurd h0 hh
        · exact ar k a (by omega) h0 ek ha
      · by_cases ekn : k = n
        · rw [ekn] at ek; exact q4 a ek ha
        · have := as k a (by omega) h0 ek ha
          omega
      · obtain ⟨k, k1, k2, k3⟩ := br z
        exact ⟨k, by omega, k2, k3⟩
      · rcases q5 with q5 | q5
        · obtain ⟨k, k1, k2, k3⟩ := bs (by omega)
          exact ⟨k, by omega, k2, by rw [q5]; exact k3⟩
        · exact ⟨n, by omega, hh, q5⟩
theorem mReach_v {h Y : Nat → Int32} {P : Nat} (hY : ∀ k, k < P → sB (Y k)) (hh : ∀ k, k < P → h k = 0 ∨ h k = 1) : ∃ R, R ≤ 26 ∧ mReach h Y P = nI R ∧ ∀ W, 1 ≤ W → (W ≤ R ↔ sPr h Y W P) := by
  obtain ⟨r, s, r1, s1, e, ar, as, br, bs⟩ := mRch_v (h := h) P hY
  have h01 : ∀ k, h k = 1 → ¬ h k = 0 := fun k z y => by rw [z] at y; exact absurd y (by decide)
  have key : ∀ W, 1 ≤ W → (sPr h Y W P ↔ 1 ≤ r ∧ 1 ≤ s ∧ W ≤ r + s) := by
    intro W hW
    constructor
    · rintro ⟨i, j, a, b, hi, hj, c1, c2, c3, c4, a1, a2, b1, b2, c5⟩
      have := ar i a hi c1 c3 a2
      have := as j b hj (h01 j c2) c4 b2
      omega
    · rintro ⟨k1, k2, k3⟩
      obtain ⟨i, i1, i2, i3⟩ := br k1
      obtain ⟨j, j1, j2, j3⟩ := bs k2
      exact ⟨i, j, r, s, i1, j1, i2, (hh j j1).resolve_left j2, i3, j3, k1, r1, k2, s1, k3⟩
  unfold mReach
  rw [e]
  by_cases c : 1 ≤ r ∧ 1 ≤ s
  · refine ⟨r + s, by omega, ?_, fun W hW => ?_⟩
    · rw [if_pos ⟨nI_le (a := 1) c.1 (by omega), nI_le (a := 1) c.2 (by omega)⟩, nI_add]
    · rw [key W hW]; omega
  · refine ⟨0, by omega, ?_, fun W hW => ?_⟩
    · rw [if_neg]
      · rfl
      · rintro ⟨z1, z2⟩
        exact c ⟨nle (a := 1) z1 (by omega) (by omega), nle (a := 1) z2 (by omega) (by omega)⟩
    · rw [key W hW]; omega
theorem sPr_c {h X Y : Nat → Int32} {W P : Nat} (hXY : ∀ k, k < P → X k = Y k ∨ X k ≤ 0 ∧ Y k ≤ 0) : sPr h X W P → sPr h Y W P := by
  rintro ⟨i, j, a, b, hi, hj, c1, c2, c3, c4, a1, a2, b1, b2, c5⟩
  have pos : ∀ k a, k < P → X k = nI a → 1 ≤ a → a ≤ 13 → Y k = nI a := by
    intro k a hk e h1 h2
    rcases hXY k hk with q | q
    · rw [← q, e]
    · rw [e] at q
      have := nle (b := 0) q.1 (by omega) (by omega)
      omega
  exact ⟨i, j, a, b, hi, hj, c1, c2, pos i a hi c3 a1 a2, pos j b hj c4 b1 b2, a1, a2, b1, b2, c5⟩
/-- what sounds, and how far they reach, somebody left out -/
theorem vE {V : Nat → Nat → Int32} {P A : Nat} {th c lo : Int32} (hV : VW V P) : ∃ R, R ≤ 26 ∧ vRch V th A P c lo = nI R ∧ ∀ W, 4 ≤ W → W ≤ 30 → ∃ s, s < 2 ^ 20 ∧ mSnd (V 1) (fun i => if nI i = lo then 0 else mLng V th A i c) (nI W) P = nI s ∧ (0 < s ↔ W ≤ R) := by
  have hX : ∀ k, k < P → sB (if nI k = lo then 0 else mLng V th A k c) := by
    intro k hk
    split
    · exact sB_0
    · exact (sB_lng hV hk).1
  have hY : ∀ k, k < P → sB (mEff V th A c lo k) := by
    intro k hk
    unfold mEff
    split
    · exact (sB_lng hV hk).1
    · exact sB_0
  have hXY : ∀ k, k < P → (if nI k = lo then 0 else mLng V th A k c) = mEff V th A c lo k ∨ (if nI k = lo then 0 else mLng V th A k c) ≤ 0 ∧ mEff V th A c lo k ≤ 0 := by
    intro k hk
    unfold mEff
    by_cases e : nI k = lo
    · rw [if_pos e, if_neg (fun z => z.1 e)]
      exact Or.inl rfl
    · rw [if_neg e]
      by_cases e2 : mLean (V 0 k) (V 2 k) c < 1
      · rw [if_neg (fun z => z.2 e2)]
        refine Or.inr ⟨(sB_lng hV hk).2 ?_, by decide⟩
        have a1 := Int32.lt_iff_toInt_lt.mp e2
        refine Int32.le_iff_toInt_le.mpr ?_
        have e0 : (0 : Int32).toInt = 0 := by decide
        have e1 : (1 : Int32).toInt = 1 := by decide
        omega
      · rw [if_pos ⟨e, e2⟩]
        exact Or.inl rfl
  obtain ⟨R, R1, R2, R3⟩ := mReach_v (h := V 1) hY (fun k hk => (hV.2 k hk).1)
  refine ⟨R, R1, R2, fun W h4 h30 => ?_⟩
  obtain ⟨s, s1, s2, s3⟩ := mSnd_v (h := V 1) hV.1 hX h4 h30
  refine ⟨s, s1, s2, s3.trans ?_⟩
  rw [R3 W (by omega)]
  exact ⟨sPr_c hXY, sPr_c (fun k hk => (hXY k hk).elim (fun z => Or.inl z.symm) (fun z => Or.inr ⟨z.2, z.1⟩))⟩
theorem vSnd_lo {V : Nat → Nat → Int32} {P A : Nat} {th w c : Int32} (hP : P ≤ 7) : mSnd (V 1) (fun i => if nI i = -1 then 0 else mLng V th A i c) w P = vSnd V th A w P c := by
  unfold vSnd mSnd
  refine mSum_c (fun i hi => mSum_c (fun j hj => ?_))
  unfold mPair
  simp only [if_neg (nI_m1 (show i < 2 ^ 31 by omega)), if_neg (nI_m1 (show j < 2 ^ 31 by omega))]
/-- it sounds just if the reach is as much as the lane is wide -/
theorem vE_s {V : Nat → Nat → Int32} {P A : Nat} {th c : Int32} (hV : VW V P) : ∃ R, R ≤ 26 ∧ vRch V th A P c (-1) = nI R ∧ ∀ W, 4 ≤ W → W ≤ 30 → ∃ s, s < 2 ^ 20 ∧ vSnd V th A (nI W) P c = nI s ∧ (0 < s ↔ W ≤ R) := by
  obtain ⟨R, R1, R2, R3⟩ := vE (A := A) (th := th) (c := c) (lo := -1) hV
  refine ⟨R, R1, R2, fun W h4 h30 => ?_⟩
  obtain ⟨s, s1, s2, s3⟩ := R3 W h4 h30
  exact ⟨s, s1, by rw [← vSnd_lo hV.1]; exact s2, s3⟩
theorem vE_p {V : Nat → Nat → Int32} {P A W : Nat} {th c : Int32} (hV : VW V P) (h4 : 4 ≤ W) (h30 : W ≤ 30) : (0 < vSnd V th A (nI W) P c) ↔ nI W ≤ vRch V th A P c (-1) := by
  obtain ⟨R, R1, R2, R3⟩ := vE_s (A := A) (th := th) (c := c) hV
  obtain ⟨s, s1, s2, s3⟩ := R3 W h4 h30
  rw [s2, R2, nI_leI (by omega) (by omega), ← s3]
  exact nI_ltI (a := 0) (by omega) (by omega)
theorem vE_z {V : Nat → Nat → Int32} {P A W : Nat} {th c : Int32} (hV : VW V P) (h4 : 4 ≤ W) (h30 : W ≤ 30) : (vSnd V th A (nI W) P c = 0) ↔ ¬ nI W ≤ vRch V th A P c (-1) := by
  obtain ⟨R, R1, R2, R3⟩ := vE_s (A := A) (th := th) (c := c) hV
  obtain ⟨s, s1, s2, s3⟩ := R3 W h4 h30
  rw [s2, R2, nI_leI (by omega) (by omega), ← s3, nI_z (by omega)]
  omega
theorem vE_lo {V : Nat → Nat → Int32} {P A W : Nat} {th c lo : Int32} (hV : VW V P) (h4 : 4 ≤ W) (h30 : W ≤ 30) : (mSnd (V 1) (fun i => if nI i = lo then 0 else mLng V th A i c) (nI W) P = 0) ↔ vRch V th A P c lo < nI W := by
  obtain ⟨R, R1, R2, R3⟩ := vE (A := A) (th := th) (c := c) (lo := lo) hV
  obtain ⟨s, s1, s2, s3⟩ := R3 W h4 h30
  rw [s2, R2, nI_ltI (by omega) (by omega), nI_z (by omega)]
  omega
theorem vRch_b {V : Nat → Nat → Int32} {P A : Nat} {th c lo : Int32} (hV : VW V P) : ∃ R, R ≤ 26 ∧ vRch V th A P c lo = nI R := by
  obtain ⟨R, R1, R2, -⟩ := vE (A := A) (th := th) (c := c) (lo := lo) hV
  exact ⟨R, R1, R2⟩
theorem VW.sw {V : Nat → Nat → Int32} {P k a : Nat} (h : VW V P) (ha : a ≤ 9) : VW (uV V k (nI a)) P := by
  refine ⟨h.1, fun j hj => ?_⟩
  obtain ⟨h1, a', h2, h3⟩ := h.2 j hj
  refine ⟨by simpa [uV] using h1, ?_⟩
  by_cases e : j = k
  · exact ⟨a, ha, by simp [uV, e]⟩
  · exact ⟨a', h2, by simp [uV, e, h3]⟩
