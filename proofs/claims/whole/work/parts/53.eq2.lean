/-! MARRIAGES: the most pairs, and the first such way -/
def tA (t : Nat → Bool) (j : Nat) : Nat → Bool := fun k => t k || decide (k = j)
def pJ (g : Nat → Bool) (h : Nat → Nat) (m0 : Nat) : Nat → Nat
  | 0 => m0
  | j + 1 => if g j = true then max (pJ g h m0 j) (1 + h j) else pJ g h m0 j
def pM (A : Nat → Nat → Bool) : Nat → Nat → (Nat → Bool) → Nat
  | 0, _, _ => 0
  | n + 1, i, t => pJ (fun j => A i j && !t j) (fun j => pM A n (i + 1) (tA t j)) (pM A n (i + 1) t) 7
def pV (A : Nat → Nat → Bool) : Nat → Nat → (Nat → Bool) → (Nat → Nat) → Prop
  | 0, _, _, _ => True
  | n + 1, i, t, c => (c i = 0 ∧ pV A n (i + 1) t c) ∨ (∃ j, j < 7 ∧ c i = j + 1 ∧ A i j = true ∧ t j = false ∧ pV A n (i + 1) (tA t j) c)
def pC (c : Nat → Nat) : Nat → Nat → Nat
  | 0, _ => 0
  | n + 1, i => (if c i = 0 then 0 else 1) + pC c n (i + 1)
def pF (f : Nat → Bool) : Nat → Nat
  | 0 => 0
  | n + 1 => if pF f n = 0 then (if f n = true then n + 1 else 0) else pF f n
def pH (A : Nat → Nat → Bool) (n i : Nat) (t : Nat → Bool) (m : Nat) : Nat := if pM A n (i + 1) t = m then 0 else pF (fun j => A i j && !t j && decide (1 + pM A n (i + 1) (tA t j) = m)) 7
/-- whom those ahead of i have taken -/
def tS (c : Nat → Nat) : Nat → Nat → Bool
  | 0 => fun _ => false
  | i + 1 => if c i = 0 then tS c i else tA (tS c i) (c i - 1)
theorem pJ_0 {g : Nat → Bool} {h : Nat → Nat} {m : Nat} : ∀ n, m ≤ pJ g h m n := by
  intro n
  induction n with
  | zero => exact Nat.le_refl _
  | succ n ih => rw [pJ]; split; exact Nat.le_trans ih (Nat.le_max_left _ _); exact ih
theorem pJ_j {g : Nat → Bool} {h : Nat → Nat} {m j : Nat} : ∀ n, j < n → g j = true → 1 + h j ≤ pJ g h m n := by
  intro n
  induction n with
  | zero => intro hj; omega
  | succ n ih =>
    intro hj hg
    rw [pJ]
    by_cases e : j = n
    · subst e
      rw [if_pos hg]
      exact Nat.le_max_right _ _
    · have := ih (by omega) hg
      split
      · exact Nat.le_trans this (Nat.le_max_left _ _)
      · exact this
theorem pJ_at {g : Nat → Bool} {h : Nat → Nat} {m : Nat} : ∀ n, pJ g h m n = m ∨ ∃ j, j < n ∧ g j = true ∧ pJ g h m n = 1 + h j := by
  intro n
  induction n with
  | zero => exact Or.inl rfl
  | succ n ih =>
    rw [pJ]
    by_cases hg : g n = true
    · rw [if_pos hg]
      rcases Nat.le_total (pJ g h m n) (1 + h n) with q | q
      · exact Or.inr ⟨n, by omega, hg, Nat.max_eq_right q⟩
      · rw [Nat.max_eq_left q]
        rcases ih with e | ⟨j, a, b, c⟩
        · exact Or.inl e
        · exact Or.inr ⟨j, by omega, b, c⟩
    · rw [if_neg hg]
      rcases ih with e | ⟨j, a, b, c⟩
      · exact Or.inl e
      · exact Or.inr ⟨j, by omega, b, c⟩
theorem pF_0 {f : Nat → Bool} : ∀ n, pF f n = 0 → ∀ j, j < n → f j = false := by
  intro n
  induction n with
  | zero => intro _ j hj; omega
  | succ n ih =>
    intro h j hj
    rw [pF] at h
    by_cases e : pF f n = 0
    · rw [if_pos e] at h
      by_cases ej : j = n
      · subst ej
        cases hf : f j with
        | false => rfl
        | true => rw [hf] at h; simp at h
      · exact ih e j (by omega)
    · rw [if_neg e] at h
      exact absurd h e
theorem pF_s {f : Nat → Bool} {j : Nat} : ∀ n, pF f n = j + 1 → j < n ∧ f j = true ∧ ∀ k, k < j → f k = false := by
  intro n
  induction n with
  | zero => intro h; rw [pF] at h; omega
  | succ n ih =>
    intro h
    rw [pF] at h
    by_cases e : pF f n = 0
    · rw [if_pos e] at h
      cases hf : f n with
      | false => rw [hf] at h; simp at h
      | true =>
        rw [hf] at h
        simp at h
        subst h
        exact ⟨by omega, hf, pF_0 n e⟩
    · rw [if_neg e] at h
      obtain ⟨a, b, c⟩ := ih h
      exact ⟨by omega, b, c⟩
section S53
variable {A : Nat → Nat → Bool} {c c' : Nat → Nat}
theorem pM_0 {n i : Nat} {t : Nat → Bool} : pM A n (i + 1) t ≤ pM A (n + 1) i t := pJ_0 7
theorem pM_j {n i j : Nat} {t : Nat → Bool} (hj : j < 7) (ha : A i j = true) (ht : t j = false) : 1 + pM A n (i + 1) (tA t j) ≤ pM A (n + 1) i t := pJ_j (g := fun j => A i j && !t j) (h := fun j => pM A n (i + 1) (tA t j)) 7 hj (by simp [ha, ht])
theorem pV_le : ∀ n i t, pV A n i t c → pC c n i ≤ pM A n i t := by
  intro n
  induction n with
  | zero => intro i t _; exact Nat.le_refl _
  | succ n ih =>
    intro i t h
    rw [pC]
    rcases h with ⟨h0, h1⟩ | ⟨j, hj, hc, ha, ht, h1⟩
    · rw [if_pos h0, Nat.zero_add]
      exact Nat.le_trans (ih _ _ h1) pM_0
    · rw [if_neg (by omega)]
      have := ih _ _ h1
      have := pM_j (n := n) hj ha ht
      omega
/-- the choice is the first by which as many pairs as are missing still come to be -/
theorem pH_c {n i : Nat} {t : Nat → Bool} : (pH A n i t (pM A (n + 1) i t) = 0 ∧ pM A n (i + 1) t = pM A (n + 1) i t) ∨ ∃ j, j < 7 ∧ pH A n i t (pM A (n + 1) i t) = j + 1 ∧ A i j = true ∧ t j = false ∧ 1 + pM A n (i + 1) (tA t j) = pM A (n + 1) i t ∧ ¬ pM A n (i + 1) t = pM A (n + 1) i t ∧ ∀ k, k < j → ¬ (A i k = true ∧ t k = false ∧ 1 + pM A n (i + 1) (tA t k) = pM A (n + 1) i t) := by
  unfold pH
  by_cases e : pM A n (i + 1) t = pM A (n + 1) i t
  · exact Or.inl ⟨if_pos e, e⟩
  · rw [if_neg e]
    right
    cases hp : pF (fun j => A i j && !t j && decide (1 + pM A n (i + 1) (tA t j) = pM A (n + 1) i t)) 7 with
    | zero =>
      exfalso
      have z := pF_0 7 hp
      rcases pJ_at (g := fun j => A i j && !t j) (h := fun j => pM A n (i + 1) (tA t j)) (m := pM A n (i + 1) t) 7 with q | ⟨j, hj, hg, q⟩
      · exact e q.symm
      · have z2 := z j hj
        have q2 : 1 + pM A n (i + 1) (tA t j) = pM A (n + 1) i t := q.symm
        simp only [q2, decide_true, Bool.and_true] at z2
        have hg2 : (A i j && !t j) = true := hg
        rw [hg2] at z2
        cases z2
    | succ j =>
      obtain ⟨a, b, d⟩ := pF_s 7 hp
      simp only [Bool.and_eq_true, Bool.not_eq_true', decide_eq_true_eq] at b
      refine ⟨j, a, rfl, b.1.1, b.1.2, b.2, e, fun k hk => ?_⟩
      rintro ⟨x, y, w⟩
      have := d k hk
      simp [x, y, w] at this
def wGr (A : Nat → Nat → Bool) (c : Nat → Nat) : Prop := ∀ i, i < 7 → c i = pH A (6 - i) i (tS c i) (pM A (7 - i) i (tS c i))
theorem wGr_at (h : wGr A c) {n i : Nat} (hn : i + (n + 1) = 7) : c i = pH A n i (tS c i) (pM A (n + 1) i (tS c i)) := by
  have q := h i (by omega)
  rw [show 6 - i = n by omega, show 7 - i = n + 1 by omega] at q
  exact q
theorem wGr_ok (h : wGr A c) : ∀ n i, i + n = 7 → pV A n i (tS c i) c ∧ pC c n i = pM A n i (tS c i) := by
  intro n
  induction n with
  | zero => intro i _; exact ⟨trivial, rfl⟩
  | succ n ih =>
    intro i hi
    have q := wGr_at h hi
    obtain ⟨v1, v2⟩ := ih (i + 1) (by omega)
    rcases pH_c (A := A) (n := n) (i := i) (t := tS c i) with ⟨e, e2⟩ | ⟨j, hj, e, ha, ht, hm, -, -⟩
    · rw [e] at q
      rw [tS, if_pos q] at v1 v2
      exact ⟨Or.inl ⟨q, v1⟩, by rw [pC, if_pos q, Nat.zero_add, v2, e2]⟩
    · rw [e] at q
      rw [tS, if_neg (by omega), q, Nat.add_sub_cancel] at v1 v2
      exact ⟨Or.inr ⟨j, hj, q, ha, ht, v1⟩, by rw [pC, if_neg (by omega), v2, hm]⟩
/-- the chosen way is the first of the best -/
theorem wGr_min (h : wGr A c) : ∀ n i, i + n = 7 → pV A n i (tS c i) c' → pC c' n i = pM A n i (tS c i) → (∀ q, i ≤ q → q < i + n → c q = c' q) ∨ ∃ q, i ≤ q ∧ q < i + n ∧ (∀ r, i ≤ r → r < q → c r = c' r) ∧ c q < c' q := by
  intro n
  induction n with
  | zero => intro i _ _ _; exact Or.inl (fun q a b => by omega)
  | succ n ih =>
    intro i hi hv hc
    have q := wGr_at h hi
    have go : c i = c' i → pV A n (i + 1) (tS c (i + 1)) c' → pC c' n (i + 1) = pM A n (i + 1) (tS c (i + 1)) → (∀ q, i ≤ q → q < i + (n + 1) → c q = c' q) ∨ ∃ q, i ≤ q ∧ q < i + (n + 1) ∧ (∀ r, i ≤ r → r < q → c r = c' r) ∧ c q < c' q := by
      intro e v1 v2
      rcases ih (i + 1) (by omega) v1 v2 with w | ⟨r, a1, a2, a3, a4⟩
      · refine Or.inl (fun r a b => ?_)
        by_cases er : r = i
        · rw [er]; exact e
        · exact w r (by omega) (by omega)
      · refine Or.inr ⟨r, by omega, by omega, fun s b1 b2 => ?_, a4⟩
        by_cases es : s = i
        · rw [es]; exact e
        · exact a3 s (by omega) b2
    rw [pC] at hc
    rcases hv with ⟨h0, h1⟩ | ⟨j', hj', hc', ha', ht', h1⟩
    · rw [if_pos h0, Nat.zero_add] at hc
      have b1 := pV_le _ _ _ h1
      have b2 := pM_0 (A := A) (n := n) (i := i) (t := tS c i)
      have e : pM A n (i + 1) (tS c i) = pM A (n + 1) i (tS c i) := by omega
      have q0 : c i = 0 := by rw [q]; unfold pH; rw [if_pos e]
      refine go (by rw [q0, h0]) ?_ ?_
      · rw [tS, if_pos q0]; exact h1
      · rw [tS, if_pos q0]; omega
    · rw [if_neg (by omega)] at hc
      have b1 := pV_le _ _ _ h1
      have b2 := pM_j (A := A) (n := n) hj' ha' ht'
      have e : 1 + pM A n (i + 1) (tA (tS c i) j') = pM A (n + 1) i (tS c i) := by omega
      rcases pH_c (A := A) (n := n) (i := i) (t := tS c i) with ⟨p1, p2⟩ | ⟨j, hj, p1, ha, ht, hm, -, hk⟩
      · rw [p1] at q
        exact Or.inr ⟨i, by omega, by omega, fun r a b => by omega, by omega⟩
      · rw [p1] at q
        rcases Nat.lt_trichotomy j j' with l | l | l
        · exact Or.inr ⟨i, by omega, by omega, fun r a b => by omega, by omega⟩
        · subst l
          refine go (by rw [q, hc']) ?_ ?_
          · rw [tS, if_neg (by omega), q, Nat.add_sub_cancel]; exact h1
          · rw [tS, if_neg (by omega), q, Nat.add_sub_cancel]; omega
        · exact absurd ⟨ha', ht', e⟩ (hk j' l)
/-- a way, told pair by pair -/
def PV (A : Nat → Nat → Bool) (m i : Nat) (c : Nat → Nat) : Prop := (∀ q, i ≤ q → q < i + m → ¬ c q = 0 → A q (c q - 1) = true) ∧ ∀ q q', i ≤ q → q < q' → q' < i + m → ¬ c q = 0 → ¬ c q = c q'
theorem pV_PV (hA : ∀ i j, A i j = true → j < 7) : ∀ n i t, pV A n i t c ↔ PV A n i c ∧ ∀ q, i ≤ q → q < i + n → ¬ c q = 0 → t (c q - 1) = false := by
  intro n
  induction n with
  | zero => intro i t; exact ⟨fun _ => ⟨⟨fun q a b => by omega, fun q q' a b d => by omega⟩, fun q a b => by omega⟩, fun _ => trivial⟩
  | succ n ih =>
    intro i t
    constructor
    · rintro (⟨h0, h1⟩ | ⟨j, hj, hc, ha, ht, h1⟩)
      · obtain ⟨⟨a1, a2⟩, a3⟩ := (ih (i + 1) t).mp h1
        refine ⟨⟨fun q b1 b2 b3 => ?_, fun q q' b1 b2 b3 b4 => ?_⟩, fun q b1 b2 b3 => ?_⟩
        · by_cases e : q = i
          · rw [e] at b3; exact absurd h0 b3
          · exact a1 q (by omega) (by omega) b3
        · by_cases e : q = i
          · rw [e] at b4; exact absurd h0 b4
          · exact a2 q q' (by omega) b2 (by omega) b4
        · by_cases e : q = i
          · rw [e] at b3; exact absurd h0 b3
          · exact a3 q (by omega) (by omega) b3
      · obtain ⟨⟨a1, a2⟩, a3⟩ := (ih (i + 1) (tA t j)).mp h1
        have sp : ∀ q, i + 1 ≤ q → q < i + 1 + n → ¬ c q = 0 → t (c q - 1) = false ∧ ¬ c q - 1 = j := by
          intro q b1 b2 b3
          have := a3 q b1 b2 b3
          unfold tA at this
          simpa using this
        refine ⟨⟨fun q b1 b2 b3 => ?_, fun q q' b1 b2 b3 b4 => ?_⟩, fun q b1 b2 b3 => ?_⟩
        · by_cases e : q = i
          · rw [e, hc, Nat.add_sub_cancel]; exact ha
          · exact a1 q (by omega) (by omega) b3
        · by_cases e : q = i
          · rw [e, hc]
            intro e2
            have := (sp q' (by omega) (by omega) (by omega)).2
            omega
          · exact a2 q q' (by omega) b2 (by omega) b4
        · by_cases e : q = i
          · rw [e, hc, Nat.add_sub_cancel]; exact ht
          · exact (sp q (by omega) (by omega) b3).1
    · rintro ⟨⟨a1, a2⟩, a3⟩
      by_cases h0 : c i = 0
      · exact Or.inl ⟨h0, (ih (i + 1) t).mpr ⟨⟨fun q b1 b2 => a1 q (by omega) (by omega), fun q q' b1 b2 b3 => a2 q q' (by omega) b2 (by omega)⟩, fun q b1 b2 => a3 q (by omega) (by omega)⟩⟩
      · have ha := a1 i (by omega) (by omega) h0
        refine Or.inr ⟨c i - 1, hA _ _ ha, by omega, ha, a3 i (by omega) (by omega) h0, (ih (i + 1) _).mpr ⟨⟨fun q b1 b2 => a1 q (by omega) (by omega), fun q q' b1 b2 b3 => a2 q q' (by omega) b2 (by omega)⟩, fun q b1 b2 b3 => ?_⟩⟩
        have t1 := a3 q (by omega) (by omega) b3
        have t2 := a2 i q (by omega) (by omega) (by omega) h0
        unfold tA
        rw [t1, Bool.false_or, decide_eq_false]
        omega
/-- partners are as the choices of those in S say -/
def MT (P : Nat) (f : Nat → Bool) (c : Nat → Nat) (S : Nat → Prop) (p : Nat → Int32) : Prop := ∀ q, q < P → (f q = true → (S q → ¬ c q = 0 → p q = nI (c q - 1)) ∧ (¬ (S q ∧ ¬ c q = 0) → p q = -1)) ∧ (f q = false → (∀ r, S r → r < P → c r = q + 1 → p q = nI r) ∧ ((∀ r, S r → r < P → ¬ c r = q + 1) → p q = -1))
theorem MT_u {P : Nat} {f : Nat → Bool} {S S' : Nat → Prop} {p p' : Nat → Int32} (h : MT P f c S p) (h' : MT P f c' S' p') (hS : ∀ r, r < P → S r ∧ S' r) (hc : ∀ r, r < P → c r = c' r) : ∀ q, q < P → p q = p' q := by
  intro q hq
  obtain ⟨a1, a2⟩ := h q hq
  obtain ⟨b1, b2⟩ := h' q hq
  have s := hS q hq
  have e := hc q hq
  cases hf : f q with
  | true =>
    obtain ⟨a3, a4⟩ := a1 hf
    obtain ⟨b3, b4⟩ := b1 hf
    by_cases z : c q = 0
    · rw [a4 (fun w => w.2 z), b4 (fun w => w.2 (by rw [← e]; exact z))]
    · rw [a3 s.1 z, b3 s.2 (by rw [← e]; exact z), e]
  | false =>
    obtain ⟨a3, a4⟩ := a2 hf
    obtain ⟨b3, b4⟩ := b2 hf
    by_cases z : ∃ r, r < P ∧ c r = q + 1
    · obtain ⟨r, hr, er⟩ := z
      rw [a3 r (hS r hr).1 hr er, b3 r (hS r hr).2 hr (by rw [← hc r hr]; exact er)]
    · have n1 : ∀ r, r < P → ¬ c r = q + 1 := fun r hr w => z ⟨r, hr, w⟩
      rw [a4 (fun r _ hr => n1 r hr), b4 (fun r _ hr => by rw [← hc r hr]; exact n1 r hr)]
/-- one more chooses -/
theorem MT_add {P i j : Nat} {f : Nat → Bool} {S S' : Nat → Prop} {p p' : Nat → Int32} (h : MT P f c S p) (hi : i < P) (hci : c i = j + 1) (hfi : f i = true) (hfj : f j = false) (hS : ∀ r, S' r ↔ S r ∨ r = i) (hni : ¬ S i) (hnj : ∀ r, S r → r < P → ¬ c r = j + 1) (hp : ∀ q, q < P → p' q = if q = j then nI i else if q = i then nI j else p q) : MT P f c S' p' := by
  intro q hq
  obtain ⟨a1, a2⟩ := h q hq
  rw [hp q hq]
  have eij : ¬ i = j := fun e => by rw [e, hfj] at hfi; cases hfi
  refine ⟨fun hf => ?_, fun hf => ?_⟩
  · have eqj : ¬ q = j := fun e => by rw [e, hfj] at hf; cases hf
    rw [if_neg eqj]
    obtain ⟨a3, a4⟩ := a1 hf
    by_cases e : q = i
    · rw [if_pos e]
      refine ⟨fun _ _ => by rw [e, hci, Nat.add_sub_cancel], fun w => absurd ⟨(hS q).mpr (Or.inr e), by rw [e, hci]; omega⟩ w⟩
    · rw [if_neg e]
      exact ⟨fun s => a3 (((hS q).mp s).resolve_right e), fun w => a4 (fun z => w ⟨(hS q).mpr (Or.inl z.1), z.2⟩)⟩
  · obtain ⟨a3, a4⟩ := a2 hf
    by_cases e : q = j
    · rw [if_pos e]
      refine ⟨fun r s hr er => ?_, fun w => absurd (by rw [hci, e]) (w i ((hS i).mpr (Or.inr rfl)) hi)⟩
      rcases (hS r).mp s with s1 | s1
      · exact absurd (by rw [er, e]) (hnj r s1 hr)
      · rw [s1]
    · rw [if_neg e]
      have eqi : ¬ q = i := fun w => by rw [w, hfi] at hf; cases hf
      rw [if_neg eqi]
      refine ⟨fun r s hr er => ?_, fun w => a4 (fun r s hr => w r ((hS r).mpr (Or.inl s)) hr)⟩
      rcases (hS r).mp s with s1 | s1
      · exact a3 r s1 hr er
      · rw [s1, hci] at er
        exact absurd (by omega) e
/-- one more stays alone -/
theorem MT_no {P i : Nat} {f : Nat → Bool} {S S' : Nat → Prop} {p : Nat → Int32} (h : MT P f c S p) (hci : c i = 0) (hS : ∀ r, S' r ↔ S r ∨ r = i) : MT P f c S' p := by
  intro q hq
  obtain ⟨a1, a2⟩ := h q hq
  refine ⟨fun hf => ?_, fun hf => ?_⟩
  · obtain ⟨a3, a4⟩ := a1 hf
    refine ⟨fun s z => ?_, fun w => a4 (fun z => w ⟨(hS q).mpr (Or.inl z.1), z.2⟩)⟩
    rcases (hS q).mp s with s1 | s1
    · exact a3 s1 z
    · rw [s1] at z; exact absurd hci z
  · obtain ⟨a3, a4⟩ := a2 hf
    refine ⟨fun r s hr er => ?_, fun w => a4 (fun r s hr => w r ((hS r).mpr (Or.inl s)) hr)⟩
    rcases (hS r).mp s with s1 | s1
    · exact a3 r s1 hr er
    · rw [s1, hci] at er; omega
end S53
