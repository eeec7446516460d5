/-! MARRIAGES: the reference's numbers, and both the same -/
theorem mCt_s {f : Nat → Bool} {i : Nat} (h : f i = true) : mCt f (i + 1) = mCt f i + 1 := by rw [mCt, if_pos h]
theorem mCt_n {f : Nat → Bool} {i : Nat} (h : f i = false) : mCt f (i + 1) = mCt f i := by rw [mCt, if_neg (by rw [h]; decide)]
theorem mCt_mono {f : Nat → Bool} {i : Nat} : ∀ n, i ≤ n → mCt f i ≤ mCt f n := by
  intro n
  induction n with
  | zero => intro h; rw [show i = 0 by omega]; exact Nat.le_refl _
  | succ n ih =>
    intro h
    by_cases e : i = n + 1
    · rw [e]; exact Nat.le_refl _
    · have := ih (by omega)
      rw [mCt]
      split <;> omega
theorem mCt_lt {f : Nat → Bool} {i n : Nat} (hf : f i = true) (h : i < n) : mCt f i < mCt f n := by
  have := mCt_mono (f := f) (i := i + 1) n h
  rw [mCt_s hf] at this
  omega
theorem sdA_s (f : Nat → Bool) (n k : Nat) : sdA f (n + 1) k = if f n = true ∧ k = mCt f n then n else sdA f n k := rfl
theorem sdA_of {f : Nat → Bool} {i : Nat} (hf : f i = true) : ∀ n, i < n → sdA f n (mCt f i) = i := by
  intro n
  induction n with
  | zero => intro h; omega
  | succ n ih =>
    intro h
    rw [sdA_s]
    by_cases e : i = n
    · subst e
      rw [if_pos ⟨hf, rfl⟩]
    · rw [if_neg]
      · exact ih (by omega)
      · rintro ⟨h1, h2⟩
        have := mCt_lt (n := n) hf (by omega)
        omega
theorem sdA_ct {f : Nat → Bool} {k : Nat} : ∀ n, k < mCt f n → mCt f (sdA f n k) = k := by
  intro n
  induction n with
  | zero => intro h; exact absurd h (Nat.not_lt_zero _)
  | succ n ih =>
    intro h
    rw [sdA_s]
    by_cases e : f n = true ∧ k = mCt f n
    · rw [if_pos e, e.2]
    · rw [if_neg e]
      refine ih ?_
      rw [mCt] at h
      by_cases hf : f n = true
      · rw [if_pos hf] at h
        have : ¬ k = mCt f n := fun z => e ⟨hf, z⟩
        omega
      · rw [if_neg hf] at h
        exact h
def dg (B F n k : Nat) : Nat := n / B ^ (F - 1 - k) % B
theorem dg_pre {B F n k : Nat} (hk : k < F) : n / B ^ (F - (k + 1)) = n / B ^ (F - k) * B + dg B F n k := by
  unfold dg
  have e1 : F - (k + 1) = F - 1 - k := by omega
  have e2 : F - k = F - 1 - k + 1 := by omega
  rw [e1, e2, Nat.pow_succ, ← Nat.div_div_eq_div_mul, Nat.mul_comm (n / B ^ (F - 1 - k) / B) B, Nat.div_add_mod]
theorem dg_lt {B F n n' k : Nat} (hB : 0 < B) (hk : k < F) (hn : n < B ^ F) (hn' : n' < B ^ F) (he : ∀ r, r < k → dg B F n r = dg B F n' r) (hl : dg B F n k < dg B F n' k) : n < n' := by
  have pre : ∀ r, r ≤ k → n / B ^ (F - r) = n' / B ^ (F - r) := by
    intro r
    induction r with
    | zero => intro _; rw [Nat.sub_zero, Nat.div_eq_of_lt hn, Nat.div_eq_of_lt hn']
    | succ r ih => intro h; rw [dg_pre (by omega), dg_pre (by omega), ih (by omega), he r (by omega)]
  have p1 := dg_pre (B := B) (n := n) hk
  have p2 := dg_pre (B := B) (n := n') hk
  rw [pre k (Nat.le_refl _)] at p1
  rcases Nat.lt_or_ge n n' with h | h
  · exact h
  · have := Nat.div_le_div_right (c := B ^ (F - (k + 1))) h
    omega
def nb (B : Nat) (d : Nat → Nat) : Nat → Nat
  | 0 => 0
  | k + 1 => nb B d k * B + d k
theorem nb_lt {B : Nat} {d : Nat → Nat} : ∀ F, (∀ k, k < F → d k < B) → nb B d F < B ^ F := by
  intro F
  induction F with
  | zero => intro _; exact Nat.one_pos
  | succ F ih =>
    intro h
    have h1 := ih (fun k hk => h k (by omega))
    have h2 := h F (by omega)
    rw [nb, Nat.pow_succ]
    have : (nb B d F + 1) * B ≤ B ^ F * B := Nat.mul_le_mul_right _ h1
    rw [Nat.succ_mul] at this
    omega
theorem nb_div {B : Nat} {d : Nat → Nat} {k : Nat} : ∀ m, (∀ r, r < k + m → d r < B) → nb B d (k + m) / B ^ m = nb B d k := by
  intro m
  induction m with
  | zero => intro _; rw [Nat.pow_zero, Nat.div_one]; rfl
  | succ m ih =>
    intro h
    have hd := h (k + m) (by omega)
    rw [← Nat.add_assoc, nb, Nat.pow_succ, Nat.mul_comm (B ^ m) B, ← Nat.div_div_eq_div_mul, Nat.mul_comm _ B, Nat.mul_add_div (by omega), Nat.div_eq_of_lt hd, Nat.add_zero]
    exact ih (fun r hr => h r (by omega))
theorem nb_dg {B F : Nat} {d : Nat → Nat} {k : Nat} (h : ∀ r, r < F → d r < B) (hk : k < F) : dg B F (nb B d F) k = d k := by
  unfold dg
  have e := nb_div (B := B) (d := d) (k := k + 1) (F - 1 - k) (fun r hr => h r (by omega))
  rw [show k + 1 + (F - 1 - k) = F by omega] at e
  rw [e, nb, Nat.mul_comm, Nat.mul_add_mod, Nat.mod_eq_of_lt (h k hk)]
theorem pC_add {c : Nat → Nat} : ∀ m i x, (∀ r, i + m ≤ r → r < i + m + x → c r = 0) → pC c (m + x) i = pC c m i := by
  intro m
  induction m with
  | zero =>
    intro i x
    induction x generalizing i with
    | zero => intro _; rfl
    | succ x ih =>
      intro h
      have e : pC c (0 + (x + 1)) i = (if c i = 0 then 0 else 1) + pC c (0 + x) (i + 1) := rfl
      rw [e, if_pos (h i (by omega) (by omega)), Nat.zero_add, ih (i + 1) (fun r a b => h r (by omega) (by omega))]
      rfl
  | succ m ih =>
    intro i x h
    rw [show m + 1 + x = (m + x) + 1 by omega, pC, pC, ih (i + 1) x (fun r a b => h r (by omega) (by omega))]
section S55
variable {P F G n : Nat} {f g : Nat → Bool} {al A : Nat → Nat → Bool}
/-- whom each chooses, by a number -/
def cN (P : Nat) (f g : Nat → Bool) (B F n i : Nat) : Nat := if i < P ∧ f i = true then (if dg B F n (mCt f i) = 0 then 0 else sdA g P (dg B F n (mCt f i) - 1) + 1) else 0
theorem cN_0 {B i : Nat} (h : ¬ (i < P ∧ f i = true)) : cN P f g B F n i = 0 := by unfold cN; rw [if_neg h]
theorem rIn_v (hg : ∀ i, g i = !f i) (hF : F = mCt f P) (hG : G = mCt g P) (hA : ∀ i j, A i j = (decide (i < P) && f i && decide (j < P) && !f j && al i j)) (hP : P ≤ 7) : ∀ m i, i + m = P → ∃ s : rPs, rPb (sdA f P) (sdA g P) G al F (n, 0, true, fun _ => -1) = rPb (sdA f P) (sdA g P) G al (mCt f i) s ∧ s.1 = n / (G + 1) ^ (F - mCt f i) ∧ s.2.1 = pC (cN P f g (G + 1) F n) m i ∧ (s.2.2.1 = true ↔ PV A m i (cN P f g (G + 1) F n)) ∧ (s.2.2.1 = true → MT P f (cN P f g (G + 1) F n) (fun r => i ≤ r) s.2.2.2) := by
  generalize hc : cN P f g (G + 1) F n = c
  intro m
  induction m with
  | zero =>
    intro i hi
    refine ⟨(n, 0, true, fun _ => -1), ?_, ?_, rfl, ⟨fun _ => ⟨fun q a b => by omega, fun q q' a b d => by omega⟩, fun _ => rfl⟩, fun _ q hq => ⟨fun _ => ⟨fun z => by omega, fun _ => rfl⟩, fun _ => ⟨fun r z => by omega, fun _ => rfl⟩⟩⟩
    · rw [show i = P by omega, ← hF]
    · show n = _
      rw [show i = P by omega, ← hF, Nat.sub_self, Nat.pow_zero, Nat.div_one]
  | succ m ih =>
    intro i hi
    obtain ⟨s, s1, s2, s3, s4, s5⟩ := ih (i + 1) (by omega)
    cases hf : f i with
    | false =>
      have ci : c i = 0 := by rw [← hc]; exact cN_0 (fun z => by rw [hf] at z; cases z.2)
      rw [mCt_n hf] at s1 s2
      refine ⟨s, s1, s2, by rw [pC, if_pos ci, Nat.zero_add]; exact s3, s4.trans ?_, fun z => MT_no (s5 z) ci (fun r => by omega)⟩
      constructor
      · rintro ⟨a1, a2⟩
        refine ⟨fun q b1 b2 b3 => ?_, fun q q' b1 b2 b3 b4 => ?_⟩
        · by_cases e : q = i
          · rw [e] at b3; exact absurd ci b3
          · exact a1 q (by omega) (by omega) b3
        · by_cases e : q = i
          · rw [e] at b4; exact absurd ci b4
          · exact a2 q q' (by omega) b2 (by omega) b4
      · rintro ⟨a1, a2⟩
        exact ⟨fun q b1 b2 => a1 q (by omega) (by omega), fun q q' b1 b2 b3 => a2 q q' (by omega) b2 (by omega)⟩
    | true =>
      have kF : mCt f i < F := by rw [hF]; exact mCt_lt hf (by omega)
      rw [mCt_s hf] at s1 s2
      have hLf : sdA f P (mCt f i) = i := sdA_of hf P (by omega)
      have hdg : s.1 % (G + 1) = dg (G + 1) F n (mCt f i) := by rw [s2]; unfold dg; rw [show F - (mCt f i + 1) = F - 1 - mCt f i by omega]
      have hdv : s.1 / (G + 1) = n / (G + 1) ^ (F - mCt f i) := by rw [s2, Nat.div_div_eq_div_mul, ← Nat.pow_succ, show (F - (mCt f i + 1)).succ = F - mCt f i by omega]
      have hcv : c i = if dg (G + 1) F n (mCt f i) = 0 then 0 else sdA g P (dg (G + 1) F n (mCt f i) - 1) + 1 := by rw [← hc]; unfold cN; rw [if_pos ⟨by omega, hf⟩]
      rw [rPb] at s1
      rw [hdg, hdv, hLf] at s1
      generalize hd : dg (G + 1) F n (mCt f i) = d at s1 hdg hcv
      have hdG : d < G + 1 := by rw [← hdg]; exact Nat.mod_lt _ (by omega)
      by_cases d0 : d = 0
      · rw [if_pos d0] at s1 hcv
        refine ⟨_, s1, rfl, by rw [pC, if_pos hcv, Nat.zero_add]; exact s3, s4.trans ?_, fun z => MT_no (s5 z) hcv (fun r => by omega)⟩
        constructor
        · rintro ⟨a1, a2⟩
          refine ⟨fun q b1 b2 b3 => ?_, fun q q' b1 b2 b3 b4 => ?_⟩
          · by_cases e : q = i
            · rw [e] at b3; exact absurd hcv b3
            · exact a1 q (by omega) (by omega) b3
          · by_cases e : q = i
            · rw [e] at b4; exact absurd hcv b4
            · exact a2 q q' (by omega) b2 (by omega) b4
        · rintro ⟨a1, a2⟩
          exact ⟨fun q b1 b2 => a1 q (by omega) (by omega), fun q q' b1 b2 b3 => a2 q q' (by omega) b2 (by omega)⟩
      · rw [if_neg d0] at s1 hcv
        have hj := sdA_lt g P (d - 1) (by omega)
        generalize sdA g P (d - 1) = j at s1 hcv hj
        have fj : f j = false := by have := hj.2; rw [hg] at this; simpa using this
        have fl : s.2.2.1 = true → (decide (s.2.2.2 j = -1) = true ↔ ∀ r, i + 1 ≤ r → r < P → ¬ c r = j + 1) := by
          intro z
          obtain ⟨-, m2⟩ := s5 z j hj.1
          obtain ⟨m3, m4⟩ := m2 fj
          rw [decide_eq_true_eq]
          constructor
          · intro e r r1 r2 er
            rw [m3 r r1 r2 er] at e
            exact nI_m1 (by omega) e
          · intro e
            exact m4 e
        have hAij : A i j = al i j := by rw [hA, decide_eq_true (show i < P by omega), hf, decide_eq_true hj.1, fj]; rfl
        refine ⟨_, s1, rfl, ?_, ?_, fun z => ?_⟩
        · show s.2.1 + 1 = _
          rw [pC, if_neg (by omega), s3, Nat.add_comm]
        · show (s.2.2.1 && decide (s.2.2.2 j = -1) && al i j) = true ↔ _
          rw [Bool.and_eq_true, Bool.and_eq_true]
          constructor
          · rintro ⟨⟨z1, z2⟩, z3⟩
            obtain ⟨a1, a2⟩ := s4.mp z1
            have z4 := (fl z1).mp z2
            refine ⟨fun q b1 b2 b3 => ?_, fun q q' b1 b2 b3 b4 => ?_⟩
            · by_cases e : q = i
              · rw [e, hcv, Nat.add_sub_cancel, hAij]; exact z3
              · exact a1 q (by omega) (by omega) b3
            · by_cases e : q = i
              · rw [e, hcv]
                intro e2
                exact z4 q' (by omega) (by omega) e2.symm
              · exact a2 q q' (by omega) b2 (by omega) b4
          · rintro ⟨a1, a2⟩
            have z1 : s.2.2.1 = true := s4.mpr ⟨fun q b1 b2 => a1 q (by omega) (by omega), fun q q' b1 b2 b3 => a2 q q' (by omega) b2 (by omega)⟩
            refine ⟨⟨z1, (fl z1).mpr (fun r r1 r2 er => a2 i r (by omega) (by omega) (by omega) (by omega) (by rw [hcv, er]))⟩, ?_⟩
            have := a1 i (by omega) (by omega) (by omega)
            rw [hcv, Nat.add_sub_cancel, hAij] at this
            exact this
        · have z' : (s.2.2.1 && decide (s.2.2.2 j = -1) && al i j) = true := z
          rw [Bool.and_eq_true, Bool.and_eq_true] at z'
          exact MT_add (s5 z'.1.1) (by omega) hcv hf fj (fun r => by omega) (by omega) (fun r r1 r2 => (fl z'.1.1).mp z'.1.2 r r1 r2) (fun q hq => rfl)
theorem rMst_v {Lf Rt : Nat → Nat} {R k : Nat} (h0 : -1 < rPr (rIn Lf Rt R al 0 k)) : ∀ N, 1 ≤ N → ∃ n0, n0 < N ∧ rMst Lf Rt R al k N = (rPr (rIn Lf Rt R al n0 k), (rIn Lf Rt R al n0 k).2.2.2) ∧ (∀ n, n < N → rPr (rIn Lf Rt R al n k) ≤ rPr (rIn Lf Rt R al n0 k)) ∧ ∀ n, n < n0 → rPr (rIn Lf Rt R al n k) < rPr (rIn Lf Rt R al n0 k) := by
  intro N
  induction N with
  | zero => intro h; omega
  | succ N ih =>
    intro _
    by_cases e : N = 0
    · subst e
      refine ⟨0, by omega, ?_, fun n hn => ?_, fun n hn => by omega⟩
      · exact if_pos h0
      · rw [show n = 0 by omega]; exact Int32.le_refl _
    · obtain ⟨n0, a1, a2, a3, a4⟩ := ih (by omega)
      rw [rMst, a2]
      by_cases l : rPr (rIn Lf Rt R al n0 k) < rPr (rIn Lf Rt R al N k)
      · rw [if_pos l]
        refine ⟨N, by omega, rfl, fun n hn => ?_, fun n hn => Int32.lt_of_le_of_lt (a3 n hn) l⟩
        by_cases e2 : n = N
        · rw [e2]; exact Int32.le_refl _
        · exact Int32.le_of_lt (Int32.lt_of_le_of_lt (a3 n (by omega)) l)
      · rw [if_neg l]
        refine ⟨n0, by omega, rfl, fun n hn => ?_, a4⟩
        by_cases e2 : n = N
        · rw [e2]; exact Int32.not_lt.mp l
        · exact a3 n (by omega)
/-- both ways come to the same -/
theorem marry_eq {su : Nat → Int32} (hg : ∀ i, g i = !f i) (hF : F = mCt f P) (hG : G = mCt g P) (hA : ∀ i j, A i j = (decide (i < P) && f i && decide (j < P) && !f j && al i j)) (hP : P ≤ 7) (hsu : SA A su) {ms : Int32 × (Nat → Int32)} (hms : ms = rMst (sdA f P) (sdA g P) G al F ((G + 1) ^ F)) : ms.1 = mMp su 7 0 0 ∧ ¬ ms.1 = -1 ∧ ∀ k, k < P → ms.2 k = (mAr su (mMp su 7 0 0) 7).1 k := by
  have hAt : ∀ i j, A i j = true → i < P ∧ j < P ∧ f i = true ∧ f j = false := by
    intro i j h
    rw [hA] at h
    simp only [Bool.and_eq_true, decide_eq_true_eq, Bool.not_eq_true'] at h
    exact ⟨h.1.1.1.1, h.1.1.2, h.1.1.1.2, h.1.2⟩
  have hA7 : ∀ i j, A i j = true → j < 7 := fun i j h => by have := (hAt i j h).2.1; omega
  have hA' : ∀ i j, i < 7 → j < 7 → A i j = true → i < P ∧ j < P ∧ f i = true ∧ f j = false := fun i j _ _ h => hAt i j h
  have hgr := cW_gr (P := P) (f := f) hsu hA'
  obtain ⟨-, -, -, -, -, hMT⟩ := mAr_v (P := P) (f := f) hsu hA' 7 (by omega)
  have hmp : mMp su 7 0 0 = nI (pM A 7 0 (fun _ => false)) := by
    rw [show (0 : Int32) = nI 0 from rfl, mMp_p hsu 7 0 0 rfl (by omega)]
    congr 2
    funext k
    exact Nat.zero_testBit k
  generalize hcs : cW su (mMp su 7 0 0) = cs at hgr hMT
  obtain ⟨gv, gc⟩ := wGr_ok hgr 7 0 rfl
  have t0 : tS cs 0 = fun _ => false := rfl
  rw [t0] at gv gc
  have gPV := ((pV_PV hA7 7 0 _).mp gv).1
  have cs0 : ∀ i, P ≤ i → i < 7 → cs i = 0 := by
    intro i h1 h2
    rcases Nat.eq_zero_or_pos (cs i) with e | e
    · exact e
    · have := (hAt _ _ (gPV.1 i (by omega) (by omega) (by omega))).1
      omega
  -- the number of the chosen way
  let d : Nat → Nat := fun k => if cs (sdA f P k) = 0 then 0 else mCt g (cs (sdA f P k) - 1) + 1
  have csA : ∀ i, i < P → ¬ cs i = 0 → f i = true ∧ cs i - 1 < P ∧ f (cs i - 1) = false := by
    intro i h1 h2
    have := hAt _ _ (gPV.1 i (by omega) (by omega) h2)
    exact ⟨this.2.2.1, this.2.1, this.2.2.2⟩
  have dB : ∀ k, k < F → d k < G + 1 := by
    intro k hk
    show (if cs (sdA f P k) = 0 then 0 else mCt g (cs (sdA f P k) - 1) + 1) < G + 1
    split
    · omega
    · next h =>
      have hl := sdA_lt f P k (by rw [← hF]; exact hk)
      obtain ⟨a1, a2, a3⟩ := csA _ hl.1 h
      have := mCt_lt (f := g) (i := cs (sdA f P k) - 1) (n := P) (by rw [hg, a3]; rfl) a2
      omega
  have nsl : nb (G + 1) d F < (G + 1) ^ F := nb_lt F dB
  have csN : ∀ i, i < P → cN P f g (G + 1) F (nb (G + 1) d F) i = cs i := by
    intro i hi
    cases hf : f i with
    | false =>
      rw [cN_0 (fun z => by rw [hf] at z; cases z.2)]
      rcases Nat.eq_zero_or_pos (cs i) with e | e
      · exact e.symm
      · have := (csA i hi (by omega)).1
        rw [hf] at this
        cases this
    | true =>
      have kF : mCt f i < F := by rw [hF]; exact mCt_lt hf hi
      unfold cN
      rw [if_pos ⟨hi, hf⟩, nb_dg dB kF]
      show (if (if cs (sdA f P (mCt f i)) = 0 then 0 else mCt g (cs (sdA f P (mCt f i)) - 1) + 1) = 0 then 0 else sdA g P ((if cs (sdA f P (mCt f i)) = 0 then 0 else mCt g (cs (sdA f P (mCt f i)) - 1) + 1) - 1) + 1) = cs i
      rw [sdA_of hf P hi]
      by_cases e : cs i = 0
      · rw [if_pos e, if_pos rfl, e]
      · obtain ⟨a1, a2, a3⟩ := csA i hi e
        rw [if_neg e, if_neg (by omega), Nat.add_sub_cancel, sdA_of (by rw [hg, a3]; rfl) P a2]
        omega
  -- what a number is worth
  have val : ∀ n, ∃ s : rPs, rIn (sdA f P) (sdA g P) G al n F = s ∧ s.2.1 = pC (cN P f g (G + 1) F n) P 0 ∧ (s.2.2.1 = true ↔ PV A P 0 (cN P f g (G + 1) F n)) ∧ (s.2.2.1 = true → MT P f (cN P f g (G + 1) F n) (fun r => 0 ≤ r) s.2.2.2) := by
    intro n
    obtain ⟨s, s1, s2, s3, s4, s5⟩ := rIn_v (n := n) hg hF hG hA hP P 0 (Nat.zero_add P)
    exact ⟨s, s1, s3, s4, s5⟩
  have pvx : ∀ c : Nat → Nat, (∀ i, P ≤ i → i < 7 → c i = 0) → PV A P 0 c → pV A 7 0 (fun _ => false) c ∧ pC c 7 0 = pC c P 0 := by
    intro c c0 h
    refine ⟨(pV_PV hA7 7 0 _).mpr ⟨⟨fun q b1 b2 b3 => ?_, fun q q' b1 b2 b3 b4 e => ?_⟩, fun _ _ _ _ => rfl⟩, ?_⟩
    · refine h.1 q b1 ?_ b3
      by_cases l : q < P
      · omega
      · exact absurd (c0 q (by omega) (by omega)) b3
    · by_cases l : q' < P
      · exact h.2 q q' b1 b2 (by omega) b4 e
      · rw [c0 q' (by omega) (by omega)] at e
        exact b4 e
    · have := pC_add (c := c) P 0 (7 - P) (fun r a b => c0 r (by omega) (by omega))
      rw [show P + (7 - P) = 7 by omega] at this
      exact this
  have cN0 : ∀ n i, P ≤ i → i < 7 → cN P f g (G + 1) F n i = 0 := fun n i h _ => cN_0 (fun z => by omega)
  have pCc : ∀ m i (c c' : Nat → Nat), (∀ r, i ≤ r → r < i + m → c r = c' r) → pC c m i = pC c' m i := by
    intro m
    induction m with
    | zero => intro i c c' _; rfl
    | succ m ih => intro i c c' h; rw [pC, pC, h i (by omega) (by omega), ih (i + 1) c c' (fun r a b => h r (by omega) (by omega))]
  -- the chosen number is worth the most
  have vs : rPr (rIn (sdA f P) (sdA g P) G al (nb (G + 1) d F) F) = nI (pM A 7 0 (fun _ => false)) := by
    obtain ⟨s, s1, s2, s3, s4⟩ := val (nb (G + 1) d F)
    have e : PV A P 0 (cN P f g (G + 1) F (nb (G + 1) d F)) := by
      refine ⟨fun q b1 b2 b3 => ?_, fun q q' b1 b2 b3 b4 => ?_⟩
      · rw [csN q (by omega)] at b3 ⊢
        exact gPV.1 q b1 (by omega) b3
      · rw [csN q (by omega)] at b4 ⊢
        rw [csN q' (by omega)]
        exact gPV.2 q q' b1 b2 (by omega) b4
    rw [s1]
    unfold rPr
    rw [if_pos (s3.mpr e), s2, ← gc, ← (pvx _ (cN0 _) e).2]
    congr 1
    refine pCc 7 0 _ _ (fun r _ h => ?_)
    by_cases l : r < P
    · exact csN r l
    · rw [cN0 _ r (by omega) (by omega), cs0 r (by omega) (by omega)]
  have v0 : -1 < rPr (rIn (sdA f P) (sdA g P) G al 0 F) := by
    obtain ⟨s, s1, s2, s3, s4⟩ := val 0
    have z : ∀ i, cN P f g (G + 1) F 0 i = 0 := by
      intro i
      unfold cN dg
      simp
    rw [s1]
    unfold rPr
    rw [if_pos (s3.mpr ⟨fun q _ _ b => absurd (z q) b, fun q q' _ _ _ b => absurd (z q) b⟩), s2]
    have b : pC (cN P f g (G + 1) F 0) P 0 ≤ 7 := by
      have : ∀ m i, pC (cN P f g (G + 1) F 0) m i ≤ m := by
        intro m
        induction m with
        | zero => intro i; exact Nat.le_refl _
        | succ m ih => intro i; rw [pC]; have := ih (i + 1); split <;> omega
      have := this P 0
      omega
    refine Int32.lt_iff_toInt_lt.mpr ?_
    rw [nI_toInt (by omega)]
    have e1 : (-1 : Int32).toInt = -1 := by decide
    omega
  have hpos : 1 ≤ (G + 1) ^ F := Nat.pow_pos (by omega)
  obtain ⟨n0, a1, a2, a3, a4⟩ := rMst_v v0 _ hpos
  have b7 := pM_le (A := A) 7 0 (fun _ => false)
  obtain ⟨s, s1, s2, s3, s4⟩ := val n0
  have ge := a3 _ nsl
  rw [vs] at ge
  have fl : s.2.2.1 = true := by
    cases hs : s.2.2.1 with
    | true => rfl
    | false =>
      rw [s1] at ge
      unfold rPr at ge
      rw [hs] at ge
      have g1 := Int32.le_iff_toInt_le.mp ge
      rw [nI_toInt (by omega)] at g1
      have g2 : (if false = true then nI s.2.1 else (-1 : Int32)).toInt = -1 := by rw [if_neg (by decide)]; decide
      rw [g2] at g1
      omega
  obtain ⟨w1, w2⟩ := pvx _ (cN0 n0) (s3.mp fl)
  have le := pV_le _ _ _ w1
  have v0v : rPr (rIn (sdA f P) (sdA g P) G al n0 F) = nI (pC (cN P f g (G + 1) F n0) 7 0) := by rw [s1]; unfold rPr; rw [if_pos fl, s2, w2]
  rw [v0v] at ge
  have ge2 := nle ge (by omega) (by omega)
  have opt : pC (cN P f g (G + 1) F n0) 7 0 = pM A 7 0 (fun _ => false) := by omega
  rw [hms, a2]
  refine ⟨by rw [hmp, ← opt]; exact v0v, ?_, ?_⟩
  · show ¬ rPr (rIn (sdA f P) (sdA g P) G al n0 F) = -1
    rw [v0v]
    exact nI_m1 (by omega)
  · have same : ∀ q, q < P → cN P f g (G + 1) F n0 q = cs q := by
      rcases wGr_min hgr 7 0 rfl w1 opt with h | ⟨q, q1, q2, q3, q4⟩
      · exact fun q hq => (h q (by omega) (by omega)).symm
      · exfalso
        have qP : q < P := by
          by_cases l : q < P
          · exact l
          · rw [cN0 n0 q (by omega) (by omega)] at q4; omega
        have fq : f q = true := by
          cases hf : f q with
          | true => rfl
          | false => rw [cN_0 (fun z => by rw [hf] at z; cases z.2)] at q4; omega
        have kF : mCt f q < F := by rw [hF]; exact mCt_lt fq qP
        have inv : ∀ x y, x < G + 1 → y < G + 1 → ((if x = 0 then 0 else sdA g P (x - 1) + 1) < (if y = 0 then 0 else sdA g P (y - 1) + 1) → x < y) ∧ ((if x = 0 then 0 else sdA g P (x - 1) + 1) = (if y = 0 then 0 else sdA g P (y - 1) + 1) → x = y) := by
          intro x y hx hy
          have cx : ∀ x, x < G + 1 → ¬ x = 0 → mCt g (sdA g P (x - 1)) = x - 1 := fun x hx h => sdA_ct P (by omega)
          by_cases ex : x = 0
          · by_cases ey : y = 0
            · rw [if_pos ex, if_pos ey]; exact ⟨fun h => by omega, fun _ => by omega⟩
            · rw [if_pos ex, if_neg ey]; exact ⟨fun h => by omega, fun h => by omega⟩
          · by_cases ey : y = 0
            · rw [if_neg ex, if_pos ey]; exact ⟨fun h => by omega, fun h => by omega⟩
            · rw [if_neg ex, if_neg ey]
              refine ⟨fun h => ?_, fun h => ?_⟩
              · have hgx := (sdA_lt g P (x - 1) (by omega)).2
                have := mCt_lt hgx (show sdA g P (x - 1) < sdA g P (y - 1) by omega)
                rw [cx x hx ex, cx y hy ey] at this
                omega
              · have e : sdA g P (x - 1) = sdA g P (y - 1) := by omega
                have e2 := cx x hx ex
                rw [e, cx y hy ey] at e2
                omega
        have dlt : ∀ n k, dg (G + 1) F n k < G + 1 := fun n k => Nat.mod_lt _ (by omega)
        have cNv : ∀ n r, r < P → f r = true → cN P f g (G + 1) F n r = if dg (G + 1) F n (mCt f r) = 0 then 0 else sdA g P (dg (G + 1) F n (mCt f r) - 1) + 1 := fun n r h1 h2 => by unfold cN; rw [if_pos ⟨h1, h2⟩]
        have l1 : nb (G + 1) d F < n0 := by
          refine dg_lt (k := mCt f q) (by omega) kF nsl a1 (fun r hr => ?_) ?_
          · have rF : r < mCt f P := by omega
            have hl := sdA_lt f P r rF
            have hct := sdA_ct P rF
            have hlq : sdA f P r < q := by
              rcases Nat.lt_or_ge (sdA f P r) q with z | z
              · exact z
              · have := mCt_mono (f := f) (i := q) _ z
                omega
            have e := q3 (sdA f P r) (by omega) hlq
            rw [← csN _ hl.1, cNv _ _ hl.1 hl.2, cNv _ _ hl.1 hl.2, hct] at e
            exact (inv _ _ (dlt _ _) (dlt _ _)).2 e
          · rw [← csN _ qP, cNv _ _ qP fq, cNv _ _ qP fq] at q4
            exact (inv _ _ (dlt _ _) (dlt _ _)).1 q4
        have l2 := a4 _ l1
        rw [vs, v0v, opt] at l2
        exact nI_nlt (Nat.le_refl _) (by omega) l2
    intro k hk
    show (rIn (sdA f P) (sdA g P) G al n0 F).2.2.2 k = _
    rw [s1]
    exact MT_u (s4 fl) hMT (fun r hr => ⟨Nat.zero_le _, by omega⟩) same k hk
end S55
