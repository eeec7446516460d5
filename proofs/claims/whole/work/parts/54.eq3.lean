/-! MARRIAGES: bits, and the class's choices -/
theorem nI_and31 : ∀ k, k < 32 → nI k &&& 31 = nI k := by decide +kernel
theorem nI_smod : ∀ k, k < 32 → ((nI k).toBitVec.smod 32).toNat = k := by decide +kernel
theorem mHas_n {n k : Nat} (hn : n < 2 ^ 31) (hk : k < 31) : mHas (nI n) (nI k) = n.testBit k := by
  unfold mHas
  rw [nI_and31 k (by omega), pk_shrN hn (nI k) k (nI_smod k (by omega)), pk_andN (n := n / 2 ^ k) (Nat.lt_of_le_of_lt (Nat.div_le_self _ _) (by omega)) 1 (by decide), Nat.testBit_eq_decide_div_mod_eq]
  rw [decide_eq_decide]
  exact nI_eq (b := 1) (Nat.lt_trans (Nat.mod_lt _ (by omega)) (by omega)) (by omega)
theorem nI_or (a b : Nat) : nI a ||| nI b = nI (a ||| b) := by
  apply Int32.toBitVec_inj.mp
  show BitVec.ofNat 32 a ||| BitVec.ofNat 32 b = BitVec.ofNat 32 (a ||| b)
  rw [BitVec.ofNat_or]
theorem nI_and (a b : Nat) : nI a &&& nI b = nI (a &&& b) := by
  apply Int32.toBitVec_inj.mp
  show BitVec.ofNat 32 a &&& BitVec.ofNat 32 b = BitVec.ofNat 32 (a &&& b)
  rw [BitVec.ofNat_and]
theorem nI_pw : ∀ n, n < 31 → (1 : Int32) <<< (nI n &&& 31) = nI (2 ^ n) := by decide +kernel
theorem mBits_v {f : Nat → Bool} : ∀ n, n ≤ 31 → ∃ s, mBits f n = nI s ∧ s < 2 ^ n ∧ ∀ k, s.testBit k = (decide (k < n) && f k) := by
  intro n
  induction n with
  | zero => exact fun _ => ⟨0, rfl, by decide, fun k => by simp⟩
  | succ n ih =>
    intro hn
    obtain ⟨s, e, hs, hb⟩ := ih (by omega)
    rw [mBits]
    by_cases hf : f n = true
    · rw [if_pos hf, e, nI_pw n (by omega), nI_or]
      refine ⟨s ||| 2 ^ n, rfl, Nat.or_lt_two_pow (Nat.lt_trans hs (Nat.pow_lt_pow_right (by omega) (by omega))) (Nat.pow_lt_pow_right (by omega) (by omega)), fun k => ?_⟩
      rw [Nat.testBit_or, hb, Nat.testBit_two_pow]
      by_cases ek : k = n
      · subst ek; simp [hf]
      · by_cases l : k < n
        · simp [l, show k < n + 1 by omega, show ¬ n = k by omega]
        · simp [l, show ¬ k < n + 1 by omega, show ¬ n = k by omega]
    · rw [if_neg hf]
      refine ⟨s, e, Nat.lt_trans hs (Nat.pow_lt_pow_right (by omega) (by omega)), fun k => ?_⟩
      rw [hb]
      by_cases ek : k = n
      · subst ek; simp [hf]
      · by_cases l : k < n
        · simp [l, show k < n + 1 by omega]
        · simp [l, show ¬ k < n + 1 by omega]
theorem mBits_has {f : Nat → Bool} {n k : Nat} (hn : n ≤ 31) (hk : k < 31) : mHas (mBits f n) (nI k) = (decide (k < n) && f k) := by
  obtain ⟨s, e, hs, hb⟩ := mBits_v (f := f) n hn
  rw [e, mHas_n (Nat.lt_of_lt_of_le hs (Nat.pow_le_pow_right (by omega) hn)) hk, hb]
theorem n128_st : ∀ a, a < 128 → ∀ b, b < 128 → nI a &&& (nI b ^^^ (-1)) = nI (a &&& (127 ^^^ b)) := by decide +kernel
theorem n128_or {t j : Nat} (ht : t < 128) (hj : j < 7) : nI t ||| ((1 : Int32) <<< (nI j &&& 31)) = nI (t ||| 2 ^ j) ∧ t ||| 2 ^ j < 128 := by
  rw [nI_pw j (by omega), nI_or]
  exact ⟨rfl, Nat.or_lt_two_pow (n := 7) ht (Nat.pow_lt_pow_right (by omega) hj)⟩
theorem tb_tA (t j : Nat) : Nat.testBit (t ||| 2 ^ j) = tA (Nat.testBit t) j := by
  funext k
  unfold tA
  rw [Nat.testBit_or, Nat.testBit_two_pow]
  congr 1
  rw [decide_eq_decide]
  exact eq_comm
section S54
variable {A : Nat → Nat → Bool} {su : Nat → Int32} {P : Nat} {f : Nat → Bool}
theorem pM_le : ∀ n i t, pM A n i t ≤ n := by
  intro n
  induction n with
  | zero => intro i t; exact Nat.le_refl _
  | succ n ih =>
    intro i t
    rw [pM]
    rcases pJ_at (g := fun j => A i j && !t j) (h := fun j => pM A n (i + 1) (tA t j)) (m := pM A n (i + 1) t) 7 with e | ⟨j, -, -, e⟩
    · rw [e]; have := ih (i + 1) t; omega
    · rw [e]; have := ih (i + 1) (tA t j); show 1 + pM A n (i + 1) (tA t j) ≤ n + 1; omega
theorem mFj_p {g g' : Nat → Bool} {h : Nat → Int32} {h' : Nat → Nat} {m : Nat} : ∀ n, (∀ j, j < n → g j = g' j) → (∀ j, j < n → h j = nI (h' j) ∧ h' j ≤ 7) → m ≤ 7 → mFj g h (nI m) n = nI (pJ g' h' m n) ∧ pJ g' h' m n ≤ 8 := by
  intro n
  induction n with
  | zero => intro _ _ hm; exact ⟨rfl, by show m ≤ 8; omega⟩
  | succ n ih =>
    intro h1 h2 hm
    obtain ⟨a1, a2⟩ := ih (fun j hj => h1 j (by omega)) (fun j hj => h2 j (by omega)) hm
    have e1 := h1 n (by omega)
    obtain ⟨e2, e3⟩ := h2 n (by omega)
    rw [mFj, pJ, e1]
    by_cases hg : g' n = true
    · rw [if_pos hg, if_pos hg, a1, e2, show (1 : Int32) = nI 1 from rfl, nI_add, mMax_n (by omega) (by omega)]
      exact ⟨rfl, by omega⟩
    · rw [if_neg hg, if_neg hg]
      exact ⟨a1, a2⟩
/-- the suitors' bits stand for A -/
def SA (A : Nat → Nat → Bool) (su : Nat → Int32) : Prop := ∀ i, i < 7 → ∃ s, s < 128 ∧ su i = nI s ∧ ∀ j, j < 7 → A i j = s.testBit j
theorem SA.st (h : SA A su) {i t j : Nat} (hi : i < 7) (ht : t < 128) (hj : j < 7) : mHas (su i &&& (nI t ^^^ (-1))) (nI j) = (A i j && !t.testBit j) := by
  obtain ⟨s, h1, h2, h3⟩ := h i hi
  rw [h2, n128_st s h1 t ht, mHas_n (Nat.lt_of_le_of_lt Nat.and_le_left (by omega)) (by omega), Nat.testBit_and, h3 j hj, Nat.testBit_xor]
  have : ∀ j, j < 7 → Nat.testBit 127 j = true := by decide +kernel
  rw [this j hj, Bool.true_xor]
theorem mMp_p (h : SA A su) : ∀ n i t, i + n = 7 → t < 128 → mMp su n i (nI t) = nI (pM A n i (Nat.testBit t)) := by
  intro n
  induction n with
  | zero => intro i t _ _; rfl
  | succ n ih =>
    intro i t hi ht
    rw [mMp, pM, ih (i + 1) t (by omega) ht]
    refine (mFj_p (g' := fun j => A i j && !Nat.testBit t j) (h' := fun j => pM A n (i + 1) (tA (Nat.testBit t) j)) 7 (fun j hj => h.st (by omega) ht hj) (fun j hj => ?_) (by have := pM_le (A := A) n (i + 1) (Nat.testBit t); omega)).1
    obtain ⟨e1, e2⟩ := n128_or ht hj
    refine ⟨?_, by have := pM_le (A := A) n (i + 1) (tA (Nat.testBit t) j); show pM A n (i + 1) (tA (Nat.testBit t) j) ≤ 7; omega⟩
    show mMp su n (i + 1) (nI t ||| ((1 : Int32) <<< (nI j &&& 31))) = nI (pM A n (i + 1) (tA (Nat.testBit t) j))
    rw [e1, ih (i + 1) _ (by omega) e2, tb_tA]
theorem mFst_p {g g' : Nat → Bool} : ∀ n, n ≤ 7 → (∀ j, j < n → g j = g' j) → mFst g n = if pF g' n = 0 then -1 else nI (pF g' n - 1) := by
  intro n
  induction n with
  | zero => intro _ _; rfl
  | succ n ih =>
    intro hn h1
    rw [mFst, pF, ih (by omega) (fun j hj => h1 j (by omega)), h1 n (by omega)]
    by_cases e : pF g' n = 0
    · rw [if_pos e, if_pos rfl, if_pos e]
      by_cases hg : g' n = true
      · rw [if_pos hg, if_pos hg, if_neg (by omega), Nat.add_sub_cancel]
      · rw [if_neg hg, if_neg hg, if_pos rfl]
    · have hl : pF g' n - 1 < 7 := by
        cases hp : pF g' n with
        | zero => exact absurd hp e
        | succ j => have := (pF_s n hp).1; omega
      rw [if_neg e, if_neg (nI_m1 (by omega)), if_neg e, if_neg e]
theorem mCh_p (h : SA A su) {i t m : Nat} (hi : i < 7) (ht : t < 128) (hm : m ≤ 7) : mCh su i (nI t) (nI m) = if pH A (6 - i) i (Nat.testBit t) m = 0 then -1 else nI (pH A (6 - i) i (Nat.testBit t) m - 1) := by
  unfold mCh pH
  rw [mMp_p h (6 - i) (i + 1) t (by omega) ht]
  have b1 := pM_le (A := A) (6 - i) (i + 1) (Nat.testBit t)
  by_cases e : pM A (6 - i) (i + 1) (Nat.testBit t) = m
  · rw [if_pos ((nI_eq (by omega) (by omega)).mpr e), if_pos e, if_pos rfl]
  · rw [if_neg (mt (nI_eq (by omega) (by omega)).mp e), if_neg e]
    refine mFst_p 7 (by omega) (fun j hj => ?_)
    obtain ⟨e1, e2⟩ := n128_or ht hj
    show (mHas (su i &&& (nI t ^^^ (-1))) (nI j) && decide (1 + mMp su (6 - i) (i + 1) (nI t ||| ((1 : Int32) <<< (nI j &&& 31))) = nI m)) = (A i j && !Nat.testBit t j && decide (1 + pM A (6 - i) (i + 1) (tA (Nat.testBit t) j) = m))
    rw [h.st hi ht hj, e1, mMp_p h (6 - i) (i + 1) _ (by omega) e2, tb_tA, show (1 : Int32) = nI 1 from rfl, nI_add]
    have b2 := pM_le (A := A) (6 - i) (i + 1) (tA (Nat.testBit t) j)
    congr 1
    rw [decide_eq_decide]
    exact nI_eq (by omega) (by omega)
theorem tS_iff {c : Nat → Nat} {j : Nat} : ∀ i, tS c i j = true ↔ ∃ r, r < i ∧ c r = j + 1 := by
  intro i
  induction i with
  | zero => exact ⟨fun h => (by cases h), fun ⟨r, hr, _⟩ => absurd hr (Nat.not_lt_zero _)⟩
  | succ i ih =>
    rw [tS]
    by_cases e : c i = 0
    · rw [if_pos e, ih]
      constructor
      · rintro ⟨r, hr, er⟩; exact ⟨r, by omega, er⟩
      · rintro ⟨r, hr, er⟩
        by_cases q : r = i
        · rw [q, e] at er; omega
        · exact ⟨r, by omega, er⟩
    · rw [if_neg e]
      unfold tA
      rw [Bool.or_eq_true, ih, decide_eq_true_eq]
      constructor
      · rintro (⟨r, hr, er⟩ | er)
        · exact ⟨r, by omega, er⟩
        · exact ⟨i, by omega, by omega⟩
      · rintro ⟨r, hr, er⟩
        by_cases q : r = i
        · rw [q] at er; exact Or.inr (by omega)
        · exact Or.inl ⟨r, by omega, er⟩
/-- whom each chooses, by the class -/
def cW (su : Nat → Int32) (mp : Int32) (i : Nat) : Nat := if mCh su i (mAr su mp i).2.1 (mp - (mAr su mp i).2.2) < 0 ∨ 6 < mCh su i (mAr su mp i).2.1 (mp - (mAr su mp i).2.2) then 0 else (mCh su i (mAr su mp i).2.1 (mp - (mAr su mp i).2.2)).toNatClampNeg + 1
theorem cW_v {mp : Int32} {i x : Nat} (hx : x ≤ 7) (h : mCh su i (mAr su mp i).2.1 (mp - (mAr su mp i).2.2) = if x = 0 then -1 else nI (x - 1)) : cW su mp i = x := by
  unfold cW
  rw [h]
  by_cases e : x = 0
  · rw [if_pos e, if_pos (Or.inl (by decide)), e]
  · rw [if_neg e, if_neg, nI_clamp (by omega)]
    · omega
    · rintro (z | z)
      · exact nI_pos (by omega) z
      · have := nlt (a := 6) z (by omega) (by omega); omega
theorem pH_le {n i m : Nat} {t : Nat → Bool} : pH A n i t m ≤ 7 := by
  unfold pH
  split
  · omega
  · cases hp : pF (fun j => A i j && !t j && decide (1 + pM A n (i + 1) (tA t j) = m)) 7 with
    | zero => omega
    | succ j => have := (pF_s 7 hp).1; omega
theorem mAr_v (h : SA A su) (hA : ∀ i j, i < 7 → j < 7 → A i j = true → i < P ∧ j < P ∧ f i = true ∧ f j = false) : ∀ i, i ≤ 7 → ∃ t, t < 128 ∧ (mAr su (mMp su 7 0 0) i).2.1 = nI t ∧ Nat.testBit t = tS (cW su (mMp su 7 0 0)) i ∧ mMp su 7 0 0 - (mAr su (mMp su 7 0 0) i).2.2 = nI (pM A (7 - i) i (tS (cW su (mMp su 7 0 0)) i)) ∧ MT P f (cW su (mMp su 7 0 0)) (fun r => r < i) (mAr su (mMp su 7 0 0) i).1 := by
  intro i
  generalize hc : cW su (mMp su 7 0 0) = c
  generalize hmp : mMp su 7 0 0 = mp at hc ⊢
  induction i with
  | zero =>
    intro _
    refine ⟨0, by omega, rfl, ?_, ?_, ?_⟩
    · funext k; show Nat.testBit 0 k = false; exact Nat.zero_testBit k
    · show mp - 0 = _
      rw [Int32.sub_zero, ← hmp, show (0 : Int32) = nI 0 from rfl, mMp_p h 7 0 0 rfl (by omega)]
      congr 2
      funext k
      exact Nat.zero_testBit k
    · intro q hq
      exact ⟨fun _ => ⟨fun z => absurd z (Nat.not_lt_zero _), fun _ => rfl⟩, fun _ => ⟨fun r z => absurd z (Nat.not_lt_zero _), fun _ => rfl⟩⟩
  | succ i ih =>
    intro hi
    obtain ⟨t, t1, t2, t3, t4, t5⟩ := ih (by omega)
    have b := pM_le (A := A) (7 - i) i (tS c i)
    have ch := mCh_p h (i := i) (t := t) (m := pM A (7 - i) i (tS c i)) (by omega) t1 (by omega)
    rw [t3] at ch
    have ch2 : mCh su i (mAr su mp i).2.1 (mp - (mAr su mp i).2.2) = if pH A (6 - i) i (tS c i) (pM A (7 - i) i (tS c i)) = 0 then -1 else nI (pH A (6 - i) i (tS c i) (pM A (7 - i) i (tS c i)) - 1) := by rw [t2, t4]; exact ch
    have ci : c i = pH A (6 - i) i (tS c i) (pM A (7 - i) i (tS c i)) := (congrFun hc i).symm.trans (cW_v pH_le ch2)
    have e7 : 7 - i = 6 - i + 1 := by omega
    have e6 : 7 - (i + 1) = 6 - i := by omega
    have rc := pH_c (A := A) (n := 6 - i) (i := i) (t := tS c i)
    rw [← e7] at rc
    rw [mAr]
    generalize hst : mAr su mp i = st at t2 t4 t5 ch2
    obtain ⟨p, tt, mm⟩ := st
    have t2' : tt = nI t := t2
    have t4' : mp - mm = nI (pM A (7 - i) i (tS c i)) := t4
    have t5' : MT P f c (fun r => r < i) p := t5
    have ch3 : mCh su i tt (mp - mm) = _ := ch2
    simp only []
    rcases rc with ⟨r1, r2⟩ | ⟨j, hj, r1, ha, ht, hm, -, -⟩
    · rw [r1, if_pos rfl] at ch3
      rw [r1] at ci
      rw [ch3, if_pos (Or.inl (by decide)), tS, if_pos ci]
      refine ⟨t, t1, t2', t3, ?_, MT_no t5' ci (fun r => by omega)⟩
      show mp - mm = _
      rw [t4', e6, r2]
    · rw [r1, if_neg (by omega), Nat.add_sub_cancel] at ch3
      rw [r1] at ci
      obtain ⟨o1, o2⟩ := n128_or t1 hj
      obtain ⟨a1, a2, a3, a4⟩ := hA i j (by omega) hj ha
      rw [ch3, if_neg, tS, if_neg (by omega), ci, Nat.add_sub_cancel, nI_clamp (by omega)]
      · refine ⟨t ||| 2 ^ j, o2, ?_, ?_, ?_, ?_⟩
        · show tt ||| _ = _
          rw [t2', o1]
        · rw [tb_tA, t3]
        · show mp - (mm + 1) = _
          have e : mp - (mm + 1) = mp - mm - 1 := by
            simp only [Int32.sub_eq_add_neg, Int32.neg_add, Int32.add_assoc]
          rw [e, t4', ← hm, Nat.add_comm 1, nI_pred, e6]
        · refine MT_add t5' a1 ci a3 a4 (fun r => by omega) (Nat.lt_irrefl i) (fun r hr _ er => ?_) (fun q hq => ?_)
          · have := (tS_iff (c := c) (j := j) i).mpr ⟨r, hr, er⟩
            rw [ht] at this
            cases this
          · show upd (upd p i (nI j)) j (nI i) q = _
            unfold upd
            rfl
      · rintro (z | z)
        · exact nI_pos (by omega) z
        · have := nlt (a := 6) z (by omega) (by omega); omega
theorem cW_gr (h : SA A su) (hA : ∀ i j, i < 7 → j < 7 → A i j = true → i < P ∧ j < P ∧ f i = true ∧ f j = false) : wGr A (cW su (mMp su 7 0 0)) := by
  intro i hi
  obtain ⟨t, t1, t2, t3, t4, -⟩ := mAr_v h hA i (by omega)
  have b := pM_le (A := A) (7 - i) i (tS (cW su (mMp su 7 0 0)) i)
  have ch := mCh_p h (i := i) (t := t) (m := pM A (7 - i) i (tS (cW su (mMp su 7 0 0)) i)) hi t1 (by omega)
  rw [t3] at ch
  exact cW_v pH_le (by rw [t2, t4]; exact ch)
end S54
