/-! CALLS: counts, swings, sends, undo, image, from -/
section S63
variable {μ ν ξ ζ : gM} {i z c a : Int32} {P A W th t T N M U s d n : Nat}
theorem HU.kp (h5 : HU (cH μ 1) (rH μ 0) P A U) (h1 : HL (cH μ 1) (rH μ 0) P A W th t) (hν : ∀ j, j < 537 → mrd ν 64 j = mrd μ 64 j) (c13 : mrd ζ 14 0 = mrd (mKp μ 2 14 U) 14 0) (c14 : ∀ j, j < 80 → mrd ζ 15 j = mrd (mKp μ 2 14 U) 15 j) (hr : ∀ j, 98 ≤ j → j < 179 → mrd ζ 64 j = mrd (mRk ν U) 64 j) : ∃ U', HU (cH ζ 1) (rH ζ 0) P A U' := by
  have hP := h1.1.2.2
  have hU8 := h5.2.2.1
  by_cases hU : U < 8
  · have k1 : mKp μ 2 14 U = mwr (msv μ 2 15 (10 * U)) 14 0 (nI (U + 1)) := if_pos hU
    have k2 : mRk ν U = mwr (mCr ν 0 (99 + 10 * U) 10) 64 98 (nI (U + 1)) := if_pos hU
    rw [k1] at c13 c14
    rw [k2] at hr
    refine ⟨U + 1, h5.add hP hU ?_ ?_ (fun j hj => ?_) (fun j h1 h2 => ?_) ?_⟩
    · show mrd ζ 14 0 = _
      rw [c13, mrd_wr, if_pos ⟨rfl, rfl⟩]
    · show mrd ζ 64 98 = _
      rw [hr 98 (by omega) (by omega), mrd_wr, if_pos ⟨rfl, rfl⟩]
    · show mrd ζ 15 j = mrd μ 15 j
      rw [c14 j (by omega), mrd_wr, if_neg (by omega), mrd_sv, if_neg (by omega)]
    · show mrd ζ 64 j = mrd μ 64 j
      rw [hr j (by omega) (by omega), mrd_wr, if_neg (by omega), mrd_Cr, if_neg (by omega), hν j (by omega)]
    · refine KP.of h1 ?_ ?_ ?_ (fun k hk => ?_) (fun j hj => ?_)
      · show mrd ζ 15 (10 * U + 0) = mrd μ 2 9
        rw [c14 _ (by omega), mrd_wr, if_neg (by omega), mrd_sv, if_pos (by omega), if_pos (by omega)]
      · show mrd ζ 15 (10 * U + 1) = mrd μ 2 10
        rw [c14 _ (by omega), mrd_wr, if_neg (by omega), mrd_sv, if_pos (by omega), if_neg (by omega), if_pos (by omega)]
      · show mrd ζ 15 (10 * U + 2) = mrd μ 2 8
        rw [c14 _ (by omega), mrd_wr, if_neg (by omega), mrd_sv, if_pos (by omega), if_neg (by omega), if_neg (by omega), if_pos (by omega)]
      · show mrd ζ 15 (10 * U + (3 + k)) = mrd μ 5 k
        rw [c14 _ (by omega), mrd_wr, if_neg (by omega), mrd_sv, if_pos (by omega), if_neg (by omega), if_neg (by omega), if_neg (by omega)]
        congr 1
        omega
      · show mrd ζ 64 (99 + 10 * U + j) = mrd μ 64 j
        rw [hr _ (by omega) (by omega), mrd_wr, if_neg (by omega), mrd_Cr, if_pos (by omega), show 99 + 10 * U + j - (99 + 10 * U) + 0 = j by omega, hν j (by omega)]
  · have e8 : U = 8 := by omega
    subst e8
    have k1 : mKp μ 2 14 8 = mwr (msv (mDo μ 14) 2 15 70) 14 0 (nI 8) := if_neg hU
    have k2 : mRk ν 8 = mwr (mCr (mSh ν 70) 0 169 10) 64 98 (nI 8) := if_neg hU
    rw [k1] at c13 c14
    rw [k2] at hr
    refine ⟨8, h5.shift hP ?_ ?_ (fun j hj => ?_) (fun j h1 h2 => ?_) ?_⟩
    · show mrd ζ 14 0 = _
      rw [c13, mrd_wr, if_pos ⟨rfl, rfl⟩]
    · show mrd ζ 64 98 = _
      rw [hr 98 (by omega) (by omega), mrd_wr, if_pos ⟨rfl, rfl⟩]
    · show mrd ζ 15 j = mrd μ 15 (j + 10)
      rw [c14 j (by omega), mrd_wr, if_neg (by omega), mrd_sv, if_neg (by omega), mrd_Do, if_pos (by omega)]
    · show mrd ζ 64 j = mrd μ 64 (j + 10)
      rw [hr j (by omega) (by omega), mrd_wr, if_neg (by omega), mrd_Cr, if_neg (by omega), mrd_Sh, if_pos (by omega), hν _ (by omega)]
    · refine KP.of h1 ?_ ?_ ?_ (fun k hk => ?_) (fun j hj => ?_)
      · show mrd ζ 15 (70 + 0) = mrd μ 2 9
        rw [c14 _ (by omega), mrd_wr, if_neg (by omega), mrd_sv, if_pos (by omega), if_pos (by omega), mrd_Do, if_neg (by omega), if_neg (by omega)]
      · show mrd ζ 15 (70 + 1) = mrd μ 2 10
        rw [c14 _ (by omega), mrd_wr, if_neg (by omega), mrd_sv, if_pos (by omega), if_neg (by omega), if_pos (by omega), mrd_Do, if_neg (by omega), if_neg (by omega)]
      · show mrd ζ 15 (70 + 2) = mrd μ 2 8
        rw [c14 _ (by omega), mrd_wr, if_neg (by omega), mrd_sv, if_pos (by omega), if_neg (by omega), if_neg (by omega), if_pos (by omega), mrd_Do, if_neg (by omega), if_neg (by omega)]
      · show mrd ζ 15 (70 + (3 + k)) = mrd μ 5 k
        rw [c14 _ (by omega), mrd_wr, if_neg (by omega), mrd_sv, if_pos (by omega), if_neg (by omega), if_neg (by omega), if_neg (by omega), mrd_Do, if_neg (by omega), if_neg (by omega)]
        congr 1
        omega
      · show mrd ζ 64 (169 + j) = mrd μ 64 j
        rw [hr _ (by omega) (by omega), mrd_wr, if_neg (by omega), mrd_Cr, if_pos (by omega), show 169 + j - 169 + 0 = j by omega, mrd_Sh, if_neg (by omega), hν j (by omega)]
/-- all but now's houses is as it was, and the rows are -/
theorem HR.kp (h1 : HL (cH μ 1) (rH μ 0) P A W th t) (h2 : HT (cH μ 1) (rH μ 0) T) (h3 : HN (cH μ 1) (rH μ 0) 9 48 N) (h4 : HN (cH μ 1) (rH μ 0) 11 73 M) (h5 : HU (cH μ 1) (rH μ 0) P A U) (hν : ∀ j, j < 537 → mrd ν 64 j = mrd μ 64 j) (hc : ∀ c j, 8 ≤ c → c ≤ 15 → mrd ζ c j = mrd (mKp μ 2 14 U) c j) (hr : ∀ j, 35 ≤ j → j < 179 → mrd ζ 64 j = mrd (mRk ν U) 64 j) {th' t' : Nat} (hL : HL (cH ζ 1) (rH ζ 0) P A W th' t') : HR (cH ζ 1) (rH ζ 0) := by
  have hU8 := h5.2.2.1
  obtain ⟨U', hu⟩ := h5.kp h1 hν (hc 14 0 (by omega) (by omega)) (fun j _ => hc 15 j (by omega) (by omega)) (fun j a b => hr j (by omega) b)
  have e1 : ∀ c j, 8 ≤ c → c ≤ 13 → mrd ζ c j = mrd μ c j := fun c j a b => by rw [hc c j a (by omega), mrd_Kp (by omega) c (by omega)]
  have e2 : ∀ j, 35 ≤ j → j < 98 → mrd ζ 64 j = mrd μ 64 j := fun j a b => by rw [hr j a (by omega), mrd_Rk (by omega) hU8, hν j (by omega)]
  exact ⟨P, A, W, th', t', T, N, M, U', hL, h2.c (e1 8 0 (by omega) (by omega)) (fun j _ => e1 9 j (by omega) (by omega)) (fun j a b => e2 j a (by omega)), h3.c (e1 10 0 (by omega) (by omega)) (fun j _ => e1 11 j (by omega) (by omega)) (fun j a b => e2 j (by omega) (by omega)), h4.c (e1 12 0 (by omega) (by omega)) (fun j _ => e1 13 j (by omega) (by omega)) (fun j a b => e2 j (by omega) (by omega)), hu⟩
theorem mPass_t {snd : Int32 → Int32} {x : Int32} (ht : t ≤ 9999) : ∀ n, ∃ t', t' ≤ 9999 ∧ (mPass snd 9999 n (x, nI t)).2 = nI t' := by
  intro n
  induction n with
  | zero => exact ⟨t, ht, rfl⟩
  | succ n ih =>
    obtain ⟨t', h1, h2⟩ := ih
    rw [mPass]
    split
    · next h =>
      rw [h2] at h
      have := nlt (b := 9999) h (by omega) (by omega)
      refine ⟨t' + 1, by omega, ?_⟩
      show (mPass snd 9999 n (x, nI t)).2 + 1 = _
      rw [h2, nI_1]
    · exact ⟨t', h1, h2⟩
theorem HU.row (h5 : HU (cH μ 1) (rH μ 0) P A U) (hs : RS μ ν) : mrd ν 64 98 = nI U := by rw [hs.row (by omega)]; exact h5.2.1
theorem RS.kp : RS μ (mKp μ 2 14 U) := ⟨fun c j a _ => mrd_Kp (by omega) c (by omega), fun j => by unfold mKp; split <;> rfl⟩
theorem RS.w2 {k : Nat} {x : Int32} {b : Nat} (h : RS μ ν) (hb : b < 63) : RS μ (mwr ν b k x) := ⟨fun c j a q => by rw [mrd_wr, if_neg (by omega)]; exact h.1 c j a q, fun j => h.2 j⟩
theorem mrL_Kp (c j : Nat) : mrL (mKp μ 2 14 U) c j = mrL μ c j := by unfold mKp; split <;> rfl
theorem mrL_Rk (c j : Nat) : mrL (mRk μ U) c j = mrL μ c j := by unfold mRk; split <;> rfl
theorem c_counts (hI : INV μ) : CTi 4 6 MX10_counts MX11_counts [.int z] μ := by
  have h0 := hI.1
  obtain ⟨P, A, W, th, t, T, N, M, U, h1, h2, h3, h4, h5⟩ := h0
  obtain ⟨c0, c8, c9, h16⟩ := h1.cw
  have hU8 := h5.2.2.1
  have nob : ∀ n, z = nI n → 1 ≤ n → n ≤ 99 → oB z 1 99 = false := by
    intro n hn n1 n9
    rw [hn]
    unfold oB
    rw [decide_eq_false]
    rintro (q | q)
    · have := nlt (b := 1) q (by omega) (by omega); omega
    · have := nlt (a := 99) q (by omega) (by omega); omega
  refine s_X10_counts (snd := vSnd (cV μ 2) (nI th) A (nI W) P) h1.lc h5.1 hU8 (fun c => by rw [c0, c8]) (fun hb => ⟨_, rfl, ?_⟩) (fun n hn n1 n9 => ⟨_, rfl, ?_⟩)
  · exact s_X11_counts (snd := fun c => vSnd (rV (mRf μ 10) 0) (mrd (mRf μ 10) 64 7) A (mrd (mRf μ 10) 64 10) P c) (h1.mr (RS.rf 10)) (h5.row (RS.rf 10)) hU8 (fun _ => rfl) (fun _ => ⟨rfl, hI.rf (k := 0) (by omega)⟩) (fun n hn n1 n9 _ _ => tf hb (nob n hn n1 n9))
  · rw [c9]
    obtain ⟨t', ht9, et⟩ := mPass_t (snd := vSnd (cV μ 2) (nI th) A (nI W) P) (x := mrd μ 2 10) h1.2.2.2.2.1.2.2 n
    generalize hx : (mPass (vSnd (cV μ 2) (nI th) A (nI W) P) 9999 n (mrd μ 2 10, nI t)).1 = x
    rw [et]
    generalize hν : mwr (mwr (mKp μ 2 14 U) 2 10 x) 2 9 (nI t') = ν
    have hRS : RS μ ν := by rw [← hν]; exact (RS.kp.w2 (by omega)).w2 (by omega)
    obtain ⟨r0, r8, r9, r10⟩ := h1.rw hRS
    refine s_X11_counts (snd := vSnd (cV μ 2) (nI th) A (nI W) P) (h1.mr hRS) (h5.row hRS) hU8 (fun c => by rw [r0, r8, vSnd_c (h1.ve hRS)]) (fun q => tf q (nob n hn n1 n9)) (fun m hm m1 m9 ξ hξ => ?_)
    have e := (nI_eq (by omega) (by omega)).mp (hn.symm.trans hm)
    subst e
    rw [r10, r9, hx, et] at hξ
    rw [r10, r9, hx]
    refine ⟨rfl, ?_⟩
    have fc : ∀ c j, ¬ c = 64 → ¬ c = 69 → mrd ξ c j = mrd ν c j := fun c j a b => by rw [hξ.1 c j b, mrd_wr, if_neg (by omega), mrd_wr, if_neg (by omega), mrd_Rk (by omega) hU8]
    have fr : ∀ j, ¬ j = 8 → ¬ j = 9 → mrd ξ 64 j = mrd (mRk ν U) 64 j := fun j a b => by rw [hξ.row, mrd_wr, if_neg (by omega), mrd_wr, if_neg (by omega)]
    have fν : ∀ c j, ¬ (c = 2 ∧ (j = 9 ∨ j = 10)) → mrd ν c j = mrd (mKp μ 2 14 U) c j := fun c j a => by rw [← hν, mrd_wr, if_neg (by omega), mrd_wr, if_neg (by omega)]
    refine hI.hs (fun c j q a b => ?_) (fun c j => ?_) ?_
    · by_cases e64 : c = 64
      · subst e64
        rw [fr j (by omega) (by omega), mrd_Rk (by omega) hU8]
        exact hRS.1 64 j (by omega) q
      · by_cases e69 : c = 69
        · exact absurd (by rw [e69]; unfold gScr; omega) q
        · rw [fc c j e64 e69, fν c j (by omega), mrd_Kp (by omega) c (by omega)]
    · rw [hξ.2]
      show mrL (mRk ν U) c j = _
      rw [mrL_Rk, ← hν]
      exact mrL_Kp c j
    · refine HR.kp (ν := ν) h1 h2 h3 h4 h5 (fun j hj => hRS.row hj) (fun c j a b => ?_) (fun j a b => fr j (by omega) (by omega)) (th' := th) (t' := t') ?_
      · rw [fc c j (by omega) (by omega), fν c j (by omega)]
      · have kr : ∀ j, j < 98 → ¬ j = 8 → ¬ j = 9 → mrd ξ 64 j = mrd μ 64 j := fun j a b d => by rw [fr j b d, mrd_Rk (by omega) hU8, hRS.row (by omega)]
        have kc : ∀ c j, c < 14 → ¬ (c = 2 ∧ (j = 9 ∨ j = 10)) → mrd ξ c j = mrd μ c j := fun c j a b => by rw [fc c j (by omega) (by omega), fν c j b, mrd_Kp (by omega) c (by omega)]
        refine h1.tm (t' := t') (th' := th) ?_ ?_ ht9 ?_ ?_ h1.2.2.2.1.2.2 ?_ (fun k hk => ?_) (fun i j q a b => kc _ _ (by unfold lR at q; omega) (by unfold lR at q; omega)) (fun j a b => kr _ (by omega) (by omega) (by omega))
        · show mrd ξ 2 9 = _
          rw [fc 2 9 (by omega) (by omega), ← hν, mrd_wr, if_pos ⟨rfl, rfl⟩]
        · show mrd ξ 64 9 = _
          rw [hξ.row, mrd_wr, if_pos ⟨rfl, rfl⟩]
        · show mrd ξ 2 8 = _
          rw [kc 2 8 (by omega) (by omega), c8]
        · show mrd ξ 64 7 = _
          rw [kr 7 (by omega) (by omega) (by omega)]
          exact h1.2.2.2.1.2.1
        · show mrd ξ 64 8 = mrd ξ 2 10
          rw [hξ.row, mrd_wr, if_neg (by omega), mrd_wr, if_pos ⟨rfl, rfl⟩, fc 2 10 (by omega) (by omega), ← hν, mrd_wr, if_neg (by omega), mrd_wr, if_pos ⟨rfl, rfl⟩]
        · have h7 := h1.1.2.2
          obtain ⟨-, -, g3, -, g5⟩ := h1.2.2.2.2.2.2.1 k hk
          refine ⟨?_, ?_⟩
          · show mrd ξ 64 k = mrd ξ 5 k
            rw [kr k (by omega) (by omega) (by omega), kc 5 k (by omega) (by omega)]
            exact g3
          · show ∃ a, a ≤ 9 ∧ mrd ξ 5 k = nI a
            rw [kc 5 k (by omega) (by omega)]
            exact g5
theorem c_swings (hI : INV μ) : CTi 2 2 MX10_swings MX11_swings [.int i, .int a] μ := by
  have h0 := hI.1
  obtain ⟨P, A, W, th, t, T, N, M, U, h1, h2, h3, h4, h5⟩ := h0
  obtain ⟨c0, c8, c9, h16⟩ := h1.cw
  have hU8 := h5.2.2.1
  have h7 := h1.1.2.2
  have nob : ∀ k, k < P → i = nI k → oB a 0 9 = false → (!mIn i P || oB a 0 9) = false := by
    intro k hk ik q
    rw [ik, mIn_n (by omega), decide_eq_true hk, q]; rfl
  have eq5 : ∀ ν, RS μ ν → ∀ k, k < P → mrd ν 64 k = mrd μ 5 k := fun ν hν k hk => by rw [hν.row (by omega)]; exact (h1.2.2.2.2.2.2.1 k hk).2.2.1
  refine s_X10_swings h1.lc h5.1 hU8 (fun hb => ⟨_, rfl, ?_⟩) (fun k hk ik hb hno => ⟨_, rfl, ?_⟩) (fun k hk ik hb hno => ⟨_, rfl, ?_⟩)
  · exact s_X11_swings (h1.mr (RS.rf 10)) (h5.row (RS.rf 10)) hU8 (fun _ => ⟨rfl, hI.rf (k := 0) (by omega)⟩) (fun k hk ik q _ => tf hb (nob k hk ik q)) (fun k hk ik q _ => tf hb (nob k hk ik q))
  · refine s_X11_swings (h1.mr (RS.rf 11)) (h5.row (RS.rf 11)) hU8 (fun q => tf q (nob k hk ik hb)) (fun _ _ _ _ _ => ⟨rfl, hI.rf (k := 1) (by omega)⟩) (fun k' hk' ik' _ q => ?_)
    have e := (nI_eq (by omega) (by omega)).mp (ik.symm.trans ik')
    subst e
    rw [eq5 _ (RS.rf 11) k hk] at q
    exact absurd hno q
  · obtain ⟨av, ea, a0, a9⟩ := oB_n (A := 0) (B := 9) hb rfl rfl (by omega) (by omega)
    generalize hν : mwr (mKp μ 2 14 U) 5 k a = ν
    have hRS : RS μ ν := by rw [← hν]; exact RS.kp.w2 (by omega)
    refine s_X11_swings (h1.mr hRS) (h5.row hRS) hU8 (fun q => tf q (nob k hk ik hb)) (fun k' hk' ik' _ q => ?_) (fun k' hk' ik' _ q => ?_)
    · have e := (nI_eq (by omega) (by omega)).mp (ik.symm.trans ik')
      subst e
      rw [eq5 _ hRS k hk] at q
      exact absurd q hno
    · have e := (nI_eq (by omega) (by omega)).mp (ik.symm.trans ik')
      subst e
      refine ⟨by rw [eq5 _ hRS k hk], ?_⟩
      have fc : ∀ c j, ¬ c = 64 → mrd (mwr (mRk ν U) 64 k a) c j = mrd ν c j := fun c j q => by rw [mrd_wr, if_neg (by omega), mrd_Rk (by omega) hU8]
      have fr : ∀ j, ¬ j = k → mrd (mwr (mRk ν U) 64 k a) 64 j = mrd (mRk ν U) 64 j := fun j q => by rw [mrd_wr, if_neg (by omega)]
      have fν : ∀ c j, ¬ (c = 5 ∧ j = k) → mrd ν c j = mrd (mKp μ 2 14 U) c j := fun c j q => by rw [← hν, mrd_wr, if_neg q]
      refine hI.hs (fun c j q a b => ?_) (fun c j => ?_) ?_
      · by_cases e64 : c = 64
        · subst e64
          rw [fr j (by omega), mrd_Rk (by omega) hU8]
          exact hRS.1 64 j (by omega) q
        · rw [fc c j e64, fν c j (by omega), mrd_Kp (by omega) c (by omega)]
      · show mrL (mRk ν U) c j = _
        rw [mrL_Rk, ← hν]
        exact mrL_Kp c j
      · refine HR.kp (ν := ν) h1 h2 h3 h4 h5 (fun j hj => hRS.row hj) (fun c j a b => ?_) (fun j a b => fr j (by omega)) (th' := th) (t' := t) ?_
        · rw [fc c j (by omega), fν c j (by omega)]
        · have kr : ∀ j, j < 98 → ¬ j = k → mrd (mwr (mRk ν U) 64 k a) 64 j = mrd μ 64 j := fun j a b => by rw [fr j b, mrd_Rk (by omega) hU8, hRS.row (by omega)]
          have kc : ∀ c j, c < 14 → ¬ (c = 5 ∧ j = k) → mrd (mwr (mRk ν U) 64 k a) c j = mrd μ c j := fun c j a b => by rw [fc c j (by omega), fν c j b, mrd_Kp (by omega) c (by omega)]
          have ks : mrd (mwr (mRk ν U) 64 k a) 5 k = a := by rw [fc 5 k (by omega), ← hν, mrd_wr, if_pos ⟨rfl, rfl⟩]
          have kr2 : mrd (mwr (mRk ν U) 64 k a) 64 k = a := by rw [mrd_wr, if_pos ⟨rfl, rfl⟩]
          refine h1.tm (t' := t) (th' := th) ?_ ?_ h1.2.2.2.2.1.2.2 ?_ ?_ h1.2.2.2.1.2.2 ?_ (fun q hq => ?_) (fun i j q a b => kc _ _ (by unfold lR at q; omega) (by unfold lR at q; omega)) (fun j a b => kr _ (by omega) (by omega))
          · show mrd _ 2 9 = _
            rw [kc 2 9 (by omega) (by omega), c9]
          · show mrd _ 64 9 = _
            rw [kr 9 (by omega) (by omega)]
            exact h1.2.2.2.2.1.2.1
          · show mrd _ 2 8 = _
            rw [kc 2 8 (by omega) (by omega), c8]
          · show mrd _ 64 7 = _
            rw [kr 7 (by omega) (by omega)]
            exact h1.2.2.2.1.2.1
          · show mrd _ 64 8 = mrd _ 2 10
            rw [kr 8 (by omega) (by omega), kc 2 10 (by omega) (by omega)]
            exact h1.2.2.2.2.2.1
          · obtain ⟨-, -, g3, -, g5⟩ := h1.2.2.2.2.2.2.1 q hq
            show mrd (mwr (mRk ν U) 64 k a) 64 q = mrd (mwr (mRk ν U) 64 k a) 5 q ∧ ∃ a', a' ≤ 9 ∧ mrd (mwr (mRk ν U) 64 k a) 5 q = nI a'
            by_cases e : q = k
            · rw [e, ks, kr2]
              exact ⟨rfl, av, a9, ea⟩
            · rw [kr q (by omega) e, kc 5 q (by omega) (by omega)]
              exact ⟨g3, g5⟩
theorem th_set1 : ∀ A, A < 5 → ∀ T, T < 2 ^ A → ∀ k, k < A → nI T ||| ((1 : Int32) <<< (nI k &&& 31)) = nI (T ||| 2 ^ k) ∧ T ||| 2 ^ k < 2 ^ A := by decide +kernel
theorem th_set2 : ∀ A, A < 5 → ∀ T, T < 2 ^ A → ∀ k, k < A → nI T &&& (((1 : Int32) <<< (nI k &&& 31)) ^^^ (-1)) = nI (T &&& (15 ^^^ 2 ^ k)) ∧ T &&& (15 ^^^ 2 ^ k) < 2 ^ A := by decide +kernel
theorem th_set3 : ∀ A, A < 5 → ∀ T, T < 2 ^ A → ∀ k, k < A → nI T ^^^ ((1 : Int32) <<< (nI k &&& 31)) = if mHas (nI T) (nI k) = true then nI (T &&& (15 ^^^ 2 ^ k)) else nI (T ||| 2 ^ k) := by decide +kernel
theorem c_sends (hI : INV μ) : CTi 2 2 MX10_sends MX11_sends [.int i, .int z] μ := by
  have h0 := hI.1
  obtain ⟨P, A, W, th, t, T, N, M, U, h1, h2, h3, h4, h5⟩ := h0
  obtain ⟨c0, c8, c9, h16⟩ := h1.cw
  have hU8 := h5.2.2.1
  have h7 := h1.1.2.2
  have ha4 := h1.2.1.2.2
  have nob : ∀ k, k < A → i = nI k → oB z 0 1 = false → (!mIn i A || oB z 0 1) = false := by
    intro k hk ik q
    rw [ik, mIn_n (by omega), decide_eq_true hk, q]; rfl
  have bit : ∀ ν, RS μ ν → ∀ k, k < A → (mrd ν 64 7 >>> (nI k &&& 31)) &&& 1 = bI (mHas (mrd μ 2 8) (nI k)) := fun ν hν k hk => by rw [(h1.rw hν).2.1, c8, th_bit th h16 k (by omega)]
  refine s_X10_sends h1.lc h5.1 hU8 (fun hb => ⟨_, rfl, ?_⟩) (fun k hk ik hb hno => ⟨_, rfl, ?_⟩) (fun k hk ik hb hno => ⟨_, rfl, ?_⟩)
  · exact s_X11_sends (h1.mr (RS.rf 10)) (h5.row (RS.rf 10)) hU8 (fun _ => ⟨rfl, hI.rf (k := 0) (by omega)⟩) (fun k hk ik q _ => tf hb (nob k hk ik q)) (fun k hk ik q _ => tf hb (nob k hk ik q))
  · refine s_X11_sends (h1.mr (RS.rf 11)) (h5.row (RS.rf 11)) hU8 (fun q => tf q (nob k hk ik hb)) (fun _ _ _ _ _ => ⟨rfl, hI.rf (k := 1) (by omega)⟩) (fun k' hk' ik' _ q => ?_)
    have e := (nI_eq (by omega) (by omega)).mp (ik.symm.trans ik')
    subst e
    rw [bit _ (RS.rf 11) k hk] at q
    exact absurd hno q
  · obtain ⟨s1, s2⟩ := th_set1 A (by omega) th h1.2.2.2.1.2.2 k hk
    obtain ⟨s3, s4⟩ := th_set2 A (by omega) th h1.2.2.2.1.2.2 k hk
    have s7 := th_set3 A (by omega) th h1.2.2.2.1.2.2 k hk
    have s5 : mHas (nI th) (nI k) = false → nI th ^^^ ((1 : Int32) <<< (nI k &&& 31)) = nI (th ||| 2 ^ k) := fun q => by rw [s7, if_neg (by rw [q]; decide)]
    have s6 : mHas (nI th) (nI k) = true → nI th ^^^ ((1 : Int32) <<< (nI k &&& 31)) = nI (th &&& (15 ^^^ 2 ^ k)) := fun q => by rw [s7, if_pos q]
    -- the new set is the same on both sides
    have new : ∃ th', th' < 2 ^ A ∧ (if z = 1 then mrd μ 2 8 ||| ((1 : Int32) <<< (nI k &&& 31)) else mrd μ 2 8 &&& (((1 : Int32) <<< (nI k &&& 31)) ^^^ (-1))) = nI th' ∧ nI th ^^^ ((1 : Int32) <<< (nI k &&& 31)) = nI th' := by
      rw [c8]
      rw [c8] at hno
      rcases oB_01 hb with e | e
      · have hh : mHas (nI th) (nI k) = true := by
          cases hm : mHas (nI th) (nI k) with
          | true => rfl
          | false => rw [hm, e] at hno; exact absurd rfl hno
        refine ⟨th &&& (15 ^^^ 2 ^ k), s4, ?_, s6 hh⟩
        rw [e, if_neg (by decide), s3]
      · have hh : mHas (nI th) (nI k) = false := by
          cases hm : mHas (nI th) (nI k) with
          | false => rfl
          | true => rw [hm, e] at hno; exact absurd rfl hno
        refine ⟨th ||| 2 ^ k, s2, ?_, s5 hh⟩
        rw [e, if_pos rfl, s1]
    obtain ⟨th', q1, q2, q3⟩ := new
    rw [q2]
    generalize hν : mwr (mKp μ 2 14 U) 2 8 (nI th') = ν
    have hRS : RS μ ν := by rw [← hν]; exact RS.kp.w2 (by omega)
    refine s_X11_sends (h1.mr hRS) (h5.row hRS) hU8 (fun q => tf q (nob k hk ik hb)) (fun k' hk' ik' _ q => ?_) (fun k' hk' ik' _ q => ?_)
    · have e := (nI_eq (by omega) (by omega)).mp (ik.symm.trans ik')
      subst e
      rw [bit _ hRS k hk] at q
      exact absurd q hno
    · have e := (nI_eq (by omega) (by omega)).mp (ik.symm.trans ik')
      subst e
      refine ⟨by rw [bit _ hRS k hk], ?_⟩
      rw [(h1.rw hRS).2.1, q3]
      have fc : ∀ c j, ¬ c = 64 → mrd (mwr (mRk ν U) 64 7 (nI th')) c j = mrd ν c j := fun c j q => by rw [mrd_wr, if_neg (by omega), mrd_Rk (by omega) hU8]
      have fr : ∀ j, ¬ j = 7 → mrd (mwr (mRk ν U) 64 7 (nI th')) 64 j = mrd (mRk ν U) 64 j := fun j q => by rw [mrd_wr, if_neg (by omega)]
      have fν : ∀ c j, ¬ (c = 2 ∧ j = 8) → mrd ν c j = mrd (mKp μ 2 14 U) c j := fun c j q => by rw [← hν, mrd_wr, if_neg q]
      refine hI.hs (fun c j q a b => ?_) (fun c j => ?_) ?_
      · by_cases e64 : c = 64
        · subst e64
          rw [fr j (by omega), mrd_Rk (by omega) hU8]
          exact hRS.1 64 j (by omega) q
        · rw [fc c j e64, fν c j (by omega), mrd_Kp (by omega) c (by omega)]
      · show mrL (mRk ν U) c j = _
        rw [mrL_Rk, ← hν]
        exact mrL_Kp c j
      · refine HR.kp (ν := ν) h1 h2 h3 h4 h5 (fun j hj => hRS.row hj) (fun c j a b => ?_) (fun j a b => fr j (by omega)) (th' := th') (t' := t) ?_
        · rw [fc c j (by omega), fν c j (by omega)]
        · have kr : ∀ j, j < 98 → ¬ j = 7 → mrd (mwr (mRk ν U) 64 7 (nI th')) 64 j = mrd μ 64 j := fun j a b => by rw [fr j b, mrd_Rk (by omega) hU8, hRS.row (by omega)]
          have kc : ∀ c j, c < 14 → ¬ (c = 2 ∧ j = 8) → mrd (mwr (mRk ν U) 64 7 (nI th')) c j = mrd μ c j := fun c j a b => by rw [fc c j (by omega), fν c j b, mrd_Kp (by omega) c (by omega)]
          refine h1.tm (t' := t) (th' := th') ?_ ?_ h1.2.2.2.2.1.2.2 ?_ ?_ q1 ?_ (fun q hq => ?_) (fun i j q a b => kc _ _ (by unfold lR at q; omega) (by unfold lR at q; omega)) (fun j a b => kr _ (by omega) (by omega))
          · show mrd _ 2 9 = _
            rw [kc 2 9 (by omega) (by omega), c9]
          · show mrd _ 64 9 = _
            rw [kr 9 (by omega) (by omega)]
            exact h1.2.2.2.2.1.2.1
          · show mrd _ 2 8 = _
            rw [fc 2 8 (by omega), ← hν, mrd_wr, if_pos ⟨rfl, rfl⟩]
          · show mrd _ 64 7 = _
            rw [mrd_wr, if_pos ⟨rfl, rfl⟩]
          · show mrd _ 64 8 = mrd _ 2 10
            rw [kr 8 (by omega) (by omega), kc 2 10 (by omega) (by omega)]
            exact h1.2.2.2.2.2.1
          · obtain ⟨-, -, g3, -, g5⟩ := h1.2.2.2.2.2.2.1 q hq
            show mrd (mwr (mRk ν U) 64 7 (nI th')) 64 q = mrd (mwr (mRk ν U) 64 7 (nI th')) 5 q ∧ ∃ a', a' ≤ 9 ∧ mrd (mwr (mRk ν U) 64 7 (nI th')) 5 q = nI a'
            rw [kr q (by omega) (by omega), kc 5 q (by omega) (by omega)]
            exact ⟨g3, g5⟩
theorem c_undo (hI : INV μ) : CTi 2 1 MX10_undo MX11_undo [] μ := by
  have h0 := hI.1
  obtain ⟨P, A, W, th, t, T, N, M, U, h1, h2, h3, h4, h5⟩ := h0
  have hU8 := h5.2.2.1
  have h7 := h1.1.2.2
  refine s_X10_undo h5.1 hU8 (fun hb => ⟨_, rfl, ?_⟩) (fun hb => ⟨_, rfl, ?_⟩)
  · exact s_X11_undo (h5.row (RS.rf 11)) hU8 (fun _ => ⟨rfl, hI.rf (k := 1) (by omega)⟩) (fun q => by omega)
  · obtain ⟨t', th', k1, k2, k3, k4, k5, k6, k7, k8⟩ := h5.2.2.2 (U - 1) (by omega)
    have k3' : mrd μ 15 (10 * (U - 1)) = nI t' := k3
    generalize hν : mrs (mwr μ 14 0 (nI (U - 1))) 2 15 (10 * (U - 1)) = ν
    have fν : ∀ c j, ¬ (c = 2 ∧ (j = 8 ∨ j = 9 ∨ j = 10)) → ¬ (c = 5 ∧ j < 7) → ¬ (c = 14 ∧ j = 0) → mrd ν c j = mrd μ c j := fun c j a1 a2 a3 => by rw [← hν, mrd_rs, if_neg (by omega), if_neg (by omega), if_neg (by omega), if_neg (by omega), mrd_wr, if_neg a3]
    have hRS : RS μ ν := ⟨fun c j a _ => fν c j (by omega) (by omega) (by omega), fun j => by rw [← hν]; rfl⟩
    have r15 : ∀ j, mrd (mwr μ 14 0 (nI (U - 1))) 15 j = mrd μ 15 j := fun j => by rw [mrd_wr, if_neg (by omega)]
    refine s_X11_undo (h5.row hRS) hU8 (fun q => by omega) (fun _ => ⟨?_, ?_⟩)
    · rw [k3', hRS.row (by omega)]
      exact congrArg (fun x => some (Value.int x)) k4
    · have fr : ∀ j, ¬ j < 10 → ¬ j = 98 → mrd (mCr (mwr ν 64 98 (nI (U - 1))) (99 + 10 * (U - 1)) 0 10) 64 j = mrd ν 64 j := fun j a b => by rw [mrd_Cr, if_neg (by omega), mrd_wr, if_neg (by omega)]
      have f10 : ∀ j, j < 10 → mrd (mCr (mwr ν 64 98 (nI (U - 1))) (99 + 10 * (U - 1)) 0 10) 64 j = mrd μ 64 (99 + 10 * (U - 1) + j) := fun j a => by rw [mrd_Cr, if_pos (by omega), mrd_wr, if_neg (by omega), show j - 0 + (99 + 10 * (U - 1)) = 99 + 10 * (U - 1) + j by omega, hRS.row (by omega)]
      have fc : ∀ c j, ¬ c = 64 → mrd (mCr (mwr ν 64 98 (nI (U - 1))) (99 + 10 * (U - 1)) 0 10) c j = mrd ν c j := fun c j a => by rw [mrd_Cr, if_neg (by omega), mrd_wr, if_neg (by omega)]
      generalize hξ : mCr (mwr ν 64 98 (nI (U - 1))) (99 + 10 * (U - 1)) 0 10 = ξ at fr f10 fc
      refine hI.hs (fun c j q a b => ?_) (fun c j => by rw [← hξ, ← hν]; rfl) ⟨P, A, W, th', t', T, N, M, U - 1, ?_, ?_, ?_, ?_, ?_⟩
      · by_cases e64 : c = 64
        · subst e64
          rw [fr j (by omega) (by omega)]
          exact hRS.1 64 j (by omega) q
        · rw [fc c j e64, fν c j (by omega) (by omega) (by omega)]
      · refine h1.tm (t' := t') (th' := th') ?_ ?_ k1 ?_ ?_ k2 ?_ (fun k hk => ?_) (fun i j q a b => ?_) (fun j a b => ?_)
        · show mrd ξ 2 9 = _
          rw [fc 2 9 (by omega), ← hν, mrd_rs, if_pos (by omega), r15]
          exact k3
        · show mrd ξ 64 9 = _
          rw [f10 9 (by omega)]
          exact k4
        · show mrd ξ 2 8 = _
          rw [fc 2 8 (by omega), ← hν, mrd_rs, if_neg (by omega), if_neg (by omega), if_pos (by omega), r15]
          exact k6
        · show mrd ξ 64 7 = _
          rw [f10 7 (by omega)]
          exact k7
        · show mrd ξ 64 8 = mrd ξ 2 10
          rw [f10 8 (by omega), fc 2 10 (by omega), ← hν, mrd_rs, if_neg (by omega), if_pos (by omega), r15]
          exact k5
        · have e5 : mrd ξ 5 k = mrd μ 15 (10 * (U - 1) + (3 + k)) := by
            rw [fc 5 k (by omega), ← hν, mrd_rs, if_neg (by omega), if_neg (by omega), if_neg (by omega), if_pos (by omega), r15]
            congr 1
            omega
          show mrd ξ 64 k = mrd ξ 5 k ∧ ∃ a, a ≤ 9 ∧ mrd ξ 5 k = nI a
          rw [f10 k (by omega), e5]
          exact k8 k hk
        · show mrd ξ (1 + i) j = mrd μ (1 + i) j
          rw [fc _ j (by unfold lR at q; omega), fν _ j (by unfold lR at q; omega) (by unfold lR at q; omega) (by unfold lR at q; omega)]
        · show mrd ξ 64 j = mrd μ 64 j
          rw [fr j (by omega) (by omega), hRS.row (by omega)]
      · exact h2.c (by show mrd ξ 8 0 = mrd μ 8 0; rw [fc 8 0 (by omega), fν 8 0 (by omega) (by omega) (by omega)]) (fun j q => by show mrd ξ 9 j = mrd μ 9 j; rw [fc 9 j (by omega), fν 9 j (by omega) (by omega) (by omega)]) (fun j q q2 => by show mrd ξ 64 j = mrd μ 64 j; rw [fr j (by omega) (by omega), hRS.row (by omega)])
      · exact h3.c (by show mrd ξ 10 0 = mrd μ 10 0; rw [fc 10 0 (by omega), fν 10 0 (by omega) (by omega) (by omega)]) (fun j q => by show mrd ξ 11 j = mrd μ 11 j; rw [fc 11 j (by omega), fν 11 j (by omega) (by omega) (by omega)]) (fun j q q2 => by show mrd ξ 64 j = mrd μ 64 j; rw [fr j (by omega) (by omega), hRS.row (by omega)])
      · exact h4.c (by show mrd ξ 12 0 = mrd μ 12 0; rw [fc 12 0 (by omega), fν 12 0 (by omega) (by omega) (by omega)]) (fun j q => by show mrd ξ 13 j = mrd μ 13 j; rw [fc 13 j (by omega), fν 13 j (by omega) (by omega) (by omega)]) (fun j q q2 => by show mrd ξ 64 j = mrd μ 64 j; rw [fr j (by omega) (by omega), hRS.row (by omega)])
      · refine h5.less h7 hb ?_ ?_ (fun j q => by show mrd ξ 15 j = mrd μ 15 j; rw [fc 15 j (by omega), fν 15 j (by omega) (by omega) (by omega)]) (fun j q q2 => by show mrd ξ 64 j = mrd μ 64 j; rw [fr j (by omega) (by omega), hRS.row (by omega)])
        · show mrd ξ 14 0 = _
          rw [fc 14 0 (by omega), ← hν, mrd_rs, if_neg (by omega), if_neg (by omega), if_neg (by omega), if_neg (by omega), mrd_wr, if_pos ⟨rfl, rfl⟩]
        · show mrd ξ 64 98 = _
          rw [← hξ, mrd_Cr, if_neg (by omega), mrd_wr, if_pos ⟨rfl, rfl⟩]
end S63
