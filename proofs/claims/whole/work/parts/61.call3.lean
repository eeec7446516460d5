/-! CALLS: widest, marry; what is heard, noted, marked -/
def mxN (R : Nat → Nat) : Nat → Nat
  | 0 => 0
  | d + 1 => max (mxN R d) (R d)
theorem mxN_le {R : Nat → Nat} {d : Nat} : ∀ n, d < n → R d ≤ mxN R n := by
  intro n
  induction n with
  | zero => intro h; omega
  | succ n ih =>
    intro h
    rw [mxN]
    by_cases e : d = n
    · rw [e]; exact Nat.le_max_right _ _
    · exact Nat.le_trans (ih (by omega)) (Nat.le_max_left _ _)
theorem mxN_at {R : Nat → Nat} : ∀ n, mxN R n = 0 ∨ ∃ d, d < n ∧ mxN R n = R d := by
  intro n
  induction n with
  | zero => exact Or.inl rfl
  | succ n ih =>
    rw [mxN]
    rcases Nat.le_total (mxN R n) (R n) with q | q
    · exact Or.inr ⟨n, by omega, Nat.max_eq_right q⟩
    · rw [Nat.max_eq_left q]
      rcases ih with e | ⟨d, a, b⟩
      · exact Or.inl e
      · exact Or.inr ⟨d, by omega, b⟩
theorem s27_abs : ∀ n, n < 27 → ∀ m, m < 27 → (!oB ((nI n - 13) - (nI m - 13)) (-2) 2) = decide (mAbs ((nI n - 13) - (nI m - 13)) ≤ 2) := by decide +kernel
theorem mCt_add {f g : Nat → Bool} (hg : ∀ i, g i = !f i) : ∀ P, mCt f P + mCt g P = P := by
  intro P
  induction P with
  | zero => rfl
  | succ P ih =>
    cases hf : f P with
    | true => rw [mCt_s hf, mCt_n (by rw [hg, hf]; rfl)]; omega
    | false => rw [mCt_n hf, mCt_s (by rw [hg, hf]; rfl)]; omega
theorem pw_256 : ∀ F, F < 8 → ∀ G, G < 8 → F + G ≤ 7 → (G + 1) ^ F ≤ 256 := by decide +kernel
section S61
variable {μ ν : gM} {i z c a x y : Int32} {P A W th t T N M U : Nat}
theorem c_widest (hI : INV μ) : CTi 4 4 MX10_widest MX11_widest [] μ := by
  have h0 := hI.1
  obtain ⟨P, A, W, th, t, T, N, M, U, h1, h2, h3, h4, h5⟩ := h0
  obtain ⟨c0, c8, c9, h16⟩ := h1.cw
  obtain ⟨r0, r8, r9, r10⟩ := h1.rw RS.self
  let R : Nat → Nat := fun d => (vRch (cV μ 2) (mrd μ 2 8) A P (mrd μ 2 9 + nI d) (-1)).toNatClampNeg
  have hR : ∀ d, vRch (cV μ 2) (mrd μ 2 8) A P (mrd μ 2 9 + nI d) (-1) = nI (R d) ∧ R d ≤ 26 := by
    intro d
    obtain ⟨q, q1, q2⟩ := vRch_b (A := A) (th := mrd μ 2 8) (c := mrd μ 2 9 + nI d) (lo := -1) h1.vw
    show _ = nI (Int32.toNatClampNeg _) ∧ Int32.toNatClampNeg _ ≤ 26
    rw [q2, nI_clamp (by omega)]
    exact ⟨rfl, q1⟩
  have m26 : ∀ n, mxN R n ≤ 26 := by
    intro n
    rcases mxN_at (R := R) n with e | ⟨d, -, e⟩
    · omega
    · have := (hR d).2; omega
  have hg : ∀ d, d < 60 → nI (mxN R (d + 1)) = mMax (nI (mxN R d)) (vRch (cV μ 2) (mrd μ 2 8) A P (mrd μ 2 9 + nI d) (-1)) := by
    intro d _
    have a1 := m26 d
    have a2 := (hR d).2
    rw [(hR d).1, mMax_n (by omega) (by omega), mxN]
  let f : Nat → Nat → Bool := fun wd d => decide (0 < vSnd (rV μ 0) (mrd μ 64 7) A (nI wd) P (mrd μ 64 9 + nI d))
  have hf : ∀ wd d, 4 ≤ wd → wd ≤ 30 → (f wd d = true ↔ wd ≤ R d) := by
    intro wd d w4 w30
    have := (hR d).2
    show decide _ = true ↔ _
    rw [decide_eq_true_eq, r8, r9, vSnd_c (h1.ve RS.self), vE_p h1.vw w4 w30, ← c8, ← c9, (hR d).1]
    exact nI_leI (by omega) (by omega)
  have m60 := m26 60
  refine s_X10_widest h1.lc (fun r hr => ⟨_, rfl, ?_⟩)
  have hr' := hr (fun d => nI (mxN R d)) rfl hg
  refine s_X11_widest (f := f) (h1.mr RS.self) (fun _ _ => rfl) (fun hn ν hν => ⟨?_, hI.sm hν.sm⟩) (fun wd d w4 w30 hd hy hl ν hν => ⟨?_, hI.sm hν.sm⟩)
  · have lt : mxN R 60 < 4 := by
      rcases Nat.lt_or_ge (mxN R 60) 4 with q | q
      · exact q
      · rcases mxN_at (R := R) 60 with e | ⟨d, hd, e⟩
        · omega
        · exact tf ((hf (mxN R 60) d q (by omega)).mpr (by omega)) (hn (mxN R 60) q (by omega) d hd)
    rw [hr', if_pos (show nI (mxN R 60) < 4 from nI_lt (b := 4) lt (by omega))]
  · have le1 := (hf wd d w4 w30).mp hy
    have le2 := mxN_le (R := R) 60 hd
    have e : mxN R 60 = wd := by
      rcases Nat.lt_or_ge wd (mxN R 60) with q | q
      · rcases mxN_at (R := R) 60 with e | ⟨d', hd', e⟩
        · omega
        · exact tf ((hf (mxN R 60) d' (by omega) (by omega)).mpr (by omega)) (hl (mxN R 60) q (by omega) d' hd')
      · omega
    rw [hr', e, if_neg (show ¬ nI wd < 4 from nI_nlt (b := 4) w4 (by omega))]
    unfold mMin
    rw [if_neg (show ¬ (30 : Int32) < nI wd from nI_nlt (a := 30) (by omega) (by omega))]
theorem c_marry (hI : INV μ) : CTi 12 4 MX10_marry MX11_marry [.int i] μ := by
  have h0 := hI.1
  obtain ⟨P, A, W, th, t, T, N, M, U, h1, h2, h3, h4, h5⟩ := h0
  have h7 := h1.1.2.2
  have g := h1.2.2.2.2.2.2.1
  -- what holds of the reference's sides
  have key : ∀ ν, RS μ ν → ∀ ms, ms = rMst (sdA (fun i => decide (mrd ν 64 (19 + i) = 0)) P) (sdA (fun i => !decide (mrd ν 64 (19 + i) = 0)) P) (mCt (fun i => !decide (mrd ν 64 (19 + i) = 0)) P) (rAlk ν) (mCt (fun i => decide (mrd ν 64 (19 + i) = 0)) P) ((mCt (fun i => !decide (mrd ν 64 (19 + i) = 0)) P + 1) ^ mCt (fun i => decide (mrd ν 64 (19 + i) = 0)) P) → ms.1 = mMp (mSu μ 2 P) 7 0 0 ∧ ¬ ms.1 = -1 ∧ ∀ k, k < P → ms.2 k = (mAr (mSu μ 2 P) (mMp (mSu μ 2 P) 7 0 0) 7).1 k := by
    intro ν hν ms hms
    refine marry_eq (A := fun i j => decide (i < P) && decide (mrd ν 64 (19 + i) = 0) && decide (j < P) && !decide (mrd ν 64 (19 + j) = 0) && rAlk ν i j) (fun _ => rfl) rfl rfl (fun _ _ => rfl) h7 ?_ hms
    have rw12 : ∀ k, k < P → mrd ν 64 (12 + k) = mrd μ 3 k := fun k hk => by rw [hν.row (by omega)]; exact (g k hk).1
    have rw19 : ∀ k, k < P → mrd ν 64 (19 + k) = mrd μ 4 k := fun k hk => by rw [hν.row (by omega)]; exact (g k hk).2.1
    have rw0 : ∀ k, k < P → mrd ν 64 k = mrd μ 5 k := fun k hk => by rw [hν.row (by omega)]; exact (g k hk).2.2.1
    have alk : ∀ i j, i < P → j < P → rAlk ν i j = mAlk μ 2 i j := by
      intro i j hi hj
      unfold rAlk mAlk
      rw [rw12 i hi, rw12 j hj, rw0 i hi, rw0 j hj]
      refine mAll_c 4 (fun c _ => ?_)
      obtain ⟨a, a9, ea⟩ := (g i hi).2.2.2.2
      obtain ⟨b, b9, eb⟩ := (g j hj).2.2.2.2
      obtain ⟨n, hn, en⟩ := sB_lean (k := mrd μ 3 i) (c := nI c) a9 (show mrd μ 5 i = nI a from ea)
      obtain ⟨m, hm, em⟩ := sB_lean (k := mrd μ 3 j) (c := nI c) b9 (show mrd μ 5 j = nI b from eb)
      rw [en, em]
      exact s27_abs n hn m hm
    intro i hi
    unfold mSu
    by_cases ci : i < P ∧ mrd μ (2 + 2) i = 0
    · rw [if_pos ci]
      obtain ⟨s, s1, s2, s3⟩ := mBits_v (f := fun j => decide (mrd μ (2 + 2) j = 1) && mAlk μ 2 i j) P (by omega)
      refine ⟨s, Nat.lt_of_lt_of_le s2 (Nat.pow_le_pow_right (by omega) h7), s1, fun j hj => ?_⟩
      rw [s3]
      simp only []
      by_cases hjP : j < P
      · rw [decide_eq_true ci.1, rw19 i ci.1, decide_eq_true hjP, rw19 j hjP, alk i j ci.1 hjP, decide_eq_true (show mrd μ 4 i = 0 from ci.2)]
        rcases (g j hjP).2.2.2.1 with q | q
        · rw [show mrd μ 4 j = 0 from q]; rfl
        · rw [show mrd μ 4 j = 1 from q]; rfl
      · rw [decide_eq_false hjP]
        simp
    · rw [if_neg ci]
      refine ⟨0, by omega, rfl, fun j hj => ?_⟩
      rw [Nat.zero_testBit]
      simp only []
      by_cases hiP : i < P
      · have : ¬ mrd ν 64 (19 + i) = 0 := by rw [rw19 i hiP]; exact fun z => ci ⟨hiP, z⟩
        rw [decide_eq_false this]
        simp
      · rw [decide_eq_false hiP]
        simp
  have pw : ∀ ν, (mCt (fun i => !decide (mrd ν 64 (19 + i) = 0)) P + 1) ^ mCt (fun i => decide (mrd ν 64 (19 + i) = 0)) P ≤ 256 := by
    intro ν
    have := mCt_add (f := fun i => decide (mrd ν 64 (19 + i) = 0)) (g := fun i => !decide (mrd ν 64 (19 + i) = 0)) (fun _ => rfl) P
    exact pw_256 _ (by omega) _ (by omega) (by omega)
  refine s_X10_marry h1.lc (fun hb => ⟨_, rfl, ?_⟩) (fun hi ν hν => ⟨_, rfl, ?_⟩) (fun k hk ik ν hν => ⟨_, rfl, ?_⟩)
  · refine s_X11_marry (f := fun i => decide (mrd (mRf μ 10) 64 (19 + i) = 0)) (g := fun i => !decide (mrd (mRf μ 10) 64 (19 + i) = 0)) (al := rAlk (mRf μ 10)) (h1.mr (RS.rf 10)) (fun _ => rfl) (fun _ => rfl) rfl rfl (fun _ _ _ _ => rfl) (pw _) rfl (fun _ => ⟨rfl, hI.rf (k := 0) (by omega)⟩) (fun q _ _ => ?_) (fun k hk ik _ _ _ _ => ?_)
    · rw [q] at hb; exact absurd hb (by simp)
    · rw [ik, mIn_n (by omega), decide_eq_true hk, Bool.and_comm] at hb; exact absurd hb (by simp)
  · obtain ⟨e1, e2, e3⟩ := key ν hν.rs _ rfl
    refine s_X11_marry (f := fun i => decide (mrd ν 64 (19 + i) = 0)) (g := fun i => !decide (mrd ν 64 (19 + i) = 0)) (al := rAlk ν) (h1.mr hν.rs) (fun _ => rfl) (fun _ => rfl) rfl rfl (fun _ _ _ _ => rfl) (pw _) rfl (fun q => ?_) (fun _ ξ hξ => ⟨by rw [e1], (hI.sm hν).sm hξ⟩) (fun k hk ik _ _ _ _ => ?_)
    · rw [hi] at q; exact absurd q (by simp)
    · exact absurd (hi.symm.trans ik).symm (nI_m1 (by omega))
  · obtain ⟨e1, e2, e3⟩ := key ν hν.rs _ rfl
    refine s_X11_marry (f := fun i => decide (mrd ν 64 (19 + i) = 0)) (g := fun i => !decide (mrd ν 64 (19 + i) = 0)) (al := rAlk ν) (h1.mr hν.rs) (fun _ => rfl) (fun _ => rfl) rfl rfl (fun _ _ _ _ => rfl) (pw _) rfl (fun q => ?_) (fun q _ _ => ?_) (fun k' hk' ik' ξ v hξ hv => ⟨?_, (hI.sm hν).sm hξ⟩)
    · rw [ik, mIn_n (by omega), decide_eq_true hk, Bool.and_comm] at q; exact absurd q (by simp)
    · exact absurd (ik.symm.trans q) (nI_m1 (by omega))
    · have e := (nI_eq (by omega) (by omega)).mp (ik.symm.trans ik')
      subst e
      rw [hv.resolve_right e2, e3 k hk]
/-- what is heard fits on both sides alike -/
theorem fit_eq {V V' : Nat → Nat → Int32} {W' q : Nat} (h2 : HT (cH μ 1) (rH μ 0) T) (hs : RS μ ν) (hV : VE V' V P A) (hW : VW V P) (w4 : 4 ≤ W') (w30 : W' ≤ 30) (hq : q < T) : rHs ν V' (nI th) A P (nI W') q = mFB μ V (nI th) A P (nI W') q := by
  obtain ⟨a1, a2, a3, a4⟩ := h2
  have b1 : mrd ν 64 (36 + 2 * q) = mrd μ 9 (4 * q) := by rw [hs.row (by omega)]; exact (a4 q hq).1
  have b2 : mrd ν 64 (37 + 2 * q) = mrd μ 9 (4 * q + 1) := by rw [hs.row (by omega)]; exact (a4 q hq).2
  unfold rHs mFB
  rw [b1, b2, vSnd_c hV]
  congr 1
  rw [decide_eq_decide]
  exact vE_p hW w4 w30
theorem c_lanes (hI : INV μ) : CTi 6 5 MX10_lanes MX11_lanes [] μ := by
  have h0 := hI.1
  obtain ⟨P, A, W, th, t, T, N, M, U, h1, h2, h3, h4, h5⟩ := h0
  obtain ⟨c0, c8, c9, h16⟩ := h1.cw
  let f : Nat → Bool := fun k => mAll (mFB μ (cV μ 2) (mrd μ 2 8) A P (nI (4 + k))) T
  refine s_X10_lanes (f := f) h1.lc h2.1 h2.2.2.1 (fun _ _ => rfl) (fun ν hν => ⟨_, rfl, ?_⟩)
  obtain ⟨r0, r8, r9, r10⟩ := h1.rw hν.rs
  refine s_X11_lanesL (f := f) (h1.mr hν.rs) (by rw [hν.rs.row (by omega)]; exact h2.2.1) h2.2.2.1 (fun k hk => ?_) (fun ξ hξ => ⟨rfl, (hI.sm hν).sm hξ.sm⟩)
  refine mAll_c T (fun q hq => ?_)
  rw [r8, c8, fit_eq h2 hν.rs (h1.ve hν.rs) h1.vw (by omega) (by omega) hq]
theorem c_swung (hI : INV μ) : CTi 6 5 MX10_swung MX11_swung [.int i] μ := by
  have h0 := hI.1
  obtain ⟨P, A, W, th, t, T, N, M, U, h1, h2, h3, h4, h5⟩ := h0
  obtain ⟨c0, c8, c9, h16⟩ := h1.cw
  have h7 := h1.1.2.2
  have hW := h1.2.2.1.2.2
  let f : Nat → Nat → Bool := fun k a => mAll (mFB μ (uV (cV μ 2) k (nI a)) (mrd μ 2 8) A P (mrd μ 2 0)) T
  have hf : ∀ ν, RS μ ν → ∀ k a, a < 10 → f k a = mAll (rHs ν (uV (rV ν 0) k (nI a)) (mrd ν 64 7) A P (mrd ν 64 10)) T := by
    intro ν hν k a ha
    obtain ⟨r0, r8, r9, r10⟩ := h1.rw hν
    refine mAll_c T (fun q hq => ?_)
    rw [r8, r0, c8, c0, fit_eq h2 hν (h1.ve hν).sw (h1.vw.sw (by omega)) hW.1 hW.2 hq]
  refine s_X10_swung (f := f) h1.lc h2.1 h2.2.2.1 (fun _ _ _ => rfl) (fun hb => ⟨_, rfl, ?_⟩) (fun k hk ik ν hν => ⟨_, rfl, ?_⟩)
  · exact s_X11_swung (f := f) (h1.mr (RS.rf 10)) (by rw [(RS.rf 10).row (by omega)]; exact h2.2.1) h2.2.2.1 (hf _ (RS.rf 10)) (fun _ => ⟨rfl, hI.rf (k := 0) (by omega)⟩) (fun k hk ik _ _ => by rw [ik, mIn_n (by omega), decide_eq_true hk] at hb; cases hb)
  · refine s_X11_swung (f := f) (h1.mr hν.rs) (by rw [hν.rs.row (by omega)]; exact h2.2.1) h2.2.2.1 (hf _ hν.rs) (fun q => by rw [ik, mIn_n (by omega), decide_eq_true hk] at q; cases q) (fun k' hk' ik' ξ hξ => ⟨?_, (hI.sm hν).sm hξ⟩)
    have e := (nI_eq (by omega) (by omega)).mp (ik.symm.trans ik')
    rw [e]
theorem c_hear (hI : INV μ) : CTi 6 6 MX10_hear MX11_hear [] μ := by
  have h0 := hI.1
  obtain ⟨P, A, W, th, t, T, N, M, U, h1, h2, h3, h4, h5⟩ := h0
  obtain ⟨c0, c8, c9, h16⟩ := h1.cw
  let R : Int32 → Nat := fun c => (vRch (cV μ 2) (nI th) A P c (-1)).toNatClampNeg
  have hR : ∀ c, vRch (cV μ 2) (nI th) A P c (-1) = nI (R c) ∧ R c ≤ 26 := by
    intro c
    obtain ⟨q, q1, q2⟩ := vRch_b (A := A) (th := nI th) (c := c) (lo := -1) h1.vw
    show _ = nI (Int32.toNatClampNeg _) ∧ Int32.toNatClampNeg _ ≤ 26
    rw [q2, nI_clamp (by omega)]
    exact ⟨rfl, q1⟩
  obtain ⟨a, b, ha, hb, hab⟩ := fitI (fun q => R (mrd μ 9 (4 * q))) (fun q => decide (mrd μ 9 (4 * q + 1) = 1)) T
  let f : Nat → Bool := fun k => mAll (mFB μ (cV μ 2) (mrd μ 2 8) A P (nI (4 + k))) T
  have hfi : ∀ k, k < 27 → f k = iv a b k := by
    intro k hk
    unfold iv
    rw [← hab k hk]
    refine mAll_c T (fun q _ => ?_)
    unfold mFB
    have := (hR (mrd μ 9 (4 * q))).2
    rw [c8, (hR _).1]
    congr 1
    rw [decide_eq_decide]
    exact nI_leI (by omega) (by omega)
  have eb : mBits f 27 = mBits (iv a b) 27 := mBits_c hfi
  let g : Nat → Int32 := fun c => mHg (vRch (cV μ 2) (mrd μ 2 8) A P (nI c) (-1)) (mBits f 27)
  refine s_X10_hear (f := f) (g := g) h1.lc h2.1 h2.2.2.1 (fun _ _ => rfl) (fun _ _ => rfl) (fun ν hν => ⟨_, rfl, ?_⟩)
  obtain ⟨r0, r8, r9, r10⟩ := h1.rw hν.rs
  let g' : Nat → Int32 := fun c => rPt (mBits f 27) (fun k => mHas (mBits f 27) (nI k) && decide (0 < vSnd (rV ν 0) (mrd ν 64 7) A (nI (4 + k)) P (nI c)))
  have gg : ∀ c, ∃ v, v ≤ 27 ∧ g c = nI v ∧ g' c = nI v := by
    intro c
    have q := hR (nI c)
    show ∃ v, v ≤ 27 ∧ mHg (vRch (cV μ 2) (mrd μ 2 8) A P (nI c) (-1)) (mBits f 27) = nI v ∧ rPt (mBits f 27) _ = nI v
    rw [eb, c8, q.1]
    refine hear_g ha hb (by omega) (fun k hk => ?_)
    congr 1
    rw [r8, vSnd_c (h1.ve hν.rs), decide_eq_decide, vE_p h1.vw (by omega) (by omega), q.1]
    exact nI_leI (by omega) (by omega)
  refine s_X11_hear (f := f) (g := g') (h1.mr hν.rs) (by rw [hν.rs.row (by omega)]; exact h2.2.1) h2.2.2.1 (fun k hk => ?_) (fun _ _ => rfl) (fun ξ hξ => ⟨?_, (hI.sm hν).sm hξ.sm⟩)
  · refine mAll_c T (fun q hq => ?_)
    rw [r8, c8, fit_eq h2 hν.rs (h1.ve hν.rs) h1.vw (by omega) (by omega) hq]
  · obtain ⟨v, v27, e1, e2⟩ := gg 0
    rw [mBst_r (g := g) (g' := g') (by rw [e1]; exact nI_lt (b := 28) (by omega) (by omega)) (by rw [e1]; exact nI_lt (b := 99) (by omega) (by omega)) 24 (by omega) (fun c _ => by obtain ⟨v, -, e1, e2⟩ := gg c; rw [e1, e2])]
theorem c_heard (hI : INV μ) : CTi 2 1 MX10_heard MX11_heard [.int c, .int z] μ := by
  have h0 := hI.1
  obtain ⟨P, A, W, th, t, T, N, M, U, h1, h2, h3, h4, h5⟩ := h0
  have rT : ∀ ν, RS μ ν → mrd ν 64 35 = nI T := fun ν hν => by rw [hν.row (by omega)]; exact h2.2.1
  refine s_X10_heard h2.1 h2.2.2.1 (fun hb => ⟨_, rfl, ?_⟩) (fun hb hT => ⟨_, rfl, ?_⟩) (fun hb hT => ⟨_, rfl, ?_⟩)
  · exact s_X11_heard (rT _ (RS.rf 10)) h2.2.2.1 (fun _ => ⟨rfl, hI.rf (k := 0) (by omega)⟩) (fun q _ => tf hb q) (fun q _ => tf hb q)
  · exact s_X11_heard (rT _ (RS.rf 12)) h2.2.2.1 (fun q => tf q hb) (fun _ _ => ⟨rfl, hI.rf (k := 2) (by omega)⟩) (fun _ q => by omega)
  · have hRS : RS μ (mAd μ 8 T c z 0 0) := ⟨fun c' j a _ => by simp only [mAd, mrd_wr]; repeat rw [if_neg (by omega)], fun j => rfl⟩
    refine s_X11_heard (rT _ hRS) h2.2.2.1 (fun q => tf q hb) (fun _ q => by omega) (fun _ _ => ⟨rfl, ?_⟩)
    have fr : ∀ c' j, ¬ (c' = 9 ∧ 4 * T ≤ j) → ¬ (c' = 8 ∧ j = 0) → ¬ (c' = 64 ∧ (j = 36 + 2 * T ∨ j = 37 + 2 * T ∨ j = 35)) → mrd (rAd2 (mAd μ 8 T c z 0 0) T c z) c' j = mrd μ c' j := fun c' j a1 a2 a3 => by
      simp only [rAd2, mAd, mrd_wr]; repeat rw [if_neg (by omega)]
    refine hI.hs (fun c' j _ a b => fr c' j (by omega) (by omega) (by omega)) (fun c' j => rfl) ⟨P, A, W, th, t, T + 1, N, M, U, ?_, ?_, ?_, ?_, ?_⟩
    · exact h1.c (fun i j q => fr _ _ (by unfold lR at q; omega) (by unfold lR at q; omega) (by unfold lR at q; omega)) (fun j q => fr _ _ (by omega) (by omega) (by omega))
    · refine h2.add (x := c) (y := z) hT ?_ ?_ ?_ ?_ ?_ ?_ (fun j q => fr _ _ (by omega) (by omega) (by omega)) (fun j q q2 => fr _ _ (by omega) (by omega) (by omega))
      · show mrd _ (1 + 7) 0 = _
        simp only [rAd2, mAd, mrd_wr]
        rw [if_neg (by first | omega | simp), if_neg (by first | omega | simp), if_neg (by first | omega | simp), if_pos (by first | omega | simp)]
      · show mrd _ 64 35 = _
        simp only [rAd2, mAd, mrd_wr]
        rw [if_pos (by first | omega | simp)]
      · show mrd _ (1 + 8) (4 * T) = _
        simp only [rAd2, mAd, mrd_wr]
        rw [if_neg (by first | omega | simp), if_neg (by first | omega | simp), if_neg (by first | omega | simp), if_neg (by first | omega | simp), if_neg (by first | omega | simp), if_neg (by first | omega | simp), if_neg (by first | omega | simp), if_pos (by first | omega | simp)]
      · show mrd _ (1 + 8) (4 * T + 1) = _
        simp only [rAd2, mAd, mrd_wr]
        rw [if_neg (by first | omega | simp), if_neg (by first | omega | simp), if_neg (by first | omega | simp), if_neg (by first | omega | simp), if_neg (by first | omega | simp), if_neg (by first | omega | simp), if_pos (by first | omega | simp)]
      · show mrd _ 64 (36 + 2 * T) = _
        simp only [rAd2, mAd, mrd_wr]
        rw [if_neg (by first | omega | simp), if_neg (by first | omega | simp), if_pos (by first | omega | simp)]
      · show mrd _ 64 (37 + 2 * T) = _
        simp only [rAd2, mAd, mrd_wr]
        rw [if_neg (by first | omega | simp), if_pos (by first | omega | simp)]
    · exact h3.c (fr _ _ (by omega) (by omega) (by omega)) (fun j q => fr _ _ (by omega) (by omega) (by omega)) (fun j q q2 => fr _ _ (by omega) (by omega) (by omega))
    · exact h4.c (fr _ _ (by omega) (by omega) (by omega)) (fun j q => fr _ _ (by omega) (by omega) (by omega)) (fun j q q2 => fr _ _ (by omega) (by omega) (by omega))
    · exact h5.c h1.1.2.2 (fr _ _ (by omega) (by omega) (by omega)) (fun j q => fr _ _ (by omega) (by omega) (by omega)) (fun j q q2 => fr _ _ (by omega) (by omega) (by omega))
/-- four numbers more on both sides -/
theorem ad4 {r p : Nat} {x y z w : Int32} (hp : 35 ≤ p) (k : Nat) (hk : k < 4) (hr : r < 63) : mrd (rAd4 (mAd μ r N x y z w) p N x y z w) 64 (p + 1 + (4 * N + k)) = mrd (rAd4 (mAd μ r N x y z w) p N x y z w) (r + 1) (4 * N + k) := by
  have hk' : k = 0 ∨ k = 1 ∨ k = 2 ∨ k = 3 := by omega
  rcases hk' with rfl | rfl | rfl | rfl <;> simp only [rAd4, mAd, mrd_wr]
  · rw [if_neg (by first | omega | (simp; done) | (simp; omega)), if_neg (by first | omega | (simp; done) | (simp; omega)), if_neg (by first | omega | (simp; done) | (simp; omega)), if_neg (by first | omega | (simp; done) | (simp; omega)), if_pos (by first | omega | (simp; done) | (simp; omega)), if_neg (by first | omega | (simp; done) | (simp; omega)), if_neg (by first | omega | (simp; done) | (simp; omega)), if_neg (by first | omega | (simp; done) | (simp; omega)), if_neg (by first | omega | (simp; done) | (simp; omega)), if_neg (by first | omega | (simp; done) | (simp; omega)), if_neg (by first | omega | (simp; done) | (simp; omega)), if_neg (by first | omega | (simp; done) | (simp; omega)), if_neg (by first | omega | (simp; done) | (simp; omega)), if_neg (by first | omega | (simp; done) | (simp; omega)), if_pos (by first | omega | (simp; done) | (simp; omega))]
  · rw [if_neg (by first | omega | (simp; done) | (simp; omega)), if_neg (by first | omega | (simp; done) | (simp; omega)), if_neg (by first | omega | (simp; done) | (simp; omega)), if_pos (by first | omega | (simp; done) | (simp; omega)), if_neg (by first | omega | (simp; done) | (simp; omega)), if_neg (by first | omega | (simp; done) | (simp; omega)), if_neg (by first | omega | (simp; done) | (simp; omega)), if_neg (by first | omega | (simp; done) | (simp; omega)), if_neg (by first | omega | (simp; done) | (simp; omega)), if_neg (by first | omega | (simp; done) | (simp; omega)), if_neg (by first | omega | (simp; done) | (simp; omega)), if_neg (by first | omega | (simp; done) | (simp; omega)), if_pos (by first | omega | (simp; done) | (simp; omega))]
  · rw [if_neg (by first | omega | (simp; done) | (simp; omega)), if_neg (by first | omega | (simp; done) | (simp; omega)), if_pos (by first | omega | (simp; done) | (simp; omega)), if_neg (by first | omega | (simp; done) | (simp; omega)), if_neg (by first | omega | (simp; done) | (simp; omega)), if_neg (by first | omega | (simp; done) | (simp; omega)), if_neg (by first | omega | (simp; done) | (simp; omega)), if_neg (by first | omega | (simp; done) | (simp; omega)), if_neg (by first | omega | (simp; done) | (simp; omega)), if_neg (by first | omega | (simp; done) | (simp; omega)), if_pos (by first | omega | (simp; done) | (simp; omega))]
  · rw [if_neg (by first | omega | (simp; done) | (simp; omega)), if_pos (by first | omega | (simp; done) | (simp; omega)), if_neg (by first | omega | (simp; done) | (simp; omega)), if_neg (by first | omega | (simp; done) | (simp; omega)), if_neg (by first | omega | (simp; done) | (simp; omega)), if_neg (by first | omega | (simp; done) | (simp; omega)), if_neg (by first | omega | (simp; done) | (simp; omega)), if_neg (by first | omega | (simp; done) | (simp; omega)), if_pos (by first | omega | (simp; done) | (simp; omega))]
theorem c_note {x : Int32} (hI : INV μ) : CTi 2 2 MX10_note MX11_note [.int i, .int a, .int c, .int x] μ := by
  have h0 := hI.1
  obtain ⟨P, A, W, th, t, T, N, M, U, h1, h2, h3, h4, h5⟩ := h0
  have rT : ∀ ν, RS μ ν → mrd ν 64 48 = nI N := fun ν hν => by rw [hν.row (by omega)]; exact h3.2.1
  refine s_X10_note h1.lc h3.1 h3.2.2.1 (fun hb => ⟨_, rfl, ?_⟩) (fun hb hT => ⟨_, rfl, ?_⟩) (fun hb hT => ⟨_, rfl, ?_⟩)
  · exact s_X11_note (h1.mr (RS.rf 10)) (rT _ (RS.rf 10)) h3.2.2.1 (fun _ => ⟨rfl, hI.rf (k := 0) (by omega)⟩) (fun q _ => tf hb q) (fun q _ => tf hb q)
  · exact s_X11_note (h1.mr (RS.rf 12)) (rT _ (RS.rf 12)) h3.2.2.1 (fun q => tf q hb) (fun _ _ => ⟨rfl, hI.rf (k := 2) (by omega)⟩) (fun _ q => by omega)
  · have hRS : RS μ (mAd μ 10 N i a c x) := ⟨fun c' j a _ => by simp only [mAd, mrd_wr]; repeat rw [if_neg (by omega)], fun j => rfl⟩
    refine s_X11_note (h1.mr hRS) (rT _ hRS) h3.2.2.1 (fun q => tf q hb) (fun _ q => by omega) (fun _ _ => ⟨rfl, ?_⟩)
    have fr : ∀ c' j, ¬ (c' = 11 ∧ 4 * N ≤ j) → ¬ (c' = 10 ∧ j = 0) → ¬ (c' = 64 ∧ (48 + 1 + 4 * N ≤ j ∧ j < 48 + 1 + 4 * N + 4 ∨ j = 48)) → mrd (rAd4 (mAd μ 10 N i a c x) 48 N i a c x) c' j = mrd μ c' j := fun c' j a1 a2 a3 => by
      simp only [rAd4, mAd, mrd_wr]; repeat rw [if_neg (by omega)]
    refine hI.hs (fun c' j _ a b => fr c' j (by omega) (by omega) (by omega)) (fun c' j => rfl) ⟨P, A, W, th, t, T, N + 1, M, U, ?_, ?_, ?_, ?_, ?_⟩
    · exact h1.c (fun i j q => fr _ _ (by unfold lR at q; omega) (by unfold lR at q; omega) (by unfold lR at q; omega)) (fun j q => fr _ _ (by omega) (by omega) (by omega))
    · exact h2.c (fr _ _ (by omega) (by omega) (by omega)) (fun j q => fr _ _ (by omega) (by omega) (by omega)) (fun j q q2 => fr _ _ (by omega) (by omega) (by omega))
    · refine h3.add hT ?_ ?_ (fun k hk => ad4 (r := 10) (p := 48) (by omega) k hk (by omega)) (fun j q => fr _ _ (by omega) (by omega) (by omega)) (fun j q q2 => fr _ _ (by omega) (by omega) (by omega))
      · show mrd _ (1 + 9) 0 = _
        simp only [rAd4, mAd, mrd_wr]
        rw [if_neg (by first | omega | simp), if_neg (by first | omega | simp), if_neg (by first | omega | simp), if_neg (by first | omega | simp), if_neg (by first | omega | simp), if_pos (by first | omega | simp)]
      · show mrd _ 64 48 = _
        simp only [rAd4, mAd, mrd_wr]
        rw [if_pos (by first | omega | simp)]
    · exact h4.c (fr _ _ (by omega) (by omega) (by omega)) (fun j q => fr _ _ (by omega) (by omega) (by omega)) (fun j q q2 => fr _ _ (by omega) (by omega) (by omega))
    · exact h5.c h1.1.2.2 (fr _ _ (by omega) (by omega) (by omega)) (fun j q => fr _ _ (by omega) (by omega) (by omega)) (fun j q q2 => fr _ _ (by omega) (by omega) (by omega))
theorem c_mark {x : Int32} (hI : INV μ) : CTi 2 2 MX10_mark MX11_mark [.int i, .int a, .int c, .int x] μ := by
  have h0 := hI.1
  obtain ⟨P, A, W, th, t, T, N, M, U, h1, h2, h3, h4, h5⟩ := h0
  have rT : ∀ ν, RS μ ν → mrd ν 64 73 = nI M := fun ν hν => by rw [hν.row (by omega)]; exact h4.2.1
  refine s_X10_mark h1.lc h4.1 h4.2.2.1 (fun hb => ⟨_, rfl, ?_⟩) (fun hb hT => ⟨_, rfl, ?_⟩) (fun hb hT => ⟨_, rfl, ?_⟩)
  · exact s_X11_mark (h1.mr (RS.rf 10)) (rT _ (RS.rf 10)) h4.2.2.1 (fun _ => ⟨rfl, hI.rf (k := 0) (by omega)⟩) (fun q _ => tf hb q) (fun q _ => tf hb q)
  · exact s_X11_mark (h1.mr (RS.rf 12)) (rT _ (RS.rf 12)) h4.2.2.1 (fun q => tf q hb) (fun _ _ => ⟨rfl, hI.rf (k := 2) (by omega)⟩) (fun _ q => by omega)
  · have hRS : RS μ (mAd μ 12 M i a c x) := ⟨fun c' j a _ => by simp only [mAd, mrd_wr]; repeat rw [if_neg (by omega)], fun j => rfl⟩
    refine s_X11_mark (h1.mr hRS) (rT _ hRS) h4.2.2.1 (fun q => tf q hb) (fun _ q => by omega) (fun _ _ => ⟨rfl, ?_⟩)
    have fr : ∀ c' j, ¬ (c' = 13 ∧ 4 * M ≤ j) → ¬ (c' = 12 ∧ j = 0) → ¬ (c' = 64 ∧ (73 + 1 + 4 * M ≤ j ∧ j < 73 + 1 + 4 * M + 4 ∨ j = 73)) → mrd (rAd4 (mAd μ 12 M i a c x) 73 M i a c x) c' j = mrd μ c' j := fun c' j a1 a2 a3 => by
      simp only [rAd4, mAd, mrd_wr]; repeat rw [if_neg (by omega)]
    refine hI.hs (fun c' j _ a b => fr c' j (by omega) (by omega) (by omega)) (fun c' j => rfl) ⟨P, A, W, th, t, T, N, M + 1, U, ?_, ?_, ?_, ?_, ?_⟩
    · exact h1.c (fun i j q => fr _ _ (by unfold lR at q; omega) (by unfold lR at q; omega) (by unfold lR at q; omega)) (fun j q => fr _ _ (by omega) (by omega) (by omega))
    · exact h2.c (fr _ _ (by omega) (by omega) (by omega)) (fun j q => fr _ _ (by omega) (by omega) (by omega)) (fun j q q2 => fr _ _ (by omega) (by omega) (by omega))
    · exact h3.c (fr _ _ (by omega) (by omega) (by omega)) (fun j q => fr _ _ (by omega) (by omega) (by omega)) (fun j q q2 => fr _ _ (by omega) (by omega) (by omega))
    · refine h4.add hT ?_ ?_ (fun k hk => ad4 (r := 12) (p := 73) (by omega) k hk (by omega)) (fun j q => fr _ _ (by omega) (by omega) (by omega)) (fun j q q2 => fr _ _ (by omega) (by omega) (by omega))
      · show mrd _ (1 + 11) 0 = _
        simp only [rAd4, mAd, mrd_wr]
        rw [if_neg (by first | omega | simp), if_neg (by first | omega | simp), if_neg (by first | omega | simp), if_neg (by first | omega | simp), if_neg (by first | omega | simp), if_pos (by first | omega | simp)]
      · show mrd _ 64 73 = _
        simp only [rAd4, mAd, mrd_wr]
        rw [if_pos (by first | omega | simp)]
    · exact h5.c h1.1.2.2 (fr _ _ (by omega) (by omega) (by omega)) (fun j q => fr _ _ (by omega) (by omega) (by omega)) (fun j q q2 => fr _ _ (by omega) (by omega) (by omega))
theorem oB_n02 (h0 : ¬ z = 0) (h1 : ¬ z = 1) (h2 : ¬ z = 2) : oB z 0 2 = true := by
  cases h : oB z 0 2 with
  | true => rfl
  | false => rcases oB_02 h with q | q | q; exact absurd q h0; exact absurd q h1; exact absurd q h2
theorem c_forget (hI : INV μ) : CTi 1 1 MX10_forget MX11_forget [.int z] μ := by
  have h0 := hI.1
  obtain ⟨P, A, W, th, t, T, N, M, U, h1, h2, h3, h4, h5⟩ := h0
  have o : ∀ k, k ≤ 2 → z = nI k → oB z 0 2 = false := by
    intro k hk e
    rw [e]
    unfold oB
    rw [decide_eq_false]
    rintro (q | q)
    · exact nI_pos (by omega) q
    · have := nlt (a := 2) q (by omega) (by omega); omega
  have fin : ∀ cc jj, (cc = 8 ∧ jj = 35) ∨ (cc = 10 ∧ jj = 48) ∨ (cc = 12 ∧ jj = 73) → INV (mwr (mwr μ cc 0 0) 64 jj 0) := by
    intro cc jj hcj
    have fr : ∀ c j, ¬ (c = cc ∧ j = 0) → ¬ (c = 64 ∧ j = jj) → mrd (mwr (mwr μ cc 0 0) 64 jj 0) c j = mrd μ c j := fun c j a b => by simp only [mrd_wr]; repeat rw [if_neg (by omega)]
    have z0 : mrd (mwr (mwr μ cc 0 0) 64 jj 0) cc 0 = 0 := by rw [mrd_wr, if_neg (by omega), mrd_wr, if_pos ⟨rfl, rfl⟩]
    have z1 : mrd (mwr (mwr μ cc 0 0) 64 jj 0) 64 jj = 0 := by rw [mrd_wr, if_pos ⟨rfl, rfl⟩]
    refine hI.hs (fun c j _ a b => fr c j (by omega) (by omega)) (fun c j => rfl) ?_
    have k1 : HL (cH (mwr (mwr μ cc 0 0) 64 jj 0) 1) (rH (mwr (mwr μ cc 0 0) 64 jj 0) 0) P A W th t := h1.c (fun i j q => fr _ _ (by unfold lR at q; omega) (by unfold lR at q; omega)) (fun j q => fr _ _ (by omega) (by omega))
    have k5 : HU (cH (mwr (mwr μ cc 0 0) 64 jj 0) 1) (rH (mwr (mwr μ cc 0 0) 64 jj 0) 0) P A U := h5.c h1.1.2.2 (fr _ _ (by omega) (by omega)) (fun j q => fr _ _ (by omega) (by omega)) (fun j q q2 => fr _ _ (by omega) (by omega))
    rcases hcj with ⟨rfl, rfl⟩ | ⟨rfl, rfl⟩ | ⟨rfl, rfl⟩
    · exact ⟨P, A, W, th, t, 0, N, M, U, k1, HT.no z0 z1, h3.c (fr _ _ (by omega) (by omega)) (fun j q => fr _ _ (by omega) (by omega)) (fun j q q2 => fr _ _ (by omega) (by omega)), h4.c (fr _ _ (by omega) (by omega)) (fun j q => fr _ _ (by omega) (by omega)) (fun j q q2 => fr _ _ (by omega) (by omega)), k5⟩
    · exact ⟨P, A, W, th, t, T, 0, M, U, k1, h2.c (fr _ _ (by omega) (by omega)) (fun j q => fr _ _ (by omega) (by omega)) (fun j q q2 => fr _ _ (by omega) (by omega)), HN.no z0 z1, h4.c (fr _ _ (by omega) (by omega)) (fun j q => fr _ _ (by omega) (by omega)) (fun j q q2 => fr _ _ (by omega) (by omega)), k5⟩
    · exact ⟨P, A, W, th, t, T, N, 0, U, k1, h2.c (fr _ _ (by omega) (by omega)) (fun j q => fr _ _ (by omega) (by omega)) (fun j q q2 => fr _ _ (by omega) (by omega)), h3.c (fr _ _ (by omega) (by omega)) (fun j q => fr _ _ (by omega) (by omega)) (fun j q q2 => fr _ _ (by omega) (by omega)), HN.no z0 z1, k5⟩
  have d01 : ¬ (0 : Int32) = 1 := by decide
  have d02 : ¬ (0 : Int32) = 2 := by decide
  have d12 : ¬ (1 : Int32) = 2 := by decide
  refine s_X10_forget (fun e => ⟨_, rfl, ?_⟩) (fun e => ⟨_, rfl, ?_⟩) (fun e => ⟨_, rfl, ?_⟩) (fun e0 e1 e2 => ⟨_, rfl, ?_⟩)
  · refine s_X11_forget (fun _ => ⟨?_, fin 8 35 (Or.inl ⟨rfl, rfl⟩)⟩) (fun q => absurd (e.symm.trans q) d01) (fun q => absurd (e.symm.trans q) d02) (fun q => tf q (o 0 (by omega) e))
    rw [mrd_wr, if_neg (by omega), show mrd μ 64 35 = nI T from h2.2.1, show mrd μ 8 0 = nI T from h2.1]
  · refine s_X11_forget (fun q => absurd (q.symm.trans e) d01) (fun _ => ⟨?_, fin 10 48 (Or.inr (Or.inl ⟨rfl, rfl⟩))⟩) (fun q => absurd (e.symm.trans q) d12) (fun q => tf q (o 1 (by omega) e))
    rw [mrd_wr, if_neg (by omega), show mrd μ 64 48 = nI N from h3.2.1, show mrd μ 10 0 = nI N from h3.1]
  · refine s_X11_forget (fun q => absurd (q.symm.trans e) d02) (fun q => absurd (q.symm.trans e) d12) (fun _ => ⟨?_, fin 12 73 (Or.inr (Or.inr ⟨rfl, rfl⟩))⟩) (fun q => tf q (o 2 (by omega) e))
    rw [mrd_wr, if_neg (by omega), show mrd μ 64 73 = nI M from h4.2.1, show mrd μ 12 0 = nI M from h4.1]
  · exact s_X11_forget (fun q => absurd q e0) (fun q => absurd q e1) (fun q => absurd q e2) (fun _ => ⟨rfl, hI.rf (k := 0) (by omega)⟩)
end S61
