/-! CALLS: what is asked, changing nothing -/
section S60
variable {μ : gM} {i z c a : Int32}
theorem c_of (hI : INV μ) : CTi 2 2 MX10_of MX11_of [.int i, .int z] μ := by
  have h0 := hI.1
  obtain ⟨P, A, W, th, t, T, N, M, U, h1, h2, h3, h4, h5⟩ := h0
  have h7 := h1.1.2.2
  refine s_X10_of h1.lc (fun hb => ⟨_, rfl, ?_⟩) (fun k hk ik hb => ⟨_, rfl, ?_⟩)
  · exact s_X11_of (h1.mr (RS.rf 10)) (fun _ => ⟨rfl, hI.rf (k := 0) (by omega)⟩) (fun k hk ik q => by rw [ik, mIn_n (by omega), decide_eq_true hk, q] at hb; exact absurd hb (by decide))
  · refine s_X11_of (h1.mr RS.self) (fun q => by rw [ik, mIn_n (by omega), decide_eq_true hk, hb] at q; exact absurd q (by decide)) (fun k' hk' ik' _ => ⟨?_, hI⟩)
    have e := (nI_eq (by omega) (by omega)).mp (ik.symm.trans ik')
    subst e
    obtain ⟨g1, g2, g3, -⟩ := h1.2.2.2.2.2.2.1 k hk
    rw [show mrd μ 64 (12 + k) = mrd μ 3 k from g1, show mrd μ 64 (19 + k) = mrd μ 4 k from g2, show mrd μ 64 k = mrd μ 5 k from g3]
theorem th_bit : ∀ T, T < 16 → ∀ k, k < 4 → (nI T >>> (nI k &&& 31)) &&& 1 = bI (mHas (nI T) (nI k)) := by decide +kernel
theorem c_about (hI : INV μ) : CTi 3 2 MX10_about MX11_about [.int i, .int z] μ := by
  have h0 := hI.1
  obtain ⟨P, A, W, th, t, T, N, M, U, h1, h2, h3, h4, h5⟩ := h0
  have h7 := h1.2.1.2.2
  refine s_X10_about h1.lc (fun hb => ⟨_, rfl, ?_⟩) (fun k hk ik hb => ⟨_, rfl, ?_⟩)
  · exact s_X11_about (h1.mr (RS.rf 10)) (fun _ => ⟨rfl, hI.rf (k := 0) (by omega)⟩) (fun k hk ik q => by rw [ik, mIn_n (by omega), decide_eq_true hk, q] at hb; exact absurd hb (by decide))
  · refine s_X11_about (h1.mr RS.self) (fun q => by rw [ik, mIn_n (by omega), decide_eq_true hk, hb] at q; exact absurd q (by decide)) (fun k' hk' ik' _ => ⟨?_, hI⟩)
    have e := (nI_eq (by omega) (by omega)).mp (ik.symm.trans ik')
    subst e
    obtain ⟨g1, g2⟩ := h1.2.2.2.2.2.2.2 k hk
    obtain ⟨-, c8, -, h16⟩ := h1.cw
    rw [show mrd μ 64 (27 + k) = mrd μ 6 k from g1, show mrd μ 64 (31 + k) = mrd μ 7 k from g2, (h1.rw RS.self).2.1, c8, th_bit th h16 k (by omega)]
theorem c_leans (hI : INV μ) : CTi 2 3 MX10_leans MX11_leans [.int i, .int c, .int z] μ := by
  have h0 := hI.1
  obtain ⟨P, A, W, th, t, T, N, M, U, h1, h2, h3, h4, h5⟩ := h0
  have h7 := h1.1.2.2
  refine s_X10_leans h1.lc (fun hb => ⟨_, rfl, ?_⟩) (fun k hk ik hb hc => ⟨_, rfl, ?_⟩)
  · exact s_X11_leans (h1.mr (RS.rf 10)) (fun _ => ⟨rfl, hI.rf (k := 0) (by omega)⟩) (fun k hk ik q q2 => by rw [ik, mIn_n (by omega), decide_eq_true hk, q, q2] at hb; exact absurd hb (by decide))
  · refine s_X11_leans (h1.mr RS.self) (fun q => by rw [ik, mIn_n (by omega), decide_eq_true hk, hb, hc] at q; exact absurd q (by decide)) (fun k' hk' ik' _ _ => ⟨?_, hI⟩)
    have e := (nI_eq (by omega) (by omega)).mp (ik.symm.trans ik')
    subst e
    obtain ⟨g1, g2, g3, -⟩ := h1.2.2.2.2.2.2.1 k hk
    obtain ⟨-, c8, -, h16⟩ := h1.cw
    rw [show mrd μ 64 (12 + k) = mrd μ 3 k from g1, show mrd μ 64 k = mrd μ 5 k from g3, (h1.rw RS.self).2.1, c8, mLng_c (h1.ve RS.self) hk]
theorem c_sound (hI : INV μ) : CTi 3 5 MX10_sound MX11_sound [.int c] μ := by
  have h0 := hI.1
  obtain ⟨P, A, W, th, t, T, N, M, U, h1, h2, h3, h4, h5⟩ := h0
  obtain ⟨c0, c8, c9, h16⟩ := h1.cw
  obtain ⟨r0, r8, r9, r10⟩ := h1.rw RS.self
  refine s_X10_sound h1.lc (fun hb => ⟨_, rfl, ?_⟩) (fun hb => ⟨_, rfl, ?_⟩)
  · exact s_X11_sound (h1.mr (RS.rf 10)) (fun _ => ⟨rfl, hI.rf (k := 0) (by omega)⟩) (fun q => tf hb q)
  · refine s_X11_sound (h1.mr RS.self) (fun q => tf q hb) (fun _ ν hν => ⟨?_, hI.sm hν.sm⟩)
    rw [r0, r8, c0, c8, vSnd_c (h1.ve RS.self)]
theorem c_entry (hI : INV μ) : CTi 5 5 MX10_entry MX11_entry [] μ := by
  have h0 := hI.1
  obtain ⟨P, A, W, th, t, T, N, M, U, h1, h2, h3, h4, h5⟩ := h0
  obtain ⟨c0, c8, c9, h16⟩ := h1.cw
  obtain ⟨r0, r8, r9, r10⟩ := h1.rw RS.self
  have hW := h1.2.2.1.2.2
  let f : Nat → Bool := fun d => decide (mrd μ 2 0 ≤ vRch (cV μ 2) (mrd μ 2 8) A P (mrd μ 2 9 + nI d) (-1))
  have hf : ∀ d, d < 61 → f d = decide (0 < vSnd (rV μ 0) (mrd μ 64 7) A (mrd μ 64 10) P (mrd μ 64 9 + nI d)) := by
    intro d _
    show decide _ = decide _
    rw [c0, c8, c9, r0, r8, r9, vSnd_c (h1.ve RS.self), decide_eq_decide]
    exact (vE_p h1.vw hW.1 hW.2).symm
  refine s_X10_entry (f := f) h1.lc (fun d _ => rfl) (fun hn => ⟨_, rfl, ?_⟩) (fun d hd hy hl => ⟨_, rfl, ?_⟩)
  · exact s_X11_entry (f := f) (h1.mr RS.self) hf (fun _ ν hν => ⟨rfl, hI.sm hν.sm⟩) (fun d hd q _ ν hν => tf q (hn d hd))
  · refine s_X11_entry (f := f) (h1.mr RS.self) hf (fun q ν hν => tf hy (q d hd)) (fun e he q ql ν hν => ⟨?_, hI.sm hν.sm⟩)
    rcases Nat.lt_trichotomy d e with l | l | l
    · exact tf hy (ql d l)
    · rw [l]
    · exact tf q (hl e l)
theorem c_then (hI : INV μ) : CTi 5 6 MX10_then MX11_then [.int z] μ := by
  have h0 := hI.1
  obtain ⟨P, A, W, th, t, T, N, M, U, h1, h2, h3, h4, h5⟩ := h0
  obtain ⟨c0, c8, c9, h16⟩ := h1.cw
  have ht := h1.2.2.2.2.1.2.2
  refine s_X10_then (snd := vSnd (cV μ 2) (nI th) A (nI W) P) h1.lc (fun c => by rw [c0, c8]) (fun hb => ⟨_, rfl, ?_⟩) (fun n hn hn6 ν hν => ⟨_, rfl, ?_⟩)
  · exact s_X11_then (ok := fun _ => true) (snd := fun c => vSnd (rV (mRf μ 10) 0) (mrd (mRf μ 10) 64 7) A (mrd (mRf μ 10) 64 10) P c) (h1.mr (RS.rf 10)) (fun _ => rfl) (fun _ => rfl) (fun _ => ⟨rfl, hI.rf (k := 0) (by omega)⟩) (fun n hn hn6 => by
      have : oB z 0 60 = false := by rw [hn]; unfold oB; rw [decide_eq_false]; rintro (q | q); exact nI_pos (by omega) q; have := nlt (a := 60) q (by omega) (by omega); omega
      exact fun _ _ => tf hb this)
  · obtain ⟨r0, r8, r9, r10⟩ := h1.rw hν.rs
    refine s_X11_then (ok := fun _ => true) (snd := vSnd (cV μ 2) (nI th) A (nI W) P) (h1.mr hν.rs) (fun _ => rfl) (fun c => by rw [r0, r8, vSnd_c (h1.ve hν.rs)]) (fun q => ?_) (fun m hm hm6 ξ hξ => ⟨?_, (hI.sm hν).sm hξ⟩)
    · exfalso
      have : oB z 0 60 = false := by rw [hn]; unfold oB; rw [decide_eq_false]; rintro (q | q); exact nI_pos (by omega) q; have := nlt (a := 60) q (by omega) (by omega); omega
      exact tf q this
    · have e := (nI_eq (by omega) (by omega)).mp (hn.symm.trans hm)
      subst e
      rw [r10, r9, c9, (mPass_then (ok := fun _ => true) (fun _ => rfl) (by omega) n (Nat.le_refl _)).1]
theorem c_still (hI : INV μ) : CTi 6 6 MX10_still MX11_still [.int z] μ := by
  have h0 := hI.1
  obtain ⟨P, A, W, th, t, T, N, M, U, h1, h2, h3, h4, h5⟩ := h0
  obtain ⟨c0, c8, c9, h16⟩ := h1.cw
  have hW := h1.2.2.1.2.2
  let f : Nat → Nat → Bool := fun m j => mAll (fun d => decide (¬ mrd μ 2 0 ≤ vRch (cV μ 2) (nI j) A P (mrd μ 2 9 + nI d) (-1))) m
  have hf1 : ∀ m j, m ≤ 60 → j < 2 ^ A → (f m j = true ↔ ∀ d, d < m → ¬ mrd μ 2 0 ≤ vRch (cV μ 2) (nI j) A P (mrd μ 2 9 + nI d) (-1)) := by
    intro m j _ _
    show mAll _ m = true ↔ _
    rw [mAll_iff]
    exact ⟨fun h d hd => of_decide_eq_true (h d hd), fun h d hd => decide_eq_true (h d hd)⟩
  have hf2 : ∀ ν, RS μ ν → ∀ m j, m ≤ 60 → j < 2 ^ A → (f m j = true ↔ ∀ d, d < m → vSnd (rV ν 0) (nI j) A (mrd ν 64 10) P (mrd ν 64 9 + nI d) = 0) := by
    intro ν hν m j hm hj
    obtain ⟨r0, r8, r9, r10⟩ := h1.rw hν
    rw [hf1 m j hm hj]
    have e : ∀ d, (¬ mrd μ 2 0 ≤ vRch (cV μ 2) (nI j) A P (mrd μ 2 9 + nI d) (-1)) ↔ vSnd (rV ν 0) (nI j) A (mrd ν 64 10) P (mrd ν 64 9 + nI d) = 0 := by
      intro d
      rw [c0, c9, r0, r9, vSnd_c (h1.ve hν)]
      exact (vE_z h1.vw hW.1 hW.2).symm
    exact ⟨fun h d hd => (e d).mp (h d hd), fun h d hd => (e d).mpr (h d hd)⟩
  have nob : ∀ n, z = nI n → 1 ≤ n → n ≤ 60 → oB z 1 60 = false := by
    intro n hn n1 n6
    rw [hn]
    unfold oB
    rw [decide_eq_false]
    rintro (q | q)
    · have := nlt (b := 1) q (by omega) (by omega); omega
    · have := nlt (a := 60) q (by omega) (by omega); omega
  refine s_X10_still (f := f) h1.lc hf1 (fun hb => ⟨_, rfl, ?_⟩) (fun n hn n1 n6 ν hν => ⟨_, rfl, ?_⟩)
  · exact s_X11_still (f := f) (h1.mr (RS.rf 10)) (hf2 _ (RS.rf 10)) (fun _ => ⟨rfl, hI.rf (k := 0) (by omega)⟩) (fun n hn n1 n6 _ _ => tf hb (nob n hn n1 n6))
  · refine s_X11_still (f := f) (h1.mr hν.rs) (hf2 _ hν.rs) (fun q => tf q (nob n hn n1 n6)) (fun m hm m1 m6 ξ hξ => ⟨?_, (hI.sm hν).sm hξ⟩)
    have e := (nI_eq (by omega) (by omega)).mp (hn.symm.trans hm)
    rw [e]
theorem c_push (hI : INV μ) : CTi 5 5 MX10_push MX11_push [.int i, .int c] μ := by
  have h0 := hI.1
  obtain ⟨P, A, W, th, t, T, N, M, U, h1, h2, h3, h4, h5⟩ := h0
  obtain ⟨c0, c8, c9, h16⟩ := h1.cw
  have hW := h1.2.2.1.2.2
  have h7 := h1.1.2.2
  let f : Nat → Nat → Bool := fun k a => decide (mrd μ 2 0 ≤ vRch (uV (cV μ 2) k (nI a)) (mrd μ 2 8) A P c (-1))
  have hf : ∀ ν, RS μ ν → ∀ k a, a < 10 → f k a = decide (0 < vSnd (uV (rV ν 0) k (nI a)) (mrd ν 64 7) A (mrd ν 64 10) P c) := by
    intro ν hν k a ha
    obtain ⟨r0, r8, r9, r10⟩ := h1.rw hν
    show decide _ = decide _
    rw [c0, c8, r0, r8, vSnd_c (h1.ve hν).sw, decide_eq_decide]
    exact (vE_p (h1.vw.sw (by omega)) hW.1 hW.2).symm
  have nob : ∀ k, k < P → i = nI k → oB c 0 99 = false → (!mIn i P || oB c 0 99) = false := by
    intro k hk ik q
    rw [ik, mIn_n (by omega), decide_eq_true hk, q]; rfl
  refine s_X10_push (f := f) h1.lc (fun k a _ => rfl) (fun hb => ⟨_, rfl, ?_⟩) (fun k hk ik hb hn ν hν => ⟨_, rfl, ?_⟩) (fun k hk ik hb a ha hy hl ν hν => ⟨_, rfl, ?_⟩)
  · exact s_X11_push (f := f) (h1.mr (RS.rf 10)) (hf _ (RS.rf 10)) (fun _ => ⟨rfl, hI.rf (k := 0) (by omega)⟩) (fun k hk ik q _ _ _ => tf hb (nob k hk ik q)) (fun k hk ik q _ _ _ _ _ _ => tf hb (nob k hk ik q))
  · refine s_X11_push (f := f) (h1.mr hν.rs) (hf _ hν.rs) (fun q => tf q (nob k hk ik hb)) (fun k' hk' ik' _ _ ξ hξ => ⟨rfl, (hI.sm hν).sm hξ⟩) (fun k' hk' ik' _ a ha q _ ξ hξ => ?_)
    have e := (nI_eq (by omega) (by omega)).mp (ik.symm.trans ik')
    subst e
    exact tf q (hn a ha)
  · refine s_X11_push (f := f) (h1.mr hν.rs) (hf _ hν.rs) (fun q => tf q (nob k hk ik hb)) (fun k' hk' ik' _ q ξ hξ => ?_) (fun k' hk' ik' _ a' ha' q ql ξ hξ => ⟨?_, (hI.sm hν).sm hξ⟩)
    · have e := (nI_eq (by omega) (by omega)).mp (ik.symm.trans ik')
      subst e
      exact tf hy (q a ha)
    · have e := (nI_eq (by omega) (by omega)).mp (ik.symm.trans ik')
      subst e
      rcases Nat.lt_trichotomy a a' with l | l | l
      · exact tf hy (ql a l)
      · rw [l]
      · exact tf q (hl a' l)
theorem c_wrong (hI : INV μ) : CTi 5 5 MX10_wrong MX11_wrong [.int c] μ := by
  have h0 := hI.1
  obtain ⟨P, A, W, th, t, T, N, M, U, h1, h2, h3, h4, h5⟩ := h0
  obtain ⟨c0, c8, c9, h16⟩ := h1.cw
  have hW := h1.2.2.1.2.2
  let s : Bool := decide (mrd μ 2 0 ≤ vRch (cV μ 2) (mrd μ 2 8) A P c (-1))
  let f : Nat → Bool := fun k => decide (vRch (cV μ 2) (mrd μ 2 8) A P c (nI k) < mrd μ 2 0)
  have hs : ∀ ν, RS μ ν → s = decide (0 < vSnd (rV ν 0) (mrd ν 64 7) A (mrd ν 64 10) P c) := by
    intro ν hν
    obtain ⟨r0, r8, r9, r10⟩ := h1.rw hν
    show decide _ = decide _
    rw [c0, c8, r0, r8, vSnd_c (h1.ve hν), decide_eq_decide]
    exact (vE_p h1.vw hW.1 hW.2).symm
  have hf : ∀ ν, RS μ ν → ∀ k, k < P → f k = decide (rSnd ν 0 A P (mrd ν 64 10) c (nI k) = 0) := by
    intro ν hν k hk
    obtain ⟨r0, r8, r9, r10⟩ := h1.rw hν
    have hv := h1.ve hν
    show decide _ = decide _
    rw [c0, c8, decide_eq_decide, r0]
    have e : rSnd ν 0 A P (nI W) c (nI k) = mSnd (cV μ 2 1) (fun i => if nI i = nI k then 0 else mLng (cV μ 2) (nI th) A i c) (nI W) P := by
      unfold rSnd mSnd
      refine mSum_c (fun i hi => mSum_c (fun j hj => ?_))
      have ei : (if nI i = nI k then 0 else mLng (rV ν 0) (mrd ν 64 (0 + 7)) A i c) = (if nI i = nI k then 0 else mLng (cV μ 2) (nI th) A i c) := by
        rw [show mrd ν 64 (0 + 7) = nI th from r8, mLng_c hv hi]
      have ej : (if nI j = nI k then 0 else mLng (rV ν 0) (mrd ν 64 (0 + 7)) A j c) = (if nI j = nI k then 0 else mLng (cV μ 2) (nI th) A j c) := by
        rw [show mrd ν 64 (0 + 7) = nI th from r8, mLng_c hv hj]
      unfold mPair
      simp only [ei, ej, (hv.1 i hi).2.1, (hv.1 j hj).2.1]
    rw [e]
    exact (vE_lo h1.vw hW.1 hW.2).symm
  refine s_X10_wrong (f := f) (s := s) h1.lc rfl (fun k _ => rfl) (fun hb => ⟨_, rfl, ?_⟩) (fun hb => ⟨_, rfl, ?_⟩)
  · exact s_X11_wrong (f := f) (s := s) (h1.mr (RS.rf 10)) (hs _ (RS.rf 10)) (hf _ (RS.rf 10)) (fun _ => ⟨rfl, hI.rf (k := 0) (by omega)⟩) (fun q => tf hb q)
  · exact s_X11_wrong (f := f) (s := s) (h1.mr RS.self) (hs _ RS.self) (hf _ RS.self) (fun q => tf q hb) (fun _ ν hν => ⟨rfl, hI.sm hν.sm⟩)
end S60
