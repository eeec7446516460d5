/-! CALLS: guesses, the game, chances, reigns, what there is -/
theorem mFw_c {f f' : Nat → Int64} {h : Int64} : ∀ n, (∀ k, k < n → f k = f' k) → mFw f n h = mFw f' n h := by
  intro n
  induction n with
  | zero => intro _; rfl
  | succ n ih => intro e; rw [mFw, mFw, ih (fun k hk => e k (by omega)), e n (by omega)]
theorem mFo_c {g g' : Nat → Nat → Int64} {c : Nat} {h : Int64} : ∀ n, (∀ k, k < n → ∀ w, w < c → g k w = g' k w) → mFo g c n h = mFo g' c n h := by
  intro n
  induction n with
  | zero => intro _; rfl
  | succ n ih => intro e; rw [mFo, mFo, ih (fun k hk => e k (by omega)), mFw_c c (e n (by omega))]
theorem mFw_add {f : Nat → Int64} {h : Int64} {a : Nat} : ∀ b, mFw f (a + b) h = mFw (fun j => f (a + j)) b (mFw f a h) := by
  intro b
  induction b with
  | zero => rfl
  | succ b ih => rw [← Nat.add_assoc, mFw, mFw, ih]
theorem mFo_flat {g : Nat → Nat → Int64} {c : Nat} {h : Int64} (hc : 0 < c) : ∀ n, mFo g c n h = mFw (fun k => g (k / c) (k % c)) (c * n) h := by
  intro n
  induction n with
  | zero => rw [Nat.mul_zero]; rfl
  | succ n ih =>
    rw [mFo, Nat.mul_succ, mFw_add, ← ih]
    refine mFw_c c (fun j hj => ?_)
    show g n j = g ((c * n + j) / c) ((c * n + j) % c)
    rw [Nat.mul_add_div hc, Nat.div_eq_of_lt hj, Nat.add_zero, Nat.mul_add_mod, Nat.mod_eq_of_lt hj]
theorem mRei_c {V V' : Nat → Nat → Int32} {th w t : Int32} {P A : Nat} {sd : Int64} (h : VE V V' P A) : ∀ n, (mRei V th A w P t sd n).1 = (mRei V' th A w P t sd n).1 ∧ VE (mRei V th A w P t sd n).2.1 (mRei V' th A w P t sd n).2.1 P A ∧ (mRei V th A w P t sd n).2.2 = (mRei V' th A w P t sd n).2.2 := by
  intro n
  induction n with
  | zero => exact ⟨rfl, h, rfl⟩
  | succ n ih =>
    obtain ⟨i1, i2, i3⟩ := ih
    have e1 : ∀ V, mRei V th A w P t sd (n + 1) = (rXx (mRei V th A w P t sd n).1, if mIn (rIx (rXx (mRei V th A w P t sd n).1)) P = true then uV (mRei V th A w P t sd n).2.1 (rIx (rXx (mRei V th A w P t sd n).1)).toNatClampNeg (rAx (rXx (mRei V th A w P t sd n).1)) else (mRei V th A w P t sd n).2.1, (mRei V th A w P t sd n).2.2 + vSnd (if mIn (rIx (rXx (mRei V th A w P t sd n).1)) P = true then uV (mRei V th A w P t sd n).2.1 (rIx (rXx (mRei V th A w P t sd n).1)).toNatClampNeg (rAx (rXx (mRei V th A w P t sd n).1)) else (mRei V th A w P t sd n).2.1) th A w P (t + nI n)) := fun V => rfl
    rw [e1 V, e1 V']
    have hv : VE (if mIn (rIx (rXx (mRei V th A w P t sd n).1)) P = true then uV (mRei V th A w P t sd n).2.1 (rIx (rXx (mRei V th A w P t sd n).1)).toNatClampNeg (rAx (rXx (mRei V th A w P t sd n).1)) else (mRei V th A w P t sd n).2.1) (if mIn (rIx (rXx (mRei V' th A w P t sd n).1)) P = true then uV (mRei V' th A w P t sd n).2.1 (rIx (rXx (mRei V' th A w P t sd n).1)).toNatClampNeg (rAx (rXx (mRei V' th A w P t sd n).1)) else (mRei V' th A w P t sd n).2.1) P A := by
      rw [i1]
      split
      · exact i2.sw
      · exact i2
    exact ⟨by rw [i1], hv, by rw [i3, vSnd_c hv]⟩
section S62
variable {μ ν ξ : gM} {i z c a o k : Int32} {P A W th t T N M U q r p : Nat}
theorem kn_eq {fn : Int32 → Int32 → Int32 → Int32} {kind : Nat} (hn : ∀ j, j < 4 * N → mrd ν 64 (p + j) = mrd μ (r + 1) j) (hq : q < N) : rKn ν fn p i q kind = mKn μ fn r i kind q := by
  unfold rKn mKn
  rw [Nat.add_assoc p, Nat.add_assoc p, Nat.add_assoc p, hn _ (by omega), hn _ (by omega), hn _ (by omega), hn _ (by omega)]
theorem HN.e10 (h3 : HN (cH μ 1) (rH μ 0) 9 48 N) (hs : RS μ ν) : mrd ν 64 48 = nI N ∧ ∀ j, j < 4 * N → mrd ν 64 (49 + j) = mrd μ (10 + 1) j := by
  have := h3.2.2.1
  exact ⟨by rw [hs.row (by omega)]; exact h3.2.1, fun j hj => by rw [hs.row (by omega)]; exact h3.2.2.2 j hj⟩
theorem HN.e12 (h4 : HN (cH μ 1) (rH μ 0) 11 73 M) (hs : RS μ ν) : mrd ν 64 73 = nI M ∧ ∀ j, j < 4 * M → mrd ν 64 (74 + j) = mrd μ (12 + 1) j := by
  have := h4.2.2.1
  exact ⟨by rw [hs.row (by omega)]; exact h4.2.1, fun j hj => by rw [hs.row (by omega)]; exact h4.2.2.2 j hj⟩
theorem c_is (hI : INV μ) : CTi 3 2 MX10_is MX11_is [.int i] μ := by
  have h0 := hI.1
  obtain ⟨P, A, W, th, t, T, N, M, U, h1, h2, h3, h4, h5⟩ := h0
  refine s_X10_is h1.lc h3.1 h3.2.2.1 (fun hb => ⟨_, rfl, ?_⟩) (fun hb => ⟨_, rfl, ?_⟩)
  · exact s_X11_is (h1.mr (RS.rf 10)) (h3.e10 (RS.rf 10)).1 h3.2.2.1 (fun _ => ⟨rfl, hI.rf (k := 0) (by omega)⟩) (fun q => tf q hb)
  · refine s_X11_is (h1.mr RS.self) (h3.e10 RS.self).1 h3.2.2.1 (fun q => tf hb q) (fun _ => ⟨?_, hI⟩)
    rw [mBits_c (fun kind _ => mAll_c N (fun q hq => kn_eq (h3.e10 RS.self).2 hq))]
theorem c_kinds (hI : INV μ) : CTi 3 3 MX10_kinds MX11_kinds [.int i] μ := by
  have h0 := hI.1
  obtain ⟨P, A, W, th, t, T, N, M, U, h1, h2, h3, h4, h5⟩ := h0
  refine s_X10_kinds h1.lc h4.1 h4.2.2.1 (fun hb => ⟨_, rfl, ?_⟩) (fun hb => ⟨_, rfl, ?_⟩)
  · exact s_X11_kinds (h1.mr (RS.rf 10)) (h4.e12 (RS.rf 10)).1 h4.2.2.1 (fun _ => ⟨rfl, hI.rf (k := 0) (by omega)⟩) (fun q => tf q hb)
  · refine s_X11_kinds (h1.mr RS.self) (h4.e12 RS.self).1 h4.2.2.1 (fun q => tf hb q) (fun _ => ⟨?_, hI⟩)
    rw [mBits_c (fun kind _ => mAll_c M (fun q hq => kn_eq (h4.e12 RS.self).2 hq))]
theorem c_look (hI : INV μ) : CTi 3 2 MX10_look MX11_look [.int i] μ := by
  have h0 := hI.1
  obtain ⟨P, A, W, th, t, T, N, M, U, h1, h2, h3, h4, h5⟩ := h0
  let s : Int32 := mBits (fun kind => mAll (mKn μ mLean 10 i kind) N) 6
  let g : Nat → Nat := fun q => mAk (fun k => mLean (nI k) (nI (q % 10)) (nI (q / 10))) s
  have hs : ∀ ν, RS μ ν → s = mBits (fun kind => mAll (fun q => rKn ν mLean 49 i q kind) N) 6 := fun ν hν => (mBits_c (fun kind _ => mAll_c N (fun q hq => kn_eq (h3.e10 hν).2 hq))).symm
  refine s_X10_look (s := s) (g := g) h1.lc h3.1 h3.2.2.1 rfl (fun _ _ => rfl) (fun hb => ⟨_, rfl, ?_⟩) (fun hb ν hν => ⟨_, rfl, ?_⟩)
  · exact s_X11_look (s := s) (g := g) (h1.mr (RS.rf 10)) (h3.e10 (RS.rf 10)).1 h3.2.2.1 (hs _ (RS.rf 10)) (fun _ _ => rfl) (fun _ => ⟨rfl, hI.rf (k := 0) (by omega)⟩) (fun q _ _ => tf q hb)
  · refine s_X11_look (s := s) (g := g) (h1.mr hν.rs) (h3.e10 hν.rs).1 h3.2.2.1 (hs _ hν.rs) (fun _ _ => rfl) (fun q => tf hb q) (fun _ ξ hξ => ⟨?_, (hI.sm hν).sm hξ⟩)
    have g0 : g 0 ≤ 6 := mAk_6 _ _
    rw [mFew_B (B := 99) (B' := 7) (by omega) (by omega) 120 (by omega)]
theorem c_ask (hI : INV μ) : CTi 3 3 MX10_ask MX11_ask [.int i] μ := by
  have h0 := hI.1
  obtain ⟨P, A, W, th, t, T, N, M, U, h1, h2, h3, h4, h5⟩ := h0
  let s : Int32 := mBits (fun kind => mAll (mKn μ mDamp 12 i kind) M) 6
  let g : Nat → Nat := fun q => mAk (fun k => mDamp (nI k) (nI (q % 16)) (nI (q / 16))) s
  have hs : ∀ ν, RS μ ν → s = mBits (fun kind => mAll (fun q => rKn ν mDamp 74 i q kind) M) 6 := fun ν hν => (mBits_c (fun kind _ => mAll_c M (fun q hq => kn_eq (h4.e12 hν).2 hq))).symm
  refine s_X10_ask (s := s) (g := g) h1.lc h4.1 h4.2.2.1 rfl (fun _ _ => rfl) (fun hb => ⟨_, rfl, ?_⟩) (fun hb ν hν => ⟨_, rfl, ?_⟩)
  · exact s_X11_ask (s := s) (g := g) (h1.mr (RS.rf 10)) (h4.e12 (RS.rf 10)).1 h4.2.2.1 (hs _ (RS.rf 10)) (fun _ _ => rfl) (fun _ => ⟨rfl, hI.rf (k := 0) (by omega)⟩) (fun q _ _ => tf q hb)
  · refine s_X11_ask (s := s) (g := g) (h1.mr hν.rs) (h4.e12 hν.rs).1 h4.2.2.1 (hs _ hν.rs) (fun _ _ => rfl) (fun q => tf hb q) (fun _ ξ hξ => ⟨?_, (hI.sm hν).sm hξ⟩)
    have g0 : g 0 ≤ 6 := mAk_6 _ _
    rw [mFew_B (B := 99) (B' := 7) (by omega) (by omega) 160 (by omega)]
theorem c_game (hI : INV μ) : CTi 5 5 MX10_game MX11_game [.int i, .int z, .int c, .int k] μ := by
  have h0 := hI.1
  obtain ⟨P, A, W, th, t, T, N, M, U, h1, h2, h3, h4, h5⟩ := h0
  obtain ⟨c0, c8, c9, h16⟩ := h1.cw
  have h7 := h1.1.2.2
  have ha4 := h1.2.1.2.2
  have nob : ∀ p u, p < P → u < A → i = nI p → z = nI u → oB c 0 99 = false → ¬ k < -1 → (!mIn i P || !mIn z A || oB c 0 99 || decide (k < -1)) = false := by
    intro p u hp hu ip zu q q2
    rw [ip, zu, mIn_n (by omega), mIn_n (by omega), decide_eq_true hp, decide_eq_true hu, q, decide_eq_false q2]; rfl
  refine s_X10_game h1.lc c8 h16 (fun hb => ⟨_, rfl, ?_⟩) (fun p u hp hu ip zu hc hk ν G r hν hG hr => ⟨_, rfl, ?_⟩)
  · exact s_X11_game (h1.mr (RS.rf 10)) (h1.rw (RS.rf 10)).2.1 h16 (fun _ => ⟨rfl, hI.rf (k := 0) (by omega)⟩) (fun p u hp hu ip zu hc hk _ _ _ _ _ _ => tf hb (nob p u hp hu ip zu hc hk))
  · refine s_X11_game (h1.mr hν.rs) (h1.rw hν.rs).2.1 h16 (fun q => tf q (nob p u hp hu ip zu hc hk)) (fun p' u' hp' hu' ip' zu' _ _ ξ G' r' hξ hG' hr' => ⟨?_, (hI.sm hν).sm hξ⟩)
    have e1 := (nI_eq (by omega) (by omega)).mp (ip.symm.trans ip')
    have e2 := (nI_eq (by omega) (by omega)).mp (zu.symm.trans zu')
    subst e1 e2
    have eG : ∀ q, q < 20 → G' q = G q := by
      intro q hq
      rw [hG q hq, hG' q hq, (h1.rw hν.rs).1, c0]
      exact vSnd_c (h1.ve hν.rs).sw
    rw [gGm_u eG hr' hr]
theorem INV.lg (h : INV μ) (hc : ∀ c j, ¬ gScr c j → mrd ν c j = mrd μ c j) (l0 : mrL ν 49 0 = mrL ν 63 3) (l1 : mrL ν 49 1 = mrL ν 63 4) : INV ν := by
  obtain ⟨h0, h1, h2, ⟨L, b1, b2, b3⟩, b4, b5, b6, b7, b8⟩ := h
  have e : ∀ c j, 16 ≤ c → c < 46 → mrd ν c j = mrd μ c j := fun c j a b => hc c j (by unfold gScr; omega)
  have er : ∀ j, j < 537 → mrd ν 64 j = mrd μ 64 j := fun j b => hc 64 j (by unfold gScr; omega)
  refine ⟨h0.c (fun i j hij => hc _ _ (by unfold hR lR at hij; unfold gScr; omega)) (fun j hj => er _ (by omega)), h1.c (by omega) (hc _ _ (by unfold gScr; omega)) (hc _ _ (by unfold gScr; omega)) e (fun j _ b => er j b), h2.c (by omega) (hc _ _ (by unfold gScr; omega)) (hc _ _ (by unfold gScr; omega)) e (fun j _ b => er j b), ⟨L, b1, by rw [hc 46 0 (by unfold gScr; omega), b2], by rw [hc 63 6 (by unfold gScr; omega), b3]⟩, ?_, fun i k hi hk => by rw [hc 68 _ (by unfold gScr; omega), b5 i k hi hk], l0, l1, fun k hk => by rw [hc 0 _ (by unfold gScr; omega), hc 66 _ (by unfold gScr; omega), b8 k hk]⟩
  funext j
  rw [hc 47 j (by unfold gScr; omega), hc 67 j (by unfold gScr; omega), b4]
theorem mSumL_c {f f' : Nat → Int64} : ∀ n, (∀ k, k < n → f k = f' k) → mSumL f n = mSumL f' n := by
  intro n
  induction n with
  | zero => intro _; rfl
  | succ n ih => intro e; rw [mSumL, mSumL, ih (fun k hk => e k (by omega)), e n (by omega)]
theorem c_slips (hI : INV μ) : CTi 5 5 MX10_slips MX11_slips [.int c, .int o] μ := by
  have h0 := hI.1
  obtain ⟨P, A, W, th, t, T, N, M, U, h1, h2, h3, h4, h5⟩ := h0
  obtain ⟨c0, c8, c9, h16⟩ := h1.cw
  have hW := h1.2.2.1.2.2
  have val : oB o 0 10 = false → ∀ a, a < 16 → (mShr (cV μ 2) A P (mrd μ 2 0) c th o a = 0 ∨ mShr (cV μ 2) A P (mrd μ 2 0) c th o a = rWy th o a 4) := by
    intro ho a ha
    obtain ⟨o', rfl, o1, o2⟩ := oB_n (A := 0) (B := 10) ho rfl rfl (by omega) (by omega)
    obtain ⟨w1, -, -⟩ := rWy_v th h16 o' (by omega) a ha
    unfold mShr
    rw [w1]
    split
    · next q => rw [if_pos q.1]; exact Or.inr rfl
    · exact Or.inl rfl
  have eqF : ∀ ν, RS μ ν → oB o 0 10 = false → mSumL (mShr (cV μ 2) A P (mrd μ 2 0) c th o) 16 = mSumL (rUp ν P A th c o) 16 ∧ mSumL (fun a => rWy th o a 4) 16 = mPow 10 (pcN th) := by
    intro ν hν ho
    obtain ⟨o', rfl, o1, o2⟩ := oB_n (A := 0) (B := 10) ho rfl rfl (by omega) (by omega)
    refine ⟨mSumL_c 16 (fun a ha => ?_), (rWy_s th h16 o' (by omega)).1⟩
    obtain ⟨w1, -, -⟩ := rWy_v th h16 o' (by omega) a ha
    have e : (0 < vSnd (rV ν 0) (nI th &&& (nI a ^^^ (-1))) A (mrd ν 64 10) P c) ↔ mrd μ 2 0 ≤ vRch (cV μ 2) (nI (mSty th a)) A P c (-1) := by
      rw [(mSty_16 th h16 a ha).1, (h1.rw hν).1, c0, vSnd_c (h1.ve hν)]
      exact vE_p h1.vw hW.1 hW.2
    unfold mShr rUp
    rw [w1]
    by_cases q : mrd μ 2 0 ≤ vRch (cV μ 2) (nI (mSty th a)) A P c (-1)
    · rw [if_pos (e.mpr q)]
      by_cases q2 : mSb a th = true
      · rw [if_pos ⟨q2, q⟩, if_pos q2]
      · rw [if_neg (fun y => q2 y.1), if_neg q2]
    · rw [if_neg (fun y => q (e.mp y)), if_neg (fun y => q y.2)]
  have gc : oB o 0 10 = false → gEnd 100 (mSumL (mShr (cV μ 2) A P (mrd μ 2 0) c th o) 16) (mPow 10 (pcN th)) = true ∧ 0 < mGcd 100 (mSumL (mShr (cV μ 2) A P (mrd μ 2 0) c th o) 16) (mPow 10 (pcN th)) ∧ ¬ mGcd 100 (mSumL (mShr (cV μ 2) A P (mrd μ 2 0) c th o) 16) (mPow 10 (pcN th)) = 0 := by
    intro ho
    have v := val ho
    obtain ⟨o', rfl, o1, o2⟩ := oB_n (A := 0) (B := 10) ho rfl rfl (by omega) (by omega)
    exact slips_v h16 (by omega) v
  refine s_X10_slips (U := mSumL (mShr (cV μ 2) A P (mrd μ 2 0) c th o) 16) (D := mPow 10 (pcN th)) h1.lc c8 h16 rfl rfl (fun _ q => (gc q).2.1) (fun hb => ⟨_, rfl, ?_⟩) (fun hc ho ν hν => ⟨_, rfl, ?_⟩)
  · refine s_X11_slips (F := mSumL (rUp (mRf μ 10) P A th c o) 16) (G := mSumL (fun a => rWy th o a 4) 16) (n := 100) (h1.mr (RS.rf 10)) (h1.rw (RS.rf 10)).2.1 h16 rfl rfl (fun q1 q2 => ?_) (fun _ => ⟨rfl, hI.rf (k := 0) (by omega)⟩) (fun q1 q2 _ _ => ?_)
    · rw [q1, q2] at hb; cases hb
    · rw [q1, q2] at hb; cases hb
  · generalize hx : mwL (mwL ν 49 0 (mSumL (mShr (cV μ 2) A P (mrd μ 2 0) c th o) 16 / mGcd 100 (mSumL (mShr (cV μ 2) A P (mrd μ 2 0) c th o) 16) (mPow 10 (pcN th)))) 49 1 (mPow 10 (pcN th) / mGcd 100 (mSumL (mShr (cV μ 2) A P (mrd μ 2 0) c th o) 16) (mPow 10 (pcN th))) = ν1
    have hd : ∀ c j, mrd ν1 c j = mrd ν c j := fun c j => by rw [← hx]; rfl
    have hRS : RS μ ν1 := ⟨fun c j _ q => (hd c j).trans (hν.1 c j q), fun j => by rw [← hx, mrL_wL, if_neg (by omega), mrL_wL, if_neg (by omega)]; exact hν.2 63 j⟩
    obtain ⟨eF, eG⟩ := eqF ν1 hRS ho
    obtain ⟨g1, g2, g3⟩ := gc ho
    refine s_X11_slips (F := mSumL (mShr (cV μ 2) A P (mrd μ 2 0) c th o) 16) (G := mPow 10 (pcN th)) (n := 100) (h1.mr hRS) (h1.rw hRS).2.1 h16 eF eG.symm (fun _ _ => ⟨g1, g3⟩) (fun q => by rw [hc, ho] at q; cases q) (fun _ _ ξ hξ => ⟨rfl, ?_⟩)
    refine hI.lg (fun c j q => (hξ.1 c j q).trans ((hd c j).trans (hν.1 c j q))) ?_ ?_
    · rw [mrL_wL, if_neg (by omega), mrL_wL, if_neg (by omega), mrL_wL, if_neg (by omega), mrL_wL, if_pos ⟨rfl, rfl⟩, hξ.2, ← hx, mrL_wL, if_neg (by omega), mrL_wL, if_pos ⟨rfl, rfl⟩]
    · rw [mrL_wL, if_neg (by omega), mrL_wL, if_neg (by omega), mrL_wL, if_pos ⟨rfl, rfl⟩, hξ.2, ← hx, mrL_wL, if_pos ⟨rfl, rfl⟩]
theorem c_reigns {v : Int32} (hI : INV μ) : CTi 4 5 MX10_reigns MX11_reigns [.int z, .int v] μ := by
  have h0 := hI.1
  obtain ⟨P, A, W, th, t, T, N, M, U, h1, h2, h3, h4, h5⟩ := h0
  obtain ⟨c0, c8, c9, h16⟩ := h1.cw
  have nob : ∀ n, v = nI n → n ≤ 60 → oB z 0 999999 = false → (oB z 0 999999 || oB v 0 60) = false := by
    intro n hn n6 q
    rw [q, hn, Bool.false_or]
    unfold oB
    rw [decide_eq_false]
    rintro (w | w)
    · exact nI_pos (by omega) w
    · have := nlt (a := 60) w (by omega) (by omega); omega
  refine s_X10_reigns h1.lc (fun hb => ⟨_, rfl, ?_⟩) (fun n hn n6 hz ν hν => ⟨_, rfl, ?_⟩)
  · exact s_X11_reigns (h1.mr (RS.rf 10)) (fun _ => ⟨rfl, hI.rf (k := 0) (by omega)⟩) (fun n hn n6 hz _ _ => tf hb (nob n hn n6 hz))
  · refine s_X11_reigns (h1.mr hν.rs) (fun q => tf q (nob n hn n6 hz)) (fun m hm m6 _ ξ hξ => ⟨?_, (hI.sm hν).sm hξ⟩)
    have e := (nI_eq (by omega) (by omega)).mp (hn.symm.trans hm)
    subst e
    obtain ⟨r0, r8, r9, r10⟩ := h1.rw hν.rs
    rw [r0, r8, r9, c0, c8, c9, (mRei_c (h1.ve hν.rs) n).2.2]
theorem c_part (hI : INV μ) : CTl 1 1 MX10_part MX11_part [.int z] μ := by
  refine s_X10_part (fun hb => ⟨_, rfl, ?_⟩) (fun hb => ⟨_, rfl, ?_⟩)
  · exact s_X11_part (fun _ => ⟨rfl, hI.rf (k := 0) (by omega)⟩) (fun q => tf hb q)
  · refine s_X11_part (fun q => tf q hb) (fun _ => ⟨?_, hI⟩)
    have hT := hI.2.2.2
    obtain ⟨-, -, -, l6, l7, -⟩ := hT
    rw [l6, l7]
theorem c_status (hI : INV μ) : CTi 1 2 MX10_status MX11_status [.int z] μ := by
  have hT := hI.2.2.2.2.2.2.2.2
  have o : ∀ k, k < 3 → z = nI k → oB z 0 2 = false := by
    intro k hk e
    rw [e]
    unfold oB
    rw [decide_eq_false]
    rintro (q | q)
    · exact nI_pos (by omega) q
    · have := nlt (a := 2) q (by omega) (by omega); omega
  have go : ∀ k v, k < 3 → z = nI k → v = mrd μ 0 (10 + k) → SPC 2 MX11_status [.ref 63, .int z] μ (fun r' ν' => r' = some (.int v) ∧ INV ν') := by
    intro k v hk e hv
    refine s_X11_status (fun d hd e2 => ⟨?_, hI⟩) (fun q => tf q (o k hk e))
    have e3 := (nI_eq (by omega) (by omega)).mp (e.symm.trans e2)
    subst e3
    rw [hv, hT k hk]
  refine s_X10_status (fun e => ⟨_, rfl, go 0 _ (by omega) e rfl⟩) (fun e => ⟨_, rfl, go 1 _ (by omega) e rfl⟩) (fun e => ⟨_, rfl, go 2 _ (by omega) e rfl⟩) (fun e0 e1 e2 => ⟨_, rfl, ?_⟩)
  refine s_X11_status (fun d hd e => ?_) (fun _ => ⟨rfl, hI.rf (k := 0) (by omega)⟩)
  exfalso
  have hd' : d = 0 ∨ d = 1 ∨ d = 2 := by omega
  rcases hd' with rfl | rfl | rfl
  · exact e0 e
  · exact e1 e
  · exact e2 e
theorem nm_eq (hI : INV μ) : ∀ n, n ≤ 10 → rNm μ n = mNm μ n := by
  have h0 := hI.1
  obtain ⟨P, A, W, th, t, T, N, M, U, h1, h2, h3, h4, h5⟩ := h0
  obtain ⟨c0, c8, c9, h16⟩ := h1.cw
  obtain ⟨r0, r8, r9, r10⟩ := h1.rw RS.self
  have hT := hI.2.2.2
  obtain ⟨⟨L, l1, l2, l3⟩, -⟩ := hT
  intro n hn
  have hn' : n = 0 ∨ n = 1 ∨ n = 2 ∨ n = 3 ∨ n = 4 ∨ n = 5 ∨ n = 6 ∨ n = 7 ∨ n = 8 ∨ n = 9 ∨ n = 10 := by omega
  rcases hn' with rfl | rfl | rfl | rfl | rfl | rfl | rfl | rfl | rfl | rfl | rfl
  · show mrd μ 64 11 = mrd μ 2 1
    exact (show mrd μ 64 11 = nI P from h1.1.2.1).trans (show mrd μ 2 1 = nI P from h1.1.1).symm
  · show mrd μ 64 26 = mrd μ 2 5
    exact (show mrd μ 64 26 = nI A from h1.2.1.2.1).trans (show mrd μ 2 5 = nI A from h1.2.1.1).symm
  · show mCnt (mrd μ 64 7) = mBc (mrd μ 2 8)
    rw [r8, c8, mCnt_16 th h16, mBc_16 th h16]
  · show mrd μ 64 9 = mrd μ 2 9
    rw [r9, c9]
  · show mrd μ 64 8 = mrd μ 2 10
    exact r10
  · show mrd μ 64 10 = mrd μ 2 0
    rw [r0, c0]
  · show mrd μ 64 35 = mrd μ 8 0
    exact (show mrd μ 64 35 = nI T from h2.2.1).trans (show mrd μ 8 0 = nI T from h2.1).symm
  · show mrd μ 64 48 = mrd μ 10 0
    exact (show mrd μ 64 48 = nI N from h3.2.1).trans (show mrd μ 10 0 = nI N from h3.1).symm
  · show mrd μ 64 73 = mrd μ 12 0
    exact (show mrd μ 64 73 = nI M from h4.2.1).trans (show mrd μ 12 0 = nI M from h4.1).symm
  · show mrd μ 64 98 = mrd μ 14 0
    exact (show mrd μ 64 98 = nI U from h5.2.1).trans (show mrd μ 14 0 = nI U from h5.1).symm
  · show mrd μ 63 6 = mrd μ 46 0
    rw [l3, l2]
theorem c_count (hI : INV μ) : CTi 2 2 MX10_count MX11_count [.int z] μ := by
  have o : ∀ k, k ≤ 10 → z = nI k → oB z 0 10 = false := by
    intro k hk e
    rw [e]
    unfold oB
    rw [decide_eq_false]
    rintro (q | q)
    · exact nI_pos (by omega) q
    · have := nlt (a := 10) q (by omega) (by omega); omega
  refine s_X10_count (fun hb => ⟨_, rfl, ?_⟩) (fun n hn n10 => ⟨_, rfl, ?_⟩)
  · exact s_X11_count (fun _ => ⟨rfl, hI.rf (k := 0) (by omega)⟩) (fun n hn n10 => tf hb (o n n10 hn))
  · refine s_X11_count (fun q => tf q (o n n10 hn)) (fun m hm m10 => ⟨?_, hI⟩)
    have e := (nI_eq (by omega) (by omega)).mp (hn.symm.trans hm)
    subst e
    rw [nm_eq hI n n10]
theorem c_digest (hI : INV μ) : CTl 5 2 MX10_digest MX11_digest [] μ := by
  have h0 := hI.1
  obtain ⟨P, A, W, th, t, T, N, M, U, h1, h2, h3, h4, h5⟩ := h0
  obtain ⟨c0, c8, c9, h16⟩ := h1.cw
  obtain ⟨r0, r8, r9, r10⟩ := h1.rw RS.self
  have h7 := h1.1.2.2
  have ha4 := h1.2.1.2.2
  have hT := hI.2.2.2
  obtain ⟨-, -, -, l6, l7, -⟩ := hT
  refine s_X10_digest h1.lc h2.1 h2.2.2.1 h3.1 h3.2.2.1 h4.1 h4.2.2.1 ⟨_, rfl, ?_⟩
  refine s_X11_digest (h1.mr RS.self) h2.2.1 h2.2.2.1 (h3.e10 RS.self).1 h3.2.2.1 (h4.e12 RS.self).1 h4.2.2.1 ⟨?_, hI⟩
  have e1 : mFw (fun k => (rNm μ k).toInt64) 11 1559 = mFw (fun k => (mNm μ k).toInt64) 11 1559 := mFw_c 11 (fun k hk => by rw [nm_eq hI k (by omega)])
  have e2 : ∀ h, rLn μ P A h = fLn μ 2 P A h := by
    intro h
    unfold rLn fLn
    have hw : ∀ w, w < 3 → ((nI w = 0) ↔ w = 0) ∧ ((nI w = 1) ↔ w = 1) := by decide +kernel
    have p1 : ∀ h, mFo (fun k w => (if w = 0 then mrd μ 64 (12 + k) else if w = 1 then mrd μ 64 (19 + k) else mrd μ 64 k).toInt64) 3 P h = mFo (fun k w => (if nI w = 0 then mrd μ (2 + 1) k else if nI w = 1 then mrd μ (2 + 2) k else mrd μ (2 + 3) k).toInt64) 3 P h := by
      intro h
      refine mFo_c P (fun k hk w hw3 => ?_)
      obtain ⟨g1, g2, g3, -⟩ := h1.2.2.2.2.2.2.1 k hk
      simp only [(hw w hw3).1, (hw w hw3).2]
      rw [show mrd μ 64 (12 + k) = mrd μ (2 + 1) k from g1, show mrd μ 64 (19 + k) = mrd μ (2 + 2) k from g2, show mrd μ 64 k = mrd μ (2 + 3) k from g3]
    rw [p1]
    refine mFo_c A (fun k hk w hw3 => ?_)
    obtain ⟨g1, g2⟩ := h1.2.2.2.2.2.2.2 k hk
    simp only [(hw w hw3).1, (hw w hw3).2]
    rw [show mrd μ 64 (27 + k) = mrd μ (2 + 4) k from g1, show mrd μ 64 (31 + k) = mrd μ (2 + 5) k from g2, r8, c8, th_bit th h16 k (by omega)]
  have e3 : ∀ h, rJn μ 36 (2 * T) h = fRw μ 8 2 T h := by
    intro h
    unfold rJn fRw
    rw [mFo_flat (by omega)]
    refine mFw_c _ (fun k hk => ?_)
    obtain ⟨q1, q2⟩ := h2.2.2.2 (k / 2) (by omega)
    rcases Nat.mod_two_eq_zero_or_one k with z0 | z0
    · rw [z0, show 36 + k = 36 + 2 * (k / 2) by omega]
      rw [show mrd μ 64 (36 + 2 * (k / 2)) = mrd μ (8 + 1) (4 * (k / 2)) from q1]
      rfl
    · rw [z0, show 36 + k = 37 + 2 * (k / 2) by omega]
      rw [show mrd μ 64 (37 + 2 * (k / 2)) = mrd μ (8 + 1) (4 * (k / 2) + 1) from q2]
  have e4 : ∀ h, rJn μ 49 (4 * N) h = fRw μ 10 4 N h := by
    intro h
    unfold rJn fRw
    rw [mFo_flat (by omega)]
    refine mFw_c _ (fun k hk => ?_)
    rw [(h3.e10 RS.self).2 k hk, Nat.div_add_mod]
  have e5 : ∀ h, rJn μ 74 (4 * M) h = fRw μ 12 4 M h := by
    intro h
    unfold rJn fRw
    rw [mFo_flat (by omega)]
    refine mFw_c _ (fun k hk => ?_)
    rw [(h4.e12 RS.self).2 k hk, Nat.div_add_mod]
  rw [e1, e2, e3, e4, e5, l6, l7]
end S62
