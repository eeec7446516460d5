/-! CALLS: image, from, read -/
section S64
variable {μ ν ξ ζ : gM} {i z c a : Int32} {P A W th t T N M U s d n L p : Nat} {b : Nat → Int32}
theorem Rc_f {c j : Nat} (h : ¬ (c = d ∧ j = 0)) (h2 : ¬ (c = d + 1 ∧ j < n)) : mrd (mRc μ s d n) c j = mrd μ c j := by rw [mrd_Rc, if_neg h, if_neg h2]
theorem Rc_0 : mrd (mRc μ s d n) d 0 = mrd μ s 0 := by rw [mrd_Rc, if_pos ⟨rfl, rfl⟩]
theorem Rc_1 {j : Nat} (hj : j < n) : mrd (mRc μ s d n) (d + 1) j = mrd μ (s + 1) j := by rw [mrd_Rc, if_neg (by omega), if_pos ⟨rfl, hj⟩]
theorem Lc_f {c j : Nat} (h : ¬ (d ≤ c ∧ c ≤ d + 5)) : mrd (mLc μ s d) c j = mrd μ c j := by rw [mrd_Lc, if_neg (by omega), if_neg (by omega), if_neg (by omega), if_neg (by omega), if_neg (by omega), if_neg (by omega)]
/-- a lane copied: the cells that tell of it -/
theorem Lc_i {i j : Nat} (h : lR i j) : mrd (mLc μ (s + 1) (d + 1)) (d + i) j = mrd μ (s + i) j := by
  rw [mrd_Lc]
  unfold lR at h
  rcases h with ⟨rfl, h⟩ | ⟨h1, h2, h3⟩ | ⟨h1, h2, h3⟩
  · rw [if_pos (by omega)]
  · have hi : i = 2 ∨ i = 3 ∨ i = 4 := by omega
    rcases hi with rfl | rfl | rfl
    · rw [if_neg (by omega), if_pos (by omega)]
    · rw [if_neg (by omega), if_neg (by omega), if_pos (by omega)]
    · rw [if_neg (by omega), if_neg (by omega), if_neg (by omega), if_pos (by omega)]
  · have hi : i = 5 ∨ i = 6 := by omega
    rcases hi with rfl | rfl
    · rw [if_neg (by omega), if_neg (by omega), if_neg (by omega), if_neg (by omega), if_pos (by omega)]
    · rw [if_neg (by omega), if_neg (by omega), if_neg (by omega), if_neg (by omega), if_neg (by omega), if_pos (by omega)]
theorem Hc_f {c j : Nat} (h : ¬ (d + 1 ≤ c ∧ c ≤ d + 14)) : mrd (mHc μ s d) c j = mrd μ c j := by
  unfold mHc
  rw [Rc_f (by omega) (by omega), Rc_f (by omega) (by omega), Rc_f (by omega) (by omega), Rc_f (by omega) (by omega), Lc_f (by omega)]
/-- houses copied -/
theorem Hc_i {i j : Nat} (hsd : s + 14 < d ∨ d + 14 < s) (h : hR i j) : mrd (mHc μ s d) (d + i) j = mrd μ (s + i) j := by
  unfold mHc
  unfold hR at h
  rcases h with h | ⟨h, rfl⟩ | ⟨h, hj⟩ | ⟨rfl, hj⟩
  · have h' := h
    unfold lR at h'
    rw [Rc_f (by omega) (by omega), Rc_f (by omega) (by omega), Rc_f (by omega) (by omega), Rc_f (by omega) (by omega), Lc_i h]
  · rcases h with rfl | rfl | rfl | rfl
    · rw [Rc_f (by omega) (by omega), Rc_f (by omega) (by omega), Rc_f (by omega) (by omega), Rc_0, Lc_f (by omega)]
    · rw [Rc_f (by omega) (by omega), Rc_f (by omega) (by omega), Rc_0, Rc_f (by omega) (by omega), Lc_f (by omega)]
    · rw [Rc_f (by omega) (by omega), Rc_0, Rc_f (by omega) (by omega), Rc_f (by omega) (by omega), Lc_f (by omega)]
    · rw [Rc_0, Rc_f (by omega) (by omega), Rc_f (by omega) (by omega), Rc_f (by omega) (by omega), Lc_f (by omega)]
  · rcases h with rfl | rfl | rfl
    · rw [Rc_f (by omega) (by omega), Rc_f (by omega) (by omega), Rc_f (by omega) (by omega), show d + 8 = d + 7 + 1 from rfl, Rc_1 hj, Lc_f (by omega)]
    · rw [Rc_f (by omega) (by omega), Rc_f (by omega) (by omega), show d + 10 = d + 9 + 1 from rfl, Rc_1 hj, Rc_f (by omega) (by omega), Lc_f (by omega)]
    · rw [Rc_f (by omega) (by omega), show d + 12 = d + 11 + 1 from rfl, Rc_1 hj, Rc_f (by omega) (by omega), Rc_f (by omega) (by omega), Lc_f (by omega)]
  · rw [show d + 14 = d + 13 + 1 from rfl, Rc_1 hj, Rc_f (by omega) (by omega), Rc_f (by omega) (by omega), Rc_f (by omega) (by omega), Lc_f (by omega)]
theorem Hc_L (c j : Nat) : mrL (mHc μ s d) c j = mrL μ c j := rfl
theorem INV.img {d : Nat} (hI : INV μ) (hd : d < 2) : INV (mwr (mCr (mwr (mHc μ 1 (16 + 15 * d)) 0 (3 + d) 1) 0 (179 + 179 * d) 179) 65 d 1) := by
  have f0 : ∀ c j, ¬ c = 64 → ¬ (c = 65 ∧ j = d) → ¬ (c = 0 ∧ j = 3 + d) → mrd (mwr (mCr (mwr (mHc μ 1 (16 + 15 * d)) 0 (3 + d) 1) 0 (179 + 179 * d) 179) 65 d 1) c j = mrd (mHc μ 1 (16 + 15 * d)) c j := fun c j a1 a2 a3 => by rw [mrd_wr, if_neg a2, mrd_Cr, if_neg (by omega), mrd_wr, if_neg a3]
  have f1 : ∀ j, ¬ (179 + 179 * d ≤ j ∧ j < 179 + 179 * d + 179) → mrd (mwr (mCr (mwr (mHc μ 1 (16 + 15 * d)) 0 (3 + d) 1) 0 (179 + 179 * d) 179) 65 d 1) 64 j = mrd μ 64 j := fun j a => by rw [mrd_wr, if_neg (by omega), mrd_Cr, if_neg (by omega), mrd_wr, if_neg (by omega), Hc_f (by omega)]
  have f2 : ∀ j, j < 179 → mrd (mwr (mCr (mwr (mHc μ 1 (16 + 15 * d)) 0 (3 + d) 1) 0 (179 + 179 * d) 179) 65 d 1) 64 (j + (179 + 179 * d)) = mrd μ 64 j := fun j a => by rw [mrd_wr, if_neg (by omega), mrd_Cr, if_pos (by omega), mrd_wr, if_neg (by omega), Hc_f (by omega), show j + (179 + 179 * d) - (179 + 179 * d) + 0 = j by omega]
  have f3 : mrd (mwr (mCr (mwr (mHc μ 1 (16 + 15 * d)) 0 (3 + d) 1) 0 (179 + 179 * d) 179) 65 d 1) 65 d = 1 := by rw [mrd_wr, if_pos ⟨rfl, rfl⟩]
  have f4 : mrd (mwr (mCr (mwr (mHc μ 1 (16 + 15 * d)) 0 (3 + d) 1) 0 (179 + 179 * d) 179) 65 d 1) 0 (3 + d) = 1 := by rw [mrd_wr, if_neg (by omega), mrd_Cr, if_neg (by omega), mrd_wr, if_pos ⟨rfl, rfl⟩]
  have fl : ∀ c j, mrL (mwr (mCr (mwr (mHc μ 1 (16 + 15 * d)) 0 (3 + d) 1) 0 (179 + 179 * d) 179) 65 d 1) c j = mrL μ c j := fun c j => rfl
  generalize mwr (mCr (mwr (mHc μ 1 (16 + 15 * d)) 0 (3 + d) 1) 0 (179 + 179 * d) 179) 65 d 1 = ν at *
  obtain ⟨h0, h1, h2, ⟨L, l1, l2, l3⟩, l4, l5, l6, l7, l8⟩ := hI
  have g0 : ∀ c j, ¬ c = 64 → ¬ (c = 65 ∧ j = d) → ¬ (c = 0 ∧ j = 3 + d) → ¬ (16 + 15 * d + 1 ≤ c ∧ c ≤ 16 + 15 * d + 14) → mrd ν c j = mrd μ c j := fun c j a1 a2 a3 a4 => by rw [f0 c j a1 a2 a3, Hc_f (by omega)]
  have hHR : HR (cH ν 1) (rH ν 0) := h0.c (fun i j hij => g0 _ _ (by unfold hR lR at hij; omega) (by unfold hR lR at hij; omega) (by unfold hR lR at hij; omega) (by unfold hR lR at hij; omega)) (fun j hj => f1 _ (by omega))
  have same : ∀ e, e < 2 → IM μ e → IM ν e := by
    intro e he hm
    by_cases ed : e = d
    · subst ed
      refine ⟨by rw [f3, f4], fun _ => ?_⟩
      refine h0.c (fun i j hij => ?_) (fun j hj => ?_)
      · show mrd ν (16 + 15 * e + i) j = mrd μ (1 + i) j
        rw [f0 _ _ (by unfold hR lR at hij; omega) (by unfold hR lR at hij; omega) (by unfold hR lR at hij; omega), Hc_i (by omega) hij]
      · show mrd ν 64 (j + (179 + 179 * e)) = mrd μ 64 (j + 0)
        exact f2 j hj
    · obtain ⟨a1, a2⟩ := hm
      have k1 : mrd ν 65 e = mrd μ 65 e := g0 _ _ (by omega) (by omega) (by omega) (by omega)
      have k2 : mrd ν 0 (3 + e) = mrd μ 0 (3 + e) := g0 _ _ (by omega) (by omega) (by omega) (by omega)
      refine ⟨by rw [k1, k2, a1], fun q => ?_⟩
      rw [k1] at q
      refine (a2 q).c (fun i j hij => ?_) (fun j hj => ?_)
      · exact g0 _ _ (by unfold hR lR at hij; omega) (by unfold hR lR at hij; omega) (by unfold hR lR at hij; omega) (by unfold hR lR at hij; omega)
      · show mrd ν 64 (j + (179 + 179 * e)) = mrd μ 64 (j + (179 + 179 * e))
        exact f1 _ (by omega)
  refine ⟨hHR, same 0 (by omega) h1, same 1 (by omega) h2, ⟨L, l1, by rw [g0 _ _ (by omega) (by omega) (by omega) (by omega), l2], by rw [g0 _ _ (by omega) (by omega) (by omega) (by omega), l3]⟩, ?_, fun i k hi hk => by rw [g0 _ _ (by omega) (by omega) (by omega) (by omega), l5 i k hi hk], by rw [fl, fl, l6], by rw [fl, fl, l7], fun k hk => by rw [g0 _ _ (by omega) (by omega) (by omega) (by omega), g0 _ _ (by omega) (by omega) (by omega) (by omega), l8 k hk]⟩
  funext j
  rw [g0 _ _ (by omega) (by omega) (by omega) (by omega), g0 _ _ (by omega) (by omega) (by omega) (by omega), l4]
theorem c_image (hI : INV μ) : CTi 3 1 MX10_image MX11_image [.int z] μ := by
  have o : ∀ k, k < 2 → z = nI k → oB z 0 1 = false := by
    intro k hk e
    rw [e]
    unfold oB
    rw [decide_eq_false]
    rintro (q | q)
    · exact nI_pos (by omega) q
    · have := nlt (a := 1) q (by omega) (by omega); omega
  have n01 : ∀ d, d < 2 → ∀ e, e < 2 → nI d = nI e → d = e := fun d hd e he q => (nI_eq (by omega) (by omega)).mp q
  refine s_X10_image (fun hb => ⟨_, rfl, ?_⟩) (fun h0 => ⟨_, rfl, ?_⟩) (fun hb h0 => ⟨_, rfl, ?_⟩)
  · exact s_X11_image (fun _ => ⟨rfl, hI.rf (k := 0) (by omega)⟩) (fun d hd e => tf hb (o d hd e))
  · refine s_X11_image (fun q => tf q (o 0 (by omega) h0)) (fun d hd e => ⟨rfl, ?_⟩)
    have e0 := n01 0 (by omega) d hd (h0.symm.trans e)
    subst e0
    exact hI.img (d := 0) (by omega)
  · have h1 := (oB_01 hb).resolve_left h0
    refine s_X11_image (fun q => tf q hb) (fun d hd e => ⟨rfl, ?_⟩)
    have e0 := n01 1 (by omega) d hd (h1.symm.trans e)
    subst e0
    exact hI.img (d := 1) (by omega)
theorem INV.frm {d : Nat} (hI : INV μ) (hd : d < 2) (hm : IM μ d) (hk : ¬ mrd μ 65 d = 0) : INV (mCr (mHc μ (16 + 15 * d) 1) (179 + 179 * d) 0 179) := by
  have f0 : ∀ c j, ¬ c = 64 → mrd (mCr (mHc μ (16 + 15 * d) 1) (179 + 179 * d) 0 179) c j = mrd (mHc μ (16 + 15 * d) 1) c j := fun c j a => by rw [mrd_Cr, if_neg (by omega)]
  have f1 : ∀ j, ¬ j < 179 → mrd (mCr (mHc μ (16 + 15 * d) 1) (179 + 179 * d) 0 179) 64 j = mrd μ 64 j := fun j a => by rw [mrd_Cr, if_neg (by omega), Hc_f (by omega)]
  have f2 : ∀ j, j < 179 → mrd (mCr (mHc μ (16 + 15 * d) 1) (179 + 179 * d) 0 179) 64 j = mrd μ 64 (j + (179 + 179 * d)) := fun j a => by rw [mrd_Cr, if_pos (by omega), Hc_f (by omega), Nat.sub_zero]
  refine hI.hs (fun c j q a b => ?_) (fun c j => rfl) ?_
  · by_cases e64 : c = 64
    · subst e64
      exact f1 j (by omega)
    · rw [f0 c j e64, Hc_f (by omega)]
  · refine (hm.2 hk).c (fun i j hij => ?_) (fun j hj => ?_)
    · show mrd _ (1 + i) j = mrd μ (16 + 15 * d + i) j
      rw [f0 _ _ (by unfold hR lR at hij; omega), Hc_i (by omega) hij]
    · exact f2 j hj
theorem c_from (hI : INV μ) : CTi 3 1 MX10_from MX11_from [.int z] μ := by
  have o : ∀ k, k < 2 → z = nI k → oB z 0 1 = false := by
    intro k hk e
    rw [e]
    unfold oB
    rw [decide_eq_false]
    rintro (q | q)
    · exact nI_pos (by omega) q
    · have := nlt (a := 1) q (by omega) (by omega); omega
  have n01 : ∀ d, d < 2 → ∀ e, e < 2 → nI d = nI e → d = e := fun d hd e he q => (nI_eq (by omega) (by omega)).mp q
  have k0 := hI.2.1
  have k1 := hI.2.2.1
  have zd : oB z 0 1 = false → ∃ d, d < 2 ∧ z = nI d ∧ (if z = 0 then mrd μ 0 3 else mrd μ 0 4) = mrd μ 65 d ∧ (if z = 0 then 16 else 31) = 16 + 15 * d ∧ IM μ d := by
    intro hb
    rcases oB_01 hb with e | e
    · exact ⟨0, by omega, e, by rw [e, if_pos rfl]; exact k0.1, by rw [e, if_pos rfl], k0⟩
    · exact ⟨1, by omega, e, by rw [e, if_neg (by decide)]; exact k1.1, by rw [e, if_neg (by decide)], k1⟩
  refine s_X10_from (fun hb => ⟨_, rfl, ?_⟩) (fun hb hn => ⟨_, rfl, ?_⟩) (fun hb hn => ⟨_, rfl, ?_⟩)
  · exact s_X11_from (fun _ => ⟨rfl, hI.rf (k := 0) (by omega)⟩) (fun d hd e _ => tf hb (o d hd e)) (fun d hd e _ => tf hb (o d hd e))
  · obtain ⟨d, d2, ez, em, -, -⟩ := zd hb
    refine s_X11_from (fun q => tf q hb) (fun _ _ _ _ => ⟨rfl, hI.rf (k := 1) (by omega)⟩) (fun d' hd' e q => ?_)
    have e0 := n01 d d2 d' hd' (ez.symm.trans e)
    subst e0
    exact absurd (by unfold mRf; rw [mrd_wr, if_neg (by omega), ← em, hn]) q
  · obtain ⟨d, d2, ez, em, eb, hm⟩ := zd hb
    rw [em] at hn
    rw [eb]
    have k65 : mrd (mHc μ (16 + 15 * d) 1) 65 d = mrd μ 65 d := Hc_f (by omega)
    refine s_X11_from (fun q => tf q hb) (fun d' hd' e q => ?_) (fun d' hd' e q => ⟨rfl, ?_⟩)
    · have e0 := n01 d d2 d' hd' (ez.symm.trans e)
      subst e0
      rw [k65] at q
      exact absurd q hn
    · have e0 := n01 d d2 d' hd' (ez.symm.trans e)
      subst e0
      exact hI.frm d2 hm hn
/-- what is read is as told -/
def SOk (S : aL) : Prop := match S with
  | (V, P, A, wd, th, t, _) => P ≤ 7 ∧ A ≤ 4 ∧ (∃ W, 4 ≤ W ∧ W ≤ 30 ∧ wd = nI W) ∧ (∃ th', th' < 2 ^ A ∧ th = nI th') ∧ (∃ t', t' ≤ 9999 ∧ t = nI t') ∧ ∀ k, k < P → (V 1 k = 0 ∨ V 1 k = 1) ∧ ∃ a, a ≤ 9 ∧ V 2 k = nI a
theorem tRd_i {lo hi : Nat → Int32} {j q : Nat} (h : tRd b L lo hi (n + 1) j p = .inl q) : tNk b L p (lo j) (hi j) = true ∧ tRd b L lo hi n (j + 1) (T3 b L p) = .inl q := by
  rw [tRd] at h
  split at h
  · exact ⟨by assumption, h⟩
  · cases h
theorem rng {v : Int32} {lo hi : Nat} (h1 : nI lo ≤ v) (h2 : v ≤ nI hi) (hh : hi < 2 ^ 31) (hl : lo ≤ hi) : ∃ m, lo ≤ m ∧ m ≤ hi ∧ v = nI m := by
  have a1 := Int32.le_iff_toInt_le.mp h1
  rw [nI_toInt (by omega)] at a1
  have nn : ¬ v < 0 := by
    intro z
    have a2 := Int32.lt_iff_toInt_lt.mp z
    have e0 : (0 : Int32).toInt = 0 := by decide
    omega
  obtain ⟨m, m1, m2⟩ := nI_of2 (M := nI hi) (n := hi) (nI_toInt hh) nn h2
  rw [m2] at h1
  exact ⟨m, nle h1 (by omega) (by omega), m1, m2⟩
theorem SOk_0 : SOk aS0 := ⟨by omega, by omega, ⟨12, by omega, by omega, rfl⟩, ⟨0, by decide, rfl⟩, ⟨0, by omega, rfl⟩, fun k hk => absurd hk (Nat.not_lt_zero _)⟩
theorem tRe_ok : ∀ i p S, tRe b L i p S → SOk S := by
  intro i
  induction i with
  | zero => rintro p S ⟨-, rfl⟩; exact SOk_0
  | succ i ih =>
    rintro p' S' ⟨p, S, w, h1, h2, h3, rfl⟩
    have hS := ih p S h1
    unfold tStp at h3
    split at h3
    · next hms =>
      split at h3
      · cases h3
      · next q hq =>
        split at h3
        · have ew : tWd b L p = w := by
            have := Sum.inl.inj h3
            exact (Prod.mk.inj this).1
          rw [ew] at hms hq
          obtain ⟨V, P, A, wd, th, t, m⟩ := S
          obtain ⟨s1, s2, s3, s4, s5, s6⟩ := hS
          have hw5 : w ≤ 5 := by rw [← ew]; exact tWd_le
          have hms' : ¬ w = 0 ∧ (w = 2 → P < 7) ∧ (w = 3 → A < 4) := by
            simp only [tMs, Bool.and_eq_true, Bool.not_eq_true', decide_eq_false_iff_not, Bool.or_eq_true, decide_eq_true_eq] at hms
            exact ⟨hms.1.1.1, fun z => hms.1.2.resolve_left (fun y => y z), fun z => hms.2.resolve_left (fun y => y z)⟩
          have hw : w = 1 ∨ w = 2 ∨ w = 3 ∨ w = 4 ∨ w = 5 := by omega
          rcases hw with rfl | rfl | rfl | rfl | rfl
          · obtain ⟨n1, -⟩ := tRd_i (n := 0) hq
            obtain ⟨a1, a2⟩ := tNk_r n1
            obtain ⟨W, w4, w30, eW⟩ := rng (lo := 4) (hi := 30) a1 a2 (by omega) (by omega)
            exact ⟨s1, s2, ⟨W, w4, w30, eW⟩, s4, s5, s6⟩
          · obtain ⟨n1, hq2⟩ := tRd_i (n := 2) hq
            obtain ⟨n2, hq3⟩ := tRd_i (n := 1) hq2
            obtain ⟨n3, -⟩ := tRd_i (n := 0) hq3
            obtain ⟨a1, a2⟩ := tNk_r n2
            obtain ⟨a3, a4⟩ := tNk_r n3
            obtain ⟨hh, -, h1', eh⟩ := rng (lo := 0) (hi := 1) a1 a2 (by omega) (by omega)
            obtain ⟨sw, -, sw9, es⟩ := rng (lo := 0) (hi := 9) a3 a4 (by omega) (by omega)
            refine ⟨hms'.2.1 rfl, s2, s3, s4, s5, fun k hk => ?_⟩
            show (aV (aV (aV V 0 P _) 1 P _) 2 P _ 1 k = 0 ∨ _) ∧ _
            by_cases e : k = P
            · subst e
              refine ⟨?_, sw, sw9, ?_⟩
              · have e1 : aV (aV (aV V 0 k (tV0 b L (T3 b L p))) 1 k (tV1 b L (T3 b L p))) 2 k (tV2 b L (T3 b L p)) 1 k = tV1 b L (T3 b L p) := by simp [aV]
                rw [e1, show tV1 b L (T3 b L p) = nI hh from eh]
                have : hh = 0 ∨ hh = 1 := by omega
                rcases this with rfl | rfl
                · exact Or.inl rfl
                · exact Or.inr rfl
              · have e1 : aV (aV (aV V 0 k (tV0 b L (T3 b L p))) 1 k (tV1 b L (T3 b L p))) 2 k (tV2 b L (T3 b L p)) 2 k = tV2 b L (T3 b L p) := by simp [aV]
                rw [e1]
                exact es
            · have hk' : k < P + 1 := hk
              obtain ⟨g1, g2⟩ := s6 k (by omega)
              have e1 : ∀ f x y z, aV (aV (aV V 0 P x) 1 P y) 2 P z f k = V f k := by intro f x y z; simp [aV, e]
              rw [e1, e1]
              exact ⟨g1, g2⟩
          · obtain ⟨th', t1, t2⟩ := s4
            have hA := hms'.2.2 rfl
            obtain ⟨o1, o2⟩ := th_or A hA th' t1
            refine ⟨s1, hA, s3, ⟨th' ||| 2 ^ A, o2, ?_⟩, s5, fun k hk => ?_⟩
            · show th ||| _ = _
              rw [t2, o1]
            · have e1 : ∀ f x y, f = 1 ∨ f = 2 → aV (aV V 3 A x) 4 A y f k = V f k := by
                intro f x y hf
                rcases hf with rfl | rfl <;> simp [aV]
              show (aV (aV V 3 A _) 4 A _ 1 k = 0 ∨ _) ∧ ∃ a, a ≤ 9 ∧ aV (aV V 3 A _) 4 A _ 2 k = nI a
              rw [e1 1 _ _ (Or.inl rfl), e1 2 _ _ (Or.inr rfl)]
              exact s6 k hk
          · obtain ⟨n1, -⟩ := tRd_i (n := 0) hq
            obtain ⟨a1, a2⟩ := tNk_r n1
            have a1' : (0 : Int32) ≤ tV0 b L (T3 b L p) := a1
            have a2' : tV0 b L (T3 b L p) ≤ nI A - 1 := a2
            obtain ⟨th', t1, t2⟩ := s4
            have hA0 : 0 < A := by
              rcases Nat.eq_zero_or_pos A with e | e
              · subst e
                have z := Int32.le_iff_toInt_le.mp (Int32.le_trans a1' a2')
                exact absurd z (by decide)
              · exact e
            rw [show (1 : Int32) = nI 1 from rfl, pk_sub (by omega)] at a2'
            obtain ⟨j, -, j2, ej⟩ := rng (lo := 0) (hi := A - 1) a1' a2' (by omega) (by omega)
            obtain ⟨o1, o2⟩ := th_set2 A (by omega) th' t1 j (by omega)
            refine ⟨s1, s2, s3, ⟨th' &&& (15 ^^^ 2 ^ j), o2, ?_⟩, s5, s6⟩
            show th &&& _ = _
            rw [t2, ej, o1]
          · obtain ⟨t', t1, t2⟩ := s5
            refine ⟨s1, s2, s3, s4, ?_, s6⟩
            show ∃ t'', t'' ≤ 9999 ∧ (mPass (vSnd V th A wd P) 9999 _ (m, t)).2 = nI t''
            rw [t2]
            exact mPass_t t1 _
        · cases h3
    · cases h3
theorem tRe_ff {i i' p' f f' : Nat} {S S' : aL} (h : tRe b L i p S) (h0 : ¬ (0 < i ∧ T2 b L p = 0)) (hs : tStp b L (decide (i = 0)) S.2.1 S.2.2.1 p = .inr f) (h' : tRe b L i' p' S') (h0' : ¬ (0 < i' ∧ T2 b L p' = 0)) (hs' : tStp b L (decide (i' = 0)) S'.2.1 S'.2.2.1 p' = .inr f') : f = f' := by
  rcases Nat.lt_trichotomy i i' with e | e | e
  · obtain ⟨q, R, wp, a1, a2, a3⟩ := tRe_lt _ _ _ h' e
    obtain ⟨rfl, rfl⟩ := tRe_u _ _ _ _ _ h a1
    rw [hs] at a3
    cases a3
  · subst e
    obtain ⟨rfl, rfl⟩ := tRe_u _ _ _ _ _ h h'
    rw [hs] at hs'
    exact Sum.inr.inj hs'
  · obtain ⟨q, R, wp, a1, a2, a3⟩ := tRe_lt _ _ _ h e
    obtain ⟨rfl, rfl⟩ := tRe_u _ _ _ _ _ h' a1
    rw [hs'] at a3
    cases a3
theorem c_read (hI : INV μ) : CTi 8 8 MX10_read MX11_read [] μ := by
  have hT := hI.2.2.2
  obtain ⟨⟨L, l1, l2, l3⟩, l4, l5, -⟩ := hT
  have tx : ∀ ν, RS μ ν → mrd ν 63 6 = nI L ∧ mrd ν 67 = mrd μ 47 ∧ ∀ i k, i < 5 → k < 6 → mrd ν 68 (6 * i + k) = rW68 i k := by
    intro ν hν
    refine ⟨by rw [hν.1 63 6 (by omega) (by unfold gScr; omega), l3], ?_, fun i k hi hk => by rw [hν.1 68 _ (by omega) (by unfold gScr; omega), l5 i k hi hk]⟩
    rw [l4]
    funext j
    exact hν.1 67 j (by omega) (by unfold gScr; omega)
  refine s_X10_read (b := mrd μ 47) l2 l1 rfl (fun ν i p S hi hi5 hR h2 hν hAR => ⟨_, rfl, ?_⟩) (fun ν i p S f hR hne hs hν => ⟨_, rfl, ?_⟩)
  · generalize hx : mLc (mHs ν 1 12) 51 2 = ν1
    have f1 : ∀ c j, ¬ (2 ≤ c ∧ c ≤ 7) → ¬ (j = 0 ∧ (c = 8 ∨ c = 10 ∨ c = 12 ∨ c = 14)) → mrd ν1 c j = mrd ν c j := fun c j a b => by
      rw [← hx, Lc_f (by omega)]
      simp only [mHs, mrd_wr, mrd_St]
      repeat rw [if_neg (by omega)]
    have f2 : ∀ i j, lR i j → mrd ν1 (1 + i) j = mrd ν (50 + i) j := fun i j hij => by
      rw [← hx, show mLc (mHs ν 1 12) 51 2 = mLc (mHs ν 1 12) (50 + 1) (1 + 1) from rfl, Lc_i hij]
      simp only [mHs, mrd_wr, mrd_St]
      unfold lR at hij
      repeat rw [if_neg (by omega)]
    have f3 : ∀ c, c = 8 ∨ c = 10 ∨ c = 12 ∨ c = 14 → mrd ν1 c 0 = 0 := fun c hc => by
      rw [← hx, Lc_f (by omega)]
      rcases hc with rfl | rfl | rfl | rfl <;> simp [mHs, mrd_wr, mrd_St]
    have fl : ∀ c j, mrL ν1 c j = mrL μ c j := fun c j => by rw [← hx]; exact hν.2 c j
    have hRS : RS μ ν1 := ⟨fun c j a q => by rw [f1 c j (by omega) (by omega)]; exact hν.1 c j q, fun j => fl 63 j⟩
    obtain ⟨t1, t2, t3⟩ := tx ν1 hRS
    refine s_X11_read t1 l1 t2 t3 (fun ν2 i' p' S' hi' hi5' hR' h2' hz hRR => ?_) (fun ν2 i' p' S' f' hR' hne' hs' _ => absurd (tRe_nof hR ⟨hi, h2⟩ hR' hne' hs') id)
    obtain ⟨rfl, rfl, rfl⟩ := tRe_end hR ⟨hi, h2⟩ hR' ⟨hi', h2'⟩
    refine ⟨rfl, ?_⟩
    have hok := tRe_ok _ _ _ hR
    obtain ⟨V, P, A, wd, th, t, m⟩ := S
    obtain ⟨s1, s2, ⟨W, w4, w30, eW⟩, ⟨th', th1, eth⟩, ⟨t', t9, et⟩, s6⟩ := hok
    obtain ⟨⟨a1, -, a2, -⟩, a3, a4, a5, a6, aV'⟩ := hAR
    obtain ⟨⟨r1, -, r2, -⟩, r3, r4, r5, r6, rV', r7, r8, r9⟩ := hRR
    have g : ∀ c j, ¬ (c = 63 ∧ 8 ≤ j ∧ j ≤ 12) → ¬ (c = 64 ∧ j < 179) → ¬ c = 69 → mrd (mwr ν2 64 98 0) c j = mrd ν1 c j := fun c j b1 b2 b3 => by
      rw [mrd_wr, if_neg (by omega)]
      exact hz.1 c j b1 (fun y => y.2.elim (fun w => b2 w) b3)
    have gl : ∀ c j, mrL (mwr ν2 64 98 0) c j = mrL μ c j := fun c j => (hz.2 c j).trans (fl c j)
    have gr : ∀ j, ¬ j = 98 → mrd (mwr ν2 64 98 0) 64 j = mrd ν2 64 j := fun j b => by rw [mrd_wr, if_neg (by omega)]
    have g98 : mrd (mwr ν2 64 98 0) 64 98 = 0 := by rw [mrd_wr, if_pos ⟨rfl, rfl⟩]
    generalize mwr ν2 64 98 0 = ξ at g gl gr g98
    have gc : ∀ i j, lR i j → mrd ξ (1 + i) j = mrd ν (50 + i) j := fun i j hij => by rw [g _ _ (by unfold lR at hij; omega) (by unfold lR at hij; omega) (by unfold lR at hij; omega), f2 i j hij]
    have g0 : ∀ c, c = 8 ∨ c = 10 ∨ c = 12 ∨ c = 14 → mrd ξ c 0 = 0 := fun c hc => by rw [g _ _ (by omega) (by omega) (by omega), f3 c hc]
    refine hI.hs (fun c j q b1 b2 => ?_) gl ⟨P, A, W, th', t', 0, 0, 0, 0, ?_, HT.no (g0 8 (by omega)) (by show mrd ξ 64 35 = 0; rw [gr 35 (by omega), r7]), HN.no (g0 10 (by omega)) (by show mrd ξ 64 48 = 0; rw [gr 48 (by omega), r8]), HN.no (g0 12 (by omega)) (by show mrd ξ 64 73 = 0; rw [gr 73 (by omega), r9]), HU.no (g0 14 (by omega)) g98⟩
    · rw [g c j (fun y => q (by unfold gScr; omega)) b2 (fun y => q (by unfold gScr; omega)), f1 c j (by omega) (by omega)]
      exact hν.1 c j q
    · refine ⟨⟨?_, ?_, s1⟩, ⟨?_, ?_, s2⟩, ⟨?_, ?_, w4, w30⟩, ⟨?_, ?_, th1⟩, ⟨?_, ?_, t9⟩, ?_, fun k hk => ?_, fun j hj => ?_⟩
      · show mrd ξ (1 + 1) 1 = _
        rw [gc 1 1 (by unfold lR; omega)]; exact a1
      · show mrd ξ 64 11 = _
        rw [gr 11 (by omega)]; exact r1
      · show mrd ξ (1 + 1) 5 = _
        rw [gc 1 5 (by unfold lR; omega)]; exact a2
      · show mrd ξ 64 26 = _
        rw [gr 26 (by omega)]; exact r2
      · show mrd ξ (1 + 1) 0 = _
        rw [gc 1 0 (by unfold lR; omega), ← eW]; exact a3
      · show mrd ξ 64 10 = _
        rw [gr 10 (by omega), ← eW]; exact r3
      · show mrd ξ (1 + 1) 8 = _
        rw [gc 1 8 (by unfold lR; omega), ← eth]; exact a4
      · show mrd ξ 64 7 = _
        rw [gr 7 (by omega), ← eth]; exact r4
      · show mrd ξ (1 + 1) 9 = _
        rw [gc 1 9 (by unfold lR; omega), ← et]; exact a5
      · show mrd ξ 64 9 = _
        rw [gr 9 (by omega), ← et]; exact r5
      · show mrd ξ 64 8 = mrd ξ (1 + 1) 10
        rw [gr 8 (by omega), gc 1 10 (by unfold lR; omega), r6]; exact a6.symm
      · obtain ⟨b1, b2, b3⟩ := aV'.1 k hk
        obtain ⟨d1, d2, d3⟩ := rV'.1 k hk
        have q1 : mrd ξ (1 + 2) k = V 0 k := by rw [gc 2 k (by unfold lR; omega)]; exact b1
        have q2 : mrd ξ (1 + 3) k = V 1 k := by rw [gc 3 k (by unfold lR; omega)]; exact b2
        have q3 : mrd ξ (1 + 4) k = V 2 k := by rw [gc 4 k (by unfold lR; omega)]; exact b3
        have e1 : mrd ξ 64 (12 + k) = V 0 k := by rw [gr _ (by omega)]; exact d1
        have e2 : mrd ξ 64 (19 + k) = V 1 k := by rw [gr _ (by omega)]; exact d2
        have e3 : mrd ξ 64 k = V 2 k := by
          rw [gr _ (by omega)]
          have d3' : mrd ν2 64 (0 + k) = V 2 k := d3
          rw [Nat.zero_add] at d3'
          exact d3'
        show mrd ξ 64 (12 + k) = mrd ξ (1 + 2) k ∧ mrd ξ 64 (19 + k) = mrd ξ (1 + 3) k ∧ mrd ξ 64 k = mrd ξ (1 + 4) k ∧ (mrd ξ (1 + 3) k = 0 ∨ mrd ξ (1 + 3) k = 1) ∧ ∃ a, a ≤ 9 ∧ mrd ξ (1 + 4) k = nI a
        rw [q1, q2, q3, e1, e2, e3]
        exact ⟨rfl, rfl, rfl, s6 k hk⟩
      · obtain ⟨b1, b2⟩ := aV'.2 j hj
        obtain ⟨d1, d2⟩ := rV'.2 j hj
        have q1 : mrd ξ (1 + 5) j = V 3 j := by rw [gc 5 j (by unfold lR; omega)]; exact b1
        have q2 : mrd ξ (1 + 6) j = V 4 j := by rw [gc 6 j (by unfold lR; omega)]; exact b2
        have e1 : mrd ξ 64 (27 + j) = V 3 j := by rw [gr _ (by omega)]; exact d1
        have e2 : mrd ξ 64 (31 + j) = V 4 j := by rw [gr _ (by omega)]; exact d2
        show mrd ξ 64 (27 + j) = mrd ξ (1 + 5) j ∧ mrd ξ 64 (31 + j) = mrd ξ (1 + 6) j
        rw [q1, q2, e1, e2]
        exact ⟨rfl, rfl⟩
  · obtain ⟨t1, t2, t3⟩ := tx ν hν.rs
    refine s_X11_read t1 l1 t2 t3 (fun ν2 i' p' S' hi' hi5' hR' h2' _ _ => absurd (tRe_nof hR' ⟨hi', h2'⟩ hR hne hs) id) (fun ν2 i' p' S' f' hR' hne' hs' hξ => ⟨?_, (hI.sm hν).sm hξ⟩)
    rw [tRe_ff hR hne hs hR' hne' hs']
end S64
