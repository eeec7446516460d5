/-! THE REFERENCE: the text, items read -/
theorem tRd_no {b : Nat → Int32} {L n j p : Nat} {lo hi : Nat → Int32} (h : tNk b L p (lo j) (hi j) = false) : tRd b L lo hi (n + 1) j p = .inr (T1 b L p) := by rw [tRd, if_neg (by rw [h]; decide)]
theorem tRd_ok {b : Nat → Int32} {L n j p : Nat} {lo hi : Nat → Int32} (h : tNk b L p (lo j) (hi j) = true) : tRd b L lo hi (n + 1) j p = tRd b L lo hi n (j + 1) (T3 b L p) := by rw [tRd, if_pos h]
theorem tRd_ok1 {b : Nat → Int32} {L w A p : Nat} (hc : tCn w = 1) (h : tNk b L p (tLo w 0) (tHi A w 0) = true) : tRd b L (tLo w) (tHi A w) (tCn w) 0 p = .inl (T3 b L p) := by rw [hc, tRd, if_pos h, tRd]
theorem tRd_no1 {b : Nat → Int32} {L w A p : Nat} (hc : tCn w = 1) (h : tNk b L p (tLo w 0) (tHi A w 0) = false) : tRd b L (tLo w) (tHi A w) (tCn w) 0 p = .inr (T1 b L p) := by rw [hc, tRd, if_neg (by rw [h]; decide)]
theorem mwr_self (μ : gM) (a k : Nat) : mwr μ a k (mrd μ a k) = μ := by
  refine gM_ext (fun c q => ?_) (fun c q => rfl)
  rw [mrd_wr]
  split
  · next h => rw [h.1, h.2]
  · rfl
section S50
variable {μ ν ξ : gM} {Q : Option Value → gM → Prop} {L k p q f i w : Nat} {b : Nat → Int32} {lo hi v v0 v1 v2 : Int32} {z : Bool} {S : aL}
theorem s_X11_readsLane (h : RI z μ ν i S) (ht : TR ν b L p) (hz : z = true → i = 0 ∧ S = aS0)
    (hok : ∀ ξ, tNk b L p 4 30 = true → RI z μ ξ (i + 1) (aStep 1 (tVal b L p) v1 v2 S) → TR ξ b L (T3 b L p) → Q (some (.int 1)) ξ)
    (hno : ∀ ξ, tNk b L p 4 30 = false → RI z μ ξ i S → mrd ξ 63 8 = nI (T1 b L p) → Q (some (.int 0)) ξ) : SPC 4 MX11_readsLane [.ref 63] ν Q := by
  refine SPC.of (by decide +kernel) (Nat.le_of_ble_eq_true rfl) (ls := [(0, .ref (63))]) rfl ?_
  refine GG.aload_n e_X11_readsLane_0 (i := 0) rfl 0 rfl ?_
  refine GG.iconst (v := 4) e_X11_readsLane_1 rfl ?_
  refine GG.bipush (v := 30) e_X11_readsLane_2 rfl ?_
  refine GG.callV (d' := 3) (a := 63) (as := [.int _, .int _]) e_X11_readsLane_4 ml_X11_94 mf_X11_number mv_X11_number (rc_X11 i_X11_63) rfl (by decide) (Nat.le_of_ble_eq_true rfl) rfl ?_
  refine s_X11_number ht (fun ξ g1 g2 g3 => ?_)
  have hI := h.rt g1
  generalize hv : (if tNk b L p 4 30 = true then tVal b L p else -1) = v
  refine GG.istore_n e_X11_readsLane_7 (i := 1) rfl (Nat.le_of_ble_eq_true rfl) (ls' := [(1, .int _), (0, .ref _)]) rfl ?_
  refine GG.iload_n e_X11_readsLane_8 (i := 1) rfl 0 rfl ?_
  refine GG.iconst (v := -1) e_X11_readsLane_9 rfl ?_
  refine GG.icmp_eq (tgt := 25) e_X11_readsLane_10 rfl (fun h10 => ?_) (fun h10 => ?_)
  · skip
    have en := num_no (by decide) hv h10
    refine GG.iload_n e_X11_readsLane_25 (i := 1) rfl 0 rfl ?_
    refine GG.iconst (v := -1) e_X11_readsLane_26 rfl ?_
    refine GG.icmp_eq (tgt := 34) e_X11_readsLane_27 rfl (fun h27 => ?_) (fun h27 => ?_)
    · skip
      refine GG.iconst (v := 0) e_X11_readsLane_34 rfl ?_
      refine GG.zret e_X11_readsLane_35 rfl rfl rfl ?_
      first | exact absurd h27 h10 | exact absurd h10 h27 | exact hfin ez | exact hfin2 ez | exact hno ξ en hI g3
    · skip
      refine GG.iconst (v := 1) e_X11_readsLane_30 rfl ?_
      refine GG.goto (tgt := 35) e_X11_readsLane_31 rfl ?_
      refine GG.zret e_X11_readsLane_35 rfl rfl rfl ?_
      first | exact absurd h27 h10 | exact absurd h10 h27 | exact hfin ez | exact hfin2 ez | exact hno ξ en hI g3
  · skip
    obtain ⟨en, hv2⟩ := num_ok hv h10
    have hfin : z = false → Q (some (.int 1)) ξ := fun ez => hok ξ en (by rw [hv2]; subst ez; exact hI.f1) g2
    have hfin2 : z = true → Q (some (.int 1)) (mwr (mZr ξ 179) 64 10 v) := fun ez => by
      obtain ⟨e1, e2⟩ := hz ez
      refine hok _ en ?_ (g2.of (fun c j h1 _ => by rw [mrd_wr, if_neg (by omega), mrd_Zr, if_neg (by omega)]))
      rw [hv2]
      subst e1 e2 ez
      exact hI.w1
    refine GG.aload_n e_X11_readsLane_13 (i := 0) rfl 1 rfl ?_
    refine GG.getIv (v := bI z) e_X11_readsLane_14 fl_X11_98 (sf_X11_12 i_X11_63) (hI.2.2.2.1) ?_
    refine GG.if_eq (tgt := 25) e_X11_readsLane_17 rfl (fun h17 => ?_) (fun h17 => ?_)
    · skip
      have ez : z = false := (bI_0 _).mp h17
      refine GG.iload_n e_X11_readsLane_25 (i := 1) rfl 0 rfl ?_
      refine GG.iconst (v := -1) e_X11_readsLane_26 rfl ?_
      refine GG.icmp_eq (tgt := 34) e_X11_readsLane_27 rfl (fun h27 => ?_) (fun h27 => ?_)
      · skip
        refine GG.iconst (v := 0) e_X11_readsLane_34 rfl ?_
        refine GG.zret e_X11_readsLane_35 rfl rfl rfl ?_
        first | exact absurd h27 h10 | exact absurd h10 h27 | exact hfin ez | exact hfin2 ez | exact hno ξ en hI g3
      · skip
        refine GG.iconst (v := 1) e_X11_readsLane_30 rfl ?_
        refine GG.goto (tgt := 35) e_X11_readsLane_31 rfl ?_
        refine GG.zret e_X11_readsLane_35 rfl rfl rfl ?_
        first | exact absurd h27 h10 | exact absurd h10 h27 | exact hfin ez | exact hfin2 ez | exact hno ξ en hI g3
    · skip
      have ez : z = true := (bI_n0 _).mp h17
      refine GG.aload_n e_X11_readsLane_20 (i := 0) rfl 1 rfl ?_
      refine GG.iload_n e_X11_readsLane_21 (i := 1) rfl 0 rfl ?_
      refine GG.callV (d' := 0) (a := 63) (as := [.int _]) e_X11_readsLane_22 ml_X11_59 mf_X11_layHouses mv_X11_layHouses (rc_X11 i_X11_63) rfl (by decide) (Nat.le_of_ble_eq_true rfl) rfl ?_
      refine s_X11_layHouses ?_
      refine GG.iload_n e_X11_readsLane_25 (i := 1) rfl 0 rfl ?_
      refine GG.iconst (v := -1) e_X11_readsLane_26 rfl ?_
      refine GG.icmp_eq (tgt := 34) e_X11_readsLane_27 rfl (fun h27 => ?_) (fun h27 => ?_)
      · skip
        refine GG.iconst (v := 0) e_X11_readsLane_34 rfl ?_
        refine GG.zret e_X11_readsLane_35 rfl rfl rfl ?_
        first | exact absurd h27 h10 | exact absurd h10 h27 | exact hfin ez | exact hfin2 ez | exact hno ξ en hI g3
      · skip
        refine GG.iconst (v := 1) e_X11_readsLane_30 rfl ?_
        refine GG.goto (tgt := 35) e_X11_readsLane_31 rfl ?_
        refine GG.zret e_X11_readsLane_35 rfl rfl rfl ?_
        first | exact absurd h27 h10 | exact absurd h10 h27 | exact hfin ez | exact hfin2 ez | exact hno ξ en hI g3
theorem s_X11_readsOne (h : RI z μ ν i S) (ht : TR ν b L p) (hz : z = true → 0 < i)
    (hroom : S.2.1 = 7 → Q (some (.int 0)) ν)
    (hok : ∀ ξ q, S.2.1 < 7 → tRd b L (tLo 2) (tHi S.2.2.1 2) 3 0 p = .inl q → RI z μ ξ (i + 1) (aStep 2 (tV0 b L p) (tV1 b L p) (tV2 b L p) S) → TR ξ b L q → Q (some (.int 1)) ξ)
    (hno : ∀ ξ f, S.2.1 < 7 → tRd b L (tLo 2) (tHi S.2.2.1 2) 3 0 p = .inr f → RI z μ ξ i S → mrd ξ 63 8 = nI f → Q (some (.int 0)) ξ) : SPC 4 MX11_readsOne [.ref 63] ν Q := by
  have hP7 := h.2.2.2.2.1
  have j50no : ∀ ξ f x y, S.2.1 < 7 → tRd b L (tLo 2) (tHi S.2.2.1 2) 3 0 p = .inr f → RI z μ ξ i S → mrd ξ 63 8 = nI f → GG 4 MX11_readsOne 50 [(2, .int y), (1, .int x), (0, .ref 63)] [.int (-1)] ξ Q := by
    intro ξ f x y hP hr hI h8
    refine GG.istore_n e_X11_readsOne_50 (i := 3) rfl (Nat.le_of_ble_eq_true rfl) (ls' := [(3, .int _), (2, .int _), (1, .int _), (0, .ref _)]) rfl ?_
    refine GG.iload_n e_X11_readsOne_51 (i := 3) rfl 0 rfl ?_
    refine GG.iconst (v := -1) e_X11_readsOne_52 rfl ?_
    refine GG.icmp_ne (tgt := 58) e_X11_readsOne_53 rfl (fun h53 => absurd h53 (by exact fun z => z rfl)) (fun h53 => ?_)
    refine GG.iconst (v := 0) e_X11_readsOne_56 rfl ?_
    refine GG.zret e_X11_readsOne_57 rfl rfl rfl ?_
    exact hno ξ f hP hr hI h8
  have j33no : ∀ ξ f x, S.2.1 < 7 → tRd b L (tLo 2) (tHi S.2.2.1 2) 3 0 p = .inr f → RI z μ ξ i S → mrd ξ 63 8 = nI f → GG 4 MX11_readsOne 33 [(1, .int x), (0, .ref 63)] [.int (-1)] ξ Q := by
    intro ξ f x hP hr hI h8
    refine GG.istore_n e_X11_readsOne_33 (i := 2) rfl (Nat.le_of_ble_eq_true rfl) (ls' := [(2, .int _), (1, .int _), (0, .ref _)]) rfl ?_
    refine GG.iload_n e_X11_readsOne_34 (i := 2) rfl 0 rfl ?_
    refine GG.iconst (v := -1) e_X11_readsOne_35 rfl ?_
    refine GG.icmp_ne (tgt := 43) e_X11_readsOne_36 rfl (fun h36 => absurd h36 (by exact fun z => z rfl)) (fun h36 => ?_)
    refine GG.iconst (v := -1) e_X11_readsOne_39 rfl ?_
    refine GG.goto (tgt := 50) e_X11_readsOne_40 rfl ?_
    exact j50no ξ f _ _ hP hr hI h8
  have j50ok : ∀ ξ q x y v, S.2.1 < 7 → tRd b L (tLo 2) (tHi S.2.2.1 2) 3 0 p = .inl q → RI z μ ξ i S → TR ξ b L q → x = tV0 b L p → y = tV1 b L p → v = tV2 b L p → ¬ v = -1 → GG 4 MX11_readsOne 50 [(2, .int y), (1, .int x), (0, .ref 63)] [.int v] ξ Q := by
    intro ξ q x y v hP hr hI hT hx hy hv hne
    have r63 : ∀ c j, ¬ c = 64 → ¬ c = 69 → mrd (rOne (mwr ξ 63 10 (nI (S.2.1 + 1))) S.2.1 x y v) c j = mrd (mwr ξ 63 10 (nI (S.2.1 + 1))) c j := fun c j h1 h2 => mrd_rOne (by omega)
    have z0 : z = false → Q (some (.int 1)) (mwr ξ 63 10 (nI (S.2.1 + 1))) := fun ez => hok _ q hP hr (by subst ez; exact hI.f2 hP) (hT.w63 (by omega))
    have z1 : z = true → Q (some (.int 1)) (rOne (mwr ξ 63 10 (nI (S.2.1 + 1))) S.2.1 x y v) := fun ez => hok _ q hP hr (by rw [← hx, ← hy, ← hv]; have := hz ez; subst ez; exact hI.w2 this hP) ((hT.w63 (by omega)).of r63)
    refine GG.istore_n e_X11_readsOne_50 (i := 3) rfl (Nat.le_of_ble_eq_true rfl) (ls' := [(3, .int _), (2, .int _), (1, .int _), (0, .ref _)]) rfl ?_
    refine GG.iload_n e_X11_readsOne_51 (i := 3) rfl 0 rfl ?_
    refine GG.iconst (v := -1) e_X11_readsOne_52 rfl ?_
    refine GG.icmp_ne (tgt := 58) e_X11_readsOne_53 rfl (fun h53 => ?_) (fun h53 => absurd h53 (by exact hne))
    refine GG.aload_n e_X11_readsOne_58 (i := 0) rfl 3 rfl ?_
    refine GG.dup e_X11_readsOne_59 rfl ?_
    refine GG.getIv (v := nI S.2.1) e_X11_readsOne_60 fl_X11_102 (sf_X11_10 i_X11_63) (hI.2.1) ?_
    refine GG.iconst (v := 1) e_X11_readsOne_63 rfl ?_
    refine GG.iadd e_X11_readsOne_64 ?_
    refine GG.top (nI_1 _) ?_
    refine GG.putI e_X11_readsOne_65 fl_X11_102 fp_X11_10 (sf_X11_10 i_X11_63) ?_
    refine GG.aload_n e_X11_readsOne_68 (i := 0) rfl 3 rfl ?_
    refine GG.getIv (v := bI z) e_X11_readsOne_69 fl_X11_98 (sf_X11_12 i_X11_63) (by rw [mrd_wr, if_neg (by omega)]; exact hI.2.2.2.1) ?_
    refine GG.if_eq (tgt := 82) e_X11_readsOne_72 rfl (fun h72 => ?_) (fun h72 => ?_)
    · skip
      have ez : z = false := (bI_0 _).mp h72
      refine GG.iconst (v := 1) e_X11_readsOne_82 rfl ?_
      refine GG.zret e_X11_readsOne_83 rfl rfl rfl ?_
      first | exact z0 ez | exact z1 ez
    · skip
      have ez : z = true := (bI_n0 _).mp h72
      have m1 : mrd (mwr ξ 63 10 (nI (S.2.1 + 1))) 64 11 = nI S.2.1 := by
        rw [mrd_wr, if_neg (by omega)]
        exact (hI.2.2.2.2.2.2 ez (hz ez)).1.1
      refine GG.aload_n e_X11_readsOne_75 (i := 0) rfl 3 rfl ?_
      refine GG.iload_n e_X11_readsOne_76 (i := 1) rfl 2 rfl ?_
      refine GG.iload_n e_X11_readsOne_77 (i := 2) rfl 1 rfl ?_
      refine GG.iload_n e_X11_readsOne_78 (i := 3) rfl 0 rfl ?_
      refine GG.callV (d' := 0) (a := 63) (as := [.int _, .int _, .int _]) e_X11_readsOne_79 ml_X11_63 mf_X11_addOne mv_X11_addOne (rc_X11 i_X11_63) rfl (by decide) (Nat.le_of_ble_eq_true rfl) rfl ?_
      refine s_X11_addOne m1 hP ?_
      refine GG.iconst (v := 1) e_X11_readsOne_82 rfl ?_
      refine GG.zret e_X11_readsOne_83 rfl rfl rfl ?_
      first | exact z0 ez | exact z1 ez
  have j33ok : ∀ ξ x v, S.2.1 < 7 → tNk b L p 0 5 = true → tNk b L (T3 b L p) 0 1 = true → RI z μ ξ i S → TR ξ b L (T3 b L (T3 b L p)) → x = tV0 b L p → v = tV1 b L p → ¬ v = -1 → GG 4 MX11_readsOne 33 [(1, .int x), (0, .ref 63)] [.int v] ξ Q := by
    intro ξ x v hP e1 e2 hI hT hx hv hne
    have r2 : tRd b L (tLo 2) (tHi S.2.2.1 2) 3 0 p = tRd b L (tLo 2) (tHi S.2.2.1 2) 1 2 (T3 b L (T3 b L p)) := by rw [tRd_ok (lo := tLo 2) (hi := tHi S.2.2.1 2) (n := 2) (j := 0) e1, tRd_ok (lo := tLo 2) (hi := tHi S.2.2.1 2) (n := 1) (j := 1) e2]
    refine GG.istore_n e_X11_readsOne_33 (i := 2) rfl (Nat.le_of_ble_eq_true rfl) (ls' := [(2, .int _), (1, .int _), (0, .ref _)]) rfl ?_
    refine GG.iload_n e_X11_readsOne_34 (i := 2) rfl 0 rfl ?_
    refine GG.iconst (v := -1) e_X11_readsOne_35 rfl ?_
    refine GG.icmp_ne (tgt := 43) e_X11_readsOne_36 rfl (fun h36 => ?_) (fun h36 => absurd h36 (by exact hne))
    refine GG.aload_n e_X11_readsOne_43 (i := 0) rfl 2 rfl ?_
    refine GG.iconst (v := 0) e_X11_readsOne_44 rfl ?_
    refine GG.bipush (v := 9) e_X11_readsOne_45 rfl ?_
    refine GG.callV (d' := 3) (a := 63) (as := [.int _, .int _]) e_X11_readsOne_47 ml_X11_94 mf_X11_number mv_X11_number (rc_X11 i_X11_63) rfl (by decide) (Nat.le_of_ble_eq_true rfl) rfl ?_
    refine s_X11_number hT (fun ξ2 g1 g2 g3 => ?_)
    have hI2 := hI.rt g1
    generalize hv3 : (if tNk b L (T3 b L (T3 b L p)) 0 9 = true then tVal b L (T3 b L (T3 b L p)) else -1) = v3
    by_cases h9 : v3 = -1
    · have en := num_no (by decide) hv3 h9
      rw [h9]
      exact j50no _ _ _ _ hP (r2.trans (tRd_no (lo := tLo 2) (hi := tHi S.2.2.1 2) (n := 0) (j := 2) en)) hI2 g3
    · obtain ⟨en, hv4⟩ := num_ok hv3 h9
      exact j50ok _ _ _ _ _ hP (r2.trans ((tRd_ok (lo := tLo 2) (hi := tHi S.2.2.1 2) (n := 0) (j := 2) en).trans rfl)) hI2 g2 hx hv hv4.symm h9
  refine SPC.of (by decide +kernel) (Nat.le_of_ble_eq_true rfl) (ls := [(0, .ref (63))]) rfl ?_
  refine GG.aload_n e_X11_readsOne_0 (i := 0) rfl 0 rfl ?_
  refine GG.getIv (v := nI S.2.1) e_X11_readsOne_1 fl_X11_102 (sf_X11_10 i_X11_63) (h.2.1) ?_
  refine GG.bipush (v := 7) e_X11_readsOne_4 rfl ?_
  refine GG.icmp_ne (tgt := 11) e_X11_readsOne_6 rfl (fun h6 => ?_) (fun h6 => ?_)
  · skip
    have hP : S.2.1 < 7 := by have := mt (nI_eq (a := S.2.1) (b := 7) (by omega) (by omega)).mpr h6; omega
    refine GG.aload_n e_X11_readsOne_11 (i := 0) rfl 0 rfl ?_
    refine GG.iconst (v := 0) e_X11_readsOne_12 rfl ?_
    refine GG.iconst (v := 5) e_X11_readsOne_13 rfl ?_
    refine GG.callV (d' := 3) (a := 63) (as := [.int _, .int _]) e_X11_readsOne_14 ml_X11_94 mf_X11_number mv_X11_number (rc_X11 i_X11_63) rfl (by decide) (Nat.le_of_ble_eq_true rfl) rfl ?_
    refine s_X11_number ht (fun ξ g1 g2 g3 => ?_)
    have hI := h.rt g1
    generalize hv : (if tNk b L p 0 5 = true then tVal b L p else -1) = v
    refine GG.istore_n e_X11_readsOne_17 (i := 1) rfl (Nat.le_of_ble_eq_true rfl) (ls' := [(1, .int _), (0, .ref _)]) rfl ?_
    refine GG.iload_n e_X11_readsOne_18 (i := 1) rfl 0 rfl ?_
    refine GG.iconst (v := -1) e_X11_readsOne_19 rfl ?_
    refine GG.icmp_ne (tgt := 27) e_X11_readsOne_20 rfl (fun h20 => ?_) (fun h20 => ?_)
    · skip
      obtain ⟨en, hv2⟩ := num_ok hv h20
      refine GG.aload_n e_X11_readsOne_27 (i := 0) rfl 1 rfl ?_
      refine GG.iconst (v := 0) e_X11_readsOne_28 rfl ?_
      refine GG.iconst (v := 1) e_X11_readsOne_29 rfl ?_
      refine GG.callV (d' := 3) (a := 63) (as := [.int _, .int _]) e_X11_readsOne_30 ml_X11_94 mf_X11_number mv_X11_number (rc_X11 i_X11_63) rfl (by decide) (Nat.le_of_ble_eq_true rfl) rfl ?_
      refine s_X11_number g2 (fun ξ2 k1 k2 k3 => ?_)
      have hI2 := hI.rt k1
      generalize hv3 : (if tNk b L (T3 b L p) 0 1 = true then tVal b L (T3 b L p) else -1) = v3
      first
      | exact j33no _ _ _ hP (tRd_no (lo := tLo 2) (hi := tHi S.2.2.1 2) (n := 2) (j := 0) en) hI g3
      | (by_cases h9 : v3 = -1
         · have en2 := num_no (by decide) hv3 h9
           rw [h9]
           exact j33no _ _ _ hP ((tRd_ok (lo := tLo 2) (hi := tHi S.2.2.1 2) (n := 2) (j := 0) en).trans (tRd_no (lo := tLo 2) (hi := tHi S.2.2.1 2) (n := 1) (j := 1) en2)) hI2 k3
         · obtain ⟨en2, hv4⟩ := num_ok hv3 h9
           exact j33ok _ _ _ hP en en2 hI2 k2 hv2.symm hv4.symm h9)
    · skip
      have h20' : v = -1 := h20
      have en := num_no (by decide) hv h20'
      refine GG.iconst (v := -1) e_X11_readsOne_23 rfl ?_
      refine GG.goto (tgt := 33) e_X11_readsOne_24 rfl ?_
      first
      | exact j33no _ _ _ hP (tRd_no (lo := tLo 2) (hi := tHi S.2.2.1 2) (n := 2) (j := 0) en) hI g3
      | (by_cases h9 : v3 = -1
         · have en2 := num_no (by decide) hv3 h9
           rw [h9]
           exact j33no _ _ _ hP ((tRd_ok (lo := tLo 2) (hi := tHi S.2.2.1 2) (n := 2) (j := 0) en).trans (tRd_no (lo := tLo 2) (hi := tHi S.2.2.1 2) (n := 1) (j := 1) en2)) hI2 k3
         · obtain ⟨en2, hv4⟩ := num_ok hv3 h9
           exact j33ok _ _ _ hP en en2 hI2 k2 hv2.symm hv4.symm h9)
  · skip
    have hP : S.2.1 = 7 := (nI_eq (b := 7) (by omega) (by omega)).mp h6
    refine GG.iconst (v := 0) e_X11_readsOne_9 rfl ?_
    refine GG.zret e_X11_readsOne_10 rfl rfl rfl ?_
    exact hroom hP
theorem s_X11_readsAunt (h : RI z μ ν i S) (ht : TR ν b L p) (hz : z = true → 0 < i)
    (hroom : S.2.2.1 = 4 → Q (some (.int 0)) ν)
    (hok : ∀ ξ q, S.2.2.1 < 4 → tRd b L (tLo 3) (tHi S.2.2.1 3) 2 0 p = .inl q → RI z μ ξ (i + 1) (aStep 3 (tV0 b L p) (tV1 b L p) (tV2 b L p) S) → TR ξ b L q → Q (some (.int 1)) ξ)
    (hno : ∀ ξ f, S.2.2.1 < 4 → tRd b L (tLo 3) (tHi S.2.2.1 3) 2 0 p = .inr f → RI z μ ξ i S → mrd ξ 63 8 = nI f → Q (some (.int 0)) ξ) : SPC 4 MX11_readsAunt [.ref 63] ν Q := by
  have hA4 := h.2.2.2.2.2.1
  have j32no : ∀ ξ f x, S.2.2.1 < 4 → tRd b L (tLo 3) (tHi S.2.2.1 3) 2 0 p = .inr f → RI z μ ξ i S → mrd ξ 63 8 = nI f → GG 4 MX11_readsAunt 32 [(1, .int x), (0, .ref 63)] [.int (-1)] ξ Q := by
    intro ξ f x hP hr hI h8
    refine GG.istore_n e_X11_readsAunt_32 (i := 2) rfl (Nat.le_of_ble_eq_true rfl) (ls' := [(2, .int _), (1, .int _), (0, .ref _)]) rfl ?_
    refine GG.iload_n e_X11_readsAunt_33 (i := 2) rfl 0 rfl ?_
    refine GG.iconst (v := -1) e_X11_readsAunt_34 rfl ?_
    refine GG.icmp_ne (tgt := 40) e_X11_readsAunt_35 rfl (fun h35 => absurd h35 (by exact fun z => z rfl)) (fun h35 => ?_)
    refine GG.iconst (v := 0) e_X11_readsAunt_38 rfl ?_
    refine GG.zret e_X11_readsAunt_39 rfl rfl rfl ?_
    exact hno ξ f hP hr hI h8
  have j32ok : ∀ ξ q x v, S.2.2.1 < 4 → tRd b L (tLo 3) (tHi S.2.2.1 3) 2 0 p = .inl q → RI z μ ξ i S → TR ξ b L q → x = tV0 b L p → v = tV1 b L p → ¬ v = -1 → GG 4 MX11_readsAunt 32 [(1, .int x), (0, .ref 63)] [.int v] ξ Q := by
    intro ξ q x v hP hr hI hT hx hv hne
    have r63 : ∀ c j, ¬ c = 64 → ¬ c = 69 → mrd (rAunt (mwr ξ 63 11 (nI (S.2.2.1 + 1))) S.2.2.1 x v) c j = mrd (mwr ξ 63 11 (nI (S.2.2.1 + 1))) c j := fun c j h1 h2 => mrd_rAunt (by omega)
    have z0 : z = false → Q (some (.int 1)) (mwr ξ 63 11 (nI (S.2.2.1 + 1))) := fun ez => hok _ q hP hr (by subst ez; exact hI.f3 hP) (hT.w63 (by omega))
    have z1 : z = true → Q (some (.int 1)) (rAunt (mwr ξ 63 11 (nI (S.2.2.1 + 1))) S.2.2.1 x v) := fun ez => hok _ q hP hr (by rw [← hx, ← hv]; have := hz ez; subst ez; exact hI.w3 this hP) ((hT.w63 (by omega)).of r63)
    refine GG.istore_n e_X11_readsAunt_32 (i := 2) rfl (Nat.le_of_ble_eq_true rfl) (ls' := [(2, .int _), (1, .int _), (0, .ref _)]) rfl ?_
    refine GG.iload_n e_X11_readsAunt_33 (i := 2) rfl 0 rfl ?_
    refine GG.iconst (v := -1) e_X11_readsAunt_34 rfl ?_
    refine GG.icmp_ne (tgt := 40) e_X11_readsAunt_35 rfl (fun h35 => ?_) (fun h35 => absurd h35 (by exact hne))
    refine GG.aload_n e_X11_readsAunt_40 (i := 0) rfl 2 rfl ?_
    refine GG.dup e_X11_readsAunt_41 rfl ?_
    refine GG.getIv (v := nI S.2.2.1) e_X11_readsAunt_42 fl_X11_105 (sf_X11_11 i_X11_63) (hI.2.2.1) ?_
    refine GG.iconst (v := 1) e_X11_readsAunt_45 rfl ?_
    refine GG.iadd e_X11_readsAunt_46 ?_
    refine GG.top (nI_1 _) ?_
    refine GG.putI e_X11_readsAunt_47 fl_X11_105 fp_X11_11 (sf_X11_11 i_X11_63) ?_
    refine GG.aload_n e_X11_readsAunt_50 (i := 0) rfl 2 rfl ?_
    refine GG.getIv (v := bI z) e_X11_readsAunt_51 fl_X11_98 (sf_X11_12 i_X11_63) (by rw [mrd_wr, if_neg (by omega)]; exact hI.2.2.2.1) ?_
    refine GG.if_eq (tgt := 63) e_X11_readsAunt_54 rfl (fun h54 => ?_) (fun h54 => ?_)
    · skip
      have ez : z = false := (bI_0 _).mp h54
      refine GG.iconst (v := 1) e_X11_readsAunt_63 rfl ?_
      refine GG.zret e_X11_readsAunt_64 rfl rfl rfl ?_
      first | exact z0 ez | exact z1 ez
    · skip
      have ez : z = true := (bI_n0 _).mp h54
      have m1 : mrd (mwr ξ 63 11 (nI (S.2.2.1 + 1))) 64 26 = nI S.2.2.1 := by
        rw [mrd_wr, if_neg (by omega)]
        exact (hI.2.2.2.2.2.2 ez (hz ez)).1.2.2.1
      refine GG.aload_n e_X11_readsAunt_57 (i := 0) rfl 2 rfl ?_
      refine GG.iload_n e_X11_readsAunt_58 (i := 1) rfl 1 rfl ?_
      refine GG.iload_n e_X11_readsAunt_59 (i := 2) rfl 0 rfl ?_
      refine GG.callV (d' := 0) (a := 63) (as := [.int _, .int _]) e_X11_readsAunt_60 ml_X11_67 mf_X11_addAunt mv_X11_addAunt (rc_X11 i_X11_63) rfl (by decide) (Nat.le_of_ble_eq_true rfl) rfl ?_
      refine s_X11_addAunt m1 hP ?_
      refine GG.iconst (v := 1) e_X11_readsAunt_63 rfl ?_
      refine GG.zret e_X11_readsAunt_64 rfl rfl rfl ?_
      first | exact z0 ez | exact z1 ez
  refine SPC.of (by decide +kernel) (Nat.le_of_ble_eq_true rfl) (ls := [(0, .ref (63))]) rfl ?_
  refine GG.aload_n e_X11_readsAunt_0 (i := 0) rfl 0 rfl ?_
  refine GG.getIv (v := nI S.2.2.1) e_X11_readsAunt_1 fl_X11_105 (sf_X11_11 i_X11_63) (h.2.2.1) ?_
  refine GG.iconst (v := 4) e_X11_readsAunt_4 rfl ?_
  refine GG.icmp_ne (tgt := 10) e_X11_readsAunt_5 rfl (fun h5 => ?_) (fun h5 => ?_)
  · skip
    have hP : S.2.2.1 < 4 := by have := mt (nI_eq (a := S.2.2.1) (b := 4) (by omega) (by omega)).mpr h5; omega
    refine GG.aload_n e_X11_readsAunt_10 (i := 0) rfl 0 rfl ?_
    refine GG.iconst (v := 0) e_X11_readsAunt_11 rfl ?_
    refine GG.iconst (v := 5) e_X11_readsAunt_12 rfl ?_
    refine GG.callV (d' := 3) (a := 63) (as := [.int _, .int _]) e_X11_readsAunt_13 ml_X11_94 mf_X11_number mv_X11_number (rc_X11 i_X11_63) rfl (by decide) (Nat.le_of_ble_eq_true rfl) rfl ?_
    refine s_X11_number ht (fun ξ g1 g2 g3 => ?_)
    have hI := h.rt g1
    generalize hv : (if tNk b L p 0 5 = true then tVal b L p else -1) = v
    refine GG.istore_n e_X11_readsAunt_16 (i := 1) rfl (Nat.le_of_ble_eq_true rfl) (ls' := [(1, .int _), (0, .ref _)]) rfl ?_
    refine GG.iload_n e_X11_readsAunt_17 (i := 1) rfl 0 rfl ?_
    refine GG.iconst (v := -1) e_X11_readsAunt_18 rfl ?_
    refine GG.icmp_ne (tgt := 26) e_X11_readsAunt_19 rfl (fun h19 => ?_) (fun h19 => ?_)
    · skip
      obtain ⟨en, hv2⟩ := num_ok hv h19
      refine GG.aload_n e_X11_readsAunt_26 (i := 0) rfl 1 rfl ?_
      refine GG.iconst (v := 0) e_X11_readsAunt_27 rfl ?_
      refine GG.iconst (v := 1) e_X11_readsAunt_28 rfl ?_
      refine GG.callV (d' := 3) (a := 63) (as := [.int _, .int _]) e_X11_readsAunt_29 ml_X11_94 mf_X11_number mv_X11_number (rc_X11 i_X11_63) rfl (by decide) (Nat.le_of_ble_eq_true rfl) rfl ?_
      refine s_X11_number g2 (fun ξ2 k1 k2 k3 => ?_)
      have hI2 := hI.rt k1
      generalize hv3 : (if tNk b L (T3 b L p) 0 1 = true then tVal b L (T3 b L p) else -1) = v3
      first
      | exact j32no _ _ _ hP (tRd_no (lo := tLo 3) (hi := tHi S.2.2.1 3) (n := 1) (j := 0) en) hI g3
      | (by_cases h9 : v3 = -1
         · have en2 := num_no (by decide) hv3 h9
           rw [h9]
           exact j32no _ _ _ hP ((tRd_ok (lo := tLo 3) (hi := tHi S.2.2.1 3) (n := 1) (j := 0) en).trans (tRd_no (lo := tLo 3) (hi := tHi S.2.2.1 3) (n := 0) (j := 1) en2)) hI2 k3
         · obtain ⟨en2, hv4⟩ := num_ok hv3 h9
           exact j32ok _ _ _ _ hP ((tRd_ok (lo := tLo 3) (hi := tHi S.2.2.1 3) (n := 1) (j := 0) en).trans ((tRd_ok (lo := tLo 3) (hi := tHi S.2.2.1 3) (n := 0) (j := 1) en2).trans rfl)) hI2 k2 hv2.symm hv4.symm h9)
    · skip
      have h19' : v = -1 := h19
      have en := num_no (by decide) hv h19'
      refine GG.iconst (v := -1) e_X11_readsAunt_22 rfl ?_
      refine GG.goto (tgt := 32) e_X11_readsAunt_23 rfl ?_
      first
      | exact j32no _ _ _ hP (tRd_no (lo := tLo 3) (hi := tHi S.2.2.1 3) (n := 1) (j := 0) en) hI g3
      | (by_cases h9 : v3 = -1
         · have en2 := num_no (by decide) hv3 h9
           rw [h9]
           exact j32no _ _ _ hP ((tRd_ok (lo := tLo 3) (hi := tHi S.2.2.1 3) (n := 1) (j := 0) en).trans (tRd_no (lo := tLo 3) (hi := tHi S.2.2.1 3) (n := 0) (j := 1) en2)) hI2 k3
         · obtain ⟨en2, hv4⟩ := num_ok hv3 h9
           exact j32ok _ _ _ _ hP ((tRd_ok (lo := tLo 3) (hi := tHi S.2.2.1 3) (n := 1) (j := 0) en).trans ((tRd_ok (lo := tLo 3) (hi := tHi S.2.2.1 3) (n := 0) (j := 1) en2).trans rfl)) hI2 k2 hv2.symm hv4.symm h9)
  · skip
    have hP : S.2.2.1 = 4 := (nI_eq (b := 4) (by omega) (by omega)).mp h5
    refine GG.iconst (v := 0) e_X11_readsAunt_8 rfl ?_
    refine GG.zret e_X11_readsAunt_9 rfl rfl rfl ?_
    exact hroom hP
theorem s_X11_readsItem (hw : 1 ≤ w ∧ w ≤ 5) (h : RI z μ ν i S) (ht : TR ν b L p) (hz0 : z = true → w = 1 → i = 0 ∧ S = aS0) (hz1 : z = true → ¬ w = 1 → 0 < i)
    (hroom : (w = 2 ∧ S.2.1 = 7 ∨ w = 3 ∧ S.2.2.1 = 4) → Q (some (.int 0)) ν)
    (hok : ∀ ξ q, (w = 2 → S.2.1 < 7) → (w = 3 → S.2.2.1 < 4) → tRd b L (tLo w) (tHi S.2.2.1 w) (tCn w) 0 p = .inl q → RI z μ ξ (i + 1) (aStep w (tV0 b L p) (tV1 b L p) (tV2 b L p) S) → TR ξ b L q → Q (some (.int 1)) ξ)
    (hno : ∀ ξ f, (w = 2 → S.2.1 < 7) → (w = 3 → S.2.2.1 < 4) → tRd b L (tLo w) (tHi S.2.2.1 w) (tCn w) 0 p = .inr f → RI z μ ξ i S → mrd ξ 63 8 = nI f → Q (some (.int 0)) ξ) : SPC 6 MX11_readsItem [.ref 63, .int (nI w - 1)] ν Q := by
  have hw' : w = 1 ∨ w = 2 ∨ w = 3 ∨ w = 4 ∨ w = 5 := by omega
  rcases hw' with rfl | rfl | rfl | rfl | rfl
  · rw [show (nI 1 - 1 : Int32) = 0 from by decide]
    refine SPC.of (by decide +kernel) (Nat.le_of_ble_eq_true rfl) (ls := [(0, .ref (63)), (1, .int (0))]) rfl ?_
    refine GG.iload_n e_X11_readsItem_0 (i := 1) rfl 1 rfl ?_
    refine GG.tableIn (off := 31) (tgt := 32) e_X11_readsItem_1 (by decide) (by decide) (by decide) rfl ?_
    refine GG.aload_n e_X11_readsItem_32 (i := 0) rfl 0 rfl ?_
    refine GG.callV (d' := 4) (a := 63) (as := []) e_X11_readsItem_33 ml_X11_108 mf_X11_readsLane mv_X11_readsLane (rc_X11 i_X11_63) rfl (by decide) (Nat.le_of_ble_eq_true rfl) rfl ?_
    refine s_X11_readsLane (v1 := tV1 b L p) (v2 := tV2 b L p) h ht (fun e => hz0 e rfl) (fun ξ e g1 g2 => ?_) (fun ξ e g1 g2 => ?_)
    · refine GG.zret e_X11_readsItem_36 rfl rfl rfl ?_
      exact hok ξ _ (by omega) (by omega) (tRd_ok1 (w := 1) rfl e) g1 g2
    · refine GG.zret e_X11_readsItem_36 rfl rfl rfl ?_
      exact hno ξ _ (by omega) (by omega) (tRd_no1 (w := 1) rfl e) g1 g2
  · rw [show (nI 2 - 1 : Int32) = 1 from by decide]
    refine SPC.of (by decide +kernel) (Nat.le_of_ble_eq_true rfl) (ls := [(0, .ref (63)), (1, .int (1))]) rfl ?_
    refine GG.iload_n e_X11_readsItem_0 (i := 1) rfl 1 rfl ?_
    refine GG.tableIn (off := 36) (tgt := 37) e_X11_readsItem_1 (by decide) (by decide) (by decide) rfl ?_
    refine GG.aload_n e_X11_readsItem_37 (i := 0) rfl 0 rfl ?_
    refine GG.callV (d' := 4) (a := 63) (as := []) e_X11_readsItem_38 ml_X11_112 mf_X11_readsOne mv_X11_readsOne (rc_X11 i_X11_63) rfl (by decide) (Nat.le_of_ble_eq_true rfl) rfl ?_
    refine s_X11_readsOne h ht (fun e => hz1 e (by omega)) (fun e => ?_) (fun ξ q hP e g1 g2 => ?_) (fun ξ f hP e g1 g2 => ?_)
    · refine GG.zret e_X11_readsItem_41 rfl rfl rfl ?_
      exact hroom (Or.inl ⟨rfl, e⟩)
    · refine GG.zret e_X11_readsItem_41 rfl rfl rfl ?_
      exact hok ξ q (fun _ => hP) (by omega) e g1 g2
    · refine GG.zret e_X11_readsItem_41 rfl rfl rfl ?_
      exact hno ξ f (fun _ => hP) (by omega) e g1 g2
  · rw [show (nI 3 - 1 : Int32) = 2 from by decide]
    refine SPC.of (by decide +kernel) (Nat.le_of_ble_eq_true rfl) (ls := [(0, .ref (63)), (1, .int (2))]) rfl ?_
    refine GG.iload_n e_X11_readsItem_0 (i := 1) rfl 1 rfl ?_
    refine GG.tableIn (off := 41) (tgt := 42) e_X11_readsItem_1 (by decide) (by decide) (by decide) rfl ?_
    refine GG.aload_n e_X11_readsItem_42 (i := 0) rfl 0 rfl ?_
    refine GG.callV (d' := 4) (a := 63) (as := []) e_X11_readsItem_43 ml_X11_115 mf_X11_readsAunt mv_X11_readsAunt (rc_X11 i_X11_63) rfl (by decide) (Nat.le_of_ble_eq_true rfl) rfl ?_
    refine s_X11_readsAunt h ht (fun e => hz1 e (by omega)) (fun e => ?_) (fun ξ q hP e g1 g2 => ?_) (fun ξ f hP e g1 g2 => ?_)
    · refine GG.zret e_X11_readsItem_46 rfl rfl rfl ?_
      exact hroom (Or.inr ⟨rfl, e⟩)
    · refine GG.zret e_X11_readsItem_46 rfl rfl rfl ?_
      exact hok ξ q (by omega) (fun _ => hP) e g1 g2
    · refine GG.zret e_X11_readsItem_46 rfl rfl rfl ?_
      exact hno ξ f (by omega) (fun _ => hP) e g1 g2
  · rw [show (nI 4 - 1 : Int32) = 3 from by decide]
    refine SPC.of (by decide +kernel) (Nat.le_of_ble_eq_true rfl) (ls := [(0, .ref (63)), (1, .int (3))]) rfl ?_
    refine GG.iload_n e_X11_readsItem_0 (i := 1) rfl 1 rfl ?_
    refine GG.tableIn (off := 46) (tgt := 47) e_X11_readsItem_1 (by decide) (by decide) (by decide) rfl ?_
    refine GG.aload_n e_X11_readsItem_47 (i := 0) rfl 0 rfl ?_
    refine GG.iconst (v := 0) e_X11_readsItem_48 rfl ?_
    refine GG.aload_n e_X11_readsItem_49 (i := 0) rfl 0 rfl ?_
    refine GG.getIv (v := nI S.2.2.1) e_X11_readsItem_50 fl_X11_105 (sf_X11_11 i_X11_63) (h.2.2.1) ?_
    refine GG.iconst (v := 1) e_X11_readsItem_53 rfl ?_
    refine GG.isub e_X11_readsItem_54 ?_
    refine GG.callV (d' := 3) (a := 63) (as := [.int _, .int _]) e_X11_readsItem_55 ml_X11_94 mf_X11_number mv_X11_number (rc_X11 i_X11_63) rfl (by decide) (Nat.le_of_ble_eq_true rfl) rfl ?_
    refine s_X11_number ht (fun ξ g1 g2 g3 => ?_)
    have hI := h.rt g1
    generalize hv : (if tNk b L p 0 (nI S.2.2.1 - 1) = true then tVal b L p else -1) = v
    have hnoQ : v = -1 → Q (some (.int 0)) ξ := fun e => hno ξ _ (by omega) (by omega) (tRd_no1 (w := 4) rfl (num_no (by decide) hv e)) hI g3
    have hf : ¬ v = -1 → z = false → Q (some (.int 1)) ξ := fun e ez => by
      obtain ⟨en, hv2⟩ := num_ok hv e
      exact hok ξ _ (by omega) (by omega) (tRd_ok1 (w := 4) rfl en) (by subst ez; exact hI.f4) g2
    have ht1 : ¬ v = -1 → z = true → Q (some (.int 1)) (mwr ξ 64 7 (mrd ξ 64 7 &&& (((1 : Int32) <<< (v &&& 31)) ^^^ (-1)))) := fun e ez => by
      obtain ⟨en, hv2⟩ := num_ok hv e
      refine hok _ _ (by omega) (by omega) (tRd_ok1 (w := 4) rfl en) ?_ (g2.of (fun c j h1 _ => by rw [mrd_wr, if_neg (by omega)]))
      have q := hz1 ez (by omega)
      subst ez
      have hv3 : tV0 b L p = v := hv2
      rw [hv3]
      exact hI.w4 q
    refine GG.istore_n e_X11_readsItem_58 (i := 2) rfl (Nat.le_of_ble_eq_true rfl) (ls' := [(2, .int _), (0, .ref _), (1, .int _)]) rfl ?_
    refine GG.aload_n e_X11_readsItem_59 (i := 0) rfl 1 rfl ?_
    refine GG.getR (b := 64) e_X11_readsItem_60 fl_X11_7 (sf_X11_0 i_X11_63) ?_
    refine GG.bipush (v := 7) e_X11_readsItem_63 rfl ?_
    refine GG.aload_n e_X11_readsItem_65 (i := 0) rfl 1 rfl ?_
    refine GG.getIv (v := bI z) e_X11_readsItem_66 fl_X11_98 (sf_X11_12 i_X11_63) (hI.2.2.2.1) ?_
    refine GG.if_eq (tgt := 93) e_X11_readsItem_69 rfl (fun h69 => ?_) (fun h69 => ?_)
    · skip
      have ez : z = false := (bI_0 _).mp h69
      refine GG.aload_n e_X11_readsItem_93 (i := 0) rfl 1 rfl ?_
      refine GG.getR (b := 64) e_X11_readsItem_94 fl_X11_7 (sf_X11_0 i_X11_63) ?_
      refine GG.bipush (v := 7) e_X11_readsItem_97 rfl ?_
      refine GG.ialoadE (k := 7) e_X11_readsItem_99 (sa_X11_0 i_X11_63) (rfl) (by omega) (Nat.le_of_ble_eq_true rfl) ?_
      refine GG.iastoreE (k := 7) e_X11_readsItem_100 (sa_X11_0 i_X11_63) (rfl) (by omega) (Nat.le_of_ble_eq_true rfl) ?_
      try rw [mwr_self]
      refine GG.iload_n e_X11_readsItem_101 (i := 2) rfl 0 rfl ?_
      refine GG.iconst (v := -1) e_X11_readsItem_102 rfl ?_
      refine GG.icmp_eq (tgt := 110) e_X11_readsItem_103 rfl (fun h103 => ?_) (fun h103 => ?_)
      · skip
        refine GG.iconst (v := 0) e_X11_readsItem_110 rfl ?_
        refine GG.zret e_X11_readsItem_111 rfl rfl rfl ?_
        first | exact hnoQ (by assumption) | exact hf (by assumption) ez | exact ht1 (by assumption) ez | exact absurd h103 h74 | exact absurd h74 h103
      · skip
        refine GG.iconst (v := 1) e_X11_readsItem_106 rfl ?_
        refine GG.goto (tgt := 111) e_X11_readsItem_107 rfl ?_
        refine GG.zret e_X11_readsItem_111 rfl rfl rfl ?_
        first | exact hnoQ (by assumption) | exact hf (by assumption) ez | exact ht1 (by assumption) ez | exact absurd h103 h74 | exact absurd h74 h103
    · skip
      have ez : z = true := (bI_n0 _).mp h69
      refine GG.iload_n e_X11_readsItem_72 (i := 2) rfl 0 rfl ?_
      refine GG.iconst (v := -1) e_X11_readsItem_73 rfl ?_
      refine GG.icmp_eq (tgt := 93) e_X11_readsItem_74 rfl (fun h74 => ?_) (fun h74 => ?_)
      · skip
        refine GG.aload_n e_X11_readsItem_93 (i := 0) rfl 1 rfl ?_
        refine GG.getR (b := 64) e_X11_readsItem_94 fl_X11_7 (sf_X11_0 i_X11_63) ?_
        refine GG.bipush (v := 7) e_X11_readsItem_97 rfl ?_
        refine GG.ialoadE (k := 7) e_X11_readsItem_99 (sa_X11_0 i_X11_63) (rfl) (by omega) (Nat.le_of_ble_eq_true rfl) ?_
        refine GG.iastoreE (k := 7) e_X11_readsItem_100 (sa_X11_0 i_X11_63) (rfl) (by omega) (Nat.le_of_ble_eq_true rfl) ?_
        try rw [mwr_self]
        refine GG.iload_n e_X11_readsItem_101 (i := 2) rfl 0 rfl ?_
        refine GG.iconst (v := -1) e_X11_readsItem_102 rfl ?_
        refine GG.icmp_eq (tgt := 110) e_X11_readsItem_103 rfl (fun h103 => ?_) (fun h103 => ?_)
        · skip
          refine GG.iconst (v := 0) e_X11_readsItem_110 rfl ?_
          refine GG.zret e_X11_readsItem_111 rfl rfl rfl ?_
          first | exact hnoQ (by assumption) | exact hf (by assumption) ez | exact ht1 (by assumption) ez | exact absurd h103 h74 | exact absurd h74 h103
        · skip
          refine GG.iconst (v := 1) e_X11_readsItem_106 rfl ?_
          refine GG.goto (tgt := 111) e_X11_readsItem_107 rfl ?_
          refine GG.zret e_X11_readsItem_111 rfl rfl rfl ?_
          first | exact hnoQ (by assumption) | exact hf (by assumption) ez | exact ht1 (by assumption) ez | exact absurd h103 h74 | exact absurd h74 h103
      · skip
        refine GG.aload_n e_X11_readsItem_77 (i := 0) rfl 1 rfl ?_
        refine GG.getR (b := 64) e_X11_readsItem_78 fl_X11_7 (sf_X11_0 i_X11_63) ?_
        refine GG.bipush (v := 7) e_X11_readsItem_81 rfl ?_
        refine GG.ialoadE (k := 7) e_X11_readsItem_83 (sa_X11_0 i_X11_63) (rfl) (by omega) (Nat.le_of_ble_eq_true rfl) ?_
        refine GG.iconst (v := 1) e_X11_readsItem_84 rfl ?_
        refine GG.iload_n e_X11_readsItem_85 (i := 2) rfl 0 rfl ?_
        refine GG.ishl e_X11_readsItem_86 ?_
        refine GG.iconst (v := -1) e_X11_readsItem_87 rfl ?_
        refine GG.ixor e_X11_readsItem_88 ?_
        refine GG.iand e_X11_readsItem_89 ?_
        refine GG.goto (tgt := 100) e_X11_readsItem_90 rfl ?_
        refine GG.iastoreE (k := 7) e_X11_readsItem_100 (sa_X11_0 i_X11_63) (rfl) (by omega) (Nat.le_of_ble_eq_true rfl) ?_
        try rw [mwr_self]
        refine GG.iload_n e_X11_readsItem_101 (i := 2) rfl 0 rfl ?_
        refine GG.iconst (v := -1) e_X11_readsItem_102 rfl ?_
        refine GG.icmp_eq (tgt := 110) e_X11_readsItem_103 rfl (fun h103 => ?_) (fun h103 => ?_)
        · skip
          refine GG.iconst (v := 0) e_X11_readsItem_110 rfl ?_
          refine GG.zret e_X11_readsItem_111 rfl rfl rfl ?_
          first | exact hnoQ (by assumption) | exact hf (by assumption) ez | exact ht1 (by assumption) ez | exact absurd h103 h74 | exact absurd h74 h103
        · skip
          refine GG.iconst (v := 1) e_X11_readsItem_106 rfl ?_
          refine GG.goto (tgt := 111) e_X11_readsItem_107 rfl ?_
          refine GG.zret e_X11_readsItem_111 rfl rfl rfl ?_
          first | exact hnoQ (by assumption) | exact hf (by assumption) ez | exact ht1 (by assumption) ez | exact absurd h103 h74 | exact absurd h74 h103
  · rw [show (nI 5 - 1 : Int32) = 4 from by decide]
    refine SPC.of (by decide +kernel) (Nat.le_of_ble_eq_true rfl) (ls := [(0, .ref (63)), (1, .int (4))]) rfl ?_
    refine GG.iload_n e_X11_readsItem_0 (i := 1) rfl 1 rfl ?_
    refine GG.tableOut (tgt := 112) e_X11_readsItem_1 (by decide) rfl ?_
    refine GG.aload_n e_X11_readsItem_112 (i := 0) rfl 0 rfl ?_
    refine GG.iconst (v := 1) e_X11_readsItem_113 rfl ?_
    refine GG.bipush (v := 99) e_X11_readsItem_114 rfl ?_
    refine GG.callV (d' := 3) (a := 63) (as := [.int _, .int _]) e_X11_readsItem_116 ml_X11_94 mf_X11_number mv_X11_number (rc_X11 i_X11_63) rfl (by decide) (Nat.le_of_ble_eq_true rfl) rfl ?_
    refine s_X11_number ht (fun ξ g1 g2 g3 => ?_)
    have hI := h.rt g1
    generalize hv : (if tNk b L p 1 99 = true then tVal b L p else -1) = v
    have hnoQ : v = -1 → Q (some (.int 0)) ξ := fun e => hno ξ _ (by omega) (by omega) (tRd_no1 (w := 5) rfl (num_no (by decide) hv e)) hI g3
    have hf : ¬ v = -1 → z = false → Q (some (.int 1)) ξ := fun e ez => by
      obtain ⟨en, hv2⟩ := num_ok hv e
      exact hok ξ _ (by omega) (by omega) (tRd_ok1 (w := 5) rfl en) (by subst ez; exact hI.f5) g2
    have hm : ¬ v = -1 → ∃ m, m ≤ 99 ∧ v = nI m := fun e => by
      obtain ⟨en, hv2⟩ := num_ok hv e
      have r := tNk_r en
      rw [hv2] at r
      exact nI_of2 (M := 99) (n := 99) (by decide) (by have := r.1; grind) r.2
    have ht1 : ∀ m x y ξ2, ¬ v = -1 → z = true → m ≤ 99 → v = nI m → (x, y) = mPass (vSnd S.1 S.2.2.2.2.1 S.2.2.1 S.2.2.2.1 S.2.1) 9999 m (S.2.2.2.2.2.2, S.2.2.2.2.2.1) → gL9 (mwr (mwr ξ 64 8 x) 64 9 y) ξ2 → Q (some (.int 1)) ξ2 := fun m x y ξ2 e ez hm hvm hxy g => by
      obtain ⟨en, hv2⟩ := num_ok hv e
      refine hok _ _ (by omega) (by omega) (tRd_ok1 (w := 5) rfl en) ?_ (g2.of (fun c j h1 h2 => by rw [g.1 c j h2, mrd_wr, if_neg (by omega), mrd_wr, if_neg (by omega)]))
      have q := hz1 ez (by omega)
      subst ez
      have hv3 : tV0 b L p = v := hv2
      rw [hv3]
      exact hI.w5 q hvm (by omega) hxy g
    refine GG.istore_n e_X11_readsItem_119 (i := 3) rfl (Nat.le_of_ble_eq_true rfl) (ls' := [(3, .int _), (0, .ref _), (1, .int _)]) rfl ?_
    refine GG.aload_n e_X11_readsItem_120 (i := 0) rfl 1 rfl ?_
    refine GG.getIv (v := bI z) e_X11_readsItem_121 fl_X11_98 (sf_X11_12 i_X11_63) (hI.2.2.2.1) ?_
    refine GG.if_eq (tgt := 138) e_X11_readsItem_124 rfl (fun h124 => ?_) (fun h124 => ?_)
    · skip
      have ez : z = false := (bI_0 _).mp h124
      refine GG.iload_n e_X11_readsItem_138 (i := 3) rfl 0 rfl ?_
      refine GG.iconst (v := -1) e_X11_readsItem_139 rfl ?_
      refine GG.icmp_eq (tgt := 147) e_X11_readsItem_140 rfl (fun h140 => ?_) (fun h140 => ?_)
      · skip
        refine GG.iconst (v := 0) e_X11_readsItem_147 rfl ?_
        refine GG.zret e_X11_readsItem_148 rfl rfl rfl ?_
        first | exact hnoQ (by assumption) | exact hf (by assumption) ez | exact hfin | exact absurd h140 h129 | exact absurd h129 h140
      · skip
        refine GG.iconst (v := 1) e_X11_readsItem_143 rfl ?_
        refine GG.goto (tgt := 148) e_X11_readsItem_144 rfl ?_
        refine GG.zret e_X11_readsItem_148 rfl rfl rfl ?_
        first | exact hnoQ (by assumption) | exact hf (by assumption) ez | exact hfin | exact absurd h140 h129 | exact absurd h129 h140
    · skip
      have ez : z = true := (bI_n0 _).mp h124
      refine GG.iload_n e_X11_readsItem_127 (i := 3) rfl 0 rfl ?_
      refine GG.iconst (v := -1) e_X11_readsItem_128 rfl ?_
      refine GG.icmp_eq (tgt := 138) e_X11_readsItem_129 rfl (fun h129 => ?_) (fun h129 => ?_)
      · skip
        refine GG.iload_n e_X11_readsItem_138 (i := 3) rfl 0 rfl ?_
        refine GG.iconst (v := -1) e_X11_readsItem_139 rfl ?_
        refine GG.icmp_eq (tgt := 147) e_X11_readsItem_140 rfl (fun h140 => ?_) (fun h140 => ?_)
        · skip
          refine GG.iconst (v := 0) e_X11_readsItem_147 rfl ?_
          refine GG.zret e_X11_readsItem_148 rfl rfl rfl ?_
          first | exact hnoQ (by assumption) | exact hf (by assumption) ez | exact hfin | exact absurd h140 h129 | exact absurd h129 h140
        · skip
          refine GG.iconst (v := 1) e_X11_readsItem_143 rfl ?_
          refine GG.goto (tgt := 148) e_X11_readsItem_144 rfl ?_
          refine GG.zret e_X11_readsItem_148 rfl rfl rfl ?_
          first | exact hnoQ (by assumption) | exact hf (by assumption) ez | exact hfin | exact absurd h140 h129 | exact absurd h129 h140
      · skip
        obtain ⟨m, hm9, hvm⟩ := hm h129
        have rr := hI.2.2.2.2.2.2 ez (hz1 ez (by omega))
        obtain ⟨V, P, A, wd, th, t, n⟩ := S
        obtain ⟨hMR, r1, r2, r3, r4, hV, -⟩ := rr
        have h129' := h129
        subst hvm
        refine GG.aload_n e_X11_readsItem_132 (i := 0) rfl 1 rfl ?_
        refine GG.iconst (v := 0) e_X11_readsItem_133 rfl ?_
        refine GG.iload_n e_X11_readsItem_134 (i := 3) rfl 0 rfl ?_
        refine GG.callV (d' := 5) (a := 63) (as := [.int _, .int _]) e_X11_readsItem_135 ml_X11_118 mf_X11_goBy mv_X11_goBy (rc_X11 i_X11_63) rfl (by decide) (Nat.le_of_ble_eq_true rfl) rfl ?_
        refine s_X11_goBy (B := 0) (snd := vSnd V th A wd P) (ok := fun t => decide (t < 9999)) hMR (Or.inl ⟨rfl, fun _ => rfl⟩) (by omega) (fun c => ?_) (fun ξ2 hξ => ?_)
        · rw [← vSnd_c hV]
          show vSnd (rV ξ 0) th A wd P c = vSnd (rV ξ 0) (mrd ξ 64 7) A (mrd ξ 64 10) P c
          rw [r1, r2]
        rw [mPg_pass (last := 9999) (fun _ => rfl), show mrd ξ 64 (0 + 8) = n from r4, show mrd ξ 64 (0 + 9) = t from r3] at hξ
        have hfin := ht1 m _ _ ξ2 h129 ez hm9 rfl rfl hξ
        refine GG.iload_n e_X11_readsItem_138 (i := 3) rfl 0 rfl ?_
        refine GG.iconst (v := -1) e_X11_readsItem_139 rfl ?_
        refine GG.icmp_eq (tgt := 147) e_X11_readsItem_140 rfl (fun h140 => ?_) (fun h140 => ?_)
        · skip
          refine GG.iconst (v := 0) e_X11_readsItem_147 rfl ?_
          refine GG.zret e_X11_readsItem_148 rfl rfl rfl ?_
          first | exact hnoQ (by assumption) | exact hf (by assumption) ez | exact hfin | exact absurd h140 h129 | exact absurd h129 h140
        · skip
          refine GG.iconst (v := 1) e_X11_readsItem_143 rfl ?_
          refine GG.goto (tgt := 148) e_X11_readsItem_144 rfl ?_
          refine GG.zret e_X11_readsItem_148 rfl rfl rfl ?_
          first | exact hnoQ (by assumption) | exact hf (by assumption) ez | exact hfin | exact absurd h140 h129 | exact absurd h129 h140
end S50
