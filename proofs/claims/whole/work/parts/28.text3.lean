/-! TEXT: items -/
def tMs (w : Nat) (first : Bool) (P A : Nat) : Bool := !decide (w = 0) && (first == decide (w = 1)) && (!decide (w = 2) || decide (P < 7)) && (!decide (w = 3) || decide (A < 4))
abbrev aL : Type := (Nat → Nat → Int32) × Nat × Nat × Int32 × Int32 × Int32 × Int32
def aV (V : Nat → Nat → Int32) (f k : Nat) (x : Int32) : Nat → Nat → Int32 := fun g j => if g = f ∧ j = k then x else V g j
/-- an item is carried out: the lane's width; one comes; an aunt; away; counts go by -/
def aStep (w : Nat) (v0 v1 v2 : Int32) (S : aL) : aL := match S with
  | (V, P, A, wd, th, t, n) =>
    if w = 1 then (V, P, A, v0, th, t, n)
    else if w = 2 then (aV (aV (aV V 0 P v0) 1 P v1) 2 P v2, P + 1, A, wd, th, t, n)
    else if w = 3 then (aV (aV V 3 A v0) 4 A v1, P, A + 1, wd, th ||| ((1 : Int32) <<< (nI A &&& 31)), t, n)
    else if w = 4 then (V, P, A, wd, th &&& (((1 : Int32) <<< (v0 &&& 31)) ^^^ (-1)), t, n)
    else (V, P, A, wd, th, (mPass (vSnd V th A wd P) 9999 v0.toNatClampNeg (n, t)).2, (mPass (vSnd V th A wd P) 9999 v0.toNatClampNeg (n, t)).1)
/-- the trial's lane is as told -/
def AR (ν : gM) (S : aL) : Prop := match S with
  | (V, P, A, wd, th, t, n) => LC ν 51 P A ∧ mrd ν 51 0 = wd ∧ mrd ν 51 8 = th ∧ mrd ν 51 9 = t ∧ mrd ν 51 10 = n ∧ VE (cV ν 51) V P A
def aS0 : aL := (fun _ _ => 0, 0, 0, 12, 0, 0, 0)
/-- nothing but the trial's lane is changed -/
def gTl (μ ν : gM) : Prop := (∀ c j, ¬ (51 ≤ c ∧ c ≤ 56) → mrd ν c j = mrd μ c j) ∧ ∀ c j, mrL ν c j = mrL μ c j
section S28
variable {μ ν : gM} {Q : Option Value → gM → Prop} {L p P A w : Nat} {b : Nat → Int32} {first : Bool}
theorem s_X7_mayStand (hL : LC μ 51 P A) (hw : w ≤ 5) (hQ : Q (some (.int (bI (tMs w first P A)))) μ) : SPC 0 MX7_mayStand [.int (nI w), .ref 51, .int (bI first)] μ Q := by
  obtain ⟨h1p, h2p, h3p, h4p⟩ := hL
  have j19 : ∀ z, z = bI (decide (w = 1)) → ¬ w = 0 → GG 0 MX7_mayStand 19 [(0, .int (nI w)), (1, .ref 51), (2, .int (bI first))] [.int z, .int (bI first)] μ Q := by
    intro z hz hw0
    subst hz
    refine GG.icmp_eq (tgt := 24) e_X7_mayStand_19 rfl (fun h19 => ?_) (fun h19 => ?_)
    · skip
      have e : (first == decide (w = 1)) = true := by revert h19; cases first <;> cases decide (w = 1) <;> decide
      refine GG.iload_n e_X7_mayStand_24 (i := 0) rfl 0 rfl ?_
      refine GG.iconst (v := 2) e_X7_mayStand_25 rfl ?_
      refine GG.icmp_ne (tgt := 44) e_X7_mayStand_26 rfl (fun h26 => ?_) (fun h26 => ?_)
      · skip
        have e2 : ¬ w = 2 := fun q => h26 (by rw [q]; rfl)
        refine GG.iload_n e_X7_mayStand_44 (i := 0) rfl 0 rfl ?_
        refine GG.iconst (v := 3) e_X7_mayStand_45 rfl ?_
        refine GG.icmp_ne (tgt := 57) e_X7_mayStand_46 rfl (fun h46 => ?_) (fun h46 => ?_)
        · skip
          have e4 : ¬ w = 3 := fun q => h46 (by rw [q]; rfl)
          refine GG.iconst (v := 1) e_X7_mayStand_57 rfl ?_
          refine GG.goto (tgt := 62) e_X7_mayStand_58 rfl ?_
          refine GG.zret e_X7_mayStand_62 rfl rfl rfl ?_
          exact qI hQ (by rw [tMs, e]; simp [*]; first | done | rfl)
        · skip
          have e4 : w = 3 := (nI_eq (b := 3) (by omega) (by omega)).mp h46
          refine GG.aload_n e_X7_mayStand_49 (i := 1) rfl 1 rfl ?_
          refine GG.getIv (v := nI A) e_X7_mayStand_50 fl_X7_67 (sf_X4_5 i_X4_51) (h3p) ?_
          refine GG.iconst (v := 4) e_X7_mayStand_53 rfl ?_
          refine GG.icmp_ge (tgt := 61) e_X7_mayStand_54 rfl (fun h54 => ?_) (fun h54 => ?_)
          · skip
            have e5 : ¬ A < 4 := by have := nle (a := 4) h54 (by omega) (by omega); omega
            refine GG.iconst (v := 0) e_X7_mayStand_61 rfl ?_
            refine GG.zret e_X7_mayStand_62 rfl rfl rfl ?_
            exact qI hQ (by rw [tMs, e]; simp [*]; first | done | rfl)
          · skip
            have e5 : A < 4 := nnle (a := 4) h54 (by omega) (by omega)
            refine GG.iconst (v := 1) e_X7_mayStand_57 rfl ?_
            refine GG.goto (tgt := 62) e_X7_mayStand_58 rfl ?_
            refine GG.zret e_X7_mayStand_62 rfl rfl rfl ?_
            exact qI hQ (by rw [tMs, e]; simp [*]; first | done | rfl)
      · skip
        have e2 : w = 2 := (nI_eq (b := 2) (by omega) (by omega)).mp h26
        refine GG.aload_n e_X7_mayStand_29 (i := 1) rfl 1 rfl ?_
        refine GG.getIv (v := nI P) e_X7_mayStand_30 fl_X7_64 (sf_X4_1 i_X4_51) (h1p) ?_
        refine GG.bipush (v := 7) e_X7_mayStand_33 rfl ?_
        refine GG.icmp_ge (tgt := 42) e_X7_mayStand_35 rfl (fun h35 => ?_) (fun h35 => ?_)
        · skip
          have e3 : ¬ P < 7 := by have := nle (a := 7) h35 (by omega) (by omega); omega
          refine GG.iconst (v := 0) e_X7_mayStand_42 rfl ?_
          refine GG.zret e_X7_mayStand_43 rfl rfl rfl ?_
          exact qI hQ (by rw [tMs, e]; simp [*]; first | done | rfl)
        · skip
          have e3 : P < 7 := nnle (a := 7) h35 (by omega) (by omega)
          refine GG.iconst (v := 1) e_X7_mayStand_38 rfl ?_
          refine GG.goto (tgt := 43) e_X7_mayStand_39 rfl ?_
          refine GG.zret e_X7_mayStand_43 rfl rfl rfl ?_
          exact qI hQ (by rw [tMs, e]; simp [*]; first | done | rfl)
    · skip
      have e : (first == decide (w = 1)) = false := by revert h19; cases first <;> cases decide (w = 1) <;> decide
      refine GG.iconst (v := 0) e_X7_mayStand_22 rfl ?_
      refine GG.zret e_X7_mayStand_23 rfl rfl rfl ?_
      exact qI hQ (by rw [tMs, e]; simp [*]; first | done | rfl)
  refine SPC.of (by decide +kernel) (Nat.le_of_ble_eq_true rfl) (ls := [(0, .int (nI w)), (1, .ref (51)), (2, .int (bI first))]) rfl ?_
  refine GG.aload_n e_X7_mayStand_0 (i := 1) rfl 1 rfl ?_
  refine GG.ifnull e_X7_mayStand_1 ?_
  refine GG.iload_n e_X7_mayStand_4 (i := 0) rfl 0 rfl ?_
  refine GG.if_eq (tgt := 22) e_X7_mayStand_5 rfl (fun h5 => ?_) (fun h5 => ?_)
  · skip
    have e : w = 0 := (nI_eq (b := 0) (by omega) (by omega)).mp h5
    refine GG.iconst (v := 0) e_X7_mayStand_22 rfl ?_
    refine GG.zret e_X7_mayStand_23 rfl rfl rfl ?_
    exact qI hQ (by rw [tMs, e]; rfl)
  · skip
    have e : ¬ w = 0 := fun q => h5 (by rw [q]; rfl)
    refine GG.iload_n e_X7_mayStand_8 (i := 2) rfl 2 rfl ?_
    refine GG.iload_n e_X7_mayStand_9 (i := 0) rfl 0 rfl ?_
    refine GG.iconst (v := 1) e_X7_mayStand_10 rfl ?_
    refine GG.icmp_ne (tgt := 18) e_X7_mayStand_11 rfl (fun h11 => ?_) (fun h11 => ?_)
    · skip
      refine GG.iconst (v := 0) e_X7_mayStand_18 rfl ?_
      first | exact j19 _ (by rw [decide_eq_true ((nI_eq (b := 1) (by omega) (by omega)).mp h11)]; rfl) e | exact j19 _ (by rw [decide_eq_false (fun q => h11 (by rw [q]; rfl))]; rfl) e
    · skip
      refine GG.iconst (v := 1) e_X7_mayStand_14 rfl ?_
      refine GG.goto (tgt := 19) e_X7_mayStand_15 rfl ?_
      first | exact j19 _ (by rw [decide_eq_true ((nI_eq (b := 1) (by omega) (by omega)).mp h11)]; rfl) e | exact j19 _ (by rw [decide_eq_false (fun q => h11 (by rw [q]; rfl))]; rfl) e
theorem s_X7_readNumbers_1 (h : TX μ L p) (hb : mrd μ 47 = b) (hL : LC μ 51 P A) (hok : ∀ ν q, tRd b L (tLo 1) (tHi A 1) 1 0 p = .inl q → gTy μ ν 0 → TX ν L q → mrd ν 48 0 = tV0 b L p → Q (some (.int 1)) ν) (hno : ∀ ν f, tRd b L (tLo 1) (tHi A 1) 1 0 p = .inr f → gTy μ ν 0 → mrd ν 46 3 = nI f → Q (some (.int 0)) ν) : SPC 3 MX7_readNumbers [.ref 46, .int (nI 1), .ref 51] μ Q := by
  have t30 := (T3_b (b := b) h.2.2.2).2.1
  have t31 := (T3_b (b := b) t30).2.1
  have t32 := (T3_b (b := b) t31).2.1
  refine SPC.of (by decide +kernel) (Nat.le_of_ble_eq_true rfl) (ls := [(0, .ref (46)), (1, .int (nI 1)), (2, .ref (51))]) rfl ?_
  refine GG.iload_n e_X7_readNumbers_0 (i := 1) rfl 1 rfl ?_
  refine GG.tableIn (off := 35) (tgt := 36) e_X7_readNumbers_1 (by decide) (by decide) (by decide) rfl ?_
  refine GG.aload_n e_X7_readNumbers_36 (i := 0) rfl 0 rfl ?_
  refine GG.iconst (v := 0) e_X7_readNumbers_37 rfl ?_
  refine GG.iconst (v := 4) e_X7_readNumbers_38 rfl ?_
  refine GG.bipush (v := 30) e_X7_readNumbers_39 rfl ?_
  refine GG.callV (d' := 2) (a := 46) (as := [.int _, .int _, .int _]) e_X7_readNumbers_41 ml_X7_70 mf_X7_takeNumber mv_X7_takeNumber (rc_X7 i_X7_46) rfl (by decide) (Nat.le_of_ble_eq_true rfl) rfl ?_
  refine s_X7_takeNumber (b := b) (L := L) (p := p) (k := 0) h hb (by omega) (fun ν0 g0 l0 s0 e0 v0 => ?_)
  refine GG.zret e_X7_readNumbers_44 rfl (gZ_n (bI_z _)) rfl ?_
  by_cases z0 : tNk b L p 4 30 = true
  · rw [z0]; exact hok _ (T3 b L p) (by simp only [tRd, tLo, tHi]; simp [z0]) g0 ⟨l0, h.2.1, e0, t30⟩ ((v0 z0).1)
  · rw [Bool.not_eq_true] at z0; rw [z0]; exact hno _ (T1 b L p) (by simp only [tRd, tLo, tHi]; simp [z0]) g0 s0
theorem s_X7_readNumbers_2 (h : TX μ L p) (hb : mrd μ 47 = b) (hL : LC μ 51 P A) (hok : ∀ ν q, tRd b L (tLo 2) (tHi A 2) 3 0 p = .inl q → gTy μ ν 0 → TX ν L q → mrd ν 48 0 = tV0 b L p → mrd ν 48 1 = tV1 b L p → mrd ν 48 2 = tV2 b L p → Q (some (.int 1)) ν) (hno : ∀ ν f, tRd b L (tLo 2) (tHi A 2) 3 0 p = .inr f → gTy μ ν 0 → mrd ν 46 3 = nI f → Q (some (.int 0)) ν) : SPC 3 MX7_readNumbers [.ref 46, .int (nI 2), .ref 51] μ Q := by
  have t30 := (T3_b (b := b) h.2.2.2).2.1
  have t31 := (T3_b (b := b) t30).2.1
  have t32 := (T3_b (b := b) t31).2.1
  refine SPC.of (by decide +kernel) (Nat.le_of_ble_eq_true rfl) (ls := [(0, .ref (46)), (1, .int (nI 2)), (2, .ref (51))]) rfl ?_
  refine GG.iload_n e_X7_readNumbers_0 (i := 1) rfl 1 rfl ?_
  refine GG.tableIn (off := 44) (tgt := 45) e_X7_readNumbers_1 (by decide) (by decide) (by decide) rfl ?_
  refine GG.aload_n e_X7_readNumbers_45 (i := 0) rfl 0 rfl ?_
  refine GG.iconst (v := 0) e_X7_readNumbers_46 rfl ?_
  refine GG.iconst (v := 0) e_X7_readNumbers_47 rfl ?_
  refine GG.iconst (v := 5) e_X7_readNumbers_48 rfl ?_
  refine GG.callV (d' := 2) (a := 46) (as := [.int _, .int _, .int _]) e_X7_readNumbers_49 ml_X7_70 mf_X7_takeNumber mv_X7_takeNumber (rc_X7 i_X7_46) rfl (by decide) (Nat.le_of_ble_eq_true rfl) rfl ?_
  refine s_X7_takeNumber (b := b) (L := L) (p := p) (k := 0) h hb (by omega) (fun ν0 g0 l0 s0 e0 v0 => ?_)
  refine GG.if_eq (tgt := 80) e_X7_readNumbers_52 rfl (fun h52 => ?_) (fun h52 => ?_)
  · skip
    have z0 := (bI_0 _).mp h52
    refine GG.iconst (v := 0) e_X7_readNumbers_80 rfl ?_
    refine GG.zret e_X7_readNumbers_81 rfl rfl rfl ?_
    exact hno _ (T1 b L p) (by simp only [tRd, tLo, tHi]; simp [z0]) g0 s0
  · skip
    have z0 := Bool.not_eq_false _ |>.mp (fun q => h52 ((bI_0 _).mpr q))
    refine GG.aload_n e_X7_readNumbers_55 (i := 0) rfl 0 rfl ?_
    refine GG.iconst (v := 1) e_X7_readNumbers_56 rfl ?_
    refine GG.iconst (v := 0) e_X7_readNumbers_57 rfl ?_
    refine GG.iconst (v := 1) e_X7_readNumbers_58 rfl ?_
    refine GG.callV (d' := 2) (a := 46) (as := [.int _, .int _, .int _]) e_X7_readNumbers_59 ml_X7_70 mf_X7_takeNumber mv_X7_takeNumber (rc_X7 i_X7_46) rfl (by decide) (Nat.le_of_ble_eq_true rfl) rfl ?_
    refine s_X7_takeNumber (b := b) (L := L) (p := (T3 b L p)) (k := 1) ⟨l0, h.2.1, e0, t30⟩ (g0.b.trans hb) (by omega) (fun ν1 g1 l1 s1 e1 v1 => ?_)
    refine GG.if_eq (tgt := 80) e_X7_readNumbers_62 rfl (fun h62 => ?_) (fun h62 => ?_)
    · skip
      have z1 := (bI_0 _).mp h62
      refine GG.iconst (v := 0) e_X7_readNumbers_80 rfl ?_
      refine GG.zret e_X7_readNumbers_81 rfl rfl rfl ?_
      exact hno _ (T1 b L (T3 b L p)) (by simp only [tRd, tLo, tHi]; simp [z0, z1]) (g0.tr g1 (by omega)) s1
    · skip
      have z1 := Bool.not_eq_false _ |>.mp (fun q => h62 ((bI_0 _).mpr q))
      refine GG.aload_n e_X7_readNumbers_65 (i := 0) rfl 0 rfl ?_
      refine GG.iconst (v := 2) e_X7_readNumbers_66 rfl ?_
      refine GG.iconst (v := 0) e_X7_readNumbers_67 rfl ?_
      refine GG.bipush (v := 9) e_X7_readNumbers_68 rfl ?_
      refine GG.callV (d' := 2) (a := 46) (as := [.int _, .int _, .int _]) e_X7_readNumbers_70 ml_X7_70 mf_X7_takeNumber mv_X7_takeNumber (rc_X7 i_X7_46) rfl (by decide) (Nat.le_of_ble_eq_true rfl) rfl ?_
      refine s_X7_takeNumber (b := b) (L := L) (p := (T3 b L (T3 b L p))) (k := 2) ⟨l1, h.2.1, e1, t31⟩ ((g0.tr g1 (by omega)).b.trans hb) (by omega) (fun ν2 g2 l2 s2 e2 v2 => ?_)
      refine GG.if_eq (tgt := 80) e_X7_readNumbers_73 rfl (fun h73 => ?_) (fun h73 => ?_)
      · skip
        have z2 := (bI_0 _).mp h73
        refine GG.iconst (v := 0) e_X7_readNumbers_80 rfl ?_
        refine GG.zret e_X7_readNumbers_81 rfl rfl rfl ?_
        exact hno _ (T1 b L (T3 b L (T3 b L p))) (by simp only [tRd, tLo, tHi]; simp [z0, z1, z2]) ((g0.tr g1 (by omega)).tr g2 (by omega)) s2
      · skip
        have z2 := Bool.not_eq_false _ |>.mp (fun q => h73 ((bI_0 _).mpr q))
        refine GG.iconst (v := 1) e_X7_readNumbers_76 rfl ?_
        refine GG.goto (tgt := 81) e_X7_readNumbers_77 rfl ?_
        refine GG.zret e_X7_readNumbers_81 rfl rfl rfl ?_
        exact hok _ (T3 b L (T3 b L (T3 b L p))) (by simp only [tRd, tLo, tHi]; simp [z0, z1, z2]) ((g0.tr g1 (by omega)).tr g2 (by omega)) ⟨l2, h.2.1, e2, t32⟩ ((((v2 z2).2 0 (by omega)).trans (((v1 z1).2 0 (by omega)).trans (v0 z0).1))) ((((v2 z2).2 1 (by omega)).trans (v1 z1).1)) ((v2 z2).1)
theorem s_X7_readNumbers_3 (h : TX μ L p) (hb : mrd μ 47 = b) (hL : LC μ 51 P A) (hok : ∀ ν q, tRd b L (tLo 3) (tHi A 3) 2 0 p = .inl q → gTy μ ν 0 → TX ν L q → mrd ν 48 0 = tV0 b L p → mrd ν 48 1 = tV1 b L p → Q (some (.int 1)) ν) (hno : ∀ ν f, tRd b L (tLo 3) (tHi A 3) 2 0 p = .inr f → gTy μ ν 0 → mrd ν 46 3 = nI f → Q (some (.int 0)) ν) : SPC 3 MX7_readNumbers [.ref 46, .int (nI 3), .ref 51] μ Q := by
  have t30 := (T3_b (b := b) h.2.2.2).2.1
  have t31 := (T3_b (b := b) t30).2.1
  have t32 := (T3_b (b := b) t31).2.1
  refine SPC.of (by decide +kernel) (Nat.le_of_ble_eq_true rfl) (ls := [(0, .ref (46)), (1, .int (nI 3)), (2, .ref (51))]) rfl ?_
  refine GG.iload_n e_X7_readNumbers_0 (i := 1) rfl 1 rfl ?_
  refine GG.tableIn (off := 81) (tgt := 82) e_X7_readNumbers_1 (by decide) (by decide) (by decide) rfl ?_
  refine GG.aload_n e_X7_readNumbers_82 (i := 0) rfl 0 rfl ?_
  refine GG.iconst (v := 0) e_X7_readNumbers_83 rfl ?_
  refine GG.iconst (v := 0) e_X7_readNumbers_84 rfl ?_
  refine GG.iconst (v := 5) e_X7_readNumbers_85 rfl ?_
  refine GG.callV (d' := 2) (a := 46) (as := [.int _, .int _, .int _]) e_X7_readNumbers_86 ml_X7_70 mf_X7_takeNumber mv_X7_takeNumber (rc_X7 i_X7_46) rfl (by decide) (Nat.le_of_ble_eq_true rfl) rfl ?_
  refine s_X7_takeNumber (b := b) (L := L) (p := p) (k := 0) h hb (by omega) (fun ν0 g0 l0 s0 e0 v0 => ?_)
  refine GG.if_eq (tgt := 106) e_X7_readNumbers_89 rfl (fun h89 => ?_) (fun h89 => ?_)
  · skip
    have z0 := (bI_0 _).mp h89
    refine GG.iconst (v := 0) e_X7_readNumbers_106 rfl ?_
    refine GG.zret e_X7_readNumbers_107 rfl rfl rfl ?_
    exact hno _ (T1 b L p) (by simp only [tRd, tLo, tHi]; simp [z0]) g0 s0
  · skip
    have z0 := Bool.not_eq_false _ |>.mp (fun q => h89 ((bI_0 _).mpr q))
    refine GG.aload_n e_X7_readNumbers_92 (i := 0) rfl 0 rfl ?_
    refine GG.iconst (v := 1) e_X7_readNumbers_93 rfl ?_
    refine GG.iconst (v := 0) e_X7_readNumbers_94 rfl ?_
    refine GG.iconst (v := 1) e_X7_readNumbers_95 rfl ?_
    refine GG.callV (d' := 2) (a := 46) (as := [.int _, .int _, .int _]) e_X7_readNumbers_96 ml_X7_70 mf_X7_takeNumber mv_X7_takeNumber (rc_X7 i_X7_46) rfl (by decide) (Nat.le_of_ble_eq_true rfl) rfl ?_
    refine s_X7_takeNumber (b := b) (L := L) (p := (T3 b L p)) (k := 1) ⟨l0, h.2.1, e0, t30⟩ (g0.b.trans hb) (by omega) (fun ν1 g1 l1 s1 e1 v1 => ?_)
    refine GG.if_eq (tgt := 106) e_X7_readNumbers_99 rfl (fun h99 => ?_) (fun h99 => ?_)
    · skip
      have z1 := (bI_0 _).mp h99
      refine GG.iconst (v := 0) e_X7_readNumbers_106 rfl ?_
      refine GG.zret e_X7_readNumbers_107 rfl rfl rfl ?_
      exact hno _ (T1 b L (T3 b L p)) (by simp only [tRd, tLo, tHi]; simp [z0, z1]) (g0.tr g1 (by omega)) s1
    · skip
      have z1 := Bool.not_eq_false _ |>.mp (fun q => h99 ((bI_0 _).mpr q))
      refine GG.iconst (v := 1) e_X7_readNumbers_102 rfl ?_
      refine GG.goto (tgt := 107) e_X7_readNumbers_103 rfl ?_
      refine GG.zret e_X7_readNumbers_107 rfl rfl rfl ?_
      exact hok _ (T3 b L (T3 b L p)) (by simp only [tRd, tLo, tHi]; simp [z0, z1]) (g0.tr g1 (by omega)) ⟨l1, h.2.1, e1, t31⟩ ((((v1 z1).2 0 (by omega)).trans (v0 z0).1)) ((v1 z1).1)
theorem s_X7_readNumbers_4 (h : TX μ L p) (hb : mrd μ 47 = b) (hL : LC μ 51 P A) (hok : ∀ ν q, tRd b L (tLo 4) (tHi A 4) 1 0 p = .inl q → gTy μ ν 0 → TX ν L q → mrd ν 48 0 = tV0 b L p → Q (some (.int 1)) ν) (hno : ∀ ν f, tRd b L (tLo 4) (tHi A 4) 1 0 p = .inr f → gTy μ ν 0 → mrd ν 46 3 = nI f → Q (some (.int 0)) ν) : SPC 3 MX7_readNumbers [.ref 46, .int (nI 4), .ref 51] μ Q := by
  have t30 := (T3_b (b := b) h.2.2.2).2.1
  have t31 := (T3_b (b := b) t30).2.1
  have t32 := (T3_b (b := b) t31).2.1
  refine SPC.of (by decide +kernel) (Nat.le_of_ble_eq_true rfl) (ls := [(0, .ref (46)), (1, .int (nI 4)), (2, .ref (51))]) rfl ?_
  refine GG.iload_n e_X7_readNumbers_0 (i := 1) rfl 1 rfl ?_
  refine GG.tableIn (off := 107) (tgt := 108) e_X7_readNumbers_1 (by decide) (by decide) (by decide) rfl ?_
  refine GG.aload_n e_X7_readNumbers_108 (i := 2) rfl 2 rfl ?_
  refine GG.ifnull e_X7_readNumbers_109 ?_
  refine GG.aload_n e_X7_readNumbers_112 (i := 0) rfl 0 rfl ?_
  refine GG.iconst (v := 0) e_X7_readNumbers_113 rfl ?_
  refine GG.iconst (v := 0) e_X7_readNumbers_114 rfl ?_
  refine GG.aload_n e_X7_readNumbers_115 (i := 2) rfl 2 rfl ?_
  refine GG.getIv (v := nI A) e_X7_readNumbers_116 fl_X7_67 (sf_X4_5 i_X4_51) (by first | exact hL.2.2.1) ?_
  refine GG.iconst (v := 1) e_X7_readNumbers_119 rfl ?_
  refine GG.isub e_X7_readNumbers_120 ?_
  refine GG.callV (d' := 2) (a := 46) (as := [.int _, .int _, .int _]) e_X7_readNumbers_121 ml_X7_70 mf_X7_takeNumber mv_X7_takeNumber (rc_X7 i_X7_46) rfl (by decide) (Nat.le_of_ble_eq_true rfl) rfl ?_
  refine s_X7_takeNumber (b := b) (L := L) (p := p) (k := 0) h hb (by omega) (fun ν0 g0 l0 s0 e0 v0 => ?_)
  refine GG.if_eq (tgt := 131) e_X7_readNumbers_124 rfl (fun h124 => ?_) (fun h124 => ?_)
  · skip
    have z0 := (bI_0 _).mp h124
    refine GG.iconst (v := 0) e_X7_readNumbers_131 rfl ?_
    refine GG.zret e_X7_readNumbers_132 rfl rfl rfl ?_
    exact hno _ (T1 b L p) (by simp only [tRd, tLo, tHi]; simp [z0]) g0 s0
  · skip
    have z0 := Bool.not_eq_false _ |>.mp (fun q => h124 ((bI_0 _).mpr q))
    refine GG.iconst (v := 1) e_X7_readNumbers_127 rfl ?_
    refine GG.goto (tgt := 132) e_X7_readNumbers_128 rfl ?_
    refine GG.zret e_X7_readNumbers_132 rfl rfl rfl ?_
    exact hok _ (T3 b L p) (by simp only [tRd, tLo, tHi]; simp [z0]) g0 ⟨l0, h.2.1, e0, t30⟩ ((v0 z0).1)
theorem s_X7_readNumbers_5 (h : TX μ L p) (hb : mrd μ 47 = b) (hL : LC μ 51 P A) (hok : ∀ ν q, tRd b L (tLo 5) (tHi A 5) 1 0 p = .inl q → gTy μ ν 0 → TX ν L q → mrd ν 48 0 = tV0 b L p → Q (some (.int 1)) ν) (hno : ∀ ν f, tRd b L (tLo 5) (tHi A 5) 1 0 p = .inr f → gTy μ ν 0 → mrd ν 46 3 = nI f → Q (some (.int 0)) ν) : SPC 3 MX7_readNumbers [.ref 46, .int (nI 5), .ref 51] μ Q := by
  have t30 := (T3_b (b := b) h.2.2.2).2.1
  have t31 := (T3_b (b := b) t30).2.1
  have t32 := (T3_b (b := b) t31).2.1
  refine SPC.of (by decide +kernel) (Nat.le_of_ble_eq_true rfl) (ls := [(0, .ref (46)), (1, .int (nI 5)), (2, .ref (51))]) rfl ?_
  refine GG.iload_n e_X7_readNumbers_0 (i := 1) rfl 1 rfl ?_
  refine GG.tableIn (off := 132) (tgt := 133) e_X7_readNumbers_1 (by decide) (by decide) (by decide) rfl ?_
  refine GG.aload_n e_X7_readNumbers_133 (i := 0) rfl 0 rfl ?_
  refine GG.iconst (v := 0) e_X7_readNumbers_134 rfl ?_
  refine GG.iconst (v := 1) e_X7_readNumbers_135 rfl ?_
  refine GG.bipush (v := 99) e_X7_readNumbers_136 rfl ?_
  refine GG.callV (d' := 2) (a := 46) (as := [.int _, .int _, .int _]) e_X7_readNumbers_138 ml_X7_70 mf_X7_takeNumber mv_X7_takeNumber (rc_X7 i_X7_46) rfl (by decide) (Nat.le_of_ble_eq_true rfl) rfl ?_
  refine s_X7_takeNumber (b := b) (L := L) (p := p) (k := 0) h hb (by omega) (fun ν0 g0 l0 s0 e0 v0 => ?_)
  refine GG.zret e_X7_readNumbers_141 rfl (gZ_n (bI_z _)) rfl ?_
  by_cases z0 : tNk b L p 1 99 = true
  · rw [z0]; exact hok _ (T3 b L p) (by simp only [tRd, tLo, tHi]; simp [z0]) g0 ⟨l0, h.2.1, e0, t30⟩ ((v0 z0).1)
  · rw [Bool.not_eq_true] at z0; rw [z0]; exact hno _ (T1 b L p) (by simp only [tRd, tLo, tHi]; simp [z0]) g0 s0
end S28
