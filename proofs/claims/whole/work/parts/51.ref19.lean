/-! THE REFERENCE: the text read -/
theorem tRe_lt {b : Nat → Int32} {L i : Nat} : ∀ i' p' S', tRe b L i' p' S' → i < i' → ∃ (p : Nat) (S : aL) (wp : Nat × Nat), tRe b L i p S ∧ ¬ (0 < i ∧ T2 b L p = 0) ∧ tStp b L (decide (i = 0)) S.2.1 S.2.2.1 p = .inl wp := by
  intro i'
  induction i' with
  | zero => intro p' S' h h2; omega
  | succ i' ih =>
    rintro p' S' ⟨p, S, w, h1, h2, h3, h4⟩ hl
    by_cases e : i = i'
    · subst e
      exact ⟨p, S, (w, p'), h1, h2, h3⟩
    · exact ih p S h1 (by omega)
theorem tRe_end {b : Nat → Int32} {L i p i' p' : Nat} {S S' : aL} (h : tRe b L i p S) (h0 : 0 < i ∧ T2 b L p = 0) (h' : tRe b L i' p' S') (h0' : 0 < i' ∧ T2 b L p' = 0) : i = i' ∧ p = p' ∧ S = S' := by
  rcases Nat.lt_trichotomy i i' with e | e | e
  · obtain ⟨q, R, wp, a1, a2, a3⟩ := tRe_lt _ _ _ h' e
    obtain ⟨rfl, rfl⟩ := tRe_u _ _ _ _ _ h a1
    exact absurd h0 a2
  · subst e
    obtain ⟨rfl, rfl⟩ := tRe_u _ _ _ _ _ h h'
    exact ⟨rfl, rfl, rfl⟩
  · obtain ⟨q, R, wp, a1, a2, a3⟩ := tRe_lt _ _ _ h e
    obtain ⟨rfl, rfl⟩ := tRe_u _ _ _ _ _ h' a1
    exact absurd h0' a2
theorem tRe_nof {b : Nat → Int32} {L i p i' p' f : Nat} {S S' : aL} (h : tRe b L i p S) (h0 : 0 < i ∧ T2 b L p = 0) (h' : tRe b L i' p' S') (h0' : ¬ (0 < i' ∧ T2 b L p' = 0)) (hs : tStp b L (decide (i' = 0)) S'.2.1 S'.2.2.1 p' = .inr f) : False := by
  rcases Nat.lt_trichotomy i i' with e | e | e
  · obtain ⟨q, R, wp, a1, a2, a3⟩ := tRe_lt _ _ _ h' e
    obtain ⟨rfl, rfl⟩ := tRe_u _ _ _ _ _ h a1
    exact a2 h0
  · subst e
    obtain ⟨rfl, rfl⟩ := tRe_u _ _ _ _ _ h h'
    exact h0' h0
  · obtain ⟨q, R, wp, a1, a2, a3⟩ := tRe_lt _ _ _ h e
    obtain ⟨rfl, rfl⟩ := tRe_u _ _ _ _ _ h' a1
    rw [hs] at a3
    cases a3
theorem tKd_3 (v : Int32) : tKd v = 3 ↔ v = 59 := by
  unfold tKd
  constructor
  · intro h
    split at h
    · cases h
    · split at h
      · cases h
      · split at h
        · assumption
        · cases h
  · rintro rfl
    decide
section S51
variable {μ ν ξ : gM} {Q : Option Value → gM → Prop} {L k p q f i w : Nat} {b : Nat → Int32} {lo hi v v0 v1 v2 : Int32} {z : Bool} {S : aL}
theorem s_X11_readItems (hT : ∀ ν, gRz z μ ν → mrd ν 63 9 = nI 0 → TR ν b L 0)
    (hend : ∀ ν i p S, 0 < i → i ≤ 150 → tRe b L i p S → T2 b L p = 0 → RI z μ ν i S → Q (some (.int (nI i))) ν)
    (hft : ∀ ν i p S f, tRe b L i p S → ¬ (0 < i ∧ T2 b L p = 0) → tStp b L (decide (i = 0)) S.2.1 S.2.2.1 p = .inr f → gRz z μ ν → mrd ν 63 8 = nI f → Q (some (.int (-1))) ν) : SPC 7 MX11_readItems [.ref 63, .int (bI z)] μ Q := by
  have lp : ∀ n i p S ν, 151 - i < n → tRe b L i p S → RI z μ ν i S → TR ν b L (T3 b L p) → mrd ν 63 8 = nI (T1 b L p) → GG 7 MX11_readItems 26 [(2, .int (nI i)), (0, .ref 63), (1, .int (bI z))] [] ν Q := by
    intro n
    induction n with
    | zero => intro i p S ν h; omega
    | succ n ih =>
      intro i p S ν hn hR hI hX h8
      have rb := tRe_b _ _ _ hR
      have hL5 := hX.2.1
      have t1 := T1_b (b := b) rb.2
      have t20 := T2_0 (b := b) rb.2
      have h6 := hX.1
      have j80 : ∀ ξ f, gRz z μ ξ → mrd ξ 63 8 = nI f → ¬ (0 < i ∧ T2 b L p = 0) → tStp b L (decide (i = 0)) S.2.1 S.2.2.1 p = .inr f → GG 7 MX11_readItems 80 [(0, .ref 63)] [] ξ Q := by
        intro ξ f hx hf hne hs
        refine GG.iconst (v := -1) e_X11_readItems_80 rfl ?_
        refine GG.iret e_X11_readItems_81 rfl rfl ?_
        exact hft ξ i p S f hR hne hs hx hf
      have j111 : ∀ ξ f, gRz z μ ξ → mrd ξ 63 8 = nI f → ¬ (0 < i ∧ T2 b L p = 0) → tStp b L (decide (i = 0)) S.2.1 S.2.2.1 p = .inr f → GG 7 MX11_readItems 111 [(0, .ref 63)] [] ξ Q := by
        intro ξ f hx hf hne hs
        refine GG.iconst (v := -1) e_X11_readItems_111 rfl ?_
        refine GG.iret e_X11_readItems_112 rfl rfl ?_
        exact hft ξ i p S f hR hne hs hx hf
      have hwl : tWd b L p ≤ 5 := tWd_le
      have j82 : ∀ ξ q, ¬ (0 < i ∧ T2 b L p = 0) → tMs (tWd b L p) (decide (i = 0)) S.2.1 S.2.2.1 = true → tRd b L (tLo (tWd b L p)) (tHi S.2.2.1 (tWd b L p)) (tCn (tWd b L p)) 0 (T3 b L p) = .inl q → RI z μ ξ (i + 1) (aStep (tWd b L p) (tV0 b L (T3 b L p)) (tV1 b L (T3 b L p)) (tV2 b L (T3 b L p)) S) → TR ξ b L q → GG 7 MX11_readItems 82 [(2, .int (nI i)), (0, .ref 63), (1, .int (bI z))] [] ξ Q := by
        intro ξ q hne hms hrd hI2 hX2
        have qL := hX2.2.2.2.1
        have u1 := T1_b (b := b) qL
        refine GG.aload_n e_X11_readItems_82 (i := 0) rfl 1 rfl ?_
        refine GG.callV (d' := 2) (a := 63) (as := []) e_X11_readItems_83 ml_X11_91 mf_X11_next mv_X11_next (rc_X11 i_X11_63) rfl (by decide) (Nat.le_of_ble_eq_true rfl) rfl ?_
        refine hX2.next (fun ξ2 g1 g2 g3 => ?_)
        have hI3 := hI2.rt g1
        have no : ¬ T2 b L q = 3 → tStp b L (decide (i = 0)) S.2.1 S.2.2.1 p = .inr (T1 b L q) := fun z3 => by rw [tStp, if_pos hms, hrd]; simp only []; rw [if_neg z3]
        have yes : T2 b L q = 3 → tRe b L (i + 1) (T3 b L q) (aStep (tWd b L p) (tV0 b L (T3 b L p)) (tV1 b L (T3 b L p)) (tV2 b L (T3 b L p)) S) := fun z3 => ⟨p, S, tWd b L p, hR, hne, by rw [tStp, if_pos hms, hrd]; simp only []; rw [if_pos z3], rfl⟩
        refine GG.aload_n e_X11_readItems_86 (i := 0) rfl 1 rfl ?_
        refine GG.getIv (v := nI (T1 b L q)) e_X11_readItems_87 fl_X11_78 (sf_X11_8 i_X11_63) (g3) ?_
        refine GG.aload_n e_X11_readItems_90 (i := 0) rfl 1 rfl ?_
        refine GG.getIv (v := nI L) e_X11_readItems_91 fl_X11_71 (sf_X11_6 i_X11_63) (g2.1) ?_
        refine GG.icmp_eq (tgt := 111) e_X11_readItems_94 rfl (fun h94 => ?_) (fun h94 => ?_)
        · skip
          have e : T1 b L q = L := (nI_eq (by omega) (by omega)).mp h94
          have e0 : ¬ T2 b L q = 3 := by rw [(T2_0 (b := b) qL).mpr e]; decide
          refine GG.perm [1] rfl ?_
          exact j111 _ _ hI3.1 g3 hne (no e0)
        · skip
          have e : T1 b L q < L := by have := mt (nI_eq (a := T1 b L q) (b := L) (by omega) (by omega)).mpr h94; omega
          have e2 : T2 b L q = tKd (b (T1 b L q)) := by unfold T2; rw [if_pos e]
          refine GG.aload_n e_X11_readItems_97 (i := 0) rfl 1 rfl ?_
          refine GG.getR (b := 67) e_X11_readItems_98 fl_X11_24 (sf_X11_5 i_X11_63) ?_
          refine GG.aload_n e_X11_readItems_101 (i := 0) rfl 1 rfl ?_
          refine GG.getIv (v := nI (T1 b L q)) e_X11_readItems_102 fl_X11_78 (sf_X11_8 i_X11_63) (g3) ?_
          refine GG.ialoadV (k := T1 b L q) (v := b (T1 b L q)) e_X11_readItems_105 (sa_X11_5 i_X11_63) (rfl) (by omega) (Nat.le_of_ble_eq_true rfl) (by rw [g2.2.2.2.2.1]) ?_
          refine GG.bipush (v := 59) e_X11_readItems_106 rfl ?_
          refine GG.icmp_eq (tgt := 113) e_X11_readItems_108 rfl (fun h108 => ?_) (fun h108 => ?_)
          · skip
            have e3 : T2 b L q = 3 := by rw [e2]; exact (tKd_3 _).mpr h108
            refine GG.iinc e_X11_readItems_113 0 rfl (v := _) (by first | exact nI_s _ | exact nI_d _ | rfl) (Nat.le_of_ble_eq_true rfl) (ls' := [(2, .int _), (0, .ref _), (1, .int _)]) rfl ?_
            refine GG.aload_n e_X11_readItems_116 (i := 0) rfl 1 rfl ?_
            refine GG.callV (d' := 2) (a := 63) (as := []) e_X11_readItems_117 ml_X11_91 mf_X11_next mv_X11_next (rc_X11 i_X11_63) rfl (by decide) (Nat.le_of_ble_eq_true rfl) rfl ?_
            refine g2.next (fun ξ3 k1 k2 k3 => ?_)
            refine GG.goto (tgt := 26) e_X11_readItems_120 rfl ?_
            exact ih (i + 1) _ _ _ (by omega) (yes e3) (hI3.rt k1) k2 k3
          · skip
            have e0 : ¬ T2 b L q = 3 := by rw [e2]; exact fun y => h108 ((tKd_3 _).mp y)
            refine GG.perm [1] rfl ?_
            exact j111 _ _ hI3.1 g3 hne (no e0)
      have j72 : ¬ (0 < i ∧ T2 b L p = 0) → ¬ tWd b L p = 0 → decide (i = 0) = decide (tWd b L p = 1) → GG 7 MX11_readItems 72 [(3, .int (nI (tWd b L p) - 1)), (2, .int (nI i)), (0, .ref 63), (1, .int (bI z))] [] ν Q := by
        intro hne hw0 hfi
        have hms : (tWd b L p = 2 → S.2.1 < 7) → (tWd b L p = 3 → S.2.2.1 < 4) → tMs (tWd b L p) (decide (i = 0)) S.2.1 S.2.2.1 = true := by
          intro a1 a2
          unfold tMs
          rw [decide_eq_false hw0, hfi]
          simp only [Bool.not_false, Bool.true_and, BEq.rfl, Bool.and_eq_true, Bool.or_eq_true, Bool.not_eq_true', decide_eq_false_iff_not, decide_eq_true_eq]
          refine ⟨?_, ?_⟩
          · by_cases e : tWd b L p = 2
            · exact Or.inr (a1 e)
            · exact Or.inl e
          · by_cases e : tWd b L p = 3
            · exact Or.inr (a2 e)
            · exact Or.inl e
        have hz0 : z = true → tWd b L p = 1 → i = 0 ∧ S = aS0 := by
          intro _ e
          rw [decide_eq_true e] at hfi
          have e0 := of_decide_eq_true hfi
          subst e0
          exact ⟨rfl, hR.2⟩
        have hz1 : z = true → ¬ tWd b L p = 1 → 0 < i := by
          intro _ e
          rw [decide_eq_false e] at hfi
          have e0 := of_decide_eq_false hfi
          omega
        refine GG.aload_n e_X11_readItems_72 (i := 0) rfl 2 rfl ?_
        refine GG.iload_n e_X11_readItems_73 (i := 3) rfl 0 rfl ?_
        refine GG.callV (d' := 6) (a := 63) (as := [.int _]) e_X11_readItems_74 ml_X11_125 mf_X11_readsItem mv_X11_readsItem (rc_X11 i_X11_63) rfl (by decide) (Nat.le_of_ble_eq_true rfl) rfl ?_
        refine s_X11_readsItem ⟨by omega, hwl⟩ hI hX hz0 hz1 (fun e => ?_) (fun ξ q a1 a2 e g1 g2 => ?_) (fun ξ f a1 a2 e g1 g2 => ?_)
        · refine GG.if_ne (tgt := 82) e_X11_readItems_77 rfl (fun y => absurd rfl y) (fun _ => ?_)
          refine GG.perm [2] rfl (j80 ν (T1 b L p) hI.1 h8 hne ?_)
          rw [tStp, if_neg]
          intro y
          simp only [tMs, Bool.and_eq_true, Bool.not_eq_true', decide_eq_false_iff_not, Bool.or_eq_true, decide_eq_true_eq] at y
          rcases e with ⟨e1, e2⟩ | ⟨e1, e2⟩
          · have := y.1.2.resolve_left (fun w => w e1)
            omega
          · have := y.2.resolve_left (fun w => w e1)
            omega
        · refine GG.if_ne (tgt := 82) e_X11_readItems_77 rfl (fun _ => ?_) (fun y => absurd y (by decide))
          exact GG.perm [1, 2, 3] rfl (j82 ξ q hne (hms a1 a2) e g1 g2)
        · refine GG.if_ne (tgt := 82) e_X11_readItems_77 rfl (fun y => absurd rfl y) (fun _ => ?_)
          refine GG.perm [2] rfl (j80 ξ f g1.1 g2 hne ?_)
          rw [tStp, if_pos (hms a1 a2), e]
      have j60 : ∀ x, x = bI (decide (tWd b L p = 1)) → ¬ (0 < i ∧ T2 b L p = 0) → ¬ tWd b L p = 0 → GG 7 MX11_readItems 60 [(3, .int (nI (tWd b L p) - 1)), (2, .int (nI i)), (0, .ref 63), (1, .int (bI z))] [.int x] ν Q := by
        intro x hx hne hw0
        have bad : ¬ decide (i = 0) = decide (tWd b L p = 1) → tStp b L (decide (i = 0)) S.2.1 S.2.2.1 p = .inr (T1 b L p) := by
          intro y
          rw [tStp, if_neg]
          intro w
          simp only [tMs, Bool.and_eq_true] at w
          exact y (by simpa using w.1.1.2)
        refine GG.iload_n e_X11_readItems_60 (i := 2) rfl 1 rfl ?_
        refine GG.if_ne (tgt := 68) e_X11_readItems_61 rfl (fun h61 => ?_) (fun h61 => ?_)
        · skip
          have e : decide (i = 0) = false := decide_eq_false (fun y => h61 (by rw [y]; rfl))
          refine GG.iconst (v := 0) e_X11_readItems_68 rfl ?_
          refine GG.icmp_ne (tgt := 80) e_X11_readItems_69 rfl (fun h69 => ?_) (fun h69 => ?_)
          · skip
            refine GG.perm [2] rfl ?_
            refine j80 ν _ hI.1 h8 hne (bad ?_)
            rw [e]
            intro y
            rw [← y] at hx
            exact h69 (by rw [hx]; rfl)
          · skip
            refine j72 hne hw0 ?_
            rw [e]
            cases hd : decide (tWd b L p = 1) with
            | true => first | rfl | (rw [hd] at hx; rw [hx] at h69; exact absurd h69 (by decide))
            | false => first | rfl | (rw [hd] at hx; rw [hx] at h69; exact absurd h69 (by decide))
        · skip
          have e : decide (i = 0) = true := decide_eq_true ((nI_eq (b := 0) (by omega) (by omega)).mp h61)
          refine GG.iconst (v := 1) e_X11_readItems_64 rfl ?_
          refine GG.goto (tgt := 69) e_X11_readItems_65 rfl ?_
          refine GG.icmp_ne (tgt := 80) e_X11_readItems_69 rfl (fun h69 => ?_) (fun h69 => ?_)
          · skip
            refine GG.perm [2] rfl ?_
            refine j80 ν _ hI.1 h8 hne (bad ?_)
            rw [e]
            intro y
            rw [← y] at hx
            exact h69 (by rw [hx]; rfl)
          · skip
            refine j72 hne hw0 ?_
            rw [e]
            cases hd : decide (tWd b L p = 1) with
            | true => first | rfl | (rw [hd] at hx; rw [hx] at h69; exact absurd h69 (by decide))
            | false => first | rfl | (rw [hd] at hx; rw [hx] at h69; exact absurd h69 (by decide))
      have j41 : ¬ (0 < i ∧ T2 b L p = 0) → GG 7 MX11_readItems 41 [(2, .int (nI i)), (0, .ref 63), (1, .int (bI z))] [] ν Q := by
        intro hne
        have w0 : (nI (tWd b L p) - 1 = -1) ↔ tWd b L p = 0 := by
          have hh : ∀ w, w < 6 → ((nI w - 1 = -1) ↔ w = 0) := by decide +kernel
          exact hh _ (by omega)
        have w1 : (nI (tWd b L p) - 1 = 0) ↔ tWd b L p = 1 := by
          have hh : ∀ w, w < 6 → ((nI w - 1 = 0) ↔ w = 1) := by decide +kernel
          exact hh _ (by omega)
        refine GG.aload_n e_X11_readItems_41 (i := 0) rfl 1 rfl ?_
        refine GG.callV (d' := 2) (a := 63) (as := []) e_X11_readItems_42 ml_X11_121 mf_X11_wordHere mv_X11_wordHere (rc_X11 i_X11_63) rfl (by decide) (Nat.le_of_ble_eq_true rfl) rfl ?_
        refine s_X11_wordHere h8 rb.2 hX ?_
        refine GG.istore_n e_X11_readItems_45 (i := 3) rfl (Nat.le_of_ble_eq_true rfl) (ls' := [(3, .int _), (2, .int _), (0, .ref _), (1, .int _)]) rfl ?_
        refine GG.iload_n e_X11_readItems_46 (i := 3) rfl 0 rfl ?_
        refine GG.iconst (v := -1) e_X11_readItems_47 rfl ?_
        refine GG.icmp_eq (tgt := 80) e_X11_readItems_48 rfl (fun h48 => ?_) (fun h48 => ?_)
        · skip
          have e := w0.mp h48
          refine GG.perm [2] rfl ?_
          refine j80 ν _ hI.1 h8 hne ?_
          rw [tStp, if_neg]
          intro y
          rw [e] at y
          cases y
        · skip
          have e : ¬ tWd b L p = 0 := fun y => h48 (w0.mpr y)
          refine GG.iload_n e_X11_readItems_51 (i := 3) rfl 0 rfl ?_
          refine GG.if_ne (tgt := 59) e_X11_readItems_52 rfl (fun h52 => ?_) (fun h52 => ?_)
          · skip
            have e1 : decide (tWd b L p = 1) = false := decide_eq_false (fun y => h52 (w1.mpr y))
            refine GG.iconst (v := 0) e_X11_readItems_59 rfl ?_
            exact j60 _ (by rw [e1]; rfl) hne e
          · skip
            have e1 : decide (tWd b L p = 1) = true := decide_eq_true (w1.mp h52)
            refine GG.iconst (v := 1) e_X11_readItems_55 rfl ?_
            refine GG.goto (tgt := 60) e_X11_readItems_56 rfl ?_
            exact j60 _ (by rw [e1]; rfl) hne e
      refine GG.iload_n e_X11_readItems_26 (i := 2) rfl 0 rfl ?_
      refine GG.if_eq (tgt := 41) e_X11_readItems_27 rfl (fun h27 => ?_) (fun h27 => ?_)
      · skip
        have e : i = 0 := (nI_eq (b := 0) (by omega) (by omega)).mp h27
        have hne : ¬ (0 < i ∧ T2 b L p = 0) := fun y => by omega
        exact j41 hne
      · skip
        have e : 0 < i := Nat.pos_of_ne_zero (fun y => h27 (by rw [y]; rfl))
        refine GG.aload_n e_X11_readItems_30 (i := 0) rfl 1 rfl ?_
        refine GG.getIv (v := nI (T1 b L p)) e_X11_readItems_31 fl_X11_78 (sf_X11_8 i_X11_63) (h8) ?_
        refine GG.aload_n e_X11_readItems_34 (i := 0) rfl 1 rfl ?_
        refine GG.getIv (v := nI L) e_X11_readItems_35 fl_X11_71 (sf_X11_6 i_X11_63) (h6) ?_
        refine GG.icmp_ge (tgt := 123) e_X11_readItems_38 rfl (fun h38 => ?_) (fun h38 => ?_)
        · skip
          have e2 := nle h38 (by omega) (by omega)
          have e3 : T2 b L p = 0 := t20.mpr (by omega)
          refine GG.iload_n e_X11_readItems_123 (i := 2) rfl 0 rfl ?_
          refine GG.iret e_X11_readItems_124 rfl rfl ?_
          exact hend ν i p S e (by omega) hR e3 hI
        · skip
          have e2 := nnle h38 (by omega) (by omega)
          have hne : ¬ (0 < i ∧ T2 b L p = 0) := fun y => by have := t20.mp y.2; omega
          exact j41 hne
  have z0 : gRz z μ (mwr (mwr (mwr (mwr μ 63 12 (bI z)) 63 9 0) 63 10 0) 63 11 0) := ⟨fun c j a _ => by rw [mrd_wr, if_neg (by omega), mrd_wr, if_neg (by omega), mrd_wr, if_neg (by omega), mrd_wr, if_neg (by omega)], fun c j => rfl⟩
  have hX := hT _ z0 (by rw [mrd_wr, if_neg (by omega), mrd_wr, if_neg (by omega), mrd_wr, if_pos ⟨rfl, rfl⟩]; rfl)
  have hI0 : RI z μ (mwr (mwr (mwr (mwr μ 63 12 (bI z)) 63 9 0) 63 10 0) 63 11 0) 0 aS0 := ⟨z0, by rw [mrd_wr, if_neg (by omega), mrd_wr, if_pos ⟨rfl, rfl⟩]; rfl, by rw [mrd_wr, if_pos ⟨rfl, rfl⟩]; rfl, by rw [mrd_wr, if_neg (by omega), mrd_wr, if_neg (by omega), mrd_wr, if_neg (by omega), mrd_wr, if_pos ⟨rfl, rfl⟩], Nat.zero_le _, Nat.zero_le _, fun _ y => absurd y (Nat.lt_irrefl 0)⟩
  refine SPC.of (by decide +kernel) (Nat.le_of_ble_eq_true rfl) (ls := [(0, .ref (63)), (1, .int (bI z))]) rfl ?_
  refine GG.aload_n e_X11_readItems_0 (i := 0) rfl 0 rfl ?_
  refine GG.iload_n e_X11_readItems_1 (i := 1) rfl 1 rfl ?_
  refine GG.putZ e_X11_readItems_2 fl_X11_98 fp_X11_12 (sf_X11_12 i_X11_63) (bI_z z) ?_
  refine GG.aload_n e_X11_readItems_5 (i := 0) rfl 0 rfl ?_
  refine GG.iconst (v := 0) e_X11_readItems_6 rfl ?_
  refine GG.putI e_X11_readItems_7 fl_X11_75 fp_X11_9 (sf_X11_9 i_X11_63) ?_
  refine GG.aload_n e_X11_readItems_10 (i := 0) rfl 0 rfl ?_
  refine GG.iconst (v := 0) e_X11_readItems_11 rfl ?_
  refine GG.putI e_X11_readItems_12 fl_X11_102 fp_X11_10 (sf_X11_10 i_X11_63) ?_
  refine GG.aload_n e_X11_readItems_15 (i := 0) rfl 0 rfl ?_
  refine GG.iconst (v := 0) e_X11_readItems_16 rfl ?_
  refine GG.putI e_X11_readItems_17 fl_X11_105 fp_X11_11 (sf_X11_11 i_X11_63) ?_
  refine GG.iconst (v := 0) e_X11_readItems_20 rfl ?_
  refine GG.istore_n e_X11_readItems_21 (i := 2) rfl (Nat.le_of_ble_eq_true rfl) (ls' := [(2, .int _), (0, .ref _), (1, .int _)]) rfl ?_
  refine GG.aload_n e_X11_readItems_22 (i := 0) rfl 1 rfl ?_
  refine GG.callV (d' := 2) (a := 63) (as := []) e_X11_readItems_23 ml_X11_91 mf_X11_next mv_X11_next (rc_X11 i_X11_63) rfl (by decide) (Nat.le_of_ble_eq_true rfl) rfl ?_
  refine hX.next (fun ν g1 g2 g3 => ?_)
  exact lp 152 0 0 aS0 ν (by omega) ⟨rfl, rfl⟩ (hI0.rt g1) g2 g3
theorem s_X11_read (hL : mrd μ 63 6 = nI L) (hL5 : L ≤ 150) (hb : mrd μ 67 = b) (hw : ∀ i k, i < 5 → k < 6 → mrd μ 68 (6 * i + k) = rW68 i k)
    (hend : ∀ ν i p S, 0 < i → i ≤ 150 → tRe b L i p S → T2 b L p = 0 → gRz true μ ν → RR ν S → Q (some (.int (nI i))) (mwr ν 64 98 0))
    (hft : ∀ ν i p S f, tRe b L i p S → ¬ (0 < i ∧ T2 b L p = 0) → tStp b L (decide (i = 0)) S.2.1 S.2.2.1 p = .inr f → gSm μ ν → Q (some (.int (-10 - nI f))) ν) : SPC 8 MX11_read [.ref 63] μ Q := by
  have gz : ∀ z ν, gRz z μ ν → gRz true μ ν := fun z ν h => by
    refine ⟨fun c j a bb => h.1 c j a (fun y => bb ⟨rfl, y.2⟩), h.2⟩
  have hT : ∀ ν, gRz true μ ν → mrd ν 63 9 = nI 0 → TR ν b L 0 := by
    intro ν g h9
    refine ⟨by rw [g.1 63 6 (by omega) (by omega), hL], hL5, h9, Nat.zero_le _, ?_, fun i k hi hk => ?_⟩
    · rw [← hb]; funext j; exact g.1 67 j (by omega) (by omega)
    · rw [← hw i k hi hk]; exact g.1 68 _ (by omega) (by omega)
  have tr : ∀ ν ξ, gRz false μ ν → gRz true ν ξ → gRz true μ ξ := fun ν ξ h1 h2 => ⟨fun c j a bb => (h2.1 c j a bb).trans (h1.1 c j a (fun y => by cases y.1)), fun c j => (h2.2 c j).trans (h1.2 c j)⟩
  refine SPC.of (by decide +kernel) (Nat.le_of_ble_eq_true rfl) (ls := [(0, .ref (63))]) rfl ?_
  refine GG.aload_n e_X11_read_0 (i := 0) rfl 0 rfl ?_
  refine GG.iconst (v := 0) e_X11_read_1 rfl ?_
  refine GG.callV (d' := 7) (a := 63) (as := [.int _]) e_X11_read_2 ml_X11_128 mf_X11_readItems mv_X11_readItems (rc_X11 i_X11_63) rfl (by decide) (Nat.le_of_ble_eq_true rfl) rfl ?_
  refine s_X11_readItems (z := false) (b := b) (L := L) (fun ν g => hT ν (gz _ _ g)) (fun ν i p S hi hi5 hR h2 hI => ?_) (fun ν i p S f hR hne hs hg h8 => ?_)
  · refine GG.istore_n e_X11_read_5 (i := 1) rfl (Nat.le_of_ble_eq_true rfl) (ls' := [(1, .int _), (0, .ref _)]) rfl ?_
    refine GG.iload_n e_X11_read_6 (i := 1) rfl 0 rfl ?_
    refine GG.iconst (v := -1) e_X11_read_7 rfl ?_
    refine GG.icmp_ne (tgt := 19) e_X11_read_8 rfl (fun _ => ?_) (fun y => absurd y (nI_m1 (by omega)))
    refine GG.aload_n e_X11_read_19 (i := 0) rfl 1 rfl ?_
    refine GG.iconst (v := 1) e_X11_read_20 rfl ?_
    refine GG.callV (d' := 7) (a := 63) (as := [.int _]) e_X11_read_21 ml_X11_128 mf_X11_readItems mv_X11_readItems (rc_X11 i_X11_63) rfl (by decide) (Nat.le_of_ble_eq_true rfl) rfl ?_
    refine s_X11_readItems (z := true) (b := b) (L := L) (fun ξ g => hT ξ (tr _ _ hI.1 g)) (fun ξ i' p' S' hi' hi5' hR' h2' hI' => ?_) (fun ξ i' p' S' f' hR' hne' hs' hg' h8' => absurd (tRe_nof hR ⟨hi, h2⟩ hR' hne' hs') id)
    obtain ⟨rfl, rfl, rfl⟩ := tRe_end hR ⟨hi, h2⟩ hR' ⟨hi', h2'⟩
    refine GG.pop e_X11_read_24 rfl ?_
    refine GG.aload_n e_X11_read_25 (i := 0) rfl 1 rfl ?_
    refine GG.getR (b := 64) e_X11_read_26 fl_X11_7 (sf_X11_0 i_X11_63) ?_
    refine GG.bipush (v := 98) e_X11_read_29 rfl ?_
    refine GG.iconst (v := 0) e_X11_read_31 rfl ?_
    refine GG.iastoreE (k := 98) e_X11_read_32 (sa_X11_0 i_X11_63) rfl (by omega) (Nat.le_of_ble_eq_true rfl) ?_
    refine GG.iload_n e_X11_read_33 (i := 1) rfl 0 rfl ?_
    refine GG.iret e_X11_read_34 rfl rfl ?_
    exact hend ξ i p S hi hi5 hR h2 (tr _ _ hI.1 hI'.1) (hI'.2.2.2.2.2.2 rfl hi)
  · refine GG.istore_n e_X11_read_5 (i := 1) rfl (Nat.le_of_ble_eq_true rfl) (ls' := [(1, .int _), (0, .ref _)]) rfl ?_
    refine GG.iload_n e_X11_read_6 (i := 1) rfl 0 rfl ?_
    refine GG.iconst (v := -1) e_X11_read_7 rfl ?_
    refine GG.icmp_ne (tgt := 19) e_X11_read_8 rfl (fun y => absurd rfl y) (fun _ => ?_)
    refine GG.bipush (v := -10) e_X11_read_11 rfl ?_
    refine GG.aload_n e_X11_read_13 (i := 0) rfl 1 rfl ?_
    refine GG.getIv (v := nI f) e_X11_read_14 fl_X11_78 (sf_X11_8 i_X11_63) h8 ?_
    refine GG.isub e_X11_read_17 ?_
    refine GG.iret e_X11_read_18 rfl rfl ?_
    exact hft ν i p S f hR hne hs ⟨fun c j y => hg.1 c j (fun w => y (by unfold gScr; omega)) (fun w => by cases w.1), hg.2⟩
end S51
