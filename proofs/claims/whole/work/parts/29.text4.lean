/-! TEXT: items carried out; the text read -/
def tStp (b : Nat → Int32) (L : Nat) (first : Bool) (P A p : Nat) : (Nat × Nat) ⊕ Nat :=
  if tMs (tWd b L p) first P A = true then
    match tRd b L (tLo (tWd b L p)) (tHi A (tWd b L p)) (tCn (tWd b L p)) 0 (T3 b L p) with
    | .inr f => .inr f
    | .inl q => if T2 b L q = 3 then .inl (tWd b L p, T3 b L q) else .inr (T1 b L q)
  else .inr (T1 b L p)
/-- behind i items the text stands at p, and the houses are S -/
def tRe (b : Nat → Int32) (L : Nat) : Nat → Nat → aL → Prop
  | 0, p, S => p = 0 ∧ S = aS0
  | i + 1, p', S' => ∃ (p : Nat) (S : aL) (w : Nat), tRe b L i p S ∧ ¬ (0 < i ∧ T2 b L p = 0) ∧ tStp b L (decide (i = 0)) S.2.1 S.2.2.1 p = .inl (w, p') ∧ S' = aStep w (tV0 b L (T3 b L p)) (tV1 b L (T3 b L p)) (tV2 b L (T3 b L p)) S
theorem tRd_b {b : Nat → Int32} {L : Nat} {lo hi : Nat → Int32} : ∀ n j p q, p ≤ L → tRd b L lo hi n j p = .inl q → p ≤ q ∧ q ≤ L := by
  intro n
  induction n with
  | zero => intro j p q hp h; rw [tRd] at h; cases h; omega
  | succ n ih =>
    intro j p q hp h
    rw [tRd] at h
    split at h
    · have t1 := T1_b (b := b) hp
      have t3 := T3_b (b := b) hp
      have := ih (j + 1) (T3 b L p) q t3.2.1 h
      omega
    · cases h
theorem tStp_b {b : Nat → Int32} {L P A p w p' : Nat} {first : Bool} (hp : p ≤ L) (h : tStp b L first P A p = .inl (w, p')) : p < p' ∧ p' ≤ L := by
  unfold tStp at h
  split at h
  · split at h
    · cases h
    · next q hq =>
      split at h
      · next h3 =>
        cases h
        have t1 := T1_b (b := b) hp
        have t3 := T3_b (b := b) hp
        have r := tRd_b _ _ _ _ t3.2.1 hq
        have u1 := T1_b (b := b) r.2
        have u3 := T3_b (b := b) r.2
        have := u3.2.2 (by omega)
        omega
      · cases h
  · cases h
theorem tRe_b {b : Nat → Int32} {L : Nat} : ∀ i p S, tRe b L i p S → i ≤ p ∧ p ≤ L := by
  intro i
  induction i with
  | zero => rintro p S ⟨rfl, -⟩; omega
  | succ i ih =>
    rintro p' S' ⟨p, S, w, h, -, h2, -⟩
    have := ih p S h
    have := tStp_b this.2 h2
    omega
theorem tRe_u {b : Nat → Int32} {L : Nat} : ∀ i p S p' S', tRe b L i p S → tRe b L i p' S' → p = p' ∧ S = S' := by
  intro i
  induction i with
  | zero => rintro p S p' S' ⟨rfl, rfl⟩ ⟨rfl, rfl⟩; exact ⟨rfl, rfl⟩
  | succ i ih =>
    rintro p S p' S' ⟨p0, S0, w, h1, -, h2, h3⟩ ⟨p1, S1, w', g1, -, g2, g3⟩
    obtain ⟨rfl, rfl⟩ := ih _ _ _ _ h1 g1
    rw [h2] at g2
    cases g2
    rw [h3, g3]
    exact ⟨rfl, rfl⟩
theorem tNk_r {b : Nat → Int32} {L p : Nat} {lo hi : Int32} (h : tNk b L p lo hi = true) : lo ≤ tVal b L p ∧ tVal b L p ≤ hi := (of_decide_eq_true h).2.2
theorem gTl.sm {μ ν : gM} (h : gTl μ ν) : gSm μ ν := ⟨fun c j q => h.1 c j (fun z => q (scr_51 (by omega) (by omega))), h.2⟩
theorem gTy.sm {μ ν : gM} {n : Nat} (h : gTy μ ν n) : gSm μ ν := ⟨fun c j q => h.1 c j (fun z => q (Or.inl z)) (fun z => q (Or.inr (Or.inl z.1))), h.2⟩
section S29
variable {μ ν : gM} {Q : Option Value → gM → Prop} {L p P A w : Nat} {b : Nat → Int32} {first : Bool} {S : aL} {v0 v1 v2 : Int32}
theorem s_X7_readNumbers (h : TX μ L p) (hb : mrd μ 47 = b) (hL : LC μ 51 P A) (hw : 1 ≤ w ∧ w ≤ 5) (hok : ∀ ν q, tRd b L (tLo w) (tHi A w) (tCn w) 0 p = .inl q → gTy μ ν 0 → TX ν L q → mrd ν 48 0 = tV0 b L p → (w = 2 ∨ w = 3 → mrd ν 48 1 = tV1 b L p) → (w = 2 → mrd ν 48 2 = tV2 b L p) → Q (some (.int 1)) ν) (hno : ∀ ν f, tRd b L (tLo w) (tHi A w) (tCn w) 0 p = .inr f → gTy μ ν 0 → mrd ν 46 3 = nI f → Q (some (.int 0)) ν) : SPC 3 MX7_readNumbers [.ref 46, .int (nI w), .ref 51] μ Q := by
  have hw' : w = 1 ∨ w = 2 ∨ w = 3 ∨ w = 4 ∨ w = 5 := by omega
  rcases hw' with rfl | rfl | rfl | rfl | rfl
  · exact s_X7_readNumbers_1 h hb hL (fun ν q a b c d => hok ν q a b c d (by omega) (by omega)) hno
  · exact s_X7_readNumbers_2 h hb hL (fun ν q a b c d e f => hok ν q a b c d (fun _ => e) (fun _ => f)) hno
  · exact s_X7_readNumbers_3 h hb hL (fun ν q a b c d e => hok ν q a b c d (fun _ => e) (by omega)) hno
  · exact s_X7_readNumbers_4 h hb hL (fun ν q a b c d => hok ν q a b c d (by omega) (by omega)) hno
  · exact s_X7_readNumbers_5 h hb hL (fun ν q a b c d => hok ν q a b c d (by omega) (by omega)) hno
theorem gTl.of {a k : Nat} {x : Int32} (h : gTl μ ν) (h1 : 51 ≤ a ∧ a ≤ 56) : gTl μ (mwr ν a k x) := ⟨fun c j q => by rw [mrd_wr, if_neg (by rintro ⟨rfl, rfl⟩; exact q h1)]; exact h.1 c j q, h.2⟩
theorem gTl.rf (μ : gM) : gTl μ μ := ⟨fun _ _ _ => rfl, fun _ _ => rfl⟩
theorem s_X7_carryOut (hS : AR μ S) (hw : 1 ≤ w ∧ w ≤ 5) (h0 : mrd μ 48 0 = v0) (h1 : w = 2 ∨ w = 3 → mrd μ 48 1 = v1) (h2 : w = 2 → mrd μ 48 2 = v2) (k2 : w = 2 → S.2.1 < 7) (k3 : w = 3 → S.2.2.1 < 4) (k4 : w = 4 → ∃ j, j < S.2.2.1 ∧ v0 = nI j) (k5 : w = 5 → ∃ j, j ≤ 99 ∧ v0 = nI j) (hQ : ∀ ν, gTl μ ν → AR ν (aStep w v0 v1 v2 S) → Q none ν) : SPC 4 MX7_carryOut [.ref 46, .int (nI w), .ref 51] μ Q := by
  obtain ⟨V, P, A, wd, th, t, n⟩ := S
  obtain ⟨hL, a0, a8, a9, a10, hV⟩ := hS
  obtain ⟨l1, l2, l3, l4⟩ := id hL
  have hw' : w = 1 ∨ w = 2 ∨ w = 3 ∨ w = 4 ∨ w = 5 := by omega
  rcases hw' with rfl | rfl | rfl | rfl | rfl
  · skip
    refine SPC.of (by decide +kernel) (Nat.le_of_ble_eq_true rfl) (ls := [(0, .ref (46)), (1, .int (nI 1)), (2, .ref (51))]) rfl ?_
    refine GG.aload_n e_X7_carryOut_0 (i := 2) rfl 2 rfl ?_
    refine GG.ifnonnull (tgt := 5) e_X7_carryOut_1 rfl ?_
    refine GG.iload_n e_X7_carryOut_5 (i := 1) rfl 1 rfl ?_
    refine GG.tableIn (off := 30) (tgt := 36) e_X7_carryOut_6 (by decide) (by decide) (by decide) rfl ?_
    refine GG.aload_n e_X7_carryOut_36 (i := 2) rfl 2 rfl ?_
    refine GG.aload_n e_X7_carryOut_37 (i := 0) rfl 0 rfl ?_
    refine GG.getR (b := 48) e_X7_carryOut_38 fl_X7_15 (sf_X7_5 i_X7_46) ?_
    refine GG.iconst (v := 0) e_X7_carryOut_41 rfl ?_
    refine GG.ialoadV (k := 0) (v := v0) e_X7_carryOut_42 (sa_X7_5 i_X7_46) (rfl) (by omega) (Nat.le_of_ble_eq_true rfl) (h0) ?_
    refine GG.putI e_X7_carryOut_43 fl_X7_73 fp_X4_0 (sf_X4_0 i_X4_51) ?_
    refine GG.goto (tgt := 122) e_X7_carryOut_46 rfl ?_
    refine GG.vret e_X7_carryOut_122 rfl rfl ?_
    refine hQ _ ((gTl.rf μ).of (by omega)) ⟨⟨by simp [mrd_wr, l1], l2, by simp [mrd_wr, l3], l4⟩, by simp [mrd_wr], by simp [mrd_wr, a8], by simp [mrd_wr, a9], by simp [mrd_wr, a10], fun k hk => ?_, fun k hk => ?_⟩
    · simpa [cV, mrd_wr] using hV.1 k hk
    · simpa [cV, mrd_wr] using hV.2 k hk
  · have kk : P < 7 := k2 rfl
    refine SPC.of (by decide +kernel) (Nat.le_of_ble_eq_true rfl) (ls := [(0, .ref (46)), (1, .int (nI 2)), (2, .ref (51))]) rfl ?_
    refine GG.aload_n e_X7_carryOut_0 (i := 2) rfl 2 rfl ?_
    refine GG.ifnonnull (tgt := 5) e_X7_carryOut_1 rfl ?_
    refine GG.iload_n e_X7_carryOut_5 (i := 1) rfl 1 rfl ?_
    refine GG.tableIn (off := 43) (tgt := 49) e_X7_carryOut_6 (by decide) (by decide) (by decide) rfl ?_
    refine GG.aload_n e_X7_carryOut_49 (i := 2) rfl 2 rfl ?_
    refine GG.aload_n e_X7_carryOut_50 (i := 0) rfl 0 rfl ?_
    refine GG.getR (b := 48) e_X7_carryOut_51 fl_X7_15 (sf_X7_5 i_X7_46) ?_
    refine GG.iconst (v := 0) e_X7_carryOut_54 rfl ?_
    refine GG.ialoadV (k := 0) (v := v0) e_X7_carryOut_55 (sa_X7_5 i_X7_46) (rfl) (by omega) (Nat.le_of_ble_eq_true rfl) (h0) ?_
    refine GG.aload_n e_X7_carryOut_56 (i := 0) rfl 0 rfl ?_
    refine GG.getR (b := 48) e_X7_carryOut_57 fl_X7_15 (sf_X7_5 i_X7_46) ?_
    refine GG.iconst (v := 1) e_X7_carryOut_60 rfl ?_
    refine GG.ialoadV (k := 1) (v := v1) e_X7_carryOut_61 (sa_X7_5 i_X7_46) (rfl) (by omega) (Nat.le_of_ble_eq_true rfl) (h1 (Or.inl rfl)) ?_
    refine GG.aload_n e_X7_carryOut_62 (i := 0) rfl 0 rfl ?_
    refine GG.getR (b := 48) e_X7_carryOut_63 fl_X7_15 (sf_X7_5 i_X7_46) ?_
    refine GG.iconst (v := 2) e_X7_carryOut_66 rfl ?_
    refine GG.ialoadV (k := 2) (v := v2) e_X7_carryOut_67 (sa_X7_5 i_X7_46) (rfl) (by omega) (Nat.le_of_ble_eq_true rfl) (h2 rfl) ?_
    refine GG.callV (d' := 1) (a := 51) (as := [.int _, .int _, .int _]) e_X7_carryOut_68 ml_X7_76 mf_X4_addOne mv_X4_addOne (rc_X4 i_X4_51) rfl (by decide) (Nat.le_of_ble_eq_true rfl) rfl ?_
    refine s_X4_addOne i_X4_51 hL (fun q => by omega) (fun _ => ?_)
    refine GG.pop e_X7_carryOut_71 rfl ?_
    refine GG.goto (tgt := 122) e_X7_carryOut_72 rfl ?_
    refine GG.vret e_X7_carryOut_122 rfl rfl ?_
    refine hQ _ (((((gTl.rf μ).of (by omega)).of (by omega)).of (by omega)).of (by omega)) ⟨⟨by simp [mrd_wr], by show P + 1 ≤ 7; omega, by simp [mrd_wr, l3], l4⟩, by simp [mrd_wr, a0], by simp [mrd_wr, a8], by simp [mrd_wr, a9], by simp [mrd_wr, a10], fun k hk => ?_, fun k hk => ?_⟩
    · by_cases e : k = P
      · subst e; simp [cV, mrd_wr, aV]
      · have := hV.1 k (by omega)
        simpa [cV, mrd_wr, aV, e] using this
    · simpa [cV, mrd_wr, aV] using hV.2 k hk
  · have kk : A < 4 := k3 rfl
    refine SPC.of (by decide +kernel) (Nat.le_of_ble_eq_true rfl) (ls := [(0, .ref (46)), (1, .int (nI 3)), (2, .ref (51))]) rfl ?_
    refine GG.aload_n e_X7_carryOut_0 (i := 2) rfl 2 rfl ?_
    refine GG.ifnonnull (tgt := 5) e_X7_carryOut_1 rfl ?_
    refine GG.iload_n e_X7_carryOut_5 (i := 1) rfl 1 rfl ?_
    refine GG.tableIn (off := 69) (tgt := 75) e_X7_carryOut_6 (by decide) (by decide) (by decide) rfl ?_
    refine GG.aload_n e_X7_carryOut_75 (i := 2) rfl 2 rfl ?_
    refine GG.aload_n e_X7_carryOut_76 (i := 0) rfl 0 rfl ?_
    refine GG.getR (b := 48) e_X7_carryOut_77 fl_X7_15 (sf_X7_5 i_X7_46) ?_
    refine GG.iconst (v := 0) e_X7_carryOut_80 rfl ?_
    refine GG.ialoadV (k := 0) (v := v0) e_X7_carryOut_81 (sa_X7_5 i_X7_46) (rfl) (by omega) (Nat.le_of_ble_eq_true rfl) (h0) ?_
    refine GG.aload_n e_X7_carryOut_82 (i := 0) rfl 0 rfl ?_
    refine GG.getR (b := 48) e_X7_carryOut_83 fl_X7_15 (sf_X7_5 i_X7_46) ?_
    refine GG.iconst (v := 1) e_X7_carryOut_86 rfl ?_
    refine GG.ialoadV (k := 1) (v := v1) e_X7_carryOut_87 (sa_X7_5 i_X7_46) (rfl) (by omega) (Nat.le_of_ble_eq_true rfl) (h1 (Or.inr rfl)) ?_
    refine GG.callV (d' := 1) (a := 51) (as := [.int _, .int _]) e_X7_carryOut_88 ml_X7_79 mf_X4_addAunt mv_X4_addAunt (rc_X4 i_X4_51) rfl (by decide) (Nat.le_of_ble_eq_true rfl) rfl ?_
    refine s_X4_addAunt i_X4_51 hL (fun q => by omega) (fun _ => ?_)
    refine GG.pop e_X7_carryOut_91 rfl ?_
    refine GG.goto (tgt := 122) e_X7_carryOut_92 rfl ?_
    refine GG.vret e_X7_carryOut_122 rfl rfl ?_
    refine hQ _ (((((gTl.rf μ).of (by omega)).of (by omega)).of (by omega)).of (by omega)) ⟨⟨by simp [mrd_wr, l1], l2, by simp [mrd_wr], by show A + 1 ≤ 4; omega⟩, by simp [mrd_wr, a0], by simp [mrd_wr, a8], by simp [mrd_wr, a9], by simp [mrd_wr, a10], fun k hk => ?_, fun k hk => ?_⟩
    · simpa [cV, mrd_wr, aV] using hV.1 k hk
    · by_cases e : k = A
      · subst e; simp [cV, mrd_wr, aV]
      · have := hV.2 k (by omega)
        simpa [cV, mrd_wr, aV, e] using this
  · obtain ⟨j, hj, rfl⟩ := k4 rfl
    have hj' : j < A := hj
    refine SPC.of (by decide +kernel) (Nat.le_of_ble_eq_true rfl) (ls := [(0, .ref (46)), (1, .int (nI 4)), (2, .ref (51))]) rfl ?_
    refine GG.aload_n e_X7_carryOut_0 (i := 2) rfl 2 rfl ?_
    refine GG.ifnonnull (tgt := 5) e_X7_carryOut_1 rfl ?_
    refine GG.iload_n e_X7_carryOut_5 (i := 1) rfl 1 rfl ?_
    refine GG.tableIn (off := 89) (tgt := 95) e_X7_carryOut_6 (by decide) (by decide) (by decide) rfl ?_
    refine GG.aload_n e_X7_carryOut_95 (i := 2) rfl 2 rfl ?_
    refine GG.aload_n e_X7_carryOut_96 (i := 0) rfl 0 rfl ?_
    refine GG.getR (b := 48) e_X7_carryOut_97 fl_X7_15 (sf_X7_5 i_X7_46) ?_
    refine GG.iconst (v := 0) e_X7_carryOut_100 rfl ?_
    refine GG.ialoadV (k := 0) (v := nI j) e_X7_carryOut_101 (sa_X7_5 i_X7_46) (rfl) (by omega) (Nat.le_of_ble_eq_true rfl) (h0) ?_
    refine GG.iconst (v := 0) e_X7_carryOut_102 rfl ?_
    refine GG.callV (d' := 1) (a := 51) (as := [.int _, .int _]) e_X7_carryOut_103 ml_X7_83 mf_X4_setThere mv_X4_setThere (rc_X4 i_X4_51) rfl (by decide) (Nat.le_of_ble_eq_true rfl) rfl ?_
    refine s_X4_setThere i_X4_51 hL (fun q => ?_) (fun _ _ => ?_) (fun _ q => absurd rfl q)
    · rw [mIn_n (by omega), decide_eq_true hj'] at q; cases q
    refine GG.goto (tgt := 122) e_X7_carryOut_106 rfl ?_
    refine GG.vret e_X7_carryOut_122 rfl rfl ?_
    refine hQ _ ((gTl.rf μ).of (by omega)) ⟨⟨by simp [mrd_wr, l1], l2, by simp [mrd_wr, l3], l4⟩, by simp [mrd_wr, a0], by simp [mrd_wr, a8], by simp [mrd_wr, a9], by simp [mrd_wr, a10], fun k hk => ?_, fun k hk => ?_⟩
    · simpa [cV, mrd_wr] using hV.1 k hk
    · simpa [cV, mrd_wr] using hV.2 k hk
  · obtain ⟨j, hj, rfl⟩ := k5 rfl
    refine SPC.of (by decide +kernel) (Nat.le_of_ble_eq_true rfl) (ls := [(0, .ref (46)), (1, .int (nI 5)), (2, .ref (51))]) rfl ?_
    refine GG.aload_n e_X7_carryOut_0 (i := 2) rfl 2 rfl ?_
    refine GG.ifnonnull (tgt := 5) e_X7_carryOut_1 rfl ?_
    refine GG.iload_n e_X7_carryOut_5 (i := 1) rfl 1 rfl ?_
    refine GG.tableOut (tgt := 109) e_X7_carryOut_6 (by decide) rfl ?_
    refine GG.aload_n e_X7_carryOut_109 (i := 2) rfl 2 rfl ?_
    refine GG.aload_n e_X7_carryOut_110 (i := 0) rfl 0 rfl ?_
    refine GG.getR (b := 48) e_X7_carryOut_111 fl_X7_15 (sf_X7_5 i_X7_46) ?_
    refine GG.iconst (v := 0) e_X7_carryOut_114 rfl ?_
    refine GG.ialoadV (k := 0) (v := nI j) e_X7_carryOut_115 (sa_X7_5 i_X7_46) (rfl) (by omega) (Nat.le_of_ble_eq_true rfl) (h0) ?_
    refine GG.sipush (v := 9999) e_X7_carryOut_116 rfl ?_
    refine GG.callV (d' := 3) (a := 51) (as := [.int _, .int _]) e_X7_carryOut_119 ml_X7_87 mf_X4_passUpTo mv_X4_passUpTo (rc_X4 i_X4_51) rfl (by decide) (Nat.le_of_ble_eq_true rfl) rfl ?_
    refine s_X4_passUpTo (snd := vSnd V th A wd P) i_X4_51 hL (by omega) (fun c => ?_) ?_
    · rw [← vSnd_c hV, a0, a8]; rfl
    rw [a9, a10]
    refine GG.vret e_X7_carryOut_122 rfl rfl ?_
    refine hQ _ (((gTl.rf μ).of (by omega)).of (by omega)) ⟨⟨by simp [mrd_wr, l1], l2, by simp [mrd_wr, l3], l4⟩, by simp [mrd_wr, a0], by simp [mrd_wr, a8], ?_, ?_, fun k hk => ?_, fun k hk => ?_⟩
    · rw [mrd_wr, if_pos ⟨rfl, rfl⟩, nI_clamp (by omega)]
    · rw [mrd_wr, if_neg (by omega), mrd_wr, if_pos ⟨rfl, rfl⟩, nI_clamp (by omega)]
    · simpa [cV, mrd_wr] using hV.1 k hk
    · simpa [cV, mrd_wr] using hV.2 k hk
theorem AR_ty {n : Nat} (h : AR μ S) (g : gTy μ ν n) : AR ν S := by
  obtain ⟨V, P, A, wd, th, t, m⟩ := S
  obtain ⟨⟨l1, l2, l3, l4⟩, a0, a8, a9, a10, hV⟩ := h
  have e : ∀ c j, 51 ≤ c → mrd ν c j = mrd μ c j := fun c j hc => g.1 c j (by omega) (by omega)
  refine ⟨⟨by rw [e _ _ (by omega), l1], l2, by rw [e _ _ (by omega), l3], l4⟩, by rw [e _ _ (by omega), a0], by rw [e _ _ (by omega), a8], by rw [e _ _ (by omega), a9], by rw [e _ _ (by omega), a10], fun k hk => ?_, fun k hk => ?_⟩
  · simp only [cV, e _ _ (show 51 ≤ 51 + 1 + 0 by omega), e _ _ (show 51 ≤ 51 + 1 + 1 by omega), e _ _ (show 51 ≤ 51 + 1 + 2 by omega)]
    exact hV.1 k hk
  · simp only [cV, e _ _ (show 51 ≤ 51 + 1 + 3 by omega), e _ _ (show 51 ≤ 51 + 1 + 4 by omega)]
    exact hV.2 k hk
theorem s_X7_readInto (hL0 : mrd μ 46 0 = nI L) (hL150 : L ≤ 150) (hb : mrd μ 47 = b)
    (hend : ∀ ν i p S, 0 < i → i ≤ 150 → tRe b L i p S → T2 b L p = 0 → gSm μ ν → AR ν S → Q (some (.int (nI i))) ν)
    (hft : ∀ ν i p S f, tRe b L i p S → ¬ (0 < i ∧ T2 b L p = 0) → tStp b L (decide (i = 0)) S.2.1 S.2.2.1 p = .inr f → gSm μ ν → Q (some (.int (-10 - nI f))) ν) : SPC 7 MX7_readInto [.ref 46, .ref 51] μ Q := by
  have lp : ∀ n i p S ν, 151 - i < n → tRe b L i p S → TX ν L p → AR ν S → gSm μ ν → mrd ν 47 = b → GG 7 MX7_readInto 20 [(2, .int (nI i)), (0, .ref 46), (1, .ref 51)] [] ν Q := by
    intro n
    induction n with
    | zero => intro i p S ν h; omega
    | succ n ih =>
      intro i p S ν hn hR hX hA hm hb
      have rb := tRe_b _ _ _ hR
      have t2 := T2_b (b := b) (L := L) (p := p)
      have t30 := (T3_b (b := b) hX.2.2.2).2.1
      have hm2 : gSm μ (mTk ν (T1 b L p) (T2 b L p) (T3 b L p)) := hm.tr (gTy_Tk _ _ _ _ 0).sm
      have hA2 : AR (mTk ν (T1 b L p) (T2 b L p) (T3 b L p)) S := AR_ty hA (gTy_Tk _ _ _ _ 0)
      have hb2 : mrd (mTk ν (T1 b L p) (T2 b L p) (T3 b L p)) 47 = b := by rw [(gTy_Tk ν (T1 b L p) (T2 b L p) (T3 b L p) 0).b, hb]
      have f2 : mrd (mTk ν (T1 b L p) (T2 b L p) (T3 b L p)) 46 2 = nI (T2 b L p) := by rw [mrd_Tk]; simp
      have f3 : mrd (mTk ν (T1 b L p) (T2 b L p) (T3 b L p)) 46 3 = nI (T1 b L p) := by rw [mrd_Tk]; simp
      have f4 : mrd (mTk ν (T1 b L p) (T2 b L p) (T3 b L p)) 46 4 = nI (T3 b L p) := by rw [mrd_Tk]; simp
      have hX2 : TX (mTk ν (T1 b L p) (T2 b L p) (T3 b L p)) L (T3 b L p) := hX.nx
      generalize hν : mTk ν (T1 b L p) (T2 b L p) (T3 b L p) = ν2 at hm2 hA2 hb2 f2 f3 f4 hX2
      have hwl : tWd b L p ≤ 5 := tWd_le
      have hLC : LC ν2 51 S.2.1 S.2.2.1 := hA2.1
      have j97 : ∀ ξ f, gSm μ ξ → mrd ξ 46 3 = nI f → ¬ (0 < i ∧ T2 b L p = 0) → tStp b L (decide (i = 0)) S.2.1 S.2.2.1 p = .inr f → GG 7 MX7_readInto 97 [(0, .ref 46)] [] ξ Q := by
        intro ξ f hx hf hne hs
        refine GG.bipush (v := -10) e_X7_readInto_97 rfl ?_
        refine GG.aload_n e_X7_readInto_99 (i := 0) rfl 0 rfl ?_
        refine GG.getIv (v := nI f) e_X7_readInto_100 fl_X7_61 (sf_X7_3 i_X7_46) (hf) ?_
        refine GG.isub e_X7_readInto_103 ?_
        refine GG.iret e_X7_readInto_104 rfl rfl ?_
        exact hft _ i p S f hR hne hs hx
      have j85 : ∀ ξ q, ¬ (0 < i ∧ T2 b L p = 0) → tStp b L (decide (i = 0)) S.2.1 S.2.2.1 p = .inl (tWd b L p, T3 b L q) → tMs (tWd b L p) (decide (i = 0)) S.2.1 S.2.2.1 = true → tRd b L (tLo (tWd b L p)) (tHi S.2.2.1 (tWd b L p)) (tCn (tWd b L p)) 0 (T3 b L p) = .inl q → gSm μ ξ → AR ξ S → TX ξ L (T3 b L q) → mrd ξ 47 = b → mrd ξ 48 0 = tV0 b L (T3 b L p) → (tWd b L p = 2 ∨ tWd b L p = 3 → mrd ξ 48 1 = tV1 b L (T3 b L p)) → (tWd b L p = 2 → mrd ξ 48 2 = tV2 b L (T3 b L p)) → GG 7 MX7_readInto 85 [(3, .int (nI (tWd b L p))), (2, .int (nI i)), (0, .ref 46), (1, .ref 51)] [] ξ Q := by
        intro ξ q hne hs hms hrd hx hAx hXx hbx n0 n1 n2
        have hms' : ¬ tWd b L p = 0 ∧ (tWd b L p = 2 → S.2.1 < 7) ∧ (tWd b L p = 3 → S.2.2.1 < 4) := by
          simp only [tMs, Bool.and_eq_true, Bool.not_eq_true', decide_eq_false_iff_not, Bool.or_eq_true, decide_eq_true_eq] at hms
          exact ⟨hms.1.1.1, fun z => hms.1.2.resolve_left (fun y => y z), fun z => hms.2.resolve_left (fun y => y z)⟩
        have hnk : tNk b L (T3 b L p) (tLo (tWd b L p) 0) (tHi S.2.2.1 (tWd b L p) 0) = true := by
          have hc : ∃ m, tCn (tWd b L p) = m + 1 := by unfold tCn; split; exact ⟨2, rfl⟩; split; exact ⟨1, rfl⟩; exact ⟨0, rfl⟩
          obtain ⟨m, hc⟩ := hc
          rw [hc, tRd] at hrd
          split at hrd
          · assumption
          · cases hrd
        have hrg := tNk_r hnk
        refine GG.aload_n e_X7_readInto_85 (i := 0) rfl 2 rfl ?_
        refine GG.iload_n e_X7_readInto_86 (i := 3) rfl 0 rfl ?_
        refine GG.aload_n e_X7_readInto_87 (i := 1) rfl 3 rfl ?_
        refine GG.callV (d' := 4) (a := 46) (as := [.int _, .ref 51]) e_X7_readInto_88 ml_X7_57 mf_X7_carryOut mv_X7_carryOut (rc_X7 i_X7_46) rfl (by decide) (Nat.le_of_ble_eq_true rfl) rfl ?_
        refine s_X7_carryOut hAx (by omega) n0 n1 n2 hms'.2.1 hms'.2.2 (fun z => ?_) (fun z => ?_) (fun ξ2 g2 hA3 => ?_)
        · rw [z] at hrg
          have h4 := hAx.1.2.2.2
          have e0 : (0 : Int32).toInt = 0 := by decide
          have r1 : (0 : Int32) ≤ tV0 b L (T3 b L p) := hrg.1
          have r2 : tV0 b L (T3 b L p) ≤ nI S.2.2.1 - 1 := hrg.2
          have h4' : S.2.2.1 ≤ 4 := h4
          generalize tV0 b L (T3 b L p) = v at r1 r2
          have r1' := Int32.le_iff_toInt_le.mp r1
          have r2' := Int32.le_iff_toInt_le.mp r2
          by_cases hz : S.2.2.1 = 0
          · rw [hz] at r2'
            have e1 : (nI 0 - 1 : Int32).toInt = -1 := by decide
            omega
          · rw [show (1 : Int32) = nI 1 from rfl, pk_sub (by omega), nI_toInt (by omega)] at r2'
            obtain ⟨j, hj, e⟩ := vp_in_of (vp_in_iff.mpr ⟨by omega, by omega⟩ : vp_in v S.2.2.1) (by omega)
            exact ⟨j, hj, e⟩
        · rw [z] at hrg
          have r1 : (1 : Int32) ≤ tV0 b L (T3 b L p) := hrg.1
          have r2 : tV0 b L (T3 b L p) ≤ 99 := hrg.2
          generalize tV0 b L (T3 b L p) = v at r1 r2
          obtain ⟨j, hj, e⟩ := nI_of2 (M := 99) (n := 99) (by decide) (show ¬ v < 0 by grind) r2
          exact ⟨j, hj, e⟩
        refine GG.iinc e_X7_readInto_91 1 rfl (v := _) (by first | exact nI_s _ | exact nI_d _ | rfl) (Nat.le_of_ble_eq_true rfl) (ls' := [(2, .int _), (3, .int _), (0, .ref _), (1, .ref _)]) rfl ?_
        refine GG.goto (tgt := 20) e_X7_readInto_94 rfl ?_
        refine GG.perm [0, 2, 3] rfl ?_
        refine ih (i + 1) _ _ _ (by omega) ⟨p, S, _, hR, hne, hs, rfl⟩ ⟨?_, hXx.2.1, ?_, hXx.2.2.2⟩ hA3 (hx.tr g2.sm) ?_
        · rw [g2.1 46 0 (by omega)]; exact hXx.1
        · rw [g2.1 46 4 (by omega)]; exact hXx.2.2.1
        · rw [← hbx]; exact funext fun j => g2.1 47 j (by omega)
      have j60 : ∀ z, z = bI (decide (i = 0)) → ¬ (0 < i ∧ T2 b L p = 0) → GG 7 MX7_readInto 60 [(3, .int (nI (tWd b L p))), (2, .int (nI i)), (0, .ref 46), (1, .ref 51)] [.int z, .ref 51, .int (nI (tWd b L p))] ν2 Q := by
        intro z hz hne
        subst hz
        refine GG.callS (d' := 0) (as := [.int _, .ref 51, .int _]) e_X7_readInto_60 ml_X7_45 mf_X7_mayStand ms_X7_mayStand rfl (by decide) (Nat.le_of_ble_eq_true rfl) rfl ?_
        refine s_X7_mayStand hLC hwl ?_
        refine GG.if_eq (tgt := 97) e_X7_readInto_63 rfl (fun h63 => ?_) (fun h63 => ?_)
        · skip
          rw [bI_0] at h63
          have hs : tStp b L (decide (i = 0)) S.2.1 S.2.2.1 p = .inr (T1 b L p) := by rw [tStp, if_neg (by rw [h63]; decide)]
          exact GG.perm [2] rfl (j97 _ _ hm2 f3 hne hs)
        · skip
          rw [bI_0, Bool.not_eq_false] at h63
          have hw0 : ¬ tWd b L p = 0 := by intro q; rw [q] at h63; cases h63
          refine GG.aload_n e_X7_readInto_66 (i := 0) rfl 2 rfl ?_
          refine GG.iload_n e_X7_readInto_67 (i := 3) rfl 0 rfl ?_
          refine GG.aload_n e_X7_readInto_68 (i := 1) rfl 3 rfl ?_
          refine GG.callV (d' := 3) (a := 46) (as := [.int _, .ref 51]) e_X7_readInto_69 ml_X7_49 mf_X7_readNumbers mv_X7_readNumbers (rc_X7 i_X7_46) rfl (by decide) (Nat.le_of_ble_eq_true rfl) rfl ?_
          refine s_X7_readNumbers hX2 hb2 hLC (by omega) (fun ξ q hr g hXx n0 n1 n2 => ?_) (fun ξ f hr g hf => ?_)
          · refine GG.if_eq (tgt := 97) e_X7_readInto_72 rfl (fun z => absurd z (by decide)) (fun _ => ?_)
            refine GG.aload_n e_X7_readInto_75 (i := 0) rfl 2 rfl ?_
            refine GG.callV (d' := 2) (a := 46) (as := []) e_X7_readInto_76 ml_X7_53 mf_X7_takeSemicolon mv_X7_takeSemicolon (rc_X7 i_X7_46) rfl (by decide) (Nat.le_of_ble_eq_true rfl) rfl ?_
            refine s_X7_takeSemicolon hXx (g.b.trans hb2) ?_
            have g2 := gTy_Tk ξ (T1 b L q) (T2 b L q) (T3 b L q) 0
            have hms := h63
            refine GG.if_ne (tgt := 85) e_X7_readInto_79 rfl (fun h79 => ?_) (fun h79 => ?_)
            · rw [bI_0, Bool.not_eq_false, decide_eq_true_eq] at h79
              have hs : tStp b L (decide (i = 0)) S.2.1 S.2.2.1 p = .inl (tWd b L p, T3 b L q) := by rw [tStp, if_pos h63, hr]; simp only []; rw [if_pos h79]
              exact j85 _ q hne hs h63 hr ((hm2.tr g.sm).tr g2.sm) (AR_ty (AR_ty hA2 g) g2) hXx.nx (g2.b.trans (g.b.trans hb2)) (by rw [mrd_Tk]; simpa using n0) (fun z => by rw [mrd_Tk]; simpa using n1 z) (fun z => by rw [mrd_Tk]; simpa using n2 z)
            · rw [bI_0, decide_eq_false_iff_not] at h79
              have hs : tStp b L (decide (i = 0)) S.2.1 S.2.2.1 p = .inr (T1 b L q) := by rw [tStp, if_pos h63, hr]; simp only []; rw [if_neg h79]
              refine GG.goto (tgt := 97) e_X7_readInto_82 rfl ?_
              exact GG.perm [2] rfl (j97 _ _ ((hm2.tr g.sm).tr g2.sm) (by rw [mrd_Tk]; simp) hne hs)
          · refine GG.if_eq (tgt := 97) e_X7_readInto_72 rfl (fun _ => ?_) (fun z => absurd rfl z)
            have hs : tStp b L (decide (i = 0)) S.2.1 S.2.2.1 p = .inr f := by rw [tStp, if_pos h63, hr]
            exact GG.perm [2] rfl (j97 _ _ (hm2.tr g.sm) hf hne hs)
      have j44 : ¬ (0 < i ∧ T2 b L p = 0) → GG 7 MX7_readInto 44 [(2, .int (nI i)), (0, .ref 46), (1, .ref 51)] [] ν2 Q := by
        intro hne
        refine GG.aload_n e_X7_readInto_44 (i := 0) rfl 1 rfl ?_
        refine GG.callV (d' := 6) (a := 46) (as := []) e_X7_readInto_45 ml_X7_41 mf_X7_wordHere mv_X7_wordHere (rc_X7 i_X7_46) rfl (by decide) (Nat.le_of_ble_eq_true rfl) rfl ?_
        refine s_X7_wordHere f2 f3 f4 hX.2.2.2 hL150 hb2 ?_
        refine GG.istore_n e_X7_readInto_48 (i := 3) rfl (Nat.le_of_ble_eq_true rfl) (ls' := [(3, .int _), (2, .int _), (0, .ref _), (1, .ref _)]) rfl ?_
        refine GG.iload_n e_X7_readInto_49 (i := 3) rfl 0 rfl ?_
        refine GG.aload_n e_X7_readInto_50 (i := 1) rfl 3 rfl ?_
        refine GG.iload_n e_X7_readInto_51 (i := 2) rfl 1 rfl ?_
        refine GG.if_ne (tgt := 59) e_X7_readInto_52 rfl (fun h52 => ?_) (fun h52 => ?_)
        · skip
          have e : decide (i = 0) = false := decide_eq_false (fun q => h52 (by rw [q]; rfl))
          refine GG.iconst (v := 0) e_X7_readInto_59 rfl ?_
          exact j60 _ (by rw [e]; rfl) hne
        · skip
          have e : decide (i = 0) = true := decide_eq_true ((nI_eq (b := 0) (by omega) (by omega)).mp h52)
          refine GG.iconst (v := 1) e_X7_readInto_55 rfl ?_
          refine GG.goto (tgt := 60) e_X7_readInto_56 rfl ?_
          exact j60 _ (by rw [e]; rfl) hne
      refine GG.iload_n e_X7_readInto_20 (i := 2) rfl 0 rfl ?_
      refine GG.sipush (v := 150) e_X7_readInto_21 rfl ?_
      refine GG.icmp_gt (tgt := 97) e_X7_readInto_24 rfl (fun h24 => absurd h24 (by exact fun z => absurd (nlt (a := 150) z (by omega) (by omega)) (by omega))) (fun h24 => ?_)
      refine GG.aload_n e_X7_readInto_27 (i := 0) rfl 1 rfl ?_
      refine GG.callV (d' := 1) (a := 46) (as := []) e_X7_readInto_28 ml_X7_35 mf_X7_nextToken mv_X7_nextToken (rc_X7 i_X7_46) rfl (by decide) (Nat.le_of_ble_eq_true rfl) rfl ?_
      refine hX.tk hb ?_
      rw [hν]
      refine GG.aload_n e_X7_readInto_31 (i := 0) rfl 1 rfl ?_
      refine GG.getIv (v := nI (T2 b L p)) e_X7_readInto_32 fl_X7_38 (sf_X7_2 i_X7_46) (f2) ?_
      refine GG.if_ne (tgt := 44) e_X7_readInto_35 rfl (fun h35 => ?_) (fun h35 => ?_)
      · skip
        have e : ¬ T2 b L p = 0 := fun q => h35 (by rw [q]; rfl)
        have hne : ¬ (0 < i ∧ T2 b L p = 0) := fun q => e q.2
        exact j44 hne
      · skip
        have e : T2 b L p = 0 := (nI_eq (b := 0) (by omega) (by omega)).mp h35
        refine GG.iload_n e_X7_readInto_38 (i := 2) rfl 0 rfl ?_
        refine GG.if_le (tgt := 44) e_X7_readInto_39 rfl (fun h39 => ?_) (fun h39 => ?_)
        · skip
          have hne : ¬ (0 < i ∧ T2 b L p = 0) := fun q => by have := nle (b := 0) h39 (by omega) (by omega); omega
          exact j44 hne
        · skip
          have e2 : 0 < i := nnle (b := 0) h39 (by omega) (by omega)
          refine GG.iload_n e_X7_readInto_42 (i := 2) rfl 0 rfl ?_
          refine GG.iret e_X7_readInto_43 rfl rfl ?_
          exact hend _ i p S e2 (by omega) hR e hm2 hA2
  refine SPC.of (by decide +kernel) (Nat.le_of_ble_eq_true rfl) (ls := [(0, .ref (46)), (1, .ref (51))]) rfl ?_
  refine GG.aload_n e_X7_readInto_0 (i := 1) rfl 1 rfl ?_
  refine GG.ifnonnull (tgt := 7) e_X7_readInto_1 rfl ?_
  refine GG.aload_n e_X7_readInto_7 (i := 1) rfl 1 rfl ?_
  refine GG.bipush (v := 12) e_X7_readInto_8 rfl ?_
  refine GG.callV (d' := 0) (a := 51) (as := [.int _]) e_X7_readInto_10 ml_X7_26 mf_X4_startAgain mv_X4_startAgain (rc_X4 i_X4_51) rfl (by decide) (Nat.le_of_ble_eq_true rfl) rfl ?_
  refine s_X4_startAgain i_X4_51 ?_
  refine GG.aload_n e_X7_readInto_13 (i := 0) rfl 0 rfl ?_
  refine GG.iconst (v := 0) e_X7_readInto_14 rfl ?_
  refine GG.putI e_X7_readInto_15 fl_X7_32 fp_X7_4 (sf_X7_4 i_X7_46) ?_
  refine GG.iconst (v := 0) e_X7_readInto_18 rfl ?_
  refine GG.istore_n e_X7_readInto_19 (i := 2) rfl (Nat.le_of_ble_eq_true rfl) (ls' := [(2, .int _), (0, .ref _), (1, .ref _)]) rfl ?_
  refine lp 152 0 0 aS0 _ (by omega) ⟨rfl, rfl⟩ ⟨?_, hL150, ?_, Nat.zero_le _⟩ ?_ ?_ ?_
  · simp [mrd_wr, mrd_St, hL0]
  · simp [mrd_wr]; rfl
  · refine ⟨⟨?_, by omega, ?_, by omega⟩, ?_, ?_, ?_, ?_, fun k hk => by omega, fun k hk => by omega⟩ <;> simp [mrd_wr, mrd_St] <;> rfl
  · refine ⟨fun c j q => ?_, fun _ _ => rfl⟩
    have q1 : ¬ c = 51 := fun z => q (scr_51 (by omega) (by omega))
    have q2 : ¬ (c = 46 ∧ j = 4) := fun z => q (Or.inl (by omega))
    rw [mrd_wr, if_neg q2, mrd_St, if_neg (fun z => q1 z.1), if_neg (fun z => q1 z.1)]
  · rw [← hb]; exact funext fun j => by simp [mrd_wr, mrd_St]
end S29
