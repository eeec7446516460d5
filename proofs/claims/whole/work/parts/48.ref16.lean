/-! THE REFERENCE: the text, words and numbers -/
def rW68 (i k : Nat) : Int32 := if k < gLen.getD i 0 then (gByt.getD i []).getD k 0 else 0
def rWi (b : Nat → Int32) (s e i : Nat) : Bool := decide (e - s ≤ 6) && mAll (fun k => decide ((if s + k < e then b (s + k) else 0) = rW68 i k)) 6
theorem tEx_all {b : Nat → Int32} {L kd : Nat} : ∀ n q k, q ≤ k → k < tEx b L kd n q → tKd (b k) = kd := by
  intro n
  induction n with
  | zero => intro q k h1 h2; rw [tEx] at h2; omega
  | succ n ih =>
    intro q k h1 h2
    rw [tEx] at h2
    split at h2
    · next h =>
      by_cases e : k = q
      · rw [e]; exact h.2
      · exact ih (q + 1) k (by omega) h2
    · omega
theorem tLet {b : Nat → Int32} {L p : Nat} (h : T2 b L p = 1) : ∀ k, T1 b L p ≤ k → k < T3 b L p → tKd (b k) = 1 := by
  intro k h1 h2
  unfold T3 at h2
  rw [if_neg (by omega), if_pos (Or.inl h), h] at h2
  by_cases e : k = T1 b L p
  · unfold T2 at h
    split at h
    · rw [e]; exact h
    · cases h
  · exact tEx_all _ _ k (by omega) h2
theorem tKd_n0 {v : Int32} (h : tKd v = 1) : ¬ v = 0 := by
  rintro rfl
  exact absurd h (by decide)
theorem gLen_pos : ∀ i, i < 5 → gLen.getD i 0 ≤ 6 ∧ ∀ k, k < gLen.getD i 0 → ¬ (gByt.getD i []).getD k 0 = 0 := by
  intro i hi
  refine ⟨(gLen_s i hi).2, ?_⟩
  have : ∀ i, i < 5 → ∀ k, k < 6 → k < gLen.getD i 0 → ¬ (gByt.getD i []).getD k 0 = 0 := by decide +kernel
  intro k hk
  exact this i hi k (by have := (gLen_s i hi).2; omega) hk
/-- the words as the row holds them are the words as the constants hold them -/
theorem rWi_t {b : Nat → Int32} {s e i : Nat} (hi : i < 5) (hse : s ≤ e) (hl : ∀ k, s ≤ k → k < e → tKd (b k) = 1) : rWi b s e i = tWi b s e i := by
  obtain ⟨h6, hn⟩ := gLen_pos i hi
  rw [Bool.eq_iff_iff]
  unfold rWi tWi
  rw [Bool.and_eq_true, Bool.and_eq_true, decide_eq_true_eq, decide_eq_true_eq, mAll_iff, mAll_iff]
  constructor
  · rintro ⟨h1, h2⟩
    have hlen : e - s = gLen.getD i 0 := by
      rcases Nat.lt_trichotomy (e - s) (gLen.getD i 0) with h | h | h
      · have z := of_decide_eq_true (h2 (e - s) (by omega))
        rw [if_neg (by omega)] at z
        unfold rW68 at z
        rw [if_pos h] at z
        exact absurd z.symm (hn _ h)
      · exact h
      · have z := of_decide_eq_true (h2 (gLen.getD i 0) (by omega))
        rw [if_pos (by omega)] at z
        unfold rW68 at z
        rw [if_neg (by omega)] at z
        exact absurd z (tKd_n0 (hl _ (by omega) (by omega)))
    refine ⟨hlen, fun k hk => decide_eq_true ?_⟩
    have z := of_decide_eq_true (h2 k (by omega))
    rw [if_pos (by omega)] at z
    unfold rW68 at z
    rw [if_pos hk] at z
    exact z.symm
  · rintro ⟨h1, h2⟩
    refine ⟨by omega, fun k hk => decide_eq_true ?_⟩
    unfold rW68
    by_cases h : k < gLen.getD i 0
    · rw [if_pos (by omega), if_pos h]
      exact (of_decide_eq_true (h2 k h)).symm
    · rw [if_neg (by omega), if_neg h]
/-- the text's and the token's places: length, bytes, words -/
def TR (μ : gM) (b : Nat → Int32) (L p : Nat) : Prop := mrd μ 63 6 = nI L ∧ L ≤ 150 ∧ mrd μ 63 9 = nI p ∧ p ≤ L ∧ mrd μ 67 = b ∧ ∀ i k, i < 5 → k < 6 → mrd μ 68 (6 * i + k) = rW68 i k
def gRt (μ ν : gM) : Prop := (∀ c j, ¬ (c = 63 ∧ (j = 8 ∨ j = 9)) → mrd ν c j = mrd μ c j) ∧ ∀ c j, mrL ν c j = mrL μ c j
theorem gRt.rf (μ : gM) : gRt μ μ := ⟨fun _ _ _ => rfl, fun _ _ => rfl⟩
theorem gRt.tr {μ ν ξ : gM} (h : gRt μ ν) (h2 : gRt ν ξ) : gRt μ ξ := ⟨fun c j q => (h2.1 c j q).trans (h.1 c j q), fun c j => (h2.2 c j).trans (h.2 c j)⟩
section S48
variable {μ : gM} {Q : Option Value → gM → Prop} {L k p s e i : Nat} {b : Nat → Int32} {lo hi : Int32}
theorem TR.nx (h : TR μ b L p) : TR (mwr (mwr μ 63 8 (nI (T1 b L p))) 63 9 (nI (T3 b L p))) b L (T3 b L p) ∧ gRt μ (mwr (mwr μ 63 8 (nI (T1 b L p))) 63 9 (nI (T3 b L p))) ∧ mrd (mwr (mwr μ 63 8 (nI (T1 b L p))) 63 9 (nI (T3 b L p))) 63 8 = nI (T1 b L p) := by
  obtain ⟨h1, h2, h3, h4, h5, h6⟩ := h
  refine ⟨⟨?_, h2, ?_, (T3_b h4).2.1, ?_, fun i k hi hk => ?_⟩, ⟨fun c j q => ?_, fun c j => rfl⟩, ?_⟩
  · simp [mrd_wr, h1]
  · simp [mrd_wr]
  · rw [← h5]; funext j; simp [mrd_wr]
  · rw [← h6 i k hi hk]; simp [mrd_wr]
  · rw [mrd_wr, if_neg (by omega), mrd_wr, if_neg (by omega)]
  · simp [mrd_wr]
theorem TR.next (h : TR μ b L p) (hQ : ∀ ν, gRt μ ν → TR ν b L (T3 b L p) → mrd ν 63 8 = nI (T1 b L p) → Q none ν) : SPC 2 MX11_next [.ref 63] μ Q :=
  s_X11_next h.1 h.2.1 h.2.2.1 h.2.2.2.1 h.2.2.2.2.1 (hQ _ h.nx.2.1 h.nx.1 h.nx.2.2)
theorem s_X11_isWord (hi5 : i < 5) (hs : mrd μ 63 8 = nI s) (hse : s ≤ e) (heL : e ≤ L) (h : TR μ b L e) (hQ : Q (some (.int (bI (rWi b s e i)))) μ) : SPC 0 MX11_isWord [.ref 63, .int (nI i)] μ Q := by
  obtain ⟨t1, t2, t3, t4, t5, t6⟩ := h
  have hw : ∀ k, k < 6 → mrd μ 68 (6 * i + k) = rW68 i k := fun k hk => t6 i k hi5 hk
  generalize hf : (fun k => decide ((if s + k < e then b (s + k) else 0) = rW68 i k)) = f
  have hfk : ∀ k, f k = decide ((if s + k < e then b (s + k) else 0) = rW68 i k) := fun k => by rw [← hf]
  unfold rWi at hQ
  rw [hf] at hQ
  have lp : ∀ n j, 6 - j < n → j ≤ 6 → GG 0 MX11_isWord 22 [(3, .int (nI j)), (2, .int (bI (decide (e - s ≤ 6) && mAll f j))), (0, .ref 63), (1, .int (nI i))] [] μ Q := by
    intro n
    induction n with
    | zero => intro j h; omega
    | succ n ih =>
      intro j hn hj
      have j60 : ∀ x, x = (if s + j < e then b (s + j) else 0) → (decide (e - s ≤ 6) && mAll f j) = true → j < 6 → GG 0 MX11_isWord 60 [(3, .int (nI j)), (2, .int (bI (decide (e - s ≤ 6) && mAll f j))), (0, .ref 63), (1, .int (nI i))] [.int x] μ Q := by
        intro x hx hm hj6
        have hcont : GG 0 MX11_isWord 83 [(4, .int x), (3, .int (nI j)), (2, .int (bI (decide (e - s ≤ 6) && mAll f j))), (0, .ref 63), (1, .int (nI i))] [.int (bI (f j))] μ Q := by
          refine GG.istore_n e_X11_isWord_83 (i := 2) rfl (Nat.le_of_ble_eq_true rfl) (ls' := [(2, .int _), (4, .int _), (3, .int _), (0, .ref _), (1, .int _)]) rfl ?_
          refine GG.iinc e_X11_isWord_84 2 rfl (v := _) (by first | exact nI_s _ | exact nI_d _ | rfl) (Nat.le_of_ble_eq_true rfl) (ls' := [(3, .int _), (2, .int _), (4, .int _), (0, .ref _), (1, .int _)]) rfl ?_
          refine GG.goto (tgt := 22) e_X11_isWord_87 rfl ?_
          refine GG.perm [0, 1, 3, 4] rfl ?_
          have g := ih (j + 1) (by omega) (by omega)
          rw [mAll, ← Bool.and_assoc, hm, Bool.true_and] at g
          exact g
        refine GG.istore e_X11_isWord_60 (Nat.le_of_ble_eq_true rfl) (ls' := [(4, .int _), (3, .int _), (2, .int _), (0, .ref _), (1, .int _)]) rfl ?_
        refine GG.iload e_X11_isWord_62 0 rfl ?_
        refine GG.aload_n e_X11_isWord_64 (i := 0) rfl 3 rfl ?_
        refine GG.getR (b := 68) e_X11_isWord_65 fl_X11_27 (sf_X11_7 i_X11_63) ?_
        refine GG.bipush (v := 6) e_X11_isWord_68 rfl ?_
        refine GG.iload_n e_X11_isWord_70 (i := 1) rfl 4 rfl ?_
        refine GG.imul e_X11_isWord_71 ?_
        refine GG.top (pk_mul 6 i) ?_
        refine GG.iload_n e_X11_isWord_72 (i := 3) rfl 1 rfl ?_
        refine GG.iadd e_X11_isWord_73 ?_
        refine GG.top (nI_add (6 * i) j) ?_
        refine GG.ialoadV (k := 6 * i + j) (v := rW68 i j) e_X11_isWord_74 (sa_X11_7 i_X11_63) (rfl) (by omega) (Nat.le_of_ble_eq_true rfl) (hw j hj6) ?_
        refine GG.icmp_ne (tgt := 82) e_X11_isWord_75 rfl (fun h75 => ?_) (fun h75 => ?_)
        · skip
          have g : f j = false := by rw [hfk, ← hx]; exact decide_eq_false h75
          refine GG.iconst (v := 0) e_X11_isWord_82 rfl ?_
          rw [g] at hcont
          exact hcont
        · skip
          have g : f j = true := by rw [hfk, ← hx]; exact decide_eq_true (by simpa using h75)
          refine GG.iconst (v := 1) e_X11_isWord_78 rfl ?_
          refine GG.goto (tgt := 83) e_X11_isWord_79 rfl ?_
          rw [g] at hcont
          exact hcont
      refine GG.iload_n e_X11_isWord_22 (i := 3) rfl 0 rfl ?_
      refine GG.bipush (v := 6) e_X11_isWord_23 rfl ?_
      refine GG.icmp_ge (tgt := 90) e_X11_isWord_25 rfl (fun h25 => ?_) (fun h25 => ?_)
      · skip
        have e6 := nle (a := 6) h25 (by omega) (by omega)
        have ej : j = 6 := by omega
        subst ej
        refine GG.iload_n e_X11_isWord_90 (i := 2) rfl 1 rfl ?_
        refine GG.zret e_X11_isWord_91 rfl (gZ_n (bI_z _)) rfl ?_
        first | exact hQ | exact qI hQ (by rw [g, g6])
      · skip
        have e6 := nnle (a := 6) h25 (by omega) (by omega)
        refine GG.iload_n e_X11_isWord_28 (i := 2) rfl 1 rfl ?_
        refine GG.if_eq (tgt := 90) e_X11_isWord_29 rfl (fun h29 => ?_) (fun h29 => ?_)
        · skip
          have g : (decide (e - s ≤ 6) && mAll f j) = false := (bI_0 _).mp h29
          have g6 : (decide (e - s ≤ 6) && mAll f 6) = false := by cases hd : decide (e - s ≤ 6) with | false => rfl | true => rw [hd, Bool.true_and] at g; rw [Bool.true_and]; exact mAll_stop g (by omega)
          refine GG.iload_n e_X11_isWord_90 (i := 2) rfl 1 rfl ?_
          refine GG.zret e_X11_isWord_91 rfl (gZ_n (bI_z _)) rfl ?_
          first | exact hQ | exact qI hQ (by rw [g, g6])
        · skip
          have g : (decide (e - s ≤ 6) && mAll f j) = true := (bI_n0 _).mp h29
          refine GG.aload_n e_X11_isWord_32 (i := 0) rfl 2 rfl ?_
          refine GG.getIv (v := nI s) e_X11_isWord_33 fl_X11_78 (sf_X11_8 i_X11_63) (hs) ?_
          refine GG.iload_n e_X11_isWord_36 (i := 3) rfl 0 rfl ?_
          refine GG.iadd e_X11_isWord_37 ?_
          refine GG.top (nI_add s j) ?_
          refine GG.aload_n e_X11_isWord_38 (i := 0) rfl 2 rfl ?_
          refine GG.getIv (v := nI e) e_X11_isWord_39 fl_X11_75 (sf_X11_9 i_X11_63) (t3) ?_
          refine GG.icmp_ge (tgt := 59) e_X11_isWord_42 rfl (fun h42 => ?_) (fun h42 => ?_)
          · skip
            have e7 := nle h42 (by omega) (by omega)
            refine GG.iconst (v := 0) e_X11_isWord_59 rfl ?_
            refine j60 _ ?_ g e6
            first | rw [if_pos e7, t5] | rw [if_neg (by omega)]
          · skip
            have e7 := nnle h42 (by omega) (by omega)
            refine GG.aload_n e_X11_isWord_45 (i := 0) rfl 2 rfl ?_
            refine GG.getR (b := 67) e_X11_isWord_46 fl_X11_24 (sf_X11_5 i_X11_63) ?_
            refine GG.aload_n e_X11_isWord_49 (i := 0) rfl 2 rfl ?_
            refine GG.getIv (v := nI s) e_X11_isWord_50 fl_X11_78 (sf_X11_8 i_X11_63) (hs) ?_
            refine GG.iload_n e_X11_isWord_53 (i := 3) rfl 0 rfl ?_
            refine GG.iadd e_X11_isWord_54 ?_
            refine GG.top (nI_add s j) ?_
            refine GG.ialoadE (k := s + j) e_X11_isWord_55 (sa_X11_5 i_X11_63) (rfl) (by omega) (Nat.le_of_ble_eq_true rfl) ?_
            refine GG.goto (tgt := 60) e_X11_isWord_56 rfl ?_
            refine j60 _ ?_ g e6
            first | rw [if_pos e7, t5] | rw [if_neg (by omega)]
  have hi150 : e ≤ 150 := by omega
  refine SPC.of (by decide +kernel) (Nat.le_of_ble_eq_true rfl) (ls := [(0, .ref (63)), (1, .int (nI i))]) rfl ?_
  refine GG.aload_n e_X11_isWord_0 (i := 0) rfl 0 rfl ?_
  refine GG.getIv (v := nI e) e_X11_isWord_1 fl_X11_75 (sf_X11_9 i_X11_63) (t3) ?_
  refine GG.aload_n e_X11_isWord_4 (i := 0) rfl 0 rfl ?_
  refine GG.getIv (v := nI s) e_X11_isWord_5 fl_X11_78 (sf_X11_8 i_X11_63) (hs) ?_
  refine GG.isub e_X11_isWord_8 ?_
  refine GG.top (pk_sub hse) ?_
  refine GG.bipush (v := 6) e_X11_isWord_9 rfl ?_
  refine GG.icmp_gt (tgt := 18) e_X11_isWord_11 rfl (fun h11 => ?_) (fun h11 => ?_)
  · skip
    have g := nlt (a := 6) h11 (by omega) (by omega)
    have g2 := lp 7 0 (by omega) (by omega)
    rw [decide_eq_false (show ¬ e - s ≤ 6 by omega)] at g2
    refine GG.iconst (v := 0) e_X11_isWord_18 rfl ?_
    refine GG.istore_n e_X11_isWord_19 (i := 2) rfl (Nat.le_of_ble_eq_true rfl) (ls' := [(2, .int _), (0, .ref _), (1, .int _)]) rfl ?_
    refine GG.iconst (v := 0) e_X11_isWord_20 rfl ?_
    refine GG.istore_n e_X11_isWord_21 (i := 3) rfl (Nat.le_of_ble_eq_true rfl) (ls' := [(3, .int _), (2, .int _), (0, .ref _), (1, .int _)]) rfl ?_
    exact g2
  · skip
    have g := nnlt (a := 6) h11 (by omega) (by omega)
    have g2 := lp 7 0 (by omega) (by omega)
    rw [decide_eq_true (show e - s ≤ 6 by omega)] at g2
    refine GG.iconst (v := 1) e_X11_isWord_14 rfl ?_
    refine GG.goto (tgt := 19) e_X11_isWord_15 rfl ?_
    refine GG.istore_n e_X11_isWord_19 (i := 2) rfl (Nat.le_of_ble_eq_true rfl) (ls' := [(2, .int _), (0, .ref _), (1, .int _)]) rfl ?_
    refine GG.iconst (v := 0) e_X11_isWord_20 rfl ?_
    refine GG.istore_n e_X11_isWord_21 (i := 3) rfl (Nat.le_of_ble_eq_true rfl) (ls' := [(3, .int _), (2, .int _), (0, .ref _), (1, .int _)]) rfl ?_
    exact g2
theorem s_X11_wordHere (hs : mrd μ 63 8 = nI (T1 b L p)) (hpL : p ≤ L) (h : TR μ b L (T3 b L p)) (hQ : Q (some (.int (nI (tWd b L p) - 1))) μ) : SPC 2 MX11_wordHere [.ref 63] μ Q := by
  have t1 := T1_b (b := b) hpL
  have t3 := T3_b (b := b) hpL
  have hL := h.2.1
  have kd0 : decide (T1 b L p < L ∧ tKd (b (T1 b L p)) = 1) = decide (T2 b L p = 1) := by
    unfold T2
    split
    · next g => rw [decide_eq_decide]; exact ⟨fun z => z.2, fun z => ⟨g, z⟩⟩
    · next g => rw [decide_eq_decide]; exact ⟨fun z => absurd z.1 g, fun z => by cases z⟩
  have w : ∀ i, i < 5 → T2 b L p = 1 → ∀ (Q : Option Value → gM → Prop), Q (some (.int (bI (tWi b (T1 b L p) (T3 b L p) i)))) μ → SPC 0 MX11_isWord [.ref 63, .int (nI i)] μ Q := fun i hi g Q q =>
    s_X11_isWord hi hs t3.1 t3.2.1 h (by rw [rWi_t hi t3.1 (tLet g)]; exact q)
  have lt : ∀ (Q : Option Value → gM → Prop), Q (some (.int (bI (decide (T2 b L p = 1))))) μ → SPC 1 MX11_isLetter [.ref 63, .int (nI (T1 b L p))] μ Q := fun Q q => (s_X11_isKd (kd := 1) h.1 hL (by omega) h.2.2.2.2.1 (by rw [kd0]; exact q)).1 rfl
  have lp : ∀ n j, 5 - j < n → j ≤ 5 → (T2 b L p = 1 → ∀ q, q < j → tWi b (T1 b L p) (T3 b L p) q = false) → GG 2 MX11_wordHere 2 [(1, .int (nI j)), (0, .ref 63)] [] μ Q := by
    intro n
    induction n with
    | zero => intro j h; omega
    | succ n ih =>
      intro j hn hj hq
      refine GG.iload_n e_X11_wordHere_2 (i := 1) rfl 0 rfl ?_
      refine GG.iconst (v := 5) e_X11_wordHere_3 rfl ?_
      refine GG.icmp_ge (tgt := 34) e_X11_wordHere_4 rfl (fun h4 => ?_) (fun h4 => ?_)
      · skip
        have e6 := nle (a := 5) h4 (by omega) (by omega)
        have ej : j = 5 := by omega
        subst ej
        refine GG.iconst (v := -1) e_X11_wordHere_34 rfl ?_
        refine GG.iret e_X11_wordHere_35 rfl rfl ?_
        refine qI hQ ?_
        unfold tWd
        by_cases g : T2 b L p = 1
        · have q0 := hq g
          rw [if_pos g, if_neg (by rw [q0 0 (by omega)]; decide), if_neg (by rw [q0 1 (by omega)]; decide), if_neg (by rw [q0 2 (by omega)]; decide), if_neg (by rw [q0 3 (by omega)]; decide), if_neg (by rw [q0 4 (by omega)]; decide)]; rfl
        · rw [if_neg g]; rfl
      · skip
        have e6 := nnle (a := 5) h4 (by omega) (by omega)
        refine GG.aload_n e_X11_wordHere_7 (i := 0) rfl 1 rfl ?_
        refine GG.aload_n e_X11_wordHere_8 (i := 0) rfl 1 rfl ?_
        refine GG.getIv (v := nI (T1 b L p)) e_X11_wordHere_9 fl_X11_78 (sf_X11_8 i_X11_63) (hs) ?_
        refine GG.callV (d' := 1) (a := 63) (as := [.int _]) e_X11_wordHere_12 ml_X11_81 mf_X11_isLetter mv_X11_isLetter (rc_X11 i_X11_63) rfl (by decide) (Nat.le_of_ble_eq_true rfl) rfl ?_
        refine lt _ ?_
        refine GG.if_eq (tgt := 28) e_X11_wordHere_15 rfl (fun h15 => ?_) (fun h15 => ?_)
        · skip
          have g := of_decide_eq_false ((bI_0 _).mp h15)
          have g2 : T2 b L p = 1 → ∀ q, q < j + 1 → tWi b (T1 b L p) (T3 b L p) q = false := fun z => absurd z g
          refine GG.iinc e_X11_wordHere_28 0 rfl (v := _) (by first | exact nI_s _ | exact nI_d _ | rfl) (Nat.le_of_ble_eq_true rfl) (ls' := [(1, .int _), (0, .ref _)]) rfl ?_
          refine GG.goto (tgt := 2) e_X11_wordHere_31 rfl ?_
          exact ih (j + 1) (by omega) (by omega) g2
        · skip
          have g : T2 b L p = 1 := of_decide_eq_true ((bI_n0 _).mp h15)
          refine GG.aload_n e_X11_wordHere_18 (i := 0) rfl 1 rfl ?_
          refine GG.iload_n e_X11_wordHere_19 (i := 1) rfl 0 rfl ?_
          refine GG.callV (d' := 0) (a := 63) (as := [.int _]) e_X11_wordHere_20 ml_X11_88 mf_X11_isWord mv_X11_isWord (rc_X11 i_X11_63) rfl (by decide) (Nat.le_of_ble_eq_true rfl) rfl ?_
          refine w j e6 g _ ?_
          refine GG.if_eq (tgt := 28) e_X11_wordHere_23 rfl (fun h23 => ?_) (fun h23 => ?_)
          · skip
            have z0 := (bI_0 _).mp h23
            have g2 : T2 b L p = 1 → ∀ q, q < j + 1 → tWi b (T1 b L p) (T3 b L p) q = false := fun z q hqj => by
              by_cases e : q = j
              · rw [e]; exact z0
              · exact hq z q (by omega)
            refine GG.iinc e_X11_wordHere_28 0 rfl (v := _) (by first | exact nI_s _ | exact nI_d _ | rfl) (Nat.le_of_ble_eq_true rfl) (ls' := [(1, .int _), (0, .ref _)]) rfl ?_
            refine GG.goto (tgt := 2) e_X11_wordHere_31 rfl ?_
            exact ih (j + 1) (by omega) (by omega) g2
          · skip
            have z1 := (bI_n0 _).mp h23
            refine GG.iload_n e_X11_wordHere_26 (i := 1) rfl 0 rfl ?_
            refine GG.iret e_X11_wordHere_27 rfl rfl ?_
            refine qI hQ ?_
            have q0 := hq g
            have e : j = 0 ∨ j = 1 ∨ j = 2 ∨ j = 3 ∨ j = 4 := by omega
            unfold tWd
            rw [if_pos g]
            rcases e with rfl | rfl | rfl | rfl | rfl
            · rw [if_pos z1]; rfl
            · rw [if_neg (by rw [q0 0 (by omega)]; decide), if_pos z1]; rfl
            · rw [if_neg (by rw [q0 0 (by omega)]; decide), if_neg (by rw [q0 1 (by omega)]; decide), if_pos z1]; rfl
            · rw [if_neg (by rw [q0 0 (by omega)]; decide), if_neg (by rw [q0 1 (by omega)]; decide), if_neg (by rw [q0 2 (by omega)]; decide), if_pos z1]; rfl
            · rw [if_neg (by rw [q0 0 (by omega)]; decide), if_neg (by rw [q0 1 (by omega)]; decide), if_neg (by rw [q0 2 (by omega)]; decide), if_neg (by rw [q0 3 (by omega)]; decide), if_pos z1]; rfl
  refine SPC.of (by decide +kernel) (Nat.le_of_ble_eq_true rfl) (ls := [(0, .ref (63))]) rfl ?_
  refine GG.iconst (v := 0) e_X11_wordHere_0 rfl ?_
  refine GG.istore_n e_X11_wordHere_1 (i := 1) rfl (Nat.le_of_ble_eq_true rfl) (ls' := [(1, .int _), (0, .ref _)]) rfl ?_
  exact lp 6 0 (by omega) (by omega) (fun _ q hq => by omega)
theorem s_X11_number (h : TR μ b L p) (hQ : ∀ ν, gRt μ ν → TR ν b L (T3 b L p) → mrd ν 63 8 = nI (T1 b L p) → Q (some (.int (if tNk b L p lo hi = true then tVal b L p else -1))) ν) : SPC 3 MX11_number [.ref 63, .int lo, .int hi] μ Q := by
  have hpL := h.2.2.2.1
  have hL := h.2.1
  have t1 := T1_b (b := b) hpL
  have t3 := T3_b (b := b) hpL
  obtain ⟨n1, n2, n3⟩ := h.nx
  have kd0 : decide (T1 b L p < L ∧ tKd (b (T1 b L p)) = 2) = decide (T2 b L p = 2) := by
    unfold T2
    split
    · next g => rw [decide_eq_decide]; exact ⟨fun z => z.2, fun z => ⟨g, z⟩⟩
    · next g => rw [decide_eq_decide]; exact ⟨fun z => absurd z.1 g, fun z => by cases z⟩
  have fg : ∀ ν, TR ν b L (T3 b L p) → ∀ (Q : Option Value → gM → Prop), Q (some (.int (bI (decide (T2 b L p = 2))))) ν → SPC 1 MX11_isFigure [.ref 63, .int (nI (T1 b L p))] ν Q := fun ν g2 Q q => (s_X11_isKd (kd := 2) g2.1 hL (by omega) g2.2.2.2.2.1 (by rw [kd0]; exact q)).2 rfl
  have j79 : ∀ ν, gRt μ ν → TR ν b L (T3 b L p) → mrd ν 63 8 = nI (T1 b L p) → T2 b L p = 2 → T3 b L p - T1 b L p ≤ 2 → ∀ x y, y = tVal b L p → GG 3 MX11_number 79 [(3, .int x), (0, .ref 63), (1, .int lo), (2, .int hi)] [.int y] ν Q := by
    intro ν g1 g2 g3 e2 e3 x y hy
    subst hy
    have q := hQ ν g1 g2 g3
    refine GG.istore_n e_X11_number_79 (i := 3) rfl (Nat.le_of_ble_eq_true rfl) (ls' := [(3, .int _), (0, .ref _), (1, .int _), (2, .int _)]) rfl ?_
    refine GG.iload_n e_X11_number_80 (i := 3) rfl 0 rfl ?_
    refine GG.iload_n e_X11_number_81 (i := 1) rfl 2 rfl ?_
    refine GG.iload_n e_X11_number_82 (i := 2) rfl 3 rfl ?_
    refine GG.callS (d' := 0) (as := [.int _, .int _, .int _]) e_X11_number_83 ml_X11_51 mf_X11_in ms_X11_in rfl (by decide) (Nat.le_of_ble_eq_true rfl) rfl ?_
    refine s_X11_in ?_
    refine GG.if_eq (tgt := 93) e_X11_number_86 rfl (fun h86 => ?_) (fun h86 => ?_)
    · skip
      have e5 := of_decide_eq_false ((bI_0 _).mp h86)
      have en : tNk b L p lo hi = false := by rw [tNk, decide_eq_false_iff_not]; exact fun z => e5 z.2.2
      refine GG.iconst (v := -1) e_X11_number_93 rfl ?_
      refine GG.iret e_X11_number_94 rfl rfl ?_
      exact qI q (by rw [en]; rfl)
    · skip
      have e5 := of_decide_eq_true ((bI_n0 _).mp h86)
      have en : tNk b L p lo hi = true := by rw [tNk, decide_eq_true_eq]; exact ⟨e2, e3, e5⟩
      refine GG.iload_n e_X11_number_89 (i := 3) rfl 0 rfl ?_
      refine GG.goto (tgt := 94) e_X11_number_90 rfl ?_
      refine GG.iret e_X11_number_94 rfl rfl ?_
      exact qI q (by rw [en]; rfl)
  refine SPC.of (by decide +kernel) (Nat.le_of_ble_eq_true rfl) (ls := [(0, .ref (63)), (1, .int (lo)), (2, .int (hi))]) rfl ?_
  refine GG.aload_n e_X11_number_0 (i := 0) rfl 0 rfl ?_
  refine GG.callV (d' := 2) (a := 63) (as := []) e_X11_number_1 ml_X11_91 mf_X11_next mv_X11_next (rc_X11 i_X11_63) rfl (by decide) (Nat.le_of_ble_eq_true rfl) rfl ?_
  refine h.next (fun ν g1 g2 g3 => ?_)
  have q := hQ ν g1 g2 g3
  have g9 := g2.2.2.1
  have gb := g2.2.2.2.2.1
  refine GG.aload_n e_X11_number_4 (i := 0) rfl 0 rfl ?_
  refine GG.aload_n e_X11_number_5 (i := 0) rfl 0 rfl ?_
  refine GG.getIv (v := nI (T1 b L p)) e_X11_number_6 fl_X11_78 (sf_X11_8 i_X11_63) (g3) ?_
  refine GG.callV (d' := 1) (a := 63) (as := [.int _]) e_X11_number_9 ml_X11_85 mf_X11_isFigure mv_X11_isFigure (rc_X11 i_X11_63) rfl (by decide) (Nat.le_of_ble_eq_true rfl) rfl ?_
  refine fg ν g2 _ ?_
  refine GG.if_eq (tgt := 28) e_X11_number_12 rfl (fun h12 => ?_) (fun h12 => ?_)
  · skip
    have e2 := of_decide_eq_false ((bI_0 _).mp h12)
    have en : tNk b L p lo hi = false := by rw [tNk, decide_eq_false_iff_not]; exact fun z => e2 z.1
    refine GG.iconst (v := -1) e_X11_number_28 rfl ?_
    refine GG.iret e_X11_number_29 rfl rfl ?_
    exact qI q (by rw [en]; rfl)
  · skip
    have e2 : T2 b L p = 2 := of_decide_eq_true ((bI_n0 _).mp h12)
    have t33 := t3.2.2 (by omega)
    refine GG.aload_n e_X11_number_15 (i := 0) rfl 0 rfl ?_
    refine GG.getIv (v := nI (T3 b L p)) e_X11_number_16 fl_X11_75 (sf_X11_9 i_X11_63) (g9) ?_
    refine GG.aload_n e_X11_number_19 (i := 0) rfl 0 rfl ?_
    refine GG.getIv (v := nI (T1 b L p)) e_X11_number_20 fl_X11_78 (sf_X11_8 i_X11_63) (g3) ?_
    refine GG.isub e_X11_number_23 ?_
    refine GG.top (pk_sub t3.1) ?_
    refine GG.iconst (v := 2) e_X11_number_24 rfl ?_
    refine GG.icmp_le (tgt := 30) e_X11_number_25 rfl (fun h25 => ?_) (fun h25 => ?_)
    · skip
      have e3 := nle (b := 2) h25 (by omega) (by omega)
      refine GG.aload_n e_X11_number_30 (i := 0) rfl 0 rfl ?_
      refine GG.getR (b := 67) e_X11_number_31 fl_X11_24 (sf_X11_5 i_X11_63) ?_
      refine GG.aload_n e_X11_number_34 (i := 0) rfl 0 rfl ?_
      refine GG.getIv (v := nI (T1 b L p)) e_X11_number_35 fl_X11_78 (sf_X11_8 i_X11_63) (g3) ?_
      refine GG.ialoadV (k := T1 b L p) (v := b (T1 b L p)) e_X11_number_38 (sa_X11_5 i_X11_63) (rfl) (by omega) (Nat.le_of_ble_eq_true rfl) (by rw [gb]) ?_
      refine GG.bipush (v := 48) e_X11_number_39 rfl ?_
      refine GG.isub e_X11_number_41 ?_
      refine GG.istore_n e_X11_number_42 (i := 3) rfl (Nat.le_of_ble_eq_true rfl) (ls' := [(3, .int _), (0, .ref _), (1, .int _), (2, .int _)]) rfl ?_
      refine GG.aload_n e_X11_number_43 (i := 0) rfl 1 rfl ?_
      refine GG.getIv (v := nI (T3 b L p)) e_X11_number_44 fl_X11_75 (sf_X11_9 i_X11_63) (g9) ?_
      refine GG.aload_n e_X11_number_47 (i := 0) rfl 1 rfl ?_
      refine GG.getIv (v := nI (T1 b L p)) e_X11_number_48 fl_X11_78 (sf_X11_8 i_X11_63) (g3) ?_
      refine GG.isub e_X11_number_51 ?_
      refine GG.top (pk_sub t3.1) ?_
      refine GG.iconst (v := 2) e_X11_number_52 rfl ?_
      refine GG.icmp_ne (tgt := 78) e_X11_number_53 rfl (fun h53 => ?_) (fun h53 => ?_)
      · skip
        have e4 : T3 b L p - T1 b L p = 1 := by have := mt (nI_eq (a := T3 b L p - T1 b L p) (b := 2) (by omega) (by omega)).mpr h53; omega
        refine GG.iload_n e_X11_number_78 (i := 3) rfl 0 rfl ?_
        refine j79 ν g1 g2 g3 e2 (by omega) _ _ ?_
        unfold tVal
        rw [e4]
        simp [tAcc]
      · skip
        have e4 : T3 b L p - T1 b L p = 2 := (nI_eq (b := 2) (by omega) (by omega)).mp h53
        refine GG.bipush (v := 10) e_X11_number_56 rfl ?_
        refine GG.iload_n e_X11_number_58 (i := 3) rfl 0 rfl ?_
        refine GG.imul e_X11_number_59 ?_
        refine GG.aload_n e_X11_number_60 (i := 0) rfl 1 rfl ?_
        refine GG.getR (b := 67) e_X11_number_61 fl_X11_24 (sf_X11_5 i_X11_63) ?_
        refine GG.aload_n e_X11_number_64 (i := 0) rfl 1 rfl ?_
        refine GG.getIv (v := nI (T1 b L p)) e_X11_number_65 fl_X11_78 (sf_X11_8 i_X11_63) (g3) ?_
        refine GG.iconst (v := 1) e_X11_number_68 rfl ?_
        refine GG.iadd e_X11_number_69 ?_
        refine GG.top (nI_1 (T1 b L p)) ?_
        refine GG.ialoadV (k := T1 b L p + 1) (v := b (T1 b L p + 1)) e_X11_number_70 (sa_X11_5 i_X11_63) (rfl) (by omega) (Nat.le_of_ble_eq_true rfl) (by rw [gb]) ?_
        refine GG.iadd e_X11_number_71 ?_
        refine GG.bipush (v := 48) e_X11_number_72 rfl ?_
        refine GG.isub e_X11_number_74 ?_
        refine GG.goto (tgt := 79) e_X11_number_75 rfl ?_
        refine j79 ν g1 g2 g3 e2 (by omega) _ _ ?_
        unfold tVal
        rw [e4]
        simp [tAcc]
    · skip
      have e3 := nnle (b := 2) h25 (by omega) (by omega)
      have en : tNk b L p lo hi = false := by rw [tNk, decide_eq_false_iff_not]; exact fun z => absurd z.2.1 (by omega)
      refine GG.iconst (v := -1) e_X11_number_28 rfl ?_
      refine GG.iret e_X11_number_29 rfl rfl ?_
      exact qI q (by rw [en]; rfl)
end S48
