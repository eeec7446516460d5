/-! TEXT: numbers, words, items -/
/-- nothing but the tokens' places and the numbers from j on are changed -/
def gTy (μ ν : gM) (n : Nat) : Prop := (∀ c j, ¬ (c = 46 ∧ 2 ≤ j ∧ j ≤ 4) → ¬ (c = 48 ∧ n ≤ j) → mrd ν c j = mrd μ c j) ∧ ∀ c j, mrL ν c j = mrL μ c j
theorem gTy.tr {μ ν ξ : gM} {n m : Nat} (h : gTy μ ν n) (h2 : gTy ν ξ m) (hm : n ≤ m) : gTy μ ξ n := ⟨fun c j a b => (h2.1 c j a (by omega)).trans (h.1 c j a b), fun c j => (h2.2 c j).trans (h.2 c j)⟩
theorem gTy_Tk (μ : gM) (s k e n : Nat) : gTy μ (mTk μ s k e) n := ⟨fun c j a b => by rw [mrd_Tk, if_neg (by omega), if_neg (by omega), if_neg (by omega)], fun _ _ => rfl⟩
theorem gTy.wr {μ ν : gM} {n k : Nat} {x : Int32} (h : gTy μ ν n) (hk : n ≤ k) : gTy μ (mwr ν 48 k x) n := ⟨fun c j a b => by rw [mrd_wr, if_neg (by rintro ⟨rfl, rfl⟩; exact b ⟨rfl, hk⟩)]; exact h.1 c j a b, h.2⟩
theorem gTy.b {μ ν : gM} {n : Nat} (h : gTy μ ν n) : mrd ν 47 = mrd μ 47 := funext fun j => h.1 47 j (by omega) (by omega)
theorem gTy.l {μ ν : gM} {n : Nat} (h : gTy μ ν n) : mrd ν 46 0 = mrd μ 46 0 := h.1 46 0 (by omega) (by omega)
/-- what the text is: its length, where the last token ended -/
def TX (μ : gM) (L p : Nat) : Prop := mrd μ 46 0 = nI L ∧ L ≤ 150 ∧ mrd μ 46 4 = nI p ∧ p ≤ L
def tRd (b : Nat → Int32) (L : Nat) (lo hi : Nat → Int32) : Nat → Nat → Nat → Nat ⊕ Nat
  | 0, _, p => .inl p
  | n + 1, j, p => if tNk b L p (lo j) (hi j) = true then tRd b L lo hi n (j + 1) (T3 b L p) else .inr (T1 b L p)
def tLo (w j : Nat) : Int32 := if w = 1 then 4 else if w = 5 then 1 else 0
def tHi (A w j : Nat) : Int32 := if w = 1 then 30 else if w = 4 then nI A - 1 else if w = 5 then 99 else if j = 0 then 5 else if j = 1 then 1 else 9
def tCn (w : Nat) : Nat := if w = 2 then 3 else if w = 3 then 2 else 1
def tV0 (b : Nat → Int32) (L p : Nat) : Int32 := tVal b L p
def tV1 (b : Nat → Int32) (L p : Nat) : Int32 := tVal b L (T3 b L p)
def tV2 (b : Nat → Int32) (L p : Nat) : Int32 := tVal b L (T3 b L (T3 b L p))
section S27
variable {μ ν : gM} {Q : Option Value → gM → Prop} {L p s e i k P A : Nat} {lo hi : Int32} {b : Nat → Int32}
theorem TX.tk (h : TX μ L p) (hb : mrd μ 47 = b) (hQ : Q none (mTk μ (T1 b L p) (T2 b L p) (T3 b L p))) : SPC 1 MX7_nextToken [.ref 46] μ Q := s_X7_nextToken h.1 h.2.1 h.2.2.1 h.2.2.2 (by rw [hb]; exact hQ)
theorem TX.nx (h : TX μ L p) : TX (mTk μ (T1 b L p) (T2 b L p) (T3 b L p)) L (T3 b L p) := ⟨by rw [mrd_Tk]; simp [h.1], h.2.1, by rw [mrd_Tk]; simp, (T3_b h.2.2.2).2.1⟩
theorem s_X7_takeSemicolon (h : TX μ L p) (hb : mrd μ 47 = b) (hQ : Q (some (.int (bI (decide (T2 b L p = 3))))) (mTk μ (T1 b L p) (T2 b L p) (T3 b L p))) : SPC 2 MX7_takeSemicolon [.ref 46] μ Q := by
  have t2 := T2_b (b := b) (L := L) (p := p)
  refine SPC.of (by decide +kernel) (Nat.le_of_ble_eq_true rfl) (ls := [(0, .ref (46))]) rfl ?_
  refine GG.aload_n e_X7_takeSemicolon_0 (i := 0) rfl 0 rfl ?_
  refine GG.callV (d' := 1) (a := 46) (as := []) e_X7_takeSemicolon_1 ml_X7_35 mf_X7_nextToken mv_X7_nextToken (rc_X7 i_X7_46) rfl (by decide) (Nat.le_of_ble_eq_true rfl) rfl ?_
  refine h.tk hb ?_
  refine GG.aload_n e_X7_takeSemicolon_4 (i := 0) rfl 0 rfl ?_
  refine GG.getIv (v := nI (T2 b L p)) e_X7_takeSemicolon_5 fl_X7_38 (sf_X7_2 i_X7_46) (by rw [mrd_Tk]; simp) ?_
  refine GG.iconst (v := 3) e_X7_takeSemicolon_8 rfl ?_
  refine GG.icmp_ne (tgt := 16) e_X7_takeSemicolon_9 rfl (fun h9 => ?_) (fun h9 => ?_)
  · skip
    have e : ¬ T2 b L p = 3 := fun q => h9 (by rw [q]; rfl)
    refine GG.iconst (v := 0) e_X7_takeSemicolon_16 rfl ?_
    refine GG.zret e_X7_takeSemicolon_17 rfl rfl rfl ?_
    first | exact qI hQ (by rw [decide_eq_true e]; rfl) | exact qI hQ (by rw [decide_eq_false e]; rfl)
  · skip
    have e : T2 b L p = 3 := (nI_eq (b := 3) (by omega) (by omega)).mp h9
    refine GG.iconst (v := 1) e_X7_takeSemicolon_12 rfl ?_
    refine GG.goto (tgt := 17) e_X7_takeSemicolon_13 rfl ?_
    refine GG.zret e_X7_takeSemicolon_17 rfl rfl rfl ?_
    first | exact qI hQ (by rw [decide_eq_true e]; rfl) | exact qI hQ (by rw [decide_eq_false e]; rfl)
theorem s_X7_takeNumber (h : TX μ L p) (hb : mrd μ 47 = b) (hk : k < 3) (hQ : ∀ ν, gTy μ ν k → mrd ν 46 0 = nI L → mrd ν 46 3 = nI (T1 b L p) → mrd ν 46 4 = nI (T3 b L p) → (tNk b L p lo hi = true → mrd ν 48 k = tVal b L p ∧ ∀ q, ¬ q = k → mrd ν 48 q = mrd μ 48 q) → Q (some (.int (bI (tNk b L p lo hi)))) ν) : SPC 2 MX7_takeNumber [.ref 46, .int (nI k), .int lo, .int hi] μ Q := by
  have t1 := T1_b (b := b) h.2.2.2
  have t2 := T2_b (b := b) (L := L) (p := p)
  have t3 := T3_b (b := b) h.2.2.2
  have hL := h.2.1
  generalize hm : mTk μ (T1 b L p) (T2 b L p) (T3 b L p) = m at hQ
  have hx : gTy μ m k := by rw [← hm]; exact gTy_Tk _ _ _ _ _
  have f0 : mrd m 46 0 = nI L := by rw [hx.l]; exact h.1
  have f2 : mrd m 46 2 = nI (T2 b L p) := by rw [← hm, mrd_Tk]; simp
  have f3 : mrd m 46 3 = nI (T1 b L p) := by rw [← hm, mrd_Tk]; simp
  have f4 : mrd m 46 4 = nI (T3 b L p) := by rw [← hm, mrd_Tk]; simp
  have fb : ∀ q, mrd m 47 q = b q := fun q => by rw [hx.b, hb]
  have bad : tNk b L p lo hi = false → Q (some (.int 0)) m := fun q => by
    have := hQ m hx f0 f3 f4 (fun z => by rw [q] at z; cases z)
    rw [q] at this
    exact this
  have lp : T2 b L p = 2 → T3 b L p - T1 b L p ≤ 2 → ∀ n j, T3 b L p - T1 b L p - j < n → j ≤ T3 b L p - T1 b L p → GG 2 MX7_takeNumber 49 [(5, .int (nI (T1 b L p + j))), (4, .int (tAcc b (T1 b L p) j)), (0, .ref 46), (1, .int (nI k)), (2, .int lo), (3, .int hi)] [] m Q := by
    intro e2 e3 n
    induction n with
    | zero => intro j h; omega
    | succ n ih =>
      intro j hn hj
      refine GG.iload e_X7_takeNumber_49 0 rfl ?_
      refine GG.aload_n e_X7_takeNumber_51 (i := 0) rfl 2 rfl ?_
      refine GG.getIv (v := nI (T3 b L p)) e_X7_takeNumber_52 fl_X7_32 (sf_X7_4 i_X7_46) (f4) ?_
      refine GG.icmp_ge (tgt := 81) e_X7_takeNumber_55 rfl (fun h55 => ?_) (fun h55 => ?_)
      · skip
        have e := nle h55 (by omega) (by omega)
        have ej : j = T3 b L p - T1 b L p := by omega
        subst ej
        have hv : tAcc b (T1 b L p) (T3 b L p - T1 b L p) = tVal b L p := rfl
        rw [hv]
        refine GG.aload_n e_X7_takeNumber_81 (i := 0) rfl 2 rfl ?_
        refine GG.getR (b := 48) e_X7_takeNumber_82 fl_X7_15 (sf_X7_5 i_X7_46) ?_
        refine GG.iload_n e_X7_takeNumber_85 (i := 1) rfl 3 rfl ?_
        refine GG.iload e_X7_takeNumber_86 1 rfl ?_
        refine GG.iastoreE (k := _) e_X7_takeNumber_88 (sa_X7_5 i_X7_46) (rfl) (by omega) (Nat.le_of_ble_eq_true rfl) ?_
        refine GG.iload e_X7_takeNumber_89 1 rfl ?_
        refine GG.iload_n e_X7_takeNumber_91 (i := 2) rfl 4 rfl ?_
        refine GG.iload_n e_X7_takeNumber_92 (i := 3) rfl 5 rfl ?_
        refine GG.callN (d' := 0) (as := [.int _, .int _, .int _]) e_X7_takeNumber_93 ml_X7_22 mf_X10_outside ms_X10_outside rfl (by decide) (Nat.le_of_ble_eq_true rfl) rfl ?_
        refine s_X10_outside ?_
        refine GG.if_ne (tgt := 103) e_X7_takeNumber_96 rfl (fun h96 => ?_) (fun h96 => ?_)
        · skip
          rw [bI_0, Bool.not_eq_false, decide_eq_true_eq] at h96
          have hz : tNk b L p lo hi = false := by rw [tNk, decide_eq_false_iff_not]; intro q; rcases h96 with w | w; exact absurd q.2.2.1 (Int32.not_le.mpr w); exact absurd q.2.2.2 (Int32.not_le.mpr w)
          refine GG.iconst (v := 0) e_X7_takeNumber_103 rfl ?_
          refine GG.zret e_X7_takeNumber_104 rfl rfl rfl ?_
          refine qI (hQ _ (hx.wr (Nat.le_refl k)) (by simp [mrd_wr, f0]) (by simp [mrd_wr, f3]) (by simp [mrd_wr, f4]) (fun _ => ⟨by simp [mrd_wr], fun q hq => ?_⟩)) (by rw [hz]; rfl)
          rw [mrd_wr, if_neg (fun z => hq z.2), ← hm, mrd_Tk]
          simp
        · skip
          rw [bI_0, decide_eq_false_iff_not, not_or] at h96
          have hz : tNk b L p lo hi = true := by rw [tNk, decide_eq_true_eq]; exact ⟨e2, e3, Int32.not_lt.mp h96.1, Int32.not_lt.mp h96.2⟩
          refine GG.iconst (v := 1) e_X7_takeNumber_99 rfl ?_
          refine GG.goto (tgt := 104) e_X7_takeNumber_100 rfl ?_
          refine GG.zret e_X7_takeNumber_104 rfl rfl rfl ?_
          refine qI (hQ _ (hx.wr (Nat.le_refl k)) (by simp [mrd_wr, f0]) (by simp [mrd_wr, f3]) (by simp [mrd_wr, f4]) (fun _ => ⟨by simp [mrd_wr], fun q hq => ?_⟩)) (by rw [hz]; rfl)
          rw [mrd_wr, if_neg (fun z => hq z.2), ← hm, mrd_Tk]
          simp
      · skip
        have e := nnle h55 (by omega) (by omega)
        refine GG.bipush (v := 10) e_X7_takeNumber_58 rfl ?_
        refine GG.iload e_X7_takeNumber_60 1 rfl ?_
        refine GG.imul e_X7_takeNumber_62 ?_
        refine GG.aload_n e_X7_takeNumber_63 (i := 0) rfl 2 rfl ?_
        refine GG.iload e_X7_takeNumber_64 0 rfl ?_
        refine GG.callV (d' := 0) (a := 46) (as := [.int _]) e_X7_takeNumber_66 ml_X7_91 mf_X7_byteAt mv_X7_byteAt (rc_X7 i_X7_46) rfl (by decide) (Nat.le_of_ble_eq_true rfl) rfl ?_
        refine s_X7_byteAt (by omega) ?_
        rw [fb]
        refine GG.iadd e_X7_takeNumber_69 ?_
        refine GG.bipush (v := 48) e_X7_takeNumber_70 rfl ?_
        refine GG.isub e_X7_takeNumber_72 ?_
        refine GG.istore e_X7_takeNumber_73 (Nat.le_of_ble_eq_true rfl) (ls' := [(4, .int _), (5, .int _), (0, .ref _), (1, .int _), (2, .int _), (3, .int _)]) rfl ?_
        refine GG.iinc e_X7_takeNumber_75 1 rfl (v := nI (T1 b L p + (j + 1))) (nI_s _) (Nat.le_of_ble_eq_true rfl) (ls' := [(5, .int _), (4, .int _), (0, .ref _), (1, .int _), (2, .int _), (3, .int _)]) rfl ?_
        refine GG.goto (tgt := 49) e_X7_takeNumber_78 rfl ?_
        exact ih (j + 1) (by omega) (by omega)
  refine SPC.of (by decide +kernel) (Nat.le_of_ble_eq_true rfl) (ls := [(0, .ref (46)), (1, .int (nI k)), (2, .int (lo)), (3, .int (hi))]) rfl ?_
  refine GG.aload_n e_X7_takeNumber_0 (i := 0) rfl 0 rfl ?_
  refine GG.callV (d' := 1) (a := 46) (as := []) e_X7_takeNumber_1 ml_X7_35 mf_X7_nextToken mv_X7_nextToken (rc_X7 i_X7_46) rfl (by decide) (Nat.le_of_ble_eq_true rfl) rfl ?_
  refine h.tk hb ?_
  rw [hm]
  refine GG.aload_n e_X7_takeNumber_4 (i := 0) rfl 0 rfl ?_
  refine GG.getIv (v := nI (T2 b L p)) e_X7_takeNumber_5 fl_X7_38 (sf_X7_2 i_X7_46) (f2) ?_
  refine GG.iconst (v := 2) e_X7_takeNumber_8 rfl ?_
  refine GG.icmp_ne (tgt := 38) e_X7_takeNumber_9 rfl (fun h9 => ?_) (fun h9 => ?_)
  · skip
    have e : ¬ T2 b L p = 2 := fun q => h9 (by rw [q]; rfl)
    have hz : tNk b L p lo hi = false := by rw [tNk, decide_eq_false_iff_not]; exact fun q => e q.1
    refine GG.iconst (v := 0) e_X7_takeNumber_38 rfl ?_
    refine GG.zret e_X7_takeNumber_39 rfl rfl rfl ?_
    exact bad hz
  · skip
    have e : T2 b L p = 2 := (nI_eq (b := 2) (by omega) (by omega)).mp h9
    refine GG.aload_n e_X7_takeNumber_12 (i := 0) rfl 0 rfl ?_
    refine GG.getIv (v := nI (T3 b L p)) e_X7_takeNumber_13 fl_X7_32 (sf_X7_4 i_X7_46) (f4) ?_
    refine GG.aload_n e_X7_takeNumber_16 (i := 0) rfl 0 rfl ?_
    refine GG.getIv (v := nI (T1 b L p)) e_X7_takeNumber_17 fl_X7_61 (sf_X7_3 i_X7_46) (f3) ?_
    refine GG.isub e_X7_takeNumber_20 ?_
    refine GG.top (pk_sub t3.1) ?_
    refine GG.iconst (v := 2) e_X7_takeNumber_21 rfl ?_
    refine GG.icmp_gt (tgt := 38) e_X7_takeNumber_22 rfl (fun h22 => ?_) (fun h22 => ?_)
    · skip
      have e4 := nlt (a := 2) h22 (by omega) (by omega)
      have hz : tNk b L p lo hi = false := by rw [tNk, decide_eq_false_iff_not]; exact fun q => absurd q.2.1 (by omega)
      refine GG.iconst (v := 0) e_X7_takeNumber_38 rfl ?_
      refine GG.zret e_X7_takeNumber_39 rfl rfl rfl ?_
      exact bad hz
    · skip
      have e4 := nnlt (a := 2) h22 (by omega) (by omega)
      refine GG.iload_n e_X7_takeNumber_25 (i := 1) rfl 1 rfl ?_
      refine GG.if_lt (tgt := 38) e_X7_takeNumber_26 rfl (fun h26 => absurd h26 (by exact nI_pos (by omega))) (fun h26 => ?_)
      refine GG.iload_n e_X7_takeNumber_29 (i := 1) rfl 1 rfl ?_
      refine GG.aload_n e_X7_takeNumber_30 (i := 0) rfl 0 rfl ?_
      refine GG.getR (b := 48) e_X7_takeNumber_31 fl_X7_15 (sf_X7_5 i_X7_46) ?_
      refine GG.alen e_X7_takeNumber_34 (sa_X7_5 i_X7_46) rfl ?_
      refine GG.icmp_lt (tgt := 40) e_X7_takeNumber_35 rfl (fun h35 => ?_) (fun h35 => absurd h35 (by exact fun z => z (nI_lt (b := 3) hk (by omega))))
      refine GG.iconst (v := 0) e_X7_takeNumber_40 rfl ?_
      refine GG.istore e_X7_takeNumber_41 (Nat.le_of_ble_eq_true rfl) (ls' := [(4, .int _), (0, .ref _), (1, .int _), (2, .int _), (3, .int _)]) rfl ?_
      refine GG.aload_n e_X7_takeNumber_43 (i := 0) rfl 1 rfl ?_
      refine GG.getIv (v := nI (T1 b L p)) e_X7_takeNumber_44 fl_X7_61 (sf_X7_3 i_X7_46) (f3) ?_
      refine GG.istore e_X7_takeNumber_47 (Nat.le_of_ble_eq_true rfl) (ls' := [(5, .int _), (4, .int _), (0, .ref _), (1, .int _), (2, .int _), (3, .int _)]) rfl ?_
      exact lp e e4 (L + 1) 0 (by omega) (by omega)
theorem s_X7_wordIs (hi5 : i < 5) (hs : mrd μ 46 3 = nI s) (he : mrd μ 46 4 = nI e) (hse : s ≤ e) (heL : e ≤ 150) (hb : mrd μ 47 = b) (hQ : Q (some (.int (bI (tWi b s e i)))) μ) : SPC 5 MX7_wordIs [.ref 46, .ref (1000 + i)] μ Q := by
  have h6 := (gLen_s i hi5).2
  have lp : e - s = gLen.getD i 0 → ∀ n j, gLen.getD i 0 - j < n → j ≤ gLen.getD i 0 → (∀ q, q < j → decide ((gByt.getD i []).getD q 0 = b (s + q)) = true) → GG 5 MX7_wordIs 24 [(2, .int (nI j)), (0, .ref 46), (1, .ref (1000 + i))] [] μ Q := by
    intro hl n
    induction n with
    | zero => intro j h; omega
    | succ n ih =>
      intro j hn hj hk
      refine GG.iload_n e_X7_wordIs_24 (i := 2) rfl 0 rfl ?_
      refine GG.aload_n e_X7_wordIs_25 (i := 1) rfl 2 rfl ?_
      refine GG.callVS hi5 (d' := 1) (as := []) e_X7_wordIs_26 ml_X7_109 mf_J0_length_8abf5 mv_J0_length_8abf5 rfl rfl (by decide) (Nat.le_of_ble_eq_true rfl) rfl ?_
      refine s_J0_length_8abf5 hi5 ?_
      refine GG.icmp_ge (tgt := 58) e_X7_wordIs_29 rfl (fun h29 => ?_) (fun h29 => ?_)
      · skip
        have e3 := nle h29 (by omega) (by omega)
        have ej : j = gLen.getD i 0 := by omega
        subst ej
        refine GG.iconst (v := 1) e_X7_wordIs_58 rfl ?_
        refine GG.zret e_X7_wordIs_59 rfl rfl rfl ?_
        exact qI hQ (by rw [tWi, mAll_iff.mpr hk, decide_eq_true hl]; rfl)
      · skip
        have e3 := nnle h29 (by omega) (by omega)
        refine GG.aload_n e_X7_wordIs_32 (i := 1) rfl 2 rfl ?_
        refine GG.iload_n e_X7_wordIs_33 (i := 2) rfl 0 rfl ?_
        refine GG.callVS hi5 (d' := 4) (as := [.int _]) e_X7_wordIs_34 ml_X7_113 mf_J0_charAt_5068e mv_J0_charAt_5068e rfl rfl (by decide) (Nat.le_of_ble_eq_true rfl) rfl ?_
        refine s_J0_charAt_5068e hi5 e3 ?_
        refine GG.aload_n e_X7_wordIs_37 (i := 0) rfl 1 rfl ?_
        refine GG.aload_n e_X7_wordIs_38 (i := 0) rfl 1 rfl ?_
        refine GG.getIv (v := nI s) e_X7_wordIs_39 fl_X7_61 (sf_X7_3 i_X7_46) (hs) ?_
        refine GG.iload_n e_X7_wordIs_42 (i := 2) rfl 0 rfl ?_
        refine GG.iadd e_X7_wordIs_43 ?_
        refine GG.top (nI_add s j) ?_
        refine GG.callV (d' := 0) (a := 46) (as := [.int _]) e_X7_wordIs_44 ml_X7_91 mf_X7_byteAt mv_X7_byteAt (rc_X7 i_X7_46) rfl (by decide) (Nat.le_of_ble_eq_true rfl) rfl ?_
        refine s_X7_byteAt (by omega) ?_
        rw [hb]
        refine GG.icmp_eq (tgt := 52) e_X7_wordIs_47 rfl (fun h47 => ?_) (fun h47 => ?_)
        · skip
          refine GG.iinc e_X7_wordIs_52 0 rfl (v := _) (by first | exact nI_s _ | exact nI_d _ | rfl) (Nat.le_of_ble_eq_true rfl) (ls' := [(2, .int _), (0, .ref _), (1, .ref _)]) rfl ?_
          refine GG.goto (tgt := 24) e_X7_wordIs_55 rfl ?_
          refine ih (j + 1) (by omega) (by omega) (fun q hq => ?_)
          by_cases hh : q = j
          · rw [hh]; exact decide_eq_true h47
          · exact hk q (by omega)
        · skip
          refine GG.iconst (v := 0) e_X7_wordIs_50 rfl ?_
          refine GG.zret e_X7_wordIs_51 rfl rfl rfl ?_
          exact qI hQ (by rw [tWi, mAll_f (k := j) e3 (decide_eq_false h47), Bool.and_false]; rfl)
  refine SPC.of (by decide +kernel) (Nat.le_of_ble_eq_true rfl) (ls := [(0, .ref (46)), (1, .ref (1000 + i))]) rfl ?_
  refine GG.aload_n e_X7_wordIs_0 (i := 1) rfl 1 rfl ?_
  refine GG.ifnull e_X7_wordIs_1 ?_
  refine GG.aload_n e_X7_wordIs_4 (i := 1) rfl 1 rfl ?_
  refine GG.callVS hi5 (d' := 1) (as := []) e_X7_wordIs_5 ml_X7_109 mf_J0_length_8abf5 mv_J0_length_8abf5 rfl rfl (by decide) (Nat.le_of_ble_eq_true rfl) rfl ?_
  refine s_J0_length_8abf5 hi5 ?_
  refine GG.aload_n e_X7_wordIs_8 (i := 0) rfl 0 rfl ?_
  refine GG.getIv (v := nI e) e_X7_wordIs_9 fl_X7_32 (sf_X7_4 i_X7_46) (he) ?_
  refine GG.aload_n e_X7_wordIs_12 (i := 0) rfl 0 rfl ?_
  refine GG.getIv (v := nI s) e_X7_wordIs_13 fl_X7_61 (sf_X7_3 i_X7_46) (hs) ?_
  refine GG.isub e_X7_wordIs_16 ?_
  refine GG.top (pk_sub hse) ?_
  refine GG.icmp_eq (tgt := 22) e_X7_wordIs_17 rfl (fun h17 => ?_) (fun h17 => ?_)
  · skip
    have el : e - s = gLen.getD i 0 := ((nI_eq (by omega) (by omega)).mp h17).symm
    refine GG.iconst (v := 0) e_X7_wordIs_22 rfl ?_
    refine GG.istore_n e_X7_wordIs_23 (i := 2) rfl (Nat.le_of_ble_eq_true rfl) (ls' := [(2, .int _), (0, .ref _), (1, .ref _)]) rfl ?_
    exact lp el (gLen.getD i 0 + 1) 0 (by omega) (by omega) (fun q h => by omega)
  · skip
    have el : ¬ e - s = gLen.getD i 0 := fun q => h17 (by rw [q])
    refine GG.iconst (v := 0) e_X7_wordIs_20 rfl ?_
    refine GG.zret e_X7_wordIs_21 rfl rfl rfl ?_
    exact qI hQ (by rw [tWi, decide_eq_false el, Bool.false_and]; rfl)
theorem s_X7_wordHere (hk : mrd μ 46 2 = nI (T2 b L p)) (hs : mrd μ 46 3 = nI (T1 b L p)) (he : mrd μ 46 4 = nI (T3 b L p)) (hpL : p ≤ L) (hL : L ≤ 150) (hb : mrd μ 47 = b) (hQ : Q (some (.int (nI (tWd b L p)))) μ) : SPC 6 MX7_wordHere [.ref 46] μ Q := by
  have t2 := T2_b (b := b) (L := L) (p := p)
  have t3 := T3_b (b := b) hpL
  have w : ∀ i, i < 5 → ∀ (Q : Option Value → gM → Prop), Q (some (.int (bI (tWi b (T1 b L p) (T3 b L p) i)))) μ → SPC 5 MX7_wordIs [.ref 46, .ref (1000 + i)] μ Q := fun i hi Q q => s_X7_wordIs hi hs he t3.1 (by omega) hb q
  refine SPC.of (by decide +kernel) (Nat.le_of_ble_eq_true rfl) (ls := [(0, .ref (46))]) rfl ?_
  refine GG.aload_n e_X7_wordHere_0 (i := 0) rfl 0 rfl ?_
  refine GG.getIv (v := nI (T2 b L p)) e_X7_wordHere_1 fl_X7_38 (sf_X7_2 i_X7_46) (hk) ?_
  refine GG.iconst (v := 1) e_X7_wordHere_4 rfl ?_
  refine GG.icmp_eq (tgt := 10) e_X7_wordHere_5 rfl (fun h5 => ?_) (fun h5 => ?_)
  · skip
    have e : T2 b L p = 1 := (nI_eq (b := 1) (by omega) (by omega)).mp h5
    refine GG.aload_n e_X7_wordHere_10 (i := 0) rfl 0 rfl ?_
    refine GG.ldcS e_X7_wordHere_11 (i := 0) rfl rfl ?_
    refine GG.callV (d' := 5) (a := 46) (as := [.ref 1000]) e_X7_wordHere_13 ml_X7_97 mf_X7_wordIs mv_X7_wordIs (rc_X7 i_X7_46) rfl (by decide) (Nat.le_of_ble_eq_true rfl) rfl ?_
    refine w 0 (by omega) _ ?_
    refine GG.if_eq (tgt := 21) e_X7_wordHere_16 rfl (fun h16 => ?_) (fun h16 => ?_)
    · skip
      rw [bI_0] at h16
      refine GG.aload_n e_X7_wordHere_21 (i := 0) rfl 0 rfl ?_
      refine GG.ldcS e_X7_wordHere_22 (i := 1) rfl rfl ?_
      refine GG.callV (d' := 5) (a := 46) (as := [.ref 1001]) e_X7_wordHere_24 ml_X7_97 mf_X7_wordIs mv_X7_wordIs (rc_X7 i_X7_46) rfl (by decide) (Nat.le_of_ble_eq_true rfl) rfl ?_
      refine w 1 (by omega) _ ?_
      refine GG.if_eq (tgt := 32) e_X7_wordHere_27 rfl (fun h27 => ?_) (fun h27 => ?_)
      · skip
        rw [bI_0] at h27
        refine GG.aload_n e_X7_wordHere_32 (i := 0) rfl 0 rfl ?_
        refine GG.ldcS e_X7_wordHere_33 (i := 2) rfl rfl ?_
        refine GG.callV (d' := 5) (a := 46) (as := [.ref 1002]) e_X7_wordHere_35 ml_X7_97 mf_X7_wordIs mv_X7_wordIs (rc_X7 i_X7_46) rfl (by decide) (Nat.le_of_ble_eq_true rfl) rfl ?_
        refine w 2 (by omega) _ ?_
        refine GG.if_eq (tgt := 43) e_X7_wordHere_38 rfl (fun h38 => ?_) (fun h38 => ?_)
        · skip
          rw [bI_0] at h38
          refine GG.aload_n e_X7_wordHere_43 (i := 0) rfl 0 rfl ?_
          refine GG.ldcS e_X7_wordHere_44 (i := 3) rfl rfl ?_
          refine GG.callV (d' := 5) (a := 46) (as := [.ref 1003]) e_X7_wordHere_46 ml_X7_97 mf_X7_wordIs mv_X7_wordIs (rc_X7 i_X7_46) rfl (by decide) (Nat.le_of_ble_eq_true rfl) rfl ?_
          refine w 3 (by omega) _ ?_
          refine GG.if_eq (tgt := 54) e_X7_wordHere_49 rfl (fun h49 => ?_) (fun h49 => ?_)
          · skip
            rw [bI_0] at h49
            refine GG.aload_n e_X7_wordHere_54 (i := 0) rfl 0 rfl ?_
            refine GG.ldcS e_X7_wordHere_55 (i := 4) rfl rfl ?_
            refine GG.callV (d' := 5) (a := 46) (as := [.ref 1004]) e_X7_wordHere_57 ml_X7_97 mf_X7_wordIs mv_X7_wordIs (rc_X7 i_X7_46) rfl (by decide) (Nat.le_of_ble_eq_true rfl) rfl ?_
            refine w 4 (by omega) _ ?_
            refine GG.if_eq (tgt := 67) e_X7_wordHere_60 rfl (fun h60 => ?_) (fun h60 => ?_)
            · skip
              rw [bI_0] at h60
              refine GG.iconst (v := 0) e_X7_wordHere_67 rfl ?_
              refine GG.iret e_X7_wordHere_68 rfl rfl ?_
              exact qI hQ (by simp [tWd, *]; first | done | rfl)
            · skip
              rw [bI_0, Bool.not_eq_false] at h60
              refine GG.iconst (v := 5) e_X7_wordHere_63 rfl ?_
              refine GG.goto (tgt := 68) e_X7_wordHere_64 rfl ?_
              refine GG.iret e_X7_wordHere_68 rfl rfl ?_
              exact qI hQ (by simp [tWd, *]; first | done | rfl)
          · skip
            rw [bI_0, Bool.not_eq_false] at h49
            refine GG.iconst (v := 4) e_X7_wordHere_52 rfl ?_
            refine GG.iret e_X7_wordHere_53 rfl rfl ?_
            exact qI hQ (by simp [tWd, *]; first | done | rfl)
        · skip
          rw [bI_0, Bool.not_eq_false] at h38
          refine GG.iconst (v := 3) e_X7_wordHere_41 rfl ?_
          refine GG.iret e_X7_wordHere_42 rfl rfl ?_
          exact qI hQ (by simp [tWd, *]; first | done | rfl)
      · skip
        rw [bI_0, Bool.not_eq_false] at h27
        refine GG.iconst (v := 2) e_X7_wordHere_30 rfl ?_
        refine GG.iret e_X7_wordHere_31 rfl rfl ?_
        exact qI hQ (by simp [tWd, *]; first | done | rfl)
    · skip
      rw [bI_0, Bool.not_eq_false] at h16
      refine GG.iconst (v := 1) e_X7_wordHere_19 rfl ?_
      refine GG.iret e_X7_wordHere_20 rfl rfl ?_
      exact qI hQ (by simp [tWd, *]; first | done | rfl)
  · skip
    have e : ¬ T2 b L p = 1 := fun q => h5 (by rw [q]; rfl)
    refine GG.iconst (v := 0) e_X7_wordHere_8 rfl ?_
    refine GG.iret e_X7_wordHere_9 rfl rfl ?_
    exact qI hQ (by simp [tWd, *]; first | done | rfl)
theorem tWd_le : tWd b L p ≤ 5 := by
  unfold tWd
  repeat' split
  all_goals omega
end S27
