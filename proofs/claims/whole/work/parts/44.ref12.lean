/-! THE REFERENCE: who marries whom, second part -/
def rIn (Lf Rt : Nat → Nat) (R : Nat) (al : Nat → Nat → Bool) (n k : Nat) : rPs := rPb Lf Rt R al k (n, 0, true, fun _ => -1)
def rPr (s : rPs) : Int32 := if s.2.2.1 = true then nI s.2.1 else -1
def rMst (Lf Rt : Nat → Nat) (R : Nat) (al : Nat → Nat → Bool) (k : Nat) : Nat → Int32 × (Nat → Int32)
  | 0 => (-1, fun _ => 0)
  | n + 1 => if (rMst Lf Rt R al k n).1 < rPr (rIn Lf Rt R al n k) then (rPr (rIn Lf Rt R al n k), (rIn Lf Rt R al n k).2.2.2) else rMst Lf Rt R al k n
theorem nI_dv {n d : Nat} (hn : n < 2 ^ 31) (hd : 0 < d) (hd2 : d < 2 ^ 31) : nI n / nI d = nI (n / d) := mDiv_n hn hd hd2
section S44
variable {μ : gM} {Q : Option Value → gM → Prop} {P A U L T N M B k r R : Nat} {i j c a w z v x y o s : Int32}
theorem s_X11_pairsBy {Lf Rt : Nat → Nat} {al : Nat → Nat → Bool} {n : Nat} (hn : n < 2 ^ 20) (hL : mrd μ 63 16 = nI L) (hR : mrd μ 63 17 = nI R) (hL7 : L ≤ 7) (hR7 : R ≤ 7) (h70 : ∀ k, k < L → mrd μ 70 k = nI (Lf k) ∧ Lf k < 7) (h71 : ∀ k, k < R → mrd μ 71 k = nI (Rt k) ∧ Rt k < 7)
    (hal : ∀ i j, i < 7 → j < 7 → al i j = rAlk μ i j) (hne : ∀ k q, k < L → q < R → ¬ Lf k = Rt q) (hQ : ∀ ν, gM2 μ ν → (∀ q, q < 7 → mrd ν 72 q = (rIn Lf Rt R al n L).2.2.2 q) → Q (some (.int (rPr (rIn Lf Rt R al n L)))) ν) : SPC 2 MX11_pairsBy [.ref 63, .int (nI n)] μ Q := by
  unfold rIn at hQ
  have lp2 : ∀ k s ν, k ≤ L → s.1 < 2 ^ 20 → s.2.1 + k ≤ 7 → rPb Lf Rt R al k s = rPb Lf Rt R al L (n, 0, true, fun _ => -1) → gM2 μ ν → (∀ q, q < 7 → mrd ν 72 q = s.2.2.2 q) → ∀ v, v = nI k + -1 → GG 2 MX11_pairsBy 36 [(5, .int v), (4, .int (bI s.2.2.1)), (3, .int (nI s.2.1)), (2, .int (nI s.1)), (0, .ref 63), (1, .int (nI n))] [] ν Q := by
    intro k
    induction k with
    | zero =>
      intro s ν hk hs hp hst hν h72 v hv
      subst hv
      have e : s = rPb Lf Rt R al L (n, 0, true, fun _ => -1) := hst
      rw [← e] at hQ
      refine GG.iload e_X11_pairsBy_36 0 rfl ?_
      refine GG.if_lt (tgt := 146) e_X11_pairsBy_38 rfl (fun h38 => ?_) (fun h38 => absurd h38 (by decide))
      refine GG.iload e_X11_pairsBy_146 1 rfl ?_
      refine GG.if_eq (tgt := 155) e_X11_pairsBy_148 rfl (fun h148 => ?_) (fun h148 => ?_)
      · skip
        have g := (bI_0 _).mp h148
        have q : rPr s = -1 := by rw [rPr, g]; rfl
        refine GG.iconst (v := -1) e_X11_pairsBy_155 rfl ?_
        refine GG.iret e_X11_pairsBy_156 rfl rfl ?_
        exact qI (hQ ν hν h72) q.symm
      · skip
        have g := (bI_n0 _).mp h148
        have q : rPr s = nI s.2.1 := by rw [rPr, if_pos g]
        refine GG.iload_n e_X11_pairsBy_151 (i := 3) rfl 2 rfl ?_
        refine GG.goto (tgt := 156) e_X11_pairsBy_152 rfl ?_
        refine GG.iret e_X11_pairsBy_156 rfl rfl ?_
        exact qI (hQ ν hν h72) q.symm
    | succ k ih =>
      intro s ν hk hs hp hst hν h72 v hv
      rw [pk_m1] at hv
      subst hv
      have hr : mrd ν 63 17 = nI R := by rw [hν.1 63 17 (by omega), hR]
      have hn0 : ¬ nI (R + 1) = 0 := fun z => by have := (nI_eq (b := 0) (by omega) (by omega)).mp z; omega
      have d1 : nI s.1 / nI (R + 1) = nI (s.1 / (R + 1)) := nI_dv (by omega) (by omega) (by omega)
      have d2 : nI s.1 - nI s.1 / nI (R + 1) * nI (R + 1) = nI (s.1 % (R + 1)) := pk_rem (by omega) (by omega) (by omega)
      have hm := Nat.mod_lt s.1 (show 0 < R + 1 by omega)
      have hdv : s.1 / (R + 1) < 2 ^ 20 := Nat.lt_of_le_of_lt (Nat.div_le_self _ _) hs
      rw [rPb] at hst
      have em : ∀ k, nI k + Int32.ofInt (-1) = nI k + -1 := fun _ => rfl
      have fin : 0 < s.1 % (R + 1) → ∀ b, b = (s.2.2.1 && decide (s.2.2.2 (Rt (s.1 % (R + 1) - 1)) = -1) && al (Lf k) (Rt (s.1 % (R + 1) - 1))) → GG 2 MX11_pairsBy 117 [(8, .int (nI (Rt (s.1 % (R + 1) - 1)))), (7, .int (nI (Lf k))), (2, .int (nI (s.1 / (R + 1)))), (6, .int (nI (s.1 % (R + 1)))), (5, .int (nI k)), (4, .int (bI s.2.2.1)), (3, .int (nI s.2.1)), (0, .ref 63), (1, .int (nI n))] [.int (bI b)] ν Q := by
        intro hd b hb
        have f1 := (h70 k (by omega)).2
        have f2 := (h71 (s.1 % (R + 1) - 1) (by omega)).2
        rw [if_neg (by omega)] at hst
        refine GG.istore e_X11_pairsBy_117 (Nat.le_of_ble_eq_true rfl) (ls' := [(4, .int _), (8, .int _), (7, .int _), (2, .int _), (6, .int _), (5, .int _), (3, .int _), (0, .ref _), (1, .int _)]) rfl ?_
        refine GG.aload_n e_X11_pairsBy_119 (i := 0) rfl 7 rfl ?_
        refine GG.getR (b := 72) e_X11_pairsBy_120 fl_X11_39 (sf_X11_18 i_X11_63) ?_
        refine GG.iload e_X11_pairsBy_123 2 rfl ?_
        refine GG.iload e_X11_pairsBy_125 1 rfl ?_
        refine GG.iastoreE (k := Lf k) e_X11_pairsBy_127 (sa_X11_18 i_X11_63) (rfl) (by omega) (Nat.le_of_ble_eq_true rfl) ?_
        refine GG.aload_n e_X11_pairsBy_128 (i := 0) rfl 7 rfl ?_
        refine GG.getR (b := 72) e_X11_pairsBy_129 fl_X11_39 (sf_X11_18 i_X11_63) ?_
        refine GG.iload e_X11_pairsBy_132 1 rfl ?_
        refine GG.iload e_X11_pairsBy_134 2 rfl ?_
        refine GG.iastoreE (k := Rt (s.1 % (R + 1) - 1)) e_X11_pairsBy_136 (sa_X11_18 i_X11_63) (rfl) (by omega) (Nat.le_of_ble_eq_true rfl) ?_
        refine GG.iinc e_X11_pairsBy_137 6 rfl (v := _) (by first | exact nI_s _ | exact nI_d _ | rfl) (Nat.le_of_ble_eq_true rfl) (ls' := [(3, .int _), (4, .int _), (8, .int _), (7, .int _), (2, .int _), (6, .int _), (5, .int _), (0, .ref _), (1, .int _)]) rfl ?_
        refine GG.iinc e_X11_pairsBy_140 6 rfl (v := nI k + -1) (em k) (Nat.le_of_ble_eq_true rfl) (ls' := [(5, .int _), (3, .int _), (4, .int _), (8, .int _), (7, .int _), (2, .int _), (6, .int _), (0, .ref _), (1, .int _)]) rfl ?_
        refine GG.goto (tgt := 36) e_X11_pairsBy_143 rfl ?_
        refine GG.perm [0, 2, 1, 5, 7, 8] rfl ?_
        refine ih (_, _, b, _) _ (by omega) hdv (show s.2.1 + 1 + k ≤ 7 by omega) (by rw [hb]; exact hst) (hν.wr.wr) (fun q hq => ?_) _ rfl
        rw [mrd_wr, mrd_wr]
        have := h72 q hq
        grind
      refine GG.iload e_X11_pairsBy_36 0 rfl ?_
      refine GG.if_lt (tgt := 146) e_X11_pairsBy_38 rfl (fun h38 => absurd h38 (by exact fun z => absurd (nlt (b := 0) z (by omega) (by omega)) (by omega))) (fun h38 => ?_)
      refine GG.iload_n e_X11_pairsBy_41 (i := 2) rfl 3 rfl ?_
      refine GG.aload_n e_X11_pairsBy_42 (i := 0) rfl 4 rfl ?_
      refine GG.getIv (v := nI R) e_X11_pairsBy_43 fl_X11_180 (sf_X11_17 i_X11_63) (hr) ?_
      refine GG.iconst (v := 1) e_X11_pairsBy_46 rfl ?_
      refine GG.iadd e_X11_pairsBy_47 ?_
      refine GG.top (nI_1 R) ?_
      refine GG.irem e_X11_pairsBy_48 hn0 ?_
      refine GG.top d2 ?_
      refine GG.istore e_X11_pairsBy_49 (Nat.le_of_ble_eq_true rfl) (ls' := [(6, .int _), (5, .int _), (4, .int _), (3, .int _), (2, .int _), (0, .ref _), (1, .int _)]) rfl ?_
      refine GG.iload_n e_X11_pairsBy_51 (i := 2) rfl 4 rfl ?_
      refine GG.aload_n e_X11_pairsBy_52 (i := 0) rfl 5 rfl ?_
      refine GG.getIv (v := nI R) e_X11_pairsBy_53 fl_X11_180 (sf_X11_17 i_X11_63) (hr) ?_
      refine GG.iconst (v := 1) e_X11_pairsBy_56 rfl ?_
      refine GG.iadd e_X11_pairsBy_57 ?_
      refine GG.top (nI_1 R) ?_
      refine GG.idiv e_X11_pairsBy_58 hn0 ?_
      refine GG.top d1 ?_
      refine GG.istore_n e_X11_pairsBy_59 (i := 2) rfl (Nat.le_of_ble_eq_true rfl) (ls' := [(2, .int _), (6, .int _), (5, .int _), (4, .int _), (3, .int _), (0, .ref _), (1, .int _)]) rfl ?_
      refine GG.iload e_X11_pairsBy_60 1 rfl ?_
      refine GG.if_le (tgt := 140) e_X11_pairsBy_62 rfl (fun h62 => ?_) (fun h62 => ?_)
      · skip
        have e0 : s.1 % (R + 1) = 0 := by have := nle (b := 0) h62 (by omega) (by omega); omega
        rw [if_pos e0] at hst
        refine GG.iinc e_X11_pairsBy_140 2 rfl (v := nI k + -1) (em k) (Nat.le_of_ble_eq_true rfl) (ls' := [(5, .int _), (2, .int _), (6, .int _), (4, .int _), (3, .int _), (0, .ref _), (1, .int _)]) rfl ?_
        refine GG.goto (tgt := 36) e_X11_pairsBy_143 rfl ?_
        refine GG.perm [0, 3, 4, 1, 5, 6] rfl ?_
        exact ih (s.1 / (R + 1), s.2.1, s.2.2.1, s.2.2.2) ν (by omega) hdv (show s.2.1 + k ≤ 7 by omega) hst hν h72 _ rfl
      · skip
        have e0 : 0 < s.1 % (R + 1) := nnle (b := 0) h62 (by omega) (by omega)
        have f1 := h70 k (by omega)
        have f2 := h71 (s.1 % (R + 1) - 1) (by omega)
        refine GG.aload_n e_X11_pairsBy_65 (i := 0) rfl 5 rfl ?_
        refine GG.getR (b := 70) e_X11_pairsBy_66 fl_X11_33 (sf_X11_14 i_X11_63) ?_
        refine GG.iload e_X11_pairsBy_69 2 rfl ?_
        refine GG.ialoadV (k := k) (v := nI (Lf k)) e_X11_pairsBy_71 (sa_X11_14 i_X11_63) (rfl) (by omega) (Nat.le_of_ble_eq_true rfl) (by rw [hν.1 70 k (by omega)]; exact f1.1) ?_
        refine GG.istore e_X11_pairsBy_72 (Nat.le_of_ble_eq_true rfl) (ls' := [(7, .int _), (2, .int _), (6, .int _), (5, .int _), (4, .int _), (3, .int _), (0, .ref _), (1, .int _)]) rfl ?_
        refine GG.aload_n e_X11_pairsBy_74 (i := 0) rfl 6 rfl ?_
        refine GG.getR (b := 71) e_X11_pairsBy_75 fl_X11_36 (sf_X11_15 i_X11_63) ?_
        refine GG.iload e_X11_pairsBy_78 2 rfl ?_
        refine GG.iconst (v := 1) e_X11_pairsBy_80 rfl ?_
        refine GG.isub e_X11_pairsBy_81 ?_
        refine GG.top (show nI (s.1 % (R + 1)) - 1 = nI (s.1 % (R + 1) - 1) by rw [show (1 : Int32) = nI 1 from rfl, pk_sub (by omega)]) ?_
        refine GG.ialoadV (k := s.1 % (R + 1) - 1) (v := nI (Rt (s.1 % (R + 1) - 1))) e_X11_pairsBy_82 (sa_X11_15 i_X11_63) (rfl) (by omega) (Nat.le_of_ble_eq_true rfl) (by rw [hν.1 71 _ (by omega)]; exact f2.1) ?_
        refine GG.istore e_X11_pairsBy_83 (Nat.le_of_ble_eq_true rfl) (ls' := [(8, .int _), (7, .int _), (2, .int _), (6, .int _), (5, .int _), (4, .int _), (3, .int _), (0, .ref _), (1, .int _)]) rfl ?_
        refine GG.iload e_X11_pairsBy_85 5 rfl ?_
        refine GG.if_eq (tgt := 116) e_X11_pairsBy_87 rfl (fun h87 => ?_) (fun h87 => ?_)
        · skip
          have g1 := (bI_0 _).mp h87
          refine GG.iconst (v := 0) e_X11_pairsBy_116 rfl ?_
          first | exact fin e0 false (by rw [g1]; rfl) | exact fin e0 false (by rw [decide_eq_false h98]; simp) | exact fin e0 false (by rw [g2]; simp) | exact fin e0 true (by rw [g1, g2, decide_eq_true h98]; rfl)
        · skip
          have g1 := (bI_n0 _).mp h87
          refine GG.aload_n e_X11_pairsBy_90 (i := 0) rfl 7 rfl ?_
          refine GG.getR (b := 72) e_X11_pairsBy_91 fl_X11_39 (sf_X11_18 i_X11_63) ?_
          refine GG.iload e_X11_pairsBy_94 0 rfl ?_
          refine GG.ialoadV (k := Rt (s.1 % (R + 1) - 1)) (v := s.2.2.2 (Rt (s.1 % (R + 1) - 1))) e_X11_pairsBy_96 (sa_X11_18 i_X11_63) (rfl) (by have := f2.2; omega) (Nat.le_of_ble_eq_true rfl) (h72 _ f2.2) ?_
          refine GG.iconst (v := -1) e_X11_pairsBy_97 rfl ?_
          refine GG.icmp_ne (tgt := 116) e_X11_pairsBy_98 rfl (fun h98 => ?_) (fun h98 => ?_)
          · skip
            refine GG.iconst (v := 0) e_X11_pairsBy_116 rfl ?_
            first | exact fin e0 false (by rw [g1]; rfl) | exact fin e0 false (by rw [decide_eq_false h98]; simp) | exact fin e0 false (by rw [g2]; simp) | exact fin e0 true (by rw [g1, g2, decide_eq_true h98]; rfl)
          · skip
            refine GG.aload_n e_X11_pairsBy_101 (i := 0) rfl 7 rfl ?_
            refine GG.iload e_X11_pairsBy_102 1 rfl ?_
            refine GG.iload e_X11_pairsBy_104 0 rfl ?_
            refine GG.callV (d' := 1) (a := 63) (as := [.int _, .int _]) e_X11_pairsBy_106 ml_X11_183 mf_X11_areAlike mv_X11_areAlike (rc_X11 i_X11_63) rfl (by decide) (Nat.le_of_ble_eq_true rfl) rfl ?_
            refine s_X11_areAlike f1.2 f2.2 ?_
            rw [show rAlk ν (Lf k) (Rt (s.1 % (R + 1) - 1)) = al (Lf k) (Rt (s.1 % (R + 1) - 1)) by rw [hal _ _ f1.2 f2.2]; unfold rAlk; simp only [hν.1 64 _ (show ¬ (64 : Nat) = 72 by omega)]]
            refine GG.if_eq (tgt := 116) e_X11_pairsBy_109 rfl (fun h109 => ?_) (fun h109 => ?_)
            · skip
              have g2 := (bI_0 _).mp h109
              refine GG.iconst (v := 0) e_X11_pairsBy_116 rfl ?_
              first | exact fin e0 false (by rw [g1]; rfl) | exact fin e0 false (by rw [decide_eq_false h98]; simp) | exact fin e0 false (by rw [g2]; simp) | exact fin e0 true (by rw [g1, g2, decide_eq_true h98]; rfl)
            · skip
              have g2 := (bI_n0 _).mp h109
              refine GG.iconst (v := 1) e_X11_pairsBy_112 rfl ?_
              refine GG.goto (tgt := 117) e_X11_pairsBy_113 rfl ?_
              first | exact fin e0 false (by rw [g1]; rfl) | exact fin e0 false (by rw [decide_eq_false h98]; simp) | exact fin e0 false (by rw [g2]; simp) | exact fin e0 true (by rw [g1, g2, decide_eq_true h98]; rfl)
  have lp1 : ∀ n' i ν, 7 - i < n' → i ≤ 7 → gM2 μ ν → (∀ q, q < i → mrd ν 72 q = -1) → GG 2 MX11_pairsBy 2 [(2, .int (nI i)), (0, .ref 63), (1, .int (nI n))] [] ν Q := by
    intro n'
    induction n' with
    | zero => intro i ν h; omega
    | succ n' ih =>
      intro i ν hn' hi hν h72
      refine GG.iload_n e_X11_pairsBy_2 (i := 2) rfl 0 rfl ?_
      refine GG.bipush (v := 7) e_X11_pairsBy_3 rfl ?_
      refine GG.icmp_ge (tgt := 21) e_X11_pairsBy_5 rfl (fun h5 => ?_) (fun h5 => ?_)
      · skip
        have e : i = 7 := by have := nle (a := 7) (b := i) h5 (by omega) (by omega); omega
        refine GG.iload_n e_X11_pairsBy_21 (i := 1) rfl 2 rfl ?_
        refine GG.istore_n e_X11_pairsBy_22 (i := 2) rfl (Nat.le_of_ble_eq_true rfl) (ls' := [(2, .int _), (0, .ref _), (1, .int _)]) rfl ?_
        refine GG.iconst (v := 0) e_X11_pairsBy_23 rfl ?_
        refine GG.istore_n e_X11_pairsBy_24 (i := 3) rfl (Nat.le_of_ble_eq_true rfl) (ls' := [(3, .int _), (2, .int _), (0, .ref _), (1, .int _)]) rfl ?_
        refine GG.iconst (v := 1) e_X11_pairsBy_25 rfl ?_
        refine GG.istore e_X11_pairsBy_26 (Nat.le_of_ble_eq_true rfl) (ls' := [(4, .int _), (3, .int _), (2, .int _), (0, .ref _), (1, .int _)]) rfl ?_
        refine GG.aload_n e_X11_pairsBy_28 (i := 0) rfl 3 rfl ?_
        refine GG.getIv (v := nI L) e_X11_pairsBy_29 fl_X11_177 (sf_X11_16 i_X11_63) (by rw [hν.1 63 16 (by omega), hL]) ?_
        refine GG.iconst (v := 1) e_X11_pairsBy_32 rfl ?_
        refine GG.isub e_X11_pairsBy_33 ?_
        refine GG.istore e_X11_pairsBy_34 (Nat.le_of_ble_eq_true rfl) (ls' := [(5, .int _), (4, .int _), (3, .int _), (2, .int _), (0, .ref _), (1, .int _)]) rfl ?_
        exact lp2 L (n, 0, true, fun _ => -1) ν (by omega) hn (by show 0 + L ≤ 7; omega) rfl hν (fun q hq => h72 q (by omega)) _ (Int32.sub_eq_add_neg _ _)
      · skip
        have e := nnle (a := 7) (b := i) h5 (by omega) (by omega)
        refine GG.aload_n e_X11_pairsBy_8 (i := 0) rfl 1 rfl ?_
        refine GG.getR (b := 72) e_X11_pairsBy_9 fl_X11_39 (sf_X11_18 i_X11_63) ?_
        refine GG.iload_n e_X11_pairsBy_12 (i := 2) rfl 0 rfl ?_
        refine GG.iconst (v := -1) e_X11_pairsBy_13 rfl ?_
        refine GG.iastoreE (k := i) e_X11_pairsBy_14 (sa_X11_18 i_X11_63) (rfl) (by omega) (Nat.le_of_ble_eq_true rfl) ?_
        refine GG.iinc e_X11_pairsBy_15 0 rfl (v := _) (by first | exact nI_s _ | exact nI_d _ | rfl) (Nat.le_of_ble_eq_true rfl) (ls' := [(2, .int _), (0, .ref _), (1, .int _)]) rfl ?_
        refine GG.goto (tgt := 2) e_X11_pairsBy_18 rfl ?_
        refine ih (i + 1) _ (by omega) (by omega) hν.wr (fun q hq => ?_)
        rw [mrd_wr]
        have := h72 q
        grind
  refine SPC.of (by decide +kernel) (Nat.le_of_ble_eq_true rfl) (ls := [(0, .ref (63)), (1, .int (nI n))]) rfl ?_
  refine GG.iconst (v := 0) e_X11_pairsBy_0 rfl ?_
  refine GG.istore_n e_X11_pairsBy_1 (i := 2) rfl (Nat.le_of_ble_eq_true rfl) (ls' := [(2, .int _), (0, .ref _), (1, .int _)]) rfl ?_
  exact lp1 8 0 μ (by omega) (by omega) (gM2.rf μ) (fun q h => by omega)
theorem rPb_p {Lf Rt : Nat → Nat} {R : Nat} {al : Nat → Nat → Bool} : ∀ k s, (rPb Lf Rt R al k s).2.1 ≤ s.2.1 + k := by
  intro k
  induction k with
  | zero => intro s; exact Nat.le_refl _
  | succ k ih =>
    intro s
    rw [rPb]
    split
    · refine Nat.le_trans (ih _) ?_
      show s.2.1 + k ≤ _
      omega
    · refine Nat.le_trans (ih _) ?_
      show s.2.1 + 1 + k ≤ _
      omega
theorem gM2.mt {ν ξ : gM} (h : gMt μ ν) (h2 : gM2 ν ξ) : gMt μ ξ := ⟨fun c j q q2 => (h2.1 c j (by omega)).trans (h.1 c j q q2), fun c j => (h2.2 c j).trans (h.2 c j)⟩
theorem s_X11_mostPairs {f g : Nat → Bool} {al : Nat → Nat → Bool} {F G : Nat} (hR : MR μ P A) (hf : ∀ i, f i = decide (mrd μ 64 (19 + i) = 0)) (hg : ∀ i, g i = !f i) (hF : F = mCt f P) (hG : G = mCt g P) (hal : ∀ i j, i < 7 → j < 7 → al i j = rAlk μ i j) (hpw : (G + 1) ^ F ≤ 256)
    (hQ : ∀ ν, gMt μ ν → (∀ q, q < 7 → mrd ν 73 q = (rMst (sdA f P) (sdA g P) G al F ((G + 1) ^ F)).2 q ∨ (rMst (sdA f P) (sdA g P) G al F ((G + 1) ^ F)).1 = -1) → Q (some (.int (rMst (sdA f P) (sdA g P) G al F ((G + 1) ^ F)).1)) ν) : SPC 3 MX11_mostPairs [.ref 63] μ Q := by
  have hP7 := hR.2.1
  have hF7 : F ≤ 7 := by rw [hF]; exact Nat.le_trans (mCt_le f P) hP7
  have hG7 : G ≤ 7 := by rw [hG]; exact Nat.le_trans (mCt_le g P) hP7
  generalize hms : rMst (sdA f P) (sdA g P) G al F = ms at hQ
  have hm1 : ∀ n, ms (n + 1) = if (ms n).1 < rPr (rIn (sdA f P) (sdA g P) G al n F) then (rPr (rIn (sdA f P) (sdA g P) G al n F), (rIn (sdA f P) (sdA g P) G al n F).2.2.2) else ms n := fun n => by rw [← hms]; rfl
  have hm0 : ms 0 = (-1, fun _ => 0) := by rw [← hms]; rfl
  have lp2 : ∀ n m ν, (G + 1) ^ F - m < n → m ≤ (G + 1) ^ F → gMt μ ν → mrd ν 63 16 = nI F → mrd ν 63 17 = nI G → (∀ k, k < F → mrd ν 70 k = nI (sdA f P k)) → (∀ k, k < G → mrd ν 71 k = nI (sdA g P k)) → (∀ q, q < 7 → mrd ν 73 q = (ms m).2 q ∨ (ms m).1 = -1) → ∀ a, a = nI ((G + 1) ^ F) → GG 3 MX11_mostPairs 35 [(3, .int (nI m)), (2, .int (ms m).1), (1, .int a), (0, .ref 63)] [] ν Q := by
    intro n
    induction n with
    | zero => intro m ν h; omega
    | succ n ih =>
      intro m ν hn hm hν h16 h17 hl hr h73 a ha
      subst ha
      have nx : ∀ ν2 x, gM2 ν ν2 → x = (ms (m + 1)).1 → m < (G + 1) ^ F → (∀ q, q < 7 → mrd ν2 73 q = (ms (m + 1)).2 q ∨ (ms (m + 1)).1 = -1) → True := fun _ _ _ _ _ _ => trivial
      have lp3 : ∀ n' i ν2, 7 - i < n' → i ≤ 7 → m < (G + 1) ^ F → gMt μ ν2 → mrd ν2 63 16 = nI F → mrd ν2 63 17 = nI G → (∀ k, k < F → mrd ν2 70 k = nI (sdA f P k)) → (∀ k, k < G → mrd ν2 71 k = nI (sdA g P k)) → (∀ q, q < 7 → mrd ν2 72 q = (ms (m + 1)).2 q) → (∀ q, q < i → mrd ν2 73 q = (ms (m + 1)).2 q) → GG 3 MX11_mostPairs 59 [(5, .int (nI i)), (2, .int (ms (m + 1)).1), (4, .int (ms (m + 1)).1), (3, .int (nI m)), (1, .int (nI ((G + 1) ^ F))), (0, .ref 63)] [] ν2 Q := by
        intro n'
        induction n' with
        | zero => intro i ν2 h; omega
        | succ n' ih3 =>
          intro i ν2 hn' hi hmm g1 g2 g3 g4 g5 g6 g7
          refine GG.iload e_X11_mostPairs_59 0 rfl ?_
          refine GG.bipush (v := 7) e_X11_mostPairs_61 rfl ?_
          refine GG.icmp_ge (tgt := 86) e_X11_mostPairs_63 rfl (fun h63 => ?_) (fun h63 => ?_)
          · skip
            have e : i = 7 := by have := nle (a := 7) (b := i) h63 (by omega) (by omega); omega
            subst e
            refine GG.iinc e_X11_mostPairs_86 3 rfl (v := _) (by first | exact nI_s _ | exact nI_d _ | rfl) (Nat.le_of_ble_eq_true rfl) (ls' := [(3, .int _), (5, .int _), (2, .int _), (4, .int _), (1, .int _), (0, .ref _)]) rfl ?_
            refine GG.goto (tgt := 35) e_X11_mostPairs_89 rfl ?_
            refine GG.perm [0, 2, 4, 5] rfl ?_
            exact ih (m + 1) ν2 (by omega) (by omega) g1 g2 g3 g4 g5 (fun q hq => Or.inl (g7 q hq)) _ rfl
          · skip
            have e := nnle (a := 7) (b := i) h63 (by omega) (by omega)
            refine GG.aload_n e_X11_mostPairs_66 (i := 0) rfl 5 rfl ?_
            refine GG.getR (b := 73) e_X11_mostPairs_67 fl_X11_42 (sf_X11_19 i_X11_63) ?_
            refine GG.iload e_X11_mostPairs_70 0 rfl ?_
            refine GG.aload_n e_X11_mostPairs_72 (i := 0) rfl 5 rfl ?_
            refine GG.getR (b := 72) e_X11_mostPairs_73 fl_X11_39 (sf_X11_18 i_X11_63) ?_
            refine GG.iload e_X11_mostPairs_76 0 rfl ?_
            refine GG.ialoadE (k := i) e_X11_mostPairs_78 (sa_X11_18 i_X11_63) (rfl) (by omega) (Nat.le_of_ble_eq_true rfl) ?_
            refine GG.iastoreE (k := i) e_X11_mostPairs_79 (sa_X11_19 i_X11_63) (rfl) (by omega) (Nat.le_of_ble_eq_true rfl) ?_
            refine GG.iinc e_X11_mostPairs_80 0 rfl (v := _) (by first | exact nI_s _ | exact nI_d _ | rfl) (Nat.le_of_ble_eq_true rfl) (ls' := [(5, .int _), (2, .int _), (4, .int _), (3, .int _), (1, .int _), (0, .ref _)]) rfl ?_
            refine GG.goto (tgt := 59) e_X11_mostPairs_83 rfl ?_
            refine ih3 (i + 1) _ (by omega) (by omega) hmm (g1.wr (by omega)) ?_ ?_ (fun k hk => ?_) (fun k hk => ?_) (fun q hq => ?_) (fun q hq => ?_)
            · rw [mrd_wr, if_neg (by omega)]; exact g2
            · rw [mrd_wr, if_neg (by omega)]; exact g3
            · rw [mrd_wr, if_neg (by omega)]; exact g4 k hk
            · rw [mrd_wr, if_neg (by omega)]; exact g5 k hk
            · rw [mrd_wr, if_neg (by omega)]; exact g6 q hq
            · rw [mrd_wr]
              by_cases e9 : q = i
              · rw [if_pos ⟨rfl, e9⟩, e9]; exact g6 i e
              · rw [if_neg (fun z => e9 z.2)]; exact g7 q (by omega)
      refine GG.iload_n e_X11_mostPairs_35 (i := 3) rfl 0 rfl ?_
      refine GG.iload_n e_X11_mostPairs_36 (i := 1) rfl 2 rfl ?_
      refine GG.icmp_ge (tgt := 92) e_X11_mostPairs_37 rfl (fun h37 => ?_) (fun h37 => ?_)
      · skip
        have e : m = (G + 1) ^ F := by have := nle h37 (by omega) (by omega); omega
        subst e
        refine GG.iload_n e_X11_mostPairs_92 (i := 2) rfl 1 rfl ?_
        refine GG.iret e_X11_mostPairs_93 rfl rfl ?_
        exact hQ ν hν h73
      · skip
        have e : m < (G + 1) ^ F := by have := nnle h37 (by omega) (by omega); omega
        refine GG.aload_n e_X11_mostPairs_40 (i := 0) rfl 3 rfl ?_
        refine GG.iload_n e_X11_mostPairs_41 (i := 3) rfl 0 rfl ?_
        refine GG.callV (d' := 2) (a := 63) (as := [.int _]) e_X11_mostPairs_42 ml_X11_189 mf_X11_pairsBy mv_X11_pairsBy (rc_X11 i_X11_63) rfl (by decide) (Nat.le_of_ble_eq_true rfl) rfl ?_
        refine s_X11_pairsBy (Lf := sdA f P) (Rt := sdA g P) (al := al) (L := F) (R := G) (n := m) (by omega) h16 h17 hF7 hG7 (fun k hk => ⟨hl k hk, Nat.lt_of_lt_of_le (sdA_lt f P k (by omega)).1 hP7⟩) (fun k hk => ⟨hr k hk, Nat.lt_of_lt_of_le (sdA_lt g P k (by omega)).1 hP7⟩) (fun i j hi hj => ?_) (fun k q hk hq z => ?_) (fun ν2 hν2 h72 => ?_)
        · rw [hal i j hi hj]; unfold rAlk; simp only [hν.row]
        · have z1 := (sdA_lt f P k (by omega)).2
          have z2 := (sdA_lt g P q (by omega)).2
          rw [← z, hg, z1] at z2
          cases z2
        have k16 : mrd ν2 63 16 = nI F := by rw [hν2.1 63 16 (by omega), h16]
        have k17 : mrd ν2 63 17 = nI G := by rw [hν2.1 63 17 (by omega), h17]
        have k70 : ∀ k, k < F → mrd ν2 70 k = nI (sdA f P k) := fun k hk => by rw [hν2.1 70 k (by omega)]; exact hl k hk
        have k71 : ∀ k, k < G → mrd ν2 71 k = nI (sdA g P k) := fun k hk => by rw [hν2.1 71 k (by omega)]; exact hr k hk
        have hs := hm1 m
        refine GG.istore e_X11_mostPairs_45 (Nat.le_of_ble_eq_true rfl) (ls' := [(4, .int _), (3, .int _), (2, .int _), (1, .int _), (0, .ref _)]) rfl ?_
        refine GG.iload e_X11_mostPairs_47 0 rfl ?_
        refine GG.iload_n e_X11_mostPairs_49 (i := 2) rfl 2 rfl ?_
        refine GG.icmp_le (tgt := 86) e_X11_mostPairs_50 rfl (fun h50 => ?_) (fun h50 => ?_)
        · skip
          have q : ms (m + 1) = ms m := by rw [hs, if_neg (Int32.not_lt.mpr h50)]
          refine GG.iinc e_X11_mostPairs_86 1 rfl (v := _) (by first | exact nI_s _ | exact nI_d _ | rfl) (Nat.le_of_ble_eq_true rfl) (ls' := [(3, .int _), (4, .int _), (2, .int _), (1, .int _), (0, .ref _)]) rfl ?_
          refine GG.goto (tgt := 35) e_X11_mostPairs_89 rfl ?_
          refine GG.perm [0, 2, 3, 4] rfl ?_
          have w := ih (m + 1) ν2 (by omega) (by omega) (gM2.mt hν hν2) k16 k17 k70 k71 (by rw [q]; intro r hr; rw [hν2.1 73 r (by omega)]; exact h73 r hr) _ rfl
          rw [q] at w
          exact w
        · skip
          have q : ms (m + 1) = (rPr (rIn (sdA f P) (sdA g P) G al m F), (rIn (sdA f P) (sdA g P) G al m F).2.2.2) := by rw [hs, if_pos (Int32.not_le.mp h50)]
          refine GG.iload e_X11_mostPairs_53 0 rfl ?_
          refine GG.istore_n e_X11_mostPairs_55 (i := 2) rfl (Nat.le_of_ble_eq_true rfl) (ls' := [(2, .int _), (4, .int _), (3, .int _), (1, .int _), (0, .ref _)]) rfl ?_
          refine GG.iconst (v := 0) e_X11_mostPairs_56 rfl ?_
          refine GG.istore e_X11_mostPairs_57 (Nat.le_of_ble_eq_true rfl) (ls' := [(5, .int _), (2, .int _), (4, .int _), (3, .int _), (1, .int _), (0, .ref _)]) rfl ?_
          have w := lp3 8 0 ν2 (by omega) (by omega) e (gM2.mt hν hν2) k16 k17 k70 k71 (by rw [q]; exact h72) (fun q h => by omega)
          rw [q] at w
          exact w
  have lp1 : ∀ n j ν, F - j < n → j ≤ F → gMt μ ν → mrd ν 63 16 = nI F → mrd ν 63 17 = nI G → (∀ k, k < F → mrd ν 70 k = nI (sdA f P k)) → (∀ k, k < G → mrd ν 71 k = nI (sdA g P k)) → GG 3 MX11_mostPairs 8 [(2, .int (nI j)), (1, .int (nI ((G + 1) ^ j))), (0, .ref 63)] [] ν Q := by
    intro n
    induction n with
    | zero => intro j ν h; omega
    | succ n ih =>
      intro j ν hn hj hν h16 h17 hl hr
      refine GG.iload_n e_X11_mostPairs_8 (i := 2) rfl 0 rfl ?_
      refine GG.aload_n e_X11_mostPairs_9 (i := 0) rfl 2 rfl ?_
      refine GG.getIv (v := nI F) e_X11_mostPairs_10 fl_X11_177 (sf_X11_16 i_X11_63) (h16) ?_
      refine GG.icmp_ge (tgt := 31) e_X11_mostPairs_13 rfl (fun h13 => ?_) (fun h13 => ?_)
      · skip
        have e : j = F := by have := nle h13 (by omega) (by omega); omega
        subst e
        refine GG.iconst (v := -1) e_X11_mostPairs_31 rfl ?_
        refine GG.istore_n e_X11_mostPairs_32 (i := 2) rfl (Nat.le_of_ble_eq_true rfl) (ls' := [(2, .int _), (1, .int _), (0, .ref _)]) rfl ?_
        refine GG.iconst (v := 0) e_X11_mostPairs_33 rfl ?_
        refine GG.istore_n e_X11_mostPairs_34 (i := 3) rfl (Nat.le_of_ble_eq_true rfl) (ls' := [(3, .int _), (2, .int _), (1, .int _), (0, .ref _)]) rfl ?_
        have w := lp2 _ 0 ν (Nat.lt_succ_self _) (Nat.zero_le _) hν h16 h17 hl hr (fun q _ => Or.inr (by rw [hm0])) _ rfl
        rw [hm0] at w
        exact w
      · skip
        have e : j < F := by have := nnle h13 (by omega) (by omega); omega
        refine GG.iload_n e_X11_mostPairs_16 (i := 1) rfl 1 rfl ?_
        refine GG.aload_n e_X11_mostPairs_17 (i := 0) rfl 2 rfl ?_
        refine GG.getIv (v := nI G) e_X11_mostPairs_18 fl_X11_180 (sf_X11_17 i_X11_63) (h17) ?_
        refine GG.iconst (v := 1) e_X11_mostPairs_21 rfl ?_
        refine GG.iadd e_X11_mostPairs_22 ?_
        refine GG.top (nI_1 G) ?_
        refine GG.imul e_X11_mostPairs_23 ?_
        refine GG.top (pk_mul _ _) ?_
        refine GG.istore_n e_X11_mostPairs_24 (i := 1) rfl (Nat.le_of_ble_eq_true rfl) (ls' := [(1, .int _), (2, .int _), (0, .ref _)]) rfl ?_
        refine GG.iinc e_X11_mostPairs_25 1 rfl (v := _) (by first | exact nI_s _ | exact nI_d _ | rfl) (Nat.le_of_ble_eq_true rfl) (ls' := [(2, .int _), (1, .int _), (0, .ref _)]) rfl ?_
        refine GG.goto (tgt := 8) e_X11_mostPairs_28 rfl ?_
        exact ih (j + 1) ν (by omega) (by omega) hν h16 h17 hl hr
  refine SPC.of (by decide +kernel) (Nat.le_of_ble_eq_true rfl) (ls := [(0, .ref (63))]) rfl ?_
  refine GG.aload_n e_X11_mostPairs_0 (i := 0) rfl 0 rfl ?_
  refine GG.callV (d' := 0) (a := 63) (as := []) e_X11_mostPairs_1 ml_X11_186 mf_X11_laySides mv_X11_laySides (rc_X11 i_X11_63) rfl (by decide) (Nat.le_of_ble_eq_true rfl) rfl ?_
  refine s_X11_laySides hR hf hg (fun ν hν h16 h17 hl hr => ?_)
  rw [← hF] at h16 hl
  rw [← hG] at h17 hr
  refine GG.iconst (v := 1) e_X11_mostPairs_4 rfl ?_
  refine GG.istore_n e_X11_mostPairs_5 (i := 1) rfl (Nat.le_of_ble_eq_true rfl) (ls' := [(1, .int _), (0, .ref _)]) rfl ?_
  refine GG.iconst (v := 0) e_X11_mostPairs_6 rfl ?_
  refine GG.istore_n e_X11_mostPairs_7 (i := 2) rfl (Nat.le_of_ble_eq_true rfl) (ls' := [(2, .int _), (1, .int _), (0, .ref _)]) rfl ?_
  exact lp1 (F + 1) 0 ν (by omega) (by omega) hν h16 h17 hl hr
end S44
