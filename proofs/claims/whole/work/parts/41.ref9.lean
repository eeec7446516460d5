/-! THE REFERENCE: its face, seventh part: the game, what there is -/
def rNm (μ : gM) (k : Nat) : Int32 :=
  if k = 0 then mrd μ 64 11 else if k = 1 then mrd μ 64 26 else if k = 2 then mCnt (mrd μ 64 7) else if k = 3 then mrd μ 64 9 else if k = 4 then mrd μ 64 8 else if k = 5 then mrd μ 64 10
  else if k = 6 then mrd μ 64 35 else if k = 7 then mrd μ 64 48 else if k = 8 then mrd μ 64 73 else if k = 9 then mrd μ 64 98 else mrd μ 63 6
theorem g_ix : ∀ q, q < 20 → (10 : Int32) * nI (q / 10) = nI (q - q % 10) ∧ (10 : Int32) * (1 - nI (q / 10)) + nI (q % 10) = nI ((q + 10) % 20) ∧ (2 : Int32) * nI (q / 10) = (if q < 10 then 0 else 2) ∧ (2 : Int32) * (1 - nI (q / 10)) = (if (q + 10) % 20 < 10 then 0 else 2) := by decide +kernel
theorem g_th : ∀ T, T < 16 → ∀ u, u < 4 → nI T &&& (((1 : Int32) <<< (nI u &&& 31)) ^^^ (-1)) = nI (T &&& (15 ^^^ 2 ^ u)) ∧ nI T ||| ((1 : Int32) <<< (nI u &&& 31)) = nI (T ||| 2 ^ u) := by decide +kernel
theorem oB_01 {z : Int32} (h : oB z 0 1 = false) : z = 0 ∨ z = 1 := by
  obtain ⟨n, rfl, h1, h2⟩ := oB_n (A := 0) (B := 1) h rfl rfl (by omega) (by omega)
  have : n = 0 ∨ n = 1 := by omega
  rcases this with rfl | rfl
  · exact Or.inl rfl
  · exact Or.inr rfl
/-- the tried pairs' sounds are scratch -/
def gTs (μ ν : gM) : Prop := (∀ c j, ¬ c = 69 → ¬ c = 75 → ¬ (c = 64 ∧ 537 ≤ j) → mrd ν c j = mrd μ c j) ∧ ∀ c j, mrL ν c j = mrL μ c j
section S41
variable {μ : gM} {Q : Option Value → gM → Prop} {P A U L T N M B k r : Nat} {i c a w z v x y o s : Int32}
theorem gTs.sm {ν : gM} (h : gTs μ ν) : gSm μ ν := ⟨fun c j q => h.1 c j (by rintro rfl; exact q (by unfold gScr; omega)) (by rintro rfl; exact q (by unfold gScr; omega)) (by rintro ⟨rfl, z⟩; exact q (by unfold gScr; omega)), h.2⟩
theorem gTs.row {ν : gM} (h : gTs μ ν) {j : Nat} (hj : j < 537) : mrd ν 64 j = mrd μ 64 j := h.1 64 j (by omega) (by omega) (by omega)
theorem gTs.cr : gTs μ (mCr μ 0 537 10) := ⟨fun c j h1 h2 h3 => by rw [mrd_Cr, if_neg (by omega)], fun c j => rfl⟩
theorem gTs.l9 {ν ξ : gM} (h : gTs μ ν) (h2 : gL9 ν ξ) : gTs μ ξ := ⟨fun c j q q2 q3 => (h2.1 c j q).trans (h.1 c j q q2 q3), fun c j => (h2.2 c j).trans (h.2 c j)⟩
theorem gTs.wr {ν : gM} (h : gTs μ ν) (hk : 537 ≤ k) : gTs μ (mwr ν 64 k x) := ⟨fun c j q q2 q3 => by rw [mrd_wr, if_neg (by omega)]; exact h.1 c j q q2 q3, h.2⟩
theorem gTs.wb {ν : gM} (h : gTs μ ν) : gTs μ (mwr ν 75 k x) := ⟨fun c j q q2 q3 => by rw [mrd_wr, if_neg (by omega)]; exact h.1 c j q q2 q3, h.2⟩
theorem gTs.mr {ν : gM} (h : gTs μ ν) (hR : MR μ P A) : MR ν P A := by
  unfold MR
  rw [h.row (by omega), h.row (by omega)]
  exact hR
theorem TT.wb {ν : gM} {V : Nat → Nat → Int32} {th : Int32} (h : TT ν V P A th) : TT (mwr ν 75 k x) V P A th := by
  have e : ∀ j, mrd (mwr ν 75 k x) 64 j = mrd ν 64 j := fun j => by rw [mrd_wr, if_neg (by omega)]
  have e2 : rV (mwr ν 75 k x) 537 = rV ν 537 := by
    funext f j
    simp only [rV, e]
  unfold TT
  rw [e2, e]
  exact h
theorem s_X11_rests {q : Nat} (hq : q < 20) (hQ : Q (some (.int (bI (gRs (mrd μ 75) q)))) μ) : SPC 0 MX11_rests [.ref 63, .int (nI (q / 10)), .int (nI (q % 10))] μ Q := by
  obtain ⟨g1, g2, g3, g4⟩ := g_ix q hq
  have eq : q - q % 10 + q % 10 = q := by omega
  generalize hf : (fun a => decide (gSw (mrd μ 75) (q - q % 10 + a) ≤ gSw (mrd μ 75) q)) = f
  have hfa : ∀ a, f a = decide (gSw (mrd μ 75) (q - q % 10 + a) ≤ gSw (mrd μ 75) q) := fun a => by rw [← hf]
  have hR : gRs (mrd μ 75) q = (decide (gAu (mrd μ 75) ((q + 10) % 20) ≤ gAu (mrd μ 75) q) && mAll f 10) := by rw [gRs, hf, Bool.and_comm]
  have lp : ∀ n j, 10 - j < n → j ≤ 10 → GG 0 MX11_rests 63 [(5, .int (nI j)), (4, .int (bI (decide (gAu (mrd μ 75) ((q + 10) % 20) ≤ gAu (mrd μ 75) q) && mAll f j))), (3, .int (gSw (mrd μ 75) q)), (0, .ref 63), (1, .int (nI (q / 10))), (2, .int (nI (q % 10)))] [] μ Q := by
    intro n
    induction n with
    | zero => intro j h; omega
    | succ n ih =>
      intro j hn hj
      refine GG.iload e_X11_rests_63 0 rfl ?_
      refine GG.bipush (v := 10) e_X11_rests_65 rfl ?_
      refine GG.icmp_ge (tgt := 107) e_X11_rests_67 rfl (fun h67 => ?_) (fun h67 => ?_)
      · skip
        have e : j = 10 := by have := nle (a := 10) (b := j) h67 (by omega) (by omega); omega
        subst e
        refine GG.iload e_X11_rests_107 1 rfl ?_
        refine GG.zret e_X11_rests_109 rfl (gZ_n (bI_z _)) rfl ?_
        exact qI hQ (by rw [hR])
      · skip
        have e := nnle (a := 10) (b := j) h67 (by omega) (by omega)
        have fj := hfa j
        have g := ih (j + 1) (by omega) (by omega)
        rw [mAll, ← Bool.and_assoc] at g
        have em : (q - q % 10 + j) % 10 = j := by omega
        refine GG.iload e_X11_rests_70 1 rfl ?_
        refine GG.if_eq (tgt := 98) e_X11_rests_72 rfl (fun h72 => ?_) (fun h72 => ?_)
        · skip
          rw [bI_0] at h72
          rw [h72, Bool.false_and] at g
          refine GG.iconst (v := 0) e_X11_rests_98 rfl ?_
          refine GG.istore e_X11_rests_99 (Nat.le_of_ble_eq_true rfl) (ls' := [(4, .int _), (5, .int _), (3, .int _), (0, .ref _), (1, .int _), (2, .int _)]) rfl ?_
          refine GG.iinc e_X11_rests_101 1 rfl (v := _) (by first | exact nI_s _ | exact nI_d _ | rfl) (Nat.le_of_ble_eq_true rfl) (ls' := [(5, .int _), (4, .int _), (3, .int _), (0, .ref _), (1, .int _), (2, .int _)]) rfl ?_
          refine GG.goto (tgt := 63) e_X11_rests_104 rfl ?_
          first | exact g | (rw [e91, decide_eq_true (Int32.not_lt.mp h91)] at g; exact g) | (rw [e91, decide_eq_false (Int32.not_le.mpr h91)] at g; exact g)
        · skip
          rw [bI_0, Bool.not_eq_false] at h72
          rw [h72, Bool.true_and, fj] at g
          refine GG.aload_n e_X11_rests_75 (i := 0) rfl 3 rfl ?_
          refine GG.getR (b := 75) e_X11_rests_76 fl_X11_48 (sf_X11_21 i_X11_63) ?_
          refine GG.bipush (v := 10) e_X11_rests_79 rfl ?_
          refine GG.iload_n e_X11_rests_81 (i := 1) rfl 4 rfl ?_
          refine GG.imul e_X11_rests_82 ?_
          refine GG.top g1 ?_
          refine GG.iload e_X11_rests_83 0 rfl ?_
          refine GG.iadd e_X11_rests_85 ?_
          refine GG.ialoadE (k := q - q % 10 + j) e_X11_rests_86 (sa_X11_21 i_X11_63) (nI_add _ j) (by omega) (Nat.le_of_ble_eq_true rfl) ?_
          refine GG.iload e_X11_rests_87 0 rfl ?_
          refine GG.isub e_X11_rests_89 ?_
          have e91 : gSw (mrd μ 75) (q - q % 10 + j) = mrd μ 75 (q - q % 10 + j) - nI j := by unfold gSw; rw [em]
          refine GG.iload_n e_X11_rests_90 (i := 3) rfl 2 rfl ?_
          refine GG.icmp_gt (tgt := 98) e_X11_rests_91 rfl (fun h91 => ?_) (fun h91 => ?_)
          · skip
            refine GG.iconst (v := 0) e_X11_rests_98 rfl ?_
            refine GG.istore e_X11_rests_99 (Nat.le_of_ble_eq_true rfl) (ls' := [(4, .int _), (5, .int _), (3, .int _), (0, .ref _), (1, .int _), (2, .int _)]) rfl ?_
            refine GG.iinc e_X11_rests_101 1 rfl (v := _) (by first | exact nI_s _ | exact nI_d _ | rfl) (Nat.le_of_ble_eq_true rfl) (ls' := [(5, .int _), (4, .int _), (3, .int _), (0, .ref _), (1, .int _), (2, .int _)]) rfl ?_
            refine GG.goto (tgt := 63) e_X11_rests_104 rfl ?_
            first | exact g | (rw [e91, decide_eq_true (Int32.not_lt.mp h91)] at g; exact g) | (rw [e91, decide_eq_false (Int32.not_le.mpr h91)] at g; exact g)
          · skip
            refine GG.iconst (v := 1) e_X11_rests_94 rfl ?_
            refine GG.goto (tgt := 99) e_X11_rests_95 rfl ?_
            refine GG.istore e_X11_rests_99 (Nat.le_of_ble_eq_true rfl) (ls' := [(4, .int _), (5, .int _), (3, .int _), (0, .ref _), (1, .int _), (2, .int _)]) rfl ?_
            refine GG.iinc e_X11_rests_101 1 rfl (v := _) (by first | exact nI_s _ | exact nI_d _ | rfl) (Nat.le_of_ble_eq_true rfl) (ls' := [(5, .int _), (4, .int _), (3, .int _), (0, .ref _), (1, .int _), (2, .int _)]) rfl ?_
            refine GG.goto (tgt := 63) e_X11_rests_104 rfl ?_
            first | exact g | (rw [e91, decide_eq_true (Int32.not_lt.mp h91)] at g; exact g) | (rw [e91, decide_eq_false (Int32.not_le.mpr h91)] at g; exact g)
  have en : (10 : Int32) * nI (q / 10) + nI (q % 10) = nI q := by rw [g1, nI_add, eq]
  have j58 : ∀ b : Bool, b = decide (gAu (mrd μ 75) ((q + 10) % 20) ≤ gAu (mrd μ 75) q) → GG 0 MX11_rests 58 [(3, .int (gSw (mrd μ 75) q)), (0, .ref 63), (1, .int (nI (q / 10))), (2, .int (nI (q % 10)))] [.int (bI b)] μ Q := by
    intro b hb
    refine GG.istore e_X11_rests_58 (Nat.le_of_ble_eq_true rfl) (ls' := [(4, .int _), (3, .int _), (0, .ref _), (1, .int _), (2, .int _)]) rfl ?_
    refine GG.iconst (v := 0) e_X11_rests_60 rfl ?_
    refine GG.istore e_X11_rests_61 (Nat.le_of_ble_eq_true rfl) (ls' := [(5, .int _), (4, .int _), (3, .int _), (0, .ref _), (1, .int _), (2, .int _)]) rfl ?_
    have g := lp 11 0 (by omega) (by omega)
    rw [mAll, Bool.and_true, ← hb] at g
    exact g
  refine SPC.of (by decide +kernel) (Nat.le_of_ble_eq_true rfl) (ls := [(0, .ref (63)), (1, .int (nI (q / 10))), (2, .int (nI (q % 10)))]) rfl ?_
  refine GG.aload_n e_X11_rests_0 (i := 0) rfl 0 rfl ?_
  refine GG.getR (b := 75) e_X11_rests_1 fl_X11_48 (sf_X11_21 i_X11_63) ?_
  refine GG.bipush (v := 10) e_X11_rests_4 rfl ?_
  refine GG.iload_n e_X11_rests_6 (i := 1) rfl 1 rfl ?_
  refine GG.imul e_X11_rests_7 ?_
  refine GG.iload_n e_X11_rests_8 (i := 2) rfl 2 rfl ?_
  refine GG.iadd e_X11_rests_9 ?_
  refine GG.ialoadE (k := q) e_X11_rests_10 (sa_X11_21 i_X11_63) (en) (by omega) (Nat.le_of_ble_eq_true rfl) ?_
  refine GG.iload_n e_X11_rests_11 (i := 2) rfl 2 rfl ?_
  refine GG.isub e_X11_rests_12 ?_
  refine GG.istore_n e_X11_rests_13 (i := 3) rfl (Nat.le_of_ble_eq_true rfl) (ls' := [(3, .int _), (0, .ref _), (1, .int _), (2, .int _)]) rfl ?_
  refine GG.aload_n e_X11_rests_14 (i := 0) rfl 1 rfl ?_
  refine GG.getR (b := 75) e_X11_rests_15 fl_X11_48 (sf_X11_21 i_X11_63) ?_
  refine GG.bipush (v := 10) e_X11_rests_18 rfl ?_
  refine GG.iload_n e_X11_rests_20 (i := 1) rfl 2 rfl ?_
  refine GG.imul e_X11_rests_21 ?_
  refine GG.iload_n e_X11_rests_22 (i := 2) rfl 3 rfl ?_
  refine GG.iadd e_X11_rests_23 ?_
  refine GG.ialoadE (k := q) e_X11_rests_24 (sa_X11_21 i_X11_63) (en) (by omega) (Nat.le_of_ble_eq_true rfl) ?_
  refine GG.ineg e_X11_rests_25 ?_
  refine GG.iconst (v := 2) e_X11_rests_26 rfl ?_
  refine GG.iload_n e_X11_rests_27 (i := 1) rfl 2 rfl ?_
  refine GG.imul e_X11_rests_28 ?_
  refine GG.top g3 ?_
  refine GG.isub e_X11_rests_29 ?_
  refine GG.aload_n e_X11_rests_30 (i := 0) rfl 1 rfl ?_
  refine GG.getR (b := 75) e_X11_rests_31 fl_X11_48 (sf_X11_21 i_X11_63) ?_
  refine GG.bipush (v := 10) e_X11_rests_34 rfl ?_
  refine GG.iconst (v := 1) e_X11_rests_36 rfl ?_
  refine GG.iload_n e_X11_rests_37 (i := 1) rfl 2 rfl ?_
  refine GG.isub e_X11_rests_38 ?_
  refine GG.imul e_X11_rests_39 ?_
  refine GG.iload_n e_X11_rests_40 (i := 2) rfl 3 rfl ?_
  refine GG.iadd e_X11_rests_41 ?_
  refine GG.ialoadE (k := (q + 10) % 20) e_X11_rests_42 (sa_X11_21 i_X11_63) (g2) (by omega) (Nat.le_of_ble_eq_true rfl) ?_
  refine GG.ineg e_X11_rests_43 ?_
  refine GG.iconst (v := 2) e_X11_rests_44 rfl ?_
  refine GG.iconst (v := 1) e_X11_rests_45 rfl ?_
  refine GG.iload_n e_X11_rests_46 (i := 1) rfl 2 rfl ?_
  refine GG.isub e_X11_rests_47 ?_
  refine GG.imul e_X11_rests_48 ?_
  refine GG.top g4 ?_
  refine GG.isub e_X11_rests_49 ?_
  refine GG.icmp_lt (tgt := 57) e_X11_rests_50 rfl (fun h50 => ?_) (fun h50 => ?_)
  · skip
    refine GG.iconst (v := 0) e_X11_rests_57 rfl ?_
    first | exact j58 false (by rw [eq_comm, decide_eq_false_iff_not]; exact Int32.not_le.mpr h50) | exact j58 true (by rw [eq_comm, decide_eq_true_eq]; exact Int32.not_lt.mp h50)
  · skip
    refine GG.iconst (v := 1) e_X11_rests_53 rfl ?_
    refine GG.goto (tgt := 58) e_X11_rests_54 rfl ?_
    first | exact j58 false (by rw [eq_comm, decide_eq_false_iff_not]; exact Int32.not_le.mpr h50) | exact j58 true (by rw [eq_comm, decide_eq_true_eq]; exact Int32.not_lt.mp h50)
theorem s_X11_game {k : Int32} (hR : MR μ P A) (hT : mrd μ 64 7 = nI T) (hT16 : T < 16) (hbad : (!mIn i P || !mIn z A || oB c 0 99 || decide (k < -1)) = true → Q (some (.int (-10))) (rRf μ 0))
    (hok : ∀ p u, p < P → u < A → i = nI p → z = nI u → oB c 0 99 = false → ¬ k < -1 → ∀ ν G r, gSm μ ν → (∀ q, q < 20 → G q = vSnd (uV (rV μ 0) p (nI (q % 10))) (if q < 10 then nI (T &&& (15 ^^^ 2 ^ u)) else nI (T ||| 2 ^ u)) A (mrd μ 64 10) P c) →
      gGm G k r → Q (some (.int r)) ν) : SPC 5 MX11_game [.ref 63, .int i, .int z, .int c, .int k] μ Q := by
  have hP7 := hR.2.1
  have hA4 := hR.2.2.2
  have lp2 : ∀ p u (ν : gM) G, G = mrd ν 75 → (∀ r, gGm G k r → Q (some (.int r)) ν) → ∀ n q t, 20 - q < n → q ≤ 20 → ((∀ j, j < q → gRs G j = true → ¬ nI (mCt (gRs G) j) = k) ∧ t = -5 ∨ ∃ j, j < q ∧ gRs G j = true ∧ nI (mCt (gRs G) j) = k ∧ t = nI j) → GG 5 MX11_game 141 [(7, .int (nI q)), (6, .int t), (5, .int (nI (mCt (gRs G) q))), (0, .ref 63), (1, .int p), (2, .int u), (3, .int c), (4, .int k)] [] ν Q := by
    intro p u ν G hG hq n
    induction n with
    | zero => intro q t h; omega
    | succ n ih =>
      intro q t hn hq20 ht
      have nx : ∀ t', q < 20 → ((∀ j, j < q + 1 → gRs G j = true → ¬ nI (mCt (gRs G) j) = k) ∧ t' = -5 ∨ ∃ j, j < q + 1 ∧ gRs G j = true ∧ nI (mCt (gRs G) j) = k ∧ t' = nI j) → GG 5 MX11_game 184 [(6, .int t'), (5, .int (nI (mCt (gRs G) (q + 1)))), (7, .int (nI q)), (0, .ref 63), (1, .int p), (2, .int u), (3, .int c), (4, .int k)] [] ν Q := by
        intro t' hq2 ht'
        refine GG.iinc e_X11_game_184 2 rfl (v := _) (by first | exact nI_s _ | exact nI_d _ | rfl) (Nat.le_of_ble_eq_true rfl) (ls' := [(7, .int _), (6, .int _), (5, .int _), (0, .ref _), (1, .int _), (2, .int _), (3, .int _), (4, .int _)]) rfl ?_
        refine GG.goto (tgt := 141) e_X11_game_187 rfl ?_
        exact ih (q + 1) t' (by omega) (by omega) ht'
      have keep : (gRs G q = true → ¬ nI (mCt (gRs G) q) = k) → ((∀ j, j < q + 1 → gRs G j = true → ¬ nI (mCt (gRs G) j) = k) ∧ t = -5 ∨ ∃ j, j < q + 1 ∧ gRs G j = true ∧ nI (mCt (gRs G) j) = k ∧ t = nI j) := by
        intro hnk
        rcases ht with ⟨h1, h2⟩ | ⟨j, h1, h2, h3, h4⟩
        · exact Or.inl ⟨fun j hj g => if e : j = q then e ▸ hnk (e ▸ g) else h1 j (by omega) g, h2⟩
        · exact Or.inr ⟨j, by omega, h2, h3, h4⟩
      refine GG.iload e_X11_game_141 0 rfl ?_
      refine GG.bipush (v := 20) e_X11_game_143 rfl ?_
      refine GG.icmp_ge (tgt := 190) e_X11_game_145 rfl (fun h145 => ?_) (fun h145 => ?_)
      · skip
        have e : q = 20 := by have := nle (a := 20) (b := q) h145 (by omega) (by omega); omega
        subst e
        refine GG.iload e_X11_game_190 7 rfl ?_
        refine GG.iconst (v := -1) e_X11_game_192 rfl ?_
        refine GG.icmp_ne (tgt := 201) e_X11_game_193 rfl (fun h193 => ?_) (fun h193 => ?_)
        · skip
          have hk := h193
          refine GG.iload e_X11_game_201 1 rfl ?_
          refine GG.iret e_X11_game_203 rfl rfl ?_
          refine hq _ ?_
          first | exact Or.inl ⟨hk, rfl⟩ | exact ht.elim (fun h => Or.inr (Or.inl ⟨hk, h⟩)) (fun h => Or.inr (Or.inr ⟨hk, h⟩))
        · skip
          have hk := h193
          refine GG.iload e_X11_game_196 2 rfl ?_
          refine GG.goto (tgt := 203) e_X11_game_198 rfl ?_
          refine GG.iret e_X11_game_203 rfl rfl ?_
          refine hq _ ?_
          first | exact Or.inl ⟨hk, rfl⟩ | exact ht.elim (fun h => Or.inr (Or.inl ⟨hk, h⟩)) (fun h => Or.inr (Or.inr ⟨hk, h⟩))
      · skip
        have e := nnle (a := 20) (b := q) h145 (by omega) (by omega)
        refine GG.aload_n e_X11_game_148 (i := 0) rfl 3 rfl ?_
        refine GG.iload e_X11_game_149 0 rfl ?_
        refine GG.bipush (v := 10) e_X11_game_151 rfl ?_
        refine GG.idiv e_X11_game_153 (by decide) ?_
        refine GG.top (mDiv_n (d := 10) (by omega) (by omega) (by omega)) ?_
        refine GG.iload e_X11_game_154 0 rfl ?_
        refine GG.bipush (v := 10) e_X11_game_156 rfl ?_
        refine GG.irem e_X11_game_158 (by decide) ?_
        refine GG.top (mIrem_n (by omega)) ?_
        refine GG.callV (d' := 0) (a := 63) (as := [.int _, .int _]) e_X11_game_159 ml_X11_210 mf_X11_rests mv_X11_rests (rc_X11 i_X11_63) rfl (by decide) (Nat.le_of_ble_eq_true rfl) rfl ?_
        refine s_X11_rests e ?_
        rw [← hG]
        refine GG.if_eq (tgt := 184) e_X11_game_162 rfl (fun h162 => ?_) (fun h162 => ?_)
        · skip
          have g := (bI_0 _).mp h162
          have e5 : mCt (gRs G) (q + 1) = mCt (gRs G) q := by rw [mCt, g]; rfl
          refine GG.perm [1, 2, 0, 3, 4, 5, 6, 7] rfl ?_
          rw [← e5]
          first | exact nx _ e (keep (fun z => absurd (g.symm.trans z) (by decide))) | (refine nx _ e ?_; first | exact keep (fun _ => h169) | exact Or.inr ⟨q, by omega, g, h169, rfl⟩)
        · skip
          have g := (bI_n0 _).mp h162
          have e5 : mCt (gRs G) (q + 1) = mCt (gRs G) q + 1 := by rw [mCt, if_pos g]
          refine GG.iload e_X11_game_165 2 rfl ?_
          refine GG.iload e_X11_game_167 7 rfl ?_
          refine GG.icmp_ne (tgt := 177) e_X11_game_169 rfl (fun h169 => ?_) (fun h169 => ?_)
          · skip
            refine GG.iload e_X11_game_177 1 rfl ?_
            refine GG.istore e_X11_game_179 (Nat.le_of_ble_eq_true rfl) (ls' := [(6, .int _), (7, .int _), (5, .int _), (0, .ref _), (1, .int _), (2, .int _), (3, .int _), (4, .int _)]) rfl ?_
            refine GG.iinc e_X11_game_181 2 rfl (v := _) (by first | exact nI_s _ | exact nI_d _ | rfl) (Nat.le_of_ble_eq_true rfl) (ls' := [(5, .int _), (6, .int _), (7, .int _), (0, .ref _), (1, .int _), (2, .int _), (3, .int _), (4, .int _)]) rfl ?_
            refine GG.perm [1, 0, 2, 3, 4, 5, 6, 7] rfl ?_
            rw [← e5]
            first | exact nx _ e (keep (fun z => absurd (g.symm.trans z) (by decide))) | (refine nx _ e ?_; first | exact keep (fun _ => h169) | exact Or.inr ⟨q, by omega, g, h169, rfl⟩)
          · skip
            refine GG.iload e_X11_game_172 0 rfl ?_
            refine GG.goto (tgt := 179) e_X11_game_174 rfl ?_
            refine GG.istore e_X11_game_179 (Nat.le_of_ble_eq_true rfl) (ls' := [(6, .int _), (7, .int _), (5, .int _), (0, .ref _), (1, .int _), (2, .int _), (3, .int _), (4, .int _)]) rfl ?_
            refine GG.iinc e_X11_game_181 2 rfl (v := _) (by first | exact nI_s _ | exact nI_d _ | rfl) (Nat.le_of_ble_eq_true rfl) (ls' := [(5, .int _), (6, .int _), (7, .int _), (0, .ref _), (1, .int _), (2, .int _), (3, .int _), (4, .int _)]) rfl ?_
            refine GG.perm [1, 0, 2, 3, 4, 5, 6, 7] rfl ?_
            rw [← e5]
            first | exact nx _ e (keep (fun z => absurd (g.symm.trans z) (by decide))) | (refine nx _ e ?_; first | exact keep (fun _ => h169) | exact Or.inr ⟨q, by omega, g, h169, rfl⟩)
  have lp1 : ∀ p u, p < P → u < A → (∀ ν G r, gSm μ ν → (∀ q, q < 20 → G q = vSnd (uV (rV μ 0) p (nI (q % 10))) (if q < 10 then nI (T &&& (15 ^^^ 2 ^ u)) else nI (T ||| 2 ^ u)) A (mrd μ 64 10) P c) → gGm G k r → Q (some (.int r)) ν) →
      ∀ n q ν th, 20 - q < n → q ≤ 20 → gTs μ ν → (TT ν (rV μ 0) P A th ∨ ∃ b, TT ν (uV (rV μ 0) p b) P A th) → (∀ j, j < q → mrd ν 75 j = vSnd (uV (rV μ 0) p (nI (j % 10))) (if j < 10 then nI (T &&& (15 ^^^ 2 ^ u)) else nI (T ||| 2 ^ u)) A (mrd μ 64 10) P c) → GG 5 MX11_game 46 [(5, .int (nI q)), (0, .ref 63), (1, .int (nI p)), (2, .int (nI u)), (3, .int c), (4, .int k)] [] ν Q := by
    intro p u hp hu hq n
    obtain ⟨t1, t2⟩ := g_th T hT16 u (by omega)
    induction n with
    | zero => intro q ν th h; omega
    | succ n ih =>
      intro q ν th hn hq20 hν hTT hG
      have h7 : mrd (mwr ν 64 (537 + p) (nI (q % 10))) 64 7 = nI T := by rw [mrd_wr, if_neg (by omega), hν.row (by omega), hT]
      have st : q < 20 → ∀ a, a = (if q < 10 then nI (T &&& (15 ^^^ 2 ^ u)) else nI (T ||| 2 ^ u)) → GG 5 MX11_game 109 [(5, .int (nI q)), (0, .ref 63), (1, .int (nI p)), (2, .int (nI u)), (3, .int c), (4, .int k)] [.int a, .int 544, .ref 64] (mwr ν 64 (537 + p) (nI (q % 10))) Q := by
        intro hq2 a ha
        have sa := sa_X11_0 i_X11_63
        have hν1 : gTs μ (mwr (mwr ν 64 (537 + p) (nI (q % 10))) 64 544 a) := (hν.wr (by omega)).wr (by omega)
        have hT1 : TT (mwr (mwr ν 64 (537 + p) (nI (q % 10))) 64 544 a) (uV (rV μ 0) p (nI (q % 10))) P A a := (TT.sw2 hTT (by omega) hP7 hA4).th hP7 hA4
        refine GG.iastoreE (k := 544) e_X11_game_109 sa (rfl) (by omega) (Nat.le_of_ble_eq_true rfl) ?_
        refine GG.aload_n e_X11_game_110 (i := 0) rfl 1 rfl ?_
        refine GG.getR (b := 75) e_X11_game_111 fl_X11_48 (sf_X11_21 i_X11_63) ?_
        refine GG.iload e_X11_game_114 0 rfl ?_
        refine GG.aload_n e_X11_game_116 (i := 0) rfl 1 rfl ?_
        refine GG.sipush (v := 537) e_X11_game_117 rfl ?_
        refine GG.iload_n e_X11_game_120 (i := 3) rfl 4 rfl ?_
        refine GG.callV (d' := 4) (a := 63) (as := [.int _, .int _]) e_X11_game_121 ml_X11_153 mf_X11_soundAt mv_X11_soundAt (rc_X11 i_X11_63) rfl (by decide) (Nat.le_of_ble_eq_true rfl) rfl ?_
        refine s_X11_soundAtS (B := 537) (hν1.mr hR) (by omega) (fun ν2 hν2 => ?_)
        rw [hT1.st, hν1.row (show 10 < 537 by omega)]
        refine GG.iastoreE (k := q) e_X11_game_124 (sa_X11_21 i_X11_63) (rfl) (by omega) (Nat.le_of_ble_eq_true rfl) ?_
        refine GG.iinc e_X11_game_125 0 rfl (v := _) (by first | exact nI_s _ | exact nI_d _ | rfl) (Nat.le_of_ble_eq_true rfl) (ls' := [(5, .int _), (0, .ref _), (1, .int _), (2, .int _), (3, .int _), (4, .int _)]) rfl ?_
        refine GG.goto (tgt := 46) e_X11_game_128 rfl ?_
        refine ih (q + 1) _ a (by omega) (by omega) (hν1.l9 hν2).wb (Or.inr ⟨_, (hT1.l9 hν2).wb⟩) (fun j hj => ?_)
        rw [mrd_wr]
        by_cases e : j = q
        · rw [if_pos ⟨rfl, e⟩, e, ha]
        · rw [if_neg (fun z => e z.2), ← hG j (by omega), hν2.1 75 j (by omega), mrd_wr, if_neg (by omega), mrd_wr, if_neg (by omega)]
      refine GG.iload e_X11_game_46 0 rfl ?_
      refine GG.bipush (v := 20) e_X11_game_48 rfl ?_
      refine GG.icmp_ge (tgt := 131) e_X11_game_50 rfl (fun h50 => ?_) (fun h50 => ?_)
      · skip
        have e : q = 20 := by have := nle (a := 20) (b := q) h50 (by omega) (by omega); omega
        subst e
        refine GG.iconst (v := 0) e_X11_game_131 rfl ?_
        refine GG.istore e_X11_game_132 (Nat.le_of_ble_eq_true rfl) (ls' := [(5, .int _), (0, .ref _), (1, .int _), (2, .int _), (3, .int _), (4, .int _)]) rfl ?_
        refine GG.bipush (v := -5) e_X11_game_134 rfl ?_
        refine GG.istore e_X11_game_136 (Nat.le_of_ble_eq_true rfl) (ls' := [(6, .int _), (5, .int _), (0, .ref _), (1, .int _), (2, .int _), (3, .int _), (4, .int _)]) rfl ?_
        refine GG.iconst (v := 0) e_X11_game_138 rfl ?_
        refine GG.istore e_X11_game_139 (Nat.le_of_ble_eq_true rfl) (ls' := [(7, .int _), (6, .int _), (5, .int _), (0, .ref _), (1, .int _), (2, .int _), (3, .int _), (4, .int _)]) rfl ?_
        exact lp2 (nI p) (nI u) ν (mrd ν 75) rfl (fun r hr => hq ν _ r hν.sm hG hr) 21 0 (-5) (by omega) (by omega) (Or.inl ⟨fun j hj => by omega, rfl⟩)
      · skip
        have e := nnle (a := 20) (b := q) h50 (by omega) (by omega)
        refine GG.aload_n e_X11_game_53 (i := 0) rfl 1 rfl ?_
        refine GG.getR (b := 64) e_X11_game_54 fl_X11_7 (sf_X11_0 i_X11_63) ?_
        refine GG.sipush (v := 537) e_X11_game_57 rfl ?_
        refine GG.iload_n e_X11_game_60 (i := 1) rfl 2 rfl ?_
        refine GG.iadd e_X11_game_61 ?_
        refine GG.top (show 537 + nI p = nI (537 + p) by rw [show (537 : Int32) = nI 537 from rfl, nI_add]) ?_
        refine GG.iload e_X11_game_62 0 rfl ?_
        refine GG.bipush (v := 10) e_X11_game_64 rfl ?_
        refine GG.irem e_X11_game_66 (by decide) ?_
        refine GG.top (mIrem_n (by omega)) ?_
        refine GG.iastoreE (k := 537 + p) e_X11_game_67 (sa_X11_0 i_X11_63) (rfl) (by omega) (Nat.le_of_ble_eq_true rfl) ?_
        refine GG.aload_n e_X11_game_68 (i := 0) rfl 1 rfl ?_
        refine GG.getR (b := 64) e_X11_game_69 fl_X11_7 (sf_X11_0 i_X11_63) ?_
        refine GG.sipush (v := 544) e_X11_game_72 rfl ?_
        refine GG.iload e_X11_game_75 0 rfl ?_
        refine GG.bipush (v := 10) e_X11_game_77 rfl ?_
        refine GG.icmp_ge (tgt := 98) e_X11_game_79 rfl (fun h79 => ?_) (fun h79 => ?_)
        · skip
          have e9 := nle (a := 10) (b := q) h79 (by omega) (by omega)
          refine GG.aload_n e_X11_game_98 (i := 0) rfl 1 rfl ?_
          refine GG.getR (b := 64) e_X11_game_99 fl_X11_7 (sf_X11_0 i_X11_63) ?_
          refine GG.bipush (v := 7) e_X11_game_102 rfl ?_
          refine GG.ialoadV (k := 7) (v := nI T) e_X11_game_104 (sa_X11_0 i_X11_63) (rfl) (by omega) (Nat.le_of_ble_eq_true rfl) (h7) ?_
          refine GG.iconst (v := 1) e_X11_game_105 rfl ?_
          refine GG.iload_n e_X11_game_106 (i := 2) rfl 3 rfl ?_
          refine GG.ishl e_X11_game_107 ?_
          refine GG.ior e_X11_game_108 ?_
          refine GG.top t2 ?_
          refine st e _ ?_
          first | rw [if_pos (by omega)] | rw [if_neg (by omega)]
        · skip
          have e9 := nnle (a := 10) (b := q) h79 (by omega) (by omega)
          refine GG.aload_n e_X11_game_82 (i := 0) rfl 1 rfl ?_
          refine GG.getR (b := 64) e_X11_game_83 fl_X11_7 (sf_X11_0 i_X11_63) ?_
          refine GG.bipush (v := 7) e_X11_game_86 rfl ?_
          refine GG.ialoadV (k := 7) (v := nI T) e_X11_game_88 (sa_X11_0 i_X11_63) (rfl) (by omega) (Nat.le_of_ble_eq_true rfl) (h7) ?_
          refine GG.iconst (v := 1) e_X11_game_89 rfl ?_
          refine GG.iload_n e_X11_game_90 (i := 2) rfl 3 rfl ?_
          refine GG.ishl e_X11_game_91 ?_
          refine GG.iconst (v := -1) e_X11_game_92 rfl ?_
          refine GG.ixor e_X11_game_93 ?_
          refine GG.iand e_X11_game_94 ?_
          refine GG.top t1 ?_
          refine GG.goto (tgt := 109) e_X11_game_95 rfl ?_
          refine st e _ ?_
          first | rw [if_pos (by omega)] | rw [if_neg (by omega)]
  refine SPC.of (by decide +kernel) (Nat.le_of_ble_eq_true rfl) (ls := [(0, .ref (63)), (1, .int (i)), (2, .int (z)), (3, .int (c)), (4, .int (k))]) rfl ?_
  refine GG.aload_n e_X11_game_0 (i := 0) rfl 0 rfl ?_
  refine GG.iload_n e_X11_game_1 (i := 1) rfl 1 rfl ?_
  refine GG.callV (d' := 1) (a := 63) (as := [.int _]) e_X11_game_2 ml_X11_159 mf_X11_isOne mv_X11_isOne (rc_X11 i_X11_63) rfl (by decide) (Nat.le_of_ble_eq_true rfl) rfl ?_
  refine s_X11_isOne hR ?_
  refine GG.if_eq (tgt := 32) e_X11_game_5 rfl (fun h5 => ?_) (fun h5 => ?_)
  · skip
    have oo := (bI_0 _).mp h5
    refine GG.aload_n e_X11_game_32 (i := 0) rfl 0 rfl ?_
    refine GG.bipush (v := -10) e_X11_game_33 rfl ?_
    refine GG.callV (d' := 1) (a := 63) (as := [.int _]) e_X11_game_35 ml_X11_165 mf_X11_badAs mv_X11_badAs (rc_X11 i_X11_63) rfl (by decide) (Nat.le_of_ble_eq_true rfl) rfl ?_
    refine s_X11_badAs ?_
    refine GG.iret e_X11_game_38 rfl rfl ?_
    exact hbad (by simp [oo])
  · skip
    obtain ⟨p, hp, rfl⟩ := mIn_of ((bI_n0 _).mp h5) (by omega)
    refine GG.aload_n e_X11_game_8 (i := 0) rfl 0 rfl ?_
    refine GG.iload_n e_X11_game_9 (i := 2) rfl 2 rfl ?_
    refine GG.callV (d' := 1) (a := 63) (as := [.int _]) e_X11_game_10 ml_X11_162 mf_X11_isAunt mv_X11_isAunt (rc_X11 i_X11_63) rfl (by decide) (Nat.le_of_ble_eq_true rfl) rfl ?_
    refine s_X11_isAunt hR ?_
    refine GG.if_eq (tgt := 32) e_X11_game_13 rfl (fun h13 => ?_) (fun h13 => ?_)
    · skip
      have oo := (bI_0 _).mp h13
      refine GG.aload_n e_X11_game_32 (i := 0) rfl 0 rfl ?_
      refine GG.bipush (v := -10) e_X11_game_33 rfl ?_
      refine GG.callV (d' := 1) (a := 63) (as := [.int _]) e_X11_game_35 ml_X11_165 mf_X11_badAs mv_X11_badAs (rc_X11 i_X11_63) rfl (by decide) (Nat.le_of_ble_eq_true rfl) rfl ?_
      refine s_X11_badAs ?_
      refine GG.iret e_X11_game_38 rfl rfl ?_
      exact hbad (by simp [oo])
    · skip
      obtain ⟨u, hu, rfl⟩ := mIn_of ((bI_n0 _).mp h13) (by omega)
      refine GG.iload_n e_X11_game_16 (i := 3) rfl 3 rfl ?_
      refine GG.iconst (v := 0) e_X11_game_17 rfl ?_
      refine GG.bipush (v := 99) e_X11_game_18 rfl ?_
      refine GG.callS (d' := 0) (as := [.int _, .int _, .int _]) e_X11_game_20 ml_X11_51 mf_X11_in ms_X11_in rfl (by decide) (Nat.le_of_ble_eq_true rfl) rfl ?_
      refine s_X11_inO ?_
      refine GG.if_eq (tgt := 32) e_X11_game_23 rfl (fun h23 => ?_) (fun h23 => ?_)
      · skip
        have oo := inT h23
        refine GG.aload_n e_X11_game_32 (i := 0) rfl 0 rfl ?_
        refine GG.bipush (v := -10) e_X11_game_33 rfl ?_
        refine GG.callV (d' := 1) (a := 63) (as := [.int _]) e_X11_game_35 ml_X11_165 mf_X11_badAs mv_X11_badAs (rc_X11 i_X11_63) rfl (by decide) (Nat.le_of_ble_eq_true rfl) rfl ?_
        refine s_X11_badAs ?_
        refine GG.iret e_X11_game_38 rfl rfl ?_
        exact hbad (by simp [oo])
      · skip
        have o1 := inF h23
        refine GG.iload e_X11_game_26 4 rfl ?_
        refine GG.iconst (v := -1) e_X11_game_28 rfl ?_
        refine GG.icmp_ge (tgt := 39) e_X11_game_29 rfl (fun h29 => ?_) (fun h29 => ?_)
        · skip
          have o2 : ¬ k < -1 := by grind
          refine GG.aload_n e_X11_game_39 (i := 0) rfl 0 rfl ?_
          refine GG.callV (d' := 0) (a := 63) (as := []) e_X11_game_40 ml_X11_168 mf_X11_layTried mv_X11_layTried (rc_X11 i_X11_63) rfl (by decide) (Nat.le_of_ble_eq_true rfl) rfl ?_
          refine s_X11_layTried ?_
          refine GG.iconst (v := 0) e_X11_game_43 rfl ?_
          refine GG.istore e_X11_game_44 (Nat.le_of_ble_eq_true rfl) (ls' := [(5, .int _), (0, .ref _), (1, .int _), (2, .int _), (3, .int _), (4, .int _)]) rfl ?_
          exact lp1 p u hp hu (hok p u hp hu rfl rfl o1 o2) 21 0 _ _ (by omega) (by omega) gTs.cr (Or.inl (TT.cr hR)) (fun j h => by omega)
        · skip
          have oo : decide (k < -1) = true := by grind
          refine GG.aload_n e_X11_game_32 (i := 0) rfl 0 rfl ?_
          refine GG.bipush (v := -10) e_X11_game_33 rfl ?_
          refine GG.callV (d' := 1) (a := 63) (as := [.int _]) e_X11_game_35 ml_X11_165 mf_X11_badAs mv_X11_badAs (rc_X11 i_X11_63) rfl (by decide) (Nat.le_of_ble_eq_true rfl) rfl ?_
          refine s_X11_badAs ?_
          refine GG.iret e_X11_game_38 rfl rfl ?_
          exact hbad (by simp [oo])
theorem s_X11_part (hbad : oB z 0 1 = true → Q (some (.long (Int32.toInt64 (-2)))) (rRf μ 0)) (hok : oB z 0 1 = false → Q (some (.long (if z = 0 then mrL μ 63 3 else mrL μ 63 4))) μ) : SPC 1 MX11_part [.ref 63, .int z] μ Q := by
  refine SPC.of (by decide +kernel) (Nat.le_of_ble_eq_true rfl) (ls := [(0, .ref (63)), (1, .int (z))]) rfl ?_
  refine GG.iload_n e_X11_part_0 (i := 1) rfl 1 rfl ?_
  refine GG.iconst (v := 0) e_X11_part_1 rfl ?_
  refine GG.iconst (v := 1) e_X11_part_2 rfl ?_
  refine GG.callS (d' := 0) (as := [.int _, .int _, .int _]) e_X11_part_3 ml_X11_51 mf_X11_in ms_X11_in rfl (by decide) (Nat.le_of_ble_eq_true rfl) rfl ?_
  refine s_X11_inO ?_
  refine GG.if_ne (tgt := 17) e_X11_part_6 rfl (fun h6 => ?_) (fun h6 => ?_)
  · skip
    have o1 := inF h6
    refine GG.iload_n e_X11_part_17 (i := 1) rfl 1 rfl ?_
    refine GG.if_ne (tgt := 28) e_X11_part_18 rfl (fun h18 => ?_) (fun h18 => ?_)
    · skip
      refine GG.aload_n e_X11_part_28 (i := 0) rfl 0 rfl ?_
      refine GG.getL e_X11_part_29 fl_X11_20 (sf_X11_4 i_X11_63) ?_
      refine GG.lret e_X11_part_32 rfl rfl ?_
      first | rw [if_pos (by assumption)] at hok; exact hok o1 | rw [if_neg (by assumption)] at hok; exact hok o1
    · skip
      refine GG.aload_n e_X11_part_21 (i := 0) rfl 0 rfl ?_
      refine GG.getL e_X11_part_22 fl_X11_213 (sf_X11_3 i_X11_63) ?_
      refine GG.goto (tgt := 32) e_X11_part_25 rfl ?_
      refine GG.lret e_X11_part_32 rfl rfl ?_
      first | rw [if_pos (by assumption)] at hok; exact hok o1 | rw [if_neg (by assumption)] at hok; exact hok o1
  · skip
    have oo := inT h6
    refine GG.aload_n e_X11_part_9 (i := 0) rfl 0 rfl ?_
    refine GG.bipush (v := -2) e_X11_part_10 rfl ?_
    refine GG.callV (d' := 0) (a := 63) (as := [.int _]) e_X11_part_12 ml_X11_55 mf_X11_refuse mv_X11_refuse (rc_X11 i_X11_63) rfl (by decide) (Nat.le_of_ble_eq_true rfl) rfl ?_
    refine s_X11_refB ?_
    refine GG.i2l e_X11_part_15 ?_
    refine GG.lret e_X11_part_16 rfl rfl ?_
    exact hbad oo
theorem s_X11_image (hbad : oB z 0 1 = true → Q (some (.int (-2))) (rRf μ 0)) (hok : ∀ d, d < 2 → z = nI d → Q (some (.int 1)) (mwr (mCr μ 0 (179 + 179 * d) 179) 65 d 1)) : SPC 1 MX11_image [.ref 63, .int z] μ Q := by
  have e1 : ∀ d, 179 + 179 * nI d = nI (179 + 179 * d) := fun d => by rw [show (179 : Int32) = nI 179 from rfl, pk_mul, nI_add]
  have lp : ∀ d, d < 2 → Q (some (.int 1)) (mwr (mCr μ 0 (179 + 179 * d) 179) 65 d 1) → ∀ n i, 179 - i < n → i ≤ 179 → GG 1 MX11_image 18 [(2, .int (nI i)), (0, .ref 63), (1, .int (nI d))] [] (mCr μ 0 (179 + 179 * d) i) Q := by
    intro d hd hq n
    induction n with
    | zero => intro i h; omega
    | succ n ih =>
      intro i hn hi
      refine GG.iload_n e_X11_image_18 (i := 2) rfl 0 rfl ?_
      refine GG.sipush (v := 179) e_X11_image_19 rfl ?_
      refine GG.icmp_ge (tgt := 53) e_X11_image_22 rfl (fun h22 => ?_) (fun h22 => ?_)
      · skip
        have e : i = 179 := by have := nle (a := 179) (b := i) h22 (by omega) (by omega); omega
        subst e
        refine GG.aload_n e_X11_image_53 (i := 0) rfl 1 rfl ?_
        refine GG.getR (b := 65) e_X11_image_54 fl_X11_13 (sf_X11_1 i_X11_63) ?_
        refine GG.iload_n e_X11_image_57 (i := 1) rfl 2 rfl ?_
        refine GG.iconst (v := 1) e_X11_image_58 rfl ?_
        refine GG.bastoreE (k := d) e_X11_image_59 (sa_X11_1 i_X11_63) (rfl) (by omega) (Nat.le_of_ble_eq_true rfl) (by first | exact Or.inl rfl | exact Or.inr rfl | assumption) ?_
        refine GG.iconst (v := 1) e_X11_image_60 rfl ?_
        refine GG.iret e_X11_image_61 rfl rfl ?_
        exact hq
      · skip
        have e := nnle (a := 179) (b := i) h22 (by omega) (by omega)
        refine GG.aload_n e_X11_image_25 (i := 0) rfl 1 rfl ?_
        refine GG.getR (b := 64) e_X11_image_26 fl_X11_7 (sf_X11_0 i_X11_63) ?_
        refine GG.sipush (v := 179) e_X11_image_29 rfl ?_
        refine GG.sipush (v := 179) e_X11_image_32 rfl ?_
        refine GG.iload_n e_X11_image_35 (i := 1) rfl 2 rfl ?_
        refine GG.imul e_X11_image_36 ?_
        refine GG.iadd e_X11_image_37 ?_
        refine GG.top (e1 d) ?_
        refine GG.iload_n e_X11_image_38 (i := 2) rfl 0 rfl ?_
        refine GG.iadd e_X11_image_39 ?_
        refine GG.top (nI_add (179 + 179 * d) i) ?_
        refine GG.aload_n e_X11_image_40 (i := 0) rfl 1 rfl ?_
        refine GG.getR (b := 64) e_X11_image_41 fl_X11_7 (sf_X11_0 i_X11_63) ?_
        refine GG.iload_n e_X11_image_44 (i := 2) rfl 0 rfl ?_
        refine GG.ialoadE (k := i) e_X11_image_45 (sa_X11_0 i_X11_63) (rfl) (by omega) (Nat.le_of_ble_eq_true rfl) ?_
        refine GG.iastoreE (k := 179 + 179 * d + i) e_X11_image_46 (sa_X11_0 i_X11_63) (rfl) (by omega) (Nat.le_of_ble_eq_true rfl) ?_
        refine GG.iinc e_X11_image_47 0 rfl (v := _) (by first | exact nI_s _ | exact nI_d _ | rfl) (Nat.le_of_ble_eq_true rfl) (ls' := [(2, .int _), (0, .ref _), (1, .int _)]) rfl ?_
        refine GG.goto (tgt := 18) e_X11_image_50 rfl ?_
        refine GG.mem ?_ (ih (i + 1) (by omega) (by omega))
        refine gM_ext (fun c q => ?_) (fun c q => by simp only [mrL_wr, mrL_Cr])
        simp only [mrd_wr, mrd_Cr]
        grind
  refine SPC.of (by decide +kernel) (Nat.le_of_ble_eq_true rfl) (ls := [(0, .ref (63)), (1, .int (z))]) rfl ?_
  refine GG.iload_n e_X11_image_0 (i := 1) rfl 1 rfl ?_
  refine GG.iconst (v := 0) e_X11_image_1 rfl ?_
  refine GG.iconst (v := 1) e_X11_image_2 rfl ?_
  refine GG.callS (d' := 0) (as := [.int _, .int _, .int _]) e_X11_image_3 ml_X11_51 mf_X11_in ms_X11_in rfl (by decide) (Nat.le_of_ble_eq_true rfl) rfl ?_
  refine s_X11_inO ?_
  refine GG.if_ne (tgt := 16) e_X11_image_6 rfl (fun h6 => ?_) (fun h6 => ?_)
  · skip
    obtain ⟨d, rfl, g1, g2⟩ := oB_n (A := 0) (B := 1) (inF h6) rfl rfl (by omega) (by omega)
    refine GG.iconst (v := 0) e_X11_image_16 rfl ?_
    refine GG.istore_n e_X11_image_17 (i := 2) rfl (Nat.le_of_ble_eq_true rfl) (ls' := [(2, .int _), (0, .ref _), (1, .int _)]) rfl ?_
    refine GG.mem ?_ (lp d (by omega) (hok d (by omega) rfl) 180 0 (by omega) (by omega))
    refine gM_ext (fun c q => ?_) (fun c q => by simp only [mrL_Cr])
    rw [mrd_Cr, if_neg (by omega)]
  · skip
    have oo := inT h6
    refine GG.aload_n e_X11_image_9 (i := 0) rfl 0 rfl ?_
    refine GG.bipush (v := -2) e_X11_image_10 rfl ?_
    refine GG.callV (d' := 0) (a := 63) (as := [.int _]) e_X11_image_12 ml_X11_55 mf_X11_refuse mv_X11_refuse (rc_X11 i_X11_63) rfl (by decide) (Nat.le_of_ble_eq_true rfl) rfl ?_
    refine s_X11_refB ?_
    refine GG.iret e_X11_image_15 rfl rfl ?_
    exact hbad oo
theorem s_X11_from (hbad : oB z 0 1 = true → Q (some (.int (-2))) (rRf μ 0)) (hno : ∀ d, d < 2 → z = nI d → mrd μ 65 d = 0 → Q (some (.int (-3))) (rRf μ 1)) (hok : ∀ d, d < 2 → z = nI d → ¬ mrd μ 65 d = 0 → Q (some (.int 1)) (mCr μ (179 + 179 * d) 0 179)) : SPC 1 MX11_from [.ref 63, .int z] μ Q := by
  have e1 : ∀ d, 179 + 179 * nI d = nI (179 + 179 * d) := fun d => by rw [show (179 : Int32) = nI 179 from rfl, pk_mul, nI_add]
  have lp : ∀ d, d < 2 → Q (some (.int 1)) (mCr μ (179 + 179 * d) 0 179) → ∀ n i, 179 - i < n → i ≤ 179 → GG 1 MX11_from 34 [(2, .int (nI i)), (0, .ref 63), (1, .int (nI d))] [] (mCr μ (179 + 179 * d) 0 i) Q := by
    intro d hd hq n
    induction n with
    | zero => intro i h; omega
    | succ n ih =>
      intro i hn hi
      refine GG.iload_n e_X11_from_34 (i := 2) rfl 0 rfl ?_
      refine GG.sipush (v := 179) e_X11_from_35 rfl ?_
      refine GG.icmp_ge (tgt := 69) e_X11_from_38 rfl (fun h38 => ?_) (fun h38 => ?_)
      · skip
        have e : i = 179 := by have := nle (a := 179) (b := i) h38 (by omega) (by omega); omega
        subst e
        refine GG.iconst (v := 1) e_X11_from_69 rfl ?_
        refine GG.iret e_X11_from_70 rfl rfl ?_
        exact hq
      · skip
        have e := nnle (a := 179) (b := i) h38 (by omega) (by omega)
        refine GG.aload_n e_X11_from_41 (i := 0) rfl 1 rfl ?_
        refine GG.getR (b := 64) e_X11_from_42 fl_X11_7 (sf_X11_0 i_X11_63) ?_
        refine GG.iload_n e_X11_from_45 (i := 2) rfl 0 rfl ?_
        refine GG.aload_n e_X11_from_46 (i := 0) rfl 1 rfl ?_
        refine GG.getR (b := 64) e_X11_from_47 fl_X11_7 (sf_X11_0 i_X11_63) ?_
        refine GG.sipush (v := 179) e_X11_from_50 rfl ?_
        refine GG.sipush (v := 179) e_X11_from_53 rfl ?_
        refine GG.iload_n e_X11_from_56 (i := 1) rfl 2 rfl ?_
        refine GG.imul e_X11_from_57 ?_
        refine GG.iadd e_X11_from_58 ?_
        refine GG.top (e1 d) ?_
        refine GG.iload_n e_X11_from_59 (i := 2) rfl 0 rfl ?_
        refine GG.iadd e_X11_from_60 ?_
        refine GG.top (nI_add (179 + 179 * d) i) ?_
        refine GG.ialoadE (k := 179 + 179 * d + i) e_X11_from_61 (sa_X11_0 i_X11_63) (rfl) (by omega) (Nat.le_of_ble_eq_true rfl) ?_
        refine GG.iastoreE (k := i) e_X11_from_62 (sa_X11_0 i_X11_63) (rfl) (by omega) (Nat.le_of_ble_eq_true rfl) ?_
        refine GG.iinc e_X11_from_63 0 rfl (v := _) (by first | exact nI_s _ | exact nI_d _ | rfl) (Nat.le_of_ble_eq_true rfl) (ls' := [(2, .int _), (0, .ref _), (1, .int _)]) rfl ?_
        refine GG.goto (tgt := 34) e_X11_from_66 rfl ?_
        refine GG.mem ?_ (ih (i + 1) (by omega) (by omega))
        refine gM_ext (fun c q => ?_) (fun c q => by simp only [mrL_wr, mrL_Cr])
        simp only [mrd_wr, mrd_Cr]
        grind
  refine SPC.of (by decide +kernel) (Nat.le_of_ble_eq_true rfl) (ls := [(0, .ref (63)), (1, .int (z))]) rfl ?_
  refine GG.iload_n e_X11_from_0 (i := 1) rfl 1 rfl ?_
  refine GG.iconst (v := 0) e_X11_from_1 rfl ?_
  refine GG.iconst (v := 1) e_X11_from_2 rfl ?_
  refine GG.callS (d' := 0) (as := [.int _, .int _, .int _]) e_X11_from_3 ml_X11_51 mf_X11_in ms_X11_in rfl (by decide) (Nat.le_of_ble_eq_true rfl) rfl ?_
  refine s_X11_inO ?_
  refine GG.if_ne (tgt := 16) e_X11_from_6 rfl (fun h6 => ?_) (fun h6 => ?_)
  · skip
    obtain ⟨d, rfl, g1, g2⟩ := oB_n (A := 0) (B := 1) (inF h6) rfl rfl (by omega) (by omega)
    refine GG.aload_n e_X11_from_16 (i := 0) rfl 0 rfl ?_
    refine GG.getR (b := 65) e_X11_from_17 fl_X11_13 (sf_X11_1 i_X11_63) ?_
    refine GG.iload_n e_X11_from_20 (i := 1) rfl 1 rfl ?_
    refine GG.baloadE (k := d) e_X11_from_21 (sa_X11_1 i_X11_63) (rfl) (by omega) (Nat.le_of_ble_eq_true rfl) ?_
    refine GG.if_ne (tgt := 32) e_X11_from_22 rfl (fun h22 => ?_) (fun h22 => ?_)
    · skip
      refine GG.iconst (v := 0) e_X11_from_32 rfl ?_
      refine GG.istore_n e_X11_from_33 (i := 2) rfl (Nat.le_of_ble_eq_true rfl) (ls' := [(2, .int _), (0, .ref _), (1, .int _)]) rfl ?_
      refine GG.mem ?_ (lp d (by omega) (hok d (by omega) rfl h22) 180 0 (by omega) (by omega))
      refine gM_ext (fun c q => ?_) (fun c q => by simp only [mrL_Cr])
      rw [mrd_Cr, if_neg (by omega)]
    · skip
      refine GG.aload_n e_X11_from_25 (i := 0) rfl 0 rfl ?_
      refine GG.bipush (v := -3) e_X11_from_26 rfl ?_
      refine GG.callV (d' := 0) (a := 63) (as := [.int _]) e_X11_from_28 ml_X11_55 mf_X11_refuse mv_X11_refuse (rc_X11 i_X11_63) rfl (by decide) (Nat.le_of_ble_eq_true rfl) rfl ?_
      refine s_X11_refN ?_
      refine GG.iret e_X11_from_31 rfl rfl ?_
      exact hno d (by omega) rfl h22
  · skip
    have oo := inT h6
    refine GG.aload_n e_X11_from_9 (i := 0) rfl 0 rfl ?_
    refine GG.bipush (v := -2) e_X11_from_10 rfl ?_
    refine GG.callV (d' := 0) (a := 63) (as := [.int _]) e_X11_from_12 ml_X11_55 mf_X11_refuse mv_X11_refuse (rc_X11 i_X11_63) rfl (by decide) (Nat.le_of_ble_eq_true rfl) rfl ?_
    refine s_X11_refB ?_
    refine GG.iret e_X11_from_15 rfl rfl ?_
    exact hbad oo
theorem s_X11_status (hok : ∀ d, d < 3 → z = nI d → Q (some (.int (mrd μ 66 d))) μ) (hbad : oB z 0 2 = true → Q (some (.int (-1))) (rRf μ 0)) : SPC 2 MX11_status [.ref 63, .int z] μ Q := by
  refine SPC.of (by decide +kernel) (Nat.le_of_ble_eq_true rfl) (ls := [(0, .ref (63)), (1, .int (z))]) rfl ?_
  refine GG.iload_n e_X11_status_0 (i := 1) rfl 1 rfl ?_
  refine GG.iconst (v := 0) e_X11_status_1 rfl ?_
  refine GG.iconst (v := 2) e_X11_status_2 rfl ?_
  refine GG.callS (d' := 0) (as := [.int _, .int _, .int _]) e_X11_status_3 ml_X11_51 mf_X11_in ms_X11_in rfl (by decide) (Nat.le_of_ble_eq_true rfl) rfl ?_
  refine s_X11_inO ?_
  refine GG.if_eq (tgt := 18) e_X11_status_6 rfl (fun h6 => ?_) (fun h6 => ?_)
  · skip
    have oo := inT h6
    refine GG.aload_n e_X11_status_18 (i := 0) rfl 0 rfl ?_
    refine GG.iconst (v := -1) e_X11_status_19 rfl ?_
    refine GG.callV (d' := 1) (a := 63) (as := [.int _]) e_X11_status_20 ml_X11_165 mf_X11_badAs mv_X11_badAs (rc_X11 i_X11_63) rfl (by decide) (Nat.le_of_ble_eq_true rfl) rfl ?_
    refine s_X11_badAs ?_
    refine GG.iret e_X11_status_23 rfl rfl ?_
    first | exact hbad oo | exact hok d (by omega) rfl
  · skip
    obtain ⟨d, rfl, g1, g2⟩ := oB_n (A := 0) (B := 2) (inF h6) rfl rfl (by omega) (by omega)
    refine GG.aload_n e_X11_status_9 (i := 0) rfl 0 rfl ?_
    refine GG.getR (b := 66) e_X11_status_10 fl_X11_17 (sf_X11_2 i_X11_63) ?_
    refine GG.iload_n e_X11_status_13 (i := 1) rfl 1 rfl ?_
    refine GG.ialoadE (k := d) e_X11_status_14 (sa_X11_2 i_X11_63) (rfl) (by omega) (Nat.le_of_ble_eq_true rfl) ?_
    refine GG.goto (tgt := 23) e_X11_status_15 rfl ?_
    refine GG.iret e_X11_status_23 rfl rfl ?_
    first | exact hbad oo | exact hok d (by omega) rfl
theorem s_X11_countOf {n : Nat} (hn : n ≤ 10) (hQ : Q (some (.int (rNm μ n))) μ) : SPC 1 MX11_countOf [.ref 63, .int (nI n)] μ Q := by
  have k : ∀ j, nI n = nI j → j < 11 → n = j := fun j h hj => (nI_eq (by omega) (by omega)).mp h
  refine SPC.of (by decide +kernel) (Nat.le_of_ble_eq_true rfl) (ls := [(0, .ref (63)), (1, .int (nI n))]) rfl ?_
  refine GG.iload_n e_X11_countOf_0 (i := 1) rfl 1 rfl ?_
  refine GG.tcase 0 (off := 55) (tgt := 56) e_X11_countOf_1 (by decide) (by decide) (by decide) rfl (fun h1 => ?_) (fun h1_0 => ?_)
  · skip
    refine GG.aload_n e_X11_countOf_56 (i := 0) rfl 0 rfl ?_
    refine GG.getR (b := 64) e_X11_countOf_57 fl_X11_7 (sf_X11_0 i_X11_63) ?_
    refine GG.bipush (v := 11) e_X11_countOf_60 rfl ?_
    refine GG.ialoadE (k := 11) e_X11_countOf_62 (sa_X11_0 i_X11_63) (rfl) (by omega) (Nat.le_of_ble_eq_true rfl) ?_
    refine GG.iret e_X11_countOf_63 rfl rfl ?_
    exact qI hQ (by rw [k 0 (by assumption) (by omega)]; rfl)
  refine GG.tcase 1 (off := 63) (tgt := 64) e_X11_countOf_1 (by decide) (by decide) (by decide) rfl (fun h1 => ?_) (fun h1_1 => ?_)
  · skip
    refine GG.aload_n e_X11_countOf_64 (i := 0) rfl 0 rfl ?_
    refine GG.getR (b := 64) e_X11_countOf_65 fl_X11_7 (sf_X11_0 i_X11_63) ?_
    refine GG.bipush (v := 26) e_X11_countOf_68 rfl ?_
    refine GG.ialoadE (k := 26) e_X11_countOf_70 (sa_X11_0 i_X11_63) (rfl) (by omega) (Nat.le_of_ble_eq_true rfl) ?_
    refine GG.iret e_X11_countOf_71 rfl rfl ?_
    exact qI hQ (by rw [k 1 (by assumption) (by omega)]; rfl)
  refine GG.tcase 2 (off := 71) (tgt := 72) e_X11_countOf_1 (by decide) (by decide) (by decide) rfl (fun h1 => ?_) (fun h1_2 => ?_)
  · skip
    refine GG.aload_n e_X11_countOf_72 (i := 0) rfl 0 rfl ?_
    refine GG.getR (b := 64) e_X11_countOf_73 fl_X11_7 (sf_X11_0 i_X11_63) ?_
    refine GG.bipush (v := 7) e_X11_countOf_76 rfl ?_
    refine GG.ialoadE (k := 7) e_X11_countOf_78 (sa_X11_0 i_X11_63) (rfl) (by omega) (Nat.le_of_ble_eq_true rfl) ?_
    refine GG.callS (d' := 0) (as := [.int _]) e_X11_countOf_79 ml_X11_171 mf_X11_bits ms_X11_bits rfl (by decide) (Nat.le_of_ble_eq_true rfl) rfl ?_
    refine s_X11_bits ?_
    refine GG.iret e_X11_countOf_82 rfl rfl ?_
    exact qI hQ (by rw [k 2 (by assumption) (by omega)]; rfl)
  refine GG.tcase 3 (off := 82) (tgt := 83) e_X11_countOf_1 (by decide) (by decide) (by decide) rfl (fun h1 => ?_) (fun h1_3 => ?_)
  · skip
    refine GG.aload_n e_X11_countOf_83 (i := 0) rfl 0 rfl ?_
    refine GG.getR (b := 64) e_X11_countOf_84 fl_X11_7 (sf_X11_0 i_X11_63) ?_
    refine GG.bipush (v := 9) e_X11_countOf_87 rfl ?_
    refine GG.ialoadE (k := 9) e_X11_countOf_89 (sa_X11_0 i_X11_63) (rfl) (by omega) (Nat.le_of_ble_eq_true rfl) ?_
    refine GG.iret e_X11_countOf_90 rfl rfl ?_
    exact qI hQ (by rw [k 3 (by assumption) (by omega)]; rfl)
  refine GG.tcase 4 (off := 90) (tgt := 91) e_X11_countOf_1 (by decide) (by decide) (by decide) rfl (fun h1 => ?_) (fun h1_4 => ?_)
  · skip
    refine GG.aload_n e_X11_countOf_91 (i := 0) rfl 0 rfl ?_
    refine GG.getR (b := 64) e_X11_countOf_92 fl_X11_7 (sf_X11_0 i_X11_63) ?_
    refine GG.bipush (v := 8) e_X11_countOf_95 rfl ?_
    refine GG.ialoadE (k := 8) e_X11_countOf_97 (sa_X11_0 i_X11_63) (rfl) (by omega) (Nat.le_of_ble_eq_true rfl) ?_
    refine GG.iret e_X11_countOf_98 rfl rfl ?_
    exact qI hQ (by rw [k 4 (by assumption) (by omega)]; rfl)
  refine GG.tcase 5 (off := 98) (tgt := 99) e_X11_countOf_1 (by decide) (by decide) (by decide) rfl (fun h1 => ?_) (fun h1_5 => ?_)
  · skip
    refine GG.aload_n e_X11_countOf_99 (i := 0) rfl 0 rfl ?_
    refine GG.getR (b := 64) e_X11_countOf_100 fl_X11_7 (sf_X11_0 i_X11_63) ?_
    refine GG.bipush (v := 10) e_X11_countOf_103 rfl ?_
    refine GG.ialoadE (k := 10) e_X11_countOf_105 (sa_X11_0 i_X11_63) (rfl) (by omega) (Nat.le_of_ble_eq_true rfl) ?_
    refine GG.iret e_X11_countOf_106 rfl rfl ?_
    exact qI hQ (by rw [k 5 (by assumption) (by omega)]; rfl)
  refine GG.tcase 6 (off := 106) (tgt := 107) e_X11_countOf_1 (by decide) (by decide) (by decide) rfl (fun h1 => ?_) (fun h1_6 => ?_)
  · skip
    refine GG.aload_n e_X11_countOf_107 (i := 0) rfl 0 rfl ?_
    refine GG.getR (b := 64) e_X11_countOf_108 fl_X11_7 (sf_X11_0 i_X11_63) ?_
    refine GG.bipush (v := 35) e_X11_countOf_111 rfl ?_
    refine GG.ialoadE (k := 35) e_X11_countOf_113 (sa_X11_0 i_X11_63) (rfl) (by omega) (Nat.le_of_ble_eq_true rfl) ?_
    refine GG.iret e_X11_countOf_114 rfl rfl ?_
    exact qI hQ (by rw [k 6 (by assumption) (by omega)]; rfl)
  refine GG.tcase 7 (off := 114) (tgt := 115) e_X11_countOf_1 (by decide) (by decide) (by decide) rfl (fun h1 => ?_) (fun h1_7 => ?_)
  · skip
    refine GG.aload_n e_X11_countOf_115 (i := 0) rfl 0 rfl ?_
    refine GG.getR (b := 64) e_X11_countOf_116 fl_X11_7 (sf_X11_0 i_X11_63) ?_
    refine GG.bipush (v := 48) e_X11_countOf_119 rfl ?_
    refine GG.ialoadE (k := 48) e_X11_countOf_121 (sa_X11_0 i_X11_63) (rfl) (by omega) (Nat.le_of_ble_eq_true rfl) ?_
    refine GG.iret e_X11_countOf_122 rfl rfl ?_
    exact qI hQ (by rw [k 7 (by assumption) (by omega)]; rfl)
  refine GG.tcase 8 (off := 122) (tgt := 123) e_X11_countOf_1 (by decide) (by decide) (by decide) rfl (fun h1 => ?_) (fun h1_8 => ?_)
  · skip
    refine GG.aload_n e_X11_countOf_123 (i := 0) rfl 0 rfl ?_
    refine GG.getR (b := 64) e_X11_countOf_124 fl_X11_7 (sf_X11_0 i_X11_63) ?_
    refine GG.bipush (v := 73) e_X11_countOf_127 rfl ?_
    refine GG.ialoadE (k := 73) e_X11_countOf_129 (sa_X11_0 i_X11_63) (rfl) (by omega) (Nat.le_of_ble_eq_true rfl) ?_
    refine GG.iret e_X11_countOf_130 rfl rfl ?_
    exact qI hQ (by rw [k 8 (by assumption) (by omega)]; rfl)
  refine GG.tcase 9 (off := 130) (tgt := 131) e_X11_countOf_1 (by decide) (by decide) (by decide) rfl (fun h1 => ?_) (fun h1_9 => ?_)
  · skip
    refine GG.aload_n e_X11_countOf_131 (i := 0) rfl 0 rfl ?_
    refine GG.getR (b := 64) e_X11_countOf_132 fl_X11_7 (sf_X11_0 i_X11_63) ?_
    refine GG.bipush (v := 98) e_X11_countOf_135 rfl ?_
    refine GG.ialoadE (k := 98) e_X11_countOf_137 (sa_X11_0 i_X11_63) (rfl) (by omega) (Nat.le_of_ble_eq_true rfl) ?_
    refine GG.iret e_X11_countOf_138 rfl rfl ?_
    exact qI hQ (by rw [k 9 (by assumption) (by omega)]; rfl)
  refine GG.tableOut (tgt := 139) e_X11_countOf_1 (by have a0 := sw_n 0 (by decide) h1_0; have a1 := sw_n 1 (by decide) h1_1; have a2 := sw_n 2 (by decide) h1_2; have a3 := sw_n 3 (by decide) h1_3; have a4 := sw_n 4 (by decide) h1_4; have a5 := sw_n 5 (by decide) h1_5; have a6 := sw_n 6 (by decide) h1_6; have a7 := sw_n 7 (by decide) h1_7; have a8 := sw_n 8 (by decide) h1_8; have a9 := sw_n 9 (by decide) h1_9; omega) rfl ?_
  refine GG.aload_n e_X11_countOf_139 (i := 0) rfl 0 rfl ?_
  refine GG.getI e_X11_countOf_140 fl_X11_71 (sf_X11_6 i_X11_63) ?_
  refine GG.iret e_X11_countOf_143 rfl rfl ?_
  have q : n = 10 := by
    have z : ∀ j, ¬ nI n = nI j → ¬ n = j := fun j h e => h (by rw [e])
    have := z 0 (by assumption)
    have := z 1 (by assumption)
    have := z 2 (by assumption)
    have := z 3 (by assumption)
    have := z 4 (by assumption)
    have := z 5 (by assumption)
    have := z 6 (by assumption)
    have := z 7 (by assumption)
    have := z 8 (by assumption)
    have := z 9 (by assumption)
    omega
  exact qI hQ (by rw [q]; rfl)
theorem s_X11_count (hbad : oB z 0 10 = true → Q (some (.int (-2))) (rRf μ 0)) (hok : ∀ n, z = nI n → n ≤ 10 → Q (some (.int (rNm μ n))) μ) : SPC 2 MX11_count [.ref 63, .int z] μ Q := by
  refine SPC.of (by decide +kernel) (Nat.le_of_ble_eq_true rfl) (ls := [(0, .ref (63)), (1, .int (z))]) rfl ?_
  refine GG.iload_n e_X11_count_0 (i := 1) rfl 1 rfl ?_
  refine GG.iconst (v := 0) e_X11_count_1 rfl ?_
  refine GG.bipush (v := 10) e_X11_count_2 rfl ?_
  refine GG.callS (d' := 0) (as := [.int _, .int _, .int _]) e_X11_count_4 ml_X11_51 mf_X11_in ms_X11_in rfl (by decide) (Nat.le_of_ble_eq_true rfl) rfl ?_
  refine s_X11_inO ?_
  refine GG.if_eq (tgt := 18) e_X11_count_7 rfl (fun h7 => ?_) (fun h7 => ?_)
  · skip
    have oo := inT h7
    refine GG.aload_n e_X11_count_18 (i := 0) rfl 0 rfl ?_
    refine GG.bipush (v := -2) e_X11_count_19 rfl ?_
    refine GG.callV (d' := 0) (a := 63) (as := [.int _]) e_X11_count_21 ml_X11_55 mf_X11_refuse mv_X11_refuse (rc_X11 i_X11_63) rfl (by decide) (Nat.le_of_ble_eq_true rfl) rfl ?_
    refine s_X11_refB ?_
    refine GG.iret e_X11_count_24 rfl rfl ?_
    first | exact hbad oo | exact hok n rfl g2
  · skip
    obtain ⟨n, rfl, g1, g2⟩ := oB_n (A := 0) (B := 10) (inF h7) rfl rfl (by omega) (by omega)
    refine GG.aload_n e_X11_count_10 (i := 0) rfl 0 rfl ?_
    refine GG.iload_n e_X11_count_11 (i := 1) rfl 1 rfl ?_
    refine GG.callV (d' := 1) (a := 63) (as := [.int _]) e_X11_count_12 ml_X11_235 mf_X11_countOf mv_X11_countOf (rc_X11 i_X11_63) rfl (by decide) (Nat.le_of_ble_eq_true rfl) rfl ?_
    refine s_X11_countOf g2 ?_
    refine GG.goto (tgt := 24) e_X11_count_15 rfl ?_
    refine GG.iret e_X11_count_24 rfl rfl ?_
    first | exact hbad oo | exact hok n rfl g2
theorem s_X11_join {h : Int64} (hF : M + N ≤ 547) (hQ : Q (some (.long (mFw (fun k => (mrd μ 64 (M + k)).toInt64) N h))) μ) : SPC 0 MX11_join [.ref 63, .long h, .int (nI M), .int (nI N)] μ Q := by
  have lp : ∀ n i, N - i < n → i ≤ N → GG 0 MX11_join 6 [(7, .int (nI (M + i))), (5, .long (mFw (fun k => (mrd μ 64 (M + k)).toInt64) i h)), (0, .ref 63), (1, .long h), (3, .int (nI M)), (4, .int (nI N))] [] μ Q := by
    intro n
    induction n with
    | zero => intro i h; omega
    | succ n ih =>
      intro i hn hi
      refine GG.iload e_X11_join_6 0 rfl ?_
      refine GG.iload_n e_X11_join_8 (i := 3) rfl 4 rfl ?_
      refine GG.iload e_X11_join_9 5 rfl ?_
      refine GG.iadd e_X11_join_11 ?_
      refine GG.top (nI_add M N) ?_
      refine GG.icmp_ge (tgt := 38) e_X11_join_12 rfl (fun h12 => ?_) (fun h12 => ?_)
      · skip
        have e : i = N := by have := nle h12 (by omega) (by omega); omega
        subst e
        refine GG.lload e_X11_join_38 1 rfl ?_
        refine GG.lret e_X11_join_40 rfl rfl ?_
        exact hQ
      · skip
        have e : i < N := by have := nnle h12 (by omega) (by omega); omega
        refine GG.ldc2 e_X11_join_15 kc_X11_238 ?_
        refine GG.lload e_X11_join_18 1 rfl ?_
        refine GG.lmul e_X11_join_20 ?_
        refine GG.aload_n e_X11_join_21 (i := 0) rfl 2 rfl ?_
        refine GG.getR (b := 64) e_X11_join_22 fl_X11_7 (sf_X11_0 i_X11_63) ?_
        refine GG.iload e_X11_join_25 0 rfl ?_
        refine GG.ialoadE (k := M + i) e_X11_join_27 (sa_X11_0 i_X11_63) (rfl) (by omega) (Nat.le_of_ble_eq_true rfl) ?_
        refine GG.i2l e_X11_join_28 ?_
        refine GG.ladd e_X11_join_29 ?_
        refine GG.lstore e_X11_join_30 (Nat.le_of_ble_eq_true rfl) (ls' := [(5, .long _), (7, .int _), (0, .ref _), (1, .long _), (3, .int _), (4, .int _)]) rfl ?_
        refine GG.iinc e_X11_join_32 1 rfl (v := _) (by first | exact nI_s _ | exact nI_d _ | rfl) (Nat.le_of_ble_eq_true rfl) (ls' := [(7, .int _), (5, .long _), (0, .ref _), (1, .long _), (3, .int _), (4, .int _)]) rfl ?_
        refine GG.goto (tgt := 6) e_X11_join_35 rfl ?_
        exact ih (i + 1) (by omega) (by omega)
  refine SPC.of (by decide +kernel) (Nat.le_of_ble_eq_true rfl) (ls := [(0, .ref (63)), (1, .long (h)), (3, .int (nI M)), (4, .int (nI N))]) rfl ?_
  refine GG.lload_n e_X11_join_0 (i := 1) rfl 1 rfl ?_
  refine GG.lstore e_X11_join_1 (Nat.le_of_ble_eq_true rfl) (ls' := [(5, .long _), (0, .ref _), (1, .long _), (3, .int _), (4, .int _)]) rfl ?_
  refine GG.iload_n e_X11_join_3 (i := 3) rfl 3 rfl ?_
  refine GG.istore e_X11_join_4 (Nat.le_of_ble_eq_true rfl) (ls' := [(7, .int _), (5, .long _), (0, .ref _), (1, .long _), (3, .int _), (4, .int _)]) rfl ?_
  exact lp (N + 1) 0 (by omega) (by omega)
end S41
