/-! TEXT: tokens, numbers, words -/
def tKd (v : Int32) : Nat := if 97 ≤ v ∧ v ≤ 122 then 1 else if 48 ≤ v ∧ v ≤ 57 then 2 else if v = 59 then 3 else 4
def tSk (b : Nat → Int32) (L : Nat) : Nat → Nat → Nat
  | 0, p => p
  | n + 1, p => if p < L ∧ b p = 32 then tSk b L n (p + 1) else p
def tEx (b : Nat → Int32) (L kd : Nat) : Nat → Nat → Nat
  | 0, q => q
  | n + 1, q => if q < L ∧ tKd (b q) = kd then tEx b L kd n (q + 1) else q
def T1 (b : Nat → Int32) (L p : Nat) : Nat := tSk b L (L - p) p
def T2 (b : Nat → Int32) (L p : Nat) : Nat := if T1 b L p < L then tKd (b (T1 b L p)) else 0
def T3 (b : Nat → Int32) (L p : Nat) : Nat := if T2 b L p = 0 then T1 b L p else if T2 b L p = 1 ∨ T2 b L p = 2 then tEx b L (T2 b L p) (L - (T1 b L p + 1)) (T1 b L p + 1) else T1 b L p + 1
def tAcc (b : Nat → Int32) (s : Nat) : Nat → Int32
  | 0 => 0
  | n + 1 => 10 * tAcc b s n + b (s + n) - 48
def tVal (b : Nat → Int32) (L p : Nat) : Int32 := tAcc b (T1 b L p) (T3 b L p - T1 b L p)
def tNk (b : Nat → Int32) (L p : Nat) (lo hi : Int32) : Bool := decide (T2 b L p = 2 ∧ T3 b L p - T1 b L p ≤ 2 ∧ lo ≤ tVal b L p ∧ tVal b L p ≤ hi)
def tWi (b : Nat → Int32) (s e i : Nat) : Bool := decide (e - s = gLen.getD i 0) && mAll (fun k => decide ((gByt.getD i []).getD k 0 = b (s + k))) (gLen.getD i 0)
def tWd (b : Nat → Int32) (L p : Nat) : Nat := if T2 b L p = 1 then (if tWi b (T1 b L p) (T3 b L p) 0 = true then 1 else if tWi b (T1 b L p) (T3 b L p) 1 = true then 2 else if tWi b (T1 b L p) (T3 b L p) 2 = true then 3 else if tWi b (T1 b L p) (T3 b L p) 3 = true then 4 else if tWi b (T1 b L p) (T3 b L p) 4 = true then 5 else 0) else 0
theorem tKd_le (v : Int32) : 1 ≤ tKd v ∧ tKd v ≤ 4 := by unfold tKd; split; omega; split; omega; split <;> omega
theorem tSk_s {b : Nat → Int32} {L p : Nat} (h1 : p < L) (h2 : b p = 32) : tSk b L (L - p) p = tSk b L (L - (p + 1)) (p + 1) := by
  rw [show L - p = (L - (p + 1)) + 1 by omega, tSk, if_pos ⟨h1, h2⟩]
theorem tSk_e {b : Nat → Int32} {L p : Nat} (h : ¬ (p < L ∧ b p = 32)) : tSk b L (L - p) p = p := by
  cases hn : L - p with
  | zero => rfl
  | succ n => rw [tSk, if_neg h]
theorem tEx_s {b : Nat → Int32} {L p kd : Nat} (h1 : p < L) (h2 : tKd (b p) = kd) : tEx b L kd (L - p) p = tEx b L kd (L - (p + 1)) (p + 1) := by
  rw [show L - p = (L - (p + 1)) + 1 by omega, tEx, if_pos ⟨h1, h2⟩]
theorem tEx_e {b : Nat → Int32} {L p kd : Nat} (h : ¬ (p < L ∧ tKd (b p) = kd)) : tEx b L kd (L - p) p = p := by
  cases hn : L - p with
  | zero => rfl
  | succ n => rw [tEx, if_neg h]
theorem tSk_b {b : Nat → Int32} {L : Nat} : ∀ n p, p + n ≤ L → p ≤ tSk b L n p ∧ tSk b L n p ≤ L := by
  intro n
  induction n with
  | zero => intro p h; rw [tSk]; omega
  | succ n ih =>
    intro p h
    rw [tSk]
    split
    · have := ih (p + 1) (by omega); omega
    · omega
theorem tEx_b {b : Nat → Int32} {L kd : Nat} : ∀ n p, p + n ≤ L → p ≤ tEx b L kd n p ∧ tEx b L kd n p ≤ L := by
  intro n
  induction n with
  | zero => intro p h; rw [tEx]; omega
  | succ n ih =>
    intro p h
    rw [tEx]
    split
    · have := ih (p + 1) (by omega); omega
    · omega
theorem T1_b {b : Nat → Int32} {L p : Nat} (h : p ≤ L) : p ≤ T1 b L p ∧ T1 b L p ≤ L := tSk_b (L - p) p (by omega)
theorem T2_b {b : Nat → Int32} {L p : Nat} : T2 b L p ≤ 4 := by
  unfold T2
  split
  · exact (tKd_le _).2
  · omega
theorem T2_0 {b : Nat → Int32} {L p : Nat} (h : p ≤ L) : T2 b L p = 0 ↔ T1 b L p = L := by
  have h1 := (T1_b (b := b) h).2
  unfold T2
  split
  · next q => have := (tKd_le (b (T1 b L p))).1; omega
  · omega
theorem T3_b {b : Nat → Int32} {L p : Nat} (h : p ≤ L) : T1 b L p ≤ T3 b L p ∧ T3 b L p ≤ L ∧ (¬ T2 b L p = 0 → T1 b L p < T3 b L p) := by
  have h1 := T1_b (b := b) h
  have h0 := T2_0 (b := b) h
  unfold T3
  by_cases e : T2 b L p = 0
  · rw [if_pos e]; omega
  · rw [if_neg e]
    have hlt : T1 b L p < L := by have := fun q => e (h0.mpr q); omega
    by_cases e2 : T2 b L p = 1 ∨ T2 b L p = 2
    · rw [if_pos e2]
      have := tEx_b (b := b) (L := L) (kd := T2 b L p) (L - (T1 b L p + 1)) (T1 b L p + 1) (by omega)
      omega
    · rw [if_neg e2]; omega
def mTk (μ : gM) (s k e : Nat) : gM := mwr (mwr (mwr μ 46 3 (nI s)) 46 2 (nI k)) 46 4 (nI e)
theorem mrd_Tk (μ : gM) (s k e c j : Nat) : mrd (mTk μ s k e) c j = if c = 46 ∧ j = 4 then nI e else if c = 46 ∧ j = 2 then nI k else if c = 46 ∧ j = 3 then nI s else mrd μ c j := rfl
section S26
variable {μ ν : gM} {Q : Option Value → gM → Prop} {L p s e i k : Nat} {lo hi : Int32}
theorem s_X7_classOf {v : Int32} (hQ : Q (some (.int (nI (tKd v)))) μ) : SPC 0 MX7_classOf [.int v] μ Q := by
  refine SPC.of (by decide +kernel) (Nat.le_of_ble_eq_true rfl) (ls := [(0, .int (v))]) rfl ?_
  refine GG.iload_n e_X7_classOf_0 (i := 0) rfl 0 rfl ?_
  refine GG.bipush (v := 97) e_X7_classOf_1 rfl ?_
  refine GG.icmp_lt (tgt := 14) e_X7_classOf_3 rfl (fun h3 => ?_) (fun h3 => ?_)
  · skip
    refine GG.iload_n e_X7_classOf_14 (i := 0) rfl 0 rfl ?_
    refine GG.bipush (v := 48) e_X7_classOf_15 rfl ?_
    refine GG.icmp_lt (tgt := 28) e_X7_classOf_17 rfl (fun h17 => ?_) (fun h17 => ?_)
    · skip
      refine GG.iload_n e_X7_classOf_28 (i := 0) rfl 0 rfl ?_
      refine GG.bipush (v := 59) e_X7_classOf_29 rfl ?_
      refine GG.icmp_ne (tgt := 38) e_X7_classOf_31 rfl (fun h31 => ?_) (fun h31 => ?_)
      · skip
        refine GG.iconst (v := 4) e_X7_classOf_38 rfl ?_
        refine GG.iret e_X7_classOf_39 rfl rfl ?_
        refine qI hQ ?_
        unfold tKd
        first | (rw [if_pos (by grind)]; rfl) | (rw [if_neg (by grind), if_pos (by grind)]; rfl) | (rw [if_neg (by grind), if_neg (by grind), if_pos (by grind)]; rfl) | (rw [if_neg (by grind), if_neg (by grind), if_neg (by grind)]; rfl)
      · skip
        refine GG.iconst (v := 3) e_X7_classOf_34 rfl ?_
        refine GG.goto (tgt := 39) e_X7_classOf_35 rfl ?_
        refine GG.iret e_X7_classOf_39 rfl rfl ?_
        refine qI hQ ?_
        unfold tKd
        first | (rw [if_pos (by grind)]; rfl) | (rw [if_neg (by grind), if_pos (by grind)]; rfl) | (rw [if_neg (by grind), if_neg (by grind), if_pos (by grind)]; rfl) | (rw [if_neg (by grind), if_neg (by grind), if_neg (by grind)]; rfl)
    · skip
      refine GG.iload_n e_X7_classOf_20 (i := 0) rfl 0 rfl ?_
      refine GG.bipush (v := 57) e_X7_classOf_21 rfl ?_
      refine GG.icmp_gt (tgt := 28) e_X7_classOf_23 rfl (fun h23 => ?_) (fun h23 => ?_)
      · skip
        refine GG.iload_n e_X7_classOf_28 (i := 0) rfl 0 rfl ?_
        refine GG.bipush (v := 59) e_X7_classOf_29 rfl ?_
        refine GG.icmp_ne (tgt := 38) e_X7_classOf_31 rfl (fun h31 => ?_) (fun h31 => ?_)
        · skip
          refine GG.iconst (v := 4) e_X7_classOf_38 rfl ?_
          refine GG.iret e_X7_classOf_39 rfl rfl ?_
          refine qI hQ ?_
          unfold tKd
          first | (rw [if_pos (by grind)]; rfl) | (rw [if_neg (by grind), if_pos (by grind)]; rfl) | (rw [if_neg (by grind), if_neg (by grind), if_pos (by grind)]; rfl) | (rw [if_neg (by grind), if_neg (by grind), if_neg (by grind)]; rfl)
        · skip
          refine GG.iconst (v := 3) e_X7_classOf_34 rfl ?_
          refine GG.goto (tgt := 39) e_X7_classOf_35 rfl ?_
          refine GG.iret e_X7_classOf_39 rfl rfl ?_
          refine qI hQ ?_
          unfold tKd
          first | (rw [if_pos (by grind)]; rfl) | (rw [if_neg (by grind), if_pos (by grind)]; rfl) | (rw [if_neg (by grind), if_neg (by grind), if_pos (by grind)]; rfl) | (rw [if_neg (by grind), if_neg (by grind), if_neg (by grind)]; rfl)
      · skip
        refine GG.iconst (v := 2) e_X7_classOf_26 rfl ?_
        refine GG.iret e_X7_classOf_27 rfl rfl ?_
        refine qI hQ ?_
        unfold tKd
        first | (rw [if_pos (by grind)]; rfl) | (rw [if_neg (by grind), if_pos (by grind)]; rfl) | (rw [if_neg (by grind), if_neg (by grind), if_pos (by grind)]; rfl) | (rw [if_neg (by grind), if_neg (by grind), if_neg (by grind)]; rfl)
  · skip
    refine GG.iload_n e_X7_classOf_6 (i := 0) rfl 0 rfl ?_
    refine GG.bipush (v := 122) e_X7_classOf_7 rfl ?_
    refine GG.icmp_gt (tgt := 14) e_X7_classOf_9 rfl (fun h9 => ?_) (fun h9 => ?_)
    · skip
      refine GG.iload_n e_X7_classOf_14 (i := 0) rfl 0 rfl ?_
      refine GG.bipush (v := 48) e_X7_classOf_15 rfl ?_
      refine GG.icmp_lt (tgt := 28) e_X7_classOf_17 rfl (fun h17 => ?_) (fun h17 => ?_)
      · skip
        refine GG.iload_n e_X7_classOf_28 (i := 0) rfl 0 rfl ?_
        refine GG.bipush (v := 59) e_X7_classOf_29 rfl ?_
        refine GG.icmp_ne (tgt := 38) e_X7_classOf_31 rfl (fun h31 => ?_) (fun h31 => ?_)
        · skip
          refine GG.iconst (v := 4) e_X7_classOf_38 rfl ?_
          refine GG.iret e_X7_classOf_39 rfl rfl ?_
          refine qI hQ ?_
          unfold tKd
          first | (rw [if_pos (by grind)]; rfl) | (rw [if_neg (by grind), if_pos (by grind)]; rfl) | (rw [if_neg (by grind), if_neg (by grind), if_pos (by grind)]; rfl) | (rw [if_neg (by grind), if_neg (by grind), if_neg (by grind)]; rfl)
        · skip
          refine GG.iconst (v := 3) e_X7_classOf_34 rfl ?_
          refine GG.goto (tgt := 39) e_X7_classOf_35 rfl ?_
          refine GG.iret e_X7_classOf_39 rfl rfl ?_
          refine qI hQ ?_
          unfold tKd
          first | (rw [if_pos (by grind)]; rfl) | (rw [if_neg (by grind), if_pos (by grind)]; rfl) | (rw [if_neg (by grind), if_neg (by grind), if_pos (by grind)]; rfl) | (rw [if_neg (by grind), if_neg (by grind), if_neg (by grind)]; rfl)
      · skip
        refine GG.iload_n e_X7_classOf_20 (i := 0) rfl 0 rfl ?_
        refine GG.bipush (v := 57) e_X7_classOf_21 rfl ?_
        refine GG.icmp_gt (tgt := 28) e_X7_classOf_23 rfl (fun h23 => ?_) (fun h23 => ?_)
        · skip
          refine GG.iload_n e_X7_classOf_28 (i := 0) rfl 0 rfl ?_
          refine GG.bipush (v := 59) e_X7_classOf_29 rfl ?_
          refine GG.icmp_ne (tgt := 38) e_X7_classOf_31 rfl (fun h31 => ?_) (fun h31 => ?_)
          · skip
            refine GG.iconst (v := 4) e_X7_classOf_38 rfl ?_
            refine GG.iret e_X7_classOf_39 rfl rfl ?_
            refine qI hQ ?_
            unfold tKd
            first | (rw [if_pos (by grind)]; rfl) | (rw [if_neg (by grind), if_pos (by grind)]; rfl) | (rw [if_neg (by grind), if_neg (by grind), if_pos (by grind)]; rfl) | (rw [if_neg (by grind), if_neg (by grind), if_neg (by grind)]; rfl)
          · skip
            refine GG.iconst (v := 3) e_X7_classOf_34 rfl ?_
            refine GG.goto (tgt := 39) e_X7_classOf_35 rfl ?_
            refine GG.iret e_X7_classOf_39 rfl rfl ?_
            refine qI hQ ?_
            unfold tKd
            first | (rw [if_pos (by grind)]; rfl) | (rw [if_neg (by grind), if_pos (by grind)]; rfl) | (rw [if_neg (by grind), if_neg (by grind), if_pos (by grind)]; rfl) | (rw [if_neg (by grind), if_neg (by grind), if_neg (by grind)]; rfl)
        · skip
          refine GG.iconst (v := 2) e_X7_classOf_26 rfl ?_
          refine GG.iret e_X7_classOf_27 rfl rfl ?_
          refine qI hQ ?_
          unfold tKd
          first | (rw [if_pos (by grind)]; rfl) | (rw [if_neg (by grind), if_pos (by grind)]; rfl) | (rw [if_neg (by grind), if_neg (by grind), if_pos (by grind)]; rfl) | (rw [if_neg (by grind), if_neg (by grind), if_neg (by grind)]; rfl)
    · skip
      refine GG.iconst (v := 1) e_X7_classOf_12 rfl ?_
      refine GG.iret e_X7_classOf_13 rfl rfl ?_
      refine qI hQ ?_
      unfold tKd
      first | (rw [if_pos (by grind)]; rfl) | (rw [if_neg (by grind), if_pos (by grind)]; rfl) | (rw [if_neg (by grind), if_neg (by grind), if_pos (by grind)]; rfl) | (rw [if_neg (by grind), if_neg (by grind), if_neg (by grind)]; rfl)
theorem s_X7_nextToken (hL : mrd μ 46 0 = nI L) (hL150 : L ≤ 150) (hp : mrd μ 46 4 = nI p) (hpL : p ≤ L) (hQ : Q none (mTk μ (T1 (mrd μ 47) L p) (T2 (mrd μ 47) L p) (T3 (mrd μ 47) L p))) : SPC 1 MX7_nextToken [.ref 46] μ Q := by
  generalize hb : mrd μ 47 = b at hQ
  have hbk : ∀ k, mrd μ 47 k = b k := fun k => by rw [← hb]
  have t1 := T1_b (b := b) hpL
  have lp2 : ∀ n j, L - j < n → j ≤ L → tEx b L (T2 b L p) (L - j) j = T3 b L p → GG 1 MX7_nextToken 90 [(2, .int 1), (1, .int (nI j)), (0, .ref 46)] [] (mwr (mwr μ 46 3 (nI (T1 b L p))) 46 2 (nI (T2 b L p))) Q := by
    intro n
    induction n with
    | zero => intro j h; omega
    | succ n ih =>
      intro j hn hj hl
      refine GG.iload_n e_X7_nextToken_90 (i := 2) rfl 0 rfl ?_
      refine GG.if_eq (tgt := 123) e_X7_nextToken_91 rfl (fun h91 => absurd h91 (by decide)) (fun h91 => ?_)
      refine GG.iload_n e_X7_nextToken_94 (i := 1) rfl 1 rfl ?_
      refine GG.aload_n e_X7_nextToken_95 (i := 0) rfl 2 rfl ?_
      refine GG.getIv (v := nI L) e_X7_nextToken_96 fl_X7_18 (sf_X7_0 i_X7_46) (by simp [mrd_wr, hL]) ?_
      refine GG.icmp_ge (tgt := 123) e_X7_nextToken_99 rfl (fun h99 => ?_) (fun h99 => ?_)
      · skip
        have e := nle h99 (by omega) (by omega)
        have hy : j = T3 b L p := by rw [← hl, tEx_e (by omega)]
        refine GG.aload_n e_X7_nextToken_123 (i := 0) rfl 2 rfl ?_
        refine GG.iload_n e_X7_nextToken_124 (i := 1) rfl 1 rfl ?_
        refine GG.putI e_X7_nextToken_125 fl_X7_32 fp_X7_4 (sf_X7_4 i_X7_46) ?_
        refine GG.vret e_X7_nextToken_128 rfl rfl ?_
        subst hy
        exact hQ
      · skip
        have e := nnle h99 (by omega) (by omega)
        refine GG.aload_n e_X7_nextToken_102 (i := 0) rfl 2 rfl ?_
        refine GG.iload_n e_X7_nextToken_103 (i := 1) rfl 1 rfl ?_
        refine GG.callV (d' := 0) (a := 46) (as := [.int _]) e_X7_nextToken_104 ml_X7_91 mf_X7_byteAt mv_X7_byteAt (rc_X7 i_X7_46) rfl (by decide) (Nat.le_of_ble_eq_true rfl) rfl ?_
        refine s_X7_byteAt (by omega) ?_
        rw [show mrd (mwr (mwr μ 46 3 (nI (T1 b L p))) 46 2 (nI (T2 b L p))) 47 j = b j by simp [mrd_wr, hbk]]
        refine GG.callS (d' := 0) (as := [.int _]) e_X7_nextToken_107 ml_X7_117 mf_X7_classOf ms_X7_classOf rfl (by decide) (Nat.le_of_ble_eq_true rfl) rfl ?_
        refine s_X7_classOf ?_
        refine GG.aload_n e_X7_nextToken_110 (i := 0) rfl 2 rfl ?_
        refine GG.getIv (v := nI (T2 b L p)) e_X7_nextToken_111 fl_X7_38 (sf_X7_2 i_X7_46) (by simp [mrd_wr]) ?_
        refine GG.icmp_ne (tgt := 123) e_X7_nextToken_114 rfl (fun h114 => ?_) (fun h114 => ?_)
        · skip
          have hy : j = T3 b L p := by rw [← hl, tEx_e (by intro q; exact h114 (by rw [q.2]))]
          refine GG.aload_n e_X7_nextToken_123 (i := 0) rfl 2 rfl ?_
          refine GG.iload_n e_X7_nextToken_124 (i := 1) rfl 1 rfl ?_
          refine GG.putI e_X7_nextToken_125 fl_X7_32 fp_X7_4 (sf_X7_4 i_X7_46) ?_
          refine GG.vret e_X7_nextToken_128 rfl rfl ?_
          subst hy
          exact hQ
        · skip
          have hy : tKd (b j) = T2 b L p := (nI_eq (by have := (tKd_le (b j)).2; omega) (by have := T2_b (b := b) (L := L) (p := p); omega)).mp h114
          refine GG.iinc e_X7_nextToken_117 1 rfl (v := _) (by first | exact nI_s _ | exact nI_d _ | rfl) (Nat.le_of_ble_eq_true rfl) (ls' := [(1, .int _), (2, .int _), (0, .ref _)]) rfl ?_
          refine GG.goto (tgt := 90) e_X7_nextToken_120 rfl ?_
          refine GG.perm [1, 0, 2] rfl ?_
          exact ih (j + 1) (by omega) (by omega) (by rw [← hl, ← tEx_s e hy])
  have j90 : ∀ j, j = T3 b L p → GG 1 MX7_nextToken 90 [(2, .int 0), (1, .int (nI j)), (0, .ref 46)] [] (mwr (mwr μ 46 3 (nI (T1 b L p))) 46 2 (nI (T2 b L p))) Q := by
    intro j hj
    subst hj
    refine GG.iload_n e_X7_nextToken_90 (i := 2) rfl 0 rfl ?_
    refine GG.if_eq (tgt := 123) e_X7_nextToken_91 rfl (fun h91 => ?_) (fun h91 => absurd h91 (by exact fun z => z rfl))
    refine GG.aload_n e_X7_nextToken_123 (i := 0) rfl 2 rfl ?_
    refine GG.iload_n e_X7_nextToken_124 (i := 1) rfl 1 rfl ?_
    refine GG.putI e_X7_nextToken_125 fl_X7_32 fp_X7_4 (sf_X7_4 i_X7_46) ?_
    refine GG.vret e_X7_nextToken_128 rfl rfl ?_
    exact hQ
  have j29 : ∀ j, j = T1 b L p → GG 1 MX7_nextToken 29 [(1, .int (nI j)), (0, .ref 46)] [] μ Q := by
    intro j hj
    subst hj
    have h0 := T2_0 (b := b) hpL
    have h3 : T3 b L p = if T2 b L p = 0 then T1 b L p else if T2 b L p = 1 ∨ T2 b L p = 2 then tEx b L (T2 b L p) (L - (T1 b L p + 1)) (T1 b L p + 1) else T1 b L p + 1 := rfl
    have j55 : ∀ z, z = nI (T2 b L p) → GG 1 MX7_nextToken 55 [(1, .int (nI (T1 b L p))), (0, .ref 46)] [.int z, .ref 46] (mwr μ 46 3 (nI (T1 b L p))) Q := by
      intro z hz
      subst hz
      have tb := T2_b (b := b) (L := L) (p := p)
      refine GG.putI e_X7_nextToken_55 fl_X7_38 fp_X7_2 (sf_X7_2 i_X7_46) ?_
      refine GG.aload_n e_X7_nextToken_58 (i := 0) rfl 1 rfl ?_
      refine GG.getIv (v := nI (T2 b L p)) e_X7_nextToken_59 fl_X7_38 (sf_X7_2 i_X7_46) (by simp [mrd_wr]) ?_
      refine GG.if_eq (tgt := 68) e_X7_nextToken_62 rfl (fun h62 => ?_) (fun h62 => ?_)
      · skip
        have e : T2 b L p = 0 := (nI_eq (b := 0) (by omega) (by omega)).mp h62
        refine GG.aload_n e_X7_nextToken_68 (i := 0) rfl 1 rfl ?_
        refine GG.getIv (v := nI (T2 b L p)) e_X7_nextToken_69 fl_X7_38 (sf_X7_2 i_X7_46) (by simp [mrd_wr]) ?_
        refine GG.iconst (v := 1) e_X7_nextToken_72 rfl ?_
        refine GG.icmp_eq (tgt := 84) e_X7_nextToken_73 rfl (fun h73 => ?_) (fun h73 => ?_)
        · skip
          have e1 : T2 b L p = 1 := (nI_eq (b := 1) (by omega) (by omega)).mp h73
          refine GG.iconst (v := 1) e_X7_nextToken_84 rfl ?_
          refine GG.goto (tgt := 89) e_X7_nextToken_85 rfl ?_
          refine GG.istore_n e_X7_nextToken_89 (i := 2) rfl (Nat.le_of_ble_eq_true rfl) (ls' := [(2, .int _), (1, .int _), (0, .ref _)]) rfl ?_
          first | (exfalso; omega) | exact lp2 (L + 1) (T1 b L p + 1) (by omega) (by omega) (by rw [h3, if_neg e, if_pos (by omega)]) | exact j90 _ (by rw [h3, if_pos e]) | exact j90 _ (by rw [h3, if_neg e, if_neg (by omega)])
        · skip
          have e1 : ¬ T2 b L p = 1 := fun q => h73 (by rw [q]; rfl)
          refine GG.aload_n e_X7_nextToken_76 (i := 0) rfl 1 rfl ?_
          refine GG.getIv (v := nI (T2 b L p)) e_X7_nextToken_77 fl_X7_38 (sf_X7_2 i_X7_46) (by simp [mrd_wr]) ?_
          refine GG.iconst (v := 2) e_X7_nextToken_80 rfl ?_
          refine GG.icmp_ne (tgt := 88) e_X7_nextToken_81 rfl (fun h81 => ?_) (fun h81 => ?_)
          · skip
            have e2 : ¬ T2 b L p = 2 := fun q => h81 (by rw [q]; rfl)
            refine GG.iconst (v := 0) e_X7_nextToken_88 rfl ?_
            refine GG.istore_n e_X7_nextToken_89 (i := 2) rfl (Nat.le_of_ble_eq_true rfl) (ls' := [(2, .int _), (1, .int _), (0, .ref _)]) rfl ?_
            first | (exfalso; omega) | exact lp2 (L + 1) (T1 b L p + 1) (by omega) (by omega) (by rw [h3, if_neg e, if_pos (by omega)]) | exact j90 _ (by rw [h3, if_pos e]) | exact j90 _ (by rw [h3, if_neg e, if_neg (by omega)])
          · skip
            have e2 : T2 b L p = 2 := (nI_eq (b := 2) (by omega) (by omega)).mp h81
            refine GG.iconst (v := 1) e_X7_nextToken_84 rfl ?_
            refine GG.goto (tgt := 89) e_X7_nextToken_85 rfl ?_
            refine GG.istore_n e_X7_nextToken_89 (i := 2) rfl (Nat.le_of_ble_eq_true rfl) (ls' := [(2, .int _), (1, .int _), (0, .ref _)]) rfl ?_
            first | (exfalso; omega) | exact lp2 (L + 1) (T1 b L p + 1) (by omega) (by omega) (by rw [h3, if_neg e, if_pos (by omega)]) | exact j90 _ (by rw [h3, if_pos e]) | exact j90 _ (by rw [h3, if_neg e, if_neg (by omega)])
      · skip
        have e : ¬ T2 b L p = 0 := fun q => h62 (by rw [q]; rfl)
        have ht : ¬ T1 b L p = L := fun q => e (h0.mpr q)
        refine GG.iinc e_X7_nextToken_65 0 rfl (v := _) (by first | exact nI_s _ | exact nI_d _ | rfl) (Nat.le_of_ble_eq_true rfl) (ls' := [(1, .int _), (0, .ref _)]) rfl ?_
        refine GG.aload_n e_X7_nextToken_68 (i := 0) rfl 1 rfl ?_
        refine GG.getIv (v := nI (T2 b L p)) e_X7_nextToken_69 fl_X7_38 (sf_X7_2 i_X7_46) (by simp [mrd_wr]) ?_
        refine GG.iconst (v := 1) e_X7_nextToken_72 rfl ?_
        refine GG.icmp_eq (tgt := 84) e_X7_nextToken_73 rfl (fun h73 => ?_) (fun h73 => ?_)
        · skip
          have e1 : T2 b L p = 1 := (nI_eq (b := 1) (by omega) (by omega)).mp h73
          refine GG.iconst (v := 1) e_X7_nextToken_84 rfl ?_
          refine GG.goto (tgt := 89) e_X7_nextToken_85 rfl ?_
          refine GG.istore_n e_X7_nextToken_89 (i := 2) rfl (Nat.le_of_ble_eq_true rfl) (ls' := [(2, .int _), (1, .int _), (0, .ref _)]) rfl ?_
          first | (exfalso; omega) | exact lp2 (L + 1) (T1 b L p + 1) (by omega) (by omega) (by rw [h3, if_neg e, if_pos (by omega)]) | exact j90 _ (by rw [h3, if_pos e]) | exact j90 _ (by rw [h3, if_neg e, if_neg (by omega)])
        · skip
          have e1 : ¬ T2 b L p = 1 := fun q => h73 (by rw [q]; rfl)
          refine GG.aload_n e_X7_nextToken_76 (i := 0) rfl 1 rfl ?_
          refine GG.getIv (v := nI (T2 b L p)) e_X7_nextToken_77 fl_X7_38 (sf_X7_2 i_X7_46) (by simp [mrd_wr]) ?_
          refine GG.iconst (v := 2) e_X7_nextToken_80 rfl ?_
          refine GG.icmp_ne (tgt := 88) e_X7_nextToken_81 rfl (fun h81 => ?_) (fun h81 => ?_)
          · skip
            have e2 : ¬ T2 b L p = 2 := fun q => h81 (by rw [q]; rfl)
            refine GG.iconst (v := 0) e_X7_nextToken_88 rfl ?_
            refine GG.istore_n e_X7_nextToken_89 (i := 2) rfl (Nat.le_of_ble_eq_true rfl) (ls' := [(2, .int _), (1, .int _), (0, .ref _)]) rfl ?_
            first | (exfalso; omega) | exact lp2 (L + 1) (T1 b L p + 1) (by omega) (by omega) (by rw [h3, if_neg e, if_pos (by omega)]) | exact j90 _ (by rw [h3, if_pos e]) | exact j90 _ (by rw [h3, if_neg e, if_neg (by omega)])
          · skip
            have e2 : T2 b L p = 2 := (nI_eq (b := 2) (by omega) (by omega)).mp h81
            refine GG.iconst (v := 1) e_X7_nextToken_84 rfl ?_
            refine GG.goto (tgt := 89) e_X7_nextToken_85 rfl ?_
            refine GG.istore_n e_X7_nextToken_89 (i := 2) rfl (Nat.le_of_ble_eq_true rfl) (ls' := [(2, .int _), (1, .int _), (0, .ref _)]) rfl ?_
            first | (exfalso; omega) | exact lp2 (L + 1) (T1 b L p + 1) (by omega) (by omega) (by rw [h3, if_neg e, if_pos (by omega)]) | exact j90 _ (by rw [h3, if_pos e]) | exact j90 _ (by rw [h3, if_neg e, if_neg (by omega)])
    refine GG.aload_n e_X7_nextToken_29 (i := 0) rfl 1 rfl ?_
    refine GG.iload_n e_X7_nextToken_30 (i := 1) rfl 0 rfl ?_
    refine GG.putI e_X7_nextToken_31 fl_X7_61 fp_X7_3 (sf_X7_3 i_X7_46) ?_
    refine GG.aload_n e_X7_nextToken_34 (i := 0) rfl 1 rfl ?_
    refine GG.iload_n e_X7_nextToken_35 (i := 1) rfl 0 rfl ?_
    refine GG.aload_n e_X7_nextToken_36 (i := 0) rfl 1 rfl ?_
    refine GG.getIv (v := nI L) e_X7_nextToken_37 fl_X7_18 (sf_X7_0 i_X7_46) (by simp [mrd_wr, hL]) ?_
    refine GG.icmp_ge (tgt := 54) e_X7_nextToken_40 rfl (fun h40 => ?_) (fun h40 => ?_)
    · skip
      have e := nle h40 (by omega) (by omega)
      refine GG.iconst (v := 0) e_X7_nextToken_54 rfl ?_
      first | exact j55 _ (by rw [T2, if_pos e]) | exact j55 _ (by rw [T2, if_neg (by omega)]; rfl)
    · skip
      have e := nnle h40 (by omega) (by omega)
      refine GG.aload_n e_X7_nextToken_43 (i := 0) rfl 1 rfl ?_
      refine GG.iload_n e_X7_nextToken_44 (i := 1) rfl 0 rfl ?_
      refine GG.callV (d' := 0) (a := 46) (as := [.int _]) e_X7_nextToken_45 ml_X7_91 mf_X7_byteAt mv_X7_byteAt (rc_X7 i_X7_46) rfl (by decide) (Nat.le_of_ble_eq_true rfl) rfl ?_
      refine s_X7_byteAt (by omega) ?_
      rw [show mrd (mwr μ 46 3 (nI (T1 b L p))) 47 (T1 b L p) = b (T1 b L p) by simp [mrd_wr, hbk]]
      refine GG.callS (d' := 0) (as := [.int _]) e_X7_nextToken_48 ml_X7_117 mf_X7_classOf ms_X7_classOf rfl (by decide) (Nat.le_of_ble_eq_true rfl) rfl ?_
      refine s_X7_classOf ?_
      refine GG.goto (tgt := 55) e_X7_nextToken_51 rfl ?_
      first | exact j55 _ (by rw [T2, if_pos e]) | exact j55 _ (by rw [T2, if_neg (by omega)]; rfl)
  have lp1 : ∀ n j, L - j < n → j ≤ L → tSk b L (L - j) j = T1 b L p → GG 1 MX7_nextToken 5 [(1, .int (nI j)), (0, .ref 46)] [] μ Q := by
    intro n
    induction n with
    | zero => intro j h; omega
    | succ n ih =>
      intro j hn hj hl
      refine GG.iload_n e_X7_nextToken_5 (i := 1) rfl 0 rfl ?_
      refine GG.aload_n e_X7_nextToken_6 (i := 0) rfl 1 rfl ?_
      refine GG.getIv (v := nI L) e_X7_nextToken_7 fl_X7_18 (sf_X7_0 i_X7_46) (hL) ?_
      refine GG.icmp_ge (tgt := 29) e_X7_nextToken_10 rfl (fun h10 => ?_) (fun h10 => ?_)
      · skip
        have e := nle h10 (by omega) (by omega)
        have hy : j = T1 b L p := by rw [← hl, tSk_e (by omega)]
        exact j29 j hy
      · skip
        have e := nnle h10 (by omega) (by omega)
        refine GG.aload_n e_X7_nextToken_13 (i := 0) rfl 1 rfl ?_
        refine GG.iload_n e_X7_nextToken_14 (i := 1) rfl 0 rfl ?_
        refine GG.callV (d' := 0) (a := 46) (as := [.int _]) e_X7_nextToken_15 ml_X7_91 mf_X7_byteAt mv_X7_byteAt (rc_X7 i_X7_46) rfl (by decide) (Nat.le_of_ble_eq_true rfl) rfl ?_
        refine s_X7_byteAt (by omega) ?_
        rw [hbk]
        refine GG.bipush (v := 32) e_X7_nextToken_18 rfl ?_
        refine GG.icmp_ne (tgt := 29) e_X7_nextToken_20 rfl (fun h20 => ?_) (fun h20 => ?_)
        · skip
          have hy : j = T1 b L p := by rw [← hl, tSk_e (fun q => h20 q.2)]
          exact j29 j hy
        · skip
          refine GG.iinc e_X7_nextToken_23 0 rfl (v := _) (by first | exact nI_s _ | exact nI_d _ | rfl) (Nat.le_of_ble_eq_true rfl) (ls' := [(1, .int _), (0, .ref _)]) rfl ?_
          refine GG.goto (tgt := 5) e_X7_nextToken_26 rfl ?_
          exact ih (j + 1) (by omega) (by omega) (by rw [← hl, ← tSk_s e h20])
  refine SPC.of (by decide +kernel) (Nat.le_of_ble_eq_true rfl) (ls := [(0, .ref (46))]) rfl ?_
  refine GG.aload_n e_X7_nextToken_0 (i := 0) rfl 0 rfl ?_
  refine GG.getIv (v := nI p) e_X7_nextToken_1 fl_X7_32 (sf_X7_4 i_X7_46) (hp) ?_
  refine GG.istore_n e_X7_nextToken_4 (i := 1) rfl (Nat.le_of_ble_eq_true rfl) (ls' := [(1, .int _), (0, .ref _)]) rfl ?_
  exact lp1 (L + 1) p (by omega) hpL rfl
end S26
