/-! THE REFERENCE: its face, fifth part: guesses -/
def rMk (f : Nat → Bool) : Nat → Int32 → Int32
  | 0, s => s
  | n + 1, s => rMk f n s &&& (if f n = true then 63 else ((1 : Int32) <<< (nI n &&& 31)) ^^^ (-1))
def rMo (g : Nat → Nat → Bool) : Nat → Int32
  | 0 => 63
  | q + 1 => rMk (g q) 6 (rMo g q)
def b6 (a0 a1 a2 a3 a4 a5 : Bool) : Nat → Bool := fun n => if n = 0 then a0 else if n = 1 then a1 else if n = 2 then a2 else if n = 3 then a3 else if n = 4 then a4 else a5
theorem rMk_b6 : ∀ a0 a1 a2 a3 a4 a5 c0 c1 c2 c3 c4 c5 : Bool, rMk (b6 c0 c1 c2 c3 c4 c5) 6 (mBits (b6 a0 a1 a2 a3 a4 a5) 6) = mBits (b6 (a0 && c0) (a1 && c1) (a2 && c2) (a3 && c3) (a4 && c4) (a5 && c5)) 6 := by decide +kernel
theorem b6_of (f : Nat → Bool) : ∀ n, n < 6 → f n = b6 (f 0) (f 1) (f 2) (f 3) (f 4) (f 5) n := by
  intro n hn
  have : n = 0 ∨ n = 1 ∨ n = 2 ∨ n = 3 ∨ n = 4 ∨ n = 5 := by omega
  rcases this with rfl | rfl | rfl | rfl | rfl | rfl <;> rfl
theorem rMk_c {f g : Nat → Bool} {s : Int32} : ∀ n, (∀ k, k < n → f k = g k) → rMk f n s = rMk g n s := by
  intro n
  induction n with
  | zero => intro _; rfl
  | succ n ih => intro h; rw [rMk, rMk, ih (fun k hk => h k (by omega)), h n (by omega)]
/-- kinds struck out one by one are the kinds that fit all -/
theorem rMo_bits (g : Nat → Nat → Bool) : ∀ q, rMo g q = mBits (fun kind => mAll (fun n => g n kind) q) 6 := by
  intro q
  induction q with
  | zero =>
    show (63 : Int32) = mBits (fun _ => true) 6
    decide +kernel
  | succ q ih =>
    rw [rMo, ih, mBits_c (b6_of (fun kind => mAll (fun n => g n kind) q)), rMk_c 6 (b6_of (g q)), rMk_b6]
    rw [mBits_c (b6_of (fun kind => mAll (fun n => g n kind) (q + 1)))]
    rfl
def rKn (μ : gM) (fn : Int32 → Int32 → Int32 → Int32) (p : Nat) (i : Int32) (q kind : Nat) : Bool := decide (¬ mrd μ 64 (p + 4 * q) = i ∨ fn (nI kind) (mrd μ 64 (p + 4 * q + 1)) (mrd μ 64 (p + 4 * q + 2)) = mrd μ 64 (p + 4 * q + 3))
section S39
variable {μ : gM} {Q : Option Value → gM → Prop} {P A U L T N M B k : Nat} {i c a w z v x y o s : Int32}
theorem s_X11_kindsOf (hN : mrd μ 64 48 = nI N) (hN6 : N ≤ 6) (hQ : Q (some (.int (mBits (fun kind => mAll (fun q => rKn μ mLean 49 i q kind) N) 6))) μ) : SPC 1 MX11_kindsOf [.ref 63, .int i] μ Q := by
  rw [← rMo_bits (fun q kind => rKn μ mLean 49 i q kind)] at hQ
  generalize hg : (fun q kind => rKn μ mLean 49 i q kind) = g at hQ
  have hgk : ∀ q kind, g q kind = decide (¬ mrd μ 64 (49 + 4 * q) = i ∨ mLean (nI kind) (mrd μ 64 (49 + 4 * q + 1)) (mrd μ 64 (49 + 4 * q + 2)) = mrd μ 64 (49 + 4 * q + 3)) := fun q kind => by rw [← hg]; rfl
  have e4 : (49 : Int32) + 4 * nI N = nI (49 + 4 * N) := by rw [show (4 : Int32) = nI 4 from rfl, pk_mul, show (49 : Int32) = nI 49 from rfl, nI_add]
  have out : ∀ n q t, N - q < n → q ≤ N → t = rMo g q → GG 1 MX11_kindsOf 6 [(3, .int (nI (49 + 4 * q))), (2, .int t), (0, .ref 63), (1, .int i)] [] μ Q := by
    intro n
    induction n with
    | zero => intro q t h; omega
    | succ n ih =>
      intro q t hn hq ht
      have inn : ∀ m j u, 6 - j < m → j ≤ 6 → q < N → u = rMk (g q) j t → GG 1 MX11_kindsOf 25 [(4, .int (nI j)), (3, .int (nI (49 + 4 * q))), (2, .int u), (0, .ref 63), (1, .int i)] [] μ Q := by
        intro m
        induction m with
        | zero => intro j u h; omega
        | succ m ihm =>
          intro j u hm hj hqN hu
          have hg1 := hgk q j
          have st : ∀ x v, x = (if g q j = true then 63 else ((1 : Int32) <<< (nI j &&& 31)) ^^^ (-1)) → j < 6 → GG 1 MX11_kindsOf 98 [(5, .int v), (4, .int (nI j)), (3, .int (nI (49 + 4 * q))), (2, .int u), (0, .ref 63), (1, .int i)] [.int x, .int u] μ Q := by
            intro x v hx hj6
            refine GG.iand e_X11_kindsOf_98 ?_
            refine GG.istore_n e_X11_kindsOf_99 (i := 2) rfl (Nat.le_of_ble_eq_true rfl) (ls' := [(2, .int _), (5, .int _), (4, .int _), (3, .int _), (0, .ref _), (1, .int _)]) rfl ?_
            refine GG.iinc e_X11_kindsOf_100 2 rfl (v := _) (by first | exact nI_s _ | exact nI_d _ | rfl) (Nat.le_of_ble_eq_true rfl) (ls' := [(4, .int _), (2, .int _), (5, .int _), (3, .int _), (0, .ref _), (1, .int _)]) rfl ?_
            refine GG.goto (tgt := 25) e_X11_kindsOf_103 rfl ?_
            refine GG.perm [0, 3, 1, 4, 5] rfl ?_
            exact ihm (j + 1) _ (by omega) (by omega) hqN (by rw [rMk, hx, ← hu])
          refine GG.iload e_X11_kindsOf_25 0 rfl ?_
          refine GG.bipush (v := 6) e_X11_kindsOf_27 rfl ?_
          refine GG.icmp_ge (tgt := 106) e_X11_kindsOf_29 rfl (fun h29 => ?_) (fun h29 => ?_)
          · skip
            have e : j = 6 := by have := nle (a := 6) (b := j) h29 (by omega) (by omega); omega
            subst e
            refine GG.iinc e_X11_kindsOf_106 1 rfl (v := nI (49 + 4 * (q + 1))) (nI_add (49 + 4 * q) 4) (Nat.le_of_ble_eq_true rfl) (ls' := [(3, .int _), (4, .int _), (2, .int _), (0, .ref _), (1, .int _)]) rfl ?_
            refine GG.goto (tgt := 6) e_X11_kindsOf_109 rfl ?_
            refine GG.perm [0, 2, 3, 4] rfl ?_
            exact ih (q + 1) _ (by omega) (by omega) (by rw [rMo, hu, ht])
          · skip
            have e := nnle (a := 6) (b := j) h29 (by omega) (by omega)
            refine GG.aload_n e_X11_kindsOf_32 (i := 0) rfl 3 rfl ?_
            refine GG.getR (b := 64) e_X11_kindsOf_33 fl_X11_7 (sf_X11_0 i_X11_63) ?_
            refine GG.iload_n e_X11_kindsOf_36 (i := 3) rfl 1 rfl ?_
            refine GG.ialoadE (k := 49 + 4 * q) e_X11_kindsOf_37 (sa_X11_0 i_X11_63) (rfl) (by omega) (Nat.le_of_ble_eq_true rfl) ?_
            refine GG.iload_n e_X11_kindsOf_38 (i := 1) rfl 4 rfl ?_
            refine GG.icmp_ne (tgt := 74) e_X11_kindsOf_39 rfl (fun h39 => ?_) (fun h39 => ?_)
            · skip
              refine GG.iconst (v := 1) e_X11_kindsOf_74 rfl ?_
              refine GG.goto (tgt := 79) e_X11_kindsOf_75 rfl ?_
              refine GG.istore e_X11_kindsOf_79 (Nat.le_of_ble_eq_true rfl) (ls' := [(5, .int _), (4, .int _), (3, .int _), (2, .int _), (0, .ref _), (1, .int _)]) rfl ?_
              refine GG.iload_n e_X11_kindsOf_81 (i := 2) rfl 3 rfl ?_
              refine GG.iload e_X11_kindsOf_82 0 rfl ?_
              refine GG.if_eq (tgt := 92) e_X11_kindsOf_84 rfl (fun h84 => ?_) (fun h84 => ?_)
              · skip
                refine GG.iconst (v := 1) e_X11_kindsOf_92 rfl ?_
                refine GG.iload e_X11_kindsOf_93 1 rfl ?_
                refine GG.ishl e_X11_kindsOf_95 ?_
                refine GG.iconst (v := -1) e_X11_kindsOf_96 rfl ?_
                refine GG.ixor e_X11_kindsOf_97 ?_
                first | exact absurd h84 (by decide) | exact absurd rfl h84 | refine st _ _ ?_ e
                all_goals rw [hg1]
                all_goals first | (rw [if_pos (decide_eq_true (Or.inl h39))]; done) | (rw [if_pos (decide_eq_true (Or.inr h71))]; done) | rw [if_neg (fun z => (of_decide_eq_true z).elim (fun y => y h39) (fun y => h71 y))]
              · skip
                refine GG.bipush (v := 63) e_X11_kindsOf_87 rfl ?_
                refine GG.goto (tgt := 98) e_X11_kindsOf_89 rfl ?_
                first | exact absurd h84 (by decide) | exact absurd rfl h84 | refine st _ _ ?_ e
                all_goals rw [hg1]
                all_goals first | (rw [if_pos (decide_eq_true (Or.inl h39))]; done) | (rw [if_pos (decide_eq_true (Or.inr h71))]; done) | rw [if_neg (fun z => (of_decide_eq_true z).elim (fun y => y h39) (fun y => h71 y))]
            · skip
              refine GG.iload e_X11_kindsOf_42 0 rfl ?_
              refine GG.aload_n e_X11_kindsOf_44 (i := 0) rfl 3 rfl ?_
              refine GG.getR (b := 64) e_X11_kindsOf_45 fl_X11_7 (sf_X11_0 i_X11_63) ?_
              refine GG.iload_n e_X11_kindsOf_48 (i := 3) rfl 1 rfl ?_
              refine GG.iconst (v := 1) e_X11_kindsOf_49 rfl ?_
              refine GG.iadd e_X11_kindsOf_50 ?_
              refine GG.ialoadE (k := 49 + 4 * q + 1) e_X11_kindsOf_51 (sa_X11_0 i_X11_63) (nI_add (49 + 4 * q) 1) (by omega) (Nat.le_of_ble_eq_true rfl) ?_
              refine GG.aload_n e_X11_kindsOf_52 (i := 0) rfl 3 rfl ?_
              refine GG.getR (b := 64) e_X11_kindsOf_53 fl_X11_7 (sf_X11_0 i_X11_63) ?_
              refine GG.iload_n e_X11_kindsOf_56 (i := 3) rfl 1 rfl ?_
              refine GG.iconst (v := 2) e_X11_kindsOf_57 rfl ?_
              refine GG.iadd e_X11_kindsOf_58 ?_
              refine GG.ialoadE (k := 49 + 4 * q + 2) e_X11_kindsOf_59 (sa_X11_0 i_X11_63) (nI_add (49 + 4 * q) 2) (by omega) (Nat.le_of_ble_eq_true rfl) ?_
              refine GG.callS (d' := 0) (as := [.int _, .int _, .int _]) e_X11_kindsOf_60 ml_X11_135 mf_X11_leansBy ms_X11_leansBy rfl (by decide) (Nat.le_of_ble_eq_true rfl) rfl ?_
              refine s_X11_leansBy ?_
              refine GG.aload_n e_X11_kindsOf_63 (i := 0) rfl 3 rfl ?_
              refine GG.getR (b := 64) e_X11_kindsOf_64 fl_X11_7 (sf_X11_0 i_X11_63) ?_
              refine GG.iload_n e_X11_kindsOf_67 (i := 3) rfl 1 rfl ?_
              refine GG.iconst (v := 3) e_X11_kindsOf_68 rfl ?_
              refine GG.iadd e_X11_kindsOf_69 ?_
              refine GG.ialoadE (k := 49 + 4 * q + 3) e_X11_kindsOf_70 (sa_X11_0 i_X11_63) (nI_add (49 + 4 * q) 3) (by omega) (Nat.le_of_ble_eq_true rfl) ?_
              refine GG.icmp_ne (tgt := 78) e_X11_kindsOf_71 rfl (fun h71 => ?_) (fun h71 => ?_)
              · skip
                refine GG.iconst (v := 0) e_X11_kindsOf_78 rfl ?_
                refine GG.istore e_X11_kindsOf_79 (Nat.le_of_ble_eq_true rfl) (ls' := [(5, .int _), (4, .int _), (3, .int _), (2, .int _), (0, .ref _), (1, .int _)]) rfl ?_
                refine GG.iload_n e_X11_kindsOf_81 (i := 2) rfl 3 rfl ?_
                refine GG.iload e_X11_kindsOf_82 0 rfl ?_
                refine GG.if_eq (tgt := 92) e_X11_kindsOf_84 rfl (fun h84 => ?_) (fun h84 => ?_)
                · skip
                  refine GG.iconst (v := 1) e_X11_kindsOf_92 rfl ?_
                  refine GG.iload e_X11_kindsOf_93 1 rfl ?_
                  refine GG.ishl e_X11_kindsOf_95 ?_
                  refine GG.iconst (v := -1) e_X11_kindsOf_96 rfl ?_
                  refine GG.ixor e_X11_kindsOf_97 ?_
                  first | exact absurd h84 (by decide) | exact absurd rfl h84 | refine st _ _ ?_ e
                  all_goals rw [hg1]
                  all_goals first | (rw [if_pos (decide_eq_true (Or.inl h39))]; done) | (rw [if_pos (decide_eq_true (Or.inr h71))]; done) | rw [if_neg (fun z => (of_decide_eq_true z).elim (fun y => y h39) (fun y => h71 y))]
                · skip
                  refine GG.bipush (v := 63) e_X11_kindsOf_87 rfl ?_
                  refine GG.goto (tgt := 98) e_X11_kindsOf_89 rfl ?_
                  first | exact absurd h84 (by decide) | exact absurd rfl h84 | refine st _ _ ?_ e
                  all_goals rw [hg1]
                  all_goals first | (rw [if_pos (decide_eq_true (Or.inl h39))]; done) | (rw [if_pos (decide_eq_true (Or.inr h71))]; done) | rw [if_neg (fun z => (of_decide_eq_true z).elim (fun y => y h39) (fun y => h71 y))]
              · skip
                refine GG.iconst (v := 1) e_X11_kindsOf_74 rfl ?_
                refine GG.goto (tgt := 79) e_X11_kindsOf_75 rfl ?_
                refine GG.istore e_X11_kindsOf_79 (Nat.le_of_ble_eq_true rfl) (ls' := [(5, .int _), (4, .int _), (3, .int _), (2, .int _), (0, .ref _), (1, .int _)]) rfl ?_
                refine GG.iload_n e_X11_kindsOf_81 (i := 2) rfl 3 rfl ?_
                refine GG.iload e_X11_kindsOf_82 0 rfl ?_
                refine GG.if_eq (tgt := 92) e_X11_kindsOf_84 rfl (fun h84 => ?_) (fun h84 => ?_)
                · skip
                  refine GG.iconst (v := 1) e_X11_kindsOf_92 rfl ?_
                  refine GG.iload e_X11_kindsOf_93 1 rfl ?_
                  refine GG.ishl e_X11_kindsOf_95 ?_
                  refine GG.iconst (v := -1) e_X11_kindsOf_96 rfl ?_
                  refine GG.ixor e_X11_kindsOf_97 ?_
                  first | exact absurd h84 (by decide) | exact absurd rfl h84 | refine st _ _ ?_ e
                  all_goals rw [hg1]
                  all_goals first | (rw [if_pos (decide_eq_true (Or.inl h39))]; done) | (rw [if_pos (decide_eq_true (Or.inr h71))]; done) | rw [if_neg (fun z => (of_decide_eq_true z).elim (fun y => y h39) (fun y => h71 y))]
                · skip
                  refine GG.bipush (v := 63) e_X11_kindsOf_87 rfl ?_
                  refine GG.goto (tgt := 98) e_X11_kindsOf_89 rfl ?_
                  first | exact absurd h84 (by decide) | exact absurd rfl h84 | refine st _ _ ?_ e
                  all_goals rw [hg1]
                  all_goals first | (rw [if_pos (decide_eq_true (Or.inl h39))]; done) | (rw [if_pos (decide_eq_true (Or.inr h71))]; done) | rw [if_neg (fun z => (of_decide_eq_true z).elim (fun y => y h39) (fun y => h71 y))]
      refine GG.iload_n e_X11_kindsOf_6 (i := 3) rfl 0 rfl ?_
      refine GG.bipush (v := 49) e_X11_kindsOf_7 rfl ?_
      refine GG.iconst (v := 4) e_X11_kindsOf_9 rfl ?_
      refine GG.aload_n e_X11_kindsOf_10 (i := 0) rfl 2 rfl ?_
      refine GG.getR (b := 64) e_X11_kindsOf_11 fl_X11_7 (sf_X11_0 i_X11_63) ?_
      refine GG.bipush (v := 48) e_X11_kindsOf_14 rfl ?_
      refine GG.ialoadV (k := 48) (v := nI N) e_X11_kindsOf_16 (sa_X11_0 i_X11_63) (rfl) (by omega) (Nat.le_of_ble_eq_true rfl) (hN) ?_
      refine GG.imul e_X11_kindsOf_17 ?_
      refine GG.iadd e_X11_kindsOf_18 ?_
      refine GG.top e4 ?_
      refine GG.icmp_ge (tgt := 112) e_X11_kindsOf_19 rfl (fun h19 => ?_) (fun h19 => ?_)
      · skip
        have e : q = N := by have := nle h19 (by omega) (by omega); omega
        refine GG.iload_n e_X11_kindsOf_112 (i := 2) rfl 1 rfl ?_
        refine GG.iret e_X11_kindsOf_113 rfl rfl ?_
        subst e
        exact qI hQ ht
      · skip
        have e : q < N := by have := nnle h19 (by omega) (by omega); omega
        refine GG.iconst (v := 0) e_X11_kindsOf_22 rfl ?_
        refine GG.istore e_X11_kindsOf_23 (Nat.le_of_ble_eq_true rfl) (ls' := [(4, .int _), (3, .int _), (2, .int _), (0, .ref _), (1, .int _)]) rfl ?_
        exact inn 7 0 t (by omega) (by omega) e rfl
  refine SPC.of (by decide +kernel) (Nat.le_of_ble_eq_true rfl) (ls := [(0, .ref (63)), (1, .int (i))]) rfl ?_
  refine GG.bipush (v := 63) e_X11_kindsOf_0 rfl ?_
  refine GG.istore_n e_X11_kindsOf_2 (i := 2) rfl (Nat.le_of_ble_eq_true rfl) (ls' := [(2, .int _), (0, .ref _), (1, .int _)]) rfl ?_
  refine GG.bipush (v := 49) e_X11_kindsOf_3 rfl ?_
  refine GG.istore_n e_X11_kindsOf_5 (i := 3) rfl (Nat.le_of_ble_eq_true rfl) (ls' := [(3, .int _), (2, .int _), (0, .ref _), (1, .int _)]) rfl ?_
  exact out (N + 1) 0 63 (by omega) (by omega) rfl
theorem s_X11_auntKinds (hN : mrd μ 64 73 = nI N) (hN6 : N ≤ 6) (hQ : Q (some (.int (mBits (fun kind => mAll (fun q => rKn μ mDamp 74 i q kind) N) 6))) μ) : SPC 2 MX11_auntKinds [.ref 63, .int i] μ Q := by
  rw [← rMo_bits (fun q kind => rKn μ mDamp 74 i q kind)] at hQ
  generalize hg : (fun q kind => rKn μ mDamp 74 i q kind) = g at hQ
  have hgk : ∀ q kind, g q kind = decide (¬ mrd μ 64 (74 + 4 * q) = i ∨ mDamp (nI kind) (mrd μ 64 (74 + 4 * q + 1)) (mrd μ 64 (74 + 4 * q + 2)) = mrd μ 64 (74 + 4 * q + 3)) := fun q kind => by rw [← hg]; rfl
  have e4 : (74 : Int32) + 4 * nI N = nI (74 + 4 * N) := by rw [show (4 : Int32) = nI 4 from rfl, pk_mul, show (74 : Int32) = nI 74 from rfl, nI_add]
  have out : ∀ n q t, N - q < n → q ≤ N → t = rMo g q → GG 2 MX11_auntKinds 6 [(3, .int (nI (74 + 4 * q))), (2, .int t), (0, .ref 63), (1, .int i)] [] μ Q := by
    intro n
    induction n with
    | zero => intro q t h; omega
    | succ n ih =>
      intro q t hn hq ht
      have inn : ∀ m j u, 6 - j < m → j ≤ 6 → q < N → u = rMk (g q) j t → GG 2 MX11_auntKinds 25 [(4, .int (nI j)), (3, .int (nI (74 + 4 * q))), (2, .int u), (0, .ref 63), (1, .int i)] [] μ Q := by
        intro m
        induction m with
        | zero => intro j u h; omega
        | succ m ihm =>
          intro j u hm hj hqN hu
          have hg1 := hgk q j
          have st : ∀ x v, x = (if g q j = true then 63 else ((1 : Int32) <<< (nI j &&& 31)) ^^^ (-1)) → j < 6 → GG 2 MX11_auntKinds 98 [(5, .int v), (4, .int (nI j)), (3, .int (nI (74 + 4 * q))), (2, .int u), (0, .ref 63), (1, .int i)] [.int x, .int u] μ Q := by
            intro x v hx hj6
            refine GG.iand e_X11_auntKinds_98 ?_
            refine GG.istore_n e_X11_auntKinds_99 (i := 2) rfl (Nat.le_of_ble_eq_true rfl) (ls' := [(2, .int _), (5, .int _), (4, .int _), (3, .int _), (0, .ref _), (1, .int _)]) rfl ?_
            refine GG.iinc e_X11_auntKinds_100 2 rfl (v := _) (by first | exact nI_s _ | exact nI_d _ | rfl) (Nat.le_of_ble_eq_true rfl) (ls' := [(4, .int _), (2, .int _), (5, .int _), (3, .int _), (0, .ref _), (1, .int _)]) rfl ?_
            refine GG.goto (tgt := 25) e_X11_auntKinds_103 rfl ?_
            refine GG.perm [0, 3, 1, 4, 5] rfl ?_
            exact ihm (j + 1) _ (by omega) (by omega) hqN (by rw [rMk, hx, ← hu])
          refine GG.iload e_X11_auntKinds_25 0 rfl ?_
          refine GG.bipush (v := 6) e_X11_auntKinds_27 rfl ?_
          refine GG.icmp_ge (tgt := 106) e_X11_auntKinds_29 rfl (fun h29 => ?_) (fun h29 => ?_)
          · skip
            have e : j = 6 := by have := nle (a := 6) (b := j) h29 (by omega) (by omega); omega
            subst e
            refine GG.iinc e_X11_auntKinds_106 1 rfl (v := nI (74 + 4 * (q + 1))) (nI_add (74 + 4 * q) 4) (Nat.le_of_ble_eq_true rfl) (ls' := [(3, .int _), (4, .int _), (2, .int _), (0, .ref _), (1, .int _)]) rfl ?_
            refine GG.goto (tgt := 6) e_X11_auntKinds_109 rfl ?_
            refine GG.perm [0, 2, 3, 4] rfl ?_
            exact ih (q + 1) _ (by omega) (by omega) (by rw [rMo, hu, ht])
          · skip
            have e := nnle (a := 6) (b := j) h29 (by omega) (by omega)
            refine GG.aload_n e_X11_auntKinds_32 (i := 0) rfl 3 rfl ?_
            refine GG.getR (b := 64) e_X11_auntKinds_33 fl_X11_7 (sf_X11_0 i_X11_63) ?_
            refine GG.iload_n e_X11_auntKinds_36 (i := 3) rfl 1 rfl ?_
            refine GG.ialoadE (k := 74 + 4 * q) e_X11_auntKinds_37 (sa_X11_0 i_X11_63) (rfl) (by omega) (Nat.le_of_ble_eq_true rfl) ?_
            refine GG.iload_n e_X11_auntKinds_38 (i := 1) rfl 4 rfl ?_
            refine GG.icmp_ne (tgt := 74) e_X11_auntKinds_39 rfl (fun h39 => ?_) (fun h39 => ?_)
            · skip
              refine GG.iconst (v := 1) e_X11_auntKinds_74 rfl ?_
              refine GG.goto (tgt := 79) e_X11_auntKinds_75 rfl ?_
              refine GG.istore e_X11_auntKinds_79 (Nat.le_of_ble_eq_true rfl) (ls' := [(5, .int _), (4, .int _), (3, .int _), (2, .int _), (0, .ref _), (1, .int _)]) rfl ?_
              refine GG.iload_n e_X11_auntKinds_81 (i := 2) rfl 3 rfl ?_
              refine GG.iload e_X11_auntKinds_82 0 rfl ?_
              refine GG.if_eq (tgt := 92) e_X11_auntKinds_84 rfl (fun h84 => ?_) (fun h84 => ?_)
              · skip
                refine GG.iconst (v := 1) e_X11_auntKinds_92 rfl ?_
                refine GG.iload e_X11_auntKinds_93 1 rfl ?_
                refine GG.ishl e_X11_auntKinds_95 ?_
                refine GG.iconst (v := -1) e_X11_auntKinds_96 rfl ?_
                refine GG.ixor e_X11_auntKinds_97 ?_
                first | exact absurd h84 (by decide) | exact absurd rfl h84 | refine st _ _ ?_ e
                all_goals rw [hg1]
                all_goals first | (rw [if_pos (decide_eq_true (Or.inl h39))]; done) | (rw [if_pos (decide_eq_true (Or.inr h71))]; done) | rw [if_neg (fun z => (of_decide_eq_true z).elim (fun y => y h39) (fun y => h71 y))]
              · skip
                refine GG.bipush (v := 63) e_X11_auntKinds_87 rfl ?_
                refine GG.goto (tgt := 98) e_X11_auntKinds_89 rfl ?_
                first | exact absurd h84 (by decide) | exact absurd rfl h84 | refine st _ _ ?_ e
                all_goals rw [hg1]
                all_goals first | (rw [if_pos (decide_eq_true (Or.inl h39))]; done) | (rw [if_pos (decide_eq_true (Or.inr h71))]; done) | rw [if_neg (fun z => (of_decide_eq_true z).elim (fun y => y h39) (fun y => h71 y))]
            · skip
              refine GG.iload e_X11_auntKinds_42 0 rfl ?_
              refine GG.aload_n e_X11_auntKinds_44 (i := 0) rfl 3 rfl ?_
              refine GG.getR (b := 64) e_X11_auntKinds_45 fl_X11_7 (sf_X11_0 i_X11_63) ?_
              refine GG.iload_n e_X11_auntKinds_48 (i := 3) rfl 1 rfl ?_
              refine GG.iconst (v := 1) e_X11_auntKinds_49 rfl ?_
              refine GG.iadd e_X11_auntKinds_50 ?_
              refine GG.ialoadE (k := 74 + 4 * q + 1) e_X11_auntKinds_51 (sa_X11_0 i_X11_63) (nI_add (74 + 4 * q) 1) (by omega) (Nat.le_of_ble_eq_true rfl) ?_
              refine GG.aload_n e_X11_auntKinds_52 (i := 0) rfl 3 rfl ?_
              refine GG.getR (b := 64) e_X11_auntKinds_53 fl_X11_7 (sf_X11_0 i_X11_63) ?_
              refine GG.iload_n e_X11_auntKinds_56 (i := 3) rfl 1 rfl ?_
              refine GG.iconst (v := 2) e_X11_auntKinds_57 rfl ?_
              refine GG.iadd e_X11_auntKinds_58 ?_
              refine GG.ialoadE (k := 74 + 4 * q + 2) e_X11_auntKinds_59 (sa_X11_0 i_X11_63) (nI_add (74 + 4 * q) 2) (by omega) (Nat.le_of_ble_eq_true rfl) ?_
              refine GG.callS (d' := 1) (as := [.int _, .int _, .int _]) e_X11_auntKinds_60 ml_X11_143 mf_X11_dampedBy ms_X11_dampedBy rfl (by decide) (Nat.le_of_ble_eq_true rfl) rfl ?_
              refine s_X11_dampedBy ?_
              refine GG.aload_n e_X11_auntKinds_63 (i := 0) rfl 3 rfl ?_
              refine GG.getR (b := 64) e_X11_auntKinds_64 fl_X11_7 (sf_X11_0 i_X11_63) ?_
              refine GG.iload_n e_X11_auntKinds_67 (i := 3) rfl 1 rfl ?_
              refine GG.iconst (v := 3) e_X11_auntKinds_68 rfl ?_
              refine GG.iadd e_X11_auntKinds_69 ?_
              refine GG.ialoadE (k := 74 + 4 * q + 3) e_X11_auntKinds_70 (sa_X11_0 i_X11_63) (nI_add (74 + 4 * q) 3) (by omega) (Nat.le_of_ble_eq_true rfl) ?_
              refine GG.icmp_ne (tgt := 78) e_X11_auntKinds_71 rfl (fun h71 => ?_) (fun h71 => ?_)
              · skip
                refine GG.iconst (v := 0) e_X11_auntKinds_78 rfl ?_
                refine GG.istore e_X11_auntKinds_79 (Nat.le_of_ble_eq_true rfl) (ls' := [(5, .int _), (4, .int _), (3, .int _), (2, .int _), (0, .ref _), (1, .int _)]) rfl ?_
                refine GG.iload_n e_X11_auntKinds_81 (i := 2) rfl 3 rfl ?_
                refine GG.iload e_X11_auntKinds_82 0 rfl ?_
                refine GG.if_eq (tgt := 92) e_X11_auntKinds_84 rfl (fun h84 => ?_) (fun h84 => ?_)
                · skip
                  refine GG.iconst (v := 1) e_X11_auntKinds_92 rfl ?_
                  refine GG.iload e_X11_auntKinds_93 1 rfl ?_
                  refine GG.ishl e_X11_auntKinds_95 ?_
                  refine GG.iconst (v := -1) e_X11_auntKinds_96 rfl ?_
                  refine GG.ixor e_X11_auntKinds_97 ?_
                  first | exact absurd h84 (by decide) | exact absurd rfl h84 | refine st _ _ ?_ e
                  all_goals rw [hg1]
                  all_goals first | (rw [if_pos (decide_eq_true (Or.inl h39))]; done) | (rw [if_pos (decide_eq_true (Or.inr h71))]; done) | rw [if_neg (fun z => (of_decide_eq_true z).elim (fun y => y h39) (fun y => h71 y))]
                · skip
                  refine GG.bipush (v := 63) e_X11_auntKinds_87 rfl ?_
                  refine GG.goto (tgt := 98) e_X11_auntKinds_89 rfl ?_
                  first | exact absurd h84 (by decide) | exact absurd rfl h84 | refine st _ _ ?_ e
                  all_goals rw [hg1]
                  all_goals first | (rw [if_pos (decide_eq_true (Or.inl h39))]; done) | (rw [if_pos (decide_eq_true (Or.inr h71))]; done) | rw [if_neg (fun z => (of_decide_eq_true z).elim (fun y => y h39) (fun y => h71 y))]
              · skip
                refine GG.iconst (v := 1) e_X11_auntKinds_74 rfl ?_
                refine GG.goto (tgt := 79) e_X11_auntKinds_75 rfl ?_
                refine GG.istore e_X11_auntKinds_79 (Nat.le_of_ble_eq_true rfl) (ls' := [(5, .int _), (4, .int _), (3, .int _), (2, .int _), (0, .ref _), (1, .int _)]) rfl ?_
                refine GG.iload_n e_X11_auntKinds_81 (i := 2) rfl 3 rfl ?_
                refine GG.iload e_X11_auntKinds_82 0 rfl ?_
                refine GG.if_eq (tgt := 92) e_X11_auntKinds_84 rfl (fun h84 => ?_) (fun h84 => ?_)
                · skip
                  refine GG.iconst (v := 1) e_X11_auntKinds_92 rfl ?_
                  refine GG.iload e_X11_auntKinds_93 1 rfl ?_
                  refine GG.ishl e_X11_auntKinds_95 ?_
                  refine GG.iconst (v := -1) e_X11_auntKinds_96 rfl ?_
                  refine GG.ixor e_X11_auntKinds_97 ?_
                  first | exact absurd h84 (by decide) | exact absurd rfl h84 | refine st _ _ ?_ e
                  all_goals rw [hg1]
                  all_goals first | (rw [if_pos (decide_eq_true (Or.inl h39))]; done) | (rw [if_pos (decide_eq_true (Or.inr h71))]; done) | rw [if_neg (fun z => (of_decide_eq_true z).elim (fun y => y h39) (fun y => h71 y))]
                · skip
                  refine GG.bipush (v := 63) e_X11_auntKinds_87 rfl ?_
                  refine GG.goto (tgt := 98) e_X11_auntKinds_89 rfl ?_
                  first | exact absurd h84 (by decide) | exact absurd rfl h84 | refine st _ _ ?_ e
                  all_goals rw [hg1]
                  all_goals first | (rw [if_pos (decide_eq_true (Or.inl h39))]; done) | (rw [if_pos (decide_eq_true (Or.inr h71))]; done) | rw [if_neg (fun z => (of_decide_eq_true z).elim (fun y => y h39) (fun y => h71 y))]
      refine GG.iload_n e_X11_auntKinds_6 (i := 3) rfl 0 rfl ?_
      refine GG.bipush (v := 74) e_X11_auntKinds_7 rfl ?_
      refine GG.iconst (v := 4) e_X11_auntKinds_9 rfl ?_
      refine GG.aload_n e_X11_auntKinds_10 (i := 0) rfl 2 rfl ?_
      refine GG.getR (b := 64) e_X11_auntKinds_11 fl_X11_7 (sf_X11_0 i_X11_63) ?_
      refine GG.bipush (v := 73) e_X11_auntKinds_14 rfl ?_
      refine GG.ialoadV (k := 73) (v := nI N) e_X11_auntKinds_16 (sa_X11_0 i_X11_63) (rfl) (by omega) (Nat.le_of_ble_eq_true rfl) (hN) ?_
      refine GG.imul e_X11_auntKinds_17 ?_
      refine GG.iadd e_X11_auntKinds_18 ?_
      refine GG.top e4 ?_
      refine GG.icmp_ge (tgt := 112) e_X11_auntKinds_19 rfl (fun h19 => ?_) (fun h19 => ?_)
      · skip
        have e : q = N := by have := nle h19 (by omega) (by omega); omega
        refine GG.iload_n e_X11_auntKinds_112 (i := 2) rfl 1 rfl ?_
        refine GG.iret e_X11_auntKinds_113 rfl rfl ?_
        subst e
        exact qI hQ ht
      · skip
        have e : q < N := by have := nnle h19 (by omega) (by omega); omega
        refine GG.iconst (v := 0) e_X11_auntKinds_22 rfl ?_
        refine GG.istore e_X11_auntKinds_23 (Nat.le_of_ble_eq_true rfl) (ls' := [(4, .int _), (3, .int _), (2, .int _), (0, .ref _), (1, .int _)]) rfl ?_
        exact inn 7 0 t (by omega) (by omega) e rfl
  refine SPC.of (by decide +kernel) (Nat.le_of_ble_eq_true rfl) (ls := [(0, .ref (63)), (1, .int (i))]) rfl ?_
  refine GG.bipush (v := 63) e_X11_auntKinds_0 rfl ?_
  refine GG.istore_n e_X11_auntKinds_2 (i := 2) rfl (Nat.le_of_ble_eq_true rfl) (ls' := [(2, .int _), (0, .ref _), (1, .int _)]) rfl ?_
  refine GG.bipush (v := 74) e_X11_auntKinds_3 rfl ?_
  refine GG.istore_n e_X11_auntKinds_5 (i := 3) rfl (Nat.le_of_ble_eq_true rfl) (ls' := [(3, .int _), (2, .int _), (0, .ref _), (1, .int _)]) rfl ?_
  exact out (N + 1) 0 63 (by omega) (by omega) rfl
theorem s_X11_is (hR : MR μ P A) (hN : mrd μ 64 48 = nI N) (hN6 : N ≤ 6) (hbad : mIn i P = false → Q (some (.int (-2))) (rRf μ 0)) (hok : mIn i P = true → Q (some (.int (mBits (fun kind => mAll (fun q => rKn μ mLean 49 i q kind) N) 6))) μ) : SPC 2 MX11_is [.ref 63, .int i] μ Q := by
  refine SPC.of (by decide +kernel) (Nat.le_of_ble_eq_true rfl) (ls := [(0, .ref (63)), (1, .int (i))]) rfl ?_
  refine GG.aload_n e_X11_is_0 (i := 0) rfl 0 rfl ?_
  refine GG.iload_n e_X11_is_1 (i := 1) rfl 1 rfl ?_
  refine GG.callV (d' := 1) (a := 63) (as := [.int _]) e_X11_is_2 ml_X11_159 mf_X11_isOne mv_X11_isOne (rc_X11 i_X11_63) rfl (by decide) (Nat.le_of_ble_eq_true rfl) rfl ?_
  refine s_X11_isOne hR ?_
  refine GG.if_eq (tgt := 16) e_X11_is_5 rfl (fun h5 => ?_) (fun h5 => ?_)
  · skip
    have oo := (bI_0 _).mp h5
    refine GG.aload_n e_X11_is_16 (i := 0) rfl 0 rfl ?_
    refine GG.bipush (v := -2) e_X11_is_17 rfl ?_
    refine GG.callV (d' := 0) (a := 63) (as := [.int _]) e_X11_is_19 ml_X11_55 mf_X11_refuse mv_X11_refuse (rc_X11 i_X11_63) rfl (by decide) (Nat.le_of_ble_eq_true rfl) rfl ?_
    refine s_X11_refB ?_
    refine GG.iret e_X11_is_22 rfl rfl ?_
    first | exact hbad oo | exact hok o1
  · skip
    have o1 := (bI_n0 _).mp h5
    refine GG.aload_n e_X11_is_8 (i := 0) rfl 0 rfl ?_
    refine GG.iload_n e_X11_is_9 (i := 1) rfl 1 rfl ?_
    refine GG.callV (d' := 1) (a := 63) (as := [.int _]) e_X11_is_10 ml_X11_201 mf_X11_kindsOf mv_X11_kindsOf (rc_X11 i_X11_63) rfl (by decide) (Nat.le_of_ble_eq_true rfl) rfl ?_
    refine s_X11_kindsOf hN hN6 ?_
    refine GG.goto (tgt := 22) e_X11_is_13 rfl ?_
    refine GG.iret e_X11_is_22 rfl rfl ?_
    first | exact hbad oo | exact hok o1
theorem s_X11_kinds (hR : MR μ P A) (hN : mrd μ 64 73 = nI N) (hN6 : N ≤ 6) (hbad : mIn i A = false → Q (some (.int (-2))) (rRf μ 0)) (hok : mIn i A = true → Q (some (.int (mBits (fun kind => mAll (fun q => rKn μ mDamp 74 i q kind) N) 6))) μ) : SPC 3 MX11_kinds [.ref 63, .int i] μ Q := by
  refine SPC.of (by decide +kernel) (Nat.le_of_ble_eq_true rfl) (ls := [(0, .ref (63)), (1, .int (i))]) rfl ?_
  refine GG.aload_n e_X11_kinds_0 (i := 0) rfl 0 rfl ?_
  refine GG.iload_n e_X11_kinds_1 (i := 1) rfl 1 rfl ?_
  refine GG.callV (d' := 1) (a := 63) (as := [.int _]) e_X11_kinds_2 ml_X11_162 mf_X11_isAunt mv_X11_isAunt (rc_X11 i_X11_63) rfl (by decide) (Nat.le_of_ble_eq_true rfl) rfl ?_
  refine s_X11_isAunt hR ?_
  refine GG.if_eq (tgt := 16) e_X11_kinds_5 rfl (fun h5 => ?_) (fun h5 => ?_)
  · skip
    have oo := (bI_0 _).mp h5
    refine GG.aload_n e_X11_kinds_16 (i := 0) rfl 0 rfl ?_
    refine GG.bipush (v := -2) e_X11_kinds_17 rfl ?_
    refine GG.callV (d' := 0) (a := 63) (as := [.int _]) e_X11_kinds_19 ml_X11_55 mf_X11_refuse mv_X11_refuse (rc_X11 i_X11_63) rfl (by decide) (Nat.le_of_ble_eq_true rfl) rfl ?_
    refine s_X11_refB ?_
    refine GG.iret e_X11_kinds_22 rfl rfl ?_
    first | exact hbad oo | exact hok o1
  · skip
    have o1 := (bI_n0 _).mp h5
    refine GG.aload_n e_X11_kinds_8 (i := 0) rfl 0 rfl ?_
    refine GG.iload_n e_X11_kinds_9 (i := 1) rfl 1 rfl ?_
    refine GG.callV (d' := 2) (a := 63) (as := [.int _]) e_X11_kinds_10 ml_X11_207 mf_X11_auntKinds mv_X11_auntKinds (rc_X11 i_X11_63) rfl (by decide) (Nat.le_of_ble_eq_true rfl) rfl ?_
    refine s_X11_auntKinds hN hN6 ?_
    refine GG.goto (tgt := 22) e_X11_kinds_13 rfl ?_
    refine GG.iret e_X11_kinds_22 rfl rfl ?_
    first | exact hbad oo | exact hok o1
end S39
