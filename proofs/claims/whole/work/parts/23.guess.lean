/-! GUESS: kinds that fit, what tells them apart -/
def mKn (μ : gM) (fn : Int32 → Int32 → Int32 → Int32) (r : Nat) (i : Int32) (kind q : Nat) : Bool := decide (¬ mrd μ (r + 1) (4 * q) = i ∨ fn (nI kind) (mrd μ (r + 1) (4 * q + 1)) (mrd μ (r + 1) (4 * q + 2)) = mrd μ (r + 1) (4 * q + 3))
def mCn (f : Nat → Bool) : Nat → Nat
  | 0 => 0
  | n + 1 => mCn f n + (if f n = true then 1 else 0)
theorem mCn_le (f : Nat → Bool) (n : Nat) : mCn f n ≤ n := by
  induction n with
  | zero => exact Nat.le_refl _
  | succ n ih => rw [mCn]; split <;> omega
def mMx (g : Nat → Nat) : Nat → Nat
  | 0 => 0
  | n + 1 => max (mMx g n) (g n)
theorem mMx_le {g : Nat → Nat} {n B : Nat} (h : ∀ k, k < n → g k ≤ B) : mMx g n ≤ B := by
  induction n with
  | zero => exact Nat.zero_le _
  | succ n ih => rw [mMx]; exact Nat.max_le.mpr ⟨ih (fun k hk => h k (by omega)), h n (by omega)⟩
/-- the most of some kinds that come to the same -/
def mAk (told : Nat → Int32) (s : Int32) : Nat := mMx (fun k => mCn (fun q => mHas s (nI k) && mHas s (nI q) && decide (told k = told q)) 6) 6
theorem mAk_c {f g : Nat → Int32} {s : Int32} (h : ∀ k, k < 6 → f k = g k) : mAk f s = mAk g s := by
  have e : ∀ n, n ≤ 6 → ∀ k, k < 6 → mCn (fun q => mHas s (nI k) && mHas s (nI q) && decide (f k = f q)) n = mCn (fun q => mHas s (nI k) && mHas s (nI q) && decide (g k = g q)) n := by
    intro n
    induction n with
    | zero => intro _ k _; rfl
    | succ n ih => intro hn k hk; rw [mCn, mCn, ih (by omega) k hk, h k hk, h n (by omega)]
  have e2 : ∀ n, n ≤ 6 → mMx (fun k => mCn (fun q => mHas s (nI k) && mHas s (nI q) && decide (f k = f q)) 6) n = mMx (fun k => mCn (fun q => mHas s (nI k) && mHas s (nI q) && decide (g k = g q)) 6) n := by
    intro n
    induction n with
    | zero => intro _; rfl
    | succ n ih => intro hn; rw [mMx, mMx, ih (by omega), e 6 (by omega) n (by omega)]
  exact e2 6 (by omega)
theorem mAk_6 (f : Nat → Int32) (s : Int32) : mAk f s ≤ 6 := mMx_le (fun k _ => mCn_le _ 6)
/-- the first of the fewest: best, fewest -/
def mFew (g : Nat → Nat) (an : Nat → Nat) (B : Nat) : Nat → Int32 × Nat
  | 0 => (-1, B)
  | n + 1 => if g n < (mFew g an B n).2 then (nI (an n), g n) else mFew g an B n
theorem mMax_n {a b : Nat} (ha : a < 2 ^ 31) (hb : b < 2 ^ 31) : mMax (nI a) (nI b) = nI (max a b) := by
  unfold mMax
  by_cases h : a < b
  · rw [if_pos (nI_lt h hb), Nat.max_eq_right (by omega)]
  · rw [if_neg (nI_nlt (by omega) ha), Nat.max_eq_left (by omega)]
section S23
variable {μ ν : gM} {Q : Option Value → gM → Prop} {r N : Nat} {i : Int32}
theorem s_X1_mostAlike {s : Int32} (hQ : Q (some (.int (nI (mAk (mrd μ 59) s)))) μ) : SPC 1 MX1_mostAlike [.ref 58, .int s] μ Q := by
  generalize hc : (fun k => mCn (fun q => mHas s (nI k) && mHas s (nI q) && decide (mrd μ 59 k = mrd μ 59 q))) = cn
  have hcn : ∀ k, cn k = mCn (fun q => mHas s (nI k) && mHas s (nI q) && decide (mrd μ 59 k = mrd μ 59 q)) := fun k => by rw [← hc]
  have hcl : ∀ k n, cn k n ≤ n := fun k n => by rw [hcn]; exact mCn_le _ n
  have hA : mAk (mrd μ 59) s = mMx (fun k => cn k 6) 6 := by rw [mAk, ← hc]
  have hml : ∀ n, mMx (fun k => cn k 6) n ≤ 6 := fun n => mMx_le (fun k _ => hcl k 6)
  rw [hA] at hQ
  have out : ∀ n k, 6 - k < n → k ≤ 6 → GG 1 MX1_mostAlike 4 [(3, .int (nI k)), (2, .int (nI (mMx (fun k => cn k 6) k))), (0, .ref 58), (1, .int s)] [] μ Q := by
    intro n
    induction n with
    | zero => intro k h; omega
    | succ n ih =>
      intro k hn hk
      have inn : ∀ m j, 6 - j < m → j ≤ 6 → k < 6 → GG 1 MX1_mostAlike 16 [(5, .int (nI j)), (4, .int (nI (cn k j))), (3, .int (nI k)), (2, .int (nI (mMx (fun k => cn k 6) k))), (0, .ref 58), (1, .int s)] [] μ Q := by
        intro m
        induction m with
        | zero => intro j h; omega
        | succ m ihm =>
          intro j hm hj hk6
          have h1 := hml k
          have h2 := hcl k j
          refine GG.iload e_X1_mostAlike_16 0 rfl ?_
          refine GG.bipush (v := 6) e_X1_mostAlike_18 rfl ?_
          refine GG.icmp_ge (tgt := 65) e_X1_mostAlike_20 rfl (fun h20 => ?_) (fun h20 => ?_)
          · skip
            have e := nle (a := 6) h20 (by omega) (by omega)
            have e2 : j = 6 := by omega
            subst e2
            refine GG.iload_n e_X1_mostAlike_65 (i := 2) rfl 3 rfl ?_
            refine GG.iload e_X1_mostAlike_66 1 rfl ?_
            refine GG.max e_X1_mostAlike_68 ml_X1_42 (by decide) (Nat.le_of_ble_eq_true rfl) ?_
            refine GG.istore_n e_X1_mostAlike_71 (i := 2) rfl (Nat.le_of_ble_eq_true rfl) (ls' := [(2, .int _), (5, .int _), (4, .int _), (3, .int _), (0, .ref _), (1, .int _)]) rfl ?_
            refine GG.iinc e_X1_mostAlike_72 3 rfl (v := _) (by first | exact nI_s _ | exact nI_d _ | rfl) (Nat.le_of_ble_eq_true rfl) (ls' := [(3, .int _), (2, .int _), (5, .int _), (4, .int _), (0, .ref _), (1, .int _)]) rfl ?_
            refine GG.goto (tgt := 4) e_X1_mostAlike_75 rfl ?_
            refine GG.perm [0, 1, 4, 5] rfl ?_
            rw [show (if nI (mMx (fun k => cn k 6) k) < nI (cn k 6) then nI (cn k 6) else nI (mMx (fun k => cn k 6) k)) = nI (mMx (fun k => cn k 6) (k + 1)) from mMax_n (by omega) (by omega)]
            exact ih (k + 1) (by omega) (by omega)
          · skip
            have e := nnle (a := 6) h20 (by omega) (by omega)
            refine GG.iload_n e_X1_mostAlike_23 (i := 1) rfl 5 rfl ?_
            refine GG.iload_n e_X1_mostAlike_24 (i := 3) rfl 2 rfl ?_
            refine GG.callN (d' := 0) (as := [.int _, .int _]) e_X1_mostAlike_25 ml_X1_38 mf_X10_hasBit ms_X10_hasBit rfl (by decide) (Nat.le_of_ble_eq_true rfl) rfl ?_
            refine s_X10_hasBit ?_
            refine GG.if_eq (tgt := 59) e_X1_mostAlike_28 rfl (fun h28 => ?_) (fun h28 => ?_)
            · skip
              rw [bI_0] at h28
              have hy : cn k (j + 1) = cn k j := by rw [hcn, mCn, h28]; simp
              refine GG.iinc e_X1_mostAlike_59 0 rfl (v := _) (by first | exact nI_s _ | exact nI_d _ | rfl) (Nat.le_of_ble_eq_true rfl) (ls' := [(5, .int _), (4, .int _), (3, .int _), (2, .int _), (0, .ref _), (1, .int _)]) rfl ?_
              refine GG.goto (tgt := 16) e_X1_mostAlike_62 rfl ?_
              rw [← hy]
              exact ihm (j + 1) (by omega) (by omega) hk6
            · skip
              rw [bI_0, Bool.not_eq_false] at h28
              refine GG.iload_n e_X1_mostAlike_31 (i := 1) rfl 5 rfl ?_
              refine GG.iload e_X1_mostAlike_32 0 rfl ?_
              refine GG.callN (d' := 0) (as := [.int _, .int _]) e_X1_mostAlike_34 ml_X1_38 mf_X10_hasBit ms_X10_hasBit rfl (by decide) (Nat.le_of_ble_eq_true rfl) rfl ?_
              refine s_X10_hasBit ?_
              refine GG.if_eq (tgt := 59) e_X1_mostAlike_37 rfl (fun h37 => ?_) (fun h37 => ?_)
              · skip
                rw [bI_0] at h37
                have hy : cn k (j + 1) = cn k j := by rw [hcn, mCn, h37]; simp
                refine GG.iinc e_X1_mostAlike_59 0 rfl (v := _) (by first | exact nI_s _ | exact nI_d _ | rfl) (Nat.le_of_ble_eq_true rfl) (ls' := [(5, .int _), (4, .int _), (3, .int _), (2, .int _), (0, .ref _), (1, .int _)]) rfl ?_
                refine GG.goto (tgt := 16) e_X1_mostAlike_62 rfl ?_
                rw [← hy]
                exact ihm (j + 1) (by omega) (by omega) hk6
              · skip
                rw [bI_0, Bool.not_eq_false] at h37
                refine GG.aload_n e_X1_mostAlike_40 (i := 0) rfl 4 rfl ?_
                refine GG.getR (b := 59) e_X1_mostAlike_41 fl_X1_9 (sf_X1_0 i_X1_58) ?_
                refine GG.iload_n e_X1_mostAlike_44 (i := 3) rfl 2 rfl ?_
                refine GG.ialoadE (k := _) e_X1_mostAlike_45 (sa_X1_0 i_X1_58) (rfl) (by omega) (Nat.le_of_ble_eq_true rfl) ?_
                refine GG.aload_n e_X1_mostAlike_46 (i := 0) rfl 4 rfl ?_
                refine GG.getR (b := 59) e_X1_mostAlike_47 fl_X1_9 (sf_X1_0 i_X1_58) ?_
                refine GG.iload e_X1_mostAlike_50 0 rfl ?_
                refine GG.ialoadE (k := _) e_X1_mostAlike_52 (sa_X1_0 i_X1_58) (rfl) (by omega) (Nat.le_of_ble_eq_true rfl) ?_
                refine GG.icmp_ne (tgt := 59) e_X1_mostAlike_53 rfl (fun h53 => ?_) (fun h53 => ?_)
                · skip
                  have hy : cn k (j + 1) = cn k j := by rw [hcn, mCn, decide_eq_false h53]; simp
                  refine GG.iinc e_X1_mostAlike_59 0 rfl (v := _) (by first | exact nI_s _ | exact nI_d _ | rfl) (Nat.le_of_ble_eq_true rfl) (ls' := [(5, .int _), (4, .int _), (3, .int _), (2, .int _), (0, .ref _), (1, .int _)]) rfl ?_
                  refine GG.goto (tgt := 16) e_X1_mostAlike_62 rfl ?_
                  rw [← hy]
                  exact ihm (j + 1) (by omega) (by omega) hk6
                · skip
                  have hy : cn k (j + 1) = cn k j + 1 := by rw [hcn, mCn, decide_eq_true h53, h28, h37]; simp
                  refine GG.iinc e_X1_mostAlike_56 1 rfl (v := _) (by first | exact nI_s _ | exact nI_d _ | rfl) (Nat.le_of_ble_eq_true rfl) (ls' := [(4, .int _), (5, .int _), (3, .int _), (2, .int _), (0, .ref _), (1, .int _)]) rfl ?_
                  refine GG.iinc e_X1_mostAlike_59 1 rfl (v := _) (by first | exact nI_s _ | exact nI_d _ | rfl) (Nat.le_of_ble_eq_true rfl) (ls' := [(5, .int _), (4, .int _), (3, .int _), (2, .int _), (0, .ref _), (1, .int _)]) rfl ?_
                  refine GG.goto (tgt := 16) e_X1_mostAlike_62 rfl ?_
                  rw [← hy]
                  exact ihm (j + 1) (by omega) (by omega) hk6
      refine GG.iload_n e_X1_mostAlike_4 (i := 3) rfl 0 rfl ?_
      refine GG.bipush (v := 6) e_X1_mostAlike_5 rfl ?_
      refine GG.icmp_ge (tgt := 78) e_X1_mostAlike_7 rfl (fun h7 => ?_) (fun h7 => ?_)
      · skip
        have e := nle (a := 6) h7 (by omega) (by omega)
        have e2 : k = 6 := by omega
        subst e2
        refine GG.iload_n e_X1_mostAlike_78 (i := 2) rfl 1 rfl ?_
        refine GG.iret e_X1_mostAlike_79 rfl rfl ?_
        exact hQ
      · skip
        have e := nnle (a := 6) h7 (by omega) (by omega)
        refine GG.iconst (v := 0) e_X1_mostAlike_10 rfl ?_
        refine GG.istore e_X1_mostAlike_11 (Nat.le_of_ble_eq_true rfl) (ls' := [(4, .int _), (3, .int _), (2, .int _), (0, .ref _), (1, .int _)]) rfl ?_
        refine GG.iconst (v := 0) e_X1_mostAlike_13 rfl ?_
        refine GG.istore e_X1_mostAlike_14 (Nat.le_of_ble_eq_true rfl) (ls' := [(5, .int _), (4, .int _), (3, .int _), (2, .int _), (0, .ref _), (1, .int _)]) rfl ?_
        have z := inn 7 0 (by omega) (by omega) e
        rw [show cn k 0 = 0 by rw [hcn]; rfl] at z
        exact z
  refine SPC.of (by decide +kernel) (Nat.le_of_ble_eq_true rfl) (ls := [(0, .ref (58)), (1, .int (s))]) rfl ?_
  refine GG.iconst (v := 0) e_X1_mostAlike_0 rfl ?_
  refine GG.istore_n e_X1_mostAlike_1 (i := 2) rfl (Nat.le_of_ble_eq_true rfl) (ls' := [(2, .int _), (0, .ref _), (1, .int _)]) rfl ?_
  refine GG.iconst (v := 0) e_X1_mostAlike_2 rfl ?_
  refine GG.istore_n e_X1_mostAlike_3 (i := 3) rfl (Nat.le_of_ble_eq_true rfl) (ls' := [(3, .int _), (2, .int _), (0, .ref _), (1, .int _)]) rfl ?_
  exact out 7 0 (by omega) (by omega)
theorem mKn_all {fn : Int32 → Int32 → Int32 → Int32} {kind q : Nat} {fits : Bool} (hz : fits = mAll (mKn μ fn r i kind) q) : (fits && mKn μ fn r i kind q) = mAll (mKn μ fn r i kind) (q + 1) := by rw [mAll, hz]
theorem s_X1_kindsOfOne (hI_X6_r : gI_X6 r) (hN : mrd μ r 0 = nI N) (hN6 : N ≤ 6) (hQ : Q (some (.int (mBits (fun kind => mAll (mKn μ mLean r i kind) N) 6))) μ) : SPC 2 MX1_kindsOfOne [.ref r, .int i] μ Q := by
  generalize hf : (fun kind => mAll (mKn μ mLean r i kind) N) = f at hQ
  have out : ∀ n k x, 6 - k < n → k ≤ 6 → x = mBits f k → GG 2 MX1_kindsOfOne 4 [(3, .int (nI k)), (2, .int x), (0, .ref r), (1, .int i)] [] μ Q := by
    intro n
    induction n with
    | zero => intro k x h; omega
    | succ n ih =>
      intro k x hn hk hl
      have inn : ∀ m q z, N - q < m → q ≤ N → k < 6 → z = mAll (mKn μ mLean r i k) q → GG 2 MX1_kindsOfOne 20 [(5, .int (nI q)), (4, .int (bI z)), (3, .int (nI k)), (2, .int x), (0, .ref r), (1, .int i)] [] μ Q := by
        intro m
        induction m with
        | zero => intro q z h; omega
        | succ m ihm =>
          intro q z hm hq hk6 hz
          have j82 : ∀ y : Bool, y = (z && mKn μ mLean r i k q) → q < N → GG 2 MX1_kindsOfOne 82 [(4, .int (bI z)), (5, .int (nI q)), (3, .int (nI k)), (2, .int x), (0, .ref r), (1, .int i)] [.int (bI y)] μ Q := by
            intro y hy e
            refine GG.istore e_X1_kindsOfOne_82 (Nat.le_of_ble_eq_true rfl) (ls' := [(4, .int _), (5, .int _), (3, .int _), (2, .int _), (0, .ref _), (1, .int _)]) rfl ?_
            refine GG.iinc e_X1_kindsOfOne_84 1 rfl (v := _) (by first | exact nI_s _ | exact nI_d _ | rfl) (Nat.le_of_ble_eq_true rfl) (ls' := [(5, .int _), (4, .int _), (3, .int _), (2, .int _), (0, .ref _), (1, .int _)]) rfl ?_
            refine GG.goto (tgt := 20) e_X1_kindsOfOne_87 rfl ?_
            exact ihm (q + 1) _ (by omega) (by omega) hk6 (by rw [hy, mKn_all hz])
          refine GG.iload e_X1_kindsOfOne_20 0 rfl ?_
          refine GG.aload_n e_X1_kindsOfOne_22 (i := 0) rfl 4 rfl ?_
          refine GG.getIv (v := nI N) e_X1_kindsOfOne_23 fl_X1_15 (sf_X6_0 hI_X6_r) (hN) ?_
          refine GG.icmp_ge (tgt := 90) e_X1_kindsOfOne_26 rfl (fun h26 => ?_) (fun h26 => ?_)
          · skip
            have e := nle h26 (by omega) (by omega)
            have e2 : q = N := by omega
            subst e2
            refine GG.iload_n e_X1_kindsOfOne_90 (i := 2) rfl 3 rfl ?_
            refine GG.iload e_X1_kindsOfOne_91 1 rfl ?_
            refine GG.if_eq (tgt := 102) e_X1_kindsOfOne_93 rfl (fun h93 => ?_) (fun h93 => ?_)
            · skip
              rw [bI_0] at h93
              have hy2 : x ||| 0 = mBits f (k + 1) := by rw [mBits, ← hf]; simp only []; rw [if_neg (by rw [← hz, h93]; decide), hl, ← hf]; simp
              refine GG.iconst (v := 0) e_X1_kindsOfOne_102 rfl ?_
              refine GG.ior e_X1_kindsOfOne_103 ?_
              refine GG.istore_n e_X1_kindsOfOne_104 (i := 2) rfl (Nat.le_of_ble_eq_true rfl) (ls' := [(2, .int _), (5, .int _), (4, .int _), (3, .int _), (0, .ref _), (1, .int _)]) rfl ?_
              refine GG.iinc e_X1_kindsOfOne_105 3 rfl (v := _) (by first | exact nI_s _ | exact nI_d _ | rfl) (Nat.le_of_ble_eq_true rfl) (ls' := [(3, .int _), (2, .int _), (5, .int _), (4, .int _), (0, .ref _), (1, .int _)]) rfl ?_
              refine GG.goto (tgt := 4) e_X1_kindsOfOne_108 rfl ?_
              refine GG.perm [0, 1, 4, 5] rfl ?_
              exact ih (k + 1) _ (by omega) (by omega) hy2
            · skip
              rw [bI_0, Bool.not_eq_false] at h93
              have hy2 : x ||| ((1 : Int32) <<< (nI k &&& 31)) = mBits f (k + 1) := by rw [mBits, ← hf]; simp only []; rw [if_pos (by rw [← hz, h93]), hl, ← hf]
              refine GG.iconst (v := 1) e_X1_kindsOfOne_96 rfl ?_
              refine GG.iload_n e_X1_kindsOfOne_97 (i := 3) rfl 2 rfl ?_
              refine GG.ishl e_X1_kindsOfOne_98 ?_
              refine GG.goto (tgt := 103) e_X1_kindsOfOne_99 rfl ?_
              refine GG.ior e_X1_kindsOfOne_103 ?_
              refine GG.istore_n e_X1_kindsOfOne_104 (i := 2) rfl (Nat.le_of_ble_eq_true rfl) (ls' := [(2, .int _), (5, .int _), (4, .int _), (3, .int _), (0, .ref _), (1, .int _)]) rfl ?_
              refine GG.iinc e_X1_kindsOfOne_105 3 rfl (v := _) (by first | exact nI_s _ | exact nI_d _ | rfl) (Nat.le_of_ble_eq_true rfl) (ls' := [(3, .int _), (2, .int _), (5, .int _), (4, .int _), (0, .ref _), (1, .int _)]) rfl ?_
              refine GG.goto (tgt := 4) e_X1_kindsOfOne_108 rfl ?_
              refine GG.perm [0, 1, 4, 5] rfl ?_
              exact ih (k + 1) _ (by omega) (by omega) hy2
          · skip
            have e := nnle h26 (by omega) (by omega)
            refine GG.iload_n e_X1_kindsOfOne_29 (i := 3) rfl 2 rfl ?_
            refine GG.aload_n e_X1_kindsOfOne_30 (i := 0) rfl 4 rfl ?_
            refine GG.iload e_X1_kindsOfOne_31 0 rfl ?_
            refine GG.iconst (v := 1) e_X1_kindsOfOne_33 rfl ?_
            refine GG.callV (d' := 1) (a := r) (as := [.int _, .int _]) e_X1_kindsOfOne_34 ml_X1_21 mf_X6_cell mv_X6_cell (rc_X6 hI_X6_r) rfl (by decide) (Nat.le_of_ble_eq_true rfl) rfl ?_
            refine s_X6_cell (y := 1) hI_X6_r (by omega) (by omega) ?_
            refine GG.aload_n e_X1_kindsOfOne_37 (i := 0) rfl 4 rfl ?_
            refine GG.iload e_X1_kindsOfOne_38 0 rfl ?_
            refine GG.iconst (v := 2) e_X1_kindsOfOne_40 rfl ?_
            refine GG.callV (d' := 1) (a := r) (as := [.int _, .int _]) e_X1_kindsOfOne_41 ml_X1_21 mf_X6_cell mv_X6_cell (rc_X6 hI_X6_r) rfl (by decide) (Nat.le_of_ble_eq_true rfl) rfl ?_
            refine s_X6_cell (y := 2) hI_X6_r (by omega) (by omega) ?_
            refine GG.callS (d' := 0) (as := [.int _, .int _, .int _]) e_X1_kindsOfOne_44 ml_X1_25 mf_X3_leanAs ms_X3_leanAs rfl (by decide) (Nat.le_of_ble_eq_true rfl) rfl ?_
            refine s_X3_leanAs ?_
            refine GG.istore e_X1_kindsOfOne_47 (Nat.le_of_ble_eq_true rfl) (ls' := [(6, .int _), (5, .int _), (4, .int _), (3, .int _), (2, .int _), (0, .ref _), (1, .int _)]) rfl ?_
            refine GG.iload e_X1_kindsOfOne_49 2 rfl ?_
            refine GG.if_eq (tgt := 81) e_X1_kindsOfOne_51 rfl (fun h51 => ?_) (fun h51 => ?_)
            · skip
              rw [bI_0] at h51
              have hy : false = (z && mKn μ mLean r i k q) := by rw [h51]; rfl
              refine GG.iconst (v := 0) e_X1_kindsOfOne_81 rfl ?_
              refine GG.perm [2, 1, 3, 4, 5, 6] rfl ?_
              exact j82 _ hy e
            · skip
              rw [bI_0, Bool.not_eq_false] at h51
              refine GG.aload_n e_X1_kindsOfOne_54 (i := 0) rfl 5 rfl ?_
              refine GG.iload e_X1_kindsOfOne_55 1 rfl ?_
              refine GG.iconst (v := 0) e_X1_kindsOfOne_57 rfl ?_
              refine GG.callV (d' := 1) (a := r) (as := [.int _, .int _]) e_X1_kindsOfOne_58 ml_X1_21 mf_X6_cell mv_X6_cell (rc_X6 hI_X6_r) rfl (by decide) (Nat.le_of_ble_eq_true rfl) rfl ?_
              refine s_X6_cell (y := 0) hI_X6_r (by omega) (by omega) ?_
              refine GG.iload_n e_X1_kindsOfOne_61 (i := 1) rfl 6 rfl ?_
              refine GG.icmp_ne (tgt := 77) e_X1_kindsOfOne_62 rfl (fun h62 => ?_) (fun h62 => ?_)
              · skip
                have hy : true = (z && mKn μ mLean r i k q) := by rw [h51, mKn, decide_eq_true (Or.inl (show ¬ mrd μ (r + 1) (4 * q) = i from h62))]; rfl
                refine GG.iconst (v := 1) e_X1_kindsOfOne_77 rfl ?_
                refine GG.goto (tgt := 82) e_X1_kindsOfOne_78 rfl ?_
                refine GG.perm [2, 1, 3, 4, 5, 6] rfl ?_
                exact j82 _ hy e
              · skip
                refine GG.iload e_X1_kindsOfOne_65 0 rfl ?_
                refine GG.aload_n e_X1_kindsOfOne_67 (i := 0) rfl 5 rfl ?_
                refine GG.iload e_X1_kindsOfOne_68 1 rfl ?_
                refine GG.iconst (v := 3) e_X1_kindsOfOne_70 rfl ?_
                refine GG.callV (d' := 1) (a := r) (as := [.int _, .int _]) e_X1_kindsOfOne_71 ml_X1_21 mf_X6_cell mv_X6_cell (rc_X6 hI_X6_r) rfl (by decide) (Nat.le_of_ble_eq_true rfl) rfl ?_
                refine s_X6_cell (y := 3) hI_X6_r (by omega) (by omega) ?_
                refine GG.icmp_ne (tgt := 81) e_X1_kindsOfOne_74 rfl (fun h74 => ?_) (fun h74 => ?_)
                · skip
                  have hy : false = (z && mKn μ mLean r i k q) := by rw [mKn, decide_eq_false (by rintro (w | w); exact w h62; exact h74 w), Bool.and_false]
                  refine GG.iconst (v := 0) e_X1_kindsOfOne_81 rfl ?_
                  refine GG.perm [2, 1, 3, 4, 5, 6] rfl ?_
                  exact j82 _ hy e
                · skip
                  have hy : true = (z && mKn μ mLean r i k q) := by rw [h51, mKn, decide_eq_true (Or.inr h74)]; rfl
                  refine GG.iconst (v := 1) e_X1_kindsOfOne_77 rfl ?_
                  refine GG.goto (tgt := 82) e_X1_kindsOfOne_78 rfl ?_
                  refine GG.perm [2, 1, 3, 4, 5, 6] rfl ?_
                  exact j82 _ hy e
      refine GG.aload_n e_X1_kindsOfOne_4 (i := 0) rfl 2 rfl ?_
      refine GG.ifnull e_X1_kindsOfOne_5 ?_
      refine GG.iload_n e_X1_kindsOfOne_8 (i := 3) rfl 0 rfl ?_
      refine GG.bipush (v := 6) e_X1_kindsOfOne_9 rfl ?_
      refine GG.icmp_ge (tgt := 111) e_X1_kindsOfOne_11 rfl (fun h11 => ?_) (fun h11 => ?_)
      · skip
        have e := nle (a := 6) h11 (by omega) (by omega)
        have e2 : k = 6 := by omega
        subst e2
        refine GG.iload_n e_X1_kindsOfOne_111 (i := 2) rfl 1 rfl ?_
        refine GG.iret e_X1_kindsOfOne_112 rfl rfl ?_
        rw [hl]
        exact hQ
      · skip
        have e := nnle (a := 6) h11 (by omega) (by omega)
        refine GG.iconst (v := 1) e_X1_kindsOfOne_14 rfl ?_
        refine GG.istore e_X1_kindsOfOne_15 (Nat.le_of_ble_eq_true rfl) (ls' := [(4, .int _), (3, .int _), (2, .int _), (0, .ref _), (1, .int _)]) rfl ?_
        refine GG.iconst (v := 0) e_X1_kindsOfOne_17 rfl ?_
        refine GG.istore e_X1_kindsOfOne_18 (Nat.le_of_ble_eq_true rfl) (ls' := [(5, .int _), (4, .int _), (3, .int _), (2, .int _), (0, .ref _), (1, .int _)]) rfl ?_
        exact inn (N + 1) 0 true (by omega) (by omega) e rfl
  refine SPC.of (by decide +kernel) (Nat.le_of_ble_eq_true rfl) (ls := [(0, .ref (r)), (1, .int (i))]) rfl ?_
  refine GG.iconst (v := 0) e_X1_kindsOfOne_0 rfl ?_
  refine GG.istore_n e_X1_kindsOfOne_1 (i := 2) rfl (Nat.le_of_ble_eq_true rfl) (ls' := [(2, .int _), (0, .ref _), (1, .int _)]) rfl ?_
  refine GG.iconst (v := 0) e_X1_kindsOfOne_2 rfl ?_
  refine GG.istore_n e_X1_kindsOfOne_3 (i := 3) rfl (Nat.le_of_ble_eq_true rfl) (ls' := [(3, .int _), (2, .int _), (0, .ref _), (1, .int _)]) rfl ?_
  exact out 7 0 _ (by omega) (by omega) rfl
theorem s_X1_kindsOfAunt (hI_X6_r : gI_X6 r) (hN : mrd μ r 0 = nI N) (hN6 : N ≤ 6) (hQ : Q (some (.int (mBits (fun kind => mAll (mKn μ mDamp r i kind) N) 6))) μ) : SPC 2 MX1_kindsOfAunt [.ref r, .int i] μ Q := by
  generalize hf : (fun kind => mAll (mKn μ mDamp r i kind) N) = f at hQ
  have out : ∀ n k x, 6 - k < n → k ≤ 6 → x = mBits f k → GG 2 MX1_kindsOfAunt 4 [(3, .int (nI k)), (2, .int x), (0, .ref r), (1, .int i)] [] μ Q := by
    intro n
    induction n with
    | zero => intro k x h; omega
    | succ n ih =>
      intro k x hn hk hl
      have inn : ∀ m q z, N - q < m → q ≤ N → k < 6 → z = mAll (mKn μ mDamp r i k) q → GG 2 MX1_kindsOfAunt 20 [(5, .int (nI q)), (4, .int (bI z)), (3, .int (nI k)), (2, .int x), (0, .ref r), (1, .int i)] [] μ Q := by
        intro m
        induction m with
        | zero => intro q z h; omega
        | succ m ihm =>
          intro q z hm hq hk6 hz
          have j82 : ∀ y : Bool, y = (z && mKn μ mDamp r i k q) → q < N → GG 2 MX1_kindsOfAunt 82 [(4, .int (bI z)), (5, .int (nI q)), (3, .int (nI k)), (2, .int x), (0, .ref r), (1, .int i)] [.int (bI y)] μ Q := by
            intro y hy e
            refine GG.istore e_X1_kindsOfAunt_82 (Nat.le_of_ble_eq_true rfl) (ls' := [(4, .int _), (5, .int _), (3, .int _), (2, .int _), (0, .ref _), (1, .int _)]) rfl ?_
            refine GG.iinc e_X1_kindsOfAunt_84 1 rfl (v := _) (by first | exact nI_s _ | exact nI_d _ | rfl) (Nat.le_of_ble_eq_true rfl) (ls' := [(5, .int _), (4, .int _), (3, .int _), (2, .int _), (0, .ref _), (1, .int _)]) rfl ?_
            refine GG.goto (tgt := 20) e_X1_kindsOfAunt_87 rfl ?_
            exact ihm (q + 1) _ (by omega) (by omega) hk6 (by rw [hy, mKn_all hz])
          refine GG.iload e_X1_kindsOfAunt_20 0 rfl ?_
          refine GG.aload_n e_X1_kindsOfAunt_22 (i := 0) rfl 4 rfl ?_
          refine GG.getIv (v := nI N) e_X1_kindsOfAunt_23 fl_X1_15 (sf_X6_0 hI_X6_r) (hN) ?_
          refine GG.icmp_ge (tgt := 90) e_X1_kindsOfAunt_26 rfl (fun h26 => ?_) (fun h26 => ?_)
          · skip
            have e := nle h26 (by omega) (by omega)
            have e2 : q = N := by omega
            subst e2
            refine GG.iload_n e_X1_kindsOfAunt_90 (i := 2) rfl 3 rfl ?_
            refine GG.iload e_X1_kindsOfAunt_91 1 rfl ?_
            refine GG.if_eq (tgt := 102) e_X1_kindsOfAunt_93 rfl (fun h93 => ?_) (fun h93 => ?_)
            · skip
              rw [bI_0] at h93
              have hy2 : x ||| 0 = mBits f (k + 1) := by rw [mBits, ← hf]; simp only []; rw [if_neg (by rw [← hz, h93]; decide), hl, ← hf]; simp
              refine GG.iconst (v := 0) e_X1_kindsOfAunt_102 rfl ?_
              refine GG.ior e_X1_kindsOfAunt_103 ?_
              refine GG.istore_n e_X1_kindsOfAunt_104 (i := 2) rfl (Nat.le_of_ble_eq_true rfl) (ls' := [(2, .int _), (5, .int _), (4, .int _), (3, .int _), (0, .ref _), (1, .int _)]) rfl ?_
              refine GG.iinc e_X1_kindsOfAunt_105 3 rfl (v := _) (by first | exact nI_s _ | exact nI_d _ | rfl) (Nat.le_of_ble_eq_true rfl) (ls' := [(3, .int _), (2, .int _), (5, .int _), (4, .int _), (0, .ref _), (1, .int _)]) rfl ?_
              refine GG.goto (tgt := 4) e_X1_kindsOfAunt_108 rfl ?_
              refine GG.perm [0, 1, 4, 5] rfl ?_
              exact ih (k + 1) _ (by omega) (by omega) hy2
            · skip
              rw [bI_0, Bool.not_eq_false] at h93
              have hy2 : x ||| ((1 : Int32) <<< (nI k &&& 31)) = mBits f (k + 1) := by rw [mBits, ← hf]; simp only []; rw [if_pos (by rw [← hz, h93]), hl, ← hf]
              refine GG.iconst (v := 1) e_X1_kindsOfAunt_96 rfl ?_
              refine GG.iload_n e_X1_kindsOfAunt_97 (i := 3) rfl 2 rfl ?_
              refine GG.ishl e_X1_kindsOfAunt_98 ?_
              refine GG.goto (tgt := 103) e_X1_kindsOfAunt_99 rfl ?_
              refine GG.ior e_X1_kindsOfAunt_103 ?_
              refine GG.istore_n e_X1_kindsOfAunt_104 (i := 2) rfl (Nat.le_of_ble_eq_true rfl) (ls' := [(2, .int _), (5, .int _), (4, .int _), (3, .int _), (0, .ref _), (1, .int _)]) rfl ?_
              refine GG.iinc e_X1_kindsOfAunt_105 3 rfl (v := _) (by first | exact nI_s _ | exact nI_d _ | rfl) (Nat.le_of_ble_eq_true rfl) (ls' := [(3, .int _), (2, .int _), (5, .int _), (4, .int _), (0, .ref _), (1, .int _)]) rfl ?_
              refine GG.goto (tgt := 4) e_X1_kindsOfAunt_108 rfl ?_
              refine GG.perm [0, 1, 4, 5] rfl ?_
              exact ih (k + 1) _ (by omega) (by omega) hy2
          · skip
            have e := nnle h26 (by omega) (by omega)
            refine GG.iload_n e_X1_kindsOfAunt_29 (i := 3) rfl 2 rfl ?_
            refine GG.aload_n e_X1_kindsOfAunt_30 (i := 0) rfl 4 rfl ?_
            refine GG.iload e_X1_kindsOfAunt_31 0 rfl ?_
            refine GG.iconst (v := 1) e_X1_kindsOfAunt_33 rfl ?_
            refine GG.callV (d' := 1) (a := r) (as := [.int _, .int _]) e_X1_kindsOfAunt_34 ml_X1_21 mf_X6_cell mv_X6_cell (rc_X6 hI_X6_r) rfl (by decide) (Nat.le_of_ble_eq_true rfl) rfl ?_
            refine s_X6_cell (y := 1) hI_X6_r (by omega) (by omega) ?_
            refine GG.aload_n e_X1_kindsOfAunt_37 (i := 0) rfl 4 rfl ?_
            refine GG.iload e_X1_kindsOfAunt_38 0 rfl ?_
            refine GG.iconst (v := 2) e_X1_kindsOfAunt_40 rfl ?_
            refine GG.callV (d' := 1) (a := r) (as := [.int _, .int _]) e_X1_kindsOfAunt_41 ml_X1_21 mf_X6_cell mv_X6_cell (rc_X6 hI_X6_r) rfl (by decide) (Nat.le_of_ble_eq_true rfl) rfl ?_
            refine s_X6_cell (y := 2) hI_X6_r (by omega) (by omega) ?_
            refine GG.callS (d' := 0) (as := [.int _, .int _, .int _]) e_X1_kindsOfAunt_44 ml_X1_31 mf_X3_dampAs ms_X3_dampAs rfl (by decide) (Nat.le_of_ble_eq_true rfl) rfl ?_
            refine s_X3_dampAs ?_
            refine GG.istore e_X1_kindsOfAunt_47 (Nat.le_of_ble_eq_true rfl) (ls' := [(6, .int _), (5, .int _), (4, .int _), (3, .int _), (2, .int _), (0, .ref _), (1, .int _)]) rfl ?_
            refine GG.iload e_X1_kindsOfAunt_49 2 rfl ?_
            refine GG.if_eq (tgt := 81) e_X1_kindsOfAunt_51 rfl (fun h51 => ?_) (fun h51 => ?_)
            · skip
              rw [bI_0] at h51
              have hy : false = (z && mKn μ mDamp r i k q) := by rw [h51]; rfl
              refine GG.iconst (v := 0) e_X1_kindsOfAunt_81 rfl ?_
              refine GG.perm [2, 1, 3, 4, 5, 6] rfl ?_
              exact j82 _ hy e
            · skip
              rw [bI_0, Bool.not_eq_false] at h51
              refine GG.aload_n e_X1_kindsOfAunt_54 (i := 0) rfl 5 rfl ?_
              refine GG.iload e_X1_kindsOfAunt_55 1 rfl ?_
              refine GG.iconst (v := 0) e_X1_kindsOfAunt_57 rfl ?_
              refine GG.callV (d' := 1) (a := r) (as := [.int _, .int _]) e_X1_kindsOfAunt_58 ml_X1_21 mf_X6_cell mv_X6_cell (rc_X6 hI_X6_r) rfl (by decide) (Nat.le_of_ble_eq_true rfl) rfl ?_
              refine s_X6_cell (y := 0) hI_X6_r (by omega) (by omega) ?_
              refine GG.iload_n e_X1_kindsOfAunt_61 (i := 1) rfl 6 rfl ?_
              refine GG.icmp_ne (tgt := 77) e_X1_kindsOfAunt_62 rfl (fun h62 => ?_) (fun h62 => ?_)
              · skip
                have hy : true = (z && mKn μ mDamp r i k q) := by rw [h51, mKn, decide_eq_true (Or.inl (show ¬ mrd μ (r + 1) (4 * q) = i from h62))]; rfl
                refine GG.iconst (v := 1) e_X1_kindsOfAunt_77 rfl ?_
                refine GG.goto (tgt := 82) e_X1_kindsOfAunt_78 rfl ?_
                refine GG.perm [2, 1, 3, 4, 5, 6] rfl ?_
                exact j82 _ hy e
              · skip
                refine GG.iload e_X1_kindsOfAunt_65 0 rfl ?_
                refine GG.aload_n e_X1_kindsOfAunt_67 (i := 0) rfl 5 rfl ?_
                refine GG.iload e_X1_kindsOfAunt_68 1 rfl ?_
                refine GG.iconst (v := 3) e_X1_kindsOfAunt_70 rfl ?_
                refine GG.callV (d' := 1) (a := r) (as := [.int _, .int _]) e_X1_kindsOfAunt_71 ml_X1_21 mf_X6_cell mv_X6_cell (rc_X6 hI_X6_r) rfl (by decide) (Nat.le_of_ble_eq_true rfl) rfl ?_
                refine s_X6_cell (y := 3) hI_X6_r (by omega) (by omega) ?_
                refine GG.icmp_ne (tgt := 81) e_X1_kindsOfAunt_74 rfl (fun h74 => ?_) (fun h74 => ?_)
                · skip
                  have hy : false = (z && mKn μ mDamp r i k q) := by rw [mKn, decide_eq_false (by rintro (w | w); exact w h62; exact h74 w), Bool.and_false]
                  refine GG.iconst (v := 0) e_X1_kindsOfAunt_81 rfl ?_
                  refine GG.perm [2, 1, 3, 4, 5, 6] rfl ?_
                  exact j82 _ hy e
                · skip
                  have hy : true = (z && mKn μ mDamp r i k q) := by rw [h51, mKn, decide_eq_true (Or.inr h74)]; rfl
                  refine GG.iconst (v := 1) e_X1_kindsOfAunt_77 rfl ?_
                  refine GG.goto (tgt := 82) e_X1_kindsOfAunt_78 rfl ?_
                  refine GG.perm [2, 1, 3, 4, 5, 6] rfl ?_
                  exact j82 _ hy e
      refine GG.aload_n e_X1_kindsOfAunt_4 (i := 0) rfl 2 rfl ?_
      refine GG.ifnull e_X1_kindsOfAunt_5 ?_
      refine GG.iload_n e_X1_kindsOfAunt_8 (i := 3) rfl 0 rfl ?_
      refine GG.bipush (v := 6) e_X1_kindsOfAunt_9 rfl ?_
      refine GG.icmp_ge (tgt := 111) e_X1_kindsOfAunt_11 rfl (fun h11 => ?_) (fun h11 => ?_)
      · skip
        have e := nle (a := 6) h11 (by omega) (by omega)
        have e2 : k = 6 := by omega
        subst e2
        refine GG.iload_n e_X1_kindsOfAunt_111 (i := 2) rfl 1 rfl ?_
        refine GG.iret e_X1_kindsOfAunt_112 rfl rfl ?_
        rw [hl]
        exact hQ
      · skip
        have e := nnle (a := 6) h11 (by omega) (by omega)
        refine GG.iconst (v := 1) e_X1_kindsOfAunt_14 rfl ?_
        refine GG.istore e_X1_kindsOfAunt_15 (Nat.le_of_ble_eq_true rfl) (ls' := [(4, .int _), (3, .int _), (2, .int _), (0, .ref _), (1, .int _)]) rfl ?_
        refine GG.iconst (v := 0) e_X1_kindsOfAunt_17 rfl ?_
        refine GG.istore e_X1_kindsOfAunt_18 (Nat.le_of_ble_eq_true rfl) (ls' := [(5, .int _), (4, .int _), (3, .int _), (2, .int _), (0, .ref _), (1, .int _)]) rfl ?_
        exact inn (N + 1) 0 true (by omega) (by omega) e rfl
  refine SPC.of (by decide +kernel) (Nat.le_of_ble_eq_true rfl) (ls := [(0, .ref (r)), (1, .int (i))]) rfl ?_
  refine GG.iconst (v := 0) e_X1_kindsOfAunt_0 rfl ?_
  refine GG.istore_n e_X1_kindsOfAunt_1 (i := 2) rfl (Nat.le_of_ble_eq_true rfl) (ls' := [(2, .int _), (0, .ref _), (1, .int _)]) rfl ?_
  refine GG.iconst (v := 0) e_X1_kindsOfAunt_2 rfl ?_
  refine GG.istore_n e_X1_kindsOfAunt_3 (i := 3) rfl (Nat.le_of_ble_eq_true rfl) (ls' := [(3, .int _), (2, .int _), (0, .ref _), (1, .int _)]) rfl ?_
  exact out 7 0 _ (by omega) (by omega) rfl
theorem scr_59 {j : Nat} : gScr 59 j := Or.inr (Or.inr (Or.inr (Or.inl ⟨by omega, by omega⟩)))
theorem mDiv_n {q d : Nat} (hq : q < 2 ^ 31) (hd : 0 < d) (hd2 : d < 2 ^ 31) : nI q / nI d = nI (q / d) := pk_div hq hd hd2
theorem s_X1_bestLook {s : Int32} {g : Nat → Nat} (hg : ∀ q, q < 120 → g q = mAk (fun k => mLean (nI k) (nI (q % 10)) (nI (q / 10))) s) (hQ : ∀ ν, gSm μ ν → Q (some (.int (if s = 0 then -1 else (mFew g id 7 120).1))) ν) : SPC 2 MX1_bestLook [.ref 58, .int s] μ Q := by
  have out : ∀ n q x y ν, 120 - q < n → q ≤ 120 → (q = 0 ∨ ¬ s = 0) → mFew g id 7 q = (x, y) → y ≤ 7 → gSm μ ν → GG 2 MX1_bestLook 8 [(4, .int (nI q)), (3, .int (nI y)), (2, .int x), (0, .ref 58), (1, .int s)] [] ν Q := by
    intro n
    induction n with
    | zero => intro q x y ν h; omega
    | succ n ih =>
      intro q x y ν hn hq hs hl hy hm
      have inn : ∀ m j ν, 6 - j < m → j ≤ 6 → q < 120 → ¬ s = 0 → gSm μ ν → (∀ k, k < j → mrd ν 59 k = mLean (nI k) (nI (q % 10)) (nI (q / 10))) → GG 2 MX1_bestLook 22 [(5, .int (nI j)), (4, .int (nI q)), (3, .int (nI y)), (2, .int x), (0, .ref 58), (1, .int s)] [] ν Q := by
        intro m
        induction m with
        | zero => intro j ν h; omega
        | succ m ihm =>
          intro j ν hm' hj e0 hs0 hm hk
          refine GG.iload e_X1_bestLook_22 0 rfl ?_
          refine GG.bipush (v := 6) e_X1_bestLook_24 rfl ?_
          refine GG.icmp_ge (tgt := 57) e_X1_bestLook_26 rfl (fun h26 => ?_) (fun h26 => ?_)
          · skip
            have e := nle (a := 6) h26 (by omega) (by omega)
            have e2 : j = 6 := by omega
            subst e2
            refine GG.aload_n e_X1_bestLook_57 (i := 0) rfl 4 rfl ?_
            refine GG.iload_n e_X1_bestLook_58 (i := 1) rfl 5 rfl ?_
            refine GG.callV (d' := 1) (a := 58) (as := [.int _]) e_X1_bestLook_59 ml_X1_34 mf_X1_mostAlike mv_X1_mostAlike (rc_X1 i_X1_58) rfl (by decide) (Nat.le_of_ble_eq_true rfl) rfl ?_
            refine s_X1_mostAlike ?_
            have ha : mAk (mrd ν 59) s = g q := by rw [hg q e0]; exact mAk_c hk
            have h6 : g q ≤ 6 := by rw [← ha]; exact mAk_6 _ _
            rw [ha]
            refine GG.istore e_X1_bestLook_62 (Nat.le_of_ble_eq_true rfl) (ls' := [(5, .int _), (4, .int _), (3, .int _), (2, .int _), (0, .ref _), (1, .int _)]) rfl ?_
            refine GG.iload e_X1_bestLook_64 0 rfl ?_
            refine GG.iload_n e_X1_bestLook_66 (i := 3) rfl 2 rfl ?_
            refine GG.icmp_ge (tgt := 76) e_X1_bestLook_67 rfl (fun h67 => ?_) (fun h67 => ?_)
            · skip
              have e5 := nle h67 (by omega) (by omega)
              have hy2 : mFew g id 7 (q + 1) = (x, y) := by rw [mFew, hl, if_neg (by show ¬ g q < y; omega)]
              have h7 : y ≤ 7 := hy
              refine GG.iinc e_X1_bestLook_76 1 rfl (v := _) (by first | exact nI_s _ | exact nI_d _ | rfl) (Nat.le_of_ble_eq_true rfl) (ls' := [(4, .int _), (5, .int _), (3, .int _), (2, .int _), (0, .ref _), (1, .int _)]) rfl ?_
              refine GG.goto (tgt := 8) e_X1_bestLook_79 rfl ?_
              refine GG.perm [0, 2, 3, 4, 5] rfl ?_
              exact ih (q + 1) _ _ _ (by omega) (by omega) (Or.inr hs0) hy2 h7 hm
            · skip
              have e5 := nnle h67 (by omega) (by omega)
              have hy2 : mFew g id 7 (q + 1) = (nI q, g q) := by rw [mFew, hl, if_pos (by show g q < y; omega)]; rfl
              have h7 : g q ≤ 7 := by omega
              refine GG.iload e_X1_bestLook_70 0 rfl ?_
              refine GG.istore_n e_X1_bestLook_72 (i := 3) rfl (Nat.le_of_ble_eq_true rfl) (ls' := [(3, .int _), (5, .int _), (4, .int _), (2, .int _), (0, .ref _), (1, .int _)]) rfl ?_
              refine GG.iload e_X1_bestLook_73 2 rfl ?_
              refine GG.istore_n e_X1_bestLook_75 (i := 2) rfl (Nat.le_of_ble_eq_true rfl) (ls' := [(2, .int _), (3, .int _), (5, .int _), (4, .int _), (0, .ref _), (1, .int _)]) rfl ?_
              refine GG.iinc e_X1_bestLook_76 3 rfl (v := _) (by first | exact nI_s _ | exact nI_d _ | rfl) (Nat.le_of_ble_eq_true rfl) (ls' := [(4, .int _), (2, .int _), (3, .int _), (5, .int _), (0, .ref _), (1, .int _)]) rfl ?_
              refine GG.goto (tgt := 8) e_X1_bestLook_79 rfl ?_
              refine GG.perm [0, 2, 1, 4, 5] rfl ?_
              exact ih (q + 1) _ _ _ (by omega) (by omega) (Or.inr hs0) hy2 h7 hm
          · skip
            have e := nnle (a := 6) h26 (by omega) (by omega)
            refine GG.aload_n e_X1_bestLook_29 (i := 0) rfl 4 rfl ?_
            refine GG.getR (b := 59) e_X1_bestLook_30 fl_X1_9 (sf_X1_0 i_X1_58) ?_
            refine GG.iload e_X1_bestLook_33 0 rfl ?_
            refine GG.iload e_X1_bestLook_35 0 rfl ?_
            refine GG.iload e_X1_bestLook_37 1 rfl ?_
            refine GG.bipush (v := 10) e_X1_bestLook_39 rfl ?_
            refine GG.irem e_X1_bestLook_41 (by decide) ?_
            refine GG.top (mIrem_n (by omega)) ?_
            refine GG.iload e_X1_bestLook_42 1 rfl ?_
            refine GG.bipush (v := 10) e_X1_bestLook_44 rfl ?_
            refine GG.idiv e_X1_bestLook_46 (by decide) ?_
            refine GG.top (mDiv_n (d := 10) (by omega) (by omega) (by omega)) ?_
            refine GG.callS (d' := 0) (as := [.int _, .int _, .int _]) e_X1_bestLook_47 ml_X1_25 mf_X3_leanAs ms_X3_leanAs rfl (by decide) (Nat.le_of_ble_eq_true rfl) rfl ?_
            refine s_X3_leanAs ?_
            refine GG.iastoreE (k := _) e_X1_bestLook_50 (sa_X1_0 i_X1_58) (rfl) (by omega) (Nat.le_of_ble_eq_true rfl) ?_
            refine GG.iinc e_X1_bestLook_51 0 rfl (v := _) (by first | exact nI_s _ | exact nI_d _ | rfl) (Nat.le_of_ble_eq_true rfl) (ls' := [(5, .int _), (4, .int _), (3, .int _), (2, .int _), (0, .ref _), (1, .int _)]) rfl ?_
            refine GG.goto (tgt := 22) e_X1_bestLook_54 rfl ?_
            refine ihm (j + 1) _ (by omega) (by omega) e0 hs0 (hm.wr scr_59) (fun k hk' => ?_)
            rw [mrd_wr]
            by_cases hh : k = j
            · rw [if_pos ⟨rfl, hh⟩, hh]
            · rw [if_neg (fun z => hh z.2), hk k (by omega)]
      refine GG.iload_n e_X1_bestLook_8 (i := 1) rfl 4 rfl ?_
      refine GG.if_eq (tgt := 82) e_X1_bestLook_9 rfl (fun h9 => ?_) (fun h9 => ?_)
      · skip
        refine GG.iload_n e_X1_bestLook_82 (i := 2) rfl 2 rfl ?_
        refine GG.iret e_X1_bestLook_83 rfl rfl ?_
        refine qI (hQ _ hm) ?_
        first | (rw [if_pos h9]; rcases hs with hs | hs; subst hs; cases hl; rfl; exact absurd h9 hs) | rw [if_neg h9, hl]
      · skip
        refine GG.iload e_X1_bestLook_12 0 rfl ?_
        refine GG.bipush (v := 120) e_X1_bestLook_14 rfl ?_
        refine GG.icmp_ge (tgt := 82) e_X1_bestLook_16 rfl (fun h16 => ?_) (fun h16 => ?_)
        · skip
          have e := nle (a := 120) h16 (by omega) (by omega)
          have e2 : q = 120 := by omega
          subst e2
          refine GG.iload_n e_X1_bestLook_82 (i := 2) rfl 2 rfl ?_
          refine GG.iret e_X1_bestLook_83 rfl rfl ?_
          refine qI (hQ _ hm) ?_
          first | (rw [if_pos h9]; rcases hs with hs | hs; subst hs; cases hl; rfl; exact absurd h9 hs) | rw [if_neg h9, hl]
        · skip
          have e := nnle (a := 120) h16 (by omega) (by omega)
          refine GG.iconst (v := 0) e_X1_bestLook_19 rfl ?_
          refine GG.istore e_X1_bestLook_20 (Nat.le_of_ble_eq_true rfl) (ls' := [(5, .int _), (4, .int _), (3, .int _), (2, .int _), (0, .ref _), (1, .int _)]) rfl ?_
          exact inn 7 0 _ (by omega) (by omega) e h9 hm (fun k h => by omega)
  refine SPC.of (by decide +kernel) (Nat.le_of_ble_eq_true rfl) (ls := [(0, .ref (58)), (1, .int (s))]) rfl ?_
  refine GG.iconst (v := -1) e_X1_bestLook_0 rfl ?_
  refine GG.istore_n e_X1_bestLook_1 (i := 2) rfl (Nat.le_of_ble_eq_true rfl) (ls' := [(2, .int _), (0, .ref _), (1, .int _)]) rfl ?_
  refine GG.bipush (v := 7) e_X1_bestLook_2 rfl ?_
  refine GG.istore_n e_X1_bestLook_4 (i := 3) rfl (Nat.le_of_ble_eq_true rfl) (ls' := [(3, .int _), (2, .int _), (0, .ref _), (1, .int _)]) rfl ?_
  refine GG.iconst (v := 0) e_X1_bestLook_5 rfl ?_
  refine GG.istore e_X1_bestLook_6 (Nat.le_of_ble_eq_true rfl) (ls' := [(4, .int _), (3, .int _), (2, .int _), (0, .ref _), (1, .int _)]) rfl ?_
  exact out 121 0 _ 7 _ (by omega) (by omega) (Or.inl rfl) rfl (by omega) (gSm.rf _)
theorem s_X1_bestAsk {s : Int32} {g : Nat → Nat} (hg : ∀ q, q < 160 → g q = mAk (fun k => mDamp (nI k) (nI (q % 16)) (nI (q / 16))) s) (hQ : ∀ ν, gSm μ ν → Q (some (.int (if s = 0 then -1 else (mFew g (fun q => 100 * (q / 16) + q % 16) 7 160).1))) ν) : SPC 2 MX1_bestAsk [.ref 58, .int s] μ Q := by
  have out : ∀ n q x y ν, 160 - q < n → q ≤ 160 → (q = 0 ∨ ¬ s = 0) → mFew g (fun q => 100 * (q / 16) + q % 16) 7 q = (x, y) → y ≤ 7 → gSm μ ν → GG 2 MX1_bestAsk 8 [(4, .int (nI q)), (3, .int (nI y)), (2, .int x), (0, .ref 58), (1, .int s)] [] ν Q := by
    intro n
    induction n with
    | zero => intro q x y ν h; omega
    | succ n ih =>
      intro q x y ν hn hq hs hl hy hm
      have inn : ∀ m j ν, 6 - j < m → j ≤ 6 → q < 160 → ¬ s = 0 → gSm μ ν → (∀ k, k < j → mrd ν 59 k = mDamp (nI k) (nI (q % 16)) (nI (q / 16))) → GG 2 MX1_bestAsk 37 [(7, .int (nI j)), (6, .int (nI (q % 16))), (5, .int (nI (q / 16))), (4, .int (nI q)), (3, .int (nI y)), (2, .int x), (0, .ref 58), (1, .int s)] [] ν Q := by
        intro m
        induction m with
        | zero => intro j ν h; omega
        | succ m ihm =>
          intro j ν hm' hj e0 hs0 hm hk
          refine GG.iload e_X1_bestAsk_37 0 rfl ?_
          refine GG.bipush (v := 6) e_X1_bestAsk_39 rfl ?_
          refine GG.icmp_ge (tgt := 66) e_X1_bestAsk_41 rfl (fun h41 => ?_) (fun h41 => ?_)
          · skip
            have e := nle (a := 6) h41 (by omega) (by omega)
            have e2 : j = 6 := by omega
            subst e2
            refine GG.aload_n e_X1_bestAsk_66 (i := 0) rfl 6 rfl ?_
            refine GG.iload_n e_X1_bestAsk_67 (i := 1) rfl 7 rfl ?_
            refine GG.callV (d' := 1) (a := 58) (as := [.int _]) e_X1_bestAsk_68 ml_X1_34 mf_X1_mostAlike mv_X1_mostAlike (rc_X1 i_X1_58) rfl (by decide) (Nat.le_of_ble_eq_true rfl) rfl ?_
            refine s_X1_mostAlike ?_
            have ha : mAk (mrd ν 59) s = g q := by rw [hg q e0]; exact mAk_c hk
            have h6 : g q ≤ 6 := by rw [← ha]; exact mAk_6 _ _
            rw [ha]
            refine GG.istore e_X1_bestAsk_71 (Nat.le_of_ble_eq_true rfl) (ls' := [(7, .int _), (6, .int _), (5, .int _), (4, .int _), (3, .int _), (2, .int _), (0, .ref _), (1, .int _)]) rfl ?_
            refine GG.iload e_X1_bestAsk_73 0 rfl ?_
            refine GG.iload_n e_X1_bestAsk_75 (i := 3) rfl 4 rfl ?_
            refine GG.icmp_ge (tgt := 91) e_X1_bestAsk_76 rfl (fun h76 => ?_) (fun h76 => ?_)
            · skip
              have e5 := nle h76 (by omega) (by omega)
              have hy2 : mFew g (fun q => 100 * (q / 16) + q % 16) 7 (q + 1) = (x, y) := by rw [mFew, hl, if_neg (by show ¬ g q < y; omega)]
              have h7 : y ≤ 7 := hy
              refine GG.iinc e_X1_bestAsk_91 3 rfl (v := _) (by first | exact nI_s _ | exact nI_d _ | rfl) (Nat.le_of_ble_eq_true rfl) (ls' := [(4, .int _), (7, .int _), (6, .int _), (5, .int _), (3, .int _), (2, .int _), (0, .ref _), (1, .int _)]) rfl ?_
              refine GG.goto (tgt := 8) e_X1_bestAsk_94 rfl ?_
              refine GG.perm [0, 4, 5, 6, 7] rfl ?_
              exact ih (q + 1) _ _ _ (by omega) (by omega) (Or.inr hs0) hy2 h7 hm
            · skip
              have e5 := nnle h76 (by omega) (by omega)
              have hy2 : mFew g (fun q => 100 * (q / 16) + q % 16) 7 (q + 1) = (100 * nI (q / 16) + nI (q % 16), g q) := by rw [mFew, hl, if_pos (by show g q < y; omega), show (100 : Int32) = nI 100 from rfl, pk_mul, nI_add]
              have h7 : g q ≤ 7 := by omega
              refine GG.iload e_X1_bestAsk_79 0 rfl ?_
              refine GG.istore_n e_X1_bestAsk_81 (i := 3) rfl (Nat.le_of_ble_eq_true rfl) (ls' := [(3, .int _), (7, .int _), (6, .int _), (5, .int _), (4, .int _), (2, .int _), (0, .ref _), (1, .int _)]) rfl ?_
              refine GG.bipush (v := 100) e_X1_bestAsk_82 rfl ?_
              refine GG.iload e_X1_bestAsk_84 3 rfl ?_
              refine GG.imul e_X1_bestAsk_86 ?_
              refine GG.iload e_X1_bestAsk_87 2 rfl ?_
              refine GG.iadd e_X1_bestAsk_89 ?_
              refine GG.istore_n e_X1_bestAsk_90 (i := 2) rfl (Nat.le_of_ble_eq_true rfl) (ls' := [(2, .int _), (3, .int _), (7, .int _), (6, .int _), (5, .int _), (4, .int _), (0, .ref _), (1, .int _)]) rfl ?_
              refine GG.iinc e_X1_bestAsk_91 5 rfl (v := _) (by first | exact nI_s _ | exact nI_d _ | rfl) (Nat.le_of_ble_eq_true rfl) (ls' := [(4, .int _), (2, .int _), (3, .int _), (7, .int _), (6, .int _), (5, .int _), (0, .ref _), (1, .int _)]) rfl ?_
              refine GG.goto (tgt := 8) e_X1_bestAsk_94 rfl ?_
              refine GG.perm [0, 2, 1, 6, 7] rfl ?_
              exact ih (q + 1) _ _ _ (by omega) (by omega) (Or.inr hs0) hy2 h7 hm
          · skip
            have e := nnle (a := 6) h41 (by omega) (by omega)
            refine GG.aload_n e_X1_bestAsk_44 (i := 0) rfl 6 rfl ?_
            refine GG.getR (b := 59) e_X1_bestAsk_45 fl_X1_9 (sf_X1_0 i_X1_58) ?_
            refine GG.iload e_X1_bestAsk_48 0 rfl ?_
            refine GG.iload e_X1_bestAsk_50 0 rfl ?_
            refine GG.iload e_X1_bestAsk_52 1 rfl ?_
            refine GG.iload e_X1_bestAsk_54 2 rfl ?_
            refine GG.callS (d' := 0) (as := [.int _, .int _, .int _]) e_X1_bestAsk_56 ml_X1_31 mf_X3_dampAs ms_X3_dampAs rfl (by decide) (Nat.le_of_ble_eq_true rfl) rfl ?_
            refine s_X3_dampAs ?_
            refine GG.iastoreE (k := _) e_X1_bestAsk_59 (sa_X1_0 i_X1_58) (rfl) (by omega) (Nat.le_of_ble_eq_true rfl) ?_
            refine GG.iinc e_X1_bestAsk_60 0 rfl (v := _) (by first | exact nI_s _ | exact nI_d _ | rfl) (Nat.le_of_ble_eq_true rfl) (ls' := [(7, .int _), (6, .int _), (5, .int _), (4, .int _), (3, .int _), (2, .int _), (0, .ref _), (1, .int _)]) rfl ?_
            refine GG.goto (tgt := 37) e_X1_bestAsk_63 rfl ?_
            refine ihm (j + 1) _ (by omega) (by omega) e0 hs0 (hm.wr scr_59) (fun k hk' => ?_)
            rw [mrd_wr]
            by_cases hh : k = j
            · rw [if_pos ⟨rfl, hh⟩, hh]
            · rw [if_neg (fun z => hh z.2), hk k (by omega)]
      refine GG.iload_n e_X1_bestAsk_8 (i := 1) rfl 4 rfl ?_
      refine GG.if_eq (tgt := 97) e_X1_bestAsk_9 rfl (fun h9 => ?_) (fun h9 => ?_)
      · skip
        refine GG.iload_n e_X1_bestAsk_97 (i := 2) rfl 2 rfl ?_
        refine GG.iret e_X1_bestAsk_98 rfl rfl ?_
        refine qI (hQ _ hm) ?_
        first | (rw [if_pos h9]; rcases hs with hs | hs; subst hs; cases hl; rfl; exact absurd h9 hs) | rw [if_neg h9, hl]
      · skip
        refine GG.iload e_X1_bestAsk_12 0 rfl ?_
        refine GG.sipush (v := 160) e_X1_bestAsk_14 rfl ?_
        refine GG.icmp_ge (tgt := 97) e_X1_bestAsk_17 rfl (fun h17 => ?_) (fun h17 => ?_)
        · skip
          have e := nle (a := 160) h17 (by omega) (by omega)
          have e2 : q = 160 := by omega
          subst e2
          refine GG.iload_n e_X1_bestAsk_97 (i := 2) rfl 2 rfl ?_
          refine GG.iret e_X1_bestAsk_98 rfl rfl ?_
          refine qI (hQ _ hm) ?_
          first | (rw [if_pos h9]; rcases hs with hs | hs; subst hs; cases hl; rfl; exact absurd h9 hs) | rw [if_neg h9, hl]
        · skip
          have e := nnle (a := 160) h17 (by omega) (by omega)
          refine GG.iload e_X1_bestAsk_20 0 rfl ?_
          refine GG.bipush (v := 16) e_X1_bestAsk_22 rfl ?_
          refine GG.idiv e_X1_bestAsk_24 (by decide) ?_
          refine GG.top (mDiv_n (d := 16) (by omega) (by omega) (by omega)) ?_
          refine GG.istore e_X1_bestAsk_25 (Nat.le_of_ble_eq_true rfl) (ls' := [(5, .int _), (4, .int _), (3, .int _), (2, .int _), (0, .ref _), (1, .int _)]) rfl ?_
          refine GG.iload e_X1_bestAsk_27 1 rfl ?_
          refine GG.bipush (v := 16) e_X1_bestAsk_29 rfl ?_
          refine GG.irem e_X1_bestAsk_31 (by decide) ?_
          refine GG.top (show nI q - nI q / 16 * 16 = nI (q % 16) from pk_rem (d := 16) (by omega) (by omega) (by omega)) ?_
          refine GG.istore e_X1_bestAsk_32 (Nat.le_of_ble_eq_true rfl) (ls' := [(6, .int _), (5, .int _), (4, .int _), (3, .int _), (2, .int _), (0, .ref _), (1, .int _)]) rfl ?_
          refine GG.iconst (v := 0) e_X1_bestAsk_34 rfl ?_
          refine GG.istore e_X1_bestAsk_35 (Nat.le_of_ble_eq_true rfl) (ls' := [(7, .int _), (6, .int _), (5, .int _), (4, .int _), (3, .int _), (2, .int _), (0, .ref _), (1, .int _)]) rfl ?_
          exact inn 7 0 _ (by omega) (by omega) e h9 hm (fun k h => by omega)
  refine SPC.of (by decide +kernel) (Nat.le_of_ble_eq_true rfl) (ls := [(0, .ref (58)), (1, .int (s))]) rfl ?_
  refine GG.iconst (v := -1) e_X1_bestAsk_0 rfl ?_
  refine GG.istore_n e_X1_bestAsk_1 (i := 2) rfl (Nat.le_of_ble_eq_true rfl) (ls' := [(2, .int _), (0, .ref _), (1, .int _)]) rfl ?_
  refine GG.bipush (v := 7) e_X1_bestAsk_2 rfl ?_
  refine GG.istore_n e_X1_bestAsk_4 (i := 3) rfl (Nat.le_of_ble_eq_true rfl) (ls' := [(3, .int _), (2, .int _), (0, .ref _), (1, .int _)]) rfl ?_
  refine GG.iconst (v := 0) e_X1_bestAsk_5 rfl ?_
  refine GG.istore e_X1_bestAsk_6 (Nat.le_of_ble_eq_true rfl) (ls' := [(4, .int _), (3, .int _), (2, .int _), (0, .ref _), (1, .int _)]) rfl ?_
  exact out 161 0 _ 7 _ (by omega) (by omega) (Or.inl rfl) rfl (by omega) (gSm.rf _)
end S23
