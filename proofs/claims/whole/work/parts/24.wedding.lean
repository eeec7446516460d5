/-! WEDDING -/
def mFj (g : Nat → Bool) (h : Nat → Int32) (m0 : Int32) : Nat → Int32
  | 0 => m0
  | j + 1 => if g j = true then mMax (mFj g h m0 j) (1 + h j) else mFj g h m0 j
/-- the most pairs among the last n of seven, from i on -/
def mMp (su : Nat → Int32) : Nat → Nat → Int32 → Int32
  | 0, _, _ => 0
  | n + 1, i, t => mFj (fun j => mHas (su i &&& (t ^^^ (-1))) (nI j)) (fun j => mMp su n (i + 1) (t ||| ((1 : Int32) <<< (nI j &&& 31)))) (mMp su n (i + 1) t) 7
def mFst (f : Nat → Bool) : Nat → Int32
  | 0 => -1
  | n + 1 => if mFst f n = -1 then (if f n = true then nI n else -1) else mFst f n
theorem nI_m1 {k : Nat} (h : k < 2 ^ 31) : ¬ nI k = -1 := by
  intro q
  have e1 := congrArg Int32.toInt q
  rw [nI_toInt h] at e1
  have e2 : (-1 : Int32).toInt = -1 := by decide
  omega
theorem mFst_st {f : Nat → Bool} {j n : Nat} (h1 : mFst f j = -1) (h2 : f j = true) (hj : j < n) (hn : n < 2 ^ 31) : mFst f n = nI j := by
  induction n with
  | zero => omega
  | succ n ih =>
    by_cases e : j = n
    · subst e
      rw [mFst, if_pos h1, if_pos h2]
    · rw [mFst, ih (by omega) (by omega), if_neg (nI_m1 (by omega))]
theorem mFst_c {f g : Nat → Bool} {n : Nat} (h : ∀ k, k < n → f k = g k) : mFst f n = mFst g n := by
  induction n with
  | zero => rfl
  | succ n ih => rw [mFst, mFst, ih (fun k hk => h k (by omega)), h n (by omega)]
def mCh (su : Nat → Int32) (i : Nat) (t m : Int32) : Int32 := if mMp su (6 - i) (i + 1) t = m then -1 else mFst (fun j => mHas (su i &&& (t ^^^ (-1))) (nI j) && decide (1 + mMp su (6 - i) (i + 1) (t ||| ((1 : Int32) <<< (nI j &&& 31))) = m)) 7
def mAr (su : Nat → Int32) (mp : Int32) : Nat → (Nat → Int32) × Int32 × Int32
  | 0 => (fun _ => -1, 0, 0)
  | i + 1 => match mAr su mp i with
    | (p, t, m) => if mCh su i t (mp - m) < 0 ∨ 6 < mCh su i t (mp - m) then (p, t, m) else (upd (upd p i (mCh su i t (mp - m))) (mCh su i t (mp - m)).toNatClampNeg (nI i), t ||| ((1 : Int32) <<< (mCh su i t (mp - m) &&& 31)), m + 1)
def mAbs (x : Int32) : Int32 := if 0 ≤ x then x else 0 - x
def mAlk (μ : gM) (b i j : Nat) : Bool := mAll (fun c => decide (mAbs (mLean (mrd μ (b + 1) i) (mrd μ (b + 3) i) (nI c) - mLean (mrd μ (b + 1) j) (mrd μ (b + 3) j) (nI c)) ≤ 2)) 4
def mSu (μ : gM) (b P i : Nat) : Int32 := if i < P ∧ mrd μ (b + 2) i = 0 then mBits (fun j => decide (mrd μ (b + 2) j = 1) && mAlk μ b i j) P else 0
theorem mFj_c {g g' : Nat → Bool} {h h' : Nat → Int32} {m m' : Int32} (e1 : m = m') {n : Nat} (e2 : ∀ j, j < n → g j = g' j ∧ h j = h' j) : mFj g h m n = mFj g' h' m' n := by
  induction n with
  | zero => exact e1
  | succ n ih => rw [mFj, mFj, ih (fun j hj => e2 j (by omega)), (e2 n (by omega)).1, (e2 n (by omega)).2]
theorem mMp_c {su sv : Nat → Int32} (h : ∀ i, i < 7 → su i = sv i) : ∀ n i t, i + n ≤ 7 → mMp su n i t = mMp sv n i t := by
  intro n
  induction n with
  | zero => intro i t _; rfl
  | succ n ih => intro i t hi; rw [mMp, mMp, h i (by omega)]; exact mFj_c (ih _ _ (by omega)) (fun j _ => ⟨rfl, ih _ _ (by omega)⟩)
theorem mCh_c {su sv : Nat → Int32} (h : ∀ i, i < 7 → su i = sv i) {i : Nat} (hi : i < 7) (t m : Int32) : mCh su i t m = mCh sv i t m := by
  have e : ∀ x : Int32, mMp su (6 - i) (i + 1) x = mMp sv (6 - i) (i + 1) x := fun x => mMp_c h _ _ _ (by omega)
  have e2 : mFst (fun j => mHas (su i &&& (t ^^^ (-1))) (nI j) && decide (1 + mMp su (6 - i) (i + 1) (t ||| ((1 : Int32) <<< (nI j &&& 31))) = m)) 7 = mFst (fun j => mHas (sv i &&& (t ^^^ (-1))) (nI j) && decide (1 + mMp sv (6 - i) (i + 1) (t ||| ((1 : Int32) <<< (nI j &&& 31))) = m)) 7 := mFst_c (fun k _ => by rw [e, h i hi])
  rw [mCh, mCh, e t, e2]
section S24
variable {μ ν : gM} {Q : Option Value → gM → Prop} {b P A i j k : Nat} {t m : Int32} {su : Nat → Int32}
theorem s_X9_leanAlike (hI_X4_b : gI_X4 b) (hL : LC μ b P A) (hi : i < P) (hj : j < P) (hQ : Q (some (.int (bI (mAlk μ b i j)))) μ) : SPC 2 MX9_leanAlike [.ref b, .int (nI i), .int (nI j)] μ Q := by
  have hP := hL.2.1
  unfold mAlk at hQ
  generalize hf : (fun (c : Nat) => decide (mAbs (mLean (mrd μ (b + 1) i) (mrd μ (b + 3) i) (nI c) - mLean (mrd μ (b + 1) j) (mrd μ (b + 3) j) (nI c)) ≤ 2)) = f at hQ
  have hfc : ∀ c : Nat, f c = decide (mAbs (mLean (mrd μ (b + 1) i) (mrd μ (b + 3) i) (nI c) - mLean (mrd μ (b + 1) j) (mrd μ (b + 3) j) (nI c)) ≤ 2) := fun c => by rw [← hf]
  have lp : ∀ n c, 4 - c < n → c ≤ 4 → (∀ q, q < c → f q = true) → GG 2 MX9_leanAlike 2 [(3, .int (nI c)), (0, .ref b), (1, .int (nI i)), (2, .int (nI j))] [] μ Q := by
    intro n
    induction n with
    | zero => intro c h; omega
    | succ n ih =>
      intro c hn hc hl
      refine GG.aload_n e_X9_leanAlike_2 (i := 0) rfl 1 rfl ?_
      refine GG.ifnull e_X9_leanAlike_3 ?_
      refine GG.iload_n e_X9_leanAlike_6 (i := 3) rfl 0 rfl ?_
      refine GG.iconst (v := 4) e_X9_leanAlike_7 rfl ?_
      refine GG.icmp_ge (tgt := 39) e_X9_leanAlike_8 rfl (fun h8 => ?_) (fun h8 => ?_)
      · skip
        have e := nle (a := 4) h8 (by omega) (by omega)
        have e2 : c = 4 := by omega
        subst e2
        refine GG.iconst (v := 1) e_X9_leanAlike_39 rfl ?_
        refine GG.zret e_X9_leanAlike_40 rfl rfl rfl ?_
        exact qI hQ (by rw [mAll_iff.mpr hl]; rfl)
      · skip
        have e := nnle (a := 4) h8 (by omega) (by omega)
        refine GG.aload_n e_X9_leanAlike_11 (i := 0) rfl 1 rfl ?_
        refine GG.iload_n e_X9_leanAlike_12 (i := 1) rfl 2 rfl ?_
        refine GG.iload_n e_X9_leanAlike_13 (i := 3) rfl 0 rfl ?_
        refine GG.callV (d' := 1) (a := b) (as := [.int _, .int _]) e_X9_leanAlike_14 ml_X9_51 mf_X4_leanOf mv_X4_leanOf (rc_X4 hI_X4_b) rfl (by decide) (Nat.le_of_ble_eq_true rfl) rfl ?_
        refine s_X4_leanOf hI_X4_b hL hi ?_
        refine GG.aload_n e_X9_leanAlike_17 (i := 0) rfl 1 rfl ?_
        refine GG.iload_n e_X9_leanAlike_18 (i := 2) rfl 3 rfl ?_
        refine GG.iload_n e_X9_leanAlike_19 (i := 3) rfl 0 rfl ?_
        refine GG.callV (d' := 1) (a := b) (as := [.int _, .int _]) e_X9_leanAlike_20 ml_X9_51 mf_X4_leanOf mv_X4_leanOf (rc_X4 hI_X4_b) rfl (by decide) (Nat.le_of_ble_eq_true rfl) rfl ?_
        refine s_X4_leanOf hI_X4_b hL hj ?_
        refine GG.isub e_X9_leanAlike_23 ?_
        refine GG.abs e_X9_leanAlike_24 ml_X9_55 (by decide) (Nat.le_of_ble_eq_true rfl) ?_
        refine GG.iconst (v := 2) e_X9_leanAlike_27 rfl ?_
        refine GG.icmp_le (tgt := 33) e_X9_leanAlike_28 rfl (fun h28 => ?_) (fun h28 => ?_)
        · skip
          have hy : f c = true := by rw [hfc]; exact decide_eq_true h28
          refine GG.iinc e_X9_leanAlike_33 0 rfl (v := _) (by first | exact nI_s _ | exact nI_d _ | rfl) (Nat.le_of_ble_eq_true rfl) (ls' := [(3, .int _), (0, .ref _), (1, .int _), (2, .int _)]) rfl ?_
          refine GG.goto (tgt := 2) e_X9_leanAlike_36 rfl ?_
          refine ih (c + 1) (by omega) (by omega) (fun q hq => ?_)
          by_cases hh : q = c
          · rw [hh, hy]
          · exact hl q (by omega)
        · skip
          have hy : f c = false := by rw [hfc]; exact decide_eq_false h28
          refine GG.iconst (v := 0) e_X9_leanAlike_31 rfl ?_
          refine GG.zret e_X9_leanAlike_32 rfl rfl rfl ?_
          exact qI hQ (by rw [mAll_f e hy]; rfl)
  refine SPC.of (by decide +kernel) (Nat.le_of_ble_eq_true rfl) (ls := [(0, .ref (b)), (1, .int (nI i)), (2, .int (nI j))]) rfl ?_
  refine GG.iconst (v := 0) e_X9_leanAlike_0 rfl ?_
  refine GG.istore_n e_X9_leanAlike_1 (i := 3) rfl (Nat.le_of_ble_eq_true rfl) (ls' := [(3, .int _), (0, .ref _), (1, .int _), (2, .int _)]) rfl ?_
  exact lp 5 0 (by omega) (by omega) (fun q h => by omega)
theorem s_X9_suitorsOf (hI_X4_b : gI_X4 b) (hL : LC μ b P A) (hi : i < 7) (hQ : Q (some (.int (mSu μ b P i))) μ) : SPC 3 MX9_suitorsOf [.ref b, .int (nI i)] μ Q := by
  obtain ⟨h1p, h2p, h3p, h4p⟩ := id hL
  have lp : i < P → mrd μ (b + 2) i = 0 → ∀ n j x, P - j < n → j ≤ P → x = mBits (fun j => decide (mrd μ (b + 2) j = 1) && mAlk μ b i j) j → GG 3 MX9_suitorsOf 16 [(3, .int (nI j)), (2, .int x), (0, .ref b), (1, .int (nI i))] [] μ Q := by
    intro hiP h0 n
    induction n with
    | zero => intro j x h; omega
    | succ n ih =>
      intro j x hn hj hl
      refine GG.iload_n e_X9_suitorsOf_16 (i := 3) rfl 0 rfl ?_
      refine GG.aload_n e_X9_suitorsOf_17 (i := 0) rfl 2 rfl ?_
      refine GG.getIv (v := nI P) e_X9_suitorsOf_18 fl_X9_44 (sf_X4_1 hI_X4_b) (h1p) ?_
      refine GG.icmp_ge (tgt := 54) e_X9_suitorsOf_21 rfl (fun h21 => ?_) (fun h21 => ?_)
      · skip
        have e := nle h21 (by omega) (by omega)
        have e2 : j = P := by omega
        subst e2
        refine GG.iload_n e_X9_suitorsOf_54 (i := 2) rfl 1 rfl ?_
        refine GG.iret e_X9_suitorsOf_55 rfl rfl ?_
        refine qI hQ ?_
        rw [mSu, if_pos ⟨hiP, h0⟩, hl]
      · skip
        have e := nnle h21 (by omega) (by omega)
        refine GG.aload_n e_X9_suitorsOf_24 (i := 0) rfl 2 rfl ?_
        refine GG.iload_n e_X9_suitorsOf_25 (i := 3) rfl 0 rfl ?_
        refine GG.callV (d' := 1) (a := b) (as := [.int _]) e_X9_suitorsOf_26 ml_X9_38 mf_X4_houseOf mv_X4_houseOf (rc_X4 hI_X4_b) rfl (by decide) (Nat.le_of_ble_eq_true rfl) rfl ?_
        refine s_X4_houseOfk hI_X4_b hL e ?_
        refine GG.iconst (v := 1) e_X9_suitorsOf_29 rfl ?_
        refine GG.icmp_ne (tgt := 48) e_X9_suitorsOf_30 rfl (fun h30 => ?_) (fun h30 => ?_)
        · skip
          have hy : x = mBits (fun j => decide (mrd μ (b + 2) j = 1) && mAlk μ b i j) (j + 1) := by rw [mBits, if_neg (by rw [decide_eq_false h30, Bool.false_and]; decide), hl]
          refine GG.iinc e_X9_suitorsOf_48 0 rfl (v := _) (by first | exact nI_s _ | exact nI_d _ | rfl) (Nat.le_of_ble_eq_true rfl) (ls' := [(3, .int _), (2, .int _), (0, .ref _), (1, .int _)]) rfl ?_
          refine GG.goto (tgt := 16) e_X9_suitorsOf_51 rfl ?_
          exact ih (j + 1) _ (by omega) (by omega) hy
        · skip
          refine GG.aload_n e_X9_suitorsOf_33 (i := 0) rfl 2 rfl ?_
          refine GG.iload_n e_X9_suitorsOf_34 (i := 1) rfl 3 rfl ?_
          refine GG.iload_n e_X9_suitorsOf_35 (i := 3) rfl 0 rfl ?_
          refine GG.callS (d' := 2) (as := [.ref b, .int _, .int _]) e_X9_suitorsOf_36 ml_X9_47 mf_X9_leanAlike ms_X9_leanAlike rfl (by decide) (Nat.le_of_ble_eq_true rfl) rfl ?_
          refine s_X9_leanAlike hI_X4_b hL hiP e ?_
          refine GG.if_eq (tgt := 48) e_X9_suitorsOf_39 rfl (fun h39 => ?_) (fun h39 => ?_)
          · skip
            rw [bI_0] at h39
            have hy : x = mBits (fun j => decide (mrd μ (b + 2) j = 1) && mAlk μ b i j) (j + 1) := by rw [mBits, if_neg (by rw [h39, Bool.and_false]; decide), hl]
            refine GG.iinc e_X9_suitorsOf_48 0 rfl (v := _) (by first | exact nI_s _ | exact nI_d _ | rfl) (Nat.le_of_ble_eq_true rfl) (ls' := [(3, .int _), (2, .int _), (0, .ref _), (1, .int _)]) rfl ?_
            refine GG.goto (tgt := 16) e_X9_suitorsOf_51 rfl ?_
            exact ih (j + 1) _ (by omega) (by omega) hy
          · skip
            rw [bI_0, Bool.not_eq_false] at h39
            have hy : x ||| ((1 : Int32) <<< (nI j &&& 31)) = mBits (fun j => decide (mrd μ (b + 2) j = 1) && mAlk μ b i j) (j + 1) := by rw [mBits, if_pos (by rw [h39, decide_eq_true h30]; rfl), hl]
            refine GG.iload_n e_X9_suitorsOf_42 (i := 2) rfl 1 rfl ?_
            refine GG.iconst (v := 1) e_X9_suitorsOf_43 rfl ?_
            refine GG.iload_n e_X9_suitorsOf_44 (i := 3) rfl 0 rfl ?_
            refine GG.ishl e_X9_suitorsOf_45 ?_
            refine GG.ior e_X9_suitorsOf_46 ?_
            refine GG.istore_n e_X9_suitorsOf_47 (i := 2) rfl (Nat.le_of_ble_eq_true rfl) (ls' := [(2, .int _), (3, .int _), (0, .ref _), (1, .int _)]) rfl ?_
            refine GG.iinc e_X9_suitorsOf_48 1 rfl (v := _) (by first | exact nI_s _ | exact nI_d _ | rfl) (Nat.le_of_ble_eq_true rfl) (ls' := [(3, .int _), (2, .int _), (0, .ref _), (1, .int _)]) rfl ?_
            refine GG.goto (tgt := 16) e_X9_suitorsOf_51 rfl ?_
            exact ih (j + 1) _ (by omega) (by omega) hy
  refine SPC.of (by decide +kernel) (Nat.le_of_ble_eq_true rfl) (ls := [(0, .ref (b)), (1, .int (nI i))]) rfl ?_
  refine GG.iconst (v := 0) e_X9_suitorsOf_0 rfl ?_
  refine GG.istore_n e_X9_suitorsOf_1 (i := 2) rfl (Nat.le_of_ble_eq_true rfl) (ls' := [(2, .int _), (0, .ref _), (1, .int _)]) rfl ?_
  refine GG.aload_n e_X9_suitorsOf_2 (i := 0) rfl 1 rfl ?_
  refine GG.ifnull e_X9_suitorsOf_3 ?_
  refine GG.aload_n e_X9_suitorsOf_6 (i := 0) rfl 1 rfl ?_
  refine GG.iload_n e_X9_suitorsOf_7 (i := 1) rfl 2 rfl ?_
  refine GG.callV (d' := 1) (a := b) (as := [.int _]) e_X9_suitorsOf_8 ml_X9_38 mf_X4_houseOf mv_X4_houseOf (rc_X4 hI_X4_b) rfl (by decide) (Nat.le_of_ble_eq_true rfl) rfl ?_
  refine s_X4_houseOf hI_X4_b hL (fun h => ?_) (fun k hk hik => ?_)
  · rw [mIn_n (by omega)] at h
    have hn : ¬ i < P := of_decide_eq_false h
    refine GG.if_ne (tgt := 54) e_X9_suitorsOf_11 rfl (fun _ => ?_) (fun z => absurd z (by decide))
    refine GG.iload_n e_X9_suitorsOf_54 (i := 2) rfl 0 rfl ?_
    refine GG.iret e_X9_suitorsOf_55 rfl rfl ?_
    exact qI hQ (by rw [mSu, if_neg (fun q => hn q.1)])
  · have e3 : i = k := (nI_eq (by omega) (by omega)).mp hik
    subst e3
    refine GG.if_ne (tgt := 54) e_X9_suitorsOf_11 rfl (fun h11 => ?_) (fun h11 => ?_)
    · refine GG.iload_n e_X9_suitorsOf_54 (i := 2) rfl 0 rfl ?_
      refine GG.iret e_X9_suitorsOf_55 rfl rfl ?_
      exact qI hQ (by rw [mSu, if_neg (fun q => h11 q.2)])
    · refine GG.iconst (v := 0) e_X9_suitorsOf_14 rfl ?_
      refine GG.istore_n e_X9_suitorsOf_15 (i := 3) rfl (Nat.le_of_ble_eq_true rfl) (ls' := [(3, .int _), (2, .int _), (0, .ref _), (1, .int _)]) rfl ?_
      exact lp hk h11 (P + 1) 0 _ (by omega) (by omega) rfl
theorem s_X9_mostPairs (hsu : ∀ i, i < 7 → mrd μ 61 i = su i) : ∀ n i t (Q : Option Value → gM → Prop), i + n = 7 → Q (some (.int (mMp su n i t))) μ → SPC n MX9_mostPairs [.ref 61, .int (nI i), .int t] μ Q := by
  have hA61 : gAr 61 = some (0, 7) := sa_X9_1 i_X9_60
  intro n
  induction n with
  | zero =>
    intro i t Q hi hQ
    have e7 : i = 7 := by omega
    subst e7
    refine SPC.of (by decide +kernel) (Nat.le_of_ble_eq_true rfl) (ls := [(0, .ref (61)), (1, .int (nI 7)), (2, .int (t))]) rfl ?_
    refine GG.aload_n e_X9_mostPairs_0 (i := 0) rfl 0 rfl ?_
    refine GG.ifnull e_X9_mostPairs_1 ?_
    refine GG.iload_n e_X9_mostPairs_4 (i := 1) rfl 1 rfl ?_
    refine GG.if_lt (tgt := 20) e_X9_mostPairs_5 rfl (fun h5 => absurd h5 (by decide)) (fun h5 => ?_)
    refine GG.iload_n e_X9_mostPairs_8 (i := 1) rfl 1 rfl ?_
    refine GG.aload_n e_X9_mostPairs_9 (i := 0) rfl 0 rfl ?_
    refine GG.alen e_X9_mostPairs_10 hA61 rfl ?_
    refine GG.icmp_ge (tgt := 20) e_X9_mostPairs_11 rfl (fun h11 => ?_) (fun h11 => absurd h11 (by decide))
    refine GG.iconst (v := 0) e_X9_mostPairs_20 rfl ?_
    refine GG.iret e_X9_mostPairs_21 rfl rfl ?_
    exact hQ
  | succ n ih =>
    intro i t Q hi hQ
    generalize hg : (fun j => mHas (su i &&& (t ^^^ (-1))) (nI j)) = g
    generalize hh : (fun j => mMp su n (i + 1) (t ||| ((1 : Int32) <<< (nI j &&& 31)))) = h
    have hR : mMp su (n + 1) i t = mFj g h (mMp su n (i + 1) t) 7 := by rw [mMp, hg, hh]
    have lp : ∀ m j x, 7 - j < m → j ≤ 7 → x = mFj g h (mMp su n (i + 1) t) j → GG (n + 1) MX9_mostPairs 34 [(4, .int (nI j)), (3, .int x), (0, .ref 61), (1, .int (nI i)), (2, .int t)] [] μ Q := by
      intro m
      induction m with
      | zero => intro j x h; omega
      | succ m ihm =>
        intro j x hm hj hl
        refine GG.iload e_X9_mostPairs_34 0 rfl ?_
        refine GG.bipush (v := 7) e_X9_mostPairs_36 rfl ?_
        refine GG.icmp_ge (tgt := 82) e_X9_mostPairs_38 rfl (fun h38 => ?_) (fun h38 => ?_)
        · skip
          have e := nle (a := 7) h38 (by omega) (by omega)
          have e2 : j = 7 := by omega
          subst e2
          refine GG.iload_n e_X9_mostPairs_82 (i := 3) rfl 1 rfl ?_
          refine GG.iret e_X9_mostPairs_83 rfl rfl ?_
          exact qI hQ (by rw [hR, hl])
        · skip
          have e := nnle (a := 7) h38 (by omega) (by omega)
          refine GG.aload_n e_X9_mostPairs_41 (i := 0) rfl 2 rfl ?_
          refine GG.iload_n e_X9_mostPairs_42 (i := 1) rfl 3 rfl ?_
          refine GG.ialoadV (k := _) (v := su i) e_X9_mostPairs_43 hA61 (rfl) (by omega) (Nat.le_of_ble_eq_true rfl) (hsu i (by omega)) ?_
          refine GG.iload_n e_X9_mostPairs_44 (i := 2) rfl 4 rfl ?_
          refine GG.iconst (v := -1) e_X9_mostPairs_45 rfl ?_
          refine GG.ixor e_X9_mostPairs_46 ?_
          refine GG.iand e_X9_mostPairs_47 ?_
          refine GG.iload e_X9_mostPairs_48 0 rfl ?_
          refine GG.callN (d' := 0) (as := [.int _, .int _]) e_X9_mostPairs_50 ml_X9_60 mf_X10_hasBit ms_X10_hasBit rfl (Nat.succ_pos n) (Nat.le_of_ble_eq_true rfl) rfl ?_
          refine s_X10_hasBit ?_
          refine GG.if_eq (tgt := 76) e_X9_mostPairs_53 rfl (fun h53 => ?_) (fun h53 => ?_)
          · skip
            rw [bI_0] at h53
            have hy : x = mFj g h (mMp su n (i + 1) t) (j + 1) := by rw [mFj, ← hg]; simp only []; rw [if_neg (by rw [h53]; decide), hg, hl]
            refine GG.iinc e_X9_mostPairs_76 0 rfl (v := _) (by first | exact nI_s _ | exact nI_d _ | rfl) (Nat.le_of_ble_eq_true rfl) (ls' := [(4, .int _), (3, .int _), (0, .ref _), (1, .int _), (2, .int _)]) rfl ?_
            refine GG.goto (tgt := 34) e_X9_mostPairs_79 rfl ?_
            exact ihm (j + 1) _ (by omega) (by omega) hy
          · skip
            rw [bI_0, Bool.not_eq_false] at h53
            have hy : mMax x (1 + mMp su n (i + 1) (t ||| ((1 : Int32) <<< (nI j &&& 31)))) = mFj g h (mMp su n (i + 1) t) (j + 1) := by rw [mFj, ← hg]; simp only []; rw [if_pos h53, hg, ← hl, ← hh]
            refine GG.iload_n e_X9_mostPairs_56 (i := 3) rfl 1 rfl ?_
            refine GG.iconst (v := 1) e_X9_mostPairs_57 rfl ?_
            refine GG.aload_n e_X9_mostPairs_58 (i := 0) rfl 2 rfl ?_
            refine GG.iload_n e_X9_mostPairs_59 (i := 1) rfl 3 rfl ?_
            refine GG.iconst (v := 1) e_X9_mostPairs_60 rfl ?_
            refine GG.iadd e_X9_mostPairs_61 ?_
            refine GG.top (nI_1 i) ?_
            refine GG.iload_n e_X9_mostPairs_62 (i := 2) rfl 4 rfl ?_
            refine GG.iconst (v := 1) e_X9_mostPairs_63 rfl ?_
            refine GG.iload e_X9_mostPairs_64 0 rfl ?_
            refine GG.ishl e_X9_mostPairs_66 ?_
            refine GG.ior e_X9_mostPairs_67 ?_
            refine GG.callS (d' := n) (as := [.ref 61, .int _, .int _]) e_X9_mostPairs_68 ml_X9_26 mf_X9_mostPairs ms_X9_mostPairs rfl (Nat.lt_succ_self n) (Nat.le_of_ble_eq_true rfl) rfl ?_
            refine ih (i + 1) _ _ (by omega) ?_
            refine GG.iadd e_X9_mostPairs_71 ?_
            refine GG.max e_X9_mostPairs_72 ml_X9_64 (Nat.succ_pos n) (Nat.le_of_ble_eq_true rfl) ?_
            refine GG.istore_n e_X9_mostPairs_75 (i := 3) rfl (Nat.le_of_ble_eq_true rfl) (ls' := [(3, .int _), (4, .int _), (0, .ref _), (1, .int _), (2, .int _)]) rfl ?_
            refine GG.iinc e_X9_mostPairs_76 1 rfl (v := _) (by first | exact nI_s _ | exact nI_d _ | rfl) (Nat.le_of_ble_eq_true rfl) (ls' := [(4, .int _), (3, .int _), (0, .ref _), (1, .int _), (2, .int _)]) rfl ?_
            refine GG.goto (tgt := 34) e_X9_mostPairs_79 rfl ?_
            exact ihm (j + 1) _ (by omega) (by omega) hy
    refine SPC.of (by decide +kernel) (Nat.le_of_ble_eq_true rfl) (ls := [(0, .ref (61)), (1, .int (nI i)), (2, .int (t))]) rfl ?_
    refine GG.aload_n e_X9_mostPairs_0 (i := 0) rfl 0 rfl ?_
    refine GG.ifnull e_X9_mostPairs_1 ?_
    refine GG.iload_n e_X9_mostPairs_4 (i := 1) rfl 1 rfl ?_
    refine GG.if_lt (tgt := 20) e_X9_mostPairs_5 rfl (fun h5 => absurd h5 (by exact nI_pos (by omega))) (fun h5 => ?_)
    refine GG.iload_n e_X9_mostPairs_8 (i := 1) rfl 1 rfl ?_
    refine GG.aload_n e_X9_mostPairs_9 (i := 0) rfl 0 rfl ?_
    refine GG.alen e_X9_mostPairs_10 hA61 rfl ?_
    refine GG.icmp_ge (tgt := 20) e_X9_mostPairs_11 rfl (fun h11 => absurd h11 (by exact fun z => absurd (nle (a := 7) z (by omega) (by omega)) (by omega))) (fun h11 => ?_)
    refine GG.iload_n e_X9_mostPairs_14 (i := 1) rfl 1 rfl ?_
    refine GG.bipush (v := 7) e_X9_mostPairs_15 rfl ?_
    refine GG.icmp_lt (tgt := 22) e_X9_mostPairs_17 rfl (fun h17 => ?_) (fun h17 => absurd h17 (by exact fun z => z (nI_lt (b := 7) (by omega) (by omega))))
    refine GG.aload_n e_X9_mostPairs_22 (i := 0) rfl 0 rfl ?_
    refine GG.iload_n e_X9_mostPairs_23 (i := 1) rfl 1 rfl ?_
    refine GG.iconst (v := 1) e_X9_mostPairs_24 rfl ?_
    refine GG.iadd e_X9_mostPairs_25 ?_
    refine GG.top (nI_1 i) ?_
    refine GG.iload_n e_X9_mostPairs_26 (i := 2) rfl 2 rfl ?_
    refine GG.callS (d' := n) (as := [.ref 61, .int _, .int _]) e_X9_mostPairs_27 ml_X9_26 mf_X9_mostPairs ms_X9_mostPairs rfl (Nat.lt_succ_self n) (Nat.le_of_ble_eq_true rfl) rfl ?_
    refine ih (i + 1) _ _ (by omega) ?_
    refine GG.istore_n e_X9_mostPairs_30 (i := 3) rfl (Nat.le_of_ble_eq_true rfl) (ls' := [(3, .int _), (0, .ref _), (1, .int _), (2, .int _)]) rfl ?_
    refine GG.iconst (v := 0) e_X9_mostPairs_31 rfl ?_
    refine GG.istore e_X9_mostPairs_32 (Nat.le_of_ble_eq_true rfl) (ls' := [(4, .int _), (3, .int _), (0, .ref _), (1, .int _), (2, .int _)]) rfl ?_
    exact lp 8 0 _ (by omega) (by omega) rfl
theorem s_X9_firstChoice (hsu : ∀ i, i < 7 → mrd μ 61 i = su i) (hi : i < 7) (hQ : Q (some (.int (mCh su i t m))) μ) : SPC 10 MX9_firstChoice [.ref 60, .int (nI i), .int t, .int m] μ Q := by
  have e0 : ¬ (nI i < 0 ∨ 6 < nI i) := by
    intro z
    rcases z with z | z
    · exact nI_pos (by omega) z
    · have := nlt (a := 6) z (by omega) (by omega)
      omega
  generalize hf : (fun j => mHas (su i &&& (t ^^^ (-1))) (nI j) && decide (1 + mMp su (6 - i) (i + 1) (t ||| ((1 : Int32) <<< (nI j &&& 31))) = m)) = f
  have hR : mCh su i t m = if mMp su (6 - i) (i + 1) t = m then -1 else mFst f 7 := by rw [mCh, hf]
  have lp : ¬ mMp su (6 - i) (i + 1) t = m → ∀ n j, 7 - j < n → j ≤ 7 → mFst f j = -1 → GG 10 MX9_firstChoice 30 [(4, .int (nI j)), (0, .ref 60), (1, .int (nI i)), (2, .int t), (3, .int m)] [] μ Q := by
    intro hne n
    induction n with
    | zero => intro j h; omega
    | succ n ih =>
      intro j hn hj hl
      refine GG.iload e_X9_firstChoice_30 0 rfl ?_
      refine GG.bipush (v := 7) e_X9_firstChoice_32 rfl ?_
      refine GG.icmp_ge (tgt := 86) e_X9_firstChoice_34 rfl (fun h34 => ?_) (fun h34 => ?_)
      · skip
        have e := nle (a := 7) h34 (by omega) (by omega)
        have e2 : j = 7 := by omega
        subst e2
        refine GG.iconst (v := -1) e_X9_firstChoice_86 rfl ?_
        refine GG.iret e_X9_firstChoice_87 rfl rfl ?_
        exact qI hQ (by rw [hR, if_neg hne, hl])
      · skip
        have e := nnle (a := 7) h34 (by omega) (by omega)
        refine GG.aload_n e_X9_firstChoice_37 (i := 0) rfl 1 rfl ?_
        refine GG.getR (b := 61) e_X9_firstChoice_38 fl_X9_9 (sf_X9_1 i_X9_60) ?_
        refine GG.iload_n e_X9_firstChoice_41 (i := 1) rfl 2 rfl ?_
        refine GG.ialoadV (k := _) (v := su i) e_X9_firstChoice_42 (sa_X9_1 i_X9_60) (rfl) (by omega) (Nat.le_of_ble_eq_true rfl) (hsu i hi) ?_
        refine GG.iload_n e_X9_firstChoice_43 (i := 2) rfl 3 rfl ?_
        refine GG.iconst (v := -1) e_X9_firstChoice_44 rfl ?_
        refine GG.ixor e_X9_firstChoice_45 ?_
        refine GG.iand e_X9_firstChoice_46 ?_
        refine GG.iload e_X9_firstChoice_47 0 rfl ?_
        refine GG.callN (d' := 0) (as := [.int _, .int _]) e_X9_firstChoice_49 ml_X9_60 mf_X10_hasBit ms_X10_hasBit rfl (by decide) (Nat.le_of_ble_eq_true rfl) rfl ?_
        refine s_X10_hasBit ?_
        refine GG.if_eq (tgt := 80) e_X9_firstChoice_52 rfl (fun h52 => ?_) (fun h52 => ?_)
        · skip
          rw [bI_0] at h52
          have hy : f j = false := by rw [← hf]; simp only []; rw [h52, Bool.false_and]
          refine GG.iinc e_X9_firstChoice_80 0 rfl (v := _) (by first | exact nI_s _ | exact nI_d _ | rfl) (Nat.le_of_ble_eq_true rfl) (ls' := [(4, .int _), (0, .ref _), (1, .int _), (2, .int _), (3, .int _)]) rfl ?_
          refine GG.goto (tgt := 30) e_X9_firstChoice_83 rfl ?_
          exact ih (j + 1) (by omega) (by omega) (by rw [mFst, if_pos hl, if_neg (by rw [hy]; decide)])
        · skip
          rw [bI_0, Bool.not_eq_false] at h52
          refine GG.iconst (v := 1) e_X9_firstChoice_55 rfl ?_
          refine GG.aload_n e_X9_firstChoice_56 (i := 0) rfl 1 rfl ?_
          refine GG.getR (b := 61) e_X9_firstChoice_57 fl_X9_9 (sf_X9_1 i_X9_60) ?_
          refine GG.iload_n e_X9_firstChoice_60 (i := 1) rfl 2 rfl ?_
          refine GG.iconst (v := 1) e_X9_firstChoice_61 rfl ?_
          refine GG.iadd e_X9_firstChoice_62 ?_
          refine GG.top (nI_1 i) ?_
          refine GG.iload_n e_X9_firstChoice_63 (i := 2) rfl 3 rfl ?_
          refine GG.iconst (v := 1) e_X9_firstChoice_64 rfl ?_
          refine GG.iload e_X9_firstChoice_65 0 rfl ?_
          refine GG.ishl e_X9_firstChoice_67 ?_
          refine GG.ior e_X9_firstChoice_68 ?_
          refine GG.callS (d' := (6 - i)) (as := [.ref 61, .int _, .int _]) e_X9_firstChoice_69 ml_X9_26 mf_X9_mostPairs ms_X9_mostPairs rfl (by omega) (Nat.le_of_ble_eq_true rfl) rfl ?_
          refine s_X9_mostPairs hsu (6 - i) (i + 1) _ _ (by omega) ?_
          refine GG.iadd e_X9_firstChoice_72 ?_
          refine GG.iload_n e_X9_firstChoice_73 (i := 3) rfl 4 rfl ?_
          refine GG.icmp_ne (tgt := 80) e_X9_firstChoice_74 rfl (fun h74 => ?_) (fun h74 => ?_)
          · skip
            have hy : f j = false := by rw [← hf]; simp only []; rw [decide_eq_false h74, Bool.and_false]
            refine GG.iinc e_X9_firstChoice_80 0 rfl (v := _) (by first | exact nI_s _ | exact nI_d _ | rfl) (Nat.le_of_ble_eq_true rfl) (ls' := [(4, .int _), (0, .ref _), (1, .int _), (2, .int _), (3, .int _)]) rfl ?_
            refine GG.goto (tgt := 30) e_X9_firstChoice_83 rfl ?_
            exact ih (j + 1) (by omega) (by omega) (by rw [mFst, if_pos hl, if_neg (by rw [hy]; decide)])
          · skip
            have hy : f j = true := by rw [← hf]; simp only []; rw [decide_eq_true h74, h52]; rfl
            refine GG.iload e_X9_firstChoice_77 0 rfl ?_
            refine GG.iret e_X9_firstChoice_79 rfl rfl ?_
            exact qI hQ (by rw [hR, if_neg hne, mFst_st hl hy e (by omega)])
  refine SPC.of (by decide +kernel) (Nat.le_of_ble_eq_true rfl) (ls := [(0, .ref (60)), (1, .int (nI i)), (2, .int (t)), (3, .int (m))]) rfl ?_
  refine GG.iload_n e_X9_firstChoice_0 (i := 1) rfl 1 rfl ?_
  refine GG.iconst (v := 0) e_X9_firstChoice_1 rfl ?_
  refine GG.bipush (v := 6) e_X9_firstChoice_2 rfl ?_
  refine GG.callN (d' := 0) (as := [.int _, .int _, .int _]) e_X9_firstChoice_4 ml_X9_18 mf_X10_outside ms_X10_outside rfl (by decide) (Nat.le_of_ble_eq_true rfl) rfl ?_
  refine s_X10_outside ?_
  refine GG.if_ne (tgt := 25) e_X9_firstChoice_7 rfl (fun h7 => absurd h7 (by rw [bI_0, decide_eq_false_iff_not]; exact fun z => z e0)) (fun h7 => ?_)
  refine GG.aload_n e_X9_firstChoice_10 (i := 0) rfl 0 rfl ?_
  refine GG.getR (b := 61) e_X9_firstChoice_11 fl_X9_9 (sf_X9_1 i_X9_60) ?_
  refine GG.iload_n e_X9_firstChoice_14 (i := 1) rfl 1 rfl ?_
  refine GG.iconst (v := 1) e_X9_firstChoice_15 rfl ?_
  refine GG.iadd e_X9_firstChoice_16 ?_
  refine GG.top (nI_1 i) ?_
  refine GG.iload_n e_X9_firstChoice_17 (i := 2) rfl 2 rfl ?_
  refine GG.callS (d' := (6 - i)) (as := [.ref 61, .int _, .int _]) e_X9_firstChoice_18 ml_X9_26 mf_X9_mostPairs ms_X9_mostPairs rfl (by omega) (Nat.le_of_ble_eq_true rfl) rfl ?_
  refine s_X9_mostPairs hsu (6 - i) (i + 1) _ _ (by omega) ?_
  refine GG.iload_n e_X9_firstChoice_21 (i := 3) rfl 3 rfl ?_
  refine GG.icmp_ne (tgt := 27) e_X9_firstChoice_22 rfl (fun h22 => ?_) (fun h22 => ?_)
  · skip
    refine GG.iconst (v := 0) e_X9_firstChoice_27 rfl ?_
    refine GG.istore e_X9_firstChoice_28 (Nat.le_of_ble_eq_true rfl) (ls' := [(4, .int _), (0, .ref _), (1, .int _), (2, .int _), (3, .int _)]) rfl ?_
    exact lp h22 8 0 (by omega) (by omega) rfl
  · skip
    refine GG.iconst (v := -1) e_X9_firstChoice_25 rfl ?_
    refine GG.iret e_X9_firstChoice_26 rfl rfl ?_
    exact qI hQ (by rw [hR, if_pos h22])
theorem s_X9_partnerOf (hi : i < 7) (hQ : Q (some (.int (mrd μ 62 i))) μ) : SPC 1 MX9_partnerOf [.ref 60, .int (nI i)] μ Q := by
  have e0 : ¬ (nI i < 0 ∨ 6 < nI i) := by
    intro z
    rcases z with z | z
    · exact nI_pos (by omega) z
    · have := nlt (a := 6) z (by omega) (by omega)
      omega
  refine SPC.of (by decide +kernel) (Nat.le_of_ble_eq_true rfl) (ls := [(0, .ref (60)), (1, .int (nI i))]) rfl ?_
  refine GG.iload_n e_X9_partnerOf_0 (i := 1) rfl 1 rfl ?_
  refine GG.iconst (v := 0) e_X9_partnerOf_1 rfl ?_
  refine GG.bipush (v := 6) e_X9_partnerOf_2 rfl ?_
  refine GG.callN (d' := 0) (as := [.int _, .int _, .int _]) e_X9_partnerOf_4 ml_X9_18 mf_X10_outside ms_X10_outside rfl (by decide) (Nat.le_of_ble_eq_true rfl) rfl ?_
  refine s_X10_outside ?_
  refine GG.if_eq (tgt := 14) e_X9_partnerOf_7 rfl (fun h7 => ?_) (fun h7 => absurd h7 (by rw [bI_0, decide_eq_false_iff_not]; exact fun z => z e0))
  refine GG.aload_n e_X9_partnerOf_14 (i := 0) rfl 0 rfl ?_
  refine GG.getR (b := 62) e_X9_partnerOf_15 fl_X9_15 (sf_X9_2 i_X9_60) ?_
  refine GG.iload_n e_X9_partnerOf_18 (i := 1) rfl 1 rfl ?_
  refine GG.ialoadE (k := _) e_X9_partnerOf_19 (sa_X9_2 i_X9_60) (rfl) (by omega) (Nat.le_of_ble_eq_true rfl) ?_
  refine GG.iret e_X9_partnerOf_20 rfl rfl ?_
  exact hQ
theorem scr_60 {c j : Nat} (h1 : 59 ≤ c) (h2 : c ≤ 62) : gScr c j := Or.inr (Or.inr (Or.inr (Or.inl ⟨h1, h2⟩)))
theorem s_X9_arrange (hL : LC μ 2 P A) (hQ : ∀ ν, gSm μ ν → mrd ν 60 0 = mMp (mSu μ 2 P) 7 0 0 → (∀ q, q < 7 → mrd ν 62 q = (mAr (mSu μ 2 P) (mMp (mSu μ 2 P) 7 0 0) 7).1 q) → Q none ν) : SPC 11 MX9_arrange [.ref 60, .ref 2] μ Q := by
  generalize hsu : mSu μ 2 P = su at hQ
  generalize hmp : mMp su 7 0 0 = mp at hQ
  have lp2 : ∀ n i ν p t m, 7 - i < n → i ≤ 7 → gSm μ ν → mrd ν 60 0 = mp → (∀ q, q < 7 → mrd ν 61 q = su q) → mAr su mp i = (p, t, m) → (∀ q, q < 7 → mrd ν 62 q = p q) → GG 11 MX9_arrange 57 [(4, .int (nI i)), (3, .int m), (2, .int t), (0, .ref 60)] [] ν Q := by
    intro n
    induction n with
    | zero => intro i ν p t m h; omega
    | succ n ih =>
      intro i ν p t m hn hi hm h60 hs61 hl hp
      refine GG.iload e_X9_arrange_57 0 rfl ?_
      refine GG.bipush (v := 7) e_X9_arrange_59 rfl ?_
      refine GG.icmp_ge (tgt := 124) e_X9_arrange_61 rfl (fun h61 => ?_) (fun h61 => ?_)
      · skip
        have e := nle (a := 7) h61 (by omega) (by omega)
        have e2 : i = 7 := by omega
        subst e2
        refine GG.vret e_X9_arrange_124 rfl rfl ?_
        refine hQ _ hm h60 (fun q hq => ?_)
        rw [hl, hp q hq]
      · skip
        have e := nnle (a := 7) h61 (by omega) (by omega)
        refine GG.aload_n e_X9_arrange_64 (i := 0) rfl 3 rfl ?_
        refine GG.iload e_X9_arrange_65 0 rfl ?_
        refine GG.iload_n e_X9_arrange_67 (i := 2) rfl 2 rfl ?_
        refine GG.aload_n e_X9_arrange_68 (i := 0) rfl 3 rfl ?_
        refine GG.getIv (v := mp) e_X9_arrange_69 fl_X9_30 (sf_X9_0 i_X9_60) (h60) ?_
        refine GG.iload_n e_X9_arrange_72 (i := 3) rfl 1 rfl ?_
        refine GG.isub e_X9_arrange_73 ?_
        refine GG.callV (d' := 10) (a := 60) (as := [.int _, .int _, .int _]) e_X9_arrange_74 ml_X9_34 mf_X9_firstChoice mv_X9_firstChoice (rc_X9 i_X9_60) rfl (by decide) (Nat.le_of_ble_eq_true rfl) rfl ?_
        refine s_X9_firstChoice hs61 e ?_
        refine GG.istore e_X9_arrange_77 (Nat.le_of_ble_eq_true rfl) (ls' := [(5, .int _), (4, .int _), (3, .int _), (2, .int _), (0, .ref _)]) rfl ?_
        refine GG.iload e_X9_arrange_79 0 rfl ?_
        refine GG.iconst (v := 0) e_X9_arrange_81 rfl ?_
        refine GG.bipush (v := 6) e_X9_arrange_82 rfl ?_
        refine GG.callN (d' := 0) (as := [.int _, .int _, .int _]) e_X9_arrange_84 ml_X9_18 mf_X10_outside ms_X10_outside rfl (by decide) (Nat.le_of_ble_eq_true rfl) rfl ?_
        refine s_X10_outside ?_
        refine GG.if_ne (tgt := 118) e_X9_arrange_87 rfl (fun h87 => ?_) (fun h87 => ?_)
        · skip
          rw [bI_0, Bool.not_eq_false, decide_eq_true_eq] at h87
          have hy : mAr su mp (i + 1) = (p, t, m) := by rw [mAr, hl]; simp only []; rw [if_pos h87]
          refine GG.iinc e_X9_arrange_118 1 rfl (v := _) (by first | exact nI_s _ | exact nI_d _ | rfl) (Nat.le_of_ble_eq_true rfl) (ls' := [(4, .int _), (5, .int _), (3, .int _), (2, .int _), (0, .ref _)]) rfl ?_
          refine GG.goto (tgt := 57) e_X9_arrange_121 rfl ?_
          refine GG.perm [0, 2, 3, 4] rfl ?_
          first | exact ih (i + 1) _ _ _ _ (by omega) (by omega) hm h60 hs61 hy hp | refine ih (i + 1) _ _ _ _ (by omega) (by omega) ((hm.wr (scr_60 (by omega) (by omega))).wr (scr_60 (by omega) (by omega))) (by simp [mrd_wr, h60]) (fun q hq => by simp [mrd_wr, hs61 q hq]) hy (fun q hq => ?_)
          all_goals (simp only [mrd_wr, upd, hp q hq]; simp)
        · skip
          rw [bI_0, decide_eq_false_iff_not] at h87
          have hy : mAr su mp (i + 1) = (upd (upd p i (mCh su i t (mp - m))) (mCh su i t (mp - m)).toNatClampNeg (nI i), t ||| ((1 : Int32) <<< (mCh su i t (mp - m) &&& 31)), m + 1) := by rw [mAr, hl]; simp only []; rw [if_neg h87]
          generalize mCh su i t (mp - m) = z at h87 hy
          obtain ⟨jz, hj7, hjz⟩ : ∃ j, j < 7 ∧ z = nI j := by
            obtain ⟨j, hj, e3⟩ := nI_of2 (M := 6) (n := 6) (by decide) (fun q => h87 (Or.inl q)) (Int32.not_lt.mp (fun q => h87 (Or.inr q)))
            exact ⟨j, by omega, e3⟩
          rw [hjz, nI_clamp (by omega)] at hy
          subst hjz
          refine GG.aload_n e_X9_arrange_90 (i := 0) rfl 4 rfl ?_
          refine GG.getR (b := 62) e_X9_arrange_91 fl_X9_15 (sf_X9_2 i_X9_60) ?_
          refine GG.iload e_X9_arrange_94 1 rfl ?_
          refine GG.iload e_X9_arrange_96 0 rfl ?_
          refine GG.iastoreE (k := _) e_X9_arrange_98 (sa_X9_2 i_X9_60) (rfl) (by omega) (Nat.le_of_ble_eq_true rfl) ?_
          refine GG.aload_n e_X9_arrange_99 (i := 0) rfl 4 rfl ?_
          refine GG.getR (b := 62) e_X9_arrange_100 fl_X9_15 (sf_X9_2 i_X9_60) ?_
          refine GG.iload e_X9_arrange_103 0 rfl ?_
          refine GG.iload e_X9_arrange_105 1 rfl ?_
          refine GG.iastoreE (k := _) e_X9_arrange_107 (sa_X9_2 i_X9_60) (rfl) (by omega) (Nat.le_of_ble_eq_true rfl) ?_
          refine GG.iload_n e_X9_arrange_108 (i := 2) rfl 3 rfl ?_
          refine GG.iconst (v := 1) e_X9_arrange_109 rfl ?_
          refine GG.iload e_X9_arrange_110 0 rfl ?_
          refine GG.ishl e_X9_arrange_112 ?_
          refine GG.ior e_X9_arrange_113 ?_
          refine GG.istore_n e_X9_arrange_114 (i := 2) rfl (Nat.le_of_ble_eq_true rfl) (ls' := [(2, .int _), (5, .int _), (4, .int _), (3, .int _), (0, .ref _)]) rfl ?_
          refine GG.iinc e_X9_arrange_115 3 rfl (v := m + 1) rfl (Nat.le_of_ble_eq_true rfl) (ls' := [(3, .int _), (2, .int _), (5, .int _), (4, .int _), (0, .ref _)]) rfl ?_
          refine GG.iinc e_X9_arrange_118 3 rfl (v := _) (by first | exact nI_s _ | exact nI_d _ | rfl) (Nat.le_of_ble_eq_true rfl) (ls' := [(4, .int _), (3, .int _), (2, .int _), (5, .int _), (0, .ref _)]) rfl ?_
          refine GG.goto (tgt := 57) e_X9_arrange_121 rfl ?_
          refine GG.perm [0, 1, 2, 4] rfl ?_
          first | exact ih (i + 1) _ _ _ _ (by omega) (by omega) hm h60 hs61 hy hp | refine ih (i + 1) _ _ _ _ (by omega) (by omega) ((hm.wr (scr_60 (by omega) (by omega))).wr (scr_60 (by omega) (by omega))) (by simp [mrd_wr, h60]) (fun q hq => by simp [mrd_wr, hs61 q hq]) hy (fun q hq => ?_)
          all_goals (simp only [mrd_wr, upd, hp q hq]; simp)
  have lp1 : ∀ n i ν, 7 - i < n → i ≤ 7 → gSm μ ν → (∀ q, q < i → mrd ν 61 q = su q) → (∀ q, q < i → mrd ν 62 q = -1) → GG 11 MX9_arrange 7 [(2, .int (nI i)), (0, .ref 60), (1, .ref 2)] [] ν Q := by
    intro n
    induction n with
    | zero => intro i ν h; omega
    | succ n ih =>
      intro i ν hn hi hm h61 h62
      have hLn : ∀ ξ, gSm μ ξ → LC ξ 2 P A := fun ξ hx => by
        obtain ⟨a1, a2, a3, a4⟩ := hL
        exact ⟨by rw [hx.1 2 1 (by unfold gScr; omega), a1], a2, by rw [hx.1 2 5 (by unfold gScr; omega), a3], a4⟩
      have hSn : ∀ ξ, gSm μ ξ → mSu ξ 2 P i = su i := fun ξ hx => by
        have e1 : ∀ q, mrd ξ 3 q = mrd μ 3 q := fun q => hx.1 3 q (by unfold gScr; omega)
        have e2 : ∀ q, mrd ξ 4 q = mrd μ 4 q := fun q => hx.1 4 q (by unfold gScr; omega)
        have e3 : ∀ q, mrd ξ 5 q = mrd μ 5 q := fun q => hx.1 5 q (by unfold gScr; omega)
        rw [← hsu]
        simp only [mSu, mAlk, e1, e2, e3]
      refine GG.iload_n e_X9_arrange_7 (i := 2) rfl 0 rfl ?_
      refine GG.bipush (v := 7) e_X9_arrange_8 rfl ?_
      refine GG.icmp_ge (tgt := 37) e_X9_arrange_10 rfl (fun h10 => ?_) (fun h10 => ?_)
      · skip
        have e := nle (a := 7) h10 (by omega) (by omega)
        have e2 : i = 7 := by omega
        subst e2
        refine GG.aload_n e_X9_arrange_37 (i := 0) rfl 1 rfl ?_
        refine GG.aload_n e_X9_arrange_38 (i := 0) rfl 1 rfl ?_
        refine GG.getR (b := 61) e_X9_arrange_39 fl_X9_9 (sf_X9_1 i_X9_60) ?_
        refine GG.iconst (v := 0) e_X9_arrange_42 rfl ?_
        refine GG.iconst (v := 0) e_X9_arrange_43 rfl ?_
        refine GG.callS (d' := 7) (as := [.ref 61, .int _, .int _]) e_X9_arrange_44 ml_X9_26 mf_X9_mostPairs ms_X9_mostPairs rfl (by decide) (Nat.le_of_ble_eq_true rfl) rfl ?_
        refine s_X9_mostPairs h61 7 0 0 _ (by omega) ?_
        rw [hmp]
        refine GG.putI e_X9_arrange_47 fl_X9_30 fp_X9_0 (sf_X9_0 i_X9_60) ?_
        refine GG.iconst (v := 0) e_X9_arrange_50 rfl ?_
        refine GG.istore_n e_X9_arrange_51 (i := 2) rfl (Nat.le_of_ble_eq_true rfl) (ls' := [(2, .int _), (0, .ref _), (1, .ref _)]) rfl ?_
        refine GG.iconst (v := 0) e_X9_arrange_52 rfl ?_
        refine GG.istore_n e_X9_arrange_53 (i := 3) rfl (Nat.le_of_ble_eq_true rfl) (ls' := [(3, .int _), (2, .int _), (0, .ref _), (1, .ref _)]) rfl ?_
        refine GG.iconst (v := 0) e_X9_arrange_54 rfl ?_
        refine GG.istore e_X9_arrange_55 (Nat.le_of_ble_eq_true rfl) (ls' := [(4, .int _), (3, .int _), (2, .int _), (0, .ref _), (1, .ref _)]) rfl ?_
        refine GG.perm [0, 1, 2, 3] rfl ?_
        exact lp2 8 0 _ _ _ _ (by omega) (by omega) (hm.wr (scr_60 (by omega) (by omega))) (by simp [mrd_wr]) (fun q hq => by simp [mrd_wr, h61 q hq]) rfl (fun q hq => by simp [mrd_wr, h62 q hq])
      · skip
        have e := nnle (a := 7) h10 (by omega) (by omega)
        refine GG.aload_n e_X9_arrange_13 (i := 0) rfl 1 rfl ?_
        refine GG.getR (b := 62) e_X9_arrange_14 fl_X9_15 (sf_X9_2 i_X9_60) ?_
        refine GG.iload_n e_X9_arrange_17 (i := 2) rfl 0 rfl ?_
        refine GG.iconst (v := -1) e_X9_arrange_18 rfl ?_
        refine GG.iastoreE (k := _) e_X9_arrange_19 (sa_X9_2 i_X9_60) (rfl) (by omega) (Nat.le_of_ble_eq_true rfl) ?_
        refine GG.aload_n e_X9_arrange_20 (i := 0) rfl 1 rfl ?_
        refine GG.getR (b := 61) e_X9_arrange_21 fl_X9_9 (sf_X9_1 i_X9_60) ?_
        refine GG.iload_n e_X9_arrange_24 (i := 2) rfl 0 rfl ?_
        refine GG.aload_n e_X9_arrange_25 (i := 1) rfl 2 rfl ?_
        refine GG.iload_n e_X9_arrange_26 (i := 2) rfl 0 rfl ?_
        refine GG.callS (d' := 3) (as := [.ref 2, .int _]) e_X9_arrange_27 ml_X9_22 mf_X9_suitorsOf ms_X9_suitorsOf rfl (by decide) (Nat.le_of_ble_eq_true rfl) rfl ?_
        have hm2 := hm.wr (x := -1) (scr_60 (c := 62) (j := i) (by omega) (by omega))
        refine s_X9_suitorsOf i_X4_2 (hLn _ hm2) e ?_
        rw [hSn _ hm2]
        refine GG.iastoreE (k := _) e_X9_arrange_30 (sa_X9_1 i_X9_60) (rfl) (by omega) (Nat.le_of_ble_eq_true rfl) ?_
        refine GG.iinc e_X9_arrange_31 0 rfl (v := _) (by first | exact nI_s _ | exact nI_d _ | rfl) (Nat.le_of_ble_eq_true rfl) (ls' := [(2, .int _), (0, .ref _), (1, .ref _)]) rfl ?_
        refine GG.goto (tgt := 7) e_X9_arrange_34 rfl ?_
        refine ih (i + 1) _ (by omega) (by omega) (hm2.wr (scr_60 (by omega) (by omega))) (fun q hq => ?_) (fun q hq => ?_)
        · by_cases hh : q = i
          · simp [mrd_wr, hh]
          · simp [mrd_wr, hh, h61 q (by omega)]
        · by_cases hh : q = i
          · simp [mrd_wr, hh]
          · simp [mrd_wr, hh, h62 q (by omega)]
  refine SPC.of (by decide +kernel) (Nat.le_of_ble_eq_true rfl) (ls := [(0, .ref (60)), (1, .ref (2))]) rfl ?_
  refine GG.aload_n e_X9_arrange_0 (i := 1) rfl 1 rfl ?_
  refine GG.ifnonnull (tgt := 5) e_X9_arrange_1 rfl ?_
  refine GG.iconst (v := 0) e_X9_arrange_5 rfl ?_
  refine GG.istore_n e_X9_arrange_6 (i := 2) rfl (Nat.le_of_ble_eq_true rfl) (ls' := [(2, .int _), (0, .ref _), (1, .ref _)]) rfl ?_
  exact lp1 8 0 _ (by omega) (by omega) (gSm.rf _) (fun q h => by omega) (fun q h => by omega)
end S24
