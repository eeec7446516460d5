/-! BITS AND POWERS; TRIAL, the rest -/
def mU (x : Int32) (s : Int32) : Int32 := (x.toUInt32 >>> (s.toUInt32 &&& Int32.toUInt32 31)).toInt32
def mB1 (x : Int32) : Int32 := x - (mU x 1 &&& 1431655765)
def mB2 (x : Int32) : Int32 := (x &&& 858993459) + (mU x 2 &&& 858993459)
def mB3 (x : Int32) : Int32 := (x + mU x 4) &&& 252645135
def mB4 (x : Int32) : Int32 := x + mU x 8
def mB5 (x : Int32) : Int32 := (x + mU x 16) &&& 63
/-- how many bits, as the JDK counts them -/
def mBc (x : Int32) : Int32 := mB5 (mB4 (mB3 (mB2 (mB1 x))))
def mPow (x : Int64) : Nat → Int64
  | 0 => 1
  | n + 1 => mPow x n * x
def mAll (f : Nat → Bool) : Nat → Bool
  | 0 => true
  | n + 1 => mAll f n && f n
theorem mAll_f {f : Nat → Bool} {n k : Nat} (hk : k < n) (h : f k = false) : mAll f n = false := by
  induction n with
  | zero => omega
  | succ n ih =>
    by_cases e : k = n
    · subst e; rw [mAll, h, Bool.and_false]
    · rw [mAll, ih (by omega), Bool.false_and]
theorem mAll_iff {f : Nat → Bool} {n : Nat} : mAll f n = true ↔ ∀ k, k < n → f k = true := by
  induction n with
  | zero => simp [mAll]
  | succ n ih =>
    rw [mAll, Bool.and_eq_true, ih]
    constructor
    · intro h k hk
      by_cases e : k = n
      · subst e; exact h.2
      · exact h.1 k (by omega)
    · exact fun h => ⟨fun k hk => h k (by omega), h n (by omega)⟩
theorem mBits_c {f g : Nat → Bool} {n : Nat} (h : ∀ k, k < n → f k = g k) : mBits f n = mBits g n := by
  induction n with
  | zero => rfl
  | succ n ih => rw [mBits, mBits, ih (fun k hk => h k (by omega)), h n (by omega)]
def mFB (μ : gM) (V : Nat → Nat → Int32) (th : Int32) (A P : Nat) (w : Int32) (q : Nat) : Bool := decide (w ≤ vRch V th A P (mrd μ 9 (4 * q)) (-1)) == decide (mrd μ 9 (4 * q + 1) = 1)
def mStl (f : Nat → Bool) : Nat → Int32
  | 0 => -1
  | n + 1 => if (mStl f n = -1 ∨ mBc (nI n) < mBc (mStl f n)) ∧ f n = true then nI n else mStl f n
def mSumL (f : Nat → Int64) : Nat → Int64
  | 0 => 0
  | n + 1 => mSumL f n + f n
def pcN (n : Nat) : Nat := n % 2 + n / 2 % 2 + n / 4 % 2 + n / 8 % 2
theorem mBc_16 : ∀ n, n < 16 → mBc (nI n) = nI (pcN n) := by decide +kernel
theorem pcN_4 (n : Nat) : pcN n ≤ 4 := by unfold pcN; omega
def mSty (T a : Nat) : Nat := T &&& (15 ^^^ a)
theorem mSty_16 : ∀ T, T < 16 → ∀ a, a < 16 → nI T &&& (nI a ^^^ (-1)) = nI (mSty T a) ∧ mSty T a < 16 := by decide +kernel
def mSb (a T : Nat) : Bool := a &&& (15 ^^^ T) == 0
theorem mSb_16 : ∀ a, a < 16 → ∀ T, T < 16 → (nI a &&& (nI T ^^^ (-1)) = 0 ↔ mSb a T = true) := by decide +kernel
theorem shA : ∀ A, A < 5 → (1 : Int32) <<< (nI A &&& 31) = nI (2 ^ A) := by decide +kernel
theorem shA16 : ∀ A, A < 5 → 2 ^ A ≤ 16 := by decide
section S20
variable {μ ν : gM} {Q : Option Value → gM → Prop} {P A k T : Nat} {V : Nat → Nat → Int32} {w th t c : Int32}
theorem s_J6_bitCount_0f7a4 {x : Int32} (hQ : Q (some (.int (mBc x))) μ) : SPC 0 MJ6_bitCount_0f7a4 [.int x] μ Q := by
  refine SPC.of (by decide +kernel) (Nat.le_of_ble_eq_true rfl) (ls := [(0, .int (x))]) rfl ?_
  refine GG.iload_n e_J6_bitCount_0f7a4_0 (i := 0) rfl 0 rfl ?_
  refine GG.iload_n e_J6_bitCount_0f7a4_1 (i := 0) rfl 0 rfl ?_
  refine GG.iconst (v := 1) e_J6_bitCount_0f7a4_2 rfl ?_
  refine GG.iushr e_J6_bitCount_0f7a4_3 ?_
  refine GG.ldcw e_J6_bitCount_0f7a4_4 kc_J6_265 ?_
  refine GG.iand e_J6_bitCount_0f7a4_7 ?_
  refine GG.isub e_J6_bitCount_0f7a4_8 ?_
  refine GG.istore_n e_J6_bitCount_0f7a4_9 (i := 0) rfl (Nat.le_of_ble_eq_true rfl) (ls' := [(0, .int _)]) rfl ?_
  refine GG.iload_n e_J6_bitCount_0f7a4_10 (i := 0) rfl 0 rfl ?_
  refine GG.ldcw e_J6_bitCount_0f7a4_11 kc_J6_266 ?_
  refine GG.iand e_J6_bitCount_0f7a4_14 ?_
  refine GG.iload_n e_J6_bitCount_0f7a4_15 (i := 0) rfl 0 rfl ?_
  refine GG.iconst (v := 2) e_J6_bitCount_0f7a4_16 rfl ?_
  refine GG.iushr e_J6_bitCount_0f7a4_17 ?_
  refine GG.ldcw e_J6_bitCount_0f7a4_18 kc_J6_266 ?_
  refine GG.iand e_J6_bitCount_0f7a4_21 ?_
  refine GG.iadd e_J6_bitCount_0f7a4_22 ?_
  refine GG.istore_n e_J6_bitCount_0f7a4_23 (i := 0) rfl (Nat.le_of_ble_eq_true rfl) (ls' := [(0, .int _)]) rfl ?_
  refine GG.iload_n e_J6_bitCount_0f7a4_24 (i := 0) rfl 0 rfl ?_
  refine GG.iload_n e_J6_bitCount_0f7a4_25 (i := 0) rfl 0 rfl ?_
  refine GG.iconst (v := 4) e_J6_bitCount_0f7a4_26 rfl ?_
  refine GG.iushr e_J6_bitCount_0f7a4_27 ?_
  refine GG.iadd e_J6_bitCount_0f7a4_28 ?_
  refine GG.ldcw e_J6_bitCount_0f7a4_29 kc_J6_267 ?_
  refine GG.iand e_J6_bitCount_0f7a4_32 ?_
  refine GG.istore_n e_J6_bitCount_0f7a4_33 (i := 0) rfl (Nat.le_of_ble_eq_true rfl) (ls' := [(0, .int _)]) rfl ?_
  refine GG.iload_n e_J6_bitCount_0f7a4_34 (i := 0) rfl 0 rfl ?_
  refine GG.iload_n e_J6_bitCount_0f7a4_35 (i := 0) rfl 0 rfl ?_
  refine GG.bipush (v := 8) e_J6_bitCount_0f7a4_36 rfl ?_
  refine GG.iushr e_J6_bitCount_0f7a4_38 ?_
  refine GG.iadd e_J6_bitCount_0f7a4_39 ?_
  refine GG.istore_n e_J6_bitCount_0f7a4_40 (i := 0) rfl (Nat.le_of_ble_eq_true rfl) (ls' := [(0, .int _)]) rfl ?_
  refine GG.iload_n e_J6_bitCount_0f7a4_41 (i := 0) rfl 0 rfl ?_
  refine GG.iload_n e_J6_bitCount_0f7a4_42 (i := 0) rfl 0 rfl ?_
  refine GG.bipush (v := 16) e_J6_bitCount_0f7a4_43 rfl ?_
  refine GG.iushr e_J6_bitCount_0f7a4_45 ?_
  refine GG.iadd e_J6_bitCount_0f7a4_46 ?_
  refine GG.istore_n e_J6_bitCount_0f7a4_47 (i := 0) rfl (Nat.le_of_ble_eq_true rfl) (ls' := [(0, .int _)]) rfl ?_
  refine GG.iload_n e_J6_bitCount_0f7a4_48 (i := 0) rfl 0 rfl ?_
  refine GG.bipush (v := 63) e_J6_bitCount_0f7a4_49 rfl ?_
  refine GG.iand e_J6_bitCount_0f7a4_51 ?_
  refine GG.iret e_J6_bitCount_0f7a4_52 rfl rfl ?_
  exact hQ
theorem s_X10_power {x : Int64} {n : Nat} (hn : n < 2 ^ 31) (hQ : Q (some (.long (mPow x n))) μ) : SPC 0 MX10_power [.long x, .int (nI n)] μ Q := by
  have lp : ∀ m j z, n - j < m → j ≤ n → z = mPow x j → GG 0 MX10_power 5 [(5, .int (nI j)), (3, .long z), (0, .long x), (2, .int (nI n))] [] μ Q := by
    intro m
    induction m with
    | zero => intro j z h; omega
    | succ m ih =>
      intro j z hm hj hl
      refine GG.iload e_X10_power_5 0 rfl ?_
      refine GG.iload_n e_X10_power_7 (i := 2) rfl 3 rfl ?_
      refine GG.icmp_ge (tgt := 21) e_X10_power_8 rfl (fun h8 => ?_) (fun h8 => ?_)
      · skip
        have e := nle h8 (by omega) (by omega)
        have e2 : j = n := by omega
        subst e2
        refine GG.lload_n e_X10_power_21 (i := 3) rfl 1 rfl ?_
        refine GG.lret e_X10_power_22 rfl rfl ?_
        rw [hl]
        exact hQ
      · skip
        have e := nnle h8 (by omega) (by omega)
        refine GG.lload_n e_X10_power_11 (i := 3) rfl 1 rfl ?_
        refine GG.lload_n e_X10_power_12 (i := 0) rfl 2 rfl ?_
        refine GG.lmul e_X10_power_13 ?_
        refine GG.lstore_n e_X10_power_14 (i := 3) rfl (Nat.le_of_ble_eq_true rfl) (ls' := [(3, .long _), (5, .int _), (0, .long _), (2, .int _)]) rfl ?_
        refine GG.iinc e_X10_power_15 1 rfl (v := _) (by first | exact nI_s _ | exact nI_d _ | rfl) (Nat.le_of_ble_eq_true rfl) (ls' := [(5, .int _), (3, .long _), (0, .long _), (2, .int _)]) rfl ?_
        refine GG.goto (tgt := 5) e_X10_power_18 rfl ?_
        exact ih (j + 1) _ (by omega) (by omega) (by rw [hl]; rfl)
  refine SPC.of (by decide +kernel) (Nat.le_of_ble_eq_true rfl) (ls := [(0, .long (x)), (2, .int (nI n))]) rfl ?_
  refine GG.lconst (v := 1) e_X10_power_0 rfl ?_
  refine GG.lstore_n e_X10_power_1 (i := 3) rfl (Nat.le_of_ble_eq_true rfl) (ls' := [(3, .long _), (0, .long _), (2, .int _)]) rfl ?_
  refine GG.iconst (v := 0) e_X10_power_2 rfl ?_
  refine GG.istore e_X10_power_3 (Nat.le_of_ble_eq_true rfl) (ls' := [(5, .int _), (3, .long _), (0, .long _), (2, .int _)]) rfl ?_
  exact lp (n + 1) 0 _ (by omega) (by omega) rfl
theorem s_X8_fits (h : TL μ ν V P A w th t) (hT : mrd μ 8 0 = nI T) (hT6 : T ≤ 6) (hQ : Q (some (.int (bI (mAll (mFB μ V th A P w) T)))) ν) : SPC 4 MX8_fits [.ref 50, .ref 8] ν Q := by
  have hT' : mrd ν 8 0 = nI T := by rw [h.1.1 8 0 (by unfold gScr; omega), hT]
  have h9 : ∀ j, mrd ν 9 j = mrd μ 9 j := fun j => h.1.1 9 j (by unfold gScr; omega)
  have lp : ∀ n j, T - j < n → j ≤ T → (∀ q, q < j → mFB μ V th A P w q = true) → GG 4 MX8_fits 8 [(2, .int (nI j)), (0, .ref 50), (1, .ref 8)] [] ν Q := by
    intro n
    induction n with
    | zero => intro j h; omega
    | succ n ih =>
      intro j hn hj hl
      have jn : ∀ z, z = bI (decide (mrd μ 9 (4 * j + 1) = 1)) → j < T → GG 4 MX8_fits 31 [(2, .int (nI j)), (0, .ref 50), (1, .ref 8)] [.int z] ν Q := by
        intro z hz e
        refine GG.istore_n e_X8_fits_31 (i := 3) rfl (Nat.le_of_ble_eq_true rfl) (ls' := [(3, .int _), (2, .int _), (0, .ref _), (1, .ref _)]) rfl ?_
        refine GG.aload_n e_X8_fits_32 (i := 0) rfl 2 rfl ?_
        refine GG.getR (b := 51) e_X8_fits_33 fl_X8_12 (sf_X8_0 i_X8_50) ?_
        refine GG.aload_n e_X8_fits_36 (i := 1) rfl 3 rfl ?_
        refine GG.iload_n e_X8_fits_37 (i := 2) rfl 1 rfl ?_
        refine GG.iconst (v := 0) e_X8_fits_38 rfl ?_
        refine GG.callV (d' := 1) (a := 8) (as := [.int _, .int _]) e_X8_fits_39 ml_X8_71 mf_X6_cell mv_X6_cell (rc_X6 i_X6_8) rfl (by decide) (Nat.le_of_ble_eq_true rfl) rfl ?_
        refine s_X6_cell (y := 0) i_X6_8 (by omega) (by omega) ?_
        rw [h9, Nat.add_zero]
        refine GG.callV (d' := 3) (a := 51) (as := [.int _]) e_X8_fits_42 ml_X8_55 mf_X4_soundsAt mv_X4_soundsAt (rc_X4 i_X4_51) rfl (by decide) (Nat.le_of_ble_eq_true rfl) rfl ?_
        refine t_soundsAt h ?_
        refine GG.iload_n e_X8_fits_45 (i := 3) rfl 0 rfl ?_
        refine GG.icmp_eq (tgt := 51) e_X8_fits_46 rfl (fun h46 => ?_) (fun h46 => ?_)
        · skip
          have hb : mFB μ V th A P w j = true := by rw [hz] at h46; unfold mFB; rw [beq_iff_eq]; revert h46; generalize decide (w ≤ vRch V th A P (mrd μ 9 (4 * j)) (-1)) = a; generalize decide (mrd μ 9 (4 * j + 1) = 1) = b; revert a b; decide
          refine GG.iinc e_X8_fits_51 1 rfl (v := _) (by first | exact nI_s _ | exact nI_d _ | rfl) (Nat.le_of_ble_eq_true rfl) (ls' := [(2, .int _), (3, .int _), (0, .ref _), (1, .ref _)]) rfl ?_
          refine GG.goto (tgt := 8) e_X8_fits_54 rfl ?_
          refine GG.perm [0, 2, 3] rfl ?_
          refine ih (j + 1) (by omega) (by omega) (fun q hq => ?_)
          by_cases hh : q = j
          · rw [hh, hb]
          · exact hl q (by omega)
        · skip
          have hb : mFB μ V th A P w j = false := by rw [hz] at h46; unfold mFB; rw [beq_eq_false_iff_ne]; revert h46; generalize decide (w ≤ vRch V th A P (mrd μ 9 (4 * j)) (-1)) = a; generalize decide (mrd μ 9 (4 * j + 1) = 1) = b; revert a b; decide
          refine GG.iconst (v := 0) e_X8_fits_49 rfl ?_
          refine GG.zret e_X8_fits_50 rfl rfl rfl ?_
          exact qI hQ (by rw [mAll_f e hb]; rfl)
      refine GG.iload_n e_X8_fits_8 (i := 2) rfl 0 rfl ?_
      refine GG.aload_n e_X8_fits_9 (i := 1) rfl 2 rfl ?_
      refine GG.getIv (v := nI T) e_X8_fits_10 fl_X8_66 (sf_X6_0 i_X6_8) (hT') ?_
      refine GG.icmp_ge (tgt := 57) e_X8_fits_13 rfl (fun h13 => ?_) (fun h13 => ?_)
      · skip
        have e := nle h13 (by omega) (by omega)
        have e2 : j = T := by omega
        subst e2
        refine GG.iconst (v := 1) e_X8_fits_57 rfl ?_
        refine GG.zret e_X8_fits_58 rfl rfl rfl ?_
        exact qI hQ (by rw [mAll_iff.mpr hl]; rfl)
      · skip
        have e := nnle h13 (by omega) (by omega)
        refine GG.aload_n e_X8_fits_16 (i := 1) rfl 2 rfl ?_
        refine GG.iload_n e_X8_fits_17 (i := 2) rfl 0 rfl ?_
        refine GG.iconst (v := 1) e_X8_fits_18 rfl ?_
        refine GG.callV (d' := 1) (a := 8) (as := [.int _, .int _]) e_X8_fits_19 ml_X8_71 mf_X6_cell mv_X6_cell (rc_X6 i_X6_8) rfl (by decide) (Nat.le_of_ble_eq_true rfl) rfl ?_
        refine s_X6_cell (y := 1) i_X6_8 (by omega) (by omega) ?_
        rw [h9]
        refine GG.iconst (v := 1) e_X8_fits_22 rfl ?_
        refine GG.icmp_ne (tgt := 30) e_X8_fits_23 rfl (fun h23 => ?_) (fun h23 => ?_)
        · skip
          refine GG.iconst (v := 0) e_X8_fits_30 rfl ?_
          exact jn _ (by first | rw [decide_eq_true h23]; rfl | rw [decide_eq_false h23]; rfl) e
        · skip
          refine GG.iconst (v := 1) e_X8_fits_26 rfl ?_
          refine GG.goto (tgt := 31) e_X8_fits_27 rfl ?_
          exact jn _ (by first | rw [decide_eq_true h23]; rfl | rw [decide_eq_false h23]; rfl) e
  refine SPC.of (by decide +kernel) (Nat.le_of_ble_eq_true rfl) (ls := [(0, .ref (50)), (1, .ref (8))]) rfl ?_
  refine GG.aload_n e_X8_fits_0 (i := 1) rfl 1 rfl ?_
  refine GG.ifnonnull (tgt := 6) e_X8_fits_1 rfl ?_
  refine GG.iconst (v := 0) e_X8_fits_6 rfl ?_
  refine GG.istore_n e_X8_fits_7 (i := 2) rfl (Nat.le_of_ble_eq_true rfl) (ls' := [(2, .int _), (0, .ref _), (1, .ref _)]) rfl ?_
  exact lp (T + 1) 0 (by omega) (by omega) (fun q h => by omega)
theorem s_X8_lanesThatFit (hL : LC μ 2 P A) (hT : mrd μ 8 0 = nI T) (hT6 : T ≤ 6) {f : Nat → Bool} (hf : ∀ k, k < 27 → f k = mAll (mFB μ (cV μ 2) (mrd μ 2 8) A P (nI (4 + k))) T) (hQ : ∀ ν, gSm μ ν → Q (some (.int (mBits f 27))) ν) : SPC 5 MX8_lanesThatFit [.ref 50, .ref 2, .ref 8] μ Q := by
  have lp : ∀ n j x ν w, 27 - j < n → j ≤ 27 → x = mBits f j → TL μ ν (cV μ 2) P A w (mrd μ 2 8) (mrd μ 2 9) → GG 5 MX8_lanesThatFit 13 [(4, .int (nI j)), (3, .int x), (0, .ref 50), (2, .ref 8)] [] ν Q := by
    intro n
    induction n with
    | zero => intro j x ν w h; omega
    | succ n ih =>
      intro j x ν w hn hj hl hTL
      refine GG.iload e_X8_lanesThatFit_13 0 rfl ?_
      refine GG.bipush (v := 27) e_X8_lanesThatFit_15 rfl ?_
      refine GG.icmp_ge (tgt := 52) e_X8_lanesThatFit_17 rfl (fun h17 => ?_) (fun h17 => ?_)
      · skip
        have e := nle (a := 27) h17 (by omega) (by omega)
        have e2 : j = 27 := by omega
        subst e2
        refine GG.iload_n e_X8_lanesThatFit_52 (i := 3) rfl 1 rfl ?_
        refine GG.iret e_X8_lanesThatFit_53 rfl rfl ?_
        exact qI (hQ _ hTL.1) hl
      · skip
        have e := nnle (a := 27) h17 (by omega) (by omega)
        refine GG.aload_n e_X8_lanesThatFit_20 (i := 0) rfl 2 rfl ?_
        refine GG.getR (b := 51) e_X8_lanesThatFit_21 fl_X8_12 (sf_X8_0 i_X8_50) ?_
        refine GG.iconst (v := 4) e_X8_lanesThatFit_24 rfl ?_
        refine GG.iload e_X8_lanesThatFit_25 0 rfl ?_
        refine GG.iadd e_X8_lanesThatFit_27 ?_
        refine GG.putI e_X8_lanesThatFit_28 fl_X8_59 fp_X4_0 (sf_X4_0 i_X4_51) ?_
        refine GG.aload_n e_X8_lanesThatFit_31 (i := 0) rfl 2 rfl ?_
        refine GG.aload_n e_X8_lanesThatFit_32 (i := 2) rfl 3 rfl ?_
        refine GG.callV (d' := 4) (a := 50) (as := [.ref 8]) e_X8_lanesThatFit_33 ml_X8_62 mf_X8_fits mv_X8_fits (rc_X8 i_X8_50) rfl (by decide) (Nat.le_of_ble_eq_true rfl) rfl ?_
        refine s_X8_fits (hTL.wd (x := 4 + nI j)) hT hT6 ?_
        rw [show (4 : Int32) + nI j = nI (4 + j) from nI_add 4 j, ← hf j e]
        refine GG.if_eq (tgt := 46) e_X8_lanesThatFit_36 rfl (fun h36 => ?_) (fun h36 => ?_)
        · skip
          rw [bI_0] at h36
          refine GG.iinc e_X8_lanesThatFit_46 0 rfl (v := _) (by first | exact nI_s _ | exact nI_d _ | rfl) (Nat.le_of_ble_eq_true rfl) (ls' := [(4, .int _), (3, .int _), (0, .ref _), (2, .ref _)]) rfl ?_
          refine GG.goto (tgt := 13) e_X8_lanesThatFit_49 rfl ?_
          refine ih (j + 1) _ _ _ (by omega) (by omega) ?_ (hTL.wd (x := nI (4 + j)))
          rw [mBits, h36, hl]
          rfl
        · skip
          rw [bI_0, Bool.not_eq_false] at h36
          refine GG.iload_n e_X8_lanesThatFit_39 (i := 3) rfl 1 rfl ?_
          refine GG.iconst (v := 1) e_X8_lanesThatFit_40 rfl ?_
          refine GG.iload e_X8_lanesThatFit_41 0 rfl ?_
          refine GG.ishl e_X8_lanesThatFit_43 ?_
          refine GG.ior e_X8_lanesThatFit_44 ?_
          refine GG.istore_n e_X8_lanesThatFit_45 (i := 3) rfl (Nat.le_of_ble_eq_true rfl) (ls' := [(3, .int _), (4, .int _), (0, .ref _), (2, .ref _)]) rfl ?_
          refine GG.iinc e_X8_lanesThatFit_46 1 rfl (v := _) (by first | exact nI_s _ | exact nI_d _ | rfl) (Nat.le_of_ble_eq_true rfl) (ls' := [(4, .int _), (3, .int _), (0, .ref _), (2, .ref _)]) rfl ?_
          refine GG.goto (tgt := 13) e_X8_lanesThatFit_49 rfl ?_
          refine ih (j + 1) _ _ _ (by omega) (by omega) ?_ (hTL.wd (x := nI (4 + j)))
          rw [mBits, h36, hl]
          rfl
  refine SPC.of (by decide +kernel) (Nat.le_of_ble_eq_true rfl) (ls := [(0, .ref (50)), (1, .ref (2)), (2, .ref (8))]) rfl ?_
  refine GG.aload_n e_X8_lanesThatFit_0 (i := 0) rfl 0 rfl ?_
  refine GG.getR (b := 51) e_X8_lanesThatFit_1 fl_X8_12 (sf_X8_0 i_X8_50) ?_
  refine GG.aload_n e_X8_lanesThatFit_4 (i := 1) rfl 1 rfl ?_
  refine GG.callV (d' := 1) (a := 51) (as := [.ref 2]) e_X8_lanesThatFit_5 ml_X8_22 mf_X4_copyFrom mv_X4_copyFrom (rc_X4 i_X4_51) rfl (by decide) (Nat.le_of_ble_eq_true rfl) rfl ?_
  refine s_X4_copyFrom i_X4_2 i_X4_51 (by omega) ?_
  refine GG.iconst (v := 0) e_X8_lanesThatFit_8 rfl ?_
  refine GG.istore_n e_X8_lanesThatFit_9 (i := 3) rfl (Nat.le_of_ble_eq_true rfl) (ls' := [(3, .int _), (0, .ref _), (1, .ref _), (2, .ref _)]) rfl ?_
  refine GG.iconst (v := 0) e_X8_lanesThatFit_10 rfl ?_
  refine GG.istore e_X8_lanesThatFit_11 (Nat.le_of_ble_eq_true rfl) (ls' := [(4, .int _), (3, .int _), (0, .ref _), (1, .ref _), (2, .ref _)]) rfl ?_
  refine GG.perm [0, 1, 2, 4] rfl ?_
  exact lp 28 0 _ _ _ (by omega) (by omega) rfl (TL_Lc hL)
theorem s_X8_swingsThatFit (hL : LC μ 2 P A) (hk : k < P) (hT : mrd μ 8 0 = nI T) (hT6 : T ≤ 6) {f : Nat → Bool} (hf : ∀ a, a < 10 → f a = mAll (mFB μ (uV (cV μ 2) k (nI a)) (mrd μ 2 8) A P (mrd μ 2 0)) T) (hQ : ∀ ν, gSm μ ν → Q (some (.int (mBits f 10))) ν) : SPC 5 MX8_swingsThatFit [.ref 50, .ref 2, .ref 8, .int (nI k)] μ Q := by
  have hP := hL.2.1
  have lp : ∀ n j x ν V, 10 - j < n → j ≤ 10 → x = mBits f j → TL μ ν V P A (mrd μ 2 0) (mrd μ 2 8) (mrd μ 2 9) → (∀ a, uV V k a = uV (cV μ 2) k a) → GG 5 MX8_swingsThatFit 14 [(5, .int (nI j)), (4, .int x), (0, .ref 50), (2, .ref 8), (3, .int (nI k))] [] ν Q := by
    intro n
    induction n with
    | zero => intro j x ν V h; omega
    | succ n ih =>
      intro j x ν V hn hj hl hTL hV
      refine GG.iload e_X8_swingsThatFit_14 0 rfl ?_
      refine GG.bipush (v := 9) e_X8_swingsThatFit_16 rfl ?_
      refine GG.icmp_gt (tgt := 54) e_X8_swingsThatFit_18 rfl (fun h18 => ?_) (fun h18 => ?_)
      · skip
        have e := nlt (a := 9) h18 (by omega) (by omega)
        have e2 : j = 10 := by omega
        subst e2
        refine GG.iload e_X8_swingsThatFit_54 1 rfl ?_
        refine GG.iret e_X8_swingsThatFit_56 rfl rfl ?_
        exact qI (hQ _ hTL.1) hl
      · skip
        have e := nnlt (a := 9) h18 (by omega) (by omega)
        refine GG.aload_n e_X8_swingsThatFit_21 (i := 0) rfl 2 rfl ?_
        refine GG.getR (b := 51) e_X8_swingsThatFit_22 fl_X8_12 (sf_X8_0 i_X8_50) ?_
        refine GG.iload_n e_X8_swingsThatFit_25 (i := 3) rfl 4 rfl ?_
        refine GG.iload e_X8_swingsThatFit_26 0 rfl ?_
        refine GG.callV (d' := 1) (a := 51) (as := [.int _, .int _]) e_X8_swingsThatFit_28 ml_X8_52 mf_X4_setSwing mv_X4_setSwing (rc_X4 i_X4_51) rfl (by decide) (Nat.le_of_ble_eq_true rfl) rfl ?_
        refine s_X4_setSwing i_X4_51 hTL.2.1 (fun h => ?_) (fun q hq hkq => ?_)
        · rw [mIn_n (by omega)] at h; simp at h; omega
        have e3 : k = q := (nI_eq (by omega) (by omega)).mp hkq
        subst e3
        refine GG.aload_n e_X8_swingsThatFit_31 (i := 0) rfl 2 rfl ?_
        refine GG.aload_n e_X8_swingsThatFit_32 (i := 2) rfl 3 rfl ?_
        refine GG.callV (d' := 4) (a := 50) (as := [.ref 8]) e_X8_swingsThatFit_33 ml_X8_62 mf_X8_fits mv_X8_fits (rc_X8 i_X8_50) rfl (by decide) (Nat.le_of_ble_eq_true rfl) rfl ?_
        refine s_X8_fits (hTL.sw (k := k) (a := nI j)) hT hT6 ?_
        rw [hV, ← hf j (by omega)]
        refine GG.if_eq (tgt := 48) e_X8_swingsThatFit_36 rfl (fun h36 => ?_) (fun h36 => ?_)
        · skip
          rw [bI_0] at h36
          refine GG.iinc e_X8_swingsThatFit_48 0 rfl (v := _) (by first | exact nI_s _ | exact nI_d _ | rfl) (Nat.le_of_ble_eq_true rfl) (ls' := [(5, .int _), (4, .int _), (0, .ref _), (2, .ref _), (3, .int _)]) rfl ?_
          refine GG.goto (tgt := 14) e_X8_swingsThatFit_51 rfl ?_
          refine ih (j + 1) _ _ _ (by omega) (by omega) ?_ (hTL.sw (k := k) (a := nI j)) (fun a => by rw [uV_u, hV])
          rw [mBits, h36, hl]
          rfl
        · skip
          rw [bI_0, Bool.not_eq_false] at h36
          refine GG.iload e_X8_swingsThatFit_39 1 rfl ?_
          refine GG.iconst (v := 1) e_X8_swingsThatFit_41 rfl ?_
          refine GG.iload e_X8_swingsThatFit_42 0 rfl ?_
          refine GG.ishl e_X8_swingsThatFit_44 ?_
          refine GG.ior e_X8_swingsThatFit_45 ?_
          refine GG.istore e_X8_swingsThatFit_46 (Nat.le_of_ble_eq_true rfl) (ls' := [(4, .int _), (5, .int _), (0, .ref _), (2, .ref _), (3, .int _)]) rfl ?_
          refine GG.iinc e_X8_swingsThatFit_48 1 rfl (v := _) (by first | exact nI_s _ | exact nI_d _ | rfl) (Nat.le_of_ble_eq_true rfl) (ls' := [(5, .int _), (4, .int _), (0, .ref _), (2, .ref _), (3, .int _)]) rfl ?_
          refine GG.goto (tgt := 14) e_X8_swingsThatFit_51 rfl ?_
          refine ih (j + 1) _ _ _ (by omega) (by omega) ?_ (hTL.sw (k := k) (a := nI j)) (fun a => by rw [uV_u, hV])
          rw [mBits, h36, hl]
          rfl
  refine SPC.of (by decide +kernel) (Nat.le_of_ble_eq_true rfl) (ls := [(0, .ref (50)), (1, .ref (2)), (2, .ref (8)), (3, .int (nI k))]) rfl ?_
  refine GG.aload_n e_X8_swingsThatFit_0 (i := 0) rfl 0 rfl ?_
  refine GG.getR (b := 51) e_X8_swingsThatFit_1 fl_X8_12 (sf_X8_0 i_X8_50) ?_
  refine GG.aload_n e_X8_swingsThatFit_4 (i := 1) rfl 1 rfl ?_
  refine GG.callV (d' := 1) (a := 51) (as := [.ref 2]) e_X8_swingsThatFit_5 ml_X8_22 mf_X4_copyFrom mv_X4_copyFrom (rc_X4 i_X4_51) rfl (by decide) (Nat.le_of_ble_eq_true rfl) rfl ?_
  refine s_X4_copyFrom i_X4_2 i_X4_51 (by omega) ?_
  refine GG.iconst (v := 0) e_X8_swingsThatFit_8 rfl ?_
  refine GG.istore e_X8_swingsThatFit_9 (Nat.le_of_ble_eq_true rfl) (ls' := [(4, .int _), (0, .ref _), (1, .ref _), (2, .ref _), (3, .int _)]) rfl ?_
  refine GG.iconst (v := 0) e_X8_swingsThatFit_11 rfl ?_
  refine GG.istore e_X8_swingsThatFit_12 (Nat.le_of_ble_eq_true rfl) (ls' := [(5, .int _), (4, .int _), (0, .ref _), (1, .ref _), (2, .ref _), (3, .int _)]) rfl ?_
  refine GG.perm [0, 1, 2, 4, 5] rfl ?_
  exact lp 11 0 _ _ _ (by omega) (by omega) rfl (TL_Lc hL) (fun a => rfl)
theorem s_X8_fewestAunts {m : Nat} (hL : LC μ 2 P A) (hm : m < 2 ^ 31) {f : Nat → Bool} (hf : ∀ j, j < 2 ^ A → (f j = true ↔ ∀ d, d < m → ¬ mrd μ 2 0 ≤ vRch (cV μ 2) (nI j) A P (mrd μ 2 9 + nI d) (-1))) (hQ : ∀ ν, gSm μ ν → Q (some (.int (mStl f (2 ^ A)))) ν) : SPC 5 MX8_fewestAunts [.ref 50, .ref 2, .int (nI m)] μ Q := by
  have hA := hL.2.2.2
  have h16 := shA16 A (by omega)
  have lp : ∀ n j x ν th, 2 ^ A - j < n → j ≤ 2 ^ A → x = mStl f j → TL μ ν (cV μ 2) P A (mrd μ 2 0) th (mrd μ 2 9) → GG 5 MX8_fewestAunts 13 [(4, .int (nI j)), (3, .int x), (0, .ref 50), (2, .int (nI m))] [] ν Q := by
    intro n
    induction n with
    | zero => intro j x ν th h; omega
    | succ n ih =>
      intro j x ν th hn hj hl hTL
      have j87 : ∀ y ν, y = mStl f (j + 1) → j < 2 ^ A → TL μ ν (cV μ 2) P A (mrd μ 2 0) (nI j) (mrd μ 2 9) → GG 5 MX8_fewestAunts 87 [(4, .int (nI j)), (3, .int y), (0, .ref 50), (2, .int (nI m))] [] ν Q := by
        intro y ν hy e hT2
        refine GG.iinc e_X8_fewestAunts_87 0 rfl (v := _) (by first | exact nI_s _ | exact nI_d _ | rfl) (Nat.le_of_ble_eq_true rfl) (ls' := [(4, .int _), (3, .int _), (0, .ref _), (2, .int _)]) rfl ?_
        refine GG.goto (tgt := 13) e_X8_fewestAunts_90 rfl ?_
        exact ih (j + 1) _ _ _ (by omega) (by omega) hy hT2
      have j80 : ∀ r ν, (r = -1 ↔ f j = true) → (x = -1 ∨ mBc (nI j) < mBc x) → j < 2 ^ A → TL μ ν (cV μ 2) P A (mrd μ 2 0) (nI j) (mrd μ 2 9) → GG 5 MX8_fewestAunts 80 [(4, .int (nI j)), (3, .int x), (0, .ref 50), (2, .int (nI m))] [.int r] ν Q := by
        intro r ν hr hx e hT2
        refine GG.iconst (v := -1) e_X8_fewestAunts_80 rfl ?_
        refine GG.icmp_ne (tgt := 87) e_X8_fewestAunts_81 rfl (fun h81 => ?_) (fun h81 => ?_)
        · skip
          have hy : x = mStl f (j + 1) := by rw [mStl, ← hl, if_neg (fun q => h81 (hr.mpr q.2))]
          exact j87 _ _ hy e hT2
        · skip
          have hy : nI j = mStl f (j + 1) := by rw [mStl, ← hl, if_pos ⟨hx, hr.mp h81⟩]
          refine GG.iload e_X8_fewestAunts_84 0 rfl ?_
          refine GG.istore_n e_X8_fewestAunts_86 (i := 3) rfl (Nat.le_of_ble_eq_true rfl) (ls' := [(3, .int _), (4, .int _), (0, .ref _), (2, .int _)]) rfl ?_
          refine GG.perm [1, 0, 2, 3] rfl ?_
          exact j87 _ _ hy e hT2
      have j56 : ∀ z : Bool, z = decide (x = -1 ∨ mBc (nI j) < mBc x) → j < 2 ^ A → GG 5 MX8_fewestAunts 56 [(4, .int (nI j)), (3, .int x), (0, .ref 50), (2, .int (nI m))] [.int (bI z)] ν Q := by
        intro z hz e
        have hT2 := hTL.th (x := nI j)
        refine GG.istore e_X8_fewestAunts_56 (Nat.le_of_ble_eq_true rfl) (ls' := [(5, .int _), (4, .int _), (3, .int _), (0, .ref _), (2, .int _)]) rfl ?_
        refine GG.aload_n e_X8_fewestAunts_58 (i := 0) rfl 3 rfl ?_
        refine GG.getR (b := 51) e_X8_fewestAunts_59 fl_X8_12 (sf_X8_0 i_X8_50) ?_
        refine GG.iload e_X8_fewestAunts_62 1 rfl ?_
        refine GG.putI e_X8_fewestAunts_64 fl_X8_46 fp_X4_8 (sf_X4_8 i_X4_51) ?_
        refine GG.iload e_X8_fewestAunts_67 0 rfl ?_
        refine GG.if_eq (tgt := 87) e_X8_fewestAunts_69 rfl (fun h69 => ?_) (fun h69 => ?_)
        · skip
          have hy : x = mStl f (j + 1) := by rw [bI_0, hz] at h69; rw [mStl, ← hl, if_neg (fun q => of_decide_eq_false h69 q.1)]
          refine GG.perm [1, 2, 3, 4] rfl ?_
          exact j87 _ _ hy e hT2
        · skip
          refine GG.aload_n e_X8_fewestAunts_72 (i := 0) rfl 3 rfl ?_
          refine GG.getR (b := 51) e_X8_fewestAunts_73 fl_X8_12 (sf_X8_0 i_X8_50) ?_
          refine GG.iload_n e_X8_fewestAunts_76 (i := 2) rfl 4 rfl ?_
          refine GG.callV (d' := 4) (a := 51) (as := [.int _]) e_X8_fewestAunts_77 ml_X8_49 mf_X4_firstSounding mv_X4_firstSounding (rc_X4 i_X4_51) rfl (by decide) (Nat.le_of_ble_eq_true rfl) rfl ?_
          refine s_X4_firstSounding (f := fun d => decide (mrd μ 2 0 ≤ vRch (cV μ 2) (nI j) A P (mrd μ 2 9 + nI d) (-1))) i_X4_51 hT2.2.1 hm (fun d hd => ?_) (fun hall => ?_) (fun d hd hd1 hd2 => ?_)
          · have e := vRch_c (th := nI j) (c := mrd μ 2 9 + nI d) (lo := -1) hT2.2.2.2.2.2
            rw [← e, hT2.2.2.1, hT2.2.2.2.1, hT2.2.2.2.2.1]
            rfl
          · refine GG.perm [1, 2, 3, 4] rfl (j80 _ _ ?_ ?_ e hT2)
            · exact ⟨fun _ => (hf j e).mpr (fun d hd => of_decide_eq_false (hall d hd)), fun _ => rfl⟩
            · rw [bI_0, Bool.not_eq_false, hz] at h69
              exact of_decide_eq_true h69
          · refine GG.perm [1, 2, 3, 4] rfl (j80 _ _ ?_ ?_ e hT2)
            · refine ⟨fun q => ?_, fun q => absurd (of_decide_eq_true hd1) ((hf j e).mp q d hd)⟩
              have e1 := congrArg Int32.toInt q
              rw [nI_toInt (by omega)] at e1
              have e2 : (-1 : Int32).toInt = -1 := by decide
              omega
            · rw [bI_0, Bool.not_eq_false, hz] at h69
              exact of_decide_eq_true h69
      refine GG.iload e_X8_fewestAunts_13 0 rfl ?_
      refine GG.iconst (v := 1) e_X8_fewestAunts_15 rfl ?_
      refine GG.aload_n e_X8_fewestAunts_16 (i := 0) rfl 2 rfl ?_
      refine GG.getR (b := 51) e_X8_fewestAunts_17 fl_X8_12 (sf_X8_0 i_X8_50) ?_
      refine GG.getIv (v := nI A) e_X8_fewestAunts_20 fl_X8_37 (sf_X4_5 i_X4_51) (hTL.2.1.2.2.1) ?_
      refine GG.ishl e_X8_fewestAunts_23 ?_
      refine GG.top (shA A (by omega)) ?_
      refine GG.icmp_ge (tgt := 93) e_X8_fewestAunts_24 rfl (fun h24 => ?_) (fun h24 => ?_)
      · skip
        have e := nle h24 (by omega) (by omega)
        have e2 : j = 2 ^ A := by omega
        subst e2
        refine GG.iload_n e_X8_fewestAunts_93 (i := 3) rfl 1 rfl ?_
        refine GG.iret e_X8_fewestAunts_94 rfl rfl ?_
        exact qI (hQ _ hTL.1) hl
      · skip
        have e := nnle h24 (by omega) (by omega)
        refine GG.iload e_X8_fewestAunts_27 0 rfl ?_
        refine GG.bipush (v := 16) e_X8_fewestAunts_29 rfl ?_
        refine GG.icmp_ge (tgt := 93) e_X8_fewestAunts_31 rfl (fun h31 => absurd h31 (by exact fun z => absurd (nle (a := 16) z (by omega) (by omega)) (by omega))) (fun h31 => ?_)
        refine GG.iload_n e_X8_fewestAunts_34 (i := 3) rfl 1 rfl ?_
        refine GG.iconst (v := -1) e_X8_fewestAunts_35 rfl ?_
        refine GG.icmp_eq (tgt := 51) e_X8_fewestAunts_36 rfl (fun h36 => ?_) (fun h36 => ?_)
        · skip
          refine GG.iconst (v := 1) e_X8_fewestAunts_51 rfl ?_
          refine GG.goto (tgt := 56) e_X8_fewestAunts_52 rfl ?_
          first | exact j56 true (by rw [eq_comm, decide_eq_true_eq]; exact Or.inl h36) e | exact j56 true (by rw [eq_comm, decide_eq_true_eq]; exact Or.inr (by grind)) e | exact j56 false (by rw [eq_comm, decide_eq_false_iff_not]; grind) e
        · skip
          refine GG.iload e_X8_fewestAunts_39 0 rfl ?_
          refine GG.callS (d' := 0) (as := [.int _]) e_X8_fewestAunts_41 ml_X8_40 mf_J6_bitCount_0f7a4 ms_J6_bitCount_0f7a4 rfl (by decide) (Nat.le_of_ble_eq_true rfl) rfl ?_
          refine s_J6_bitCount_0f7a4 ?_
          refine GG.iload_n e_X8_fewestAunts_44 (i := 3) rfl 1 rfl ?_
          refine GG.callS (d' := 0) (as := [.int _]) e_X8_fewestAunts_45 ml_X8_40 mf_J6_bitCount_0f7a4 ms_J6_bitCount_0f7a4 rfl (by decide) (Nat.le_of_ble_eq_true rfl) rfl ?_
          refine s_J6_bitCount_0f7a4 ?_
          refine GG.icmp_ge (tgt := 55) e_X8_fewestAunts_48 rfl (fun h48 => ?_) (fun h48 => ?_)
          · skip
            refine GG.iconst (v := 0) e_X8_fewestAunts_55 rfl ?_
            first | exact j56 true (by rw [eq_comm, decide_eq_true_eq]; exact Or.inl h36) e | exact j56 true (by rw [eq_comm, decide_eq_true_eq]; exact Or.inr (by grind)) e | exact j56 false (by rw [eq_comm, decide_eq_false_iff_not]; grind) e
          · skip
            refine GG.iconst (v := 1) e_X8_fewestAunts_51 rfl ?_
            refine GG.goto (tgt := 56) e_X8_fewestAunts_52 rfl ?_
            first | exact j56 true (by rw [eq_comm, decide_eq_true_eq]; exact Or.inl h36) e | exact j56 true (by rw [eq_comm, decide_eq_true_eq]; exact Or.inr (by grind)) e | exact j56 false (by rw [eq_comm, decide_eq_false_iff_not]; grind) e
  refine SPC.of (by decide +kernel) (Nat.le_of_ble_eq_true rfl) (ls := [(0, .ref (50)), (1, .ref (2)), (2, .int (nI m))]) rfl ?_
  refine GG.aload_n e_X8_fewestAunts_0 (i := 0) rfl 0 rfl ?_
  refine GG.getR (b := 51) e_X8_fewestAunts_1 fl_X8_12 (sf_X8_0 i_X8_50) ?_
  refine GG.aload_n e_X8_fewestAunts_4 (i := 1) rfl 1 rfl ?_
  refine GG.callV (d' := 1) (a := 51) (as := [.ref 2]) e_X8_fewestAunts_5 ml_X8_22 mf_X4_copyFrom mv_X4_copyFrom (rc_X4 i_X4_51) rfl (by decide) (Nat.le_of_ble_eq_true rfl) rfl ?_
  refine s_X4_copyFrom i_X4_2 i_X4_51 (by omega) ?_
  refine GG.iconst (v := -1) e_X8_fewestAunts_8 rfl ?_
  refine GG.istore_n e_X8_fewestAunts_9 (i := 3) rfl (Nat.le_of_ble_eq_true rfl) (ls' := [(3, .int _), (0, .ref _), (1, .ref _), (2, .int _)]) rfl ?_
  refine GG.iconst (v := 0) e_X8_fewestAunts_10 rfl ?_
  refine GG.istore e_X8_fewestAunts_11 (Nat.le_of_ble_eq_true rfl) (ls' := [(4, .int _), (3, .int _), (0, .ref _), (1, .ref _), (2, .int _)]) rfl ?_
  refine GG.perm [0, 1, 2, 4] rfl ?_
  exact lp (2 ^ A + 1) 0 _ _ _ (Nat.lt_succ_of_le (Nat.sub_le _ _)) (Nat.zero_le _) rfl (TL_Lc hL)
end S20
