/-! TRIAL: the game, slips, reigns, the count to hear -/
def mIrem (q : Nat) : Int32 := nI q - nI q / 10 * 10
theorem mIrem_n {q : Nat} (hq : q < 2 ^ 31) : nI q - nI q / 10 * 10 = nI (q % 10) := pk_rem (d := 10) hq (by omega) (by omega)
theorem mIrem20 {q : Nat} (hq : q < 2 ^ 31) : nI q - nI q / 20 * 20 = nI (q % 20) := pk_rem (d := 20) hq (by omega) (by omega)
def gSw (g : Nat → Int32) (q : Nat) : Int32 := g q - nI (q % 10)
def gAu (g : Nat → Int32) (q : Nat) : Int32 := -(g q) - (if q < 10 then 0 else 2)
def gRs (g : Nat → Int32) (q : Nat) : Bool := mAll (fun a => decide (gSw g (q - q % 10 + a) ≤ gSw g q)) 10 && decide (gAu g ((q + 10) % 20) ≤ gAu g q)
def mCt (f : Nat → Bool) : Nat → Nat
  | 0 => 0
  | n + 1 => if f n = true then mCt f n + 1 else mCt f n
theorem mCt_le (f : Nat → Bool) (n : Nat) : mCt f n ≤ n := by
  induction n with
  | zero => exact Nat.le_refl _
  | succ n ih => rw [mCt]; split <;> omega
def mBst (g : Nat → Int32) : Nat → Int32 × Int32
  | 0 => (-1, 28)
  | n + 1 => if g n < (mBst g n).2 then (nI n, g n) else mBst g n
def mUp (x : Int32) : Int32 := ((1 : Int32) <<< (mMax 0 (mMin x 30 - 4 + 1) &&& 31)) - 1
def mHg (r : Int32) (bits : Int32) : Int32 := mMax (mBc (bits &&& mUp r)) (mBc bits - mBc (bits &&& mUp r))
def rXx (x : Int64) : Int64 := (x * 1103515245 + 12345) - (x * 1103515245 + 12345) / 2147483648 * 2147483648
def rIx (x : Int64) : Int32 := (x / 65536 - x / 65536 / 7 * 7).toInt32
def rAx (x : Int64) : Int32 := (x / 1048576 - x / 1048576 / 10 * 10).toInt32
def mRei (V : Nat → Nat → Int32) (th : Int32) (A : Nat) (w : Int32) (P : Nat) (t : Int32) (seed : Int64) : Nat → Int64 × (Nat → Nat → Int32) × Int32
  | 0 => (seed, V, 0)
  | n + 1 => match mRei V th A w P t seed n with
    | (x, W, s) => (rXx x, if mIn (rIx (rXx x)) P = true then uV W (rIx (rXx x)).toNatClampNeg (rAx (rXx x)) else W, s + vSnd (if mIn (rIx (rXx x)) P = true then uV W (rIx (rXx x)).toNatClampNeg (rAx (rXx x)) else W) th A w P (t + nI n))
theorem thc : ∀ T, T < 16 → ∀ u, u < 4 → nI T &&& (((1 : Int32) <<< (nI u &&& 31)) ^^^ (-1)) = nI (T &&& (15 ^^^ 2 ^ u)) ∧ nI T ||| ((1 : Int32) <<< (nI u &&& 31)) = nI (T ||| 2 ^ u) ∧ (T &&& (15 ^^^ 2 ^ u)) < 16 ∧ (T ||| 2 ^ u) < 16 ∧ (T &&& (15 ^^^ 2 ^ u)) &&& (15 ^^^ 2 ^ u) = T &&& (15 ^^^ 2 ^ u) ∧ (T &&& (15 ^^^ 2 ^ u)) ||| 2 ^ u = T ||| 2 ^ u ∧ (T ||| 2 ^ u) ||| 2 ^ u = T ||| 2 ^ u ∧ (T ||| 2 ^ u) &&& (15 ^^^ 2 ^ u) = T &&& (15 ^^^ 2 ^ u) := by decide +kernel
section S21
variable {μ ν : gM} {Q : Option Value → gM → Prop} {P A k T u : Nat} {V : Nat → Nat → Int32} {w th t c : Int32} {g : Nat → Int32}
theorem s_X8_soundOfPair {q : Nat} (hq : q < 20) (hQ : Q (some (.int (mrd μ 57 q))) μ) : SPC 1 MX8_soundOfPair [.ref 50, .int (nI q)] μ Q := by
  have e0 : ¬ (nI q < 0 ∨ 19 < nI q) := by
    intro z
    rcases z with z | z
    · exact nI_pos (by omega) z
    · have := nlt (a := 19) z (by omega) (by omega)
      omega
  refine SPC.of (by decide +kernel) (Nat.le_of_ble_eq_true rfl) (ls := [(0, .ref (50)), (1, .int (nI q))]) rfl ?_
  refine GG.iload_n e_X8_soundOfPair_0 (i := 1) rfl 1 rfl ?_
  refine GG.iconst (v := 0) e_X8_soundOfPair_1 rfl ?_
  refine GG.bipush (v := 19) e_X8_soundOfPair_2 rfl ?_
  refine GG.callN (d' := 0) (as := [.int _, .int _, .int _]) e_X8_soundOfPair_4 ml_X8_108 mf_X10_outside ms_X10_outside rfl (by decide) (Nat.le_of_ble_eq_true rfl) rfl ?_
  refine s_X10_outside ?_
  refine GG.if_eq (tgt := 14) e_X8_soundOfPair_7 rfl (fun h7 => ?_) (fun h7 => absurd h7 (by rw [bI_0, decide_eq_false_iff_not]; exact fun z => z e0))
  refine GG.aload_n e_X8_soundOfPair_14 (i := 0) rfl 0 rfl ?_
  refine GG.getR (b := 57) e_X8_soundOfPair_15 fl_X8_18 (sf_X8_1 i_X8_50) ?_
  refine GG.iload_n e_X8_soundOfPair_18 (i := 1) rfl 1 rfl ?_
  refine GG.ialoadE (k := _) e_X8_soundOfPair_19 (sa_X8_1 i_X8_50) (rfl) (by omega) (Nat.le_of_ble_eq_true rfl) ?_
  refine GG.iret e_X8_soundOfPair_20 rfl rfl ?_
  exact hQ
theorem s_X8_swingerGets {q : Nat} (hq : q < 20) (hQ : Q (some (.int (gSw (mrd μ 57) q))) μ) : SPC 2 MX8_swingerGets [.ref 50, .int (nI q)] μ Q := by
  refine SPC.of (by decide +kernel) (Nat.le_of_ble_eq_true rfl) (ls := [(0, .ref (50)), (1, .int (nI q))]) rfl ?_
  refine GG.aload_n e_X8_swingerGets_0 (i := 0) rfl 0 rfl ?_
  refine GG.iload_n e_X8_swingerGets_1 (i := 1) rfl 1 rfl ?_
  refine GG.callV (d' := 1) (a := 50) (as := [.int _]) e_X8_swingerGets_2 ml_X8_105 mf_X8_soundOfPair mv_X8_soundOfPair (rc_X8 i_X8_50) rfl (by decide) (Nat.le_of_ble_eq_true rfl) rfl ?_
  refine s_X8_soundOfPair hq ?_
  refine GG.iload_n e_X8_swingerGets_5 (i := 1) rfl 1 rfl ?_
  refine GG.bipush (v := 10) e_X8_swingerGets_6 rfl ?_
  refine GG.irem e_X8_swingerGets_8 (by decide) ?_
  refine GG.isub e_X8_swingerGets_9 ?_
  refine GG.iret e_X8_swingerGets_10 rfl rfl ?_
  exact qI hQ (by rw [gSw, mIrem_n (by omega)])
theorem s_X8_auntGets {q : Nat} (hq : q < 20) (hQ : Q (some (.int (gAu (mrd μ 57) q))) μ) : SPC 2 MX8_auntGets [.ref 50, .int (nI q)] μ Q := by
  refine SPC.of (by decide +kernel) (Nat.le_of_ble_eq_true rfl) (ls := [(0, .ref (50)), (1, .int (nI q))]) rfl ?_
  refine GG.aload_n e_X8_auntGets_0 (i := 0) rfl 0 rfl ?_
  refine GG.iload_n e_X8_auntGets_1 (i := 1) rfl 1 rfl ?_
  refine GG.callV (d' := 1) (a := 50) (as := [.int _]) e_X8_auntGets_2 ml_X8_105 mf_X8_soundOfPair mv_X8_soundOfPair (rc_X8 i_X8_50) rfl (by decide) (Nat.le_of_ble_eq_true rfl) rfl ?_
  refine s_X8_soundOfPair hq ?_
  refine GG.ineg e_X8_auntGets_5 ?_
  refine GG.iload_n e_X8_auntGets_6 (i := 1) rfl 1 rfl ?_
  refine GG.bipush (v := 10) e_X8_auntGets_7 rfl ?_
  refine GG.icmp_lt (tgt := 16) e_X8_auntGets_9 rfl (fun h9 => ?_) (fun h9 => ?_)
  · skip
    have e := nlt (b := 10) h9 (by omega) (by omega)
    refine GG.iconst (v := 0) e_X8_auntGets_16 rfl ?_
    refine GG.isub e_X8_auntGets_17 ?_
    refine GG.iret e_X8_auntGets_18 rfl rfl ?_
    exact qI hQ (by simp [gAu, e])
  · skip
    have e : ¬ q < 10 := by have := nnlt (b := 10) h9 (by omega) (by omega); omega
    refine GG.iconst (v := 2) e_X8_auntGets_12 rfl ?_
    refine GG.goto (tgt := 17) e_X8_auntGets_13 rfl ?_
    refine GG.isub e_X8_auntGets_17 ?_
    refine GG.iret e_X8_auntGets_18 rfl rfl ?_
    exact qI hQ (by simp [gAu, e])
theorem s_X8_rests {q : Nat} (hq : q < 20) (hQ : Q (some (.int (bI (gRs (mrd μ 57) q)))) μ) : SPC 3 MX8_rests [.ref 50, .int (nI q)] μ Q := by
  have e1 : nI q - nI (q % 10) = nI (q - q % 10) := pk_sub (Nat.mod_le _ _)
  have lp : ∀ n j, 10 - j < n → j ≤ 10 → (∀ a, a < j → decide (gSw (mrd μ 57) (q - q % 10 + a) ≤ gSw (mrd μ 57) q) = true) → GG 3 MX8_rests 9 [(3, .int (nI j)), (2, .int (nI (q - q % 10))), (0, .ref 50), (1, .int (nI q))] [] μ Q := by
    intro n
    induction n with
    | zero => intro j h; omega
    | succ n ih =>
      intro j hn hj hl
      refine GG.iload_n e_X8_rests_9 (i := 3) rfl 0 rfl ?_
      refine GG.bipush (v := 10) e_X8_rests_10 rfl ?_
      refine GG.icmp_ge (tgt := 38) e_X8_rests_12 rfl (fun h12 => ?_) (fun h12 => ?_)
      · skip
        have e := nle (a := 10) h12 (by omega) (by omega)
        have e2 : j = 10 := by omega
        subst e2
        refine GG.aload_n e_X8_rests_38 (i := 0) rfl 2 rfl ?_
        refine GG.iload_n e_X8_rests_39 (i := 1) rfl 3 rfl ?_
        refine GG.bipush (v := 10) e_X8_rests_40 rfl ?_
        refine GG.iadd e_X8_rests_42 ?_
        refine GG.bipush (v := 20) e_X8_rests_43 rfl ?_
        refine GG.irem e_X8_rests_45 (by decide) ?_
        refine GG.top (show (nI q + 10) - (nI q + 10) / 20 * 20 = nI ((q + 10) % 20) by rw [show nI q + 10 = nI (q + 10) from nI_add q 10, mIrem20 (by omega)]) ?_
        refine GG.callV (d' := 2) (a := 50) (as := [.int _]) e_X8_rests_46 ml_X8_102 mf_X8_auntGets mv_X8_auntGets (rc_X8 i_X8_50) rfl (by decide) (Nat.le_of_ble_eq_true rfl) rfl ?_
        refine s_X8_auntGets (by omega) ?_
        refine GG.aload_n e_X8_rests_49 (i := 0) rfl 2 rfl ?_
        refine GG.iload_n e_X8_rests_50 (i := 1) rfl 3 rfl ?_
        refine GG.callV (d' := 2) (a := 50) (as := [.int _]) e_X8_rests_51 ml_X8_102 mf_X8_auntGets mv_X8_auntGets (rc_X8 i_X8_50) rfl (by decide) (Nat.le_of_ble_eq_true rfl) rfl ?_
        refine s_X8_auntGets hq ?_
        refine GG.icmp_gt (tgt := 61) e_X8_rests_54 rfl (fun h54 => ?_) (fun h54 => ?_)
        · skip
          refine GG.iconst (v := 0) e_X8_rests_61 rfl ?_
          refine GG.zret e_X8_rests_62 rfl rfl rfl ?_
          exact qI hQ (by rw [gRs, mAll_iff.mpr hl]; first | (rw [decide_eq_true (by grind)]; rfl) | (rw [decide_eq_false (by grind)]; rfl))
        · skip
          refine GG.iconst (v := 1) e_X8_rests_57 rfl ?_
          refine GG.goto (tgt := 62) e_X8_rests_58 rfl ?_
          refine GG.zret e_X8_rests_62 rfl rfl rfl ?_
          exact qI hQ (by rw [gRs, mAll_iff.mpr hl]; first | (rw [decide_eq_true (by grind)]; rfl) | (rw [decide_eq_false (by grind)]; rfl))
      · skip
        have e := nnle (a := 10) h12 (by omega) (by omega)
        refine GG.aload_n e_X8_rests_15 (i := 0) rfl 2 rfl ?_
        refine GG.iload_n e_X8_rests_16 (i := 2) rfl 1 rfl ?_
        refine GG.iload_n e_X8_rests_17 (i := 3) rfl 0 rfl ?_
        refine GG.iadd e_X8_rests_18 ?_
        refine GG.top (nI_add (q - q % 10) j) ?_
        refine GG.callV (d' := 2) (a := 50) (as := [.int _]) e_X8_rests_19 ml_X8_99 mf_X8_swingerGets mv_X8_swingerGets (rc_X8 i_X8_50) rfl (by decide) (Nat.le_of_ble_eq_true rfl) rfl ?_
        refine s_X8_swingerGets (by omega) ?_
        refine GG.aload_n e_X8_rests_22 (i := 0) rfl 2 rfl ?_
        refine GG.iload_n e_X8_rests_23 (i := 1) rfl 3 rfl ?_
        refine GG.callV (d' := 2) (a := 50) (as := [.int _]) e_X8_rests_24 ml_X8_99 mf_X8_swingerGets mv_X8_swingerGets (rc_X8 i_X8_50) rfl (by decide) (Nat.le_of_ble_eq_true rfl) rfl ?_
        refine s_X8_swingerGets hq ?_
        refine GG.icmp_le (tgt := 32) e_X8_rests_27 rfl (fun h27 => ?_) (fun h27 => ?_)
        · skip
          refine GG.iinc e_X8_rests_32 0 rfl (v := _) (by first | exact nI_s _ | exact nI_d _ | rfl) (Nat.le_of_ble_eq_true rfl) (ls' := [(3, .int _), (2, .int _), (0, .ref _), (1, .int _)]) rfl ?_
          refine GG.goto (tgt := 9) e_X8_rests_35 rfl ?_
          refine ih (j + 1) (by omega) (by omega) (fun a ha => ?_)
          by_cases hh : a = j
          · subst hh; exact decide_eq_true h27
          · exact hl a (by omega)
        · skip
          refine GG.iconst (v := 0) e_X8_rests_30 rfl ?_
          refine GG.zret e_X8_rests_31 rfl rfl rfl ?_
          exact qI hQ (by rw [gRs, mAll_f (k := j) e (decide_eq_false h27)]; rfl)
  refine SPC.of (by decide +kernel) (Nat.le_of_ble_eq_true rfl) (ls := [(0, .ref (50)), (1, .int (nI q))]) rfl ?_
  refine GG.iload_n e_X8_rests_0 (i := 1) rfl 1 rfl ?_
  refine GG.iload_n e_X8_rests_1 (i := 1) rfl 1 rfl ?_
  refine GG.bipush (v := 10) e_X8_rests_2 rfl ?_
  refine GG.irem e_X8_rests_4 (by decide) ?_
  refine GG.top (mIrem_n (by omega)) ?_
  refine GG.isub e_X8_rests_5 ?_
  refine GG.top e1 ?_
  refine GG.istore_n e_X8_rests_6 (i := 2) rfl (Nat.le_of_ble_eq_true rfl) (ls' := [(2, .int _), (0, .ref _), (1, .int _)]) rfl ?_
  refine GG.iconst (v := 0) e_X8_rests_7 rfl ?_
  refine GG.istore_n e_X8_rests_8 (i := 3) rfl (Nat.le_of_ble_eq_true rfl) (ls' := [(3, .int _), (2, .int _), (0, .ref _), (1, .int _)]) rfl ?_
  exact lp 11 0 (by omega) (by omega) (fun a h => by omega)
theorem s_X8_restingPairs (hQ : Q (some (.int (nI (mCt (gRs (mrd μ 57)) 20)))) μ) : SPC 4 MX8_restingPairs [.ref 50] μ Q := by
  have lp : ∀ n j, 20 - j < n → j ≤ 20 → GG 4 MX8_restingPairs 4 [(2, .int (nI j)), (1, .int (nI (mCt (gRs (mrd μ 57)) j))), (0, .ref 50)] [] μ Q := by
    intro n
    induction n with
    | zero => intro j h; omega
    | succ n ih =>
      intro j hn hj
      refine GG.iload_n e_X8_restingPairs_4 (i := 2) rfl 0 rfl ?_
      refine GG.bipush (v := 20) e_X8_restingPairs_5 rfl ?_
      refine GG.icmp_ge (tgt := 27) e_X8_restingPairs_7 rfl (fun h7 => ?_) (fun h7 => ?_)
      · skip
        have e := nle (a := 20) h7 (by omega) (by omega)
        have e2 : j = 20 := by omega
        subst e2
        refine GG.iload_n e_X8_restingPairs_27 (i := 1) rfl 1 rfl ?_
        refine GG.iret e_X8_restingPairs_28 rfl rfl ?_
        exact hQ
      · skip
        have e := nnle (a := 20) h7 (by omega) (by omega)
        refine GG.aload_n e_X8_restingPairs_10 (i := 0) rfl 2 rfl ?_
        refine GG.iload_n e_X8_restingPairs_11 (i := 2) rfl 0 rfl ?_
        refine GG.callV (d' := 3) (a := 50) (as := [.int _]) e_X8_restingPairs_12 ml_X8_96 mf_X8_rests mv_X8_rests (rc_X8 i_X8_50) rfl (by decide) (Nat.le_of_ble_eq_true rfl) rfl ?_
        refine s_X8_rests e ?_
        refine GG.if_eq (tgt := 21) e_X8_restingPairs_15 rfl (fun h15 => ?_) (fun h15 => ?_)
        · skip
          rw [bI_0] at h15
          have hc : mCt (gRs (mrd μ 57)) (j + 1) = mCt (gRs (mrd μ 57)) j := by rw [mCt, if_neg (by rw [h15]; decide)]
          refine GG.iinc e_X8_restingPairs_21 0 rfl (v := _) (by first | exact nI_s _ | exact nI_d _ | rfl) (Nat.le_of_ble_eq_true rfl) (ls' := [(2, .int _), (1, .int _), (0, .ref _)]) rfl ?_
          refine GG.goto (tgt := 4) e_X8_restingPairs_24 rfl ?_
          rw [← hc]
          exact ih (j + 1) (by omega) (by omega)
        · skip
          rw [bI_0, Bool.not_eq_false] at h15
          have hc : mCt (gRs (mrd μ 57)) (j + 1) = mCt (gRs (mrd μ 57)) j + 1 := by rw [mCt, if_pos h15]
          refine GG.iinc e_X8_restingPairs_18 1 rfl (v := _) (by first | exact nI_s _ | exact nI_d _ | rfl) (Nat.le_of_ble_eq_true rfl) (ls' := [(1, .int _), (2, .int _), (0, .ref _)]) rfl ?_
          refine GG.iinc e_X8_restingPairs_21 1 rfl (v := _) (by first | exact nI_s _ | exact nI_d _ | rfl) (Nat.le_of_ble_eq_true rfl) (ls' := [(2, .int _), (1, .int _), (0, .ref _)]) rfl ?_
          refine GG.goto (tgt := 4) e_X8_restingPairs_24 rfl ?_
          rw [← hc]
          exact ih (j + 1) (by omega) (by omega)
  refine SPC.of (by decide +kernel) (Nat.le_of_ble_eq_true rfl) (ls := [(0, .ref (50))]) rfl ?_
  refine GG.iconst (v := 0) e_X8_restingPairs_0 rfl ?_
  refine GG.istore_n e_X8_restingPairs_1 (i := 1) rfl (Nat.le_of_ble_eq_true rfl) (ls' := [(1, .int _), (0, .ref _)]) rfl ?_
  refine GG.iconst (v := 0) e_X8_restingPairs_2 rfl ?_
  refine GG.istore_n e_X8_restingPairs_3 (i := 2) rfl (Nat.le_of_ble_eq_true rfl) (ls' := [(2, .int _), (1, .int _), (0, .ref _)]) rfl ?_
  exact lp 21 0 (by omega) (by omega)
theorem s_X8_restingPair {n : Int32} (hn : (∀ q, q < 20 → gRs (mrd μ 57) q = true → ¬ nI (mCt (gRs (mrd μ 57)) q) = n) → Q (some (.int (-5))) μ) (hy : ∀ q, q < 20 → gRs (mrd μ 57) q = true → nI (mCt (gRs (mrd μ 57)) q) = n → Q (some (.int (nI q))) μ) : SPC 4 MX8_restingPair [.ref 50, .int n] μ Q := by
  have lp : ∀ m j, 20 - j < m → j ≤ 20 → (∀ q, q < j → gRs (mrd μ 57) q = true → ¬ nI (mCt (gRs (mrd μ 57)) q) = n) → GG 4 MX8_restingPair 4 [(3, .int (nI j)), (2, .int (nI (mCt (gRs (mrd μ 57)) j))), (0, .ref 50), (1, .int n)] [] μ Q := by
    intro m
    induction m with
    | zero => intro j h; omega
    | succ m ih =>
      intro j hm hj hl
      refine GG.iload_n e_X8_restingPair_4 (i := 3) rfl 0 rfl ?_
      refine GG.bipush (v := 20) e_X8_restingPair_5 rfl ?_
      refine GG.icmp_ge (tgt := 34) e_X8_restingPair_7 rfl (fun h7 => ?_) (fun h7 => ?_)
      · skip
        have e := nle (a := 20) h7 (by omega) (by omega)
        have e2 : j = 20 := by omega
        subst e2
        refine GG.bipush (v := -5) e_X8_restingPair_34 rfl ?_
        refine GG.iret e_X8_restingPair_36 rfl rfl ?_
        exact hn hl
      · skip
        have e := nnle (a := 20) h7 (by omega) (by omega)
        refine GG.aload_n e_X8_restingPair_10 (i := 0) rfl 2 rfl ?_
        refine GG.iload_n e_X8_restingPair_11 (i := 3) rfl 0 rfl ?_
        refine GG.callV (d' := 3) (a := 50) (as := [.int _]) e_X8_restingPair_12 ml_X8_96 mf_X8_rests mv_X8_rests (rc_X8 i_X8_50) rfl (by decide) (Nat.le_of_ble_eq_true rfl) rfl ?_
        refine s_X8_rests e ?_
        refine GG.if_eq (tgt := 28) e_X8_restingPair_15 rfl (fun h15 => ?_) (fun h15 => ?_)
        · skip
          rw [bI_0] at h15
          have hc : mCt (gRs (mrd μ 57)) (j + 1) = mCt (gRs (mrd μ 57)) j := by rw [mCt, if_neg (by rw [h15]; decide)]
          have hl' : ∀ q, q < j + 1 → gRs (mrd μ 57) q = true → ¬ nI (mCt (gRs (mrd μ 57)) q) = n := by intro q hq h1; by_cases hh : q = j; rw [hh, h15] at h1; cases h1; exact hl q (by omega) h1
          refine GG.iinc e_X8_restingPair_28 0 rfl (v := _) (by first | exact nI_s _ | exact nI_d _ | rfl) (Nat.le_of_ble_eq_true rfl) (ls' := [(3, .int _), (2, .int _), (0, .ref _), (1, .int _)]) rfl ?_
          refine GG.goto (tgt := 4) e_X8_restingPair_31 rfl ?_
          rw [← hc]
          exact ih (j + 1) (by omega) (by omega) hl'
        · skip
          rw [bI_0, Bool.not_eq_false] at h15
          have hc : mCt (gRs (mrd μ 57)) (j + 1) = mCt (gRs (mrd μ 57)) j + 1 := by rw [mCt, if_pos h15]
          refine GG.iload_n e_X8_restingPair_18 (i := 2) rfl 1 rfl ?_
          refine GG.iload_n e_X8_restingPair_19 (i := 1) rfl 3 rfl ?_
          refine GG.icmp_ne (tgt := 25) e_X8_restingPair_20 rfl (fun h20 => ?_) (fun h20 => ?_)
          · skip
            have hl' : ∀ q, q < j + 1 → gRs (mrd μ 57) q = true → ¬ nI (mCt (gRs (mrd μ 57)) q) = n := by intro q hq h1; by_cases hh : q = j; rw [hh]; exact h20; exact hl q (by omega) h1
            refine GG.iinc e_X8_restingPair_25 1 rfl (v := _) (by first | exact nI_s _ | exact nI_d _ | rfl) (Nat.le_of_ble_eq_true rfl) (ls' := [(2, .int _), (3, .int _), (0, .ref _), (1, .int _)]) rfl ?_
            refine GG.iinc e_X8_restingPair_28 1 rfl (v := _) (by first | exact nI_s _ | exact nI_d _ | rfl) (Nat.le_of_ble_eq_true rfl) (ls' := [(3, .int _), (2, .int _), (0, .ref _), (1, .int _)]) rfl ?_
            refine GG.goto (tgt := 4) e_X8_restingPair_31 rfl ?_
            rw [← hc]
            exact ih (j + 1) (by omega) (by omega) hl'
          · skip
            refine GG.iload_n e_X8_restingPair_23 (i := 3) rfl 0 rfl ?_
            refine GG.iret e_X8_restingPair_24 rfl rfl ?_
            exact hy j e h15 h20
  refine SPC.of (by decide +kernel) (Nat.le_of_ble_eq_true rfl) (ls := [(0, .ref (50)), (1, .int (n))]) rfl ?_
  refine GG.iconst (v := 0) e_X8_restingPair_0 rfl ?_
  refine GG.istore_n e_X8_restingPair_1 (i := 2) rfl (Nat.le_of_ble_eq_true rfl) (ls' := [(2, .int _), (0, .ref _), (1, .int _)]) rfl ?_
  refine GG.iconst (v := 0) e_X8_restingPair_2 rfl ?_
  refine GG.istore_n e_X8_restingPair_3 (i := 3) rfl (Nat.le_of_ble_eq_true rfl) (ls' := [(3, .int _), (2, .int _), (0, .ref _), (1, .int _)]) rfl ?_
  exact lp 21 0 (by omega) (by omega) (fun q h => by omega)
theorem s_X8_play (hL : LC μ 2 P A) (hk : k < P) (hu : u < A) (hT : mrd μ 2 8 = nI T) (hT16 : T < 16) (hQ : ∀ ν, gSm μ ν → (∀ q, q < 20 → mrd ν 57 q = vSnd (uV (cV μ 2) k (nI (q % 10))) (if q < 10 then nI (T &&& (15 ^^^ 2 ^ u)) else nI (T ||| 2 ^ u)) A (mrd μ 2 0) P c) → Q none ν) : SPC 3 MX8_play [.ref 50, .ref 2, .int (nI k), .int (nI u), .int c] μ Q := by
  have hP := hL.2.1
  have hA := hL.2.2.2
  have lp : ∀ n j ν V S, 20 - j < n → j ≤ 20 → TL μ ν V P A (mrd μ 2 0) (nI S) (mrd μ 2 9) → (∀ a, uV V k a = uV (cV μ 2) k a) → S < 16 → S &&& (15 ^^^ 2 ^ u) = T &&& (15 ^^^ 2 ^ u) → S ||| 2 ^ u = T ||| 2 ^ u → (∀ q, q < j → mrd ν 57 q = vSnd (uV (cV μ 2) k (nI (q % 10))) (if q < 10 then nI (T &&& (15 ^^^ 2 ^ u)) else nI (T ||| 2 ^ u)) A (mrd μ 2 0) P c) → GG 3 MX8_play 11 [(5, .int (nI j)), (0, .ref 50), (2, .int (nI k)), (3, .int (nI u)), (4, .int c)] [] ν Q := by
    intro n
    induction n with
    | zero => intro j ν V S h; omega
    | succ n ih =>
      intro j ν V S hn hj hTL hV hS16 hS1 hS2 hl
      have nx : ∀ ν' S' V', j < 20 → TL μ ν' V' P A (mrd μ 2 0) (nI S') (mrd μ 2 9) → (∀ a, uV V' k a = uV (cV μ 2) k a) → V' = uV (cV μ 2) k (nI (j % 10)) → S' < 16 → S' &&& (15 ^^^ 2 ^ u) = T &&& (15 ^^^ 2 ^ u) → S' ||| 2 ^ u = T ||| 2 ^ u → nI S' = (if j < 10 then nI (T &&& (15 ^^^ 2 ^ u)) else nI (T ||| 2 ^ u)) → (∀ q, mrd ν' 57 q = mrd ν 57 q) → GG 3 MX8_play 51 [(5, .int (nI j)), (0, .ref 50), (2, .int (nI k)), (3, .int (nI u)), (4, .int c)] [] ν' Q := by
        intro ν' S' V' e hT' hV' hVe hS16' hS1' hS2' hSe hm
        refine GG.aload_n e_X8_play_51 (i := 0) rfl 1 rfl ?_
        refine GG.getR (b := 57) e_X8_play_52 fl_X8_18 (sf_X8_1 i_X8_50) ?_
        refine GG.iload e_X8_play_55 0 rfl ?_
        refine GG.aload_n e_X8_play_57 (i := 0) rfl 1 rfl ?_
        refine GG.getR (b := 51) e_X8_play_58 fl_X8_12 (sf_X8_0 i_X8_50) ?_
        refine GG.iload e_X8_play_61 4 rfl ?_
        refine GG.callV (d' := 2) (a := 51) (as := [.int _]) e_X8_play_63 ml_X8_93 mf_X4_soundAt mv_X4_soundAt (rc_X4 i_X4_51) rfl (by decide) (Nat.le_of_ble_eq_true rfl) rfl ?_
        refine t_soundAt hT' ?_
        refine GG.iastoreE (k := _) e_X8_play_66 (sa_X8_1 i_X8_50) (rfl) (by omega) (Nat.le_of_ble_eq_true rfl) ?_
        refine GG.iinc e_X8_play_67 0 rfl (v := _) (by first | exact nI_s _ | exact nI_d _ | rfl) (Nat.le_of_ble_eq_true rfl) (ls' := [(5, .int _), (0, .ref _), (2, .int _), (3, .int _), (4, .int _)]) rfl ?_
        refine GG.goto (tgt := 11) e_X8_play_70 rfl ?_
        refine ih (j + 1) _ _ S' (by omega) (by omega) (hT'.pr (k := j)) hV' hS16' hS1' hS2' (fun q hq => ?_)
        rw [mrd_wr]
        by_cases hh : q = j
        · rw [if_pos ⟨rfl, hh⟩, hh, hVe, hSe]
        · rw [if_neg (fun z => hh z.2), hm, hl q (by omega)]
      refine GG.iload e_X8_play_11 0 rfl ?_
      refine GG.bipush (v := 20) e_X8_play_13 rfl ?_
      refine GG.icmp_ge (tgt := 73) e_X8_play_15 rfl (fun h15 => ?_) (fun h15 => ?_)
      · skip
        have e := nle (a := 20) h15 (by omega) (by omega)
        have e2 : j = 20 := by omega
        subst e2
        refine GG.vret e_X8_play_73 rfl rfl ?_
        exact hQ _ hTL.1 hl
      · skip
        have e := nnle (a := 20) h15 (by omega) (by omega)
        refine GG.aload_n e_X8_play_18 (i := 0) rfl 1 rfl ?_
        refine GG.getR (b := 51) e_X8_play_19 fl_X8_12 (sf_X8_0 i_X8_50) ?_
        refine GG.iload_n e_X8_play_22 (i := 2) rfl 2 rfl ?_
        refine GG.iload e_X8_play_23 0 rfl ?_
        refine GG.bipush (v := 10) e_X8_play_25 rfl ?_
        refine GG.irem e_X8_play_27 (by decide) ?_
        refine GG.top (mIrem_n (by omega)) ?_
        refine GG.callV (d' := 1) (a := 51) (as := [.int _, .int _]) e_X8_play_28 ml_X8_52 mf_X4_setSwing mv_X4_setSwing (rc_X4 i_X4_51) rfl (by decide) (Nat.le_of_ble_eq_true rfl) rfl ?_
        refine s_X4_setSwing i_X4_51 hTL.2.1 (fun h => ?_) (fun q hq hkq => ?_)
        · rw [mIn_n (by omega)] at h; simp at h; omega
        have e3 : k = q := (nI_eq (by omega) (by omega)).mp hkq
        subst e3
        have hT2 := hTL.sw (k := k) (a := nI (j % 10))
        refine GG.aload_n e_X8_play_31 (i := 0) rfl 1 rfl ?_
        refine GG.getR (b := 51) e_X8_play_32 fl_X8_12 (sf_X8_0 i_X8_50) ?_
        refine GG.iload_n e_X8_play_35 (i := 3) rfl 3 rfl ?_
        refine GG.iload e_X8_play_36 0 rfl ?_
        refine GG.bipush (v := 10) e_X8_play_38 rfl ?_
        refine GG.icmp_lt (tgt := 47) e_X8_play_40 rfl (fun h40 => ?_) (fun h40 => ?_)
        · skip
          have e4 := nlt (b := 10) h40 (by omega) (by omega)
          refine GG.iconst (v := 0) e_X8_play_47 rfl ?_
          refine GG.callV (d' := 1) (a := 51) (as := [.int _, .int _]) e_X8_play_48 ml_X8_89 mf_X4_setThere mv_X4_setThere (rc_X4 i_X4_51) rfl (by decide) (Nat.le_of_ble_eq_true rfl) rfl ?_
          have hth := thc S hS16 u (by omega)
          refine s_X4_setThere i_X4_51 hT2.2.1 (fun h => ?_) (fun _ hz => ?_) (fun _ hz => ?_)
          · rw [mIn_n (by omega)] at h; simp at h; omega
          · first | exact absurd hz (by decide) | (rw [hT2.2.2.2.1, hth.1]; exact GG.perm [0, 1, 2, 3, 4] rfl (nx _ _ _ e hT2.th (fun a => by rw [uV_u, hV]) (hV _) hth.2.2.1 (by rw [hth.2.2.2.2.1, hS1]) (by rw [hth.2.2.2.2.2.1, hS2]) (by rw [hS1, if_pos e4]) (fun q => by simp [mrd_wr])))
          · first | exact absurd rfl hz | (rw [hT2.2.2.2.1, hth.2.1]; exact GG.perm [0, 1, 2, 3, 4] rfl (nx _ _ _ e hT2.th (fun a => by rw [uV_u, hV]) (hV _) hth.2.2.2.1 (by rw [hth.2.2.2.2.2.2.2, hS1]) (by rw [hth.2.2.2.2.2.2.1, hS2]) (by rw [hS2, if_neg e4]) (fun q => by simp [mrd_wr])))
        · skip
          have e4 : ¬ j < 10 := by have := nnlt (b := 10) h40 (by omega) (by omega); omega
          refine GG.iconst (v := 1) e_X8_play_43 rfl ?_
          refine GG.goto (tgt := 48) e_X8_play_44 rfl ?_
          refine GG.callV (d' := 1) (a := 51) (as := [.int _, .int _]) e_X8_play_48 ml_X8_89 mf_X4_setThere mv_X4_setThere (rc_X4 i_X4_51) rfl (by decide) (Nat.le_of_ble_eq_true rfl) rfl ?_
          have hth := thc S hS16 u (by omega)
          refine s_X4_setThere i_X4_51 hT2.2.1 (fun h => ?_) (fun _ hz => ?_) (fun _ hz => ?_)
          · rw [mIn_n (by omega)] at h; simp at h; omega
          · first | exact absurd hz (by decide) | (rw [hT2.2.2.2.1, hth.1]; exact GG.perm [0, 1, 2, 3, 4] rfl (nx _ _ _ e hT2.th (fun a => by rw [uV_u, hV]) (hV _) hth.2.2.1 (by rw [hth.2.2.2.2.1, hS1]) (by rw [hth.2.2.2.2.2.1, hS2]) (by rw [hS1, if_pos e4]) (fun q => by simp [mrd_wr])))
          · first | exact absurd rfl hz | (rw [hT2.2.2.2.1, hth.2.1]; exact GG.perm [0, 1, 2, 3, 4] rfl (nx _ _ _ e hT2.th (fun a => by rw [uV_u, hV]) (hV _) hth.2.2.2.1 (by rw [hth.2.2.2.2.2.2.2, hS1]) (by rw [hth.2.2.2.2.2.2.1, hS2]) (by rw [hS2, if_neg e4]) (fun q => by simp [mrd_wr])))
  refine SPC.of (by decide +kernel) (Nat.le_of_ble_eq_true rfl) (ls := [(0, .ref (50)), (1, .ref (2)), (2, .int (nI k)), (3, .int (nI u)), (4, .int (c))]) rfl ?_
  refine GG.aload_n e_X8_play_0 (i := 0) rfl 0 rfl ?_
  refine GG.getR (b := 51) e_X8_play_1 fl_X8_12 (sf_X8_0 i_X8_50) ?_
  refine GG.aload_n e_X8_play_4 (i := 1) rfl 1 rfl ?_
  refine GG.callV (d' := 1) (a := 51) (as := [.ref 2]) e_X8_play_5 ml_X8_22 mf_X4_copyFrom mv_X4_copyFrom (rc_X4 i_X4_51) rfl (by decide) (Nat.le_of_ble_eq_true rfl) rfl ?_
  refine s_X4_copyFrom i_X4_2 i_X4_51 (by omega) ?_
  refine GG.iconst (v := 0) e_X8_play_8 rfl ?_
  refine GG.istore e_X8_play_9 (Nat.le_of_ble_eq_true rfl) (ls' := [(5, .int _), (0, .ref _), (1, .ref _), (2, .int _), (3, .int _), (4, .int _)]) rfl ?_
  refine GG.perm [0, 1, 3, 4, 5] rfl ?_
  exact lp 21 0 _ _ T (by omega) (by omega) (by rw [← hT]; exact TL_Lc hL) (fun a => rfl) hT16 rfl rfl (fun q h => by omega)
end S21
