/-! THE FACE, second half -/
theorem m10_le : ∀ f, f < 151 → -10 - nI f ≤ 0 := by decide +kernel
theorem tRd_f {b : Nat → Int32} {L : Nat} {lo hi : Nat → Int32} : ∀ n j p f, p ≤ L → tRd b L lo hi n j p = .inr f → f ≤ L := by
  intro n
  induction n with
  | zero => intro j p f hp h; rw [tRd] at h; cases h
  | succ n ih =>
    intro j p f hp h
    rw [tRd] at h
    have t1 := T1_b (b := b) hp
    have t3 := T3_b (b := b) hp
    split at h
    · exact ih _ _ _ t3.2.1 h
    · cases h; exact t1.2
theorem tStp_f {b : Nat → Int32} {L P A p f : Nat} {first : Bool} (hp : p ≤ L) (h : tStp b L first P A p = .inr f) : f ≤ L := by
  have t1 := T1_b (b := b) hp
  have t3 := T3_b (b := b) hp
  unfold tStp at h
  split at h
  · split at h
    · next q hq => cases h; exact tRd_f _ _ _ _ t3.2.1 hq
    · next q hq =>
      split at h
      · cases h
      · cases h
        exact (T1_b (tRd_b _ _ _ _ t3.2.1 hq).2).2
  · cases h; exact t1.2
theorem gSm.at2 {μ ν : gM} (h : gSm μ ν) {c : Nat} (hc : c < 46) (j : Nat) : mrd ν c j = mrd μ c j := h.1 c j (by unfold gScr; omega)
theorem gSm.lc {μ ν : gM} {P A : Nat} (h : gSm μ ν) (hL : LC μ 2 P A) : LC ν 2 P A := by
  unfold LC at *
  rw [h.at2 (by omega), h.at2 (by omega)]
  exact hL
theorem gSm.cV {μ ν : gM} {P A : Nat} (h : gSm μ ν) : VE (cV ν 2) (cV μ 2) P A := ⟨fun k _ => ⟨h.at2 (by omega) k, h.at2 (by omega) k, h.at2 (by omega) k⟩, fun k _ => ⟨h.at2 (by omega) k, h.at2 (by omega) k⟩⟩
def mAd (μ : gM) (r N : Nat) (x y z w : Int32) : gM := mwr (mwr (mwr (mwr (mwr μ (r + 1) (4 * N) x) (r + 1) (4 * N + 1) y) (r + 1) (4 * N + 2) z) (r + 1) (4 * N + 3) w) r 0 (nI (N + 1))
def mNm (μ : gM) (k : Nat) : Int32 :=
  if k = 0 then mrd μ 2 1 else if k = 1 then mrd μ 2 5 else if k = 2 then mBc (mrd μ 2 8) else if k = 3 then mrd μ 2 9 else if k = 4 then mrd μ 2 10 else if k = 5 then mrd μ 2 0
  else if k = 6 then mrd μ 8 0 else if k = 7 then mrd μ 10 0 else if k = 8 then mrd μ 12 0 else if k = 9 then mrd μ 14 0 else mrd μ 46 0
section S31
variable {μ : gM} {Q : Option Value → gM → Prop} {P A U L T N M : Nat} {i c a w z v x y k : Int32}
theorem s_X10_read {b : Nat → Int32} (hL0 : mrd μ 46 0 = nI L) (hL150 : L ≤ 150) (hb : mrd μ 47 = b)
    (hend : ∀ ν i p S, 0 < i → i ≤ 150 → tRe b L i p S → T2 b L p = 0 → gSm μ ν → AR ν S → Q (some (.int (nI i))) (mLc (mHs ν 1 12) 51 2))
    (hft : ∀ ν i p S f, tRe b L i p S → ¬ (0 < i ∧ T2 b L p = 0) → tStp b L (decide (i = 0)) S.2.1 S.2.2.1 p = .inr f → gSm μ ν → Q (some (.int (-10 - nI f))) ν) : SPC 8 MX10_read [.ref 0] μ Q := by
  refine SPC.of (by decide +kernel) (Nat.le_of_ble_eq_true rfl) (ls := [(0, .ref (0))]) rfl ?_
  refine GG.aload_n e_X10_read_0 (i := 0) rfl 0 rfl ?_
  refine GG.getR (b := 46) e_X10_read_1 fl_X10_25 (sf_X10_5 i_X10_0) ?_
  refine GG.aload_n e_X10_read_4 (i := 0) rfl 0 rfl ?_
  refine GG.getR (b := 50) e_X10_read_5 fl_X10_39 (sf_X10_7 i_X10_0) ?_
  refine GG.getR (b := 51) e_X10_read_8 fl_X10_121 (sf_X8_0 i_X8_50) ?_
  refine GG.callV (d' := 7) (a := 46) (as := [.ref 51]) e_X10_read_11 ml_X10_122 mf_X7_readInto mv_X7_readInto (rc_X7 i_X7_46) rfl (by decide) (Nat.le_of_ble_eq_true rfl) rfl ?_
  refine s_X7_readInto hL0 hL150 hb (fun ν i p S h0 h1 h2 h3 h4 h5 => ?_) (fun ν i p S f h0 h1 h2 h3 => ?_)
  · skip
    refine GG.istore_n e_X10_read_14 (i := 1) rfl (Nat.le_of_ble_eq_true rfl) (ls' := [(1, .int _), (0, .ref _)]) rfl ?_
    refine GG.iload_n e_X10_read_15 (i := 1) rfl 0 rfl ?_
    refine GG.if_le (tgt := 45) e_X10_read_16 rfl (fun h16 => absurd h16 (by exact fun z => absurd (nle (b := 0) z (by omega) (by omega)) (by omega))) (fun h16 => ?_)
    refine GG.aload_n e_X10_read_19 (i := 0) rfl 1 rfl ?_
    refine GG.getR (b := 1) e_X10_read_20 fl_X10_12 (sf_X10_0 i_X10_0) ?_
    refine GG.bipush (v := 12) e_X10_read_23 rfl ?_
    refine GG.callV (d' := 1) (a := 1) (as := [.int _]) e_X10_read_25 ml_X10_75 mf_X2_startAgain mv_X2_startAgain (rc_X2 i_X2_1) rfl (by decide) (Nat.le_of_ble_eq_true rfl) rfl ?_
    refine s_X2_startAgain i_X2_1 ?_
    refine GG.aload_n e_X10_read_28 (i := 0) rfl 1 rfl ?_
    refine GG.getR (b := 1) e_X10_read_29 fl_X10_12 (sf_X10_0 i_X10_0) ?_
    refine GG.getR (b := 2) e_X10_read_32 fl_X10_65 (sf_X2_0 i_X2_1) ?_
    refine GG.aload_n e_X10_read_35 (i := 0) rfl 1 rfl ?_
    refine GG.getR (b := 50) e_X10_read_36 fl_X10_39 (sf_X10_7 i_X10_0) ?_
    refine GG.getR (b := 51) e_X10_read_39 fl_X10_121 (sf_X8_0 i_X8_50) ?_
    refine GG.callV (d' := 1) (a := 2) (as := [.ref 51]) e_X10_read_42 ml_X10_126 mf_X4_copyFrom mv_X4_copyFrom (rc_X4 i_X4_2) rfl (by decide) (Nat.le_of_ble_eq_true rfl) rfl ?_
    refine s_X4_copyFrom i_X4_51 i_X4_2 (by omega) ?_
    refine GG.iload_n e_X10_read_45 (i := 1) rfl 0 rfl ?_
    refine GG.iret e_X10_read_46 rfl rfl ?_
    exact hend ν i p S h0 h1 h2 h3 h4 h5
  · skip
    refine GG.istore_n e_X10_read_14 (i := 1) rfl (Nat.le_of_ble_eq_true rfl) (ls' := [(1, .int _), (0, .ref _)]) rfl ?_
    refine GG.iload_n e_X10_read_15 (i := 1) rfl 0 rfl ?_
    refine GG.if_le (tgt := 45) e_X10_read_16 rfl (fun h16 => ?_) (fun h16 => absurd h16 (by exact fun z => z (m10_le f (by have := tStp_f (tRe_b i p S h0).2 h2; omega))))
    refine GG.iload_n e_X10_read_45 (i := 1) rfl 0 rfl ?_
    refine GG.iret e_X10_read_46 rfl rfl ?_
    exact hft ν i p S f h0 h1 h2 h3
theorem s_X4_setSwingk {b kk : Nat} (hI_X4_b : gI_X4 b) (hL : LC μ b P A) (hk : kk < P) (hQ : Q none (mwr μ (b + 3) kk a)) : SPC 1 MX4_setSwing [.ref b, .int (nI kk), .int a] μ Q := by
  have := hL.2.1
  refine s_X4_setSwing hI_X4_b hL (fun h => ?_) (fun k' h1 h2 => ?_)
  · rw [mIn_n (by omega), decide_eq_false_iff_not] at h
    exact absurd hk h
  · rw [nI_eq (by omega) (by omega)] at h2
    exact h2 ▸ hQ
theorem s_X4_setTherek {b kk : Nat} (hI_X4_b : gI_X4 b) (hL : LC μ b P A) (hk : kk < A) (hQ : Q none (mwr μ b 8 (if z = 0 then mrd μ b 8 &&& (((1 : Int32) <<< (nI kk &&& 31)) ^^^ (-1)) else mrd μ b 8 ||| ((1 : Int32) <<< (nI kk &&& 31))))) : SPC 1 MX4_setThere [.ref b, .int (nI kk), .int z] μ Q := by
  have := hL.2.2.2
  have e : mIn (nI kk) A = true := by rw [mIn_n (by omega), decide_eq_true_eq]; exact hk
  refine s_X4_setThere hI_X4_b hL (fun h => ?_) (fun _ h2 => ?_) (fun _ h2 => ?_)
  · rw [e] at h; cases h
  · rw [if_pos h2] at hQ; exact hQ
  · rw [if_neg h2] at hQ; exact hQ
theorem s_X10_swings (hL : LC μ 2 P A) (hU : mrd μ 14 0 = nI U) (hU8 : U ≤ 8) (hbad : (!mIn i P || oB a 0 9) = true → Q (some (.int (-2))) (mRf μ 10))
    (hno : ∀ k, k < P → i = nI k → oB a 0 9 = false → mrd μ 5 k = a → Q (some (.int (-3))) (mRf μ 11))
    (hok : ∀ k, k < P → i = nI k → oB a 0 9 = false → ¬ mrd μ 5 k = a → Q (some (.int (mrd μ 5 k))) (mwr (mKp μ 2 14 U) 5 k a)) : SPC 2 MX10_swings [.ref 0, .int i, .int a] μ Q := by
  have hP7 := hL.2.1
  refine SPC.of (by decide +kernel) (Nat.le_of_ble_eq_true rfl) (ls := [(0, .ref (0)), (1, .int (i)), (2, .int (a))]) rfl ?_
  refine GG.aload_n e_X10_swings_0 (i := 0) rfl 0 rfl ?_
  refine GG.getR (b := 1) e_X10_swings_1 fl_X10_12 (sf_X10_0 i_X10_0) ?_
  refine GG.getR (b := 2) e_X10_swings_4 fl_X10_65 (sf_X2_0 i_X2_1) ?_
  refine GG.iload_n e_X10_swings_7 (i := 1) rfl 1 rfl ?_
  refine GG.callV (d' := 0) (a := 2) (as := [.int _]) e_X10_swings_8 ml_X10_140 mf_X4_hasOne mv_X4_hasOne (rc_X4 i_X4_2) rfl (by decide) (Nat.le_of_ble_eq_true rfl) rfl ?_
  refine s_X4_hasOne i_X4_2 hL ?_
  refine GG.if_eq (tgt := 21) e_X10_swings_11 rfl (fun h11 => ?_) (fun h11 => ?_)
  · skip
    have o := (bI_0 _).mp h11
    refine GG.aload_n e_X10_swings_21 (i := 0) rfl 0 rfl ?_
    refine GG.bipush (v := -2) e_X10_swings_22 rfl ?_
    refine GG.callV (d' := 0) (a := 0) (as := [.int _]) e_X10_swings_24 ml_X10_61 mf_X10_refuseBad mv_X10_refuseBad (rc_X10 i_X10_0) rfl (by decide) (Nat.le_of_ble_eq_true rfl) rfl ?_
    refine s_X10_refuseBad ?_
    refine GG.iret e_X10_swings_27 rfl rfl ?_
    exact hbad (by simp [o])
  · skip
    obtain ⟨k, hk, rfl⟩ := mIn_of ((bI_n0 _).mp h11) (by omega)
    refine GG.iload_n e_X10_swings_14 (i := 2) rfl 2 rfl ?_
    refine GG.callS (d' := 1) (as := [.int _]) e_X10_swings_15 ml_X10_98 mf_X10_notSwing ms_X10_notSwing rfl (by decide) (Nat.le_of_ble_eq_true rfl) rfl ?_
    refine s_X10_notSwing ?_
    refine GG.if_eq (tgt := 28) e_X10_swings_18 rfl (fun h18 => ?_) (fun h18 => ?_)
    · skip
      have o2 := (bI_0 _).mp h18
      refine GG.aload_n e_X10_swings_28 (i := 0) rfl 0 rfl ?_
      refine GG.getR (b := 1) e_X10_swings_29 fl_X10_12 (sf_X10_0 i_X10_0) ?_
      refine GG.getR (b := 2) e_X10_swings_32 fl_X10_65 (sf_X2_0 i_X2_1) ?_
      refine GG.iload_n e_X10_swings_35 (i := 1) rfl 1 rfl ?_
      refine GG.callV (d' := 1) (a := 2) (as := [.int _]) e_X10_swings_36 ml_X10_143 mf_X4_swingOf mv_X4_swingOf (rc_X4 i_X4_2) rfl (by decide) (Nat.le_of_ble_eq_true rfl) rfl ?_
      refine s_X4_swingOf i_X4_2 hL hk ?_
      refine GG.istore_n e_X10_swings_39 (i := 3) rfl (Nat.le_of_ble_eq_true rfl) (ls' := [(3, .int _), (0, .ref _), (1, .int _), (2, .int _)]) rfl ?_
      refine GG.iload_n e_X10_swings_40 (i := 3) rfl 0 rfl ?_
      refine GG.iload_n e_X10_swings_41 (i := 2) rfl 3 rfl ?_
      refine GG.icmp_ne (tgt := 50) e_X10_swings_42 rfl (fun h42 => ?_) (fun h42 => ?_)
      · skip
        refine GG.aload_n e_X10_swings_50 (i := 0) rfl 1 rfl ?_
        refine GG.getR (b := 1) e_X10_swings_51 fl_X10_12 (sf_X10_0 i_X10_0) ?_
        refine GG.getR (b := 14) e_X10_swings_54 fl_X10_82 (sf_X2_4 i_X2_1) ?_
        refine GG.aload_n e_X10_swings_57 (i := 0) rfl 1 rfl ?_
        refine GG.getR (b := 1) e_X10_swings_58 fl_X10_12 (sf_X10_0 i_X10_0) ?_
        refine GG.getR (b := 2) e_X10_swings_61 fl_X10_65 (sf_X2_0 i_X2_1) ?_
        refine GG.callV (d' := 1) (a := 14) (as := [.ref 2]) e_X10_swings_64 ml_X10_130 mf_X5_keep mv_X5_keep (rc_X5 i_X5_14) rfl (by decide) (Nat.le_of_ble_eq_true rfl) rfl ?_
        refine s_X5_keepC i_X4_2 i_X5_14 hU hU8 ?_
        refine GG.aload_n e_X10_swings_67 (i := 0) rfl 1 rfl ?_
        refine GG.getR (b := 1) e_X10_swings_68 fl_X10_12 (sf_X10_0 i_X10_0) ?_
        refine GG.getR (b := 2) e_X10_swings_71 fl_X10_65 (sf_X2_0 i_X2_1) ?_
        refine GG.iload_n e_X10_swings_74 (i := 1) rfl 2 rfl ?_
        refine GG.iload_n e_X10_swings_75 (i := 2) rfl 3 rfl ?_
        refine GG.callV (d' := 1) (a := 2) (as := [.int _, .int _]) e_X10_swings_76 ml_X10_149 mf_X4_setSwing mv_X4_setSwing (rc_X4 i_X4_2) rfl (by decide) (Nat.le_of_ble_eq_true rfl) rfl ?_
        refine s_X4_setSwingk i_X4_2 (LC_Kp hL) hk ?_
        refine GG.iload_n e_X10_swings_79 (i := 3) rfl 0 rfl ?_
        refine GG.iret e_X10_swings_80 rfl rfl ?_
        exact hok k hk rfl o2 h42
      · skip
        refine GG.aload_n e_X10_swings_45 (i := 0) rfl 1 rfl ?_
        refine GG.callV (d' := 0) (a := 0) (as := []) e_X10_swings_46 ml_X10_146 mf_X10_refuseNo mv_X10_refuseNo (rc_X10 i_X10_0) rfl (by decide) (Nat.le_of_ble_eq_true rfl) rfl ?_
        refine s_X10_refuseNo ?_
        refine GG.iret e_X10_swings_49 rfl rfl ?_
        exact hno k hk rfl o2 h42
    · skip
      have o := (bI_n0 _).mp h18
      refine GG.aload_n e_X10_swings_21 (i := 0) rfl 0 rfl ?_
      refine GG.bipush (v := -2) e_X10_swings_22 rfl ?_
      refine GG.callV (d' := 0) (a := 0) (as := [.int _]) e_X10_swings_24 ml_X10_61 mf_X10_refuseBad mv_X10_refuseBad (rc_X10 i_X10_0) rfl (by decide) (Nat.le_of_ble_eq_true rfl) rfl ?_
      refine s_X10_refuseBad ?_
      refine GG.iret e_X10_swings_27 rfl rfl ?_
      exact hbad (by simp [o])
theorem s_X10_sends (hL : LC μ 2 P A) (hU : mrd μ 14 0 = nI U) (hU8 : U ≤ 8) (hbad : (!mIn i A || oB z 0 1) = true → Q (some (.int (-2))) (mRf μ 10))
    (hno : ∀ k, k < A → i = nI k → oB z 0 1 = false → bI (mHas (mrd μ 2 8) (nI k)) = z → Q (some (.int (-3))) (mRf μ 11))
    (hok : ∀ k, k < A → i = nI k → oB z 0 1 = false → ¬ bI (mHas (mrd μ 2 8) (nI k)) = z → Q (some (.int (bI (mHas (mrd μ 2 8) (nI k))))) (mwr (mKp μ 2 14 U) 2 8 (if z = 1 then mrd μ 2 8 ||| ((1 : Int32) <<< (nI k &&& 31)) else mrd μ 2 8 &&& (((1 : Int32) <<< (nI k &&& 31)) ^^^ (-1))))) : SPC 2 MX10_sends [.ref 0, .int i, .int z] μ Q := by
  have hP7 := hL.2.2.2
  refine SPC.of (by decide +kernel) (Nat.le_of_ble_eq_true rfl) (ls := [(0, .ref (0)), (1, .int (i)), (2, .int (z))]) rfl ?_
  refine GG.aload_n e_X10_sends_0 (i := 0) rfl 0 rfl ?_
  refine GG.getR (b := 1) e_X10_sends_1 fl_X10_12 (sf_X10_0 i_X10_0) ?_
  refine GG.getR (b := 2) e_X10_sends_4 fl_X10_65 (sf_X2_0 i_X2_1) ?_
  refine GG.iload_n e_X10_sends_7 (i := 1) rfl 1 rfl ?_
  refine GG.callV (d' := 0) (a := 2) (as := [.int _]) e_X10_sends_8 ml_X10_152 mf_X4_hasAunt mv_X4_hasAunt (rc_X4 i_X4_2) rfl (by decide) (Nat.le_of_ble_eq_true rfl) rfl ?_
  refine s_X4_hasAunt i_X4_2 hL ?_
  refine GG.if_eq (tgt := 23) e_X10_sends_11 rfl (fun h11 => ?_) (fun h11 => ?_)
  · skip
    have o := (bI_0 _).mp h11
    refine GG.aload_n e_X10_sends_23 (i := 0) rfl 0 rfl ?_
    refine GG.bipush (v := -2) e_X10_sends_24 rfl ?_
    refine GG.callV (d' := 0) (a := 0) (as := [.int _]) e_X10_sends_26 ml_X10_61 mf_X10_refuseBad mv_X10_refuseBad (rc_X10 i_X10_0) rfl (by decide) (Nat.le_of_ble_eq_true rfl) rfl ?_
    refine s_X10_refuseBad ?_
    refine GG.iret e_X10_sends_29 rfl rfl ?_
    exact hbad (by simp [o])
  · skip
    obtain ⟨k, hk, rfl⟩ := mIn_of ((bI_n0 _).mp h11) (by omega)
    have e : mIn (nI k) A = true := by rw [mIn_n (by omega), decide_eq_true_eq]; exact hk
    refine GG.iload_n e_X10_sends_14 (i := 2) rfl 2 rfl ?_
    refine GG.iconst (v := 0) e_X10_sends_15 rfl ?_
    refine GG.iconst (v := 1) e_X10_sends_16 rfl ?_
    refine GG.callS (d' := 0) (as := [.int _, .int _, .int _]) e_X10_sends_17 ml_X10_57 mf_X10_outside ms_X10_outside rfl (by decide) (Nat.le_of_ble_eq_true rfl) rfl ?_
    refine s_X10_outside ?_
    refine GG.if_eq (tgt := 30) e_X10_sends_20 rfl (fun h20 => ?_) (fun h20 => ?_)
    · skip
      have o2 : oB z _ _ = false := (bI_0 _).mp h20
      refine GG.aload_n e_X10_sends_30 (i := 0) rfl 0 rfl ?_
      refine GG.getR (b := 1) e_X10_sends_31 fl_X10_12 (sf_X10_0 i_X10_0) ?_
      refine GG.getR (b := 2) e_X10_sends_34 fl_X10_65 (sf_X2_0 i_X2_1) ?_
      refine GG.iload_n e_X10_sends_37 (i := 1) rfl 1 rfl ?_
      refine GG.callV (d' := 1) (a := 2) (as := [.int _]) e_X10_sends_38 ml_X10_155 mf_X4_isThere mv_X4_isThere (rc_X4 i_X4_2) rfl (by decide) (Nat.le_of_ble_eq_true rfl) rfl ?_
      refine s_X4_isThere i_X4_2 hL ?_
      refine GG.if_eq (tgt := 48) e_X10_sends_41 rfl (fun h41 => ?_) (fun h41 => ?_)
      · skip
        have e1 : bI (mHas (mrd μ 2 8) (nI k)) = 0 := by rw [e, Bool.true_and] at h41; exact h41
        refine GG.iconst (v := 0) e_X10_sends_48 rfl ?_
        refine GG.istore_n e_X10_sends_49 (i := 3) rfl (Nat.le_of_ble_eq_true rfl) (ls' := [(3, .int _), (0, .ref _), (1, .int _), (2, .int _)]) rfl ?_
        refine GG.iload_n e_X10_sends_50 (i := 3) rfl 0 rfl ?_
        refine GG.iload_n e_X10_sends_51 (i := 2) rfl 3 rfl ?_
        refine GG.icmp_ne (tgt := 60) e_X10_sends_52 rfl (fun h52 => ?_) (fun h52 => ?_)
        · skip
          refine GG.aload_n e_X10_sends_60 (i := 0) rfl 1 rfl ?_
          refine GG.getR (b := 1) e_X10_sends_61 fl_X10_12 (sf_X10_0 i_X10_0) ?_
          refine GG.getR (b := 14) e_X10_sends_64 fl_X10_82 (sf_X2_4 i_X2_1) ?_
          refine GG.aload_n e_X10_sends_67 (i := 0) rfl 1 rfl ?_
          refine GG.getR (b := 1) e_X10_sends_68 fl_X10_12 (sf_X10_0 i_X10_0) ?_
          refine GG.getR (b := 2) e_X10_sends_71 fl_X10_65 (sf_X2_0 i_X2_1) ?_
          refine GG.callV (d' := 1) (a := 14) (as := [.ref 2]) e_X10_sends_74 ml_X10_130 mf_X5_keep mv_X5_keep (rc_X5 i_X5_14) rfl (by decide) (Nat.le_of_ble_eq_true rfl) rfl ?_
          refine s_X5_keepC i_X4_2 i_X5_14 hU hU8 ?_
          refine GG.aload_n e_X10_sends_77 (i := 0) rfl 1 rfl ?_
          refine GG.getR (b := 1) e_X10_sends_78 fl_X10_12 (sf_X10_0 i_X10_0) ?_
          refine GG.getR (b := 2) e_X10_sends_81 fl_X10_65 (sf_X2_0 i_X2_1) ?_
          refine GG.iload_n e_X10_sends_84 (i := 1) rfl 2 rfl ?_
          refine GG.iload_n e_X10_sends_85 (i := 2) rfl 3 rfl ?_
          refine GG.iconst (v := 1) e_X10_sends_86 rfl ?_
          refine GG.icmp_ne (tgt := 94) e_X10_sends_87 rfl (fun h87 => ?_) (fun h87 => ?_)
          · skip
            refine GG.iconst (v := 0) e_X10_sends_94 rfl ?_
            refine GG.callV (d' := 1) (a := 2) (as := [.int _, .int _]) e_X10_sends_95 ml_X10_158 mf_X4_setThere mv_X4_setThere (rc_X4 i_X4_2) rfl (by decide) (Nat.le_of_ble_eq_true rfl) rfl ?_
            refine s_X4_setTherek i_X4_2 (LC_Kp hL) hk ?_
            refine GG.iload_n e_X10_sends_98 (i := 3) rfl 0 rfl ?_
            refine GG.iret e_X10_sends_99 rfl rfl ?_
            refine qIM (hok k hk rfl o2 (fun w => h52 (e1.symm.trans w))) e1.symm ?_
            rw [mrd_Kp (by omega) 2 (by omega)]
            simp [h87]
          · skip
            refine GG.iconst (v := 1) e_X10_sends_90 rfl ?_
            refine GG.goto (tgt := 95) e_X10_sends_91 rfl ?_
            refine GG.callV (d' := 1) (a := 2) (as := [.int _, .int _]) e_X10_sends_95 ml_X10_158 mf_X4_setThere mv_X4_setThere (rc_X4 i_X4_2) rfl (by decide) (Nat.le_of_ble_eq_true rfl) rfl ?_
            refine s_X4_setTherek i_X4_2 (LC_Kp hL) hk ?_
            refine GG.iload_n e_X10_sends_98 (i := 3) rfl 0 rfl ?_
            refine GG.iret e_X10_sends_99 rfl rfl ?_
            refine qIM (hok k hk rfl o2 (fun w => h52 (e1.symm.trans w))) e1.symm ?_
            rw [mrd_Kp (by omega) 2 (by omega)]
            simp [h87]
        · skip
          refine GG.aload_n e_X10_sends_55 (i := 0) rfl 1 rfl ?_
          refine GG.callV (d' := 0) (a := 0) (as := []) e_X10_sends_56 ml_X10_146 mf_X10_refuseNo mv_X10_refuseNo (rc_X10 i_X10_0) rfl (by decide) (Nat.le_of_ble_eq_true rfl) rfl ?_
          refine s_X10_refuseNo ?_
          refine GG.iret e_X10_sends_59 rfl rfl ?_
          exact hno k hk rfl o2 (e1.trans h52)
      · skip
        have e1 : bI (mHas (mrd μ 2 8) (nI k)) = 1 := by rw [e, Bool.true_and, bI_n0] at h41; rw [h41]; rfl
        refine GG.iconst (v := 1) e_X10_sends_44 rfl ?_
        refine GG.goto (tgt := 49) e_X10_sends_45 rfl ?_
        refine GG.istore_n e_X10_sends_49 (i := 3) rfl (Nat.le_of_ble_eq_true rfl) (ls' := [(3, .int _), (0, .ref _), (1, .int _), (2, .int _)]) rfl ?_
        refine GG.iload_n e_X10_sends_50 (i := 3) rfl 0 rfl ?_
        refine GG.iload_n e_X10_sends_51 (i := 2) rfl 3 rfl ?_
        refine GG.icmp_ne (tgt := 60) e_X10_sends_52 rfl (fun h52 => ?_) (fun h52 => ?_)
        · skip
          refine GG.aload_n e_X10_sends_60 (i := 0) rfl 1 rfl ?_
          refine GG.getR (b := 1) e_X10_sends_61 fl_X10_12 (sf_X10_0 i_X10_0) ?_
          refine GG.getR (b := 14) e_X10_sends_64 fl_X10_82 (sf_X2_4 i_X2_1) ?_
          refine GG.aload_n e_X10_sends_67 (i := 0) rfl 1 rfl ?_
          refine GG.getR (b := 1) e_X10_sends_68 fl_X10_12 (sf_X10_0 i_X10_0) ?_
          refine GG.getR (b := 2) e_X10_sends_71 fl_X10_65 (sf_X2_0 i_X2_1) ?_
          refine GG.callV (d' := 1) (a := 14) (as := [.ref 2]) e_X10_sends_74 ml_X10_130 mf_X5_keep mv_X5_keep (rc_X5 i_X5_14) rfl (by decide) (Nat.le_of_ble_eq_true rfl) rfl ?_
          refine s_X5_keepC i_X4_2 i_X5_14 hU hU8 ?_
          refine GG.aload_n e_X10_sends_77 (i := 0) rfl 1 rfl ?_
          refine GG.getR (b := 1) e_X10_sends_78 fl_X10_12 (sf_X10_0 i_X10_0) ?_
          refine GG.getR (b := 2) e_X10_sends_81 fl_X10_65 (sf_X2_0 i_X2_1) ?_
          refine GG.iload_n e_X10_sends_84 (i := 1) rfl 2 rfl ?_
          refine GG.iload_n e_X10_sends_85 (i := 2) rfl 3 rfl ?_
          refine GG.iconst (v := 1) e_X10_sends_86 rfl ?_
          refine GG.icmp_ne (tgt := 94) e_X10_sends_87 rfl (fun h87 => ?_) (fun h87 => ?_)
          · skip
            refine GG.iconst (v := 0) e_X10_sends_94 rfl ?_
            refine GG.callV (d' := 1) (a := 2) (as := [.int _, .int _]) e_X10_sends_95 ml_X10_158 mf_X4_setThere mv_X4_setThere (rc_X4 i_X4_2) rfl (by decide) (Nat.le_of_ble_eq_true rfl) rfl ?_
            refine s_X4_setTherek i_X4_2 (LC_Kp hL) hk ?_
            refine GG.iload_n e_X10_sends_98 (i := 3) rfl 0 rfl ?_
            refine GG.iret e_X10_sends_99 rfl rfl ?_
            refine qIM (hok k hk rfl o2 (fun w => h52 (e1.symm.trans w))) e1.symm ?_
            rw [mrd_Kp (by omega) 2 (by omega)]
            simp [h87]
          · skip
            refine GG.iconst (v := 1) e_X10_sends_90 rfl ?_
            refine GG.goto (tgt := 95) e_X10_sends_91 rfl ?_
            refine GG.callV (d' := 1) (a := 2) (as := [.int _, .int _]) e_X10_sends_95 ml_X10_158 mf_X4_setThere mv_X4_setThere (rc_X4 i_X4_2) rfl (by decide) (Nat.le_of_ble_eq_true rfl) rfl ?_
            refine s_X4_setTherek i_X4_2 (LC_Kp hL) hk ?_
            refine GG.iload_n e_X10_sends_98 (i := 3) rfl 0 rfl ?_
            refine GG.iret e_X10_sends_99 rfl rfl ?_
            refine qIM (hok k hk rfl o2 (fun w => h52 (e1.symm.trans w))) e1.symm ?_
            rw [mrd_Kp (by omega) 2 (by omega)]
            simp [h87]
        · skip
          refine GG.aload_n e_X10_sends_55 (i := 0) rfl 1 rfl ?_
          refine GG.callV (d' := 0) (a := 0) (as := []) e_X10_sends_56 ml_X10_146 mf_X10_refuseNo mv_X10_refuseNo (rc_X10 i_X10_0) rfl (by decide) (Nat.le_of_ble_eq_true rfl) rfl ?_
          refine s_X10_refuseNo ?_
          refine GG.iret e_X10_sends_59 rfl rfl ?_
          exact hno k hk rfl o2 (e1.trans h52)
    · skip
      have o : oB z _ _ = true := (bI_n0 _).mp h20
      refine GG.aload_n e_X10_sends_23 (i := 0) rfl 0 rfl ?_
      refine GG.bipush (v := -2) e_X10_sends_24 rfl ?_
      refine GG.callV (d' := 0) (a := 0) (as := [.int _]) e_X10_sends_26 ml_X10_61 mf_X10_refuseBad mv_X10_refuseBad (rc_X10 i_X10_0) rfl (by decide) (Nat.le_of_ble_eq_true rfl) rfl ?_
      refine s_X10_refuseBad ?_
      refine GG.iret e_X10_sends_29 rfl rfl ?_
      exact hbad (by simp [o])
theorem s_X10_undo (hU : mrd μ 14 0 = nI U) (hU8 : U ≤ 8) (hno : U = 0 → Q (some (.int (-3))) (mRf μ 11)) (hok : 0 < U → Q (some (.int (mrd μ 15 (10 * (U - 1))))) (mrs (mwr μ 14 0 (nI (U - 1))) 2 15 (10 * (U - 1)))) : SPC 2 MX10_undo [.ref 0] μ Q := by
  have tb : ∀ (Q : Option Value → gM → Prop), (∀ r ν, (U = 0 ∧ r = 0 ∧ ν = μ ∨ 0 < U ∧ r = 1 ∧ ν = mrs (mwr μ 14 0 (nI (U - 1))) 2 15 (10 * (U - 1))) → Q (some (.int r)) ν) → SPC 1 MX5_takeBack [.ref 14, .ref 2] μ Q := fun Q h =>
    s_X5_takeBack i_X4_2 i_X5_14 hU hU8 (fun z => h 0 _ (Or.inl ⟨z, rfl, rfl⟩)) (fun z => h 1 _ (Or.inr ⟨z, rfl, rfl⟩))
  refine SPC.of (by decide +kernel) (Nat.le_of_ble_eq_true rfl) (ls := [(0, .ref (0))]) rfl ?_
  refine GG.aload_n e_X10_undo_0 (i := 0) rfl 0 rfl ?_
  refine GG.getR (b := 1) e_X10_undo_1 fl_X10_12 (sf_X10_0 i_X10_0) ?_
  refine GG.getR (b := 14) e_X10_undo_4 fl_X10_82 (sf_X2_4 i_X2_1) ?_
  refine GG.aload_n e_X10_undo_7 (i := 0) rfl 0 rfl ?_
  refine GG.getR (b := 1) e_X10_undo_8 fl_X10_12 (sf_X10_0 i_X10_0) ?_
  refine GG.getR (b := 2) e_X10_undo_11 fl_X10_65 (sf_X2_0 i_X2_1) ?_
  refine GG.callV (d' := 1) (a := 14) (as := [.ref 2]) e_X10_undo_14 ml_X10_162 mf_X5_takeBack mv_X5_takeBack (rc_X5 i_X5_14) rfl (by decide) (Nat.le_of_ble_eq_true rfl) rfl ?_
  refine tb _ (fun r ν hr => ?_)
  refine GG.if_ne (tgt := 25) e_X10_undo_17 rfl (fun h17 => ?_) (fun h17 => ?_)
  · skip
    obtain ⟨hp, rfl, rfl⟩ := hr.resolve_left (fun z => h17 z.2.1)
    refine GG.aload_n e_X10_undo_25 (i := 0) rfl 0 rfl ?_
    refine GG.getR (b := 1) e_X10_undo_26 fl_X10_12 (sf_X10_0 i_X10_0) ?_
    refine GG.getR (b := 2) e_X10_undo_29 fl_X10_65 (sf_X2_0 i_X2_1) ?_
    refine GG.getIv (v := mrd μ 15 (10 * (U - 1))) e_X10_undo_32 fl_X10_166 (sf_X4_9 i_X4_2) (by rw [mrd_rs, if_pos ⟨rfl, rfl⟩, mrd_wr, if_neg (by omega)]) ?_
    refine GG.iret e_X10_undo_35 rfl rfl ?_
    exact hok hp
  · skip
    obtain ⟨hp, rfl, rfl⟩ := hr.resolve_right (fun z => absurd (z.2.1.symm.trans h17) (by decide))
    refine GG.aload_n e_X10_undo_20 (i := 0) rfl 0 rfl ?_
    refine GG.callV (d' := 0) (a := 0) (as := []) e_X10_undo_21 ml_X10_146 mf_X10_refuseNo mv_X10_refuseNo (rc_X10 i_X10_0) rfl (by decide) (Nat.le_of_ble_eq_true rfl) rfl ?_
    refine s_X10_refuseNo ?_
    refine GG.iret e_X10_undo_24 rfl rfl ?_
    exact hno hp
theorem s_X10_of (hL : LC μ 2 P A) (hbad : (!mIn i P || oB z 0 2) = true → Q (some (.int (-2))) (mRf μ 10))
    (hok : ∀ k, k < P → i = nI k → oB z 0 2 = false → Q (some (.int (if z = 0 then mrd μ 3 k else if z = 1 then mrd μ 4 k else mrd μ 5 k))) μ) : SPC 2 MX10_of [.ref 0, .int i, .int z] μ Q := by
  have hP7 := hL.2.1
  refine SPC.of (by decide +kernel) (Nat.le_of_ble_eq_true rfl) (ls := [(0, .ref (0)), (1, .int (i)), (2, .int (z))]) rfl ?_
  refine GG.aload_n e_X10_of_0 (i := 0) rfl 0 rfl ?_
  refine GG.getR (b := 1) e_X10_of_1 fl_X10_12 (sf_X10_0 i_X10_0) ?_
  refine GG.getR (b := 2) e_X10_of_4 fl_X10_65 (sf_X2_0 i_X2_1) ?_
  refine GG.iload_n e_X10_of_7 (i := 1) rfl 1 rfl ?_
  refine GG.callV (d' := 0) (a := 2) (as := [.int _]) e_X10_of_8 ml_X10_140 mf_X4_hasOne mv_X4_hasOne (rc_X4 i_X4_2) rfl (by decide) (Nat.le_of_ble_eq_true rfl) rfl ?_
  refine s_X4_hasOne i_X4_2 hL ?_
  refine GG.if_eq (tgt := 23) e_X10_of_11 rfl (fun h11 => ?_) (fun h11 => ?_)
  · skip
    have o := (bI_0 _).mp h11
    refine GG.aload_n e_X10_of_23 (i := 0) rfl 0 rfl ?_
    refine GG.bipush (v := -2) e_X10_of_24 rfl ?_
    refine GG.callV (d' := 0) (a := 0) (as := [.int _]) e_X10_of_26 ml_X10_61 mf_X10_refuseBad mv_X10_refuseBad (rc_X10 i_X10_0) rfl (by decide) (Nat.le_of_ble_eq_true rfl) rfl ?_
    refine s_X10_refuseBad ?_
    refine GG.iret e_X10_of_29 rfl rfl ?_
    exact hbad (by simp [o])
  · skip
    obtain ⟨k, hk, rfl⟩ := mIn_of ((bI_n0 _).mp h11) (by omega)
    refine GG.iload_n e_X10_of_14 (i := 2) rfl 2 rfl ?_
    refine GG.iconst (v := 0) e_X10_of_15 rfl ?_
    refine GG.iconst (v := 2) e_X10_of_16 rfl ?_
    refine GG.callS (d' := 0) (as := [.int _, .int _, .int _]) e_X10_of_17 ml_X10_57 mf_X10_outside ms_X10_outside rfl (by decide) (Nat.le_of_ble_eq_true rfl) rfl ?_
    refine s_X10_outside ?_
    refine GG.if_eq (tgt := 30) e_X10_of_20 rfl (fun h20 => ?_) (fun h20 => ?_)
    · skip
      have o2 : oB z _ _ = false := (bI_0 _).mp h20
      refine GG.aload_n e_X10_of_30 (i := 0) rfl 0 rfl ?_
      refine GG.getR (b := 1) e_X10_of_31 fl_X10_12 (sf_X10_0 i_X10_0) ?_
      refine GG.getR (b := 2) e_X10_of_34 fl_X10_65 (sf_X2_0 i_X2_1) ?_
      refine GG.iload_n e_X10_of_37 (i := 1) rfl 1 rfl ?_
      refine GG.iload_n e_X10_of_38 (i := 2) rfl 2 rfl ?_
      refine GG.callV (d' := 1) (a := 2) (as := [.int _, .int _]) e_X10_of_39 ml_X10_169 mf_X4_factOfOne mv_X4_factOfOne (rc_X4 i_X4_2) rfl (by decide) (Nat.le_of_ble_eq_true rfl) rfl ?_
      refine s_X4_factOfOne i_X4_2 hL hk ?_
      refine GG.iret e_X10_of_42 rfl rfl ?_
      exact hok k hk rfl o2
    · skip
      have o : oB z _ _ = true := (bI_n0 _).mp h20
      refine GG.aload_n e_X10_of_23 (i := 0) rfl 0 rfl ?_
      refine GG.bipush (v := -2) e_X10_of_24 rfl ?_
      refine GG.callV (d' := 0) (a := 0) (as := [.int _]) e_X10_of_26 ml_X10_61 mf_X10_refuseBad mv_X10_refuseBad (rc_X10 i_X10_0) rfl (by decide) (Nat.le_of_ble_eq_true rfl) rfl ?_
      refine s_X10_refuseBad ?_
      refine GG.iret e_X10_of_29 rfl rfl ?_
      exact hbad (by simp [o])
theorem s_X10_about (hL : LC μ 2 P A) (hbad : (!mIn i A || oB z 0 2) = true → Q (some (.int (-2))) (mRf μ 10))
    (hok : ∀ k, k < A → i = nI k → oB z 0 2 = false → Q (some (.int (if z = 0 then mrd μ 6 k else if z = 1 then mrd μ 7 k else bI (mHas (mrd μ 2 8) (nI k))))) μ) : SPC 3 MX10_about [.ref 0, .int i, .int z] μ Q := by
  have hP7 := hL.2.2.2
  refine SPC.of (by decide +kernel) (Nat.le_of_ble_eq_true rfl) (ls := [(0, .ref (0)), (1, .int (i)), (2, .int (z))]) rfl ?_
  refine GG.aload_n e_X10_about_0 (i := 0) rfl 0 rfl ?_
  refine GG.getR (b := 1) e_X10_about_1 fl_X10_12 (sf_X10_0 i_X10_0) ?_
  refine GG.getR (b := 2) e_X10_about_4 fl_X10_65 (sf_X2_0 i_X2_1) ?_
  refine GG.iload_n e_X10_about_7 (i := 1) rfl 1 rfl ?_
  refine GG.callV (d' := 0) (a := 2) (as := [.int _]) e_X10_about_8 ml_X10_152 mf_X4_hasAunt mv_X4_hasAunt (rc_X4 i_X4_2) rfl (by decide) (Nat.le_of_ble_eq_true rfl) rfl ?_
  refine s_X4_hasAunt i_X4_2 hL ?_
  refine GG.if_eq (tgt := 23) e_X10_about_11 rfl (fun h11 => ?_) (fun h11 => ?_)
  · skip
    have o := (bI_0 _).mp h11
    refine GG.aload_n e_X10_about_23 (i := 0) rfl 0 rfl ?_
    refine GG.bipush (v := -2) e_X10_about_24 rfl ?_
    refine GG.callV (d' := 0) (a := 0) (as := [.int _]) e_X10_about_26 ml_X10_61 mf_X10_refuseBad mv_X10_refuseBad (rc_X10 i_X10_0) rfl (by decide) (Nat.le_of_ble_eq_true rfl) rfl ?_
    refine s_X10_refuseBad ?_
    refine GG.iret e_X10_about_29 rfl rfl ?_
    exact hbad (by simp [o])
  · skip
    obtain ⟨k, hk, rfl⟩ := mIn_of ((bI_n0 _).mp h11) (by omega)
    refine GG.iload_n e_X10_about_14 (i := 2) rfl 2 rfl ?_
    refine GG.iconst (v := 0) e_X10_about_15 rfl ?_
    refine GG.iconst (v := 2) e_X10_about_16 rfl ?_
    refine GG.callS (d' := 0) (as := [.int _, .int _, .int _]) e_X10_about_17 ml_X10_57 mf_X10_outside ms_X10_outside rfl (by decide) (Nat.le_of_ble_eq_true rfl) rfl ?_
    refine s_X10_outside ?_
    refine GG.if_eq (tgt := 30) e_X10_about_20 rfl (fun h20 => ?_) (fun h20 => ?_)
    · skip
      have o2 : oB z _ _ = false := (bI_0 _).mp h20
      refine GG.aload_n e_X10_about_30 (i := 0) rfl 0 rfl ?_
      refine GG.getR (b := 1) e_X10_about_31 fl_X10_12 (sf_X10_0 i_X10_0) ?_
      refine GG.getR (b := 2) e_X10_about_34 fl_X10_65 (sf_X2_0 i_X2_1) ?_
      refine GG.iload_n e_X10_about_37 (i := 1) rfl 1 rfl ?_
      refine GG.iload_n e_X10_about_38 (i := 2) rfl 2 rfl ?_
      refine GG.callV (d' := 2) (a := 2) (as := [.int _, .int _]) e_X10_about_39 ml_X10_173 mf_X4_factOfAunt mv_X4_factOfAunt (rc_X4 i_X4_2) rfl (by decide) (Nat.le_of_ble_eq_true rfl) rfl ?_
      refine s_X4_factOfAunt i_X4_2 hL hk ?_
      refine GG.iret e_X10_about_42 rfl rfl ?_
      exact hok k hk rfl o2
    · skip
      have o : oB z _ _ = true := (bI_n0 _).mp h20
      refine GG.aload_n e_X10_about_23 (i := 0) rfl 0 rfl ?_
      refine GG.bipush (v := -2) e_X10_about_24 rfl ?_
      refine GG.callV (d' := 0) (a := 0) (as := [.int _]) e_X10_about_26 ml_X10_61 mf_X10_refuseBad mv_X10_refuseBad (rc_X10 i_X10_0) rfl (by decide) (Nat.le_of_ble_eq_true rfl) rfl ?_
      refine s_X10_refuseBad ?_
      refine GG.iret e_X10_about_29 rfl rfl ?_
      exact hbad (by simp [o])
theorem s_X10_leans (hL : LC μ 2 P A) (hbad : (!mIn i P || oB c 0 99 || oB z 0 1) = true → Q (some (.int (-1000))) (mRf μ 10))
    (hok : ∀ k, k < P → i = nI k → oB c 0 99 = false → oB z 0 1 = false → Q (some (.int (if z = 0 then mLean (mrd μ 3 k) (mrd μ 5 k) c else mLng (cV μ 2) (mrd μ 2 8) A k c))) μ) : SPC 2 MX10_leans [.ref 0, .int i, .int c, .int z] μ Q := by
  have hP7 := hL.2.1
  refine SPC.of (by decide +kernel) (Nat.le_of_ble_eq_true rfl) (ls := [(0, .ref (0)), (1, .int (i)), (2, .int (c)), (3, .int (z))]) rfl ?_
  refine GG.aload_n e_X10_leans_0 (i := 0) rfl 0 rfl ?_
  refine GG.getR (b := 1) e_X10_leans_1 fl_X10_12 (sf_X10_0 i_X10_0) ?_
  refine GG.getR (b := 2) e_X10_leans_4 fl_X10_65 (sf_X2_0 i_X2_1) ?_
  refine GG.iload_n e_X10_leans_7 (i := 1) rfl 1 rfl ?_
  refine GG.callV (d' := 0) (a := 2) (as := [.int _]) e_X10_leans_8 ml_X10_140 mf_X4_hasOne mv_X4_hasOne (rc_X4 i_X4_2) rfl (by decide) (Nat.le_of_ble_eq_true rfl) rfl ?_
  refine s_X4_hasOne i_X4_2 hL ?_
  refine GG.if_eq (tgt := 30) e_X10_leans_11 rfl (fun h11 => ?_) (fun h11 => ?_)
  · skip
    have o := (bI_0 _).mp h11
    refine GG.aload_n e_X10_leans_30 (i := 0) rfl 0 rfl ?_
    refine GG.sipush (v := -1000) e_X10_leans_31 rfl ?_
    refine GG.callV (d' := 0) (a := 0) (as := [.int _]) e_X10_leans_34 ml_X10_61 mf_X10_refuseBad mv_X10_refuseBad (rc_X10 i_X10_0) rfl (by decide) (Nat.le_of_ble_eq_true rfl) rfl ?_
    refine s_X10_refuseBad ?_
    refine GG.iret e_X10_leans_37 rfl rfl ?_
    exact hbad (by simp [o])
  · skip
    obtain ⟨k, hk, rfl⟩ := mIn_of ((bI_n0 _).mp h11) (by omega)
    refine GG.iload_n e_X10_leans_14 (i := 2) rfl 2 rfl ?_
    refine GG.callS (d' := 1) (as := [.int _]) e_X10_leans_15 ml_X10_176 mf_X10_notAsked ms_X10_notAsked rfl (by decide) (Nat.le_of_ble_eq_true rfl) rfl ?_
    refine s_X10_notAsked ?_
    refine GG.if_ne (tgt := 30) e_X10_leans_18 rfl (fun h18 => ?_) (fun h18 => ?_)
    · skip
      have o := (bI_n0 _).mp h18
      refine GG.aload_n e_X10_leans_30 (i := 0) rfl 0 rfl ?_
      refine GG.sipush (v := -1000) e_X10_leans_31 rfl ?_
      refine GG.callV (d' := 0) (a := 0) (as := [.int _]) e_X10_leans_34 ml_X10_61 mf_X10_refuseBad mv_X10_refuseBad (rc_X10 i_X10_0) rfl (by decide) (Nat.le_of_ble_eq_true rfl) rfl ?_
      refine s_X10_refuseBad ?_
      refine GG.iret e_X10_leans_37 rfl rfl ?_
      exact hbad (by simp [o])
    · skip
      have o2 := (bI_0 _).mp h18
      refine GG.iload_n e_X10_leans_21 (i := 3) rfl 3 rfl ?_
      refine GG.iconst (v := 0) e_X10_leans_22 rfl ?_
      refine GG.iconst (v := 1) e_X10_leans_23 rfl ?_
      refine GG.callS (d' := 0) (as := [.int _, .int _, .int _]) e_X10_leans_24 ml_X10_57 mf_X10_outside ms_X10_outside rfl (by decide) (Nat.le_of_ble_eq_true rfl) rfl ?_
      refine s_X10_outside ?_
      refine GG.if_eq (tgt := 38) e_X10_leans_27 rfl (fun h27 => ?_) (fun h27 => ?_)
      · skip
        have o3 : oB z _ _ = false := (bI_0 _).mp h27
        refine GG.iload_n e_X10_leans_38 (i := 3) rfl 3 rfl ?_
        refine GG.if_ne (tgt := 57) e_X10_leans_39 rfl (fun h39 => ?_) (fun h39 => ?_)
        · skip
          refine GG.aload_n e_X10_leans_57 (i := 0) rfl 0 rfl ?_
          refine GG.getR (b := 1) e_X10_leans_58 fl_X10_12 (sf_X10_0 i_X10_0) ?_
          refine GG.getR (b := 2) e_X10_leans_61 fl_X10_65 (sf_X2_0 i_X2_1) ?_
          refine GG.iload_n e_X10_leans_64 (i := 1) rfl 1 rfl ?_
          refine GG.iload_n e_X10_leans_65 (i := 2) rfl 2 rfl ?_
          refine GG.callV (d' := 1) (a := 2) (as := [.int _, .int _]) e_X10_leans_66 ml_X10_182 mf_X4_leaningOf mv_X4_leaningOf (rc_X4 i_X4_2) rfl (by decide) (Nat.le_of_ble_eq_true rfl) rfl ?_
          refine s_X4_leaningOf i_X4_2 hL hk ?_
          refine GG.iret e_X10_leans_69 rfl rfl ?_
          exact qI (hok k hk rfl o2 o3) (by simp [h39])
        · skip
          refine GG.aload_n e_X10_leans_42 (i := 0) rfl 0 rfl ?_
          refine GG.getR (b := 1) e_X10_leans_43 fl_X10_12 (sf_X10_0 i_X10_0) ?_
          refine GG.getR (b := 2) e_X10_leans_46 fl_X10_65 (sf_X2_0 i_X2_1) ?_
          refine GG.iload_n e_X10_leans_49 (i := 1) rfl 1 rfl ?_
          refine GG.iload_n e_X10_leans_50 (i := 2) rfl 2 rfl ?_
          refine GG.callV (d' := 1) (a := 2) (as := [.int _, .int _]) e_X10_leans_51 ml_X10_179 mf_X4_leanOf mv_X4_leanOf (rc_X4 i_X4_2) rfl (by decide) (Nat.le_of_ble_eq_true rfl) rfl ?_
          refine s_X4_leanOf i_X4_2 hL hk ?_
          refine GG.goto (tgt := 69) e_X10_leans_54 rfl ?_
          refine GG.iret e_X10_leans_69 rfl rfl ?_
          exact qI (hok k hk rfl o2 o3) (by simp [h39])
      · skip
        have o : oB z _ _ = true := (bI_n0 _).mp h27
        refine GG.aload_n e_X10_leans_30 (i := 0) rfl 0 rfl ?_
        refine GG.sipush (v := -1000) e_X10_leans_31 rfl ?_
        refine GG.callV (d' := 0) (a := 0) (as := [.int _]) e_X10_leans_34 ml_X10_61 mf_X10_refuseBad mv_X10_refuseBad (rc_X10 i_X10_0) rfl (by decide) (Nat.le_of_ble_eq_true rfl) rfl ?_
        refine s_X10_refuseBad ?_
        refine GG.iret e_X10_leans_37 rfl rfl ?_
        exact hbad (by simp [o])
theorem s_X10_sound (hL : LC μ 2 P A) (hbad : oB c 0 99 = true → Q (some (.int (-2))) (mRf μ 10)) (hok : oB c 0 99 = false → Q (some (.int (vSnd (cV μ 2) (mrd μ 2 8) A (mrd μ 2 0) P c))) μ) : SPC 3 MX10_sound [.ref 0, .int c] μ Q := by
  refine SPC.of (by decide +kernel) (Nat.le_of_ble_eq_true rfl) (ls := [(0, .ref (0)), (1, .int (c))]) rfl ?_
  refine GG.iload_n e_X10_sound_0 (i := 1) rfl 1 rfl ?_
  refine GG.callS (d' := 1) (as := [.int _]) e_X10_sound_1 ml_X10_176 mf_X10_notAsked ms_X10_notAsked rfl (by decide) (Nat.le_of_ble_eq_true rfl) rfl ?_
  refine s_X10_notAsked ?_
  refine GG.if_eq (tgt := 14) e_X10_sound_4 rfl (fun h4 => ?_) (fun h4 => ?_)
  · skip
    have o := (bI_0 _).mp h4
    refine GG.aload_n e_X10_sound_14 (i := 0) rfl 0 rfl ?_
    refine GG.getR (b := 1) e_X10_sound_15 fl_X10_12 (sf_X10_0 i_X10_0) ?_
    refine GG.getR (b := 2) e_X10_sound_18 fl_X10_65 (sf_X2_0 i_X2_1) ?_
    refine GG.iload_n e_X10_sound_21 (i := 1) rfl 1 rfl ?_
    refine GG.callV (d' := 2) (a := 2) (as := [.int _]) e_X10_sound_22 ml_X10_185 mf_X4_soundAt mv_X4_soundAt (rc_X4 i_X4_2) rfl (by decide) (Nat.le_of_ble_eq_true rfl) rfl ?_
    refine s_X4_soundAt i_X4_2 hL ?_
    refine GG.iret e_X10_sound_25 rfl rfl ?_
    exact hok o
  · skip
    have o := (bI_n0 _).mp h4
    refine GG.aload_n e_X10_sound_7 (i := 0) rfl 0 rfl ?_
    refine GG.bipush (v := -2) e_X10_sound_8 rfl ?_
    refine GG.callV (d' := 0) (a := 0) (as := [.int _]) e_X10_sound_10 ml_X10_61 mf_X10_refuseBad mv_X10_refuseBad (rc_X10 i_X10_0) rfl (by decide) (Nat.le_of_ble_eq_true rfl) rfl ?_
    refine s_X10_refuseBad ?_
    refine GG.iret e_X10_sound_13 rfl rfl ?_
    exact hbad o
theorem s_X10_entry {f : Nat → Bool} (hL : LC μ 2 P A) (hf : ∀ d, d < 61 → f d = decide (mrd μ 2 0 ≤ vRch (cV μ 2) (mrd μ 2 8) A P (mrd μ 2 9 + nI d) (-1)))
    (hn : (∀ d, d < 61 → f d = false) → Q (some (.int (-1))) μ) (hy : ∀ d, d < 61 → f d = true → (∀ e, e < d → f e = false) → Q (some (.int (nI d))) μ) : SPC 5 MX10_entry [.ref 0] μ Q := by
  refine SPC.of (by decide +kernel) (Nat.le_of_ble_eq_true rfl) (ls := [(0, .ref (0))]) rfl ?_
  refine GG.aload_n e_X10_entry_0 (i := 0) rfl 0 rfl ?_
  refine GG.getR (b := 1) e_X10_entry_1 fl_X10_12 (sf_X10_0 i_X10_0) ?_
  refine GG.getR (b := 2) e_X10_entry_4 fl_X10_65 (sf_X2_0 i_X2_1) ?_
  refine GG.bipush (v := 61) e_X10_entry_7 rfl ?_
  refine GG.callV (d' := 4) (a := 2) (as := [.int _]) e_X10_entry_9 ml_X10_188 mf_X4_firstSounding mv_X4_firstSounding (rc_X4 i_X4_2) rfl (by decide) (Nat.le_of_ble_eq_true rfl) rfl ?_
  refine s_X4_firstSounding (N := 61) i_X4_2 hL (by omega) hf (fun h => ?_) (fun d h1 h2 h3 => ?_)
  · skip
    refine GG.iret e_X10_entry_12 rfl rfl ?_
    exact hn h
  · skip
    refine GG.iret e_X10_entry_12 rfl rfl ?_
    exact hy d h1 h2 h3
theorem s_X10_then {snd : Int32 → Int32} (hL : LC μ 2 P A) (hs : ∀ c, snd c = vSnd (cV μ 2) (mrd μ 2 8) A (mrd μ 2 0) P c) (hbad : oB z 0 60 = true → Q (some (.int (-2))) (mRf μ 10))
    (hok : ∀ n, z = nI n → n ≤ 60 → ∀ ν, gSm μ ν → Q (some (.int (mPass snd (mrd μ 2 9 + nI n) n (mrd μ 2 10, mrd μ 2 9)).1)) ν) : SPC 5 MX10_then [.ref 0, .int z] μ Q := by
  refine SPC.of (by decide +kernel) (Nat.le_of_ble_eq_true rfl) (ls := [(0, .ref (0)), (1, .int (z))]) rfl ?_
  refine GG.iload_n e_X10_then_0 (i := 1) rfl 1 rfl ?_
  refine GG.iconst (v := 0) e_X10_then_1 rfl ?_
  refine GG.bipush (v := 60) e_X10_then_2 rfl ?_
  refine GG.callS (d' := 0) (as := [.int _, .int _, .int _]) e_X10_then_4 ml_X10_57 mf_X10_outside ms_X10_outside rfl (by decide) (Nat.le_of_ble_eq_true rfl) rfl ?_
  refine s_X10_outside ?_
  refine GG.if_eq (tgt := 17) e_X10_then_7 rfl (fun h7 => ?_) (fun h7 => ?_)
  · skip
    obtain ⟨n, rfl, o1, o2⟩ := oB_n (A := 0) (B := 60) ((bI_0 _).mp h7) rfl rfl (by omega) (by omega)
    refine GG.aload_n e_X10_then_17 (i := 0) rfl 0 rfl ?_
    refine GG.getR (b := 50) e_X10_then_18 fl_X10_39 (sf_X10_7 i_X10_0) ?_
    refine GG.aload_n e_X10_then_21 (i := 0) rfl 0 rfl ?_
    refine GG.getR (b := 1) e_X10_then_22 fl_X10_12 (sf_X10_0 i_X10_0) ?_
    refine GG.getR (b := 2) e_X10_then_25 fl_X10_65 (sf_X2_0 i_X2_1) ?_
    refine GG.iload_n e_X10_then_28 (i := 1) rfl 1 rfl ?_
    refine GG.callV (d' := 4) (a := 50) (as := [.ref 2, .int _]) e_X10_then_29 ml_X10_191 mf_X8_noiseBehind mv_X8_noiseBehind (rc_X8 i_X8_50) rfl (by decide) (Nat.le_of_ble_eq_true rfl) rfl ?_
    refine s_X8_noiseBehind hL (by omega) hs (fun ν hν => ?_)
    refine GG.iret e_X10_then_32 rfl rfl ?_
    exact hok n rfl o2 ν hν
  · skip
    have o := (bI_n0 _).mp h7
    refine GG.aload_n e_X10_then_10 (i := 0) rfl 0 rfl ?_
    refine GG.bipush (v := -2) e_X10_then_11 rfl ?_
    refine GG.callV (d' := 0) (a := 0) (as := [.int _]) e_X10_then_13 ml_X10_61 mf_X10_refuseBad mv_X10_refuseBad (rc_X10 i_X10_0) rfl (by decide) (Nat.le_of_ble_eq_true rfl) rfl ?_
    refine s_X10_refuseBad ?_
    refine GG.iret e_X10_then_16 rfl rfl ?_
    exact hbad o
theorem s_X10_still {f : Nat → Nat → Bool} (hL : LC μ 2 P A) (hf : ∀ m j, m ≤ 60 → j < 2 ^ A → (f m j = true ↔ ∀ d, d < m → ¬ mrd μ 2 0 ≤ vRch (cV μ 2) (nI j) A P (mrd μ 2 9 + nI d) (-1))) (hbad : oB z 1 60 = true → Q (some (.int (-2))) (mRf μ 10))
    (hok : ∀ n, z = nI n → 1 ≤ n → n ≤ 60 → ∀ ν, gSm μ ν → Q (some (.int (mStl (f n) (2 ^ A)))) ν) : SPC 6 MX10_still [.ref 0, .int z] μ Q := by
  refine SPC.of (by decide +kernel) (Nat.le_of_ble_eq_true rfl) (ls := [(0, .ref (0)), (1, .int (z))]) rfl ?_
  refine GG.iload_n e_X10_still_0 (i := 1) rfl 1 rfl ?_
  refine GG.iconst (v := 1) e_X10_still_1 rfl ?_
  refine GG.bipush (v := 60) e_X10_still_2 rfl ?_
  refine GG.callS (d' := 0) (as := [.int _, .int _, .int _]) e_X10_still_4 ml_X10_57 mf_X10_outside ms_X10_outside rfl (by decide) (Nat.le_of_ble_eq_true rfl) rfl ?_
  refine s_X10_outside ?_
  refine GG.if_eq (tgt := 17) e_X10_still_7 rfl (fun h7 => ?_) (fun h7 => ?_)
  · skip
    obtain ⟨n, rfl, o1, o2⟩ := oB_n (A := 1) (B := 60) ((bI_0 _).mp h7) rfl rfl (by omega) (by omega)
    refine GG.aload_n e_X10_still_17 (i := 0) rfl 0 rfl ?_
    refine GG.getR (b := 50) e_X10_still_18 fl_X10_39 (sf_X10_7 i_X10_0) ?_
    refine GG.aload_n e_X10_still_21 (i := 0) rfl 0 rfl ?_
    refine GG.getR (b := 1) e_X10_still_22 fl_X10_12 (sf_X10_0 i_X10_0) ?_
    refine GG.getR (b := 2) e_X10_still_25 fl_X10_65 (sf_X2_0 i_X2_1) ?_
    refine GG.iload_n e_X10_still_28 (i := 1) rfl 1 rfl ?_
    refine GG.callV (d' := 5) (a := 50) (as := [.ref 2, .int _]) e_X10_still_29 ml_X10_195 mf_X8_fewestAunts mv_X8_fewestAunts (rc_X8 i_X8_50) rfl (by decide) (Nat.le_of_ble_eq_true rfl) rfl ?_
    refine s_X8_fewestAunts hL (by omega) (f := f n) (fun j hj => hf n j o2 hj) (fun ν hν => ?_)
    refine GG.iret e_X10_still_32 rfl rfl ?_
    exact hok n rfl o1 o2 ν hν
  · skip
    have o := (bI_n0 _).mp h7
    refine GG.aload_n e_X10_still_10 (i := 0) rfl 0 rfl ?_
    refine GG.bipush (v := -2) e_X10_still_11 rfl ?_
    refine GG.callV (d' := 0) (a := 0) (as := [.int _]) e_X10_still_13 ml_X10_61 mf_X10_refuseBad mv_X10_refuseBad (rc_X10 i_X10_0) rfl (by decide) (Nat.le_of_ble_eq_true rfl) rfl ?_
    refine s_X10_refuseBad ?_
    refine GG.iret e_X10_still_16 rfl rfl ?_
    exact hbad o
theorem s_X10_push {f : Nat → Nat → Bool} (hL : LC μ 2 P A) (hf : ∀ k a, a < 10 → f k a = decide (mrd μ 2 0 ≤ vRch (uV (cV μ 2) k (nI a)) (mrd μ 2 8) A P c (-1))) (hbad : (!mIn i P || oB c 0 99) = true → Q (some (.int (-2))) (mRf μ 10))
    (hn : ∀ k, k < P → i = nI k → oB c 0 99 = false → (∀ a, a < 10 → f k a = false) → ∀ ν, gSm μ ν → Q (some (.int (-1))) ν)
    (hy : ∀ k, k < P → i = nI k → oB c 0 99 = false → ∀ a, a < 10 → f k a = true → (∀ e, e < a → f k e = false) → ∀ ν, gSm μ ν → Q (some (.int (nI a))) ν) : SPC 5 MX10_push [.ref 0, .int i, .int c] μ Q := by
  have hP7 := hL.2.1
  have pu : ∀ k, k < P → ∀ (Q : Option Value → gM → Prop), (∀ r ν, gSm μ ν → ((∀ a, a < 10 → f k a = false) ∧ r = -1 ∨ ∃ a, a < 10 ∧ f k a = true ∧ (∀ e, e < a → f k e = false) ∧ r = nI a) → Q (some (.int r)) ν) → SPC 4 MX8_leastPush [.ref 50, .ref 2, .int (nI k), .int c] μ Q := fun k hk Q h =>
    s_X8_leastPush hL hk (f := f k) (fun a ha => hf k a ha) (fun q ν hν => h _ ν hν (Or.inl ⟨q, rfl⟩)) (fun a h1 h2 h3 ν hν => h _ ν hν (Or.inr ⟨a, h1, h2, h3, rfl⟩))
  refine SPC.of (by decide +kernel) (Nat.le_of_ble_eq_true rfl) (ls := [(0, .ref (0)), (1, .int (i)), (2, .int (c))]) rfl ?_
  refine GG.aload_n e_X10_push_0 (i := 0) rfl 0 rfl ?_
  refine GG.getR (b := 1) e_X10_push_1 fl_X10_12 (sf_X10_0 i_X10_0) ?_
  refine GG.getR (b := 2) e_X10_push_4 fl_X10_65 (sf_X2_0 i_X2_1) ?_
  refine GG.iload_n e_X10_push_7 (i := 1) rfl 1 rfl ?_
  refine GG.callV (d' := 0) (a := 2) (as := [.int _]) e_X10_push_8 ml_X10_140 mf_X4_hasOne mv_X4_hasOne (rc_X4 i_X4_2) rfl (by decide) (Nat.le_of_ble_eq_true rfl) rfl ?_
  refine s_X4_hasOne i_X4_2 hL ?_
  refine GG.if_eq (tgt := 21) e_X10_push_11 rfl (fun h11 => ?_) (fun h11 => ?_)
  · skip
    have o := (bI_0 _).mp h11
    refine GG.aload_n e_X10_push_21 (i := 0) rfl 0 rfl ?_
    refine GG.bipush (v := -2) e_X10_push_22 rfl ?_
    refine GG.callV (d' := 0) (a := 0) (as := [.int _]) e_X10_push_24 ml_X10_61 mf_X10_refuseBad mv_X10_refuseBad (rc_X10 i_X10_0) rfl (by decide) (Nat.le_of_ble_eq_true rfl) rfl ?_
    refine s_X10_refuseBad ?_
    refine GG.iret e_X10_push_27 rfl rfl ?_
    exact hbad (by simp [o])
  · skip
    obtain ⟨k, hk, rfl⟩ := mIn_of ((bI_n0 _).mp h11) (by omega)
    refine GG.iload_n e_X10_push_14 (i := 2) rfl 2 rfl ?_
    refine GG.callS (d' := 1) (as := [.int _]) e_X10_push_15 ml_X10_176 mf_X10_notAsked ms_X10_notAsked rfl (by decide) (Nat.le_of_ble_eq_true rfl) rfl ?_
    refine s_X10_notAsked ?_
    refine GG.if_eq (tgt := 28) e_X10_push_18 rfl (fun h18 => ?_) (fun h18 => ?_)
    · skip
      have o2 := (bI_0 _).mp h18
      refine GG.aload_n e_X10_push_28 (i := 0) rfl 0 rfl ?_
      refine GG.getR (b := 50) e_X10_push_29 fl_X10_39 (sf_X10_7 i_X10_0) ?_
      refine GG.aload_n e_X10_push_32 (i := 0) rfl 0 rfl ?_
      refine GG.getR (b := 1) e_X10_push_33 fl_X10_12 (sf_X10_0 i_X10_0) ?_
      refine GG.getR (b := 2) e_X10_push_36 fl_X10_65 (sf_X2_0 i_X2_1) ?_
      refine GG.iload_n e_X10_push_39 (i := 1) rfl 1 rfl ?_
      refine GG.iload_n e_X10_push_40 (i := 2) rfl 2 rfl ?_
      refine GG.callV (d' := 4) (a := 50) (as := [.ref 2, .int _, .int _]) e_X10_push_41 ml_X10_198 mf_X8_leastPush mv_X8_leastPush (rc_X8 i_X8_50) rfl (by decide) (Nat.le_of_ble_eq_true rfl) rfl ?_
      refine pu k hk _ (fun r ν hν hr => ?_)
      refine GG.iret e_X10_push_44 rfl rfl ?_
      rcases hr with ⟨q, rfl⟩ | ⟨a, h1, h2, h3, rfl⟩
      · exact hn k hk rfl o2 q ν hν
      · exact hy k hk rfl o2 a h1 h2 h3 ν hν
    · skip
      have o := (bI_n0 _).mp h18
      refine GG.aload_n e_X10_push_21 (i := 0) rfl 0 rfl ?_
      refine GG.bipush (v := -2) e_X10_push_22 rfl ?_
      refine GG.callV (d' := 0) (a := 0) (as := [.int _]) e_X10_push_24 ml_X10_61 mf_X10_refuseBad mv_X10_refuseBad (rc_X10 i_X10_0) rfl (by decide) (Nat.le_of_ble_eq_true rfl) rfl ?_
      refine s_X10_refuseBad ?_
      refine GG.iret e_X10_push_27 rfl rfl ?_
      exact hbad (by simp [o])
theorem s_X10_widest (hL : LC μ 2 P A) (hQ : ∀ r, (∀ g : Nat → Int32, g 0 = 0 → (∀ d, d < 60 → g (d + 1) = mMax (g d) (vRch (cV μ 2) (mrd μ 2 8) A P (mrd μ 2 9 + nI d) (-1))) → r = if g 60 < 4 then -1 else mMin (g 60) 30) → Q (some (.int r)) μ) : SPC 4 MX10_widest [.ref 0] μ Q := by
  refine SPC.of (by decide +kernel) (Nat.le_of_ble_eq_true rfl) (ls := [(0, .ref (0))]) rfl ?_
  refine GG.aload_n e_X10_widest_0 (i := 0) rfl 0 rfl ?_
  refine GG.getR (b := 1) e_X10_widest_1 fl_X10_12 (sf_X10_0 i_X10_0) ?_
  refine GG.getR (b := 2) e_X10_widest_4 fl_X10_65 (sf_X2_0 i_X2_1) ?_
  refine GG.bipush (v := 60) e_X10_widest_7 rfl ?_
  refine GG.callV (d' := 3) (a := 2) (as := [.int _]) e_X10_widest_9 ml_X10_202 mf_X4_widestSounding mv_X4_widestSounding (rc_X4 i_X4_2) rfl (by decide) (Nat.le_of_ble_eq_true rfl) rfl ?_
  refine s_X4_widestSounding (N := 60) i_X4_2 hL (by omega) (fun r hr => ?_)
  refine GG.iret e_X10_widest_12 rfl rfl ?_
  exact hQ r hr
theorem s_X10_wrong {f : Nat → Bool} {s : Bool} (hL : LC μ 2 P A) (hs : s = decide (mrd μ 2 0 ≤ vRch (cV μ 2) (mrd μ 2 8) A P c (-1))) (hf : ∀ k, k < P → f k = decide (vRch (cV μ 2) (mrd μ 2 8) A P c (nI k) < mrd μ 2 0)) (hbad : oB c 0 99 = true → Q (some (.int (-2))) (mRf μ 10))
    (hok : oB c 0 99 = false → Q (some (.int (if s = true then mBits f P else 0))) μ) : SPC 5 MX10_wrong [.ref 0, .int c] μ Q := by
  refine SPC.of (by decide +kernel) (Nat.le_of_ble_eq_true rfl) (ls := [(0, .ref (0)), (1, .int (c))]) rfl ?_
  refine GG.iload_n e_X10_wrong_0 (i := 1) rfl 1 rfl ?_
  refine GG.callS (d' := 1) (as := [.int _]) e_X10_wrong_1 ml_X10_176 mf_X10_notAsked ms_X10_notAsked rfl (by decide) (Nat.le_of_ble_eq_true rfl) rfl ?_
  refine s_X10_notAsked ?_
  refine GG.if_eq (tgt := 14) e_X10_wrong_4 rfl (fun h4 => ?_) (fun h4 => ?_)
  · skip
    have o := (bI_0 _).mp h4
    refine GG.aload_n e_X10_wrong_14 (i := 0) rfl 0 rfl ?_
    refine GG.getR (b := 1) e_X10_wrong_15 fl_X10_12 (sf_X10_0 i_X10_0) ?_
    refine GG.getR (b := 2) e_X10_wrong_18 fl_X10_65 (sf_X2_0 i_X2_1) ?_
    refine GG.iload_n e_X10_wrong_21 (i := 1) rfl 1 rfl ?_
    refine GG.callV (d' := 4) (a := 2) (as := [.int _]) e_X10_wrong_22 ml_X10_205 mf_X4_neededAt mv_X4_neededAt (rc_X4 i_X4_2) rfl (by decide) (Nat.le_of_ble_eq_true rfl) rfl ?_
    refine s_X4_neededAt i_X4_2 hL hs hf ?_
    refine GG.iret e_X10_wrong_25 rfl rfl ?_
    exact hok o
  · skip
    have o := (bI_n0 _).mp h4
    refine GG.aload_n e_X10_wrong_7 (i := 0) rfl 0 rfl ?_
    refine GG.bipush (v := -2) e_X10_wrong_8 rfl ?_
    refine GG.callV (d' := 0) (a := 0) (as := [.int _]) e_X10_wrong_10 ml_X10_61 mf_X10_refuseBad mv_X10_refuseBad (rc_X10 i_X10_0) rfl (by decide) (Nat.le_of_ble_eq_true rfl) rfl ?_
    refine s_X10_refuseBad ?_
    refine GG.iret e_X10_wrong_13 rfl rfl ?_
    exact hbad o
theorem s_X10_marry (hL : LC μ 2 P A) (hbad : (!decide (i = -1) && !mIn i P) = true → Q (some (.int (-10))) (mRf μ 10))
    (hall : i = -1 → ∀ ν, gSm μ ν → Q (some (.int (mMp (mSu μ 2 P) 7 0 0))) ν) (hone : ∀ k, k < P → i = nI k → ∀ ν, gSm μ ν → Q (some (.int ((mAr (mSu μ 2 P) (mMp (mSu μ 2 P) 7 0 0) 7).1 k))) ν) : SPC 12 MX10_marry [.ref 0, .int i] μ Q := by
  have hP7 := hL.2.1
  have j26a : ∀ (i : Int32) (ν0 : gM), (∀ ν, gSm ν0 ν → Q (some (.int (mMp (mSu ν0 2 P) 7 0 0))) ν) → LC ν0 2 P A → i = -1 → GG 12 MX10_marry 26 [(0, .ref 0), (1, .int i)] [] ν0 Q := by
    intro i ν0 hq hL hi
    refine GG.aload_n e_X10_marry_26 (i := 0) rfl 0 rfl ?_
    refine GG.getR (b := 60) e_X10_marry_27 fl_X10_53 (sf_X10_9 i_X10_0) ?_
    refine GG.aload_n e_X10_marry_30 (i := 0) rfl 0 rfl ?_
    refine GG.getR (b := 1) e_X10_marry_31 fl_X10_12 (sf_X10_0 i_X10_0) ?_
    refine GG.getR (b := 2) e_X10_marry_34 fl_X10_65 (sf_X2_0 i_X2_1) ?_
    refine GG.callV (d' := 11) (a := 60) (as := [.ref 2]) e_X10_marry_37 ml_X10_208 mf_X9_arrange mv_X9_arrange (rc_X9 i_X9_60) rfl (by decide) (Nat.le_of_ble_eq_true rfl) rfl ?_
    refine s_X9_arrange hL (fun ν hν h60 h62 => ?_)
    refine GG.iload_n e_X10_marry_40 (i := 1) rfl 1 rfl ?_
    refine GG.iconst (v := -1) e_X10_marry_41 rfl ?_
    refine GG.icmp_ne (tgt := 55) e_X10_marry_42 rfl (fun h42 => absurd h42 (by exact fun z => z hi)) (fun h42 => ?_)
    refine GG.aload_n e_X10_marry_45 (i := 0) rfl 0 rfl ?_
    refine GG.getR (b := 60) e_X10_marry_46 fl_X10_53 (sf_X10_9 i_X10_0) ?_
    refine GG.getIv (v := mMp (mSu ν0 2 P) 7 0 0) e_X10_marry_49 fl_X10_211 (sf_X9_0 i_X9_60) (h60) ?_
    refine GG.goto (tgt := 63) e_X10_marry_52 rfl ?_
    refine GG.iret e_X10_marry_63 rfl rfl ?_
    exact hq ν hν
  have j26b : ∀ k, k < P → (∀ ν, gSm μ ν → Q (some (.int ((mAr (mSu μ 2 P) (mMp (mSu μ 2 P) 7 0 0) 7).1 k))) ν) → GG 12 MX10_marry 26 [(0, .ref 0), (1, .int (nI k))] [] μ Q := by
    intro k hk hq
    refine GG.aload_n e_X10_marry_26 (i := 0) rfl 0 rfl ?_
    refine GG.getR (b := 60) e_X10_marry_27 fl_X10_53 (sf_X10_9 i_X10_0) ?_
    refine GG.aload_n e_X10_marry_30 (i := 0) rfl 0 rfl ?_
    refine GG.getR (b := 1) e_X10_marry_31 fl_X10_12 (sf_X10_0 i_X10_0) ?_
    refine GG.getR (b := 2) e_X10_marry_34 fl_X10_65 (sf_X2_0 i_X2_1) ?_
    refine GG.callV (d' := 11) (a := 60) (as := [.ref 2]) e_X10_marry_37 ml_X10_208 mf_X9_arrange mv_X9_arrange (rc_X9 i_X9_60) rfl (by decide) (Nat.le_of_ble_eq_true rfl) rfl ?_
    refine s_X9_arrange hL (fun ν hν h60 h62 => ?_)
    refine GG.iload_n e_X10_marry_40 (i := 1) rfl 1 rfl ?_
    refine GG.iconst (v := -1) e_X10_marry_41 rfl ?_
    refine GG.icmp_ne (tgt := 55) e_X10_marry_42 rfl (fun h42 => ?_) (fun h42 => absurd h42 (by exact nI_m1 (by omega)))
    refine GG.aload_n e_X10_marry_55 (i := 0) rfl 0 rfl ?_
    refine GG.getR (b := 60) e_X10_marry_56 fl_X10_53 (sf_X10_9 i_X10_0) ?_
    refine GG.iload_n e_X10_marry_59 (i := 1) rfl 1 rfl ?_
    refine GG.callV (d' := 1) (a := 60) (as := [.int _]) e_X10_marry_60 ml_X10_214 mf_X9_partnerOf mv_X9_partnerOf (rc_X9 i_X9_60) rfl (by decide) (Nat.le_of_ble_eq_true rfl) rfl ?_
    refine s_X9_partnerOf (by omega) ?_
    refine GG.iret e_X10_marry_63 rfl rfl ?_
    exact qI (hq ν hν) (h62 k (by omega))
  refine SPC.of (by decide +kernel) (Nat.le_of_ble_eq_true rfl) (ls := [(0, .ref (0)), (1, .int (i))]) rfl ?_
  refine GG.iload_n e_X10_marry_0 (i := 1) rfl 1 rfl ?_
  refine GG.iconst (v := -1) e_X10_marry_1 rfl ?_
  refine GG.icmp_eq (tgt := 26) e_X10_marry_2 rfl (fun h2 => ?_) (fun h2 => ?_)
  · skip
    first | exact j26a i μ (hall h2) hL h2 | exact j26b k hk (hone k hk rfl)
  · skip
    refine GG.aload_n e_X10_marry_5 (i := 0) rfl 0 rfl ?_
    refine GG.getR (b := 1) e_X10_marry_6 fl_X10_12 (sf_X10_0 i_X10_0) ?_
    refine GG.getR (b := 2) e_X10_marry_9 fl_X10_65 (sf_X2_0 i_X2_1) ?_
    refine GG.iload_n e_X10_marry_12 (i := 1) rfl 1 rfl ?_
    refine GG.callV (d' := 0) (a := 2) (as := [.int _]) e_X10_marry_13 ml_X10_140 mf_X4_hasOne mv_X4_hasOne (rc_X4 i_X4_2) rfl (by decide) (Nat.le_of_ble_eq_true rfl) rfl ?_
    refine s_X4_hasOne i_X4_2 hL ?_
    refine GG.if_ne (tgt := 26) e_X10_marry_16 rfl (fun h16 => ?_) (fun h16 => ?_)
    · skip
      obtain ⟨k, hk, rfl⟩ := mIn_of ((bI_n0 _).mp h16) (by omega)
      first | exact j26a i μ (hall h2) hL h2 | exact j26b k hk (hone k hk rfl)
    · skip
      have o := (bI_0 _).mp h16
      refine GG.aload_n e_X10_marry_19 (i := 0) rfl 0 rfl ?_
      refine GG.bipush (v := -10) e_X10_marry_20 rfl ?_
      refine GG.callV (d' := 0) (a := 0) (as := [.int _]) e_X10_marry_22 ml_X10_61 mf_X10_refuseBad mv_X10_refuseBad (rc_X10 i_X10_0) rfl (by decide) (Nat.le_of_ble_eq_true rfl) rfl ?_
      refine s_X10_refuseBad ?_
      refine GG.iret e_X10_marry_25 rfl rfl ?_
      exact hbad (by simp [o, h2])
end S31
