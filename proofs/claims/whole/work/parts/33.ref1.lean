/-! THE REFERENCE: small methods, what sounds -/
theorem in_oB (v a b : Int32) : decide (a ≤ v ∧ v ≤ b) = !oB v a b := by
  have e : (a ≤ v ∧ v ≤ b) ↔ ¬ (v < a ∨ b < v) := by
    rw [not_or]
    simp only [Int32.lt_iff_toInt_lt, Int32.le_iff_toInt_le, Int.not_lt]
  unfold oB
  by_cases h : v < a ∨ b < v
  · rw [decide_eq_false (fun z => e.mp z h), decide_eq_true h]; rfl
  · rw [decide_eq_true (e.mpr h), decide_eq_false h]; rfl
theorem pm1_toInt : ∀ P, P < 8 → (nI P - 1).toInt = (P : Int) - 1 := by decide +kernel
theorem in_mIn {i : Int32} {P : Nat} (hP : P < 8) : decide ((0 : Int32) ≤ i ∧ i ≤ nI P - 1) = mIn i P := by
  unfold mIn
  congr 1
  simp only [Int32.le_iff_toInt_le, pm1_toInt P hP]
  have e : (0 : Int32).toInt = 0 := by decide
  rw [e]
  apply propext
  omega
def rRf (μ : gM) (k : Nat) : gM := mwr μ 66 k (mrd μ 66 k + 1)
def MR (μ : gM) (P A : Nat) : Prop := mrd μ 64 11 = nI P ∧ P ≤ 7 ∧ mrd μ 64 26 = nI A ∧ A ≤ 4
def rV (μ : gM) (B : Nat) : Nat → Nat → Int32 := fun f k => if f = 0 then mrd μ 64 (12 + k) else if f = 1 then mrd μ 64 (19 + k) else if f = 2 then mrd μ 64 (B + k) else if f = 3 then mrd μ 64 (27 + k) else mrd μ 64 (31 + k)
def gL9 (μ ν : gM) : Prop := (∀ c j, ¬ c = 69 → mrd ν c j = mrd μ c j) ∧ ∀ c j, mrL ν c j = mrL μ c j
theorem gL9.rf (μ : gM) : gL9 μ μ := ⟨fun _ _ _ => rfl, fun _ _ => rfl⟩
theorem gL9.tr {μ ν ξ : gM} (h : gL9 μ ν) (h2 : gL9 ν ξ) : gL9 μ ξ := ⟨fun c j q => (h2.1 c j q).trans (h.1 c j q), fun c j => (h2.2 c j).trans (h.2 c j)⟩
theorem gL9.sm {μ ν : gM} (h : gL9 μ ν) : gSm μ ν := ⟨fun c j q => h.1 c j (by rintro rfl; exact q (by unfold gScr; omega)), h.2⟩
theorem gL9.row {μ ν : gM} (h : gL9 μ ν) (j : Nat) : mrd ν 64 j = mrd μ 64 j := h.1 64 j (by omega)
theorem gL9.rV {μ ν : gM} (h : gL9 μ ν) (B : Nat) : rV ν B = rV μ B := by
  funext f k
  simp only [Jvm.Pilot.CLaneCymbalsLaw_law_r6117_09ee0f.rV, h.row]
theorem gL9.rl {μ ν : gM} {P A : Nat} (h : gL9 μ ν) (hR : MR μ P A) : MR ν P A := by
  unfold MR at *
  rw [h.row, h.row]
  exact hR
/-- the reference's sum of what sounds, somebody left out -/
def rSnd (μ : gM) (B A P : Nat) (w c lo : Int32) : Int32 := mSnd (rV μ B 1) (fun i => if nI i = lo then 0 else mLng (rV μ B) (mrd μ 64 (B + 7)) A i c) w P
theorem gL9.snd {μ ν : gM} {B A P : Nat} {w c lo : Int32} (h : gL9 μ ν) : rSnd ν B A P w c lo = rSnd μ B A P w c lo := by
  unfold rSnd
  rw [h.rV, h.row]
theorem mSum_add (f : Nat → Int32) (a b : Nat) : mSum f (a + b) = mSum f a + mSum (fun j => f (a + j)) b := by
  induction b with
  | zero => simp [mSum]
  | succ b ih => rw [← Nat.add_assoc, mSum, ih, mSum, Int32.add_assoc]
theorem mSum_sq (g : Nat → Nat → Int32) (P n : Nat) (hP : 0 < P) : mSum (fun k => g (k / P) (k % P)) (n * P) = mSum (fun i => mSum (g i) P) n := by
  induction n with
  | zero => rw [Nat.zero_mul]; rfl
  | succ n ih =>
    rw [Nat.succ_mul, mSum_add, ih, mSum]
    congr 1
    apply mSum_c
    intro j hj
    show g ((n * P + j) / P) ((n * P + j) % P) = g n j
    rw [Nat.mul_comm n P, Nat.mul_add_div hP, Nat.mul_add_mod, Nat.div_eq_of_lt hj, Nat.mod_eq_of_lt hj, Nat.add_zero]
theorem nI_dvm : ∀ P, P < 8 → ∀ k, k < 49 → 0 < P → nI k / nI P = nI (k / P) ∧ nI k - nI k / nI P * nI P = nI (k % P) := by decide +kernel
def mCnt (s : Int32) : Int32 := mSum (fun k => (s >>> (nI k &&& 31)) &&& 1) 31
def mZr (μ : gM) (n : Nat) : gM := (fun c j => if c = 64 ∧ j < n then 0 else μ.1 c j, μ.2)
theorem mrd_Zr (μ : gM) (n c j : Nat) : mrd (mZr μ n) c j = if c = 64 ∧ j < n then 0 else mrd μ c j := rfl
section S33
variable {μ : gM} {Q : Option Value → gM → Prop} {P A U L T N M B k : Nat} {i c a w z v x y o : Int32}
theorem s_X11_inO (hQ : Q (some (.int (bI (!oB v x y)))) μ) : SPC 0 MX11_in [.int v, .int x, .int y] μ Q := s_X11_in (by rw [in_oB]; exact hQ)
theorem s_X11_isOne (hR : MR μ P A) (hQ : Q (some (.int (bI (mIn i P)))) μ) : SPC 1 MX11_isOne [.ref 63, .int i] μ Q := by
  refine SPC.of (by decide +kernel) (Nat.le_of_ble_eq_true rfl) (ls := [(0, .ref (63)), (1, .int (i))]) rfl ?_
  refine GG.iload_n e_X11_isOne_0 (i := 1) rfl 1 rfl ?_
  refine GG.iconst (v := 0) e_X11_isOne_1 rfl ?_
  refine GG.aload_n e_X11_isOne_2 (i := 0) rfl 0 rfl ?_
  refine GG.getR (b := 64) e_X11_isOne_3 fl_X11_7 (sf_X11_0 i_X11_63) ?_
  refine GG.bipush (v := 11) e_X11_isOne_6 rfl ?_
  refine GG.ialoadV (k := 11) (v := nI P) e_X11_isOne_8 (sa_X11_0 i_X11_63) (rfl) (by omega) (Nat.le_of_ble_eq_true rfl) (hR.1) ?_
  refine GG.iconst (v := 1) e_X11_isOne_9 rfl ?_
  refine GG.isub e_X11_isOne_10 ?_
  refine GG.callS (d' := 0) (as := [.int _, .int _, .int _]) e_X11_isOne_11 ml_X11_51 mf_X11_in ms_X11_in rfl (by decide) (Nat.le_of_ble_eq_true rfl) rfl ?_
  refine s_X11_in ?_
  rw [in_mIn (by have := hR.2.1; omega)]
  refine GG.zret e_X11_isOne_14 rfl (gZ_n (bI_z _)) rfl ?_
  exact hQ
theorem s_X11_isAunt (hR : MR μ P A) (hQ : Q (some (.int (bI (mIn i A)))) μ) : SPC 1 MX11_isAunt [.ref 63, .int i] μ Q := by
  refine SPC.of (by decide +kernel) (Nat.le_of_ble_eq_true rfl) (ls := [(0, .ref (63)), (1, .int (i))]) rfl ?_
  refine GG.iload_n e_X11_isAunt_0 (i := 1) rfl 1 rfl ?_
  refine GG.iconst (v := 0) e_X11_isAunt_1 rfl ?_
  refine GG.aload_n e_X11_isAunt_2 (i := 0) rfl 0 rfl ?_
  refine GG.getR (b := 64) e_X11_isAunt_3 fl_X11_7 (sf_X11_0 i_X11_63) ?_
  refine GG.bipush (v := 26) e_X11_isAunt_6 rfl ?_
  refine GG.ialoadV (k := 26) (v := nI A) e_X11_isAunt_8 (sa_X11_0 i_X11_63) (rfl) (by omega) (Nat.le_of_ble_eq_true rfl) (hR.2.2.1) ?_
  refine GG.iconst (v := 1) e_X11_isAunt_9 rfl ?_
  refine GG.isub e_X11_isAunt_10 ?_
  refine GG.callS (d' := 0) (as := [.int _, .int _, .int _]) e_X11_isAunt_11 ml_X11_51 mf_X11_in ms_X11_in rfl (by decide) (Nat.le_of_ble_eq_true rfl) rfl ?_
  refine s_X11_in ?_
  rw [in_mIn (by have := hR.2.2.2; omega)]
  refine GG.zret e_X11_isAunt_14 rfl (gZ_n (bI_z _)) rfl ?_
  exact hQ
theorem s_X11_bits (hQ : Q (some (.int (mCnt v))) μ) : SPC 0 MX11_bits [.int v] μ Q := by
  have lp : ∀ n i s, 31 - i < n → i ≤ 31 → s = mSum (fun k => (v >>> (nI k &&& 31)) &&& 1) i → GG 0 MX11_bits 4 [(2, .int (nI i)), (1, .int s), (0, .int v)] [] μ Q := by
    intro n
    induction n with
    | zero => intro i s h; omega
    | succ n ih =>
      intro i s hn hi hs
      refine GG.iload_n e_X11_bits_4 (i := 2) rfl 0 rfl ?_
      refine GG.bipush (v := 31) e_X11_bits_5 rfl ?_
      refine GG.icmp_ge (tgt := 24) e_X11_bits_7 rfl (fun h7 => ?_) (fun h7 => ?_)
      · skip
        have e : i = 31 := by have := nle (a := 31) (b := i) h7 (by omega) (by omega); omega
        refine GG.iload_n e_X11_bits_24 (i := 1) rfl 1 rfl ?_
        refine GG.iret e_X11_bits_25 rfl rfl ?_
        subst e
        exact qI hQ hs
      · skip
        have e := nnle (a := 31) (b := i) h7 (by omega) (by omega)
        refine GG.iload_n e_X11_bits_10 (i := 1) rfl 1 rfl ?_
        refine GG.iload_n e_X11_bits_11 (i := 0) rfl 2 rfl ?_
        refine GG.iload_n e_X11_bits_12 (i := 2) rfl 0 rfl ?_
        refine GG.ishr e_X11_bits_13 ?_
        refine GG.iconst (v := 1) e_X11_bits_14 rfl ?_
        refine GG.iand e_X11_bits_15 ?_
        refine GG.iadd e_X11_bits_16 ?_
        refine GG.istore_n e_X11_bits_17 (i := 1) rfl (Nat.le_of_ble_eq_true rfl) (ls' := [(1, .int _), (2, .int _), (0, .int _)]) rfl ?_
        refine GG.iinc e_X11_bits_18 1 rfl (v := _) (by first | exact nI_s _ | exact nI_d _ | rfl) (Nat.le_of_ble_eq_true rfl) (ls' := [(2, .int _), (1, .int _), (0, .int _)]) rfl ?_
        refine GG.goto (tgt := 4) e_X11_bits_21 rfl ?_
        exact ih (i + 1) _ (by omega) (by omega) (by rw [hs]; rfl)
  refine SPC.of (by decide +kernel) (Nat.le_of_ble_eq_true rfl) (ls := [(0, .int (v))]) rfl ?_
  refine GG.iconst (v := 0) e_X11_bits_0 rfl ?_
  refine GG.istore_n e_X11_bits_1 (i := 1) rfl (Nat.le_of_ble_eq_true rfl) (ls' := [(1, .int _), (0, .int _)]) rfl ?_
  refine GG.iconst (v := 0) e_X11_bits_2 rfl ?_
  refine GG.istore_n e_X11_bits_3 (i := 2) rfl (Nat.le_of_ble_eq_true rfl) (ls' := [(2, .int _), (1, .int _), (0, .int _)]) rfl ?_
  exact lp 32 0 0 (by omega) (by omega) rfl
theorem s_X11_refuse (g0 : ¬ v = -3 → ¬ v = -4 → Q (some (.int v)) (rRf μ 0)) (g1 : v = -3 → Q (some (.int v)) (rRf μ 1)) (g2 : v = -4 → Q (some (.int v)) (rRf μ 2)) : SPC 0 MX11_refuse [.ref 63, .int v] μ Q := by
  refine SPC.of (by decide +kernel) (Nat.le_of_ble_eq_true rfl) (ls := [(0, .ref (63)), (1, .int (v))]) rfl ?_
  refine GG.aload_n e_X11_refuse_0 (i := 0) rfl 0 rfl ?_
  refine GG.getR (b := 66) e_X11_refuse_1 fl_X11_17 (sf_X11_2 i_X11_63) ?_
  refine GG.iload_n e_X11_refuse_4 (i := 1) rfl 1 rfl ?_
  refine GG.bipush (v := -3) e_X11_refuse_5 rfl ?_
  refine GG.icmp_ne (tgt := 14) e_X11_refuse_7 rfl (fun h7 => ?_) (fun h7 => ?_)
  · skip
    refine GG.iload_n e_X11_refuse_14 (i := 1) rfl 1 rfl ?_
    refine GG.bipush (v := -4) e_X11_refuse_15 rfl ?_
    refine GG.icmp_ne (tgt := 24) e_X11_refuse_17 rfl (fun h17 => ?_) (fun h17 => ?_)
    · skip
      refine GG.iconst (v := 0) e_X11_refuse_24 rfl ?_
      refine GG.dup2 e_X11_refuse_25 rfl rfl ?_
      refine GG.ialoadE (k := 0) e_X11_refuse_26 (sa_X11_2 i_X11_63) (rfl) (by omega) (Nat.le_of_ble_eq_true rfl) ?_
      refine GG.iconst (v := 1) e_X11_refuse_27 rfl ?_
      refine GG.iadd e_X11_refuse_28 ?_
      refine GG.iastoreE (k := 0) e_X11_refuse_29 (sa_X11_2 i_X11_63) (rfl) (by omega) (Nat.le_of_ble_eq_true rfl) ?_
      refine GG.iload_n e_X11_refuse_30 (i := 1) rfl 1 rfl ?_
      refine GG.iret e_X11_refuse_31 rfl rfl ?_
      first | exact g1 (by assumption) | exact g2 (by assumption) | exact g0 (by assumption) (by assumption)
    · skip
      refine GG.iconst (v := 2) e_X11_refuse_20 rfl ?_
      refine GG.goto (tgt := 25) e_X11_refuse_21 rfl ?_
      refine GG.dup2 e_X11_refuse_25 rfl rfl ?_
      refine GG.ialoadE (k := 2) e_X11_refuse_26 (sa_X11_2 i_X11_63) (rfl) (by omega) (Nat.le_of_ble_eq_true rfl) ?_
      refine GG.iconst (v := 1) e_X11_refuse_27 rfl ?_
      refine GG.iadd e_X11_refuse_28 ?_
      refine GG.iastoreE (k := 2) e_X11_refuse_29 (sa_X11_2 i_X11_63) (rfl) (by omega) (Nat.le_of_ble_eq_true rfl) ?_
      refine GG.iload_n e_X11_refuse_30 (i := 1) rfl 1 rfl ?_
      refine GG.iret e_X11_refuse_31 rfl rfl ?_
      first | exact g1 (by assumption) | exact g2 (by assumption) | exact g0 (by assumption) (by assumption)
  · skip
    refine GG.iconst (v := 1) e_X11_refuse_10 rfl ?_
    refine GG.goto (tgt := 25) e_X11_refuse_11 rfl ?_
    refine GG.dup2 e_X11_refuse_25 rfl rfl ?_
    refine GG.ialoadE (k := 1) e_X11_refuse_26 (sa_X11_2 i_X11_63) (rfl) (by omega) (Nat.le_of_ble_eq_true rfl) ?_
    refine GG.iconst (v := 1) e_X11_refuse_27 rfl ?_
    refine GG.iadd e_X11_refuse_28 ?_
    refine GG.iastoreE (k := 1) e_X11_refuse_29 (sa_X11_2 i_X11_63) (rfl) (by omega) (Nat.le_of_ble_eq_true rfl) ?_
    refine GG.iload_n e_X11_refuse_30 (i := 1) rfl 1 rfl ?_
    refine GG.iret e_X11_refuse_31 rfl rfl ?_
    first | exact g1 (by assumption) | exact g2 (by assumption) | exact g0 (by assumption) (by assumption)
theorem s_X11_refB (hQ : Q (some (.int (-2))) (rRf μ 0)) : SPC 0 MX11_refuse [.ref 63, .int (-2)] μ Q := s_X11_refuse (fun _ _ => hQ) (fun h => absurd h (by decide)) (fun h => absurd h (by decide))
theorem s_X11_refN (hQ : Q (some (.int (-3))) (rRf μ 1)) : SPC 0 MX11_refuse [.ref 63, .int (-3)] μ Q := s_X11_refuse (fun h => absurd rfl h) (fun _ => hQ) (fun h => absurd h (by decide))
theorem s_X11_refF (hQ : Q (some (.int (-4))) (rRf μ 2)) : SPC 0 MX11_refuse [.ref 63, .int (-4)] μ Q := s_X11_refuse (fun _ h => absurd rfl h) (fun h => absurd h (by decide)) (fun _ => hQ)
theorem s_X11_badAs (hQ : Q (some (.int v)) (rRf μ 0)) : SPC 1 MX11_badAs [.ref 63, .int v] μ Q := by
  refine SPC.of (by decide +kernel) (Nat.le_of_ble_eq_true rfl) (ls := [(0, .ref (63)), (1, .int (v))]) rfl ?_
  refine GG.aload_n e_X11_badAs_0 (i := 0) rfl 0 rfl ?_
  refine GG.bipush (v := -2) e_X11_badAs_1 rfl ?_
  refine GG.callV (d' := 0) (a := 63) (as := [.int _]) e_X11_badAs_3 ml_X11_55 mf_X11_refuse mv_X11_refuse (rc_X11 i_X11_63) rfl (by decide) (Nat.le_of_ble_eq_true rfl) rfl ?_
  refine s_X11_refB ?_
  refine GG.pop e_X11_badAs_6 rfl ?_
  refine GG.iload_n e_X11_badAs_7 (i := 1) rfl 1 rfl ?_
  refine GG.iret e_X11_badAs_8 rfl rfl ?_
  exact hQ
theorem s_X11_layHouses (hQ : Q none (mwr (mZr μ 179) 64 10 w)) : SPC 0 MX11_layHouses [.ref 63, .int w] μ Q := by
  have lp : ∀ n i, 179 - i < n → i ≤ 179 → GG 0 MX11_layHouses 2 [(2, .int (nI i)), (0, .ref 63), (1, .int w)] [] (mZr μ i) Q := by
    intro n
    induction n with
    | zero => intro i h; omega
    | succ n ih =>
      intro i hn hi
      refine GG.iload_n e_X11_layHouses_2 (i := 2) rfl 0 rfl ?_
      refine GG.sipush (v := 179) e_X11_layHouses_3 rfl ?_
      refine GG.icmp_ge (tgt := 22) e_X11_layHouses_6 rfl (fun h6 => ?_) (fun h6 => ?_)
      · skip
        have e : i = 179 := by have := nle (a := 179) (b := i) h6 (by omega) (by omega); omega
        refine GG.aload_n e_X11_layHouses_22 (i := 0) rfl 1 rfl ?_
        refine GG.getR (b := 64) e_X11_layHouses_23 fl_X11_7 (sf_X11_0 i_X11_63) ?_
        refine GG.bipush (v := 10) e_X11_layHouses_26 rfl ?_
        refine GG.iload_n e_X11_layHouses_28 (i := 1) rfl 2 rfl ?_
        refine GG.iastoreE (k := 10) e_X11_layHouses_29 (sa_X11_0 i_X11_63) (rfl) (by omega) (Nat.le_of_ble_eq_true rfl) ?_
        refine GG.vret e_X11_layHouses_30 rfl rfl ?_
        subst e
        exact hQ
      · skip
        have e := nnle (a := 179) (b := i) h6 (by omega) (by omega)
        refine GG.aload_n e_X11_layHouses_9 (i := 0) rfl 1 rfl ?_
        refine GG.getR (b := 64) e_X11_layHouses_10 fl_X11_7 (sf_X11_0 i_X11_63) ?_
        refine GG.iload_n e_X11_layHouses_13 (i := 2) rfl 0 rfl ?_
        refine GG.iconst (v := 0) e_X11_layHouses_14 rfl ?_
        refine GG.iastoreE (k := i) e_X11_layHouses_15 (sa_X11_0 i_X11_63) (rfl) (by omega) (Nat.le_of_ble_eq_true rfl) ?_
        refine GG.iinc e_X11_layHouses_16 0 rfl (v := _) (by first | exact nI_s _ | exact nI_d _ | rfl) (Nat.le_of_ble_eq_true rfl) (ls' := [(2, .int _), (0, .ref _), (1, .int _)]) rfl ?_
        refine GG.goto (tgt := 2) e_X11_layHouses_19 rfl ?_
        refine GG.mem ?_ (ih (i + 1) (by omega) (by omega))
        refine gM_ext (fun c q => ?_) (fun c q => rfl)
        simp only [mrd_wr, mrd_Zr]
        grind
  refine SPC.of (by decide +kernel) (Nat.le_of_ble_eq_true rfl) (ls := [(0, .ref (63)), (1, .int (w))]) rfl ?_
  refine GG.iconst (v := 0) e_X11_layHouses_0 rfl ?_
  refine GG.istore_n e_X11_layHouses_1 (i := 2) rfl (Nat.le_of_ble_eq_true rfl) (ls' := [(2, .int _), (0, .ref _), (1, .int _)]) rfl ?_
  refine GG.mem ?_ (lp 180 0 (by omega) (by omega))
  refine gM_ext (fun c q => ?_) (fun c q => rfl)
  rw [mrd_Zr, if_neg (by omega)]
theorem s_X11_leaning (hR : MR μ P A) (hB : B ≤ 537) (hk : k < 7) (hQ : Q (some (.int (mLng (rV μ B) (mrd μ 64 (B + 7)) A k c))) μ) : SPC 2 MX11_leaning [.ref 63, .int (nI B), .int (nI k), .int c] μ Q := by
  have hA4 := hR.2.2.2
  have eB : nI B + 0 + nI k = nI (B + k) := by rw [show (0 : Int32) = nI 0 from rfl, nI_add, nI_add]; rfl
  have lp : ∀ n j x, A - j < n → j ≤ A → x = mDmp (rV μ B) (mrd μ 64 (B + 7)) (rV μ B 1 k) c j (mLean (rV μ B 0 k) (rV μ B 2 k) c) → GG 2 MX11_leaning 28 [(5, .int (nI j)), (4, .int x), (0, .ref 63), (1, .int (nI B)), (2, .int (nI k)), (3, .int c)] [] μ Q := by
    intro n
    induction n with
    | zero => intro j x h; omega
    | succ n ih =>
      intro j x hn hj hx
      have e3 : mrd μ 64 (27 + j) = rV μ B 3 j := rfl
      have e4 : mrd μ 64 (31 + j) = rV μ B 4 j := rfl
      have e1 : mrd μ 64 (19 + k) = rV μ B 1 k := rfl
      refine GG.iload e_X11_leaning_28 0 rfl ?_
      refine GG.aload_n e_X11_leaning_30 (i := 0) rfl 2 rfl ?_
      refine GG.getR (b := 64) e_X11_leaning_31 fl_X11_7 (sf_X11_0 i_X11_63) ?_
      refine GG.bipush (v := 26) e_X11_leaning_34 rfl ?_
      refine GG.ialoadV (k := 26) (v := nI A) e_X11_leaning_36 (sa_X11_0 i_X11_63) (rfl) (by omega) (Nat.le_of_ble_eq_true rfl) (hR.2.2.1) ?_
      refine GG.icmp_ge (tgt := 108) e_X11_leaning_37 rfl (fun h37 => ?_) (fun h37 => ?_)
      · skip
        have e : j = A := by have := nle h37 (by omega) (by omega); omega
        refine GG.iload e_X11_leaning_108 1 rfl ?_
        refine GG.iret e_X11_leaning_110 rfl rfl ?_
        subst e
        exact qI hQ hx
      · skip
        have e := nnle h37 (by omega) (by omega)
        refine GG.aload_n e_X11_leaning_40 (i := 0) rfl 2 rfl ?_
        refine GG.getR (b := 64) e_X11_leaning_41 fl_X11_7 (sf_X11_0 i_X11_63) ?_
        refine GG.iload_n e_X11_leaning_44 (i := 1) rfl 3 rfl ?_
        refine GG.bipush (v := 7) e_X11_leaning_45 rfl ?_
        refine GG.iadd e_X11_leaning_47 ?_
        refine GG.ialoadE (k := B + 7) e_X11_leaning_48 (sa_X11_0 i_X11_63) (nI_add B 7) (by omega) (Nat.le_of_ble_eq_true rfl) ?_
        refine GG.iload e_X11_leaning_49 0 rfl ?_
        refine GG.callS (d' := 0) (as := [.int _, .int _]) e_X11_leaning_51 ml_X11_139 mf_X11_has ms_X11_has rfl (by decide) (Nat.le_of_ble_eq_true rfl) rfl ?_
        refine s_X11_has ?_
        refine GG.if_eq (tgt := 98) e_X11_leaning_54 rfl (fun h54 => ?_) (fun h54 => ?_)
        · skip
          have o := (bI_0 _).mp h54
          refine GG.iload e_X11_leaning_98 1 rfl ?_
          refine GG.istore e_X11_leaning_100 (Nat.le_of_ble_eq_true rfl) (ls' := [(4, .int _), (5, .int _), (0, .ref _), (1, .int _), (2, .int _), (3, .int _)]) rfl ?_
          refine GG.iinc e_X11_leaning_102 1 rfl (v := _) (by first | exact nI_s _ | exact nI_d _ | rfl) (Nat.le_of_ble_eq_true rfl) (ls' := [(5, .int _), (4, .int _), (0, .ref _), (1, .int _), (2, .int _), (3, .int _)]) rfl ?_
          refine GG.goto (tgt := 28) e_X11_leaning_105 rfl ?_
          refine ih (j + 1) _ (by omega) (by omega) ?_
          rw [mDmp, ← hx]
          first | rw [if_neg (fun z => absurd (o.symm.trans z.1) (by decide))] | rw [if_neg (fun z => h76 z.2)] | rw [if_pos ⟨o, h76⟩]
          all_goals rfl
        · skip
          have o := (bI_n0 _).mp h54
          refine GG.aload_n e_X11_leaning_57 (i := 0) rfl 2 rfl ?_
          refine GG.getR (b := 64) e_X11_leaning_58 fl_X11_7 (sf_X11_0 i_X11_63) ?_
          refine GG.bipush (v := 31) e_X11_leaning_61 rfl ?_
          refine GG.iload e_X11_leaning_63 0 rfl ?_
          refine GG.iadd e_X11_leaning_65 ?_
          refine GG.ialoadE (k := 31 + j) e_X11_leaning_66 (sa_X11_0 i_X11_63) (nI_add 31 j) (by omega) (Nat.le_of_ble_eq_true rfl) ?_
          refine GG.aload_n e_X11_leaning_67 (i := 0) rfl 2 rfl ?_
          refine GG.getR (b := 64) e_X11_leaning_68 fl_X11_7 (sf_X11_0 i_X11_63) ?_
          refine GG.bipush (v := 19) e_X11_leaning_71 rfl ?_
          refine GG.iload_n e_X11_leaning_73 (i := 2) rfl 4 rfl ?_
          refine GG.iadd e_X11_leaning_74 ?_
          refine GG.ialoadE (k := 19 + k) e_X11_leaning_75 (sa_X11_0 i_X11_63) (nI_add 19 k) (by omega) (Nat.le_of_ble_eq_true rfl) ?_
          refine GG.icmp_ne (tgt := 98) e_X11_leaning_76 rfl (fun h76 => ?_) (fun h76 => ?_)
          · skip
            refine GG.iload e_X11_leaning_98 1 rfl ?_
            refine GG.istore e_X11_leaning_100 (Nat.le_of_ble_eq_true rfl) (ls' := [(4, .int _), (5, .int _), (0, .ref _), (1, .int _), (2, .int _), (3, .int _)]) rfl ?_
            refine GG.iinc e_X11_leaning_102 1 rfl (v := _) (by first | exact nI_s _ | exact nI_d _ | rfl) (Nat.le_of_ble_eq_true rfl) (ls' := [(5, .int _), (4, .int _), (0, .ref _), (1, .int _), (2, .int _), (3, .int _)]) rfl ?_
            refine GG.goto (tgt := 28) e_X11_leaning_105 rfl ?_
            refine ih (j + 1) _ (by omega) (by omega) ?_
            rw [mDmp, ← hx]
            first | rw [if_neg (fun z => absurd (o.symm.trans z.1) (by decide))] | rw [if_neg (fun z => h76 z.2)] | rw [if_pos ⟨o, h76⟩]
            all_goals rfl
          · skip
            refine GG.aload_n e_X11_leaning_79 (i := 0) rfl 2 rfl ?_
            refine GG.getR (b := 64) e_X11_leaning_80 fl_X11_7 (sf_X11_0 i_X11_63) ?_
            refine GG.bipush (v := 27) e_X11_leaning_83 rfl ?_
            refine GG.iload e_X11_leaning_85 0 rfl ?_
            refine GG.iadd e_X11_leaning_87 ?_
            refine GG.ialoadE (k := 27 + j) e_X11_leaning_88 (sa_X11_0 i_X11_63) (nI_add 27 j) (by omega) (Nat.le_of_ble_eq_true rfl) ?_
            refine GG.iload e_X11_leaning_89 1 rfl ?_
            refine GG.iload_n e_X11_leaning_91 (i := 3) rfl 5 rfl ?_
            refine GG.callS (d' := 1) (as := [.int _, .int _, .int _]) e_X11_leaning_92 ml_X11_143 mf_X11_dampedBy ms_X11_dampedBy rfl (by decide) (Nat.le_of_ble_eq_true rfl) rfl ?_
            refine s_X11_dampedBy ?_
            refine GG.goto (tgt := 100) e_X11_leaning_95 rfl ?_
            refine GG.istore e_X11_leaning_100 (Nat.le_of_ble_eq_true rfl) (ls' := [(4, .int _), (5, .int _), (0, .ref _), (1, .int _), (2, .int _), (3, .int _)]) rfl ?_
            refine GG.iinc e_X11_leaning_102 1 rfl (v := _) (by first | exact nI_s _ | exact nI_d _ | rfl) (Nat.le_of_ble_eq_true rfl) (ls' := [(5, .int _), (4, .int _), (0, .ref _), (1, .int _), (2, .int _), (3, .int _)]) rfl ?_
            refine GG.goto (tgt := 28) e_X11_leaning_105 rfl ?_
            refine ih (j + 1) _ (by omega) (by omega) ?_
            rw [mDmp, ← hx]
            first | rw [if_neg (fun z => absurd (o.symm.trans z.1) (by decide))] | rw [if_neg (fun z => h76 z.2)] | rw [if_pos ⟨o, h76⟩]
            all_goals rfl
  refine SPC.of (by decide +kernel) (Nat.le_of_ble_eq_true rfl) (ls := [(0, .ref (63)), (1, .int (nI B)), (2, .int (nI k)), (3, .int (c))]) rfl ?_
  refine GG.aload_n e_X11_leaning_0 (i := 0) rfl 0 rfl ?_
  refine GG.getR (b := 64) e_X11_leaning_1 fl_X11_7 (sf_X11_0 i_X11_63) ?_
  refine GG.bipush (v := 12) e_X11_leaning_4 rfl ?_
  refine GG.iload_n e_X11_leaning_6 (i := 2) rfl 2 rfl ?_
  refine GG.iadd e_X11_leaning_7 ?_
  refine GG.ialoadE (k := 12 + k) e_X11_leaning_8 (sa_X11_0 i_X11_63) (nI_add 12 k) (by omega) (Nat.le_of_ble_eq_true rfl) ?_
  refine GG.aload_n e_X11_leaning_9 (i := 0) rfl 0 rfl ?_
  refine GG.getR (b := 64) e_X11_leaning_10 fl_X11_7 (sf_X11_0 i_X11_63) ?_
  refine GG.iload_n e_X11_leaning_13 (i := 1) rfl 1 rfl ?_
  refine GG.iconst (v := 0) e_X11_leaning_14 rfl ?_
  refine GG.iadd e_X11_leaning_15 ?_
  refine GG.iload_n e_X11_leaning_16 (i := 2) rfl 2 rfl ?_
  refine GG.iadd e_X11_leaning_17 ?_
  refine GG.ialoadE (k := B + k) e_X11_leaning_18 (sa_X11_0 i_X11_63) (eB) (by omega) (Nat.le_of_ble_eq_true rfl) ?_
  refine GG.iload_n e_X11_leaning_19 (i := 3) rfl 3 rfl ?_
  refine GG.callS (d' := 0) (as := [.int _, .int _, .int _]) e_X11_leaning_20 ml_X11_135 mf_X11_leansBy ms_X11_leansBy rfl (by decide) (Nat.le_of_ble_eq_true rfl) rfl ?_
  refine s_X11_leansBy ?_
  refine GG.istore e_X11_leaning_23 (Nat.le_of_ble_eq_true rfl) (ls' := [(4, .int _), (0, .ref _), (1, .int _), (2, .int _), (3, .int _)]) rfl ?_
  refine GG.iconst (v := 0) e_X11_leaning_25 rfl ?_
  refine GG.istore e_X11_leaning_26 (Nat.le_of_ble_eq_true rfl) (ls' := [(5, .int _), (4, .int _), (0, .ref _), (1, .int _), (2, .int _), (3, .int _)]) rfl ?_
  exact lp (A + 1) 0 _ (by omega) (by omega) rfl
theorem s_X11_soundBy (hR : MR μ P A) (hB : B ≤ 537) (hQ : ∀ ν, gL9 μ ν → Q (some (.int (rSnd μ B A P w c o))) ν) : SPC 3 MX11_soundBy [.ref 63, .int (nI B), .int w, .int c, .int o] μ Q := by
  have hP7 := hR.2.1
  generalize hX : (fun i => if nI i = o then 0 else mLng (rV μ B) (mrd μ 64 (B + 7)) A i c) = X
  have hXi : ∀ i, (if nI i = o then 0 else mLng (rV μ B) (mrd μ 64 (B + 7)) A i c) = X i := fun i => by rw [← hX]
  have hS : rSnd μ B A P w c o = mSum (fun k => mPair (rV μ B 1) X w (k / P) (k % P)) (P * P) := by
    unfold rSnd
    rw [hX]
    by_cases h : P = 0
    · subst h; rfl
    · rw [mSum_sq (mPair (rV μ B 1) X w) P P (by omega)]; rfl
  generalize hf : (fun k => mPair (rV μ B 1) X w (k / P) (k % P)) = f at hS
  have hfk : ∀ k, f k = mPair (rV μ B 1) X w (k / P) (k % P) := fun k => by rw [← hf]
  have ex : ∃ Y : Nat → Int32, ∀ i, Y i = X i := ⟨X, fun _ => rfl⟩
  have lp2 : ∀ n k s ν, P * P - k < n → k ≤ P * P → s = mSum f k → gL9 μ ν → (∀ j, j < P → mrd ν 69 j = X j) → GG 3 MX11_soundBy 53 [(6, .int (nI k)), (5, .int s), (0, .ref 63), (1, .int (nI B)), (2, .int w), (3, .int c), (4, .int o)] [] ν Q := by
    have hPP : P * P ≤ 49 := Nat.mul_le_mul hP7 hP7
    intro n
    induction n with
    | zero => intro k s ν h; omega
    | succ n ih =>
      intro k s ν hn hk hs hν hX9
      have h11 : mrd ν 64 11 = nI P := by rw [hν.row]; exact hR.1
      have ple : ∀ x : Int32, x ≤ 0 ↔ ¬ 0 < x := fun x => Int32.not_lt.symm
      have plw : ∀ x : Int32, x < w ↔ ¬ w ≤ x := fun x => Int32.not_le.symm
      refine GG.iload e_X11_soundBy_53 0 rfl ?_
      refine GG.aload_n e_X11_soundBy_55 (i := 0) rfl 2 rfl ?_
      refine GG.getR (b := 64) e_X11_soundBy_56 fl_X11_7 (sf_X11_0 i_X11_63) ?_
      refine GG.bipush (v := 11) e_X11_soundBy_59 rfl ?_
      refine GG.ialoadV (k := 11) (v := nI P) e_X11_soundBy_61 (sa_X11_0 i_X11_63) (rfl) (by omega) (Nat.le_of_ble_eq_true rfl) (h11) ?_
      refine GG.aload_n e_X11_soundBy_62 (i := 0) rfl 2 rfl ?_
      refine GG.getR (b := 64) e_X11_soundBy_63 fl_X11_7 (sf_X11_0 i_X11_63) ?_
      refine GG.bipush (v := 11) e_X11_soundBy_66 rfl ?_
      refine GG.ialoadV (k := 11) (v := nI P) e_X11_soundBy_68 (sa_X11_0 i_X11_63) (rfl) (by omega) (Nat.le_of_ble_eq_true rfl) (h11) ?_
      refine GG.imul e_X11_soundBy_69 ?_
      refine GG.top (pk_mul P P) ?_
      refine GG.icmp_ge (tgt := 200) e_X11_soundBy_70 rfl (fun h70 => ?_) (fun h70 => ?_)
      · skip
        have e : k = P * P := by have := nle h70 (by omega) (by omega); omega
        refine GG.iload e_X11_soundBy_200 1 rfl ?_
        refine GG.iret e_X11_soundBy_202 rfl rfl ?_
        subst e
        exact qI (hQ ν hν) (by rw [hs, hS])
      · skip
        have e := nnle h70 (by omega) (by omega)
        have hP0 : 0 < P := Nat.pos_of_ne_zero (by rintro rfl; omega)
        obtain ⟨d1, d2⟩ := nI_dvm P (by omega) k (by omega) hP0
        have q1 : k / P < P := Nat.div_lt_of_lt_mul e
        have q2 : k % P < P := Nat.mod_lt _ hP0
        have hn0 : ¬ nI P = 0 := fun z => by have := (nI_eq (b := 0) (by omega) (by omega)).mp z; omega
        have hh : ∀ j, mrd ν 64 (19 + j) = rV μ B 1 j := fun j => hν.row (19 + j)
        have hfk1 := hfk k
        refine GG.iload e_X11_soundBy_73 0 rfl ?_
        refine GG.aload_n e_X11_soundBy_75 (i := 0) rfl 2 rfl ?_
        refine GG.getR (b := 64) e_X11_soundBy_76 fl_X11_7 (sf_X11_0 i_X11_63) ?_
        refine GG.bipush (v := 11) e_X11_soundBy_79 rfl ?_
        refine GG.ialoadV (k := 11) (v := nI P) e_X11_soundBy_81 (sa_X11_0 i_X11_63) (rfl) (by omega) (Nat.le_of_ble_eq_true rfl) (h11) ?_
        refine GG.idiv e_X11_soundBy_82 hn0 ?_
        refine GG.top d1 ?_
        refine GG.istore e_X11_soundBy_83 (Nat.le_of_ble_eq_true rfl) (ls' := [(7, .int _), (6, .int _), (5, .int _), (0, .ref _), (1, .int _), (2, .int _), (3, .int _), (4, .int _)]) rfl ?_
        refine GG.iload e_X11_soundBy_85 1 rfl ?_
        refine GG.aload_n e_X11_soundBy_87 (i := 0) rfl 3 rfl ?_
        refine GG.getR (b := 64) e_X11_soundBy_88 fl_X11_7 (sf_X11_0 i_X11_63) ?_
        refine GG.bipush (v := 11) e_X11_soundBy_91 rfl ?_
        refine GG.ialoadV (k := 11) (v := nI P) e_X11_soundBy_93 (sa_X11_0 i_X11_63) (rfl) (by omega) (Nat.le_of_ble_eq_true rfl) (h11) ?_
        refine GG.irem e_X11_soundBy_94 hn0 ?_
        refine GG.top d2 ?_
        refine GG.istore e_X11_soundBy_95 (Nat.le_of_ble_eq_true rfl) (ls' := [(8, .int _), (7, .int _), (6, .int _), (5, .int _), (0, .ref _), (1, .int _), (2, .int _), (3, .int _), (4, .int _)]) rfl ?_
        refine GG.aload_n e_X11_soundBy_97 (i := 0) rfl 4 rfl ?_
        refine GG.getR (b := 64) e_X11_soundBy_98 fl_X11_7 (sf_X11_0 i_X11_63) ?_
        refine GG.bipush (v := 19) e_X11_soundBy_101 rfl ?_
        refine GG.iload e_X11_soundBy_103 1 rfl ?_
        refine GG.iadd e_X11_soundBy_105 ?_
        refine GG.ialoadV (k := 19 + k / P) (v := rV μ B 1 (k / P)) e_X11_soundBy_106 (sa_X11_0 i_X11_63) (nI_add 19 (k / P)) (by omega) (Nat.le_of_ble_eq_true rfl) (hh _) ?_
        refine GG.if_ne (tgt := 148) e_X11_soundBy_107 rfl (fun h107 => ?_) (fun h107 => ?_)
        · skip
          refine GG.iconst (v := 0) e_X11_soundBy_148 rfl ?_
          refine GG.istore e_X11_soundBy_149 (Nat.le_of_ble_eq_true rfl) (ls' := [(9, .int _), (8, .int _), (7, .int _), (6, .int _), (5, .int _), (0, .ref _), (1, .int _), (2, .int _), (3, .int _), (4, .int _)]) rfl ?_
          refine GG.aload_n e_X11_soundBy_151 (i := 0) rfl 5 rfl ?_
          refine GG.getR (b := 69) e_X11_soundBy_152 fl_X11_30 (sf_X11_13 i_X11_63) ?_
          refine GG.iload e_X11_soundBy_155 2 rfl ?_
          refine GG.ialoadV (k := k / P) (v := X (k / P)) e_X11_soundBy_157 (sa_X11_13 i_X11_63) (rfl) (by omega) (Nat.le_of_ble_eq_true rfl) (hX9 _ q1) ?_
          refine GG.aload_n e_X11_soundBy_158 (i := 0) rfl 5 rfl ?_
          refine GG.getR (b := 69) e_X11_soundBy_159 fl_X11_30 (sf_X11_13 i_X11_63) ?_
          refine GG.iload e_X11_soundBy_162 1 rfl ?_
          refine GG.ialoadV (k := k % P) (v := X (k % P)) e_X11_soundBy_164 (sa_X11_13 i_X11_63) (rfl) (by omega) (Nat.le_of_ble_eq_true rfl) (hX9 _ q2) ?_
          refine GG.iadd e_X11_soundBy_165 ?_
          refine GG.istore e_X11_soundBy_166 (Nat.le_of_ble_eq_true rfl) (ls' := [(10, .int _), (9, .int _), (8, .int _), (7, .int _), (6, .int _), (5, .int _), (0, .ref _), (1, .int _), (2, .int _), (3, .int _), (4, .int _)]) rfl ?_
          refine GG.iload e_X11_soundBy_168 5 rfl ?_
          refine GG.iload e_X11_soundBy_170 1 rfl ?_
          refine GG.if_eq (tgt := 190) e_X11_soundBy_172 rfl (fun h172 => ?_) (fun h172 => ?_)
          · skip
            refine GG.iconst (v := 0) e_X11_soundBy_190 rfl ?_
            refine GG.iadd e_X11_soundBy_191 ?_
            refine GG.istore e_X11_soundBy_192 (Nat.le_of_ble_eq_true rfl) (ls' := [(5, .int _), (10, .int _), (9, .int _), (8, .int _), (7, .int _), (6, .int _), (0, .ref _), (1, .int _), (2, .int _), (3, .int _), (4, .int _)]) rfl ?_
            refine GG.iinc e_X11_soundBy_194 5 rfl (v := _) (by first | exact nI_s _ | exact nI_d _ | rfl) (Nat.le_of_ble_eq_true rfl) (ls' := [(6, .int _), (5, .int _), (10, .int _), (9, .int _), (8, .int _), (7, .int _), (0, .ref _), (1, .int _), (2, .int _), (3, .int _), (4, .int _)]) rfl ?_
            refine GG.goto (tgt := 53) e_X11_soundBy_197 rfl ?_
            refine GG.perm [0, 1, 6, 7, 8, 9, 10] rfl ?_
            refine ih (k + 1) _ ν (by omega) (by omega) ?_ hν hX9
            rw [mSum, ← hs, hfk1, mPair]
            grind
          · skip
            refine GG.iload e_X11_soundBy_175 0 rfl ?_
            refine GG.iload_n e_X11_soundBy_177 (i := 2) rfl 8 rfl ?_
            refine GG.icmp_lt (tgt := 190) e_X11_soundBy_178 rfl (fun h178 => ?_) (fun h178 => ?_)
            · skip
              refine GG.iconst (v := 0) e_X11_soundBy_190 rfl ?_
              refine GG.iadd e_X11_soundBy_191 ?_
              refine GG.istore e_X11_soundBy_192 (Nat.le_of_ble_eq_true rfl) (ls' := [(5, .int _), (10, .int _), (9, .int _), (8, .int _), (7, .int _), (6, .int _), (0, .ref _), (1, .int _), (2, .int _), (3, .int _), (4, .int _)]) rfl ?_
              refine GG.iinc e_X11_soundBy_194 5 rfl (v := _) (by first | exact nI_s _ | exact nI_d _ | rfl) (Nat.le_of_ble_eq_true rfl) (ls' := [(6, .int _), (5, .int _), (10, .int _), (9, .int _), (8, .int _), (7, .int _), (0, .ref _), (1, .int _), (2, .int _), (3, .int _), (4, .int _)]) rfl ?_
              refine GG.goto (tgt := 53) e_X11_soundBy_197 rfl ?_
              refine GG.perm [0, 1, 6, 7, 8, 9, 10] rfl ?_
              refine ih (k + 1) _ ν (by omega) (by omega) ?_ hν hX9
              rw [mSum, ← hs, hfk1, mPair]
              grind
            · skip
              refine GG.iload e_X11_soundBy_181 0 rfl ?_
              refine GG.iload_n e_X11_soundBy_183 (i := 2) rfl 8 rfl ?_
              refine GG.isub e_X11_soundBy_184 ?_
              refine GG.iconst (v := 1) e_X11_soundBy_185 rfl ?_
              refine GG.iadd e_X11_soundBy_186 ?_
              refine GG.goto (tgt := 191) e_X11_soundBy_187 rfl ?_
              refine GG.iadd e_X11_soundBy_191 ?_
              refine GG.istore e_X11_soundBy_192 (Nat.le_of_ble_eq_true rfl) (ls' := [(5, .int _), (10, .int _), (9, .int _), (8, .int _), (7, .int _), (6, .int _), (0, .ref _), (1, .int _), (2, .int _), (3, .int _), (4, .int _)]) rfl ?_
              refine GG.iinc e_X11_soundBy_194 5 rfl (v := _) (by first | exact nI_s _ | exact nI_d _ | rfl) (Nat.le_of_ble_eq_true rfl) (ls' := [(6, .int _), (5, .int _), (10, .int _), (9, .int _), (8, .int _), (7, .int _), (0, .ref _), (1, .int _), (2, .int _), (3, .int _), (4, .int _)]) rfl ?_
              refine GG.goto (tgt := 53) e_X11_soundBy_197 rfl ?_
              refine GG.perm [0, 1, 6, 7, 8, 9, 10] rfl ?_
              refine ih (k + 1) _ ν (by omega) (by omega) ?_ hν hX9
              rw [mSum, ← hs, hfk1, mPair]
              grind
        · skip
          refine GG.aload_n e_X11_soundBy_110 (i := 0) rfl 4 rfl ?_
          refine GG.getR (b := 64) e_X11_soundBy_111 fl_X11_7 (sf_X11_0 i_X11_63) ?_
          refine GG.bipush (v := 19) e_X11_soundBy_114 rfl ?_
          refine GG.iload e_X11_soundBy_116 0 rfl ?_
          refine GG.iadd e_X11_soundBy_118 ?_
          refine GG.ialoadV (k := 19 + k % P) (v := rV μ B 1 (k % P)) e_X11_soundBy_119 (sa_X11_0 i_X11_63) (nI_add 19 (k % P)) (by omega) (Nat.le_of_ble_eq_true rfl) (hh _) ?_
          refine GG.iconst (v := 1) e_X11_soundBy_120 rfl ?_
          refine GG.icmp_ne (tgt := 148) e_X11_soundBy_121 rfl (fun h121 => ?_) (fun h121 => ?_)
          · skip
            refine GG.iconst (v := 0) e_X11_soundBy_148 rfl ?_
            refine GG.istore e_X11_soundBy_149 (Nat.le_of_ble_eq_true rfl) (ls' := [(9, .int _), (8, .int _), (7, .int _), (6, .int _), (5, .int _), (0, .ref _), (1, .int _), (2, .int _), (3, .int _), (4, .int _)]) rfl ?_
            refine GG.aload_n e_X11_soundBy_151 (i := 0) rfl 5 rfl ?_
            refine GG.getR (b := 69) e_X11_soundBy_152 fl_X11_30 (sf_X11_13 i_X11_63) ?_
            refine GG.iload e_X11_soundBy_155 2 rfl ?_
            refine GG.ialoadV (k := k / P) (v := X (k / P)) e_X11_soundBy_157 (sa_X11_13 i_X11_63) (rfl) (by omega) (Nat.le_of_ble_eq_true rfl) (hX9 _ q1) ?_
            refine GG.aload_n e_X11_soundBy_158 (i := 0) rfl 5 rfl ?_
            refine GG.getR (b := 69) e_X11_soundBy_159 fl_X11_30 (sf_X11_13 i_X11_63) ?_
            refine GG.iload e_X11_soundBy_162 1 rfl ?_
            refine GG.ialoadV (k := k % P) (v := X (k % P)) e_X11_soundBy_164 (sa_X11_13 i_X11_63) (rfl) (by omega) (Nat.le_of_ble_eq_true rfl) (hX9 _ q2) ?_
            refine GG.iadd e_X11_soundBy_165 ?_
            refine GG.istore e_X11_soundBy_166 (Nat.le_of_ble_eq_true rfl) (ls' := [(10, .int _), (9, .int _), (8, .int _), (7, .int _), (6, .int _), (5, .int _), (0, .ref _), (1, .int _), (2, .int _), (3, .int _), (4, .int _)]) rfl ?_
            refine GG.iload e_X11_soundBy_168 5 rfl ?_
            refine GG.iload e_X11_soundBy_170 1 rfl ?_
            refine GG.if_eq (tgt := 190) e_X11_soundBy_172 rfl (fun h172 => ?_) (fun h172 => ?_)
            · skip
              refine GG.iconst (v := 0) e_X11_soundBy_190 rfl ?_
              refine GG.iadd e_X11_soundBy_191 ?_
              refine GG.istore e_X11_soundBy_192 (Nat.le_of_ble_eq_true rfl) (ls' := [(5, .int _), (10, .int _), (9, .int _), (8, .int _), (7, .int _), (6, .int _), (0, .ref _), (1, .int _), (2, .int _), (3, .int _), (4, .int _)]) rfl ?_
              refine GG.iinc e_X11_soundBy_194 5 rfl (v := _) (by first | exact nI_s _ | exact nI_d _ | rfl) (Nat.le_of_ble_eq_true rfl) (ls' := [(6, .int _), (5, .int _), (10, .int _), (9, .int _), (8, .int _), (7, .int _), (0, .ref _), (1, .int _), (2, .int _), (3, .int _), (4, .int _)]) rfl ?_
              refine GG.goto (tgt := 53) e_X11_soundBy_197 rfl ?_
              refine GG.perm [0, 1, 6, 7, 8, 9, 10] rfl ?_
              refine ih (k + 1) _ ν (by omega) (by omega) ?_ hν hX9
              rw [mSum, ← hs, hfk1, mPair]
              grind
            · skip
              refine GG.iload e_X11_soundBy_175 0 rfl ?_
              refine GG.iload_n e_X11_soundBy_177 (i := 2) rfl 8 rfl ?_
              refine GG.icmp_lt (tgt := 190) e_X11_soundBy_178 rfl (fun h178 => ?_) (fun h178 => ?_)
              · skip
                refine GG.iconst (v := 0) e_X11_soundBy_190 rfl ?_
                refine GG.iadd e_X11_soundBy_191 ?_
                refine GG.istore e_X11_soundBy_192 (Nat.le_of_ble_eq_true rfl) (ls' := [(5, .int _), (10, .int _), (9, .int _), (8, .int _), (7, .int _), (6, .int _), (0, .ref _), (1, .int _), (2, .int _), (3, .int _), (4, .int _)]) rfl ?_
                refine GG.iinc e_X11_soundBy_194 5 rfl (v := _) (by first | exact nI_s _ | exact nI_d _ | rfl) (Nat.le_of_ble_eq_true rfl) (ls' := [(6, .int _), (5, .int _), (10, .int _), (9, .int _), (8, .int _), (7, .int _), (0, .ref _), (1, .int _), (2, .int _), (3, .int _), (4, .int _)]) rfl ?_
                refine GG.goto (tgt := 53) e_X11_soundBy_197 rfl ?_
                refine GG.perm [0, 1, 6, 7, 8, 9, 10] rfl ?_
                refine ih (k + 1) _ ν (by omega) (by omega) ?_ hν hX9
                rw [mSum, ← hs, hfk1, mPair]
                grind
              · skip
                refine GG.iload e_X11_soundBy_181 0 rfl ?_
                refine GG.iload_n e_X11_soundBy_183 (i := 2) rfl 8 rfl ?_
                refine GG.isub e_X11_soundBy_184 ?_
                refine GG.iconst (v := 1) e_X11_soundBy_185 rfl ?_
                refine GG.iadd e_X11_soundBy_186 ?_
                refine GG.goto (tgt := 191) e_X11_soundBy_187 rfl ?_
                refine GG.iadd e_X11_soundBy_191 ?_
                refine GG.istore e_X11_soundBy_192 (Nat.le_of_ble_eq_true rfl) (ls' := [(5, .int _), (10, .int _), (9, .int _), (8, .int _), (7, .int _), (6, .int _), (0, .ref _), (1, .int _), (2, .int _), (3, .int _), (4, .int _)]) rfl ?_
                refine GG.iinc e_X11_soundBy_194 5 rfl (v := _) (by first | exact nI_s _ | exact nI_d _ | rfl) (Nat.le_of_ble_eq_true rfl) (ls' := [(6, .int _), (5, .int _), (10, .int _), (9, .int _), (8, .int _), (7, .int _), (0, .ref _), (1, .int _), (2, .int _), (3, .int _), (4, .int _)]) rfl ?_
                refine GG.goto (tgt := 53) e_X11_soundBy_197 rfl ?_
                refine GG.perm [0, 1, 6, 7, 8, 9, 10] rfl ?_
                refine ih (k + 1) _ ν (by omega) (by omega) ?_ hν hX9
                rw [mSum, ← hs, hfk1, mPair]
                grind
          · skip
            refine GG.aload_n e_X11_soundBy_124 (i := 0) rfl 4 rfl ?_
            refine GG.getR (b := 69) e_X11_soundBy_125 fl_X11_30 (sf_X11_13 i_X11_63) ?_
            refine GG.iload e_X11_soundBy_128 1 rfl ?_
            refine GG.ialoadV (k := k / P) (v := X (k / P)) e_X11_soundBy_130 (sa_X11_13 i_X11_63) (rfl) (by omega) (Nat.le_of_ble_eq_true rfl) (hX9 _ q1) ?_
            refine GG.if_le (tgt := 148) e_X11_soundBy_131 rfl (fun h131 => ?_) (fun h131 => ?_)
            · skip
              refine GG.iconst (v := 0) e_X11_soundBy_148 rfl ?_
              refine GG.istore e_X11_soundBy_149 (Nat.le_of_ble_eq_true rfl) (ls' := [(9, .int _), (8, .int _), (7, .int _), (6, .int _), (5, .int _), (0, .ref _), (1, .int _), (2, .int _), (3, .int _), (4, .int _)]) rfl ?_
              refine GG.aload_n e_X11_soundBy_151 (i := 0) rfl 5 rfl ?_
              refine GG.getR (b := 69) e_X11_soundBy_152 fl_X11_30 (sf_X11_13 i_X11_63) ?_
              refine GG.iload e_X11_soundBy_155 2 rfl ?_
              refine GG.ialoadV (k := k / P) (v := X (k / P)) e_X11_soundBy_157 (sa_X11_13 i_X11_63) (rfl) (by omega) (Nat.le_of_ble_eq_true rfl) (hX9 _ q1) ?_
              refine GG.aload_n e_X11_soundBy_158 (i := 0) rfl 5 rfl ?_
              refine GG.getR (b := 69) e_X11_soundBy_159 fl_X11_30 (sf_X11_13 i_X11_63) ?_
              refine GG.iload e_X11_soundBy_162 1 rfl ?_
              refine GG.ialoadV (k := k % P) (v := X (k % P)) e_X11_soundBy_164 (sa_X11_13 i_X11_63) (rfl) (by omega) (Nat.le_of_ble_eq_true rfl) (hX9 _ q2) ?_
              refine GG.iadd e_X11_soundBy_165 ?_
              refine GG.istore e_X11_soundBy_166 (Nat.le_of_ble_eq_true rfl) (ls' := [(10, .int _), (9, .int _), (8, .int _), (7, .int _), (6, .int _), (5, .int _), (0, .ref _), (1, .int _), (2, .int _), (3, .int _), (4, .int _)]) rfl ?_
              refine GG.iload e_X11_soundBy_168 5 rfl ?_
              refine GG.iload e_X11_soundBy_170 1 rfl ?_
              refine GG.if_eq (tgt := 190) e_X11_soundBy_172 rfl (fun h172 => ?_) (fun h172 => ?_)
              · skip
                refine GG.iconst (v := 0) e_X11_soundBy_190 rfl ?_
                refine GG.iadd e_X11_soundBy_191 ?_
                refine GG.istore e_X11_soundBy_192 (Nat.le_of_ble_eq_true rfl) (ls' := [(5, .int _), (10, .int _), (9, .int _), (8, .int _), (7, .int _), (6, .int _), (0, .ref _), (1, .int _), (2, .int _), (3, .int _), (4, .int _)]) rfl ?_
                refine GG.iinc e_X11_soundBy_194 5 rfl (v := _) (by first | exact nI_s _ | exact nI_d _ | rfl) (Nat.le_of_ble_eq_true rfl) (ls' := [(6, .int _), (5, .int _), (10, .int _), (9, .int _), (8, .int _), (7, .int _), (0, .ref _), (1, .int _), (2, .int _), (3, .int _), (4, .int _)]) rfl ?_
                refine GG.goto (tgt := 53) e_X11_soundBy_197 rfl ?_
                refine GG.perm [0, 1, 6, 7, 8, 9, 10] rfl ?_
                refine ih (k + 1) _ ν (by omega) (by omega) ?_ hν hX9
                rw [mSum, ← hs, hfk1, mPair]
                grind
              · skip
                refine GG.iload e_X11_soundBy_175 0 rfl ?_
                refine GG.iload_n e_X11_soundBy_177 (i := 2) rfl 8 rfl ?_
                refine GG.icmp_lt (tgt := 190) e_X11_soundBy_178 rfl (fun h178 => ?_) (fun h178 => ?_)
                · skip
                  refine GG.iconst (v := 0) e_X11_soundBy_190 rfl ?_
                  refine GG.iadd e_X11_soundBy_191 ?_
                  refine GG.istore e_X11_soundBy_192 (Nat.le_of_ble_eq_true rfl) (ls' := [(5, .int _), (10, .int _), (9, .int _), (8, .int _), (7, .int _), (6, .int _), (0, .ref _), (1, .int _), (2, .int _), (3, .int _), (4, .int _)]) rfl ?_
                  refine GG.iinc e_X11_soundBy_194 5 rfl (v := _) (by first | exact nI_s _ | exact nI_d _ | rfl) (Nat.le_of_ble_eq_true rfl) (ls' := [(6, .int _), (5, .int _), (10, .int _), (9, .int _), (8, .int _), (7, .int _), (0, .ref _), (1, .int _), (2, .int _), (3, .int _), (4, .int _)]) rfl ?_
                  refine GG.goto (tgt := 53) e_X11_soundBy_197 rfl ?_
                  refine GG.perm [0, 1, 6, 7, 8, 9, 10] rfl ?_
                  refine ih (k + 1) _ ν (by omega) (by omega) ?_ hν hX9
                  rw [mSum, ← hs, hfk1, mPair]
                  grind
                · skip
                  refine GG.iload e_X11_soundBy_181 0 rfl ?_
                  refine GG.iload_n e_X11_soundBy_183 (i := 2) rfl 8 rfl ?_
                  refine GG.isub e_X11_soundBy_184 ?_
                  refine GG.iconst (v := 1) e_X11_soundBy_185 rfl ?_
                  refine GG.iadd e_X11_soundBy_186 ?_
                  refine GG.goto (tgt := 191) e_X11_soundBy_187 rfl ?_
                  refine GG.iadd e_X11_soundBy_191 ?_
                  refine GG.istore e_X11_soundBy_192 (Nat.le_of_ble_eq_true rfl) (ls' := [(5, .int _), (10, .int _), (9, .int _), (8, .int _), (7, .int _), (6, .int _), (0, .ref _), (1, .int _), (2, .int _), (3, .int _), (4, .int _)]) rfl ?_
                  refine GG.iinc e_X11_soundBy_194 5 rfl (v := _) (by first | exact nI_s _ | exact nI_d _ | rfl) (Nat.le_of_ble_eq_true rfl) (ls' := [(6, .int _), (5, .int _), (10, .int _), (9, .int _), (8, .int _), (7, .int _), (0, .ref _), (1, .int _), (2, .int _), (3, .int _), (4, .int _)]) rfl ?_
                  refine GG.goto (tgt := 53) e_X11_soundBy_197 rfl ?_
                  refine GG.perm [0, 1, 6, 7, 8, 9, 10] rfl ?_
                  refine ih (k + 1) _ ν (by omega) (by omega) ?_ hν hX9
                  rw [mSum, ← hs, hfk1, mPair]
                  grind
            · skip
              refine GG.aload_n e_X11_soundBy_134 (i := 0) rfl 4 rfl ?_
              refine GG.getR (b := 69) e_X11_soundBy_135 fl_X11_30 (sf_X11_13 i_X11_63) ?_
              refine GG.iload e_X11_soundBy_138 0 rfl ?_
              refine GG.ialoadV (k := k % P) (v := X (k % P)) e_X11_soundBy_140 (sa_X11_13 i_X11_63) (rfl) (by omega) (Nat.le_of_ble_eq_true rfl) (hX9 _ q2) ?_
              refine GG.if_le (tgt := 148) e_X11_soundBy_141 rfl (fun h141 => ?_) (fun h141 => ?_)
              · skip
                refine GG.iconst (v := 0) e_X11_soundBy_148 rfl ?_
                refine GG.istore e_X11_soundBy_149 (Nat.le_of_ble_eq_true rfl) (ls' := [(9, .int _), (8, .int _), (7, .int _), (6, .int _), (5, .int _), (0, .ref _), (1, .int _), (2, .int _), (3, .int _), (4, .int _)]) rfl ?_
                refine GG.aload_n e_X11_soundBy_151 (i := 0) rfl 5 rfl ?_
                refine GG.getR (b := 69) e_X11_soundBy_152 fl_X11_30 (sf_X11_13 i_X11_63) ?_
                refine GG.iload e_X11_soundBy_155 2 rfl ?_
                refine GG.ialoadV (k := k / P) (v := X (k / P)) e_X11_soundBy_157 (sa_X11_13 i_X11_63) (rfl) (by omega) (Nat.le_of_ble_eq_true rfl) (hX9 _ q1) ?_
                refine GG.aload_n e_X11_soundBy_158 (i := 0) rfl 5 rfl ?_
                refine GG.getR (b := 69) e_X11_soundBy_159 fl_X11_30 (sf_X11_13 i_X11_63) ?_
                refine GG.iload e_X11_soundBy_162 1 rfl ?_
                refine GG.ialoadV (k := k % P) (v := X (k % P)) e_X11_soundBy_164 (sa_X11_13 i_X11_63) (rfl) (by omega) (Nat.le_of_ble_eq_true rfl) (hX9 _ q2) ?_
                refine GG.iadd e_X11_soundBy_165 ?_
                refine GG.istore e_X11_soundBy_166 (Nat.le_of_ble_eq_true rfl) (ls' := [(10, .int _), (9, .int _), (8, .int _), (7, .int _), (6, .int _), (5, .int _), (0, .ref _), (1, .int _), (2, .int _), (3, .int _), (4, .int _)]) rfl ?_
                refine GG.iload e_X11_soundBy_168 5 rfl ?_
                refine GG.iload e_X11_soundBy_170 1 rfl ?_
                refine GG.if_eq (tgt := 190) e_X11_soundBy_172 rfl (fun h172 => ?_) (fun h172 => ?_)
                · skip
                  refine GG.iconst (v := 0) e_X11_soundBy_190 rfl ?_
                  refine GG.iadd e_X11_soundBy_191 ?_
                  refine GG.istore e_X11_soundBy_192 (Nat.le_of_ble_eq_true rfl) (ls' := [(5, .int _), (10, .int _), (9, .int _), (8, .int _), (7, .int _), (6, .int _), (0, .ref _), (1, .int _), (2, .int _), (3, .int _), (4, .int _)]) rfl ?_
                  refine GG.iinc e_X11_soundBy_194 5 rfl (v := _) (by first | exact nI_s _ | exact nI_d _ | rfl) (Nat.le_of_ble_eq_true rfl) (ls' := [(6, .int _), (5, .int _), (10, .int _), (9, .int _), (8, .int _), (7, .int _), (0, .ref _), (1, .int _), (2, .int _), (3, .int _), (4, .int _)]) rfl ?_
                  refine GG.goto (tgt := 53) e_X11_soundBy_197 rfl ?_
                  refine GG.perm [0, 1, 6, 7, 8, 9, 10] rfl ?_
                  refine ih (k + 1) _ ν (by omega) (by omega) ?_ hν hX9
                  rw [mSum, ← hs, hfk1, mPair]
                  grind
                · skip
                  refine GG.iload e_X11_soundBy_175 0 rfl ?_
                  refine GG.iload_n e_X11_soundBy_177 (i := 2) rfl 8 rfl ?_
                  refine GG.icmp_lt (tgt := 190) e_X11_soundBy_178 rfl (fun h178 => ?_) (fun h178 => ?_)
                  · skip
                    refine GG.iconst (v := 0) e_X11_soundBy_190 rfl ?_
                    refine GG.iadd e_X11_soundBy_191 ?_
                    refine GG.istore e_X11_soundBy_192 (Nat.le_of_ble_eq_true rfl) (ls' := [(5, .int _), (10, .int _), (9, .int _), (8, .int _), (7, .int _), (6, .int _), (0, .ref _), (1, .int _), (2, .int _), (3, .int _), (4, .int _)]) rfl ?_
                    refine GG.iinc e_X11_soundBy_194 5 rfl (v := _) (by first | exact nI_s _ | exact nI_d _ | rfl) (Nat.le_of_ble_eq_true rfl) (ls' := [(6, .int _), (5, .int _), (10, .int _), (9, .int _), (8, .int _), (7, .int _), (0, .ref _), (1, .int _), (2, .int _), (3, .int _), (4, .int _)]) rfl ?_
                    refine GG.goto (tgt := 53) e_X11_soundBy_197 rfl ?_
                    refine GG.perm [0, 1, 6, 7, 8, 9, 10] rfl ?_
                    refine ih (k + 1) _ ν (by omega) (by omega) ?_ hν hX9
                    rw [mSum, ← hs, hfk1, mPair]
                    grind
                  · skip
                    refine GG.iload e_X11_soundBy_181 0 rfl ?_
                    refine GG.iload_n e_X11_soundBy_183 (i := 2) rfl 8 rfl ?_
                    refine GG.isub e_X11_soundBy_184 ?_
                    refine GG.iconst (v := 1) e_X11_soundBy_185 rfl ?_
                    refine GG.iadd e_X11_soundBy_186 ?_
                    refine GG.goto (tgt := 191) e_X11_soundBy_187 rfl ?_
                    refine GG.iadd e_X11_soundBy_191 ?_
                    refine GG.istore e_X11_soundBy_192 (Nat.le_of_ble_eq_true rfl) (ls' := [(5, .int _), (10, .int _), (9, .int _), (8, .int _), (7, .int _), (6, .int _), (0, .ref _), (1, .int _), (2, .int _), (3, .int _), (4, .int _)]) rfl ?_
                    refine GG.iinc e_X11_soundBy_194 5 rfl (v := _) (by first | exact nI_s _ | exact nI_d _ | rfl) (Nat.le_of_ble_eq_true rfl) (ls' := [(6, .int _), (5, .int _), (10, .int _), (9, .int _), (8, .int _), (7, .int _), (0, .ref _), (1, .int _), (2, .int _), (3, .int _), (4, .int _)]) rfl ?_
                    refine GG.goto (tgt := 53) e_X11_soundBy_197 rfl ?_
                    refine GG.perm [0, 1, 6, 7, 8, 9, 10] rfl ?_
                    refine ih (k + 1) _ ν (by omega) (by omega) ?_ hν hX9
                    rw [mSum, ← hs, hfk1, mPair]
                    grind
              · skip
                refine GG.iconst (v := 1) e_X11_soundBy_144 rfl ?_
                refine GG.goto (tgt := 149) e_X11_soundBy_145 rfl ?_
                refine GG.istore e_X11_soundBy_149 (Nat.le_of_ble_eq_true rfl) (ls' := [(9, .int _), (8, .int _), (7, .int _), (6, .int _), (5, .int _), (0, .ref _), (1, .int _), (2, .int _), (3, .int _), (4, .int _)]) rfl ?_
                refine GG.aload_n e_X11_soundBy_151 (i := 0) rfl 5 rfl ?_
                refine GG.getR (b := 69) e_X11_soundBy_152 fl_X11_30 (sf_X11_13 i_X11_63) ?_
                refine GG.iload e_X11_soundBy_155 2 rfl ?_
                refine GG.ialoadV (k := k / P) (v := X (k / P)) e_X11_soundBy_157 (sa_X11_13 i_X11_63) (rfl) (by omega) (Nat.le_of_ble_eq_true rfl) (hX9 _ q1) ?_
                refine GG.aload_n e_X11_soundBy_158 (i := 0) rfl 5 rfl ?_
                refine GG.getR (b := 69) e_X11_soundBy_159 fl_X11_30 (sf_X11_13 i_X11_63) ?_
                refine GG.iload e_X11_soundBy_162 1 rfl ?_
                refine GG.ialoadV (k := k % P) (v := X (k % P)) e_X11_soundBy_164 (sa_X11_13 i_X11_63) (rfl) (by omega) (Nat.le_of_ble_eq_true rfl) (hX9 _ q2) ?_
                refine GG.iadd e_X11_soundBy_165 ?_
                refine GG.istore e_X11_soundBy_166 (Nat.le_of_ble_eq_true rfl) (ls' := [(10, .int _), (9, .int _), (8, .int _), (7, .int _), (6, .int _), (5, .int _), (0, .ref _), (1, .int _), (2, .int _), (3, .int _), (4, .int _)]) rfl ?_
                refine GG.iload e_X11_soundBy_168 5 rfl ?_
                refine GG.iload e_X11_soundBy_170 1 rfl ?_
                refine GG.if_eq (tgt := 190) e_X11_soundBy_172 rfl (fun h172 => ?_) (fun h172 => ?_)
                · skip
                  refine GG.iconst (v := 0) e_X11_soundBy_190 rfl ?_
                  refine GG.iadd e_X11_soundBy_191 ?_
                  refine GG.istore e_X11_soundBy_192 (Nat.le_of_ble_eq_true rfl) (ls' := [(5, .int _), (10, .int _), (9, .int _), (8, .int _), (7, .int _), (6, .int _), (0, .ref _), (1, .int _), (2, .int _), (3, .int _), (4, .int _)]) rfl ?_
                  refine GG.iinc e_X11_soundBy_194 5 rfl (v := _) (by first | exact nI_s _ | exact nI_d _ | rfl) (Nat.le_of_ble_eq_true rfl) (ls' := [(6, .int _), (5, .int _), (10, .int _), (9, .int _), (8, .int _), (7, .int _), (0, .ref _), (1, .int _), (2, .int _), (3, .int _), (4, .int _)]) rfl ?_
                  refine GG.goto (tgt := 53) e_X11_soundBy_197 rfl ?_
                  refine GG.perm [0, 1, 6, 7, 8, 9, 10] rfl ?_
                  refine ih (k + 1) _ ν (by omega) (by omega) ?_ hν hX9
                  rw [mSum, ← hs, hfk1, mPair]
                  grind
                · skip
                  refine GG.iload e_X11_soundBy_175 0 rfl ?_
                  refine GG.iload_n e_X11_soundBy_177 (i := 2) rfl 8 rfl ?_
                  refine GG.icmp_lt (tgt := 190) e_X11_soundBy_178 rfl (fun h178 => ?_) (fun h178 => ?_)
                  · skip
                    refine GG.iconst (v := 0) e_X11_soundBy_190 rfl ?_
                    refine GG.iadd e_X11_soundBy_191 ?_
                    refine GG.istore e_X11_soundBy_192 (Nat.le_of_ble_eq_true rfl) (ls' := [(5, .int _), (10, .int _), (9, .int _), (8, .int _), (7, .int _), (6, .int _), (0, .ref _), (1, .int _), (2, .int _), (3, .int _), (4, .int _)]) rfl ?_
                    refine GG.iinc e_X11_soundBy_194 5 rfl (v := _) (by first | exact nI_s _ | exact nI_d _ | rfl) (Nat.le_of_ble_eq_true rfl) (ls' := [(6, .int _), (5, .int _), (10, .int _), (9, .int _), (8, .int _), (7, .int _), (0, .ref _), (1, .int _), (2, .int _), (3, .int _), (4, .int _)]) rfl ?_
                    refine GG.goto (tgt := 53) e_X11_soundBy_197 rfl ?_
                    refine GG.perm [0, 1, 6, 7, 8, 9, 10] rfl ?_
                    refine ih (k + 1) _ ν (by omega) (by omega) ?_ hν hX9
                    rw [mSum, ← hs, hfk1, mPair]
                    grind
                  · skip
                    refine GG.iload e_X11_soundBy_181 0 rfl ?_
                    refine GG.iload_n e_X11_soundBy_183 (i := 2) rfl 8 rfl ?_
                    refine GG.isub e_X11_soundBy_184 ?_
                    refine GG.iconst (v := 1) e_X11_soundBy_185 rfl ?_
                    refine GG.iadd e_X11_soundBy_186 ?_
                    refine GG.goto (tgt := 191) e_X11_soundBy_187 rfl ?_
                    refine GG.iadd e_X11_soundBy_191 ?_
                    refine GG.istore e_X11_soundBy_192 (Nat.le_of_ble_eq_true rfl) (ls' := [(5, .int _), (10, .int _), (9, .int _), (8, .int _), (7, .int _), (6, .int _), (0, .ref _), (1, .int _), (2, .int _), (3, .int _), (4, .int _)]) rfl ?_
                    refine GG.iinc e_X11_soundBy_194 5 rfl (v := _) (by first | exact nI_s _ | exact nI_d _ | rfl) (Nat.le_of_ble_eq_true rfl) (ls' := [(6, .int _), (5, .int _), (10, .int _), (9, .int _), (8, .int _), (7, .int _), (0, .ref _), (1, .int _), (2, .int _), (3, .int _), (4, .int _)]) rfl ?_
                    refine GG.goto (tgt := 53) e_X11_soundBy_197 rfl ?_
                    refine GG.perm [0, 1, 6, 7, 8, 9, 10] rfl ?_
                    refine ih (k + 1) _ ν (by omega) (by omega) ?_ hν hX9
                    rw [mSum, ← hs, hfk1, mPair]
                    grind
  have lp1 : ∀ n i ν, P - i < n → i ≤ P → gL9 μ ν → (∀ j, j < i → mrd ν 69 j = X j) → GG 3 MX11_soundBy 3 [(5, .int (nI i)), (0, .ref 63), (1, .int (nI B)), (2, .int w), (3, .int c), (4, .int o)] [] ν Q := by
    intro n
    induction n with
    | zero => intro i ν h; omega
    | succ n ih =>
      intro i ν hn hi hν hX9
      have h11 : mrd ν 64 11 = nI P := by rw [hν.row]; exact hR.1
      have nx : ∀ v, v = X i → i < P → gL9 μ (mwr ν 69 i v) ∧ ∀ j, j < i + 1 → mrd (mwr ν 69 i v) 69 j = X j := by
        intro v hv hiP
        refine ⟨⟨fun c j q => by rw [mrd_wr, if_neg (by omega)]; exact hν.1 c j q, hν.2⟩, fun j hj => ?_⟩
        rw [mrd_wr]
        split
        · next h => rw [hv, h.2]
        · next h => exact hX9 j (by omega)
      refine GG.iload e_X11_soundBy_3 0 rfl ?_
      refine GG.aload_n e_X11_soundBy_5 (i := 0) rfl 1 rfl ?_
      refine GG.getR (b := 64) e_X11_soundBy_6 fl_X11_7 (sf_X11_0 i_X11_63) ?_
      refine GG.bipush (v := 11) e_X11_soundBy_9 rfl ?_
      refine GG.ialoadV (k := 11) (v := nI P) e_X11_soundBy_11 (sa_X11_0 i_X11_63) (rfl) (by omega) (Nat.le_of_ble_eq_true rfl) (h11) ?_
      refine GG.icmp_ge (tgt := 47) e_X11_soundBy_12 rfl (fun h12 => ?_) (fun h12 => ?_)
      · skip
        have e : i = P := by have := nle h12 (by omega) (by omega); omega
        refine GG.iconst (v := 0) e_X11_soundBy_47 rfl ?_
        refine GG.istore e_X11_soundBy_48 (Nat.le_of_ble_eq_true rfl) (ls' := [(5, .int _), (0, .ref _), (1, .int _), (2, .int _), (3, .int _), (4, .int _)]) rfl ?_
        refine GG.iconst (v := 0) e_X11_soundBy_50 rfl ?_
        refine GG.istore e_X11_soundBy_51 (Nat.le_of_ble_eq_true rfl) (ls' := [(6, .int _), (5, .int _), (0, .ref _), (1, .int _), (2, .int _), (3, .int _), (4, .int _)]) rfl ?_
        subst e
        exact lp2 _ 0 0 ν (Nat.lt_succ_self _) (by omega) rfl hν hX9
      · skip
        have e := nnle h12 (by omega) (by omega)
        refine GG.aload_n e_X11_soundBy_15 (i := 0) rfl 1 rfl ?_
        refine GG.getR (b := 69) e_X11_soundBy_16 fl_X11_30 (sf_X11_13 i_X11_63) ?_
        refine GG.iload e_X11_soundBy_19 0 rfl ?_
        refine GG.iload e_X11_soundBy_21 0 rfl ?_
        refine GG.iload e_X11_soundBy_23 5 rfl ?_
        refine GG.icmp_ne (tgt := 32) e_X11_soundBy_25 rfl (fun h25 => ?_) (fun h25 => ?_)
        · skip
          refine GG.aload_n e_X11_soundBy_32 (i := 0) rfl 1 rfl ?_
          refine GG.iload_n e_X11_soundBy_33 (i := 1) rfl 2 rfl ?_
          refine GG.iload e_X11_soundBy_34 0 rfl ?_
          refine GG.iload_n e_X11_soundBy_36 (i := 3) rfl 4 rfl ?_
          refine GG.callV (d' := 2) (a := 63) (as := [.int _, .int _, .int _]) e_X11_soundBy_37 ml_X11_146 mf_X11_leaning mv_X11_leaning (rc_X11 i_X11_63) rfl (by decide) (Nat.le_of_ble_eq_true rfl) rfl ?_
          refine s_X11_leaning (hν.rl hR) hB (by omega) ?_
          rw [hν.rV, hν.row]
          refine GG.iastoreE (k := i) e_X11_soundBy_40 (sa_X11_13 i_X11_63) (rfl) (by omega) (Nat.le_of_ble_eq_true rfl) ?_
          refine GG.iinc e_X11_soundBy_41 0 rfl (v := _) (by first | exact nI_s _ | exact nI_d _ | rfl) (Nat.le_of_ble_eq_true rfl) (ls' := [(5, .int _), (0, .ref _), (1, .int _), (2, .int _), (3, .int _), (4, .int _)]) rfl ?_
          refine GG.goto (tgt := 3) e_X11_soundBy_44 rfl ?_
          refine ih (i + 1) _ (by omega) (by omega) (nx _ ?_ e).1 (nx _ ?_ e).2
          all_goals rw [← hXi i]
          all_goals first | rw [if_pos h25] | rw [if_neg h25]
        · skip
          refine GG.iconst (v := 0) e_X11_soundBy_28 rfl ?_
          refine GG.goto (tgt := 40) e_X11_soundBy_29 rfl ?_
          refine GG.iastoreE (k := i) e_X11_soundBy_40 (sa_X11_13 i_X11_63) (rfl) (by omega) (Nat.le_of_ble_eq_true rfl) ?_
          refine GG.iinc e_X11_soundBy_41 0 rfl (v := _) (by first | exact nI_s _ | exact nI_d _ | rfl) (Nat.le_of_ble_eq_true rfl) (ls' := [(5, .int _), (0, .ref _), (1, .int _), (2, .int _), (3, .int _), (4, .int _)]) rfl ?_
          refine GG.goto (tgt := 3) e_X11_soundBy_44 rfl ?_
          refine ih (i + 1) _ (by omega) (by omega) (nx _ ?_ e).1 (nx _ ?_ e).2
          all_goals rw [← hXi i]
          all_goals first | rw [if_pos h25] | rw [if_neg h25]
  refine SPC.of (by decide +kernel) (Nat.le_of_ble_eq_true rfl) (ls := [(0, .ref (63)), (1, .int (nI B)), (2, .int (w)), (3, .int (c)), (4, .int (o))]) rfl ?_
  refine GG.iconst (v := 0) e_X11_soundBy_0 rfl ?_
  refine GG.istore e_X11_soundBy_1 (Nat.le_of_ble_eq_true rfl) (ls' := [(5, .int _), (0, .ref _), (1, .int _), (2, .int _), (3, .int _), (4, .int _)]) rfl ?_
  exact lp1 (P + 1) 0 μ (by omega) (by omega) (gL9.rf μ) (fun j h => by omega)
theorem rSnd_v (hP7 : P ≤ 7) : rSnd μ B A P w c (-1) = vSnd (rV μ B) (mrd μ 64 (B + 7)) A w P c := by
  unfold rSnd vSnd mSnd
  apply mSum_c
  intro i hi
  apply mSum_c
  intro j hj
  unfold mPair
  simp only [if_neg (nI_m1 (show i < 2 ^ 31 by omega)), if_neg (nI_m1 (show j < 2 ^ 31 by omega))]
theorem s_X11_soundAt (hR : MR μ P A) (hB : B ≤ 537) (hQ : ∀ ν, gL9 μ ν → Q (some (.int (vSnd (rV μ B) (mrd μ 64 (B + 7)) A (mrd μ 64 10) P c))) ν) : SPC 4 MX11_soundAt [.ref 63, .int (nI B), .int c] μ Q := by
  refine SPC.of (by decide +kernel) (Nat.le_of_ble_eq_true rfl) (ls := [(0, .ref (63)), (1, .int (nI B)), (2, .int (c))]) rfl ?_
  refine GG.aload_n e_X11_soundAt_0 (i := 0) rfl 0 rfl ?_
  refine GG.iload_n e_X11_soundAt_1 (i := 1) rfl 1 rfl ?_
  refine GG.aload_n e_X11_soundAt_2 (i := 0) rfl 0 rfl ?_
  refine GG.getR (b := 64) e_X11_soundAt_3 fl_X11_7 (sf_X11_0 i_X11_63) ?_
  refine GG.bipush (v := 10) e_X11_soundAt_6 rfl ?_
  refine GG.ialoadE (k := 10) e_X11_soundAt_8 (sa_X11_0 i_X11_63) (rfl) (by omega) (Nat.le_of_ble_eq_true rfl) ?_
  refine GG.iload_n e_X11_soundAt_9 (i := 2) rfl 2 rfl ?_
  refine GG.iconst (v := -1) e_X11_soundAt_10 rfl ?_
  refine GG.callV (d' := 3) (a := 63) (as := [.int _, .int _, .int _, .int _]) e_X11_soundAt_11 ml_X11_149 mf_X11_soundBy mv_X11_soundBy (rc_X11 i_X11_63) rfl (by decide) (Nat.le_of_ble_eq_true rfl) rfl ?_
  refine s_X11_soundBy hR hB (fun ν hν => ?_)
  rw [rSnd_v hR.2.1]
  refine GG.iret e_X11_soundAt_14 rfl rfl ?_
  exact hQ ν hν
end S33
