/-! THE REFERENCE: who marries whom -/
def rAlk (μ : gM) (i j : Nat) : Bool := mAll (fun c => !oB (mLean (mrd μ 64 (12 + i)) (mrd μ 64 i) (nI c) - mLean (mrd μ 64 (12 + j)) (mrd μ 64 j) (nI c)) (-2) 2) 4
/-- the numbers of those told, in their order -/
def sdA (f : Nat → Bool) : Nat → Nat → Nat
  | 0 => fun _ => 0
  | n + 1 => fun k => if f n = true ∧ k = mCt f n then n else sdA f n k
theorem sdA_lt (f : Nat → Bool) : ∀ n k, k < mCt f n → sdA f n k < n ∧ f (sdA f n k) = true := by
  intro n
  induction n with
  | zero => intro k h; rw [mCt] at h; omega
  | succ n ih =>
    intro k h
    rw [mCt] at h
    have es : sdA f (n + 1) k = if f n = true ∧ k = mCt f n then n else sdA f n k := rfl
    rw [es]
    by_cases e : f n = true
    · rw [if_pos e] at h
      by_cases e2 : k = mCt f n
      · rw [if_pos ⟨e, e2⟩]; exact ⟨by omega, e⟩
      · have := ih k (by omega)
        rw [if_neg (fun z => e2 z.2)]
        exact ⟨by omega, this.2⟩
    · rw [if_neg e] at h
      have := ih k h
      rw [if_neg (fun z => e z.1)]
      exact ⟨by omega, this.2⟩
abbrev rPs : Type := Nat × Nat × Bool × (Nat → Int32)
def rPb (Lf Rt : Nat → Nat) (R : Nat) (al : Nat → Nat → Bool) : Nat → rPs → rPs
  | 0, s => s
  | k + 1, s => rPb Lf Rt R al k (if s.1 % (R + 1) = 0 then (s.1 / (R + 1), s.2.1, s.2.2.1, s.2.2.2) else (s.1 / (R + 1), s.2.1 + 1, s.2.2.1 && decide (s.2.2.2 (Rt (s.1 % (R + 1) - 1)) = -1) && al (Lf k) (Rt (s.1 % (R + 1) - 1)), fun q => if q = Rt (s.1 % (R + 1) - 1) then nI (Lf k) else if q = Lf k then nI (Rt (s.1 % (R + 1) - 1)) else s.2.2.2 q))
def gMt (μ ν : gM) : Prop := (∀ c j, ¬ (70 ≤ c ∧ c ≤ 73) → ¬ (c = 63 ∧ (j = 16 ∨ j = 17)) → mrd ν c j = mrd μ c j) ∧ ∀ c j, mrL ν c j = mrL μ c j
def gM2 (μ ν : gM) : Prop := (∀ c j, ¬ c = 72 → mrd ν c j = mrd μ c j) ∧ ∀ c j, mrL ν c j = mrL μ c j
theorem gM2.rf (μ : gM) : gM2 μ μ := ⟨fun _ _ _ => rfl, fun _ _ => rfl⟩
theorem gM2.wr {μ ν : gM} {k : Nat} {x : Int32} (h : gM2 μ ν) : gM2 μ (mwr ν 72 k x) := ⟨fun c j q => by rw [mrd_wr, if_neg (by omega)]; exact h.1 c j q, h.2⟩
theorem gMt.sm {μ ν : gM} (h : gMt μ ν) : gSm μ ν := ⟨fun c j q => h.1 c j (fun z => q (by unfold gScr; omega)) (fun z => q (by unfold gScr; omega)), h.2⟩
theorem gMt.wr {μ ν : gM} {c k : Nat} {x : Int32} (h : gMt μ ν) (hc : 70 ≤ c ∧ c ≤ 73 ∨ c = 63 ∧ (k = 16 ∨ k = 17)) : gMt μ (mwr ν c k x) := ⟨fun c' j q q2 => by rw [mrd_wr, if_neg (by omega)]; exact h.1 c' j q q2, h.2⟩
theorem gMt.row {μ ν : gM} (h : gMt μ ν) (j : Nat) : mrd ν 64 j = mrd μ 64 j := h.1 64 j (by omega) (by omega)
section S43
variable {μ : gM} {Q : Option Value → gM → Prop} {P A U L T N M B k r R : Nat} {i j c a w z v x y o s : Int32}
theorem s_X11_areAlike {i j : Nat} (hi : i < 7) (hj : j < 7) (hQ : Q (some (.int (bI (rAlk μ i j)))) μ) : SPC 1 MX11_areAlike [.ref 63, .int (nI i), .int (nI j)] μ Q := by
  generalize hf : (fun c => !oB (mLean (mrd μ 64 (12 + i)) (mrd μ 64 i) (nI c) - mLean (mrd μ 64 (12 + j)) (mrd μ 64 j) (nI c)) (-2) 2) = f
  have hA : rAlk μ i j = mAll f 4 := by rw [← hf]; rfl
  rw [hA] at hQ
  have z0 : ∀ k, 0 + nI k = nI k := fun k => by rw [show (0 : Int32) = nI 0 from rfl, nI_add, Nat.zero_add]
  have lp : ∀ n q, 4 - q < n → q ≤ 4 → GG 1 MX11_areAlike 5 [(4, .int (nI q)), (3, .int (bI (mAll f q))), (0, .ref 63), (1, .int (nI i)), (2, .int (nI j))] [] μ Q := by
    intro n
    induction n with
    | zero => intro q h; omega
    | succ n ih =>
      intro q hn hq
      have g := fun (h : q < 4) => ih (q + 1) (by omega) (by omega)
      rw [mAll] at g
      have fq : f q = !oB (mLean (mrd μ 64 (12 + i)) (mrd μ 64 i) (nI q) - mLean (mrd μ 64 (12 + j)) (mrd μ 64 j) (nI q)) (-2) 2 := by rw [← hf]
      refine GG.iload e_X11_areAlike_5 0 rfl ?_
      refine GG.iconst (v := 4) e_X11_areAlike_7 rfl ?_
      refine GG.icmp_ge (tgt := 85) e_X11_areAlike_8 rfl (fun h8 => ?_) (fun h8 => ?_)
      · skip
        have e : q = 4 := by have := nle (a := 4) (b := q) h8 (by omega) (by omega); omega
        subst e
        refine GG.iload_n e_X11_areAlike_85 (i := 3) rfl 1 rfl ?_
        refine GG.zret e_X11_areAlike_86 rfl (gZ_n (bI_z _)) rfl ?_
        exact hQ
      · skip
        have e := nnle (a := 4) (b := q) h8 (by omega) (by omega)
        refine GG.aload_n e_X11_areAlike_11 (i := 0) rfl 2 rfl ?_
        refine GG.getR (b := 64) e_X11_areAlike_12 fl_X11_7 (sf_X11_0 i_X11_63) ?_
        refine GG.bipush (v := 12) e_X11_areAlike_15 rfl ?_
        refine GG.iload_n e_X11_areAlike_17 (i := 1) rfl 3 rfl ?_
        refine GG.iadd e_X11_areAlike_18 ?_
        refine GG.ialoadE (k := 12 + i) e_X11_areAlike_19 (sa_X11_0 i_X11_63) (nI_add 12 i) (by omega) (Nat.le_of_ble_eq_true rfl) ?_
        refine GG.aload_n e_X11_areAlike_20 (i := 0) rfl 2 rfl ?_
        refine GG.getR (b := 64) e_X11_areAlike_21 fl_X11_7 (sf_X11_0 i_X11_63) ?_
        refine GG.iconst (v := 0) e_X11_areAlike_24 rfl ?_
        refine GG.iload_n e_X11_areAlike_25 (i := 1) rfl 3 rfl ?_
        refine GG.iadd e_X11_areAlike_26 ?_
        refine GG.ialoadE (k := i) e_X11_areAlike_27 (sa_X11_0 i_X11_63) (z0 i) (by omega) (Nat.le_of_ble_eq_true rfl) ?_
        refine GG.iload e_X11_areAlike_28 0 rfl ?_
        refine GG.callS (d' := 0) (as := [.int _, .int _, .int _]) e_X11_areAlike_30 ml_X11_135 mf_X11_leansBy ms_X11_leansBy rfl (by decide) (Nat.le_of_ble_eq_true rfl) rfl ?_
        refine s_X11_leansBy ?_
        refine GG.aload_n e_X11_areAlike_33 (i := 0) rfl 2 rfl ?_
        refine GG.getR (b := 64) e_X11_areAlike_34 fl_X11_7 (sf_X11_0 i_X11_63) ?_
        refine GG.bipush (v := 12) e_X11_areAlike_37 rfl ?_
        refine GG.iload_n e_X11_areAlike_39 (i := 2) rfl 4 rfl ?_
        refine GG.iadd e_X11_areAlike_40 ?_
        refine GG.ialoadE (k := 12 + j) e_X11_areAlike_41 (sa_X11_0 i_X11_63) (nI_add 12 j) (by omega) (Nat.le_of_ble_eq_true rfl) ?_
        refine GG.aload_n e_X11_areAlike_42 (i := 0) rfl 2 rfl ?_
        refine GG.getR (b := 64) e_X11_areAlike_43 fl_X11_7 (sf_X11_0 i_X11_63) ?_
        refine GG.iconst (v := 0) e_X11_areAlike_46 rfl ?_
        refine GG.iload_n e_X11_areAlike_47 (i := 2) rfl 4 rfl ?_
        refine GG.iadd e_X11_areAlike_48 ?_
        refine GG.ialoadE (k := j) e_X11_areAlike_49 (sa_X11_0 i_X11_63) (z0 j) (by omega) (Nat.le_of_ble_eq_true rfl) ?_
        refine GG.iload e_X11_areAlike_50 0 rfl ?_
        refine GG.callS (d' := 0) (as := [.int _, .int _, .int _]) e_X11_areAlike_52 ml_X11_135 mf_X11_leansBy ms_X11_leansBy rfl (by decide) (Nat.le_of_ble_eq_true rfl) rfl ?_
        refine s_X11_leansBy ?_
        refine GG.isub e_X11_areAlike_55 ?_
        refine GG.istore e_X11_areAlike_56 (Nat.le_of_ble_eq_true rfl) (ls' := [(5, .int _), (4, .int _), (3, .int _), (0, .ref _), (1, .int _), (2, .int _)]) rfl ?_
        refine GG.iload_n e_X11_areAlike_58 (i := 3) rfl 2 rfl ?_
        refine GG.if_eq (tgt := 77) e_X11_areAlike_59 rfl (fun h59 => ?_) (fun h59 => ?_)
        · skip
          have h1 := (bI_0 _).mp h59
          rw [h1, Bool.false_and] at g
          refine GG.iconst (v := 0) e_X11_areAlike_77 rfl ?_
          refine GG.istore_n e_X11_areAlike_78 (i := 3) rfl (Nat.le_of_ble_eq_true rfl) (ls' := [(3, .int _), (5, .int _), (4, .int _), (0, .ref _), (1, .int _), (2, .int _)]) rfl ?_
          refine GG.iinc e_X11_areAlike_79 2 rfl (v := _) (by first | exact nI_s _ | exact nI_d _ | rfl) (Nat.le_of_ble_eq_true rfl) (ls' := [(4, .int _), (3, .int _), (5, .int _), (0, .ref _), (1, .int _), (2, .int _)]) rfl ?_
          refine GG.goto (tgt := 5) e_X11_areAlike_82 rfl ?_
          refine GG.perm [0, 1, 3, 4, 5] rfl ?_
          exact g e
        · skip
          have h1 := (bI_n0 _).mp h59
          rw [h1, Bool.true_and, fq] at g
          refine GG.iload e_X11_areAlike_62 0 rfl ?_
          refine GG.bipush (v := -2) e_X11_areAlike_64 rfl ?_
          refine GG.iconst (v := 2) e_X11_areAlike_66 rfl ?_
          refine GG.callS (d' := 0) (as := [.int _, .int _, .int _]) e_X11_areAlike_67 ml_X11_51 mf_X11_in ms_X11_in rfl (by decide) (Nat.le_of_ble_eq_true rfl) rfl ?_
          refine s_X11_inO ?_
          refine GG.if_eq (tgt := 77) e_X11_areAlike_70 rfl (fun h70 => ?_) (fun h70 => ?_)
          · skip
            have h2 := (bI_0 _).mp h70
            rw [h2] at g
            refine GG.iconst (v := 0) e_X11_areAlike_77 rfl ?_
            refine GG.istore_n e_X11_areAlike_78 (i := 3) rfl (Nat.le_of_ble_eq_true rfl) (ls' := [(3, .int _), (5, .int _), (4, .int _), (0, .ref _), (1, .int _), (2, .int _)]) rfl ?_
            refine GG.iinc e_X11_areAlike_79 2 rfl (v := _) (by first | exact nI_s _ | exact nI_d _ | rfl) (Nat.le_of_ble_eq_true rfl) (ls' := [(4, .int _), (3, .int _), (5, .int _), (0, .ref _), (1, .int _), (2, .int _)]) rfl ?_
            refine GG.goto (tgt := 5) e_X11_areAlike_82 rfl ?_
            refine GG.perm [0, 1, 3, 4, 5] rfl ?_
            exact g e
          · skip
            have h2 := (bI_n0 _).mp h70
            rw [h2] at g
            refine GG.iconst (v := 1) e_X11_areAlike_73 rfl ?_
            refine GG.goto (tgt := 78) e_X11_areAlike_74 rfl ?_
            refine GG.istore_n e_X11_areAlike_78 (i := 3) rfl (Nat.le_of_ble_eq_true rfl) (ls' := [(3, .int _), (5, .int _), (4, .int _), (0, .ref _), (1, .int _), (2, .int _)]) rfl ?_
            refine GG.iinc e_X11_areAlike_79 2 rfl (v := _) (by first | exact nI_s _ | exact nI_d _ | rfl) (Nat.le_of_ble_eq_true rfl) (ls' := [(4, .int _), (3, .int _), (5, .int _), (0, .ref _), (1, .int _), (2, .int _)]) rfl ?_
            refine GG.goto (tgt := 5) e_X11_areAlike_82 rfl ?_
            refine GG.perm [0, 1, 3, 4, 5] rfl ?_
            exact g e
  refine SPC.of (by decide +kernel) (Nat.le_of_ble_eq_true rfl) (ls := [(0, .ref (63)), (1, .int (nI i)), (2, .int (nI j))]) rfl ?_
  refine GG.iconst (v := 1) e_X11_areAlike_0 rfl ?_
  refine GG.istore_n e_X11_areAlike_1 (i := 3) rfl (Nat.le_of_ble_eq_true rfl) (ls' := [(3, .int _), (0, .ref _), (1, .int _), (2, .int _)]) rfl ?_
  refine GG.iconst (v := 0) e_X11_areAlike_2 rfl ?_
  refine GG.istore e_X11_areAlike_3 (Nat.le_of_ble_eq_true rfl) (ls' := [(4, .int _), (3, .int _), (0, .ref _), (1, .int _), (2, .int _)]) rfl ?_
  exact lp 5 0 (by omega) (by omega)
theorem s_X11_laySides {f g : Nat → Bool} (hR : MR μ P A) (hf : ∀ i, f i = decide (mrd μ 64 (19 + i) = 0)) (hg : ∀ i, g i = !f i)
    (hQ : ∀ ν, gMt μ ν → mrd ν 63 16 = nI (mCt f P) → mrd ν 63 17 = nI (mCt g P) → (∀ k, k < mCt f P → mrd ν 70 k = nI (sdA f P k)) → (∀ k, k < mCt g P → mrd ν 71 k = nI (sdA g P k)) → Q none ν) : SPC 0 MX11_laySides [.ref 63] μ Q := by
  have hP7 := hR.2.1
  have lp : ∀ n i ν, P - i < n → i ≤ P → gMt μ ν → mrd ν 63 16 = nI (mCt f i) → mrd ν 63 17 = nI (mCt g i) → (∀ k, k < mCt f i → mrd ν 70 k = nI (sdA f i k)) → (∀ k, k < mCt g i → mrd ν 71 k = nI (sdA g i k)) → GG 0 MX11_laySides 12 [(1, .int (nI i)), (0, .ref 63)] [] ν Q := by
    intro n
    induction n with
    | zero => intro i ν h; omega
    | succ n ih =>
      intro i ν hn hi hν h16 h17 hl hr
      have cf := mCt_le f i
      have cg := mCt_le g i
      refine GG.iload_n e_X11_laySides_12 (i := 1) rfl 0 rfl ?_
      refine GG.aload_n e_X11_laySides_13 (i := 0) rfl 1 rfl ?_
      refine GG.getR (b := 64) e_X11_laySides_14 fl_X11_7 (sf_X11_0 i_X11_63) ?_
      refine GG.bipush (v := 11) e_X11_laySides_17 rfl ?_
      refine GG.ialoadV (k := 11) (v := nI P) e_X11_laySides_19 (sa_X11_0 i_X11_63) (rfl) (by omega) (Nat.le_of_ble_eq_true rfl) ((hν.row 11).trans hR.1) ?_
      refine GG.icmp_ge (tgt := 84) e_X11_laySides_20 rfl (fun h20 => ?_) (fun h20 => ?_)
      · skip
        have e : i = P := by have := nle h20 (by omega) (by omega); omega
        subst e
        refine GG.vret e_X11_laySides_84 rfl rfl ?_
        exact hQ ν hν h16 h17 hl hr
      · skip
        have e := nnle h20 (by omega) (by omega)
        refine GG.aload_n e_X11_laySides_23 (i := 0) rfl 1 rfl ?_
        refine GG.getR (b := 64) e_X11_laySides_24 fl_X11_7 (sf_X11_0 i_X11_63) ?_
        refine GG.bipush (v := 19) e_X11_laySides_27 rfl ?_
        refine GG.iload_n e_X11_laySides_29 (i := 1) rfl 0 rfl ?_
        refine GG.iadd e_X11_laySides_30 ?_
        refine GG.ialoadV (k := 19 + i) (v := mrd μ 64 (19 + i)) e_X11_laySides_31 (sa_X11_0 i_X11_63) (nI_add 19 i) (by omega) (Nat.le_of_ble_eq_true rfl) (hν.row _) ?_
        refine GG.if_ne (tgt := 58) e_X11_laySides_32 rfl (fun h32 => ?_) (fun h32 => ?_)
        · skip
          have fi : f i = false := by rw [hf, decide_eq_false_iff_not]; exact h32
          have gi : g i = true := by rw [hg, fi]; rfl
          have ef : mCt f (i + 1) = mCt f i := by rw [mCt, fi]; rfl
          have eg : mCt g (i + 1) = mCt g i + 1 := by rw [mCt, if_pos gi]
          refine GG.aload_n e_X11_laySides_58 (i := 0) rfl 1 rfl ?_
          refine GG.getR (b := 71) e_X11_laySides_59 fl_X11_36 (sf_X11_15 i_X11_63) ?_
          refine GG.aload_n e_X11_laySides_62 (i := 0) rfl 1 rfl ?_
          refine GG.getIv (v := nI (mCt g i)) e_X11_laySides_63 fl_X11_180 (sf_X11_17 i_X11_63) (h17) ?_
          refine GG.iload_n e_X11_laySides_66 (i := 1) rfl 0 rfl ?_
          refine GG.iastoreE (k := mCt g i) e_X11_laySides_67 (sa_X11_15 i_X11_63) (rfl) (by omega) (Nat.le_of_ble_eq_true rfl) ?_
          refine GG.aload_n e_X11_laySides_68 (i := 0) rfl 1 rfl ?_
          refine GG.dup e_X11_laySides_69 rfl ?_
          refine GG.getIv (v := nI (mCt g i)) e_X11_laySides_70 fl_X11_180 (sf_X11_17 i_X11_63) (by rw [mrd_wr, if_neg (by omega), h17]) ?_
          refine GG.iconst (v := 1) e_X11_laySides_73 rfl ?_
          refine GG.iadd e_X11_laySides_74 ?_
          refine GG.top (nI_1 _) ?_
          refine GG.putI e_X11_laySides_75 fl_X11_180 fp_X11_17 (sf_X11_17 i_X11_63) ?_
          refine GG.iinc e_X11_laySides_78 0 rfl (v := _) (by first | exact nI_s _ | exact nI_d _ | rfl) (Nat.le_of_ble_eq_true rfl) (ls' := [(1, .int _), (0, .ref _)]) rfl ?_
          refine GG.goto (tgt := 12) e_X11_laySides_81 rfl ?_
          refine ih (i + 1) _ (by omega) (by omega) ((hν.wr (by omega)).wr (by omega)) ?_ ?_ (fun k hk => ?_) (fun k hk => ?_)
          · rw [ef, mrd_wr, mrd_wr]; first | (rw [if_pos ⟨rfl, rfl⟩]; done) | (rw [if_neg (by omega), if_neg (by omega), h16])
          · rw [eg, mrd_wr, mrd_wr]; first | (rw [if_pos ⟨rfl, rfl⟩]; done) | (rw [if_neg (by omega), if_neg (by omega), h17])
          · rw [ef] at hk; rw [sdA]; simp only [mrd_wr, fi]; have := hl k; grind
          · rw [eg] at hk; rw [sdA]; simp only [mrd_wr, gi]; have := hr k; grind
        · skip
          have fi : f i = true := by rw [hf, decide_eq_true_eq]; exact h32
          have gi : g i = false := by rw [hg, fi]; rfl
          have ef : mCt f (i + 1) = mCt f i + 1 := by rw [mCt, if_pos fi]
          have eg : mCt g (i + 1) = mCt g i := by rw [mCt, gi]; rfl
          refine GG.aload_n e_X11_laySides_35 (i := 0) rfl 1 rfl ?_
          refine GG.getR (b := 70) e_X11_laySides_36 fl_X11_33 (sf_X11_14 i_X11_63) ?_
          refine GG.aload_n e_X11_laySides_39 (i := 0) rfl 1 rfl ?_
          refine GG.getIv (v := nI (mCt f i)) e_X11_laySides_40 fl_X11_177 (sf_X11_16 i_X11_63) (h16) ?_
          refine GG.iload_n e_X11_laySides_43 (i := 1) rfl 0 rfl ?_
          refine GG.iastoreE (k := mCt f i) e_X11_laySides_44 (sa_X11_14 i_X11_63) (rfl) (by omega) (Nat.le_of_ble_eq_true rfl) ?_
          refine GG.aload_n e_X11_laySides_45 (i := 0) rfl 1 rfl ?_
          refine GG.dup e_X11_laySides_46 rfl ?_
          refine GG.getIv (v := nI (mCt f i)) e_X11_laySides_47 fl_X11_177 (sf_X11_16 i_X11_63) (by rw [mrd_wr, if_neg (by omega), h16]) ?_
          refine GG.iconst (v := 1) e_X11_laySides_50 rfl ?_
          refine GG.iadd e_X11_laySides_51 ?_
          refine GG.top (nI_1 _) ?_
          refine GG.putI e_X11_laySides_52 fl_X11_177 fp_X11_16 (sf_X11_16 i_X11_63) ?_
          refine GG.goto (tgt := 78) e_X11_laySides_55 rfl ?_
          refine GG.iinc e_X11_laySides_78 0 rfl (v := _) (by first | exact nI_s _ | exact nI_d _ | rfl) (Nat.le_of_ble_eq_true rfl) (ls' := [(1, .int _), (0, .ref _)]) rfl ?_
          refine GG.goto (tgt := 12) e_X11_laySides_81 rfl ?_
          refine ih (i + 1) _ (by omega) (by omega) ((hν.wr (by omega)).wr (by omega)) ?_ ?_ (fun k hk => ?_) (fun k hk => ?_)
          · rw [ef, mrd_wr, mrd_wr]; first | (rw [if_pos ⟨rfl, rfl⟩]; done) | (rw [if_neg (by omega), if_neg (by omega), h16])
          · rw [eg, mrd_wr, mrd_wr]; first | (rw [if_pos ⟨rfl, rfl⟩]; done) | (rw [if_neg (by omega), if_neg (by omega), h17])
          · rw [ef] at hk; rw [sdA]; simp only [mrd_wr, fi]; have := hl k; grind
          · rw [eg] at hk; rw [sdA]; simp only [mrd_wr, gi]; have := hr k; grind
  refine SPC.of (by decide +kernel) (Nat.le_of_ble_eq_true rfl) (ls := [(0, .ref (63))]) rfl ?_
  refine GG.aload_n e_X11_laySides_0 (i := 0) rfl 0 rfl ?_
  refine GG.iconst (v := 0) e_X11_laySides_1 rfl ?_
  refine GG.putI e_X11_laySides_2 fl_X11_177 fp_X11_16 (sf_X11_16 i_X11_63) ?_
  refine GG.aload_n e_X11_laySides_5 (i := 0) rfl 0 rfl ?_
  refine GG.iconst (v := 0) e_X11_laySides_6 rfl ?_
  refine GG.putI e_X11_laySides_7 fl_X11_180 fp_X11_17 (sf_X11_17 i_X11_63) ?_
  refine GG.iconst (v := 0) e_X11_laySides_10 rfl ?_
  refine GG.istore_n e_X11_laySides_11 (i := 1) rfl (Nat.le_of_ble_eq_true rfl) (ls' := [(1, .int _), (0, .ref _)]) rfl ?_
  refine lp (P + 1) 0 _ (by omega) (by omega) (gMt.wr (gMt.wr ⟨fun _ _ _ _ => rfl, fun _ _ => rfl⟩ (by omega)) (by omega)) ?_ ?_ (fun k h => ?_) (fun k h => ?_)
  · simp only [mrd_wr]; rfl
  · simp only [mrd_wr]; rfl
  · rw [mCt] at h; omega
  · rw [mCt] at h; omega
end S43
