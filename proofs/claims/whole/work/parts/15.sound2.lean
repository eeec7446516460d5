/-! LANE: what sounds at a count; how wide a lane would sound -/
def mRch (h X : Nat → Int32) : Nat → Int32 × Int32
  | 0 => (0, 0)
  | n + 1 => if h n = 0 then (mMax (mRch h X n).1 (X n), (mRch h X n).2) else ((mRch h X n).1, mMax (mRch h X n).2 (X n))
def mReach (h X : Nat → Int32) (P : Nat) : Int32 := if 1 ≤ (mRch h X P).1 ∧ 1 ≤ (mRch h X P).2 then (mRch h X P).1 + (mRch h X P).2 else 0
/-- how far one leans towards the lane, but for somebody -/
def mEff (V : Nat → Nat → Int32) (th : Int32) (A : Nat) (c lo : Int32) (k : Nat) : Int32 := if ¬ nI k = lo ∧ ¬ mLean (V 0 k) (V 2 k) c < 1 then mLng V th A k c else 0
section S15
variable {μ : gM} {Q : Option Value → gM → Prop} {b P A k : Nat} {i c a : Int32}
theorem s_X4_soundAt (hI_X4_b : gI_X4 b) (hL : LC μ b P A) (hQ : Q (some (.int (mSnd (cV μ b 1) (fun i => mLng (cV μ b) (mrd μ b 8) A i c) (mrd μ b 0) P))) μ) : SPC 2 MX4_soundAt [.ref b, .int c] μ Q := by
  obtain ⟨h1p, h2p, h3p, h4p⟩ := id hL
  generalize hX : (fun i => mLng (cV μ b) (mrd μ b 8) A i c) = X at hQ
  have hXi : ∀ i, mLng (cV μ b) (mrd μ b 8) A i c = X i := fun i => by rw [← hX]
  generalize hf : (fun i j => mPair (cV μ b 1) X (mrd μ b 0) i j) = f
  have hfi : ∀ i j, f i j = mPair (cV μ b 1) X (mrd μ b 0) i j := fun i j => by rw [← hf]
  have hS : mSnd (cV μ b 1) X (mrd μ b 0) P = mSum (fun i => mSum (f i) P) P := by rw [← hf]; rfl
  rw [hS] at hQ
  have out : ∀ n i l, P - i < n → i ≤ P → l = mSum (fun i => mSum (f i) P) i → GG 2 MX4_soundAt 4 [(3, .int (nI i)), (2, .int l), (0, .ref b), (1, .int c)] [] μ Q := by
    intro n
    induction n with
    | zero => intro i l h; omega
    | succ n ih =>
      intro i l hn hi hl
      have nx : ∀ l, l = mSum (fun i => mSum (f i) P) (i + 1) → i < P → GG 2 MX4_soundAt 112 [(3, .int (nI i)), (2, .int l), (0, .ref b), (1, .int c)] [] μ Q := by
        intro l hl hiP
        refine GG.iinc e_X4_soundAt_112 0 rfl (v := _) (by first | exact nI_s _ | exact nI_d _ | rfl) (Nat.le_of_ble_eq_true rfl) (ls' := [(3, .int _), (2, .int _), (0, .ref _), (1, .int _)]) rfl ?_
        refine GG.goto (tgt := 4) e_X4_soundAt_115 rfl ?_
        exact ih (i + 1) _ (by omega) (by omega) hl
      have inn : ∀ m j l near, P - j < m → j ≤ P → i < P → near = (if cV μ b 1 i = 0 then X i else 0) → l = mSum (fun i => mSum (f i) P) i + mSum (f i) j → GG 2 MX4_soundAt 35 [(5, .int (nI j)), (4, .int near), (3, .int (nI i)), (2, .int l), (0, .ref b), (1, .int c)] [] μ Q := by
        intro m
        induction m with
        | zero => intro j l near h; omega
        | succ m ihm =>
          intro j l near hm hj hiP hnear hl
          refine GG.iload e_X4_soundAt_35 1 rfl ?_
          refine GG.iconst (v := 1) e_X4_soundAt_37 rfl ?_
          refine GG.icmp_lt (tgt := 112) e_X4_soundAt_38 rfl (fun h38 => ?_) (fun h38 => ?_)
          · skip
            have z : ∀ n, mSum (f i) n = 0 := fun n => mSum_0 (fun j _ => by rw [hfi, mPair, if_neg]; intro q; rw [if_pos q.1] at hnear; rw [hnear] at h38; exact absurd q.2.2.1 (by grind))
            rw [z] at hl
            refine GG.perm [2, 3, 4, 5] rfl (nx _ (by rw [mSum, z]; exact hl) hiP)
          · skip
            refine GG.iload e_X4_soundAt_41 0 rfl ?_
            refine GG.aload_n e_X4_soundAt_43 (i := 0) rfl 4 rfl ?_
            refine GG.getIv (v := nI P) e_X4_soundAt_44 fl_X4_31 (sf_X4_1 hI_X4_b) (h1p) ?_
            refine GG.icmp_ge (tgt := 112) e_X4_soundAt_47 rfl (fun h47 => ?_) (fun h47 => ?_)
            · skip
              have e := nle h47 (by omega) (by omega)
              have e2 : j = P := by omega
              subst e2
              refine GG.perm [2, 3, 4, 5] rfl ?_
              exact nx _ (by rw [mSum]; exact hl) hiP
            · skip
              have e := nnle h47 (by omega) (by omega)
              refine GG.aload_n e_X4_soundAt_50 (i := 0) rfl 4 rfl ?_
              refine GG.iload e_X4_soundAt_51 0 rfl ?_
              refine GG.callV (d' := 1) (a := b) (as := [.int _]) e_X4_soundAt_53 ml_X4_77 mf_X4_houseOf mv_X4_houseOf (rc_X4 hI_X4_b) rfl (by decide) (Nat.le_of_ble_eq_true rfl) rfl ?_
              refine s_X4_houseOfk hI_X4_b hL e ?_
              refine GG.iconst (v := 1) e_X4_soundAt_56 rfl ?_
              refine GG.icmp_ne (tgt := 70) e_X4_soundAt_57 rfl (fun h57 => ?_) (fun h57 => ?_)
              · skip
                refine GG.iconst (v := 0) e_X4_soundAt_70 rfl ?_
                refine GG.istore e_X4_soundAt_71 (Nat.le_of_ble_eq_true rfl) (ls' := [(6, .int _), (5, .int _), (4, .int _), (3, .int _), (2, .int _), (0, .ref _), (1, .int _)]) rfl ?_
                refine GG.iload e_X4_soundAt_73 0 rfl ?_
                refine GG.iconst (v := 1) e_X4_soundAt_75 rfl ?_
                refine GG.icmp_lt (tgt := 106) e_X4_soundAt_76 rfl (fun h76 => ?_) (fun h76 => ?_)
                · skip
                  refine GG.iinc e_X4_soundAt_106 1 rfl (v := _) (by first | exact nI_s _ | exact nI_d _ | rfl) (Nat.le_of_ble_eq_true rfl) (ls' := [(5, .int _), (6, .int _), (4, .int _), (3, .int _), (2, .int _), (0, .ref _), (1, .int _)]) rfl ?_
                  refine GG.goto (tgt := 35) e_X4_soundAt_109 rfl ?_
                  refine GG.perm [0, 2, 3, 4, 5, 6] rfl ?_
                  refine ihm (j + 1) _ near (by omega) (by omega) hiP hnear ?_
                  rw [mSum, hfi, mPair]
                  have hc : cV μ b 1 j = mrd μ (b + 2) j := rfl
                  grind
                · skip
                  refine GG.iload e_X4_soundAt_79 2 rfl ?_
                  refine GG.iload e_X4_soundAt_81 0 rfl ?_
                  refine GG.iadd e_X4_soundAt_83 ?_
                  refine GG.aload_n e_X4_soundAt_84 (i := 0) rfl 5 rfl ?_
                  refine GG.getI e_X4_soundAt_85 fl_X4_9 (sf_X4_0 hI_X4_b) ?_
                  refine GG.icmp_lt (tgt := 106) e_X4_soundAt_88 rfl (fun h88 => ?_) (fun h88 => ?_)
                  · skip
                    refine GG.iinc e_X4_soundAt_106 1 rfl (v := _) (by first | exact nI_s _ | exact nI_d _ | rfl) (Nat.le_of_ble_eq_true rfl) (ls' := [(5, .int _), (6, .int _), (4, .int _), (3, .int _), (2, .int _), (0, .ref _), (1, .int _)]) rfl ?_
                    refine GG.goto (tgt := 35) e_X4_soundAt_109 rfl ?_
                    refine GG.perm [0, 2, 3, 4, 5, 6] rfl ?_
                    refine ihm (j + 1) _ near (by omega) (by omega) hiP hnear ?_
                    rw [mSum, hfi, mPair]
                    have hc : cV μ b 1 j = mrd μ (b + 2) j := rfl
                    grind
                  · skip
                    refine GG.iload_n e_X4_soundAt_91 (i := 2) rfl 4 rfl ?_
                    refine GG.iconst (v := 1) e_X4_soundAt_92 rfl ?_
                    refine GG.iload e_X4_soundAt_93 2 rfl ?_
                    refine GG.iadd e_X4_soundAt_95 ?_
                    refine GG.iload e_X4_soundAt_96 0 rfl ?_
                    refine GG.iadd e_X4_soundAt_98 ?_
                    refine GG.aload_n e_X4_soundAt_99 (i := 0) rfl 5 rfl ?_
                    refine GG.getI e_X4_soundAt_100 fl_X4_9 (sf_X4_0 hI_X4_b) ?_
                    refine GG.isub e_X4_soundAt_103 ?_
                    refine GG.iadd e_X4_soundAt_104 ?_
                    refine GG.istore_n e_X4_soundAt_105 (i := 2) rfl (Nat.le_of_ble_eq_true rfl) (ls' := [(2, .int _), (6, .int _), (5, .int _), (4, .int _), (3, .int _), (0, .ref _), (1, .int _)]) rfl ?_
                    refine GG.iinc e_X4_soundAt_106 2 rfl (v := _) (by first | exact nI_s _ | exact nI_d _ | rfl) (Nat.le_of_ble_eq_true rfl) (ls' := [(5, .int _), (2, .int _), (6, .int _), (4, .int _), (3, .int _), (0, .ref _), (1, .int _)]) rfl ?_
                    refine GG.goto (tgt := 35) e_X4_soundAt_109 rfl ?_
                    refine GG.perm [0, 3, 4, 1, 5, 6] rfl ?_
                    refine ihm (j + 1) _ near (by omega) (by omega) hiP hnear ?_
                    rw [mSum, hfi, mPair]
                    have hc : cV μ b 1 j = mrd μ (b + 2) j := rfl
                    grind
              · skip
                refine GG.aload_n e_X4_soundAt_60 (i := 0) rfl 4 rfl ?_
                refine GG.iload e_X4_soundAt_61 0 rfl ?_
                refine GG.iload_n e_X4_soundAt_63 (i := 1) rfl 5 rfl ?_
                refine GG.callV (d' := 1) (a := b) (as := [.int _, .int _]) e_X4_soundAt_64 ml_X4_81 mf_X4_leaningOf mv_X4_leaningOf (rc_X4 hI_X4_b) rfl (by decide) (Nat.le_of_ble_eq_true rfl) rfl ?_
                refine s_X4_leaningOf hI_X4_b hL e ?_
                rw [hXi]
                refine GG.goto (tgt := 71) e_X4_soundAt_67 rfl ?_
                refine GG.istore e_X4_soundAt_71 (Nat.le_of_ble_eq_true rfl) (ls' := [(6, .int _), (5, .int _), (4, .int _), (3, .int _), (2, .int _), (0, .ref _), (1, .int _)]) rfl ?_
                refine GG.iload e_X4_soundAt_73 0 rfl ?_
                refine GG.iconst (v := 1) e_X4_soundAt_75 rfl ?_
                refine GG.icmp_lt (tgt := 106) e_X4_soundAt_76 rfl (fun h76 => ?_) (fun h76 => ?_)
                · skip
                  refine GG.iinc e_X4_soundAt_106 1 rfl (v := _) (by first | exact nI_s _ | exact nI_d _ | rfl) (Nat.le_of_ble_eq_true rfl) (ls' := [(5, .int _), (6, .int _), (4, .int _), (3, .int _), (2, .int _), (0, .ref _), (1, .int _)]) rfl ?_
                  refine GG.goto (tgt := 35) e_X4_soundAt_109 rfl ?_
                  refine GG.perm [0, 2, 3, 4, 5, 6] rfl ?_
                  refine ihm (j + 1) _ near (by omega) (by omega) hiP hnear ?_
                  rw [mSum, hfi, mPair]
                  have hc : cV μ b 1 j = mrd μ (b + 2) j := rfl
                  grind
                · skip
                  refine GG.iload e_X4_soundAt_79 2 rfl ?_
                  refine GG.iload e_X4_soundAt_81 0 rfl ?_
                  refine GG.iadd e_X4_soundAt_83 ?_
                  refine GG.aload_n e_X4_soundAt_84 (i := 0) rfl 5 rfl ?_
                  refine GG.getI e_X4_soundAt_85 fl_X4_9 (sf_X4_0 hI_X4_b) ?_
                  refine GG.icmp_lt (tgt := 106) e_X4_soundAt_88 rfl (fun h88 => ?_) (fun h88 => ?_)
                  · skip
                    refine GG.iinc e_X4_soundAt_106 1 rfl (v := _) (by first | exact nI_s _ | exact nI_d _ | rfl) (Nat.le_of_ble_eq_true rfl) (ls' := [(5, .int _), (6, .int _), (4, .int _), (3, .int _), (2, .int _), (0, .ref _), (1, .int _)]) rfl ?_
                    refine GG.goto (tgt := 35) e_X4_soundAt_109 rfl ?_
                    refine GG.perm [0, 2, 3, 4, 5, 6] rfl ?_
                    refine ihm (j + 1) _ near (by omega) (by omega) hiP hnear ?_
                    rw [mSum, hfi, mPair]
                    have hc : cV μ b 1 j = mrd μ (b + 2) j := rfl
                    grind
                  · skip
                    refine GG.iload_n e_X4_soundAt_91 (i := 2) rfl 4 rfl ?_
                    refine GG.iconst (v := 1) e_X4_soundAt_92 rfl ?_
                    refine GG.iload e_X4_soundAt_93 2 rfl ?_
                    refine GG.iadd e_X4_soundAt_95 ?_
                    refine GG.iload e_X4_soundAt_96 0 rfl ?_
                    refine GG.iadd e_X4_soundAt_98 ?_
                    refine GG.aload_n e_X4_soundAt_99 (i := 0) rfl 5 rfl ?_
                    refine GG.getI e_X4_soundAt_100 fl_X4_9 (sf_X4_0 hI_X4_b) ?_
                    refine GG.isub e_X4_soundAt_103 ?_
                    refine GG.iadd e_X4_soundAt_104 ?_
                    refine GG.istore_n e_X4_soundAt_105 (i := 2) rfl (Nat.le_of_ble_eq_true rfl) (ls' := [(2, .int _), (6, .int _), (5, .int _), (4, .int _), (3, .int _), (0, .ref _), (1, .int _)]) rfl ?_
                    refine GG.iinc e_X4_soundAt_106 2 rfl (v := _) (by first | exact nI_s _ | exact nI_d _ | rfl) (Nat.le_of_ble_eq_true rfl) (ls' := [(5, .int _), (2, .int _), (6, .int _), (4, .int _), (3, .int _), (0, .ref _), (1, .int _)]) rfl ?_
                    refine GG.goto (tgt := 35) e_X4_soundAt_109 rfl ?_
                    refine GG.perm [0, 3, 4, 1, 5, 6] rfl ?_
                    refine ihm (j + 1) _ near (by omega) (by omega) hiP hnear ?_
                    rw [mSum, hfi, mPair]
                    have hc : cV μ b 1 j = mrd μ (b + 2) j := rfl
                    grind
      refine GG.iload_n e_X4_soundAt_4 (i := 3) rfl 0 rfl ?_
      refine GG.aload_n e_X4_soundAt_5 (i := 0) rfl 2 rfl ?_
      refine GG.getIv (v := nI P) e_X4_soundAt_6 fl_X4_31 (sf_X4_1 hI_X4_b) (h1p) ?_
      refine GG.icmp_ge (tgt := 118) e_X4_soundAt_9 rfl (fun h9 => ?_) (fun h9 => ?_)
      · skip
        have e := nle h9 (by omega) (by omega)
        have e2 : i = P := by omega
        subst e2
        refine GG.iload_n e_X4_soundAt_118 (i := 2) rfl 1 rfl ?_
        refine GG.iret e_X4_soundAt_119 rfl rfl ?_
        exact qI hQ hl
      · skip
        have e := nnle h9 (by omega) (by omega)
        refine GG.aload_n e_X4_soundAt_12 (i := 0) rfl 2 rfl ?_
        refine GG.iload_n e_X4_soundAt_13 (i := 3) rfl 0 rfl ?_
        refine GG.callV (d' := 1) (a := b) (as := [.int _]) e_X4_soundAt_14 ml_X4_77 mf_X4_houseOf mv_X4_houseOf (rc_X4 hI_X4_b) rfl (by decide) (Nat.le_of_ble_eq_true rfl) rfl ?_
        refine s_X4_houseOfk hI_X4_b hL e ?_
        refine GG.if_ne (tgt := 29) e_X4_soundAt_17 rfl (fun h17 => ?_) (fun h17 => ?_)
        · skip
          refine GG.iconst (v := 0) e_X4_soundAt_29 rfl ?_
          refine GG.istore e_X4_soundAt_30 (Nat.le_of_ble_eq_true rfl) (ls' := [(4, .int _), (3, .int _), (2, .int _), (0, .ref _), (1, .int _)]) rfl ?_
          refine GG.iconst (v := 0) e_X4_soundAt_32 rfl ?_
          refine GG.istore e_X4_soundAt_33 (Nat.le_of_ble_eq_true rfl) (ls' := [(5, .int _), (4, .int _), (3, .int _), (2, .int _), (0, .ref _), (1, .int _)]) rfl ?_
          refine inn (P + 1) 0 _ _ (by omega) (by omega) e ?_ (by rw [hl, mSum]; simp)
          have hc : cV μ b 1 i = mrd μ (b + 2) i := rfl
          rw [hc]; simp [*]
        · skip
          refine GG.aload_n e_X4_soundAt_20 (i := 0) rfl 2 rfl ?_
          refine GG.iload_n e_X4_soundAt_21 (i := 3) rfl 0 rfl ?_
          refine GG.iload_n e_X4_soundAt_22 (i := 1) rfl 3 rfl ?_
          refine GG.callV (d' := 1) (a := b) (as := [.int _, .int _]) e_X4_soundAt_23 ml_X4_81 mf_X4_leaningOf mv_X4_leaningOf (rc_X4 hI_X4_b) rfl (by decide) (Nat.le_of_ble_eq_true rfl) rfl ?_
          refine s_X4_leaningOf hI_X4_b hL e ?_
          rw [hXi]
          refine GG.goto (tgt := 30) e_X4_soundAt_26 rfl ?_
          refine GG.istore e_X4_soundAt_30 (Nat.le_of_ble_eq_true rfl) (ls' := [(4, .int _), (3, .int _), (2, .int _), (0, .ref _), (1, .int _)]) rfl ?_
          refine GG.iconst (v := 0) e_X4_soundAt_32 rfl ?_
          refine GG.istore e_X4_soundAt_33 (Nat.le_of_ble_eq_true rfl) (ls' := [(5, .int _), (4, .int _), (3, .int _), (2, .int _), (0, .ref _), (1, .int _)]) rfl ?_
          refine inn (P + 1) 0 _ _ (by omega) (by omega) e ?_ (by rw [hl, mSum]; simp)
          have hc : cV μ b 1 i = mrd μ (b + 2) i := rfl
          rw [hc]; simp [*]
  refine SPC.of (by decide +kernel) (Nat.le_of_ble_eq_true rfl) (ls := [(0, .ref (b)), (1, .int (c))]) rfl ?_
  refine GG.iconst (v := 0) e_X4_soundAt_0 rfl ?_
  refine GG.istore_n e_X4_soundAt_1 (i := 2) rfl (Nat.le_of_ble_eq_true rfl) (ls' := [(2, .int _), (0, .ref _), (1, .int _)]) rfl ?_
  refine GG.iconst (v := 0) e_X4_soundAt_2 rfl ?_
  refine GG.istore_n e_X4_soundAt_3 (i := 3) rfl (Nat.le_of_ble_eq_true rfl) (ls' := [(3, .int _), (2, .int _), (0, .ref _), (1, .int _)]) rfl ?_
  exact out (P + 1) 0 _ (by omega) (by omega) rfl
theorem s_X4_reachAt {lo : Int32} (hI_X4_b : gI_X4 b) (hL : LC μ b P A) (hQ : Q (some (.int (mReach (cV μ b 1) (mEff (cV μ b) (mrd μ b 8) A c lo) P))) μ) : SPC 2 MX4_reachAt [.ref b, .int c, .int lo] μ Q := by
  obtain ⟨h1p, h2p, h3p, h4p⟩ := id hL
  generalize hX : mEff (cV μ b) (mrd μ b 8) A c lo = X at hQ
  have out : ∀ n i x y, P - i < n → i ≤ P → mRch (cV μ b 1) X i = (x, y) → GG 2 MX4_reachAt 8 [(5, .int (nI i)), (4, .int y), (3, .int x), (0, .ref b), (1, .int c), (2, .int lo)] [] μ Q := by
    intro n
    induction n with
    | zero => intro i x y h; omega
    | succ n ih =>
      intro i x y hn hi hl
      have j45 : ∀ z, z = X i → i < P → GG 2 MX4_reachAt 45 [(5, .int (nI i)), (4, .int y), (3, .int x), (0, .ref b), (1, .int c), (2, .int lo)] [.int z] μ Q := by
        intro z hz e
        refine GG.istore e_X4_reachAt_45 (Nat.le_of_ble_eq_true rfl) (ls' := [(6, .int _), (5, .int _), (4, .int _), (3, .int _), (0, .ref _), (1, .int _), (2, .int _)]) rfl ?_
        refine GG.aload_n e_X4_reachAt_47 (i := 0) rfl 4 rfl ?_
        refine GG.iload e_X4_reachAt_48 1 rfl ?_
        refine GG.callV (d' := 1) (a := b) (as := [.int _]) e_X4_reachAt_50 ml_X4_77 mf_X4_houseOf mv_X4_houseOf (rc_X4 hI_X4_b) rfl (by decide) (Nat.le_of_ble_eq_true rfl) rfl ?_
        refine s_X4_houseOfk hI_X4_b hL e ?_
        refine GG.if_ne (tgt := 66) e_X4_reachAt_53 rfl (fun h53 => ?_) (fun h53 => ?_)
        · skip
          refine GG.iload e_X4_reachAt_66 2 rfl ?_
          refine GG.iload e_X4_reachAt_68 0 rfl ?_
          refine GG.max e_X4_reachAt_70 ml_X4_91 (by decide) (Nat.le_of_ble_eq_true rfl) ?_
          refine GG.istore e_X4_reachAt_73 (Nat.le_of_ble_eq_true rfl) (ls' := [(4, .int _), (6, .int _), (5, .int _), (3, .int _), (0, .ref _), (1, .int _), (2, .int _)]) rfl ?_
          refine GG.iinc e_X4_reachAt_75 2 rfl (v := _) (by first | exact nI_s _ | exact nI_d _ | rfl) (Nat.le_of_ble_eq_true rfl) (ls' := [(5, .int _), (4, .int _), (6, .int _), (3, .int _), (0, .ref _), (1, .int _), (2, .int _)]) rfl ?_
          refine GG.goto (tgt := 8) e_X4_reachAt_78 rfl ?_
          refine GG.perm [0, 1, 3, 4, 5, 6] rfl ?_
          refine ih (i + 1) _ _ (by omega) (by omega) ?_
          have hc : cV μ b 1 i = mrd μ (b + 2) i := rfl
          rw [mRch, hl, hc]
          simp [*, mMax]
        · skip
          refine GG.iload_n e_X4_reachAt_56 (i := 3) rfl 3 rfl ?_
          refine GG.iload e_X4_reachAt_57 0 rfl ?_
          refine GG.max e_X4_reachAt_59 ml_X4_91 (by decide) (Nat.le_of_ble_eq_true rfl) ?_
          refine GG.istore_n e_X4_reachAt_62 (i := 3) rfl (Nat.le_of_ble_eq_true rfl) (ls' := [(3, .int _), (6, .int _), (5, .int _), (4, .int _), (0, .ref _), (1, .int _), (2, .int _)]) rfl ?_
          refine GG.goto (tgt := 75) e_X4_reachAt_63 rfl ?_
          refine GG.iinc e_X4_reachAt_75 2 rfl (v := _) (by first | exact nI_s _ | exact nI_d _ | rfl) (Nat.le_of_ble_eq_true rfl) (ls' := [(5, .int _), (3, .int _), (6, .int _), (4, .int _), (0, .ref _), (1, .int _), (2, .int _)]) rfl ?_
          refine GG.goto (tgt := 8) e_X4_reachAt_78 rfl ?_
          refine GG.perm [0, 3, 1, 4, 5, 6] rfl ?_
          refine ih (i + 1) _ _ (by omega) (by omega) ?_
          have hc : cV μ b 1 i = mrd μ (b + 2) i := rfl
          rw [mRch, hl, hc]
          simp [*, mMax]
      refine GG.iload e_X4_reachAt_8 0 rfl ?_
      refine GG.aload_n e_X4_reachAt_10 (i := 0) rfl 3 rfl ?_
      refine GG.getIv (v := nI P) e_X4_reachAt_11 fl_X4_31 (sf_X4_1 hI_X4_b) (h1p) ?_
      refine GG.icmp_ge (tgt := 81) e_X4_reachAt_14 rfl (fun h14 => ?_) (fun h14 => ?_)
      · skip
        have e := nle h14 (by omega) (by omega)
        have e2 : i = P := by omega
        subst e2
        refine GG.iload_n e_X4_reachAt_81 (i := 3) rfl 2 rfl ?_
        refine GG.iconst (v := 1) e_X4_reachAt_82 rfl ?_
        refine GG.icmp_lt (tgt := 99) e_X4_reachAt_83 rfl (fun h83 => ?_) (fun h83 => ?_)
        · skip
          refine GG.iconst (v := 0) e_X4_reachAt_99 rfl ?_
          refine GG.iret e_X4_reachAt_100 rfl rfl ?_
          refine qI hQ ?_
          rw [mReach, hl]
          grind
        · skip
          refine GG.iload e_X4_reachAt_86 1 rfl ?_
          refine GG.iconst (v := 1) e_X4_reachAt_88 rfl ?_
          refine GG.icmp_lt (tgt := 99) e_X4_reachAt_89 rfl (fun h89 => ?_) (fun h89 => ?_)
          · skip
            refine GG.iconst (v := 0) e_X4_reachAt_99 rfl ?_
            refine GG.iret e_X4_reachAt_100 rfl rfl ?_
            refine qI hQ ?_
            rw [mReach, hl]
            grind
          · skip
            refine GG.iload_n e_X4_reachAt_92 (i := 3) rfl 2 rfl ?_
            refine GG.iload e_X4_reachAt_93 1 rfl ?_
            refine GG.iadd e_X4_reachAt_95 ?_
            refine GG.goto (tgt := 100) e_X4_reachAt_96 rfl ?_
            refine GG.iret e_X4_reachAt_100 rfl rfl ?_
            refine qI hQ ?_
            rw [mReach, hl]
            grind
      · skip
        have e := nnle h14 (by omega) (by omega)
        refine GG.iload e_X4_reachAt_17 0 rfl ?_
        refine GG.iload_n e_X4_reachAt_19 (i := 2) rfl 5 rfl ?_
        refine GG.icmp_eq (tgt := 44) e_X4_reachAt_20 rfl (fun h20 => ?_) (fun h20 => ?_)
        · skip
          refine GG.iconst (v := 0) e_X4_reachAt_44 rfl ?_
          refine j45 _ ?_ e
          rw [← hX, mEff]
          have hc0 : cV μ b 0 i = mrd μ (b + 1) i := rfl
          have hc2 : cV μ b 2 i = mrd μ (b + 3) i := rfl
          rw [hc0, hc2]
          simp [*]
        · skip
          refine GG.aload_n e_X4_reachAt_23 (i := 0) rfl 3 rfl ?_
          refine GG.iload e_X4_reachAt_24 0 rfl ?_
          refine GG.iload_n e_X4_reachAt_26 (i := 1) rfl 4 rfl ?_
          refine GG.callV (d' := 1) (a := b) (as := [.int _, .int _]) e_X4_reachAt_27 ml_X4_88 mf_X4_leanOf mv_X4_leanOf (rc_X4 hI_X4_b) rfl (by decide) (Nat.le_of_ble_eq_true rfl) rfl ?_
          refine s_X4_leanOf hI_X4_b hL e ?_
          refine GG.iconst (v := 1) e_X4_reachAt_30 rfl ?_
          refine GG.icmp_lt (tgt := 44) e_X4_reachAt_31 rfl (fun h31 => ?_) (fun h31 => ?_)
          · skip
            refine GG.iconst (v := 0) e_X4_reachAt_44 rfl ?_
            refine j45 _ ?_ e
            rw [← hX, mEff]
            have hc0 : cV μ b 0 i = mrd μ (b + 1) i := rfl
            have hc2 : cV μ b 2 i = mrd μ (b + 3) i := rfl
            rw [hc0, hc2]
            simp [*]
          · skip
            refine GG.aload_n e_X4_reachAt_34 (i := 0) rfl 3 rfl ?_
            refine GG.iload e_X4_reachAt_35 0 rfl ?_
            refine GG.iload_n e_X4_reachAt_37 (i := 1) rfl 4 rfl ?_
            refine GG.callV (d' := 1) (a := b) (as := [.int _, .int _]) e_X4_reachAt_38 ml_X4_81 mf_X4_leaningOf mv_X4_leaningOf (rc_X4 hI_X4_b) rfl (by decide) (Nat.le_of_ble_eq_true rfl) rfl ?_
            refine s_X4_leaningOf hI_X4_b hL e ?_
            refine GG.goto (tgt := 45) e_X4_reachAt_41 rfl ?_
            refine j45 _ ?_ e
            rw [← hX, mEff]
            have hc0 : cV μ b 0 i = mrd μ (b + 1) i := rfl
            have hc2 : cV μ b 2 i = mrd μ (b + 3) i := rfl
            rw [hc0, hc2]
            simp [*]
  refine SPC.of (by decide +kernel) (Nat.le_of_ble_eq_true rfl) (ls := [(0, .ref (b)), (1, .int (c)), (2, .int (lo))]) rfl ?_
  refine GG.iconst (v := 0) e_X4_reachAt_0 rfl ?_
  refine GG.istore_n e_X4_reachAt_1 (i := 3) rfl (Nat.le_of_ble_eq_true rfl) (ls' := [(3, .int _), (0, .ref _), (1, .int _), (2, .int _)]) rfl ?_
  refine GG.iconst (v := 0) e_X4_reachAt_2 rfl ?_
  refine GG.istore e_X4_reachAt_3 (Nat.le_of_ble_eq_true rfl) (ls' := [(4, .int _), (3, .int _), (0, .ref _), (1, .int _), (2, .int _)]) rfl ?_
  refine GG.iconst (v := 0) e_X4_reachAt_5 rfl ?_
  refine GG.istore e_X4_reachAt_6 (Nat.le_of_ble_eq_true rfl) (ls' := [(5, .int _), (4, .int _), (3, .int _), (0, .ref _), (1, .int _), (2, .int _)]) rfl ?_
  exact out (P + 1) 0 _ _ (by omega) (by omega) rfl
end S15
