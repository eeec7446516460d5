/-! THE REFERENCE: its face, fourth part -/
section S38
variable {μ : gM} {Q : Option Value → gM → Prop} {P A U L T N M B k : Nat} {i c a w z v x y o : Int32}
theorem rHs_c {ν : gM} {V W : Nat → Nat → Int32} {th : Int32} {q : Nat} (hV : VE V W P A) (h1 : mrd ν 64 (36 + 2 * q) = mrd μ 64 (36 + 2 * q)) (h2 : mrd ν 64 (37 + 2 * q) = mrd μ 64 (37 + 2 * q)) : rHs ν V th A P w q = rHs μ W th A P w q := by
  unfold rHs
  rw [h1, h2, vSnd_c hV]
theorem s_X11_lanesL {f : Nat → Bool} (hR : MR μ P A) (hT : mrd μ 64 35 = nI T) (hT6 : T ≤ 6) (hf : ∀ k, k < 27 → f k = mAll (rHs μ (rV μ 0) (mrd μ 64 7) A P (nI (4 + k))) T)
    (hQ : ∀ ν, gL9 μ ν → Q (some (.int (mBits f 27))) ν) : SPC 5 MX11_lanes [.ref 63] μ Q := by
  have lp : ∀ n j x ν, 27 - j < n → j ≤ 27 → gL9 μ ν → x = mBits f j → GG 5 MX11_lanes 4 [(2, .int (nI (4 + j))), (1, .int x), (0, .ref 63)] [] ν Q := by
    intro n
    induction n with
    | zero => intro j x ν h; omega
    | succ n ih =>
      intro j x ν hn hj hν hx
      have es : nI (4 + j) - 4 = nI j := by rw [show (4 : Int32) = nI 4 from rfl, pk_sub (by omega)]; congr 1; omega
      refine GG.iload_n e_X11_lanes_4 (i := 2) rfl 0 rfl ?_
      refine GG.bipush (v := 31) e_X11_lanes_5 rfl ?_
      refine GG.icmp_ge (tgt := 37) e_X11_lanes_7 rfl (fun h7 => ?_) (fun h7 => ?_)
      · skip
        have e : j = 27 := by have := nle (a := 31) (b := 4 + j) h7 (by omega) (by omega); omega
        refine GG.iload_n e_X11_lanes_37 (i := 1) rfl 1 rfl ?_
        refine GG.iret e_X11_lanes_38 rfl rfl ?_
        subst e
        exact qI (hQ ν hν) hx
      · skip
        have e := nnle (a := 31) (b := 4 + j) h7 (by omega) (by omega)
        refine GG.iload_n e_X11_lanes_10 (i := 1) rfl 1 rfl ?_
        refine GG.aload_n e_X11_lanes_11 (i := 0) rfl 2 rfl ?_
        refine GG.iconst (v := 0) e_X11_lanes_12 rfl ?_
        refine GG.iload_n e_X11_lanes_13 (i := 2) rfl 0 rfl ?_
        refine GG.callV (d' := 4) (a := 63) (as := [.int _, .int _]) e_X11_lanes_14 ml_X11_195 mf_X11_isHeardSo mv_X11_isHeardSo (rc_X11 i_X11_63) rfl (by decide) (Nat.le_of_ble_eq_true rfl) rfl ?_
        refine s_X11_isHeardSo (B := 0) (f := rHs μ (rV μ 0) (mrd μ 64 7) A P (nI (4 + j))) (hν.rl hR) (by omega) ((hν.row 35).trans hT) hT6 (fun q _ => ?_) (fun ν2 hν2 => ?_)
        · rw [hν.rV, hν.row]
          exact (rHs_c ⟨fun _ _ => ⟨rfl, rfl, rfl⟩, fun _ _ => ⟨rfl, rfl⟩⟩ (hν.row _) (hν.row _)).symm
        rw [← hf j (by omega)]
        refine GG.if_eq (tgt := 28) e_X11_lanes_17 rfl (fun h17 => ?_) (fun h17 => ?_)
        · skip
          have q := (bI_0 _).mp h17
          refine GG.iconst (v := 0) e_X11_lanes_28 rfl ?_
          refine GG.ior e_X11_lanes_29 ?_
          refine GG.istore_n e_X11_lanes_30 (i := 1) rfl (Nat.le_of_ble_eq_true rfl) (ls' := [(1, .int _), (2, .int _), (0, .ref _)]) rfl ?_
          refine GG.iinc e_X11_lanes_31 1 rfl (v := _) (by first | exact nI_s _ | exact nI_d _ | rfl) (Nat.le_of_ble_eq_true rfl) (ls' := [(2, .int _), (1, .int _), (0, .ref _)]) rfl ?_
          refine GG.goto (tgt := 4) e_X11_lanes_34 rfl ?_
          refine ih (j + 1) _ ν2 (by omega) (by omega) (hν.tr hν2) ?_
          rw [mBits, hx]
          first | (rw [if_pos q]; done) | (rw [if_neg (by rw [q]; decide), Int32.or_zero]; done)
        · skip
          have q := (bI_n0 _).mp h17
          refine GG.iconst (v := 1) e_X11_lanes_20 rfl ?_
          refine GG.iload_n e_X11_lanes_21 (i := 2) rfl 0 rfl ?_
          refine GG.iconst (v := 4) e_X11_lanes_22 rfl ?_
          refine GG.isub e_X11_lanes_23 ?_
          refine GG.top es ?_
          refine GG.ishl e_X11_lanes_24 ?_
          refine GG.goto (tgt := 29) e_X11_lanes_25 rfl ?_
          refine GG.ior e_X11_lanes_29 ?_
          refine GG.istore_n e_X11_lanes_30 (i := 1) rfl (Nat.le_of_ble_eq_true rfl) (ls' := [(1, .int _), (2, .int _), (0, .ref _)]) rfl ?_
          refine GG.iinc e_X11_lanes_31 1 rfl (v := _) (by first | exact nI_s _ | exact nI_d _ | rfl) (Nat.le_of_ble_eq_true rfl) (ls' := [(2, .int _), (1, .int _), (0, .ref _)]) rfl ?_
          refine GG.goto (tgt := 4) e_X11_lanes_34 rfl ?_
          refine ih (j + 1) _ ν2 (by omega) (by omega) (hν.tr hν2) ?_
          rw [mBits, hx]
          first | (rw [if_pos q]; done) | (rw [if_neg (by rw [q]; decide), Int32.or_zero]; done)
  refine SPC.of (by decide +kernel) (Nat.le_of_ble_eq_true rfl) (ls := [(0, .ref (63))]) rfl ?_
  refine GG.iconst (v := 0) e_X11_lanes_0 rfl ?_
  refine GG.istore_n e_X11_lanes_1 (i := 1) rfl (Nat.le_of_ble_eq_true rfl) (ls' := [(1, .int _), (0, .ref _)]) rfl ?_
  refine GG.iconst (v := 4) e_X11_lanes_2 rfl ?_
  refine GG.istore_n e_X11_lanes_3 (i := 2) rfl (Nat.le_of_ble_eq_true rfl) (ls' := [(2, .int _), (1, .int _), (0, .ref _)]) rfl ?_
  exact lp 28 0 0 μ (by omega) (by omega) (gL9.rf μ) rfl
theorem s_X11_swung {f : Nat → Nat → Bool} (hR : MR μ P A) (hT : mrd μ 64 35 = nI T) (hT6 : T ≤ 6) (hf : ∀ k a, a < 10 → f k a = mAll (rHs μ (uV (rV μ 0) k (nI a)) (mrd μ 64 7) A P (mrd μ 64 10)) T) (hbad : mIn i P = false → Q (some (.int (-2))) (rRf μ 0))
    (hok : ∀ k, k < P → i = nI k → ∀ ν, gSm μ ν → Q (some (.int (mBits (f k) 10))) ν) : SPC 5 MX11_swung [.ref 63, .int i] μ Q := by
  have hP7 := hR.2.1
  have hA4 := hR.2.2.2
  have lp : ∀ k, k < P → (∀ ν, gSm μ ν → Q (some (.int (mBits (f k) 10))) ν) → ∀ n j x ν, 10 - j < n → j ≤ 10 → gTr μ ν → (TT ν (rV μ 0) P A (mrd μ 64 7) ∨ ∃ b, TT ν (uV (rV μ 0) k b) P A (mrd μ 64 7)) → x = mBits (f k) j → GG 5 MX11_swung 23 [(3, .int (nI j)), (2, .int x), (0, .ref 63), (1, .int (nI k))] [] ν Q := by
    intro k hk hq n
    induction n with
    | zero => intro j x ν h; omega
    | succ n ih =>
      intro j x ν hn hj hν hT' hx
      have hν1 : gTr μ (mwr ν 64 (537 + k) (nI j)) := hν.wr (by omega)
      have hT1 : TT (mwr ν 64 (537 + k) (nI j)) (uV (rV μ 0) k (nI j)) P A (mrd μ 64 7) := TT.sw2 hT' (by omega) hP7 hA4
      refine GG.iload_n e_X11_swung_23 (i := 3) rfl 0 rfl ?_
      refine GG.bipush (v := 10) e_X11_swung_24 rfl ?_
      refine GG.icmp_ge (tgt := 73) e_X11_swung_26 rfl (fun h26 => ?_) (fun h26 => ?_)
      · skip
        have e : j = 10 := by have := nle (a := 10) (b := j) h26 (by omega) (by omega); omega
        refine GG.iload_n e_X11_swung_73 (i := 2) rfl 1 rfl ?_
        refine GG.iret e_X11_swung_74 rfl rfl ?_
        subst e
        exact qI (hq ν hν.sm) hx
      · skip
        have e := nnle (a := 10) (b := j) h26 (by omega) (by omega)
        refine GG.aload_n e_X11_swung_29 (i := 0) rfl 2 rfl ?_
        refine GG.getR (b := 64) e_X11_swung_30 fl_X11_7 (sf_X11_0 i_X11_63) ?_
        refine GG.sipush (v := 537) e_X11_swung_33 rfl ?_
        refine GG.iload_n e_X11_swung_36 (i := 1) rfl 3 rfl ?_
        refine GG.iadd e_X11_swung_37 ?_
        refine GG.top (show 537 + nI k = nI (537 + k) by rw [show (537 : Int32) = nI 537 from rfl, nI_add]) ?_
        refine GG.iload_n e_X11_swung_38 (i := 3) rfl 0 rfl ?_
        refine GG.iastoreE (k := 537 + k) e_X11_swung_39 (sa_X11_0 i_X11_63) (rfl) (by omega) (Nat.le_of_ble_eq_true rfl) ?_
        refine GG.iload_n e_X11_swung_40 (i := 2) rfl 1 rfl ?_
        refine GG.aload_n e_X11_swung_41 (i := 0) rfl 2 rfl ?_
        refine GG.sipush (v := 537) e_X11_swung_42 rfl ?_
        refine GG.aload_n e_X11_swung_45 (i := 0) rfl 2 rfl ?_
        refine GG.getR (b := 64) e_X11_swung_46 fl_X11_7 (sf_X11_0 i_X11_63) ?_
        refine GG.bipush (v := 10) e_X11_swung_49 rfl ?_
        refine GG.ialoadV (k := 10) (v := mrd μ 64 10) e_X11_swung_51 (sa_X11_0 i_X11_63) (rfl) (by omega) (Nat.le_of_ble_eq_true rfl) (hν1.row (by omega)) ?_
        refine GG.callV (d' := 4) (a := 63) (as := [.int _, .int _]) e_X11_swung_52 ml_X11_195 mf_X11_isHeardSo mv_X11_isHeardSo (rc_X11 i_X11_63) rfl (by decide) (Nat.le_of_ble_eq_true rfl) rfl ?_
        refine s_X11_isHeardSo (B := 537) (f := rHs μ (uV (rV μ 0) k (nI j)) (mrd μ 64 7) A P (mrd μ 64 10)) (hν1.mr hR) (by omega) ((hν1.row (by omega)).trans hT) hT6 (fun q hq6 => ?_) (fun ν2 hν2 => ?_)
        · rw [hT1.2]
          exact (rHs_c hT1.1 (hν1.row (by omega)) (hν1.row (by omega))).symm
        rw [← hf k j e]
        refine GG.if_eq (tgt := 64) e_X11_swung_55 rfl (fun h55 => ?_) (fun h55 => ?_)
        · skip
          have q := (bI_0 _).mp h55
          refine GG.iconst (v := 0) e_X11_swung_64 rfl ?_
          refine GG.ior e_X11_swung_65 ?_
          refine GG.istore_n e_X11_swung_66 (i := 2) rfl (Nat.le_of_ble_eq_true rfl) (ls' := [(2, .int _), (3, .int _), (0, .ref _), (1, .int _)]) rfl ?_
          refine GG.iinc e_X11_swung_67 1 rfl (v := _) (by first | exact nI_s _ | exact nI_d _ | rfl) (Nat.le_of_ble_eq_true rfl) (ls' := [(3, .int _), (2, .int _), (0, .ref _), (1, .int _)]) rfl ?_
          refine GG.goto (tgt := 23) e_X11_swung_70 rfl ?_
          refine ih (j + 1) _ ν2 (by omega) (by omega) (hν1.l9 hν2) (Or.inr ⟨_, hT1.l9 hν2⟩) ?_
          rw [mBits, hx]
          first | (rw [if_pos q]; done) | (rw [if_neg (by rw [q]; decide), Int32.or_zero]; done)
        · skip
          have q := (bI_n0 _).mp h55
          refine GG.iconst (v := 1) e_X11_swung_58 rfl ?_
          refine GG.iload_n e_X11_swung_59 (i := 3) rfl 0 rfl ?_
          refine GG.ishl e_X11_swung_60 ?_
          refine GG.goto (tgt := 65) e_X11_swung_61 rfl ?_
          refine GG.ior e_X11_swung_65 ?_
          refine GG.istore_n e_X11_swung_66 (i := 2) rfl (Nat.le_of_ble_eq_true rfl) (ls' := [(2, .int _), (3, .int _), (0, .ref _), (1, .int _)]) rfl ?_
          refine GG.iinc e_X11_swung_67 1 rfl (v := _) (by first | exact nI_s _ | exact nI_d _ | rfl) (Nat.le_of_ble_eq_true rfl) (ls' := [(3, .int _), (2, .int _), (0, .ref _), (1, .int _)]) rfl ?_
          refine GG.goto (tgt := 23) e_X11_swung_70 rfl ?_
          refine ih (j + 1) _ ν2 (by omega) (by omega) (hν1.l9 hν2) (Or.inr ⟨_, hT1.l9 hν2⟩) ?_
          rw [mBits, hx]
          first | (rw [if_pos q]; done) | (rw [if_neg (by rw [q]; decide), Int32.or_zero]; done)
  refine SPC.of (by decide +kernel) (Nat.le_of_ble_eq_true rfl) (ls := [(0, .ref (63)), (1, .int (i))]) rfl ?_
  refine GG.aload_n e_X11_swung_0 (i := 0) rfl 0 rfl ?_
  refine GG.iload_n e_X11_swung_1 (i := 1) rfl 1 rfl ?_
  refine GG.callV (d' := 1) (a := 63) (as := [.int _]) e_X11_swung_2 ml_X11_159 mf_X11_isOne mv_X11_isOne (rc_X11 i_X11_63) rfl (by decide) (Nat.le_of_ble_eq_true rfl) rfl ?_
  refine s_X11_isOne hR ?_
  refine GG.if_ne (tgt := 15) e_X11_swung_5 rfl (fun h5 => ?_) (fun h5 => ?_)
  · skip
    obtain ⟨k, hk, rfl⟩ := mIn_of ((bI_n0 _).mp h5) (by omega)
    refine GG.aload_n e_X11_swung_15 (i := 0) rfl 0 rfl ?_
    refine GG.callV (d' := 0) (a := 63) (as := []) e_X11_swung_16 ml_X11_168 mf_X11_layTried mv_X11_layTried (rc_X11 i_X11_63) rfl (by decide) (Nat.le_of_ble_eq_true rfl) rfl ?_
    refine s_X11_layTried ?_
    refine GG.iconst (v := 0) e_X11_swung_19 rfl ?_
    refine GG.istore_n e_X11_swung_20 (i := 2) rfl (Nat.le_of_ble_eq_true rfl) (ls' := [(2, .int _), (0, .ref _), (1, .int _)]) rfl ?_
    refine GG.iconst (v := 0) e_X11_swung_21 rfl ?_
    refine GG.istore_n e_X11_swung_22 (i := 3) rfl (Nat.le_of_ble_eq_true rfl) (ls' := [(3, .int _), (2, .int _), (0, .ref _), (1, .int _)]) rfl ?_
    exact lp k hk (hok k hk rfl) 11 0 0 _ (by omega) (by omega) gTr.cr (Or.inl (TT.cr hR)) rfl
  · skip
    have oo := (bI_0 _).mp h5
    refine GG.aload_n e_X11_swung_8 (i := 0) rfl 0 rfl ?_
    refine GG.bipush (v := -2) e_X11_swung_9 rfl ?_
    refine GG.callV (d' := 0) (a := 63) (as := [.int _]) e_X11_swung_11 ml_X11_55 mf_X11_refuse mv_X11_refuse (rc_X11 i_X11_63) rfl (by decide) (Nat.le_of_ble_eq_true rfl) rfl ?_
    refine s_X11_refB ?_
    refine GG.iret e_X11_swung_14 rfl rfl ?_
    exact hbad oo
theorem s_X11_hear {f : Nat → Bool} {g : Nat → Int32} (hR : MR μ P A) (hT : mrd μ 64 35 = nI T) (hT6 : T ≤ 6) (hf : ∀ k, k < 27 → f k = mAll (rHs μ (rV μ 0) (mrd μ 64 7) A P (nI (4 + k))) T)
    (hg : ∀ c, c < 24 → g c = rPt (mBits f 27) (fun k => mHas (mBits f 27) (nI k) && decide (0 < vSnd (rV μ 0) (mrd μ 64 7) A (nI (4 + k)) P (nI c))))
    (hQ : ∀ ν, gL9 μ ν → Q (some (.int (if mBits f 27 = 0 then -1 else (rBst g 24).1))) ν) : SPC 6 MX11_hear [.ref 63] μ Q := by
  generalize hs0 : mBits f 27 = s at hg hQ
  have es : ∀ j, nI (4 + j) - 4 = nI j := fun j => by rw [show (4 : Int32) = nI 4 from rfl, pk_sub (by omega)]; congr 1; omega
  have out : ∀ n c x y ν, 24 - c < n → c ≤ 24 → (c = 0 ∨ ¬ s = 0) → rBst g c = (x, y) → gL9 μ ν → GG 6 MX11_hear 13 [(4, .int (nI c)), (3, .int y), (2, .int x), (1, .int s), (0, .ref 63)] [] ν Q := by
    intro n
    induction n with
    | zero => intro c x y ν h; omega
    | succ n ih =>
      intro c x y ν hn hc hsz hb hν
      generalize hF : (fun k => mHas s (nI k) && decide (0 < vSnd (rV μ 0) (mrd μ 64 7) A (nI (4 + k)) P (nI c))) = F
      have hFk : ∀ k, F k = (mHas s (nI k) && decide (0 < vSnd (rV μ 0) (mrd μ 64 7) A (nI (4 + k)) P (nI c))) := fun k => by rw [← hF]
      have inn : ∀ m j u ν, 27 - j < m → j ≤ 27 → c < 24 → ¬ s = 0 → gL9 μ ν → u = mSum (fun k => if F k = true then 1 else 0) j → GG 6 MX11_hear 30 [(6, .int (nI (4 + j))), (5, .int u), (4, .int (nI c)), (3, .int y), (2, .int x), (1, .int s), (0, .ref 63)] [] ν Q := by
        intro m
        induction m with
        | zero => intro j u ν h; omega
        | succ m ihm =>
          intro j u ν hm hj hc24 hs1 hν hu
          have nx : ∀ t ν', t = mSum (fun k => if F k = true then 1 else 0) (j + 1) → j < 27 → gL9 μ ν' → GG 6 MX11_hear 69 [(6, .int (nI (4 + j))), (5, .int u), (4, .int (nI c)), (3, .int y), (2, .int x), (1, .int s), (0, .ref 63)] [.int t] ν' Q := by
            intro t ν' ht hj27 hν'
            refine GG.istore e_X11_hear_69 (Nat.le_of_ble_eq_true rfl) (ls' := [(5, .int _), (6, .int _), (4, .int _), (3, .int _), (2, .int _), (1, .int _), (0, .ref _)]) rfl ?_
            refine GG.iinc e_X11_hear_71 1 rfl (v := _) (by first | exact nI_s _ | exact nI_d _ | rfl) (Nat.le_of_ble_eq_true rfl) (ls' := [(6, .int _), (5, .int _), (4, .int _), (3, .int _), (2, .int _), (1, .int _), (0, .ref _)]) rfl ?_
            refine GG.goto (tgt := 30) e_X11_hear_74 rfl ?_
            exact ihm (j + 1) t ν' (by omega) (by omega) hc24 hs1 hν' ht
          have hk : ∀ p, g c = p → ∀ x' y', (x', y') = rBst g (c + 1) → ∀ ν', gL9 μ ν' → GG 6 MX11_hear 13 [(4, .int (nI (c + 1))), (3, .int y'), (2, .int x'), (1, .int s), (0, .ref 63)] [] ν' Q := by
            intro p hp x' y' hxy ν' hν'
            exact ih (c + 1) x' y' ν' (by omega) (by omega) (Or.inr hs1) hxy.symm hν'
          refine GG.iload e_X11_hear_30 0 rfl ?_
          refine GG.bipush (v := 31) e_X11_hear_32 rfl ?_
          refine GG.icmp_ge (tgt := 77) e_X11_hear_34 rfl (fun h34 => ?_) (fun h34 => ?_)
          · skip
            have e : j = 27 := by have := nle (a := 31) (b := 4 + j) h34 (by omega) (by omega); omega
            subst e
            have hg1 := hg c hc24
            rw [hF] at hg1
            unfold rPt at hg1
            rw [← hu] at hg1
            refine GG.iload_n e_X11_hear_77 (i := 1) rfl 5 rfl ?_
            refine GG.callS (d' := 0) (as := [.int _]) e_X11_hear_78 ml_X11_171 mf_X11_bits ms_X11_bits rfl (by decide) (Nat.le_of_ble_eq_true rfl) rfl ?_
            refine s_X11_bits ?_
            refine GG.iload e_X11_hear_81 1 rfl ?_
            refine GG.isub e_X11_hear_83 ?_
            refine GG.istore e_X11_hear_84 (Nat.le_of_ble_eq_true rfl) (ls' := [(6, .int _), (5, .int _), (4, .int _), (3, .int _), (2, .int _), (1, .int _), (0, .ref _)]) rfl ?_
            refine GG.iload e_X11_hear_86 1 rfl ?_
            refine GG.iload e_X11_hear_88 0 rfl ?_
            refine GG.icmp_le (tgt := 98) e_X11_hear_90 rfl (fun h90 => ?_) (fun h90 => ?_)
            · skip
              have hp : g c = mCnt s - u := by rw [hg1, if_neg (Int32.not_lt.mpr h90)]
              refine GG.iload e_X11_hear_98 0 rfl ?_
              refine GG.istore e_X11_hear_100 (Nat.le_of_ble_eq_true rfl) (ls' := [(7, .int _), (6, .int _), (5, .int _), (4, .int _), (3, .int _), (2, .int _), (1, .int _), (0, .ref _)]) rfl ?_
              refine GG.iload e_X11_hear_102 0 rfl ?_
              refine GG.iload_n e_X11_hear_104 (i := 3) rfl 4 rfl ?_
              refine GG.icmp_ge (tgt := 113) e_X11_hear_105 rfl (fun h105 => ?_) (fun h105 => ?_)
              · skip
                refine GG.iload_n e_X11_hear_113 (i := 2) rfl 5 rfl ?_
                refine GG.istore_n e_X11_hear_114 (i := 2) rfl (Nat.le_of_ble_eq_true rfl) (ls' := [(2, .int _), (7, .int _), (6, .int _), (5, .int _), (4, .int _), (3, .int _), (1, .int _), (0, .ref _)]) rfl ?_
                refine GG.iload e_X11_hear_115 1 rfl ?_
                refine GG.iload_n e_X11_hear_117 (i := 3) rfl 5 rfl ?_
                refine GG.icmp_ge (tgt := 126) e_X11_hear_118 rfl (fun h118 => ?_) (fun h118 => ?_)
                · skip
                  refine GG.iload_n e_X11_hear_126 (i := 3) rfl 5 rfl ?_
                  refine GG.istore_n e_X11_hear_127 (i := 3) rfl (Nat.le_of_ble_eq_true rfl) (ls' := [(3, .int _), (2, .int _), (7, .int _), (6, .int _), (5, .int _), (4, .int _), (1, .int _), (0, .ref _)]) rfl ?_
                  refine GG.iinc e_X11_hear_128 5 rfl (v := _) (by first | exact nI_s _ | exact nI_d _ | rfl) (Nat.le_of_ble_eq_true rfl) (ls' := [(4, .int _), (3, .int _), (2, .int _), (7, .int _), (6, .int _), (5, .int _), (1, .int _), (0, .ref _)]) rfl ?_
                  refine GG.goto (tgt := 13) e_X11_hear_131 rfl ?_
                  refine GG.perm [0, 1, 2, 6, 7] rfl ?_
                  first | exact absurd h105 h118 | exact absurd h118 h105 | (refine hk _ hp _ _ ?_ ν hν; rw [rBst, hb, hp]; first | (rw [if_neg (Int32.not_lt.mpr h105)]; done) | rw [if_pos (Int32.not_le.mp h105)])
                · skip
                  refine GG.iload e_X11_hear_121 1 rfl ?_
                  refine GG.goto (tgt := 127) e_X11_hear_123 rfl ?_
                  refine GG.istore_n e_X11_hear_127 (i := 3) rfl (Nat.le_of_ble_eq_true rfl) (ls' := [(3, .int _), (2, .int _), (7, .int _), (6, .int _), (5, .int _), (4, .int _), (1, .int _), (0, .ref _)]) rfl ?_
                  refine GG.iinc e_X11_hear_128 5 rfl (v := _) (by first | exact nI_s _ | exact nI_d _ | rfl) (Nat.le_of_ble_eq_true rfl) (ls' := [(4, .int _), (3, .int _), (2, .int _), (7, .int _), (6, .int _), (5, .int _), (1, .int _), (0, .ref _)]) rfl ?_
                  refine GG.goto (tgt := 13) e_X11_hear_131 rfl ?_
                  refine GG.perm [0, 1, 2, 6, 7] rfl ?_
                  first | exact absurd h105 h118 | exact absurd h118 h105 | (refine hk _ hp _ _ ?_ ν hν; rw [rBst, hb, hp]; first | (rw [if_neg (Int32.not_lt.mpr h105)]; done) | rw [if_pos (Int32.not_le.mp h105)])
              · skip
                refine GG.iload e_X11_hear_108 3 rfl ?_
                refine GG.goto (tgt := 114) e_X11_hear_110 rfl ?_
                refine GG.istore_n e_X11_hear_114 (i := 2) rfl (Nat.le_of_ble_eq_true rfl) (ls' := [(2, .int _), (7, .int _), (6, .int _), (5, .int _), (4, .int _), (3, .int _), (1, .int _), (0, .ref _)]) rfl ?_
                refine GG.iload e_X11_hear_115 1 rfl ?_
                refine GG.iload_n e_X11_hear_117 (i := 3) rfl 5 rfl ?_
                refine GG.icmp_ge (tgt := 126) e_X11_hear_118 rfl (fun h118 => ?_) (fun h118 => ?_)
                · skip
                  refine GG.iload_n e_X11_hear_126 (i := 3) rfl 5 rfl ?_
                  refine GG.istore_n e_X11_hear_127 (i := 3) rfl (Nat.le_of_ble_eq_true rfl) (ls' := [(3, .int _), (2, .int _), (7, .int _), (6, .int _), (5, .int _), (4, .int _), (1, .int _), (0, .ref _)]) rfl ?_
                  refine GG.iinc e_X11_hear_128 5 rfl (v := _) (by first | exact nI_s _ | exact nI_d _ | rfl) (Nat.le_of_ble_eq_true rfl) (ls' := [(4, .int _), (3, .int _), (2, .int _), (7, .int _), (6, .int _), (5, .int _), (1, .int _), (0, .ref _)]) rfl ?_
                  refine GG.goto (tgt := 13) e_X11_hear_131 rfl ?_
                  refine GG.perm [0, 1, 2, 6, 7] rfl ?_
                  first | exact absurd h105 h118 | exact absurd h118 h105 | (refine hk _ hp _ _ ?_ ν hν; rw [rBst, hb, hp]; first | (rw [if_neg (Int32.not_lt.mpr h105)]; done) | rw [if_pos (Int32.not_le.mp h105)])
                · skip
                  refine GG.iload e_X11_hear_121 1 rfl ?_
                  refine GG.goto (tgt := 127) e_X11_hear_123 rfl ?_
                  refine GG.istore_n e_X11_hear_127 (i := 3) rfl (Nat.le_of_ble_eq_true rfl) (ls' := [(3, .int _), (2, .int _), (7, .int _), (6, .int _), (5, .int _), (4, .int _), (1, .int _), (0, .ref _)]) rfl ?_
                  refine GG.iinc e_X11_hear_128 5 rfl (v := _) (by first | exact nI_s _ | exact nI_d _ | rfl) (Nat.le_of_ble_eq_true rfl) (ls' := [(4, .int _), (3, .int _), (2, .int _), (7, .int _), (6, .int _), (5, .int _), (1, .int _), (0, .ref _)]) rfl ?_
                  refine GG.goto (tgt := 13) e_X11_hear_131 rfl ?_
                  refine GG.perm [0, 1, 2, 6, 7] rfl ?_
                  first | exact absurd h105 h118 | exact absurd h118 h105 | (refine hk _ hp _ _ ?_ ν hν; rw [rBst, hb, hp]; first | (rw [if_neg (Int32.not_lt.mpr h105)]; done) | rw [if_pos (Int32.not_le.mp h105)])
            · skip
              have hp : g c = u := by rw [hg1, if_pos (Int32.not_le.mp h90)]
              refine GG.iload e_X11_hear_93 1 rfl ?_
              refine GG.goto (tgt := 100) e_X11_hear_95 rfl ?_
              refine GG.istore e_X11_hear_100 (Nat.le_of_ble_eq_true rfl) (ls' := [(7, .int _), (6, .int _), (5, .int _), (4, .int _), (3, .int _), (2, .int _), (1, .int _), (0, .ref _)]) rfl ?_
              refine GG.iload e_X11_hear_102 0 rfl ?_
              refine GG.iload_n e_X11_hear_104 (i := 3) rfl 4 rfl ?_
              refine GG.icmp_ge (tgt := 113) e_X11_hear_105 rfl (fun h105 => ?_) (fun h105 => ?_)
              · skip
                refine GG.iload_n e_X11_hear_113 (i := 2) rfl 5 rfl ?_
                refine GG.istore_n e_X11_hear_114 (i := 2) rfl (Nat.le_of_ble_eq_true rfl) (ls' := [(2, .int _), (7, .int _), (6, .int _), (5, .int _), (4, .int _), (3, .int _), (1, .int _), (0, .ref _)]) rfl ?_
                refine GG.iload e_X11_hear_115 1 rfl ?_
                refine GG.iload_n e_X11_hear_117 (i := 3) rfl 5 rfl ?_
                refine GG.icmp_ge (tgt := 126) e_X11_hear_118 rfl (fun h118 => ?_) (fun h118 => ?_)
                · skip
                  refine GG.iload_n e_X11_hear_126 (i := 3) rfl 5 rfl ?_
                  refine GG.istore_n e_X11_hear_127 (i := 3) rfl (Nat.le_of_ble_eq_true rfl) (ls' := [(3, .int _), (2, .int _), (7, .int _), (6, .int _), (5, .int _), (4, .int _), (1, .int _), (0, .ref _)]) rfl ?_
                  refine GG.iinc e_X11_hear_128 5 rfl (v := _) (by first | exact nI_s _ | exact nI_d _ | rfl) (Nat.le_of_ble_eq_true rfl) (ls' := [(4, .int _), (3, .int _), (2, .int _), (7, .int _), (6, .int _), (5, .int _), (1, .int _), (0, .ref _)]) rfl ?_
                  refine GG.goto (tgt := 13) e_X11_hear_131 rfl ?_
                  refine GG.perm [0, 1, 2, 6, 7] rfl ?_
                  first | exact absurd h105 h118 | exact absurd h118 h105 | (refine hk _ hp _ _ ?_ ν hν; rw [rBst, hb, hp]; first | (rw [if_neg (Int32.not_lt.mpr h105)]; done) | rw [if_pos (Int32.not_le.mp h105)])
                · skip
                  refine GG.iload e_X11_hear_121 1 rfl ?_
                  refine GG.goto (tgt := 127) e_X11_hear_123 rfl ?_
                  refine GG.istore_n e_X11_hear_127 (i := 3) rfl (Nat.le_of_ble_eq_true rfl) (ls' := [(3, .int _), (2, .int _), (7, .int _), (6, .int _), (5, .int _), (4, .int _), (1, .int _), (0, .ref _)]) rfl ?_
                  refine GG.iinc e_X11_hear_128 5 rfl (v := _) (by first | exact nI_s _ | exact nI_d _ | rfl) (Nat.le_of_ble_eq_true rfl) (ls' := [(4, .int _), (3, .int _), (2, .int _), (7, .int _), (6, .int _), (5, .int _), (1, .int _), (0, .ref _)]) rfl ?_
                  refine GG.goto (tgt := 13) e_X11_hear_131 rfl ?_
                  refine GG.perm [0, 1, 2, 6, 7] rfl ?_
                  first | exact absurd h105 h118 | exact absurd h118 h105 | (refine hk _ hp _ _ ?_ ν hν; rw [rBst, hb, hp]; first | (rw [if_neg (Int32.not_lt.mpr h105)]; done) | rw [if_pos (Int32.not_le.mp h105)])
              · skip
                refine GG.iload e_X11_hear_108 3 rfl ?_
                refine GG.goto (tgt := 114) e_X11_hear_110 rfl ?_
                refine GG.istore_n e_X11_hear_114 (i := 2) rfl (Nat.le_of_ble_eq_true rfl) (ls' := [(2, .int _), (7, .int _), (6, .int _), (5, .int _), (4, .int _), (3, .int _), (1, .int _), (0, .ref _)]) rfl ?_
                refine GG.iload e_X11_hear_115 1 rfl ?_
                refine GG.iload_n e_X11_hear_117 (i := 3) rfl 5 rfl ?_
                refine GG.icmp_ge (tgt := 126) e_X11_hear_118 rfl (fun h118 => ?_) (fun h118 => ?_)
                · skip
                  refine GG.iload_n e_X11_hear_126 (i := 3) rfl 5 rfl ?_
                  refine GG.istore_n e_X11_hear_127 (i := 3) rfl (Nat.le_of_ble_eq_true rfl) (ls' := [(3, .int _), (2, .int _), (7, .int _), (6, .int _), (5, .int _), (4, .int _), (1, .int _), (0, .ref _)]) rfl ?_
                  refine GG.iinc e_X11_hear_128 5 rfl (v := _) (by first | exact nI_s _ | exact nI_d _ | rfl) (Nat.le_of_ble_eq_true rfl) (ls' := [(4, .int _), (3, .int _), (2, .int _), (7, .int _), (6, .int _), (5, .int _), (1, .int _), (0, .ref _)]) rfl ?_
                  refine GG.goto (tgt := 13) e_X11_hear_131 rfl ?_
                  refine GG.perm [0, 1, 2, 6, 7] rfl ?_
                  first | exact absurd h105 h118 | exact absurd h118 h105 | (refine hk _ hp _ _ ?_ ν hν; rw [rBst, hb, hp]; first | (rw [if_neg (Int32.not_lt.mpr h105)]; done) | rw [if_pos (Int32.not_le.mp h105)])
                · skip
                  refine GG.iload e_X11_hear_121 1 rfl ?_
                  refine GG.goto (tgt := 127) e_X11_hear_123 rfl ?_
                  refine GG.istore_n e_X11_hear_127 (i := 3) rfl (Nat.le_of_ble_eq_true rfl) (ls' := [(3, .int _), (2, .int _), (7, .int _), (6, .int _), (5, .int _), (4, .int _), (1, .int _), (0, .ref _)]) rfl ?_
                  refine GG.iinc e_X11_hear_128 5 rfl (v := _) (by first | exact nI_s _ | exact nI_d _ | rfl) (Nat.le_of_ble_eq_true rfl) (ls' := [(4, .int _), (3, .int _), (2, .int _), (7, .int _), (6, .int _), (5, .int _), (1, .int _), (0, .ref _)]) rfl ?_
                  refine GG.goto (tgt := 13) e_X11_hear_131 rfl ?_
                  refine GG.perm [0, 1, 2, 6, 7] rfl ?_
                  first | exact absurd h105 h118 | exact absurd h118 h105 | (refine hk _ hp _ _ ?_ ν hν; rw [rBst, hb, hp]; first | (rw [if_neg (Int32.not_lt.mpr h105)]; done) | rw [if_pos (Int32.not_le.mp h105)])
          · skip
            have e := nnle (a := 31) (b := 4 + j) h34 (by omega) (by omega)
            refine GG.iload e_X11_hear_37 1 rfl ?_
            refine GG.iload_n e_X11_hear_39 (i := 1) rfl 5 rfl ?_
            refine GG.iload e_X11_hear_40 0 rfl ?_
            refine GG.iconst (v := 4) e_X11_hear_42 rfl ?_
            refine GG.isub e_X11_hear_43 ?_
            refine GG.top (es j) ?_
            refine GG.callS (d' := 0) (as := [.int _, .int _]) e_X11_hear_44 ml_X11_139 mf_X11_has ms_X11_has rfl (by decide) (Nat.le_of_ble_eq_true rfl) rfl ?_
            refine s_X11_has ?_
            refine GG.if_eq (tgt := 67) e_X11_hear_47 rfl (fun h47 => ?_) (fun h47 => ?_)
            · skip
              have q := (bI_0 _).mp h47
              have qF : (if F j = true then (1 : Int32) else 0) = 0 := by rw [hFk, q]; rfl
              refine GG.iconst (v := 0) e_X11_hear_67 rfl ?_
              refine GG.iadd e_X11_hear_68 ?_
              refine nx _ _ ?_ (by omega) ?_
              · rw [mSum, ← hu, qF]
              · first | exact hν.tr hν2 | exact hν
            · skip
              have q := (bI_n0 _).mp h47
              refine GG.aload_n e_X11_hear_50 (i := 0) rfl 6 rfl ?_
              refine GG.iconst (v := 0) e_X11_hear_51 rfl ?_
              refine GG.iload e_X11_hear_52 0 rfl ?_
              refine GG.iload e_X11_hear_54 2 rfl ?_
              refine GG.iconst (v := -1) e_X11_hear_56 rfl ?_
              refine GG.callV (d' := 3) (a := 63) (as := [.int _, .int _, .int _, .int _]) e_X11_hear_57 ml_X11_149 mf_X11_soundBy mv_X11_soundBy (rc_X11 i_X11_63) rfl (by decide) (Nat.le_of_ble_eq_true rfl) rfl ?_
              refine s_X11_soundByS (B := 0) (hν.rl hR) (by omega) (fun ν2 hν2 => ?_)
              rw [hν.st]
              refine GG.if_le (tgt := 67) e_X11_hear_60 rfl (fun h60 => ?_) (fun h60 => ?_)
              · skip
                have q2 : ¬ 0 < vSnd (rV μ 0) (mrd μ 64 7) A (nI (4 + j)) P (nI c) := Int32.not_lt.mpr h60
                have qF : (if F j = true then (1 : Int32) else 0) = 0 := by rw [hFk, q, decide_eq_false q2]; rfl
                refine GG.iconst (v := 0) e_X11_hear_67 rfl ?_
                refine GG.iadd e_X11_hear_68 ?_
                refine nx _ _ ?_ (by omega) ?_
                · rw [mSum, ← hu, qF]
                · first | exact hν.tr hν2 | exact hν
              · skip
                have q2 : 0 < vSnd (rV μ 0) (mrd μ 64 7) A (nI (4 + j)) P (nI c) := Int32.not_le.mp h60
                have qF : (if F j = true then (1 : Int32) else 0) = 1 := by rw [hFk, q, decide_eq_true q2]; rfl
                refine GG.iconst (v := 1) e_X11_hear_63 rfl ?_
                refine GG.goto (tgt := 68) e_X11_hear_64 rfl ?_
                refine GG.iadd e_X11_hear_68 ?_
                refine nx _ _ ?_ (by omega) ?_
                · rw [mSum, ← hu, qF]
                · first | exact hν.tr hν2 | exact hν
      refine GG.iload e_X11_hear_13 0 rfl ?_
      refine GG.bipush (v := 24) e_X11_hear_15 rfl ?_
      refine GG.icmp_ge (tgt := 134) e_X11_hear_17 rfl (fun h17 => ?_) (fun h17 => ?_)
      · skip
        have e : c = 24 := by have := nle (a := 24) (b := c) h17 (by omega) (by omega); omega
        subst e
        refine GG.iload_n e_X11_hear_134 (i := 2) rfl 2 rfl ?_
        refine GG.iret e_X11_hear_135 rfl rfl ?_
        refine qI (hQ ν hν) ?_
        first | (rw [if_pos h21]; rcases hsz with h | h; subst h; cases hb; rfl; exact absurd h21 h) | rw [if_neg (hsz.resolve_left (by omega)), hb]
      · skip
        have e := nnle (a := 24) (b := c) h17 (by omega) (by omega)
        refine GG.iload_n e_X11_hear_20 (i := 1) rfl 3 rfl ?_
        refine GG.if_eq (tgt := 134) e_X11_hear_21 rfl (fun h21 => ?_) (fun h21 => ?_)
        · skip
          refine GG.iload_n e_X11_hear_134 (i := 2) rfl 2 rfl ?_
          refine GG.iret e_X11_hear_135 rfl rfl ?_
          refine qI (hQ ν hν) ?_
          first | (rw [if_pos h21]; rcases hsz with h | h; subst h; cases hb; rfl; exact absurd h21 h) | rw [if_neg (hsz.resolve_left (by omega)), hb]
        · skip
          refine GG.iconst (v := 0) e_X11_hear_24 rfl ?_
          refine GG.istore e_X11_hear_25 (Nat.le_of_ble_eq_true rfl) (ls' := [(5, .int _), (4, .int _), (3, .int _), (2, .int _), (1, .int _), (0, .ref _)]) rfl ?_
          refine GG.iconst (v := 4) e_X11_hear_27 rfl ?_
          refine GG.istore e_X11_hear_28 (Nat.le_of_ble_eq_true rfl) (ls' := [(6, .int _), (5, .int _), (4, .int _), (3, .int _), (2, .int _), (1, .int _), (0, .ref _)]) rfl ?_
          exact inn 28 0 0 ν (by omega) (by omega) e h21 hν rfl
  refine SPC.of (by decide +kernel) (Nat.le_of_ble_eq_true rfl) (ls := [(0, .ref (63))]) rfl ?_
  refine GG.aload_n e_X11_hear_0 (i := 0) rfl 0 rfl ?_
  refine GG.callV (d' := 5) (a := 63) (as := []) e_X11_hear_1 ml_X11_198 mf_X11_lanes mv_X11_lanes (rc_X11 i_X11_63) rfl (by decide) (Nat.le_of_ble_eq_true rfl) rfl ?_
  refine s_X11_lanesL hR hT hT6 hf (fun ν hν => ?_)
  rw [hs0]
  refine GG.istore_n e_X11_hear_4 (i := 1) rfl (Nat.le_of_ble_eq_true rfl) (ls' := [(1, .int _), (0, .ref _)]) rfl ?_
  refine GG.iconst (v := -1) e_X11_hear_5 rfl ?_
  refine GG.istore_n e_X11_hear_6 (i := 2) rfl (Nat.le_of_ble_eq_true rfl) (ls' := [(2, .int _), (1, .int _), (0, .ref _)]) rfl ?_
  refine GG.bipush (v := 99) e_X11_hear_7 rfl ?_
  refine GG.istore_n e_X11_hear_9 (i := 3) rfl (Nat.le_of_ble_eq_true rfl) (ls' := [(3, .int _), (2, .int _), (1, .int _), (0, .ref _)]) rfl ?_
  refine GG.iconst (v := 0) e_X11_hear_10 rfl ?_
  refine GG.istore e_X11_hear_11 (Nat.le_of_ble_eq_true rfl) (ls' := [(4, .int _), (3, .int _), (2, .int _), (1, .int _), (0, .ref _)]) rfl ?_
  exact out 25 0 _ _ ν (by omega) (by omega) (Or.inl rfl) rfl hν
theorem s_X11_heard (hT : mrd μ 64 35 = nI T) (hT6 : T ≤ 6) (hbad : (oB c 0 99 || oB z 0 1) = true → Q (some (.int (-2))) (rRf μ 0)) (hfull : (oB c 0 99 || oB z 0 1) = false → T = 6 → Q (some (.int (-4))) (rRf μ 2))
    (hok : (oB c 0 99 || oB z 0 1) = false → T < 6 → Q (some (.int (nI (T + 1)))) (rAd2 μ T c z)) : SPC 1 MX11_heard [.ref 63, .int c, .int z] μ Q := by
  have e2 : (36 : Int32) + 2 * nI T = nI (36 + 2 * T) := by rw [show (2 : Int32) = nI 2 from rfl, pk_mul, show (36 : Int32) = nI 36 from rfl, nI_add]
  refine SPC.of (by decide +kernel) (Nat.le_of_ble_eq_true rfl) (ls := [(0, .ref (63)), (1, .int (c)), (2, .int (z))]) rfl ?_
  refine GG.iload_n e_X11_heard_0 (i := 1) rfl 1 rfl ?_
  refine GG.iconst (v := 0) e_X11_heard_1 rfl ?_
  refine GG.bipush (v := 99) e_X11_heard_2 rfl ?_
  refine GG.callS (d' := 0) (as := [.int _, .int _, .int _]) e_X11_heard_4 ml_X11_51 mf_X11_in ms_X11_in rfl (by decide) (Nat.le_of_ble_eq_true rfl) rfl ?_
  refine s_X11_inO ?_
  refine GG.if_eq (tgt := 19) e_X11_heard_7 rfl (fun h7 => ?_) (fun h7 => ?_)
  · skip
    have oo := inT h7
    refine GG.aload_n e_X11_heard_19 (i := 0) rfl 0 rfl ?_
    refine GG.bipush (v := -2) e_X11_heard_20 rfl ?_
    refine GG.callV (d' := 0) (a := 63) (as := [.int _]) e_X11_heard_22 ml_X11_55 mf_X11_refuse mv_X11_refuse (rc_X11 i_X11_63) rfl (by decide) (Nat.le_of_ble_eq_true rfl) rfl ?_
    refine s_X11_refB ?_
    refine GG.iret e_X11_heard_25 rfl rfl ?_
    exact hbad (by simp [oo])
  · skip
    have o1 := inF h7
    refine GG.iload_n e_X11_heard_10 (i := 2) rfl 2 rfl ?_
    refine GG.iconst (v := 0) e_X11_heard_11 rfl ?_
    refine GG.iconst (v := 1) e_X11_heard_12 rfl ?_
    refine GG.callS (d' := 0) (as := [.int _, .int _, .int _]) e_X11_heard_13 ml_X11_51 mf_X11_in ms_X11_in rfl (by decide) (Nat.le_of_ble_eq_true rfl) rfl ?_
    refine s_X11_inO ?_
    refine GG.if_ne (tgt := 26) e_X11_heard_16 rfl (fun h16 => ?_) (fun h16 => ?_)
    · skip
      have o2 := inF h16
      refine GG.aload_n e_X11_heard_26 (i := 0) rfl 0 rfl ?_
      refine GG.getR (b := 64) e_X11_heard_27 fl_X11_7 (sf_X11_0 i_X11_63) ?_
      refine GG.bipush (v := 35) e_X11_heard_30 rfl ?_
      refine GG.ialoadV (k := 35) (v := nI T) e_X11_heard_32 (sa_X11_0 i_X11_63) (rfl) (by omega) (Nat.le_of_ble_eq_true rfl) (hT) ?_
      refine GG.bipush (v := 6) e_X11_heard_33 rfl ?_
      refine GG.icmp_ne (tgt := 45) e_X11_heard_35 rfl (fun h35 => ?_) (fun h35 => ?_)
      · skip
        have e : ¬ T = 6 := fun z => h35 (by rw [z]; rfl)
        refine GG.bipush (v := 36) e_X11_heard_45 rfl ?_
        refine GG.iconst (v := 2) e_X11_heard_47 rfl ?_
        refine GG.aload_n e_X11_heard_48 (i := 0) rfl 0 rfl ?_
        refine GG.getR (b := 64) e_X11_heard_49 fl_X11_7 (sf_X11_0 i_X11_63) ?_
        refine GG.bipush (v := 35) e_X11_heard_52 rfl ?_
        refine GG.ialoadV (k := 35) (v := nI T) e_X11_heard_54 (sa_X11_0 i_X11_63) (rfl) (by omega) (Nat.le_of_ble_eq_true rfl) (hT) ?_
        refine GG.imul e_X11_heard_55 ?_
        refine GG.iadd e_X11_heard_56 ?_
        refine GG.top e2 ?_
        refine GG.istore_n e_X11_heard_57 (i := 3) rfl (Nat.le_of_ble_eq_true rfl) (ls' := [(3, .int _), (0, .ref _), (1, .int _), (2, .int _)]) rfl ?_
        refine GG.aload_n e_X11_heard_58 (i := 0) rfl 1 rfl ?_
        refine GG.getR (b := 64) e_X11_heard_59 fl_X11_7 (sf_X11_0 i_X11_63) ?_
        refine GG.iload_n e_X11_heard_62 (i := 3) rfl 0 rfl ?_
        refine GG.iload_n e_X11_heard_63 (i := 1) rfl 2 rfl ?_
        refine GG.iastoreE (k := 36 + 2 * T) e_X11_heard_64 (sa_X11_0 i_X11_63) (rfl) (by omega) (Nat.le_of_ble_eq_true rfl) ?_
        refine GG.aload_n e_X11_heard_65 (i := 0) rfl 1 rfl ?_
        refine GG.getR (b := 64) e_X11_heard_66 fl_X11_7 (sf_X11_0 i_X11_63) ?_
        refine GG.iload_n e_X11_heard_69 (i := 3) rfl 0 rfl ?_
        refine GG.iconst (v := 1) e_X11_heard_70 rfl ?_
        refine GG.iadd e_X11_heard_71 ?_
        refine GG.iload_n e_X11_heard_72 (i := 2) rfl 3 rfl ?_
        refine GG.iastoreE (k := 37 + 2 * T) e_X11_heard_73 (sa_X11_0 i_X11_63) ((by rw [nI_1]; congr 1; omega)) (by omega) (Nat.le_of_ble_eq_true rfl) ?_
        refine GG.aload_n e_X11_heard_74 (i := 0) rfl 1 rfl ?_
        refine GG.getR (b := 64) e_X11_heard_75 fl_X11_7 (sf_X11_0 i_X11_63) ?_
        refine GG.bipush (v := 35) e_X11_heard_78 rfl ?_
        refine GG.dup2 e_X11_heard_80 rfl rfl ?_
        refine GG.ialoadV (k := 35) (v := nI T) e_X11_heard_81 (sa_X11_0 i_X11_63) (rfl) (by omega) (Nat.le_of_ble_eq_true rfl) (by rw [mrd_wr, if_neg (by omega), mrd_wr, if_neg (by omega), hT]) ?_
        refine GG.iconst (v := 1) e_X11_heard_82 rfl ?_
        refine GG.iadd e_X11_heard_83 ?_
        refine GG.top (nI_1 T) ?_
        refine GG.iastoreE (k := 35) e_X11_heard_84 (sa_X11_0 i_X11_63) (rfl) (by omega) (Nat.le_of_ble_eq_true rfl) ?_
        refine GG.aload_n e_X11_heard_85 (i := 0) rfl 1 rfl ?_
        refine GG.getR (b := 64) e_X11_heard_86 fl_X11_7 (sf_X11_0 i_X11_63) ?_
        refine GG.bipush (v := 35) e_X11_heard_89 rfl ?_
        refine GG.ialoadV (k := 35) (v := nI (T + 1)) e_X11_heard_91 (sa_X11_0 i_X11_63) (rfl) (by omega) (Nat.le_of_ble_eq_true rfl) (by rw [mrd_wr, if_pos ⟨rfl, rfl⟩]) ?_
        refine GG.iret e_X11_heard_92 rfl rfl ?_
        exact hok (by simp [o1, o2]) (by omega)
      · skip
        have e : T = 6 := (nI_eq (b := 6) (by omega) (by omega)).mp h35
        refine GG.aload_n e_X11_heard_38 (i := 0) rfl 0 rfl ?_
        refine GG.bipush (v := -4) e_X11_heard_39 rfl ?_
        refine GG.callV (d' := 0) (a := 63) (as := [.int _]) e_X11_heard_41 ml_X11_55 mf_X11_refuse mv_X11_refuse (rc_X11 i_X11_63) rfl (by decide) (Nat.le_of_ble_eq_true rfl) rfl ?_
        refine s_X11_refF ?_
        refine GG.iret e_X11_heard_44 rfl rfl ?_
        exact hfull (by simp [o1, o2]) e
    · skip
      have oo := inT h16
      refine GG.aload_n e_X11_heard_19 (i := 0) rfl 0 rfl ?_
      refine GG.bipush (v := -2) e_X11_heard_20 rfl ?_
      refine GG.callV (d' := 0) (a := 63) (as := [.int _]) e_X11_heard_22 ml_X11_55 mf_X11_refuse mv_X11_refuse (rc_X11 i_X11_63) rfl (by decide) (Nat.le_of_ble_eq_true rfl) rfl ?_
      refine s_X11_refB ?_
      refine GG.iret e_X11_heard_25 rfl rfl ?_
      exact hbad (by simp [oo])
theorem s_X11_note (hR : MR μ P A) (hT : mrd μ 64 48 = nI T) (hT6 : T ≤ 6) (hbad : (!mIn i P || oB a 0 9 || oB c 0 99 || oB x (-20) 20) = true → Q (some (.int (-2))) (rRf μ 0)) (hfull : (!mIn i P || oB a 0 9 || oB c 0 99 || oB x (-20) 20) = false → T = 6 → Q (some (.int (-4))) (rRf μ 2))
    (hok : (!mIn i P || oB a 0 9 || oB c 0 99 || oB x (-20) 20) = false → T < 6 → Q (some (.int (nI (T + 1)))) (rAd4 μ 48 T i a c x)) : SPC 2 MX11_note [.ref 63, .int i, .int a, .int c, .int x] μ Q := by
  have e4 : (49 : Int32) + 4 * nI T = nI (49 + 4 * T) := by rw [show (4 : Int32) = nI 4 from rfl, pk_mul, show (49 : Int32) = nI 49 from rfl, nI_add]
  refine SPC.of (by decide +kernel) (Nat.le_of_ble_eq_true rfl) (ls := [(0, .ref (63)), (1, .int (i)), (2, .int (a)), (3, .int (c)), (4, .int (x))]) rfl ?_
  refine GG.aload_n e_X11_note_0 (i := 0) rfl 0 rfl ?_
  refine GG.iload_n e_X11_note_1 (i := 1) rfl 1 rfl ?_
  refine GG.callV (d' := 1) (a := 63) (as := [.int _]) e_X11_note_2 ml_X11_159 mf_X11_isOne mv_X11_isOne (rc_X11 i_X11_63) rfl (by decide) (Nat.le_of_ble_eq_true rfl) rfl ?_
  refine s_X11_isOne hR ?_
  refine GG.if_eq (tgt := 40) e_X11_note_5 rfl (fun h5 => ?_) (fun h5 => ?_)
  · skip
    have oo := (bI_0 _).mp h5
    refine GG.aload_n e_X11_note_40 (i := 0) rfl 0 rfl ?_
    refine GG.bipush (v := -2) e_X11_note_41 rfl ?_
    refine GG.callV (d' := 0) (a := 63) (as := [.int _]) e_X11_note_43 ml_X11_55 mf_X11_refuse mv_X11_refuse (rc_X11 i_X11_63) rfl (by decide) (Nat.le_of_ble_eq_true rfl) rfl ?_
    refine s_X11_refB ?_
    refine GG.iret e_X11_note_46 rfl rfl ?_
    exact hbad (by simp [oo])
  · skip
    have o0 := (bI_n0 _).mp h5
    refine GG.iload_n e_X11_note_8 (i := 2) rfl 2 rfl ?_
    refine GG.iconst (v := 0) e_X11_note_9 rfl ?_
    refine GG.bipush (v := 9) e_X11_note_10 rfl ?_
    refine GG.callS (d' := 0) (as := [.int _, .int _, .int _]) e_X11_note_12 ml_X11_51 mf_X11_in ms_X11_in rfl (by decide) (Nat.le_of_ble_eq_true rfl) rfl ?_
    refine s_X11_inO ?_
    refine GG.if_eq (tgt := 40) e_X11_note_15 rfl (fun h15 => ?_) (fun h15 => ?_)
    · skip
      have oo := inT h15
      refine GG.aload_n e_X11_note_40 (i := 0) rfl 0 rfl ?_
      refine GG.bipush (v := -2) e_X11_note_41 rfl ?_
      refine GG.callV (d' := 0) (a := 63) (as := [.int _]) e_X11_note_43 ml_X11_55 mf_X11_refuse mv_X11_refuse (rc_X11 i_X11_63) rfl (by decide) (Nat.le_of_ble_eq_true rfl) rfl ?_
      refine s_X11_refB ?_
      refine GG.iret e_X11_note_46 rfl rfl ?_
      exact hbad (by simp [oo])
    · skip
      have o1 := inF h15
      refine GG.iload_n e_X11_note_18 (i := 3) rfl 3 rfl ?_
      refine GG.iconst (v := 0) e_X11_note_19 rfl ?_
      refine GG.bipush (v := 99) e_X11_note_20 rfl ?_
      refine GG.callS (d' := 0) (as := [.int _, .int _, .int _]) e_X11_note_22 ml_X11_51 mf_X11_in ms_X11_in rfl (by decide) (Nat.le_of_ble_eq_true rfl) rfl ?_
      refine s_X11_inO ?_
      refine GG.if_eq (tgt := 40) e_X11_note_25 rfl (fun h25 => ?_) (fun h25 => ?_)
      · skip
        have oo := inT h25
        refine GG.aload_n e_X11_note_40 (i := 0) rfl 0 rfl ?_
        refine GG.bipush (v := -2) e_X11_note_41 rfl ?_
        refine GG.callV (d' := 0) (a := 63) (as := [.int _]) e_X11_note_43 ml_X11_55 mf_X11_refuse mv_X11_refuse (rc_X11 i_X11_63) rfl (by decide) (Nat.le_of_ble_eq_true rfl) rfl ?_
        refine s_X11_refB ?_
        refine GG.iret e_X11_note_46 rfl rfl ?_
        exact hbad (by simp [oo])
      · skip
        have o2 := inF h25
        refine GG.iload e_X11_note_28 4 rfl ?_
        refine GG.bipush (v := -20) e_X11_note_30 rfl ?_
        refine GG.bipush (v := 20) e_X11_note_32 rfl ?_
        refine GG.callS (d' := 0) (as := [.int _, .int _, .int _]) e_X11_note_34 ml_X11_51 mf_X11_in ms_X11_in rfl (by decide) (Nat.le_of_ble_eq_true rfl) rfl ?_
        refine s_X11_inO ?_
        refine GG.if_ne (tgt := 47) e_X11_note_37 rfl (fun h37 => ?_) (fun h37 => ?_)
        · skip
          have o3 := inF h37
          refine GG.aload_n e_X11_note_47 (i := 0) rfl 0 rfl ?_
          refine GG.getR (b := 64) e_X11_note_48 fl_X11_7 (sf_X11_0 i_X11_63) ?_
          refine GG.bipush (v := 48) e_X11_note_51 rfl ?_
          refine GG.ialoadV (k := 48) (v := nI T) e_X11_note_53 (sa_X11_0 i_X11_63) (rfl) (by omega) (Nat.le_of_ble_eq_true rfl) (hT) ?_
          refine GG.bipush (v := 6) e_X11_note_54 rfl ?_
          refine GG.icmp_ne (tgt := 66) e_X11_note_56 rfl (fun h56 => ?_) (fun h56 => ?_)
          · skip
            have e : ¬ T = 6 := fun z => h56 (by rw [z]; rfl)
            refine GG.bipush (v := 49) e_X11_note_66 rfl ?_
            refine GG.iconst (v := 4) e_X11_note_68 rfl ?_
            refine GG.aload_n e_X11_note_69 (i := 0) rfl 0 rfl ?_
            refine GG.getR (b := 64) e_X11_note_70 fl_X11_7 (sf_X11_0 i_X11_63) ?_
            refine GG.bipush (v := 48) e_X11_note_73 rfl ?_
            refine GG.ialoadV (k := 48) (v := nI T) e_X11_note_75 (sa_X11_0 i_X11_63) (rfl) (by omega) (Nat.le_of_ble_eq_true rfl) (hT) ?_
            refine GG.imul e_X11_note_76 ?_
            refine GG.iadd e_X11_note_77 ?_
            refine GG.top e4 ?_
            refine GG.istore e_X11_note_78 (Nat.le_of_ble_eq_true rfl) (ls' := [(5, .int _), (0, .ref _), (1, .int _), (2, .int _), (3, .int _), (4, .int _)]) rfl ?_
            refine GG.aload_n e_X11_note_80 (i := 0) rfl 1 rfl ?_
            refine GG.getR (b := 64) e_X11_note_81 fl_X11_7 (sf_X11_0 i_X11_63) ?_
            refine GG.iload e_X11_note_84 0 rfl ?_
            refine GG.iload_n e_X11_note_86 (i := 1) rfl 2 rfl ?_
            refine GG.iastoreE (k := 49 + 4 * T) e_X11_note_87 (sa_X11_0 i_X11_63) (rfl) (by omega) (Nat.le_of_ble_eq_true rfl) ?_
            refine GG.aload_n e_X11_note_88 (i := 0) rfl 1 rfl ?_
            refine GG.getR (b := 64) e_X11_note_89 fl_X11_7 (sf_X11_0 i_X11_63) ?_
            refine GG.iload e_X11_note_92 0 rfl ?_
            refine GG.iconst (v := 1) e_X11_note_94 rfl ?_
            refine GG.iadd e_X11_note_95 ?_
            refine GG.iload_n e_X11_note_96 (i := 2) rfl 3 rfl ?_
            refine GG.iastoreE (k := 49 + 4 * T + 1) e_X11_note_97 (sa_X11_0 i_X11_63) (nI_add (49 + 4 * T) 1) (by omega) (Nat.le_of_ble_eq_true rfl) ?_
            refine GG.aload_n e_X11_note_98 (i := 0) rfl 1 rfl ?_
            refine GG.getR (b := 64) e_X11_note_99 fl_X11_7 (sf_X11_0 i_X11_63) ?_
            refine GG.iload e_X11_note_102 0 rfl ?_
            refine GG.iconst (v := 2) e_X11_note_104 rfl ?_
            refine GG.iadd e_X11_note_105 ?_
            refine GG.iload_n e_X11_note_106 (i := 3) rfl 4 rfl ?_
            refine GG.iastoreE (k := 49 + 4 * T + 2) e_X11_note_107 (sa_X11_0 i_X11_63) (nI_add (49 + 4 * T) 2) (by omega) (Nat.le_of_ble_eq_true rfl) ?_
            refine GG.aload_n e_X11_note_108 (i := 0) rfl 1 rfl ?_
            refine GG.getR (b := 64) e_X11_note_109 fl_X11_7 (sf_X11_0 i_X11_63) ?_
            refine GG.iload e_X11_note_112 0 rfl ?_
            refine GG.iconst (v := 3) e_X11_note_114 rfl ?_
            refine GG.iadd e_X11_note_115 ?_
            refine GG.iload e_X11_note_116 5 rfl ?_
            refine GG.iastoreE (k := 49 + 4 * T + 3) e_X11_note_118 (sa_X11_0 i_X11_63) (nI_add (49 + 4 * T) 3) (by omega) (Nat.le_of_ble_eq_true rfl) ?_
            refine GG.aload_n e_X11_note_119 (i := 0) rfl 1 rfl ?_
            refine GG.getR (b := 64) e_X11_note_120 fl_X11_7 (sf_X11_0 i_X11_63) ?_
            refine GG.bipush (v := 48) e_X11_note_123 rfl ?_
            refine GG.dup2 e_X11_note_125 rfl rfl ?_
            refine GG.ialoadV (k := 48) (v := nI T) e_X11_note_126 (sa_X11_0 i_X11_63) (rfl) (by omega) (Nat.le_of_ble_eq_true rfl) (by rw [mrd_wr, if_neg (by omega), mrd_wr, if_neg (by omega), mrd_wr, if_neg (by omega), mrd_wr, if_neg (by omega), hT]) ?_
            refine GG.iconst (v := 1) e_X11_note_127 rfl ?_
            refine GG.iadd e_X11_note_128 ?_
            refine GG.top (nI_1 T) ?_
            refine GG.iastoreE (k := 48) e_X11_note_129 (sa_X11_0 i_X11_63) (rfl) (by omega) (Nat.le_of_ble_eq_true rfl) ?_
            refine GG.aload_n e_X11_note_130 (i := 0) rfl 1 rfl ?_
            refine GG.getR (b := 64) e_X11_note_131 fl_X11_7 (sf_X11_0 i_X11_63) ?_
            refine GG.bipush (v := 48) e_X11_note_134 rfl ?_
            refine GG.ialoadV (k := 48) (v := nI (T + 1)) e_X11_note_136 (sa_X11_0 i_X11_63) (rfl) (by omega) (Nat.le_of_ble_eq_true rfl) (by rw [mrd_wr, if_pos ⟨rfl, rfl⟩]) ?_
            refine GG.iret e_X11_note_137 rfl rfl ?_
            exact hok (by simp [o0, o1, o2, o3]) (by omega)
          · skip
            have e : T = 6 := (nI_eq (b := 6) (by omega) (by omega)).mp h56
            refine GG.aload_n e_X11_note_59 (i := 0) rfl 0 rfl ?_
            refine GG.bipush (v := -4) e_X11_note_60 rfl ?_
            refine GG.callV (d' := 0) (a := 63) (as := [.int _]) e_X11_note_62 ml_X11_55 mf_X11_refuse mv_X11_refuse (rc_X11 i_X11_63) rfl (by decide) (Nat.le_of_ble_eq_true rfl) rfl ?_
            refine s_X11_refF ?_
            refine GG.iret e_X11_note_65 rfl rfl ?_
            exact hfull (by simp [o0, o1, o2, o3]) e
        · skip
          have oo := inT h37
          refine GG.aload_n e_X11_note_40 (i := 0) rfl 0 rfl ?_
          refine GG.bipush (v := -2) e_X11_note_41 rfl ?_
          refine GG.callV (d' := 0) (a := 63) (as := [.int _]) e_X11_note_43 ml_X11_55 mf_X11_refuse mv_X11_refuse (rc_X11 i_X11_63) rfl (by decide) (Nat.le_of_ble_eq_true rfl) rfl ?_
          refine s_X11_refB ?_
          refine GG.iret e_X11_note_46 rfl rfl ?_
          exact hbad (by simp [oo])
theorem s_X11_mark (hR : MR μ P A) (hT : mrd μ 64 73 = nI T) (hT6 : T ≤ 6) (hbad : (!mIn i A || oB a (-20) 20 || oB c 0 99 || oB x (-20) 20) = true → Q (some (.int (-2))) (rRf μ 0)) (hfull : (!mIn i A || oB a (-20) 20 || oB c 0 99 || oB x (-20) 20) = false → T = 6 → Q (some (.int (-4))) (rRf μ 2))
    (hok : (!mIn i A || oB a (-20) 20 || oB c 0 99 || oB x (-20) 20) = false → T < 6 → Q (some (.int (nI (T + 1)))) (rAd4 μ 73 T i a c x)) : SPC 2 MX11_mark [.ref 63, .int i, .int a, .int c, .int x] μ Q := by
  have e4 : (74 : Int32) + 4 * nI T = nI (74 + 4 * T) := by rw [show (4 : Int32) = nI 4 from rfl, pk_mul, show (74 : Int32) = nI 74 from rfl, nI_add]
  refine SPC.of (by decide +kernel) (Nat.le_of_ble_eq_true rfl) (ls := [(0, .ref (63)), (1, .int (i)), (2, .int (a)), (3, .int (c)), (4, .int (x))]) rfl ?_
  refine GG.aload_n e_X11_mark_0 (i := 0) rfl 0 rfl ?_
  refine GG.iload_n e_X11_mark_1 (i := 1) rfl 1 rfl ?_
  refine GG.callV (d' := 1) (a := 63) (as := [.int _]) e_X11_mark_2 ml_X11_162 mf_X11_isAunt mv_X11_isAunt (rc_X11 i_X11_63) rfl (by decide) (Nat.le_of_ble_eq_true rfl) rfl ?_
  refine s_X11_isAunt hR ?_
  refine GG.if_eq (tgt := 41) e_X11_mark_5 rfl (fun h5 => ?_) (fun h5 => ?_)
  · skip
    have oo := (bI_0 _).mp h5
    refine GG.aload_n e_X11_mark_41 (i := 0) rfl 0 rfl ?_
    refine GG.bipush (v := -2) e_X11_mark_42 rfl ?_
    refine GG.callV (d' := 0) (a := 63) (as := [.int _]) e_X11_mark_44 ml_X11_55 mf_X11_refuse mv_X11_refuse (rc_X11 i_X11_63) rfl (by decide) (Nat.le_of_ble_eq_true rfl) rfl ?_
    refine s_X11_refB ?_
    refine GG.iret e_X11_mark_47 rfl rfl ?_
    exact hbad (by simp [oo])
  · skip
    have o0 := (bI_n0 _).mp h5
    refine GG.iload_n e_X11_mark_8 (i := 2) rfl 2 rfl ?_
    refine GG.bipush (v := -20) e_X11_mark_9 rfl ?_
    refine GG.bipush (v := 20) e_X11_mark_11 rfl ?_
    refine GG.callS (d' := 0) (as := [.int _, .int _, .int _]) e_X11_mark_13 ml_X11_51 mf_X11_in ms_X11_in rfl (by decide) (Nat.le_of_ble_eq_true rfl) rfl ?_
    refine s_X11_inO ?_
    refine GG.if_eq (tgt := 41) e_X11_mark_16 rfl (fun h16 => ?_) (fun h16 => ?_)
    · skip
      have oo := inT h16
      refine GG.aload_n e_X11_mark_41 (i := 0) rfl 0 rfl ?_
      refine GG.bipush (v := -2) e_X11_mark_42 rfl ?_
      refine GG.callV (d' := 0) (a := 63) (as := [.int _]) e_X11_mark_44 ml_X11_55 mf_X11_refuse mv_X11_refuse (rc_X11 i_X11_63) rfl (by decide) (Nat.le_of_ble_eq_true rfl) rfl ?_
      refine s_X11_refB ?_
      refine GG.iret e_X11_mark_47 rfl rfl ?_
      exact hbad (by simp [oo])
    · skip
      have o1 := inF h16
      refine GG.iload_n e_X11_mark_19 (i := 3) rfl 3 rfl ?_
      refine GG.iconst (v := 0) e_X11_mark_20 rfl ?_
      refine GG.bipush (v := 99) e_X11_mark_21 rfl ?_
      refine GG.callS (d' := 0) (as := [.int _, .int _, .int _]) e_X11_mark_23 ml_X11_51 mf_X11_in ms_X11_in rfl (by decide) (Nat.le_of_ble_eq_true rfl) rfl ?_
      refine s_X11_inO ?_
      refine GG.if_eq (tgt := 41) e_X11_mark_26 rfl (fun h26 => ?_) (fun h26 => ?_)
      · skip
        have oo := inT h26
        refine GG.aload_n e_X11_mark_41 (i := 0) rfl 0 rfl ?_
        refine GG.bipush (v := -2) e_X11_mark_42 rfl ?_
        refine GG.callV (d' := 0) (a := 63) (as := [.int _]) e_X11_mark_44 ml_X11_55 mf_X11_refuse mv_X11_refuse (rc_X11 i_X11_63) rfl (by decide) (Nat.le_of_ble_eq_true rfl) rfl ?_
        refine s_X11_refB ?_
        refine GG.iret e_X11_mark_47 rfl rfl ?_
        exact hbad (by simp [oo])
      · skip
        have o2 := inF h26
        refine GG.iload e_X11_mark_29 4 rfl ?_
        refine GG.bipush (v := -20) e_X11_mark_31 rfl ?_
        refine GG.bipush (v := 20) e_X11_mark_33 rfl ?_
        refine GG.callS (d' := 0) (as := [.int _, .int _, .int _]) e_X11_mark_35 ml_X11_51 mf_X11_in ms_X11_in rfl (by decide) (Nat.le_of_ble_eq_true rfl) rfl ?_
        refine s_X11_inO ?_
        refine GG.if_ne (tgt := 48) e_X11_mark_38 rfl (fun h38 => ?_) (fun h38 => ?_)
        · skip
          have o3 := inF h38
          refine GG.aload_n e_X11_mark_48 (i := 0) rfl 0 rfl ?_
          refine GG.getR (b := 64) e_X11_mark_49 fl_X11_7 (sf_X11_0 i_X11_63) ?_
          refine GG.bipush (v := 73) e_X11_mark_52 rfl ?_
          refine GG.ialoadV (k := 73) (v := nI T) e_X11_mark_54 (sa_X11_0 i_X11_63) (rfl) (by omega) (Nat.le_of_ble_eq_true rfl) (hT) ?_
          refine GG.bipush (v := 6) e_X11_mark_55 rfl ?_
          refine GG.icmp_ne (tgt := 67) e_X11_mark_57 rfl (fun h57 => ?_) (fun h57 => ?_)
          · skip
            have e : ¬ T = 6 := fun z => h57 (by rw [z]; rfl)
            refine GG.bipush (v := 74) e_X11_mark_67 rfl ?_
            refine GG.iconst (v := 4) e_X11_mark_69 rfl ?_
            refine GG.aload_n e_X11_mark_70 (i := 0) rfl 0 rfl ?_
            refine GG.getR (b := 64) e_X11_mark_71 fl_X11_7 (sf_X11_0 i_X11_63) ?_
            refine GG.bipush (v := 73) e_X11_mark_74 rfl ?_
            refine GG.ialoadV (k := 73) (v := nI T) e_X11_mark_76 (sa_X11_0 i_X11_63) (rfl) (by omega) (Nat.le_of_ble_eq_true rfl) (hT) ?_
            refine GG.imul e_X11_mark_77 ?_
            refine GG.iadd e_X11_mark_78 ?_
            refine GG.top e4 ?_
            refine GG.istore e_X11_mark_79 (Nat.le_of_ble_eq_true rfl) (ls' := [(5, .int _), (0, .ref _), (1, .int _), (2, .int _), (3, .int _), (4, .int _)]) rfl ?_
            refine GG.aload_n e_X11_mark_81 (i := 0) rfl 1 rfl ?_
            refine GG.getR (b := 64) e_X11_mark_82 fl_X11_7 (sf_X11_0 i_X11_63) ?_
            refine GG.iload e_X11_mark_85 0 rfl ?_
            refine GG.iload_n e_X11_mark_87 (i := 1) rfl 2 rfl ?_
            refine GG.iastoreE (k := 74 + 4 * T) e_X11_mark_88 (sa_X11_0 i_X11_63) (rfl) (by omega) (Nat.le_of_ble_eq_true rfl) ?_
            refine GG.aload_n e_X11_mark_89 (i := 0) rfl 1 rfl ?_
            refine GG.getR (b := 64) e_X11_mark_90 fl_X11_7 (sf_X11_0 i_X11_63) ?_
            refine GG.iload e_X11_mark_93 0 rfl ?_
            refine GG.iconst (v := 1) e_X11_mark_95 rfl ?_
            refine GG.iadd e_X11_mark_96 ?_
            refine GG.iload_n e_X11_mark_97 (i := 2) rfl 3 rfl ?_
            refine GG.iastoreE (k := 74 + 4 * T + 1) e_X11_mark_98 (sa_X11_0 i_X11_63) (nI_add (74 + 4 * T) 1) (by omega) (Nat.le_of_ble_eq_true rfl) ?_
            refine GG.aload_n e_X11_mark_99 (i := 0) rfl 1 rfl ?_
            refine GG.getR (b := 64) e_X11_mark_100 fl_X11_7 (sf_X11_0 i_X11_63) ?_
            refine GG.iload e_X11_mark_103 0 rfl ?_
            refine GG.iconst (v := 2) e_X11_mark_105 rfl ?_
            refine GG.iadd e_X11_mark_106 ?_
            refine GG.iload_n e_X11_mark_107 (i := 3) rfl 4 rfl ?_
            refine GG.iastoreE (k := 74 + 4 * T + 2) e_X11_mark_108 (sa_X11_0 i_X11_63) (nI_add (74 + 4 * T) 2) (by omega) (Nat.le_of_ble_eq_true rfl) ?_
            refine GG.aload_n e_X11_mark_109 (i := 0) rfl 1 rfl ?_
            refine GG.getR (b := 64) e_X11_mark_110 fl_X11_7 (sf_X11_0 i_X11_63) ?_
            refine GG.iload e_X11_mark_113 0 rfl ?_
            refine GG.iconst (v := 3) e_X11_mark_115 rfl ?_
            refine GG.iadd e_X11_mark_116 ?_
            refine GG.iload e_X11_mark_117 5 rfl ?_
            refine GG.iastoreE (k := 74 + 4 * T + 3) e_X11_mark_119 (sa_X11_0 i_X11_63) (nI_add (74 + 4 * T) 3) (by omega) (Nat.le_of_ble_eq_true rfl) ?_
            refine GG.aload_n e_X11_mark_120 (i := 0) rfl 1 rfl ?_
            refine GG.getR (b := 64) e_X11_mark_121 fl_X11_7 (sf_X11_0 i_X11_63) ?_
            refine GG.bipush (v := 73) e_X11_mark_124 rfl ?_
            refine GG.dup2 e_X11_mark_126 rfl rfl ?_
            refine GG.ialoadV (k := 73) (v := nI T) e_X11_mark_127 (sa_X11_0 i_X11_63) (rfl) (by omega) (Nat.le_of_ble_eq_true rfl) (by rw [mrd_wr, if_neg (by omega), mrd_wr, if_neg (by omega), mrd_wr, if_neg (by omega), mrd_wr, if_neg (by omega), hT]) ?_
            refine GG.iconst (v := 1) e_X11_mark_128 rfl ?_
            refine GG.iadd e_X11_mark_129 ?_
            refine GG.top (nI_1 T) ?_
            refine GG.iastoreE (k := 73) e_X11_mark_130 (sa_X11_0 i_X11_63) (rfl) (by omega) (Nat.le_of_ble_eq_true rfl) ?_
            refine GG.aload_n e_X11_mark_131 (i := 0) rfl 1 rfl ?_
            refine GG.getR (b := 64) e_X11_mark_132 fl_X11_7 (sf_X11_0 i_X11_63) ?_
            refine GG.bipush (v := 73) e_X11_mark_135 rfl ?_
            refine GG.ialoadV (k := 73) (v := nI (T + 1)) e_X11_mark_137 (sa_X11_0 i_X11_63) (rfl) (by omega) (Nat.le_of_ble_eq_true rfl) (by rw [mrd_wr, if_pos ⟨rfl, rfl⟩]) ?_
            refine GG.iret e_X11_mark_138 rfl rfl ?_
            exact hok (by simp [o0, o1, o2, o3]) (by omega)
          · skip
            have e : T = 6 := (nI_eq (b := 6) (by omega) (by omega)).mp h57
            refine GG.aload_n e_X11_mark_60 (i := 0) rfl 0 rfl ?_
            refine GG.bipush (v := -4) e_X11_mark_61 rfl ?_
            refine GG.callV (d' := 0) (a := 63) (as := [.int _]) e_X11_mark_63 ml_X11_55 mf_X11_refuse mv_X11_refuse (rc_X11 i_X11_63) rfl (by decide) (Nat.le_of_ble_eq_true rfl) rfl ?_
            refine s_X11_refF ?_
            refine GG.iret e_X11_mark_66 rfl rfl ?_
            exact hfull (by simp [o0, o1, o2, o3]) e
        · skip
          have oo := inT h38
          refine GG.aload_n e_X11_mark_41 (i := 0) rfl 0 rfl ?_
          refine GG.bipush (v := -2) e_X11_mark_42 rfl ?_
          refine GG.callV (d' := 0) (a := 63) (as := [.int _]) e_X11_mark_44 ml_X11_55 mf_X11_refuse mv_X11_refuse (rc_X11 i_X11_63) rfl (by decide) (Nat.le_of_ble_eq_true rfl) rfl ?_
          refine s_X11_refB ?_
          refine GG.iret e_X11_mark_47 rfl rfl ?_
          exact hbad (by simp [oo])
theorem oB_02 {z : Int32} (h : oB z 0 2 = false) : z = 0 ∨ z = 1 ∨ z = 2 := by
  obtain ⟨n, rfl, h1, h2⟩ := oB_n (A := 0) (B := 2) h rfl rfl (by omega) (by omega)
  have : n = 0 ∨ n = 1 ∨ n = 2 := by omega
  rcases this with rfl | rfl | rfl
  · exact Or.inl rfl
  · exact Or.inr (Or.inl rfl)
  · exact Or.inr (Or.inr rfl)
theorem s_X11_forget (g0 : z = 0 → Q (some (.int (mrd μ 64 35))) (mwr μ 64 35 0)) (g1 : z = 1 → Q (some (.int (mrd μ 64 48))) (mwr μ 64 48 0)) (g2 : z = 2 → Q (some (.int (mrd μ 64 73))) (mwr μ 64 73 0))
    (hbad : oB z 0 2 = true → Q (some (.int (-2))) (rRf μ 0)) : SPC 1 MX11_forget [.ref 63, .int z] μ Q := by
  have jA : z = 0 → GG 1 MX11_forget 37 [(0, .ref 63), (1, .int z)] [.int 35] μ Q := by
    intro hz
    refine GG.istore_n e_X11_forget_37 (i := 2) rfl (Nat.le_of_ble_eq_true rfl) (ls' := [(2, .int _), (0, .ref _), (1, .int _)]) rfl ?_
    refine GG.aload_n e_X11_forget_38 (i := 0) rfl 1 rfl ?_
    refine GG.getR (b := 64) e_X11_forget_39 fl_X11_7 (sf_X11_0 i_X11_63) ?_
    refine GG.iload_n e_X11_forget_42 (i := 2) rfl 0 rfl ?_
    refine GG.ialoadE (k := 35) e_X11_forget_43 (sa_X11_0 i_X11_63) (rfl) (by omega) (Nat.le_of_ble_eq_true rfl) ?_
    refine GG.istore_n e_X11_forget_44 (i := 3) rfl (Nat.le_of_ble_eq_true rfl) (ls' := [(3, .int _), (2, .int _), (0, .ref _), (1, .int _)]) rfl ?_
    refine GG.aload_n e_X11_forget_45 (i := 0) rfl 2 rfl ?_
    refine GG.getR (b := 64) e_X11_forget_46 fl_X11_7 (sf_X11_0 i_X11_63) ?_
    refine GG.iload_n e_X11_forget_49 (i := 2) rfl 1 rfl ?_
    refine GG.iconst (v := 0) e_X11_forget_50 rfl ?_
    refine GG.iastoreE (k := 35) e_X11_forget_51 (sa_X11_0 i_X11_63) (rfl) (by omega) (Nat.le_of_ble_eq_true rfl) ?_
    refine GG.iload_n e_X11_forget_52 (i := 3) rfl 0 rfl ?_
    refine GG.iret e_X11_forget_53 rfl rfl ?_
    exact g0 hz
  have jB : z = 1 → GG 1 MX11_forget 37 [(0, .ref 63), (1, .int z)] [.int 48] μ Q := by
    intro hz
    refine GG.istore_n e_X11_forget_37 (i := 2) rfl (Nat.le_of_ble_eq_true rfl) (ls' := [(2, .int _), (0, .ref _), (1, .int _)]) rfl ?_
    refine GG.aload_n e_X11_forget_38 (i := 0) rfl 1 rfl ?_
    refine GG.getR (b := 64) e_X11_forget_39 fl_X11_7 (sf_X11_0 i_X11_63) ?_
    refine GG.iload_n e_X11_forget_42 (i := 2) rfl 0 rfl ?_
    refine GG.ialoadE (k := 48) e_X11_forget_43 (sa_X11_0 i_X11_63) (rfl) (by omega) (Nat.le_of_ble_eq_true rfl) ?_
    refine GG.istore_n e_X11_forget_44 (i := 3) rfl (Nat.le_of_ble_eq_true rfl) (ls' := [(3, .int _), (2, .int _), (0, .ref _), (1, .int _)]) rfl ?_
    refine GG.aload_n e_X11_forget_45 (i := 0) rfl 2 rfl ?_
    refine GG.getR (b := 64) e_X11_forget_46 fl_X11_7 (sf_X11_0 i_X11_63) ?_
    refine GG.iload_n e_X11_forget_49 (i := 2) rfl 1 rfl ?_
    refine GG.iconst (v := 0) e_X11_forget_50 rfl ?_
    refine GG.iastoreE (k := 48) e_X11_forget_51 (sa_X11_0 i_X11_63) (rfl) (by omega) (Nat.le_of_ble_eq_true rfl) ?_
    refine GG.iload_n e_X11_forget_52 (i := 3) rfl 0 rfl ?_
    refine GG.iret e_X11_forget_53 rfl rfl ?_
    exact g1 hz
  have jC : z = 2 → GG 1 MX11_forget 37 [(0, .ref 63), (1, .int z)] [.int 73] μ Q := by
    intro hz
    refine GG.istore_n e_X11_forget_37 (i := 2) rfl (Nat.le_of_ble_eq_true rfl) (ls' := [(2, .int _), (0, .ref _), (1, .int _)]) rfl ?_
    refine GG.aload_n e_X11_forget_38 (i := 0) rfl 1 rfl ?_
    refine GG.getR (b := 64) e_X11_forget_39 fl_X11_7 (sf_X11_0 i_X11_63) ?_
    refine GG.iload_n e_X11_forget_42 (i := 2) rfl 0 rfl ?_
    refine GG.ialoadE (k := 73) e_X11_forget_43 (sa_X11_0 i_X11_63) (rfl) (by omega) (Nat.le_of_ble_eq_true rfl) ?_
    refine GG.istore_n e_X11_forget_44 (i := 3) rfl (Nat.le_of_ble_eq_true rfl) (ls' := [(3, .int _), (2, .int _), (0, .ref _), (1, .int _)]) rfl ?_
    refine GG.aload_n e_X11_forget_45 (i := 0) rfl 2 rfl ?_
    refine GG.getR (b := 64) e_X11_forget_46 fl_X11_7 (sf_X11_0 i_X11_63) ?_
    refine GG.iload_n e_X11_forget_49 (i := 2) rfl 1 rfl ?_
    refine GG.iconst (v := 0) e_X11_forget_50 rfl ?_
    refine GG.iastoreE (k := 73) e_X11_forget_51 (sa_X11_0 i_X11_63) (rfl) (by omega) (Nat.le_of_ble_eq_true rfl) ?_
    refine GG.iload_n e_X11_forget_52 (i := 3) rfl 0 rfl ?_
    refine GG.iret e_X11_forget_53 rfl rfl ?_
    exact g2 hz
  refine SPC.of (by decide +kernel) (Nat.le_of_ble_eq_true rfl) (ls := [(0, .ref (63)), (1, .int (z))]) rfl ?_
  refine GG.iload_n e_X11_forget_0 (i := 1) rfl 1 rfl ?_
  refine GG.iconst (v := 0) e_X11_forget_1 rfl ?_
  refine GG.iconst (v := 2) e_X11_forget_2 rfl ?_
  refine GG.callS (d' := 0) (as := [.int _, .int _, .int _]) e_X11_forget_3 ml_X11_51 mf_X11_in ms_X11_in rfl (by decide) (Nat.le_of_ble_eq_true rfl) rfl ?_
  refine s_X11_inO ?_
  refine GG.if_ne (tgt := 16) e_X11_forget_6 rfl (fun h6 => ?_) (fun h6 => ?_)
  · skip
    have o1 := oB_02 (inF h6)
    refine GG.iload_n e_X11_forget_16 (i := 1) rfl 1 rfl ?_
    refine GG.if_ne (tgt := 25) e_X11_forget_17 rfl (fun h17 => ?_) (fun h17 => ?_)
    · skip
      refine GG.iload_n e_X11_forget_25 (i := 1) rfl 1 rfl ?_
      refine GG.iconst (v := 1) e_X11_forget_26 rfl ?_
      refine GG.icmp_ne (tgt := 35) e_X11_forget_27 rfl (fun h27 => ?_) (fun h27 => ?_)
      · skip
        refine GG.bipush (v := 73) e_X11_forget_35 rfl ?_
        first | exact jA h17 | exact jB h27 | exact jC ((o1.resolve_left h17).resolve_left h27)
      · skip
        refine GG.bipush (v := 48) e_X11_forget_30 rfl ?_
        refine GG.goto (tgt := 37) e_X11_forget_32 rfl ?_
        first | exact jA h17 | exact jB h27 | exact jC ((o1.resolve_left h17).resolve_left h27)
    · skip
      refine GG.bipush (v := 35) e_X11_forget_20 rfl ?_
      refine GG.goto (tgt := 37) e_X11_forget_22 rfl ?_
      first | exact jA h17 | exact jB h27 | exact jC ((o1.resolve_left h17).resolve_left h27)
  · skip
    have oo := inT h6
    refine GG.aload_n e_X11_forget_9 (i := 0) rfl 0 rfl ?_
    refine GG.bipush (v := -2) e_X11_forget_10 rfl ?_
    refine GG.callV (d' := 0) (a := 63) (as := [.int _]) e_X11_forget_12 ml_X11_55 mf_X11_refuse mv_X11_refuse (rc_X11 i_X11_63) rfl (by decide) (Nat.le_of_ble_eq_true rfl) rfl ?_
    refine s_X11_refB ?_
    refine GG.iret e_X11_forget_15 rfl rfl ?_
    exact hbad oo
end S38
