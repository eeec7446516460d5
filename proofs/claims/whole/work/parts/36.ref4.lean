/-! THE REFERENCE: its face, second part -/
def rSt (μ : gM) (B A P : Nat) (w c : Int32) : Int32 := vSnd (rV μ B) (mrd μ 64 (B + 7)) A w P c
theorem gL9.st {μ ν : gM} {B A P : Nat} {w c : Int32} (h : gL9 μ ν) : rSt ν B A P w c = rSt μ B A P w c := by
  unfold rSt
  rw [h.rV, h.row]
theorem TT.st {ν : gM} {V : Nat → Nat → Int32} {P A : Nat} {th w c : Int32} (h : TT ν V P A th) : rSt ν 537 A P w c = vSnd V th A w P c := by
  unfold rSt
  rw [h.2]
  exact vSnd_c h.1
/-- is it so heard: a sounding q of the row -/
def rHs (μ : gM) (V : Nat → Nat → Int32) (th : Int32) (A P : Nat) (w : Int32) (q : Nat) : Bool := decide (0 < vSnd V th A w P (mrd μ 64 (36 + 2 * q))) == decide (mrd μ 64 (37 + 2 * q) = 1)
theorem uV_uV (V : Nat → Nat → Int32) (k : Nat) (a b : Int32) : uV (uV V k a) k b = uV V k b := by
  funext f j
  unfold uV
  split <;> simp_all
theorem mCnt_16 : ∀ n, n < 16 → mCnt (nI n) = nI (pcN n) := by decide +kernel
def rBst (g : Nat → Int32) : Nat → Int32 × Int32
  | 0 => (-1, 99)
  | n + 1 => if g n < (rBst g n).2 then (nI n, g n) else rBst g n
def rPt (s : Int32) (f : Nat → Bool) : Int32 := if mCnt s - mSum (fun k => if f k = true then 1 else 0) 27 < mSum (fun k => if f k = true then 1 else 0) 27 then mSum (fun k => if f k = true then 1 else 0) 27 else mCnt s - mSum (fun k => if f k = true then 1 else 0) 27
theorem mAll_stop {f : Nat → Bool} {j m : Nat} (h : mAll f j = false) (hm : j ≤ m) : mAll f m = false := by
  induction m with
  | zero => have : j = 0 := by omega
            subst this; exact h
  | succ m ih =>
    by_cases e : j = m + 1
    · subst e; exact h
    · rw [mAll, ih (by omega), Bool.false_and]
section S36
variable {μ : gM} {Q : Option Value → gM → Prop} {P A U L T N M B k : Nat} {i c a w z v x y o : Int32}
theorem s_X11_soundByS (hR : MR μ P A) (hB : B ≤ 537) (hQ : ∀ ν, gL9 μ ν → Q (some (.int (rSt μ B A P w c))) ν) : SPC 3 MX11_soundBy [.ref 63, .int (nI B), .int w, .int c, .int (-1)] μ Q :=
  s_X11_soundBy hR hB (fun ν hν => by rw [rSnd_v hR.2.1]; exact hQ ν hν)
theorem s_X11_soundAtS (hR : MR μ P A) (hB : B ≤ 537) (hQ : ∀ ν, gL9 μ ν → Q (some (.int (rSt μ B A P (mrd μ 64 10) c))) ν) : SPC 4 MX11_soundAt [.ref 63, .int (nI B), .int c] μ Q := s_X11_soundAt hR hB hQ
theorem s_X11_isStill {f : Nat → Bool} (hR : MR μ P A) (hM : M < 2 ^ 31) (hf : ∀ d, d < M → f d = decide (rSt μ 537 A P (mrd μ 64 10) (mrd μ 64 9 + nI d) = 0)) (hQ : ∀ ν, gL9 μ ν → Q (some (.int (bI (mAll f M)))) ν) : SPC 5 MX11_isStill [.ref 63, .int (nI M)] μ Q := by
  have lp : ∀ n j ν, M - j < n → j ≤ M → gL9 μ ν → GG 5 MX11_isStill 4 [(3, .int (nI j)), (2, .int (bI (mAll f j))), (0, .ref 63), (1, .int (nI M))] [] ν Q := by
    intro n
    induction n with
    | zero => intro j ν h; omega
    | succ n ih =>
      intro j ν hn hj hν
      refine GG.iload_n e_X11_isStill_4 (i := 3) rfl 0 rfl ?_
      refine GG.iload_n e_X11_isStill_5 (i := 1) rfl 3 rfl ?_
      refine GG.icmp_ge (tgt := 44) e_X11_isStill_6 rfl (fun h6 => ?_) (fun h6 => ?_)
      · skip
        have e : j = M := by have := nle h6 (by omega) (by omega); omega
        subst e
        refine GG.iload_n e_X11_isStill_44 (i := 2) rfl 1 rfl ?_
        refine GG.zret e_X11_isStill_45 rfl (gZ_n (bI_z _)) rfl ?_
        refine qI (hQ ν hν) ?_
        first | rfl | rw [q, mAll_stop q hj]
      · skip
        have e := nnle h6 (by omega) (by omega)
        refine GG.iload_n e_X11_isStill_9 (i := 2) rfl 1 rfl ?_
        refine GG.if_eq (tgt := 44) e_X11_isStill_10 rfl (fun h10 => ?_) (fun h10 => ?_)
        · skip
          have q := (bI_0 _).mp h10
          refine GG.iload_n e_X11_isStill_44 (i := 2) rfl 1 rfl ?_
          refine GG.zret e_X11_isStill_45 rfl (gZ_n (bI_z _)) rfl ?_
          refine qI (hQ ν hν) ?_
          first | rfl | rw [q, mAll_stop q hj]
        · skip
          have q := (bI_n0 _).mp h10
          refine GG.aload_n e_X11_isStill_13 (i := 0) rfl 2 rfl ?_
          refine GG.sipush (v := 537) e_X11_isStill_14 rfl ?_
          refine GG.aload_n e_X11_isStill_17 (i := 0) rfl 2 rfl ?_
          refine GG.getR (b := 64) e_X11_isStill_18 fl_X11_7 (sf_X11_0 i_X11_63) ?_
          refine GG.bipush (v := 9) e_X11_isStill_21 rfl ?_
          refine GG.ialoadV (k := 9) (v := mrd μ 64 9) e_X11_isStill_23 (sa_X11_0 i_X11_63) (rfl) (by omega) (Nat.le_of_ble_eq_true rfl) (hν.row 9) ?_
          refine GG.iload_n e_X11_isStill_24 (i := 3) rfl 0 rfl ?_
          refine GG.iadd e_X11_isStill_25 ?_
          refine GG.callV (d' := 4) (a := 63) (as := [.int _, .int _]) e_X11_isStill_26 ml_X11_153 mf_X11_soundAt mv_X11_soundAt (rc_X11 i_X11_63) rfl (by decide) (Nat.le_of_ble_eq_true rfl) rfl ?_
          refine s_X11_soundAtS (B := 537) (hν.rl hR) (by omega) (fun ν2 hν2 => ?_)
          rw [hν.st, hν.row]
          refine GG.if_ne (tgt := 36) e_X11_isStill_29 rfl (fun h29 => ?_) (fun h29 => ?_)
          · skip
            refine GG.iconst (v := 0) e_X11_isStill_36 rfl ?_
            refine GG.istore_n e_X11_isStill_37 (i := 2) rfl (Nat.le_of_ble_eq_true rfl) (ls' := [(2, .int _), (3, .int _), (0, .ref _), (1, .int _)]) rfl ?_
            refine GG.iinc e_X11_isStill_38 1 rfl (v := _) (by first | exact nI_s _ | exact nI_d _ | rfl) (Nat.le_of_ble_eq_true rfl) (ls' := [(3, .int _), (2, .int _), (0, .ref _), (1, .int _)]) rfl ?_
            refine GG.goto (tgt := 4) e_X11_isStill_41 rfl ?_
            have q2 := hf j e
            have e3 : bI (mAll f (j + 1)) = bI (f j) := by rw [mAll, q, Bool.true_and]
            have h := ih (j + 1) ν2 (by omega) (by omega) (hν.tr hν2)
            rw [e3, q2] at h
            first | (rw [decide_eq_true h29] at h; exact h) | (rw [decide_eq_false h29] at h; exact h)
          · skip
            refine GG.iconst (v := 1) e_X11_isStill_32 rfl ?_
            refine GG.goto (tgt := 37) e_X11_isStill_33 rfl ?_
            refine GG.istore_n e_X11_isStill_37 (i := 2) rfl (Nat.le_of_ble_eq_true rfl) (ls' := [(2, .int _), (3, .int _), (0, .ref _), (1, .int _)]) rfl ?_
            refine GG.iinc e_X11_isStill_38 1 rfl (v := _) (by first | exact nI_s _ | exact nI_d _ | rfl) (Nat.le_of_ble_eq_true rfl) (ls' := [(3, .int _), (2, .int _), (0, .ref _), (1, .int _)]) rfl ?_
            refine GG.goto (tgt := 4) e_X11_isStill_41 rfl ?_
            have q2 := hf j e
            have e3 : bI (mAll f (j + 1)) = bI (f j) := by rw [mAll, q, Bool.true_and]
            have h := ih (j + 1) ν2 (by omega) (by omega) (hν.tr hν2)
            rw [e3, q2] at h
            first | (rw [decide_eq_true h29] at h; exact h) | (rw [decide_eq_false h29] at h; exact h)
  refine SPC.of (by decide +kernel) (Nat.le_of_ble_eq_true rfl) (ls := [(0, .ref (63)), (1, .int (nI M))]) rfl ?_
  refine GG.iconst (v := 1) e_X11_isStill_0 rfl ?_
  refine GG.istore_n e_X11_isStill_1 (i := 2) rfl (Nat.le_of_ble_eq_true rfl) (ls' := [(2, .int _), (0, .ref _), (1, .int _)]) rfl ?_
  refine GG.iconst (v := 0) e_X11_isStill_2 rfl ?_
  refine GG.istore_n e_X11_isStill_3 (i := 3) rfl (Nat.le_of_ble_eq_true rfl) (ls' := [(3, .int _), (2, .int _), (0, .ref _), (1, .int _)]) rfl ?_
  exact lp (M + 1) 0 μ (by omega) (by omega) (gL9.rf μ)
theorem s_X11_still {f : Nat → Nat → Bool} (hR : MR μ P A) (hf : ∀ m j, m ≤ 60 → j < 2 ^ A → (f m j = true ↔ ∀ d, d < m → vSnd (rV μ 0) (nI j) A (mrd μ 64 10) P (mrd μ 64 9 + nI d) = 0)) (hbad : oB z 1 60 = true → Q (some (.int (-2))) (rRf μ 0))
    (hok : ∀ n, z = nI n → 1 ≤ n → n ≤ 60 → ∀ ν, gSm μ ν → Q (some (.int (mStl (f n) (2 ^ A)))) ν) : SPC 6 MX11_still [.ref 63, .int z] μ Q := by
  have hA4 := hR.2.2.2
  have hP7 := hR.2.1
  have hA16 : 2 ^ A ≤ 16 := Nat.pow_le_pow_right (by omega) hA4
  have shl : ∀ n, n < 5 → (1 : Int32) <<< (nI n &&& 31) = nI (2 ^ n) := by decide +kernel
  have lp : ∀ m, m ≤ 60 → (∀ ν, gSm μ ν → Q (some (.int (mStl (f m) (2 ^ A)))) ν) → ∀ n j b ν th, 2 ^ A - j < n → j ≤ 2 ^ A → gTr μ ν → TT ν (rV μ 0) P A th → b = mStl (f m) j → (b = -1 ∨ ∃ q, q < 16 ∧ b = nI q) → GG 6 MX11_still 25 [(3, .int (nI j)), (2, .int b), (0, .ref 63), (1, .int (nI m))] [] ν Q := by
    intro m hm hq n
    induction n with
    | zero => intro j b ν th h; omega
    | succ n ih =>
      intro j b ν th hn hj hν hT hb hbq
      have nx : ∀ b' ν', gTr μ ν' → TT ν' (rV μ 0) P A (nI j) → j < 2 ^ A → b' = mStl (f m) (j + 1) → GG 6 MX11_still 88 [(3, .int (nI j)), (2, .int b), (0, .ref 63), (1, .int (nI m))] [.int b'] ν' Q := by
        intro b' ν' hν' hT' hj2 hb'
        refine GG.istore_n e_X11_still_88 (i := 2) rfl (Nat.le_of_ble_eq_true rfl) (ls' := [(2, .int _), (3, .int _), (0, .ref _), (1, .int _)]) rfl ?_
        refine GG.iinc e_X11_still_89 1 rfl (v := _) (by first | exact nI_s _ | exact nI_d _ | rfl) (Nat.le_of_ble_eq_true rfl) (ls' := [(3, .int _), (2, .int _), (0, .ref _), (1, .int _)]) rfl ?_
        refine GG.goto (tgt := 25) e_X11_still_92 rfl ?_
        refine ih (j + 1) b' ν' _ (by omega) (by omega) hν' hT' hb' ?_
        rw [hb', mStl, ← hb]
        split
        · exact Or.inr ⟨j, by omega, rfl⟩
        · exact hbq
      have fj : ∀ ν', gTr μ ν' → TT ν' (rV μ 0) P A (nI j) → j < 2 ^ A → ∀ d, rSt ν' 537 A P (mrd ν' 64 10) (mrd ν' 64 9 + nI d) = vSnd (rV μ 0) (nI j) A (mrd μ 64 10) P (mrd μ 64 9 + nI d) := by
        intro ν' h1 h2 h3 d
        rw [h2.st, h1.row (by omega), h1.row (by omega)]
      have still : ∀ ν', gTr μ ν' → TT ν' (rV μ 0) P A (nI j) → j < 2 ^ A → (b = -1 ∨ mBc (nI j) < mBc b) → GG 6 MX11_still 68 [(3, .int (nI j)), (2, .int b), (0, .ref 63), (1, .int (nI m))] [.int 1] ν' Q := by
        intro ν' hν' hT' hj2 hfew
        refine GG.istore e_X11_still_68 (Nat.le_of_ble_eq_true rfl) (ls' := [(4, .int _), (3, .int _), (2, .int _), (0, .ref _), (1, .int _)]) rfl ?_
        refine GG.iload e_X11_still_70 0 rfl ?_
        refine GG.if_eq (tgt := 87) e_X11_still_72 rfl (fun h72 => absurd h72 (by decide)) (fun h72 => ?_)
        refine GG.aload_n e_X11_still_75 (i := 0) rfl 3 rfl ?_
        refine GG.iload_n e_X11_still_76 (i := 1) rfl 4 rfl ?_
        refine GG.callV (d' := 5) (a := 63) (as := [.int _]) e_X11_still_77 ml_X11_174 mf_X11_isStill mv_X11_isStill (rc_X11 i_X11_63) rfl (by decide) (Nat.le_of_ble_eq_true rfl) rfl ?_
        refine s_X11_isStill (M := m) (f := fun d => decide (vSnd (rV μ 0) (nI j) A (mrd μ 64 10) P (mrd μ 64 9 + nI d) = 0)) (hν'.mr hR) (by omega) (fun d _ => by rw [fj ν' hν' hT' hj2]) (fun ν2 hν2 => ?_)
        refine GG.if_eq (tgt := 87) e_X11_still_80 rfl (fun h80 => ?_) (fun h80 => ?_)
        · skip
          have g := (bI_0 _).mp h80
          have g2 : ¬ f m j = true := by
            intro z
            have z2 := (hf m j hm hj2).mp z
            rw [mAll_iff.mpr (fun d hd => decide_eq_true (z2 d hd))] at g
            cases g
          refine GG.iload_n e_X11_still_87 (i := 2) rfl 2 rfl ?_
          refine GG.perm [1, 2, 3, 4] rfl (nx _ ν2 (hν'.l9 hν2) (hT'.l9 hν2) hj2 ?_)
          rw [mStl, ← hb]
          first | (rw [if_pos ⟨hfew, g2⟩]; done) | rw [if_neg (fun z => g2 z.2)]
        · skip
          have g := (bI_n0 _).mp h80
          have g2 : f m j = true := (hf m j hm hj2).mpr (fun d hd => of_decide_eq_true (mAll_iff.mp g d hd))
          refine GG.iload_n e_X11_still_83 (i := 3) rfl 1 rfl ?_
          refine GG.goto (tgt := 88) e_X11_still_84 rfl ?_
          refine GG.perm [1, 2, 3, 4] rfl (nx _ ν2 (hν'.l9 hν2) (hT'.l9 hν2) hj2 ?_)
          rw [mStl, ← hb]
          first | (rw [if_pos ⟨hfew, g2⟩]; done) | rw [if_neg (fun z => g2 z.2)]
      have notf : ∀ ν', gTr μ ν' → TT ν' (rV μ 0) P A (nI j) → j < 2 ^ A → ¬ (b = -1 ∨ mBc (nI j) < mBc b) → GG 6 MX11_still 68 [(3, .int (nI j)), (2, .int b), (0, .ref 63), (1, .int (nI m))] [.int 0] ν' Q := by
        intro ν' hν' hT' hj2 hfew
        refine GG.istore e_X11_still_68 (Nat.le_of_ble_eq_true rfl) (ls' := [(4, .int _), (3, .int _), (2, .int _), (0, .ref _), (1, .int _)]) rfl ?_
        refine GG.iload e_X11_still_70 0 rfl ?_
        refine GG.if_eq (tgt := 87) e_X11_still_72 rfl (fun h72 => ?_) (fun h72 => absurd h72 (by exact fun z => z rfl))
        refine GG.iload_n e_X11_still_87 (i := 2) rfl 2 rfl ?_
        refine GG.perm [1, 2, 3, 4] rfl (nx _ ν' hν' hT' hj2 ?_)
        rw [mStl, ← hb, if_neg (fun z => hfew z.1)]
      have bq : ∀ q, q < 16 → b = nI q → j < 2 ^ A → mCnt (nI j) = mBc (nI j) ∧ mCnt b = mBc b := by
        rintro q h1 rfl h3
        rw [mCnt_16 j (by omega), mCnt_16 q h1, mBc_16 j (by omega), mBc_16 q h1]
        exact ⟨rfl, rfl⟩
      refine GG.iload_n e_X11_still_25 (i := 3) rfl 0 rfl ?_
      refine GG.iconst (v := 1) e_X11_still_26 rfl ?_
      refine GG.aload_n e_X11_still_27 (i := 0) rfl 2 rfl ?_
      refine GG.getR (b := 64) e_X11_still_28 fl_X11_7 (sf_X11_0 i_X11_63) ?_
      refine GG.bipush (v := 26) e_X11_still_31 rfl ?_
      refine GG.ialoadV (k := 26) (v := nI A) e_X11_still_33 (sa_X11_0 i_X11_63) (rfl) (by omega) (Nat.le_of_ble_eq_true rfl) (hν.row (show 26 < 537 by omega) |>.trans hR.2.2.1) ?_
      refine GG.ishl e_X11_still_34 ?_
      refine GG.top (shl A (by omega)) ?_
      refine GG.icmp_ge (tgt := 95) e_X11_still_35 rfl (fun h35 => ?_) (fun h35 => ?_)
      · skip
        have e : j = 2 ^ A := by have := nle h35 (by omega) (by omega); omega
        subst e
        refine GG.iload_n e_X11_still_95 (i := 2) rfl 1 rfl ?_
        refine GG.iret e_X11_still_96 rfl rfl ?_
        exact qI (hq ν hν.sm) hb
      · skip
        have e := nnle h35 (by omega) (by omega)
        have hν1 : gTr μ (mwr ν 64 544 (nI j)) := hν.wr (by omega)
        have hT1 : TT (mwr ν 64 544 (nI j)) (rV μ 0) P A (nI j) := hT.th hP7 hA4
        refine GG.aload_n e_X11_still_38 (i := 0) rfl 2 rfl ?_
        refine GG.getR (b := 64) e_X11_still_39 fl_X11_7 (sf_X11_0 i_X11_63) ?_
        refine GG.sipush (v := 544) e_X11_still_42 rfl ?_
        refine GG.iload_n e_X11_still_45 (i := 3) rfl 0 rfl ?_
        refine GG.iastoreE (k := 544) e_X11_still_46 (sa_X11_0 i_X11_63) (rfl) (by omega) (Nat.le_of_ble_eq_true rfl) ?_
        refine GG.iload_n e_X11_still_47 (i := 2) rfl 1 rfl ?_
        refine GG.iconst (v := -1) e_X11_still_48 rfl ?_
        refine GG.icmp_eq (tgt := 63) e_X11_still_49 rfl (fun h49 => ?_) (fun h49 => ?_)
        · skip
          refine GG.iconst (v := 1) e_X11_still_63 rfl ?_
          refine GG.goto (tgt := 68) e_X11_still_64 rfl ?_
          first | exact still _ hν1 hT1 e (Or.inl h49) | exact still _ hν1 hT1 e (Or.inr (by rw [← k1, ← k2]; exact Int32.not_le.mp h60)) | exact notf _ hν1 hT1 e (fun z => z.elim h49 (fun y => absurd y (by rw [← k1, ← k2]; exact Int32.not_lt.mpr h60)))
        · skip
          obtain ⟨q, hq16, hqb⟩ := hbq.resolve_left h49
          obtain ⟨k1, k2⟩ := bq q hq16 hqb e
          refine GG.iload_n e_X11_still_52 (i := 3) rfl 0 rfl ?_
          refine GG.callS (d' := 0) (as := [.int _]) e_X11_still_53 ml_X11_171 mf_X11_bits ms_X11_bits rfl (by decide) (Nat.le_of_ble_eq_true rfl) rfl ?_
          refine s_X11_bits ?_
          refine GG.iload_n e_X11_still_56 (i := 2) rfl 1 rfl ?_
          refine GG.callS (d' := 0) (as := [.int _]) e_X11_still_57 ml_X11_171 mf_X11_bits ms_X11_bits rfl (by decide) (Nat.le_of_ble_eq_true rfl) rfl ?_
          refine s_X11_bits ?_
          refine GG.icmp_ge (tgt := 67) e_X11_still_60 rfl (fun h60 => ?_) (fun h60 => ?_)
          · skip
            refine GG.iconst (v := 0) e_X11_still_67 rfl ?_
            first | exact still _ hν1 hT1 e (Or.inl h49) | exact still _ hν1 hT1 e (Or.inr (by rw [← k1, ← k2]; exact Int32.not_le.mp h60)) | exact notf _ hν1 hT1 e (fun z => z.elim h49 (fun y => absurd y (by rw [← k1, ← k2]; exact Int32.not_lt.mpr h60)))
          · skip
            refine GG.iconst (v := 1) e_X11_still_63 rfl ?_
            refine GG.goto (tgt := 68) e_X11_still_64 rfl ?_
            first | exact still _ hν1 hT1 e (Or.inl h49) | exact still _ hν1 hT1 e (Or.inr (by rw [← k1, ← k2]; exact Int32.not_le.mp h60)) | exact notf _ hν1 hT1 e (fun z => z.elim h49 (fun y => absurd y (by rw [← k1, ← k2]; exact Int32.not_lt.mpr h60)))
  refine SPC.of (by decide +kernel) (Nat.le_of_ble_eq_true rfl) (ls := [(0, .ref (63)), (1, .int (z))]) rfl ?_
  refine GG.iload_n e_X11_still_0 (i := 1) rfl 1 rfl ?_
  refine GG.iconst (v := 1) e_X11_still_1 rfl ?_
  refine GG.bipush (v := 60) e_X11_still_2 rfl ?_
  refine GG.callS (d' := 0) (as := [.int _, .int _, .int _]) e_X11_still_4 ml_X11_51 mf_X11_in ms_X11_in rfl (by decide) (Nat.le_of_ble_eq_true rfl) rfl ?_
  refine s_X11_inO ?_
  refine GG.if_ne (tgt := 17) e_X11_still_7 rfl (fun h7 => ?_) (fun h7 => ?_)
  · skip
    obtain ⟨n, rfl, o1, o2⟩ := oB_n (A := 1) (B := 60) (inF h7) rfl rfl (by omega) (by omega)
    refine GG.aload_n e_X11_still_17 (i := 0) rfl 0 rfl ?_
    refine GG.callV (d' := 0) (a := 63) (as := []) e_X11_still_18 ml_X11_168 mf_X11_layTried mv_X11_layTried (rc_X11 i_X11_63) rfl (by decide) (Nat.le_of_ble_eq_true rfl) rfl ?_
    refine s_X11_layTried ?_
    refine GG.iconst (v := -1) e_X11_still_21 rfl ?_
    refine GG.istore_n e_X11_still_22 (i := 2) rfl (Nat.le_of_ble_eq_true rfl) (ls' := [(2, .int _), (0, .ref _), (1, .int _)]) rfl ?_
    refine GG.iconst (v := 0) e_X11_still_23 rfl ?_
    refine GG.istore_n e_X11_still_24 (i := 3) rfl (Nat.le_of_ble_eq_true rfl) (ls' := [(3, .int _), (2, .int _), (0, .ref _), (1, .int _)]) rfl ?_
    exact lp n o2 (hok n rfl o1 o2) (2 ^ A + 1) 0 _ _ _ (Nat.lt_succ_of_le (Nat.sub_le _ _)) (Nat.zero_le _) gTr.cr (TT.cr hR) rfl (Or.inl rfl)
  · skip
    have oo := inT h7
    refine GG.aload_n e_X11_still_10 (i := 0) rfl 0 rfl ?_
    refine GG.bipush (v := -2) e_X11_still_11 rfl ?_
    refine GG.callV (d' := 0) (a := 63) (as := [.int _]) e_X11_still_13 ml_X11_55 mf_X11_refuse mv_X11_refuse (rc_X11 i_X11_63) rfl (by decide) (Nat.le_of_ble_eq_true rfl) rfl ?_
    refine s_X11_refB ?_
    refine GG.iret e_X11_still_16 rfl rfl ?_
    exact hbad oo
end S36
