/-! THE REFERENCE: its face, third part -/
def rAd2 (μ : gM) (T : Nat) (x y : Int32) : gM := mwr (mwr (mwr μ 64 (36 + 2 * T) x) 64 (37 + 2 * T) y) 64 35 (nI (T + 1))
def rAd4 (μ : gM) (p T : Nat) (x y z w : Int32) : gM := mwr (mwr (mwr (mwr (mwr μ 64 (p + 1 + 4 * T) x) 64 (p + 1 + 4 * T + 1) y) 64 (p + 1 + 4 * T + 2) z) 64 (p + 1 + 4 * T + 3) w) 64 p (nI (T + 1))
theorem TT.sw2 {ν : gM} {V : Nat → Nat → Int32} {P A k : Nat} {th a : Int32} (h : TT ν V P A th ∨ ∃ b, TT ν (uV V k b) P A th) (hk : k < 7) (hP : P ≤ 7) (hA : A ≤ 4) : TT (mwr ν 64 (537 + k) a) (uV V k a) P A th := by
  rcases h with h | ⟨b, h⟩
  · exact h.sw hk hP hA
  · have := h.sw (a := a) hk hP hA
    rw [uV_uV] at this
    exact this
section S37
variable {μ : gM} {Q : Option Value → gM → Prop} {P A U L T N M B k : Nat} {i c a w z v x y o : Int32}
theorem s_X11_push {f : Nat → Nat → Bool} (hR : MR μ P A) (hf : ∀ k a, a < 10 → f k a = decide (0 < vSnd (uV (rV μ 0) k (nI a)) (mrd μ 64 7) A (mrd μ 64 10) P c)) (hbad : (!mIn i P || oB c 0 99) = true → Q (some (.int (-2))) (rRf μ 0))
    (hn : ∀ k, k < P → i = nI k → oB c 0 99 = false → (∀ a, a < 10 → f k a = false) → ∀ ν, gSm μ ν → Q (some (.int (-1))) ν)
    (hy : ∀ k, k < P → i = nI k → oB c 0 99 = false → ∀ a, a < 10 → f k a = true → (∀ e, e < a → f k e = false) → ∀ ν, gSm μ ν → Q (some (.int (nI a))) ν) : SPC 5 MX11_push [.ref 63, .int i, .int c] μ Q := by
  have hP7 := hR.2.1
  have hA4 := hR.2.2.2
  have lp : ∀ k, k < P → ((∀ a, a < 10 → f k a = false) → ∀ ν, gSm μ ν → Q (some (.int (-1))) ν) → (∀ a, a < 10 → f k a = true → (∀ e, e < a → f k e = false) → ∀ ν, gSm μ ν → Q (some (.int (nI a))) ν) →
      ∀ n j ν, 10 - j < n → j ≤ 10 → gTr μ ν → (TT ν (rV μ 0) P A (mrd μ 64 7) ∨ ∃ b, TT ν (uV (rV μ 0) k b) P A (mrd μ 64 7)) → (∀ e, e < j → f k e = false) → GG 5 MX11_push 31 [(3, .int (nI j)), (0, .ref 63), (1, .int (nI k)), (2, .int c)] [] ν Q := by
    intro k hk qn qy n
    induction n with
    | zero => intro j ν h; omega
    | succ n ih =>
      intro j ν hn' hj hν hT hff
      have hν1 : gTr μ (mwr ν 64 (537 + k) (nI j)) := hν.wr (by omega)
      have hT1 : TT (mwr ν 64 (537 + k) (nI j)) (uV (rV μ 0) k (nI j)) P A (mrd μ 64 7) := TT.sw2 hT (by omega) hP7 hA4
      refine GG.iload_n e_X11_push_31 (i := 3) rfl 0 rfl ?_
      refine GG.bipush (v := 10) e_X11_push_32 rfl ?_
      refine GG.icmp_ge (tgt := 67) e_X11_push_34 rfl (fun h34 => ?_) (fun h34 => ?_)
      · skip
        have e : j = 10 := by have := nle (a := 10) (b := j) h34 (by omega) (by omega); omega
        refine GG.iconst (v := -1) e_X11_push_67 rfl ?_
        refine GG.iret e_X11_push_68 rfl rfl ?_
        subst e
        exact qn hff ν hν.sm
      · skip
        have e := nnle (a := 10) (b := j) h34 (by omega) (by omega)
        refine GG.aload_n e_X11_push_37 (i := 0) rfl 1 rfl ?_
        refine GG.getR (b := 64) e_X11_push_38 fl_X11_7 (sf_X11_0 i_X11_63) ?_
        refine GG.sipush (v := 537) e_X11_push_41 rfl ?_
        refine GG.iload_n e_X11_push_44 (i := 1) rfl 2 rfl ?_
        refine GG.iadd e_X11_push_45 ?_
        refine GG.top (show 537 + nI k = nI (537 + k) by rw [show (537 : Int32) = nI 537 from rfl, nI_add]) ?_
        refine GG.iload_n e_X11_push_46 (i := 3) rfl 0 rfl ?_
        refine GG.iastoreE (k := 537 + k) e_X11_push_47 (sa_X11_0 i_X11_63) (rfl) (by omega) (Nat.le_of_ble_eq_true rfl) ?_
        refine GG.aload_n e_X11_push_48 (i := 0) rfl 1 rfl ?_
        refine GG.sipush (v := 537) e_X11_push_49 rfl ?_
        refine GG.iload_n e_X11_push_52 (i := 2) rfl 3 rfl ?_
        refine GG.callV (d' := 4) (a := 63) (as := [.int _, .int _]) e_X11_push_53 ml_X11_153 mf_X11_soundAt mv_X11_soundAt (rc_X11 i_X11_63) rfl (by decide) (Nat.le_of_ble_eq_true rfl) rfl ?_
        refine s_X11_soundAtS (B := 537) (hν1.mr hR) (by omega) (fun ν2 hν2 => ?_)
        rw [hT1.st, hν1.row (show 10 < 537 by omega)]
        refine GG.if_le (tgt := 61) e_X11_push_56 rfl (fun h56 => ?_) (fun h56 => ?_)
        · skip
          refine GG.iinc e_X11_push_61 0 rfl (v := _) (by first | exact nI_s _ | exact nI_d _ | rfl) (Nat.le_of_ble_eq_true rfl) (ls' := [(3, .int _), (0, .ref _), (1, .int _), (2, .int _)]) rfl ?_
          refine GG.goto (tgt := 31) e_X11_push_64 rfl ?_
          refine ih (j + 1) ν2 (by omega) (by omega) (hν1.l9 hν2) (Or.inr ⟨_, hT1.l9 hν2⟩) (fun d hd => ?_)
          by_cases q : d = j
          · subst q
            rw [hf k d e, decide_eq_false_iff_not]
            exact Int32.not_lt.mpr h56
          · exact hff d (by omega)
        · skip
          refine GG.iload_n e_X11_push_59 (i := 3) rfl 0 rfl ?_
          refine GG.iret e_X11_push_60 rfl rfl ?_
          exact qy j e (by rw [hf k j e, decide_eq_true_eq]; exact Int32.not_le.mp h56) hff ν2 (hν1.l9 hν2).sm
  refine SPC.of (by decide +kernel) (Nat.le_of_ble_eq_true rfl) (ls := [(0, .ref (63)), (1, .int (i)), (2, .int (c))]) rfl ?_
  refine GG.aload_n e_X11_push_0 (i := 0) rfl 0 rfl ?_
  refine GG.iload_n e_X11_push_1 (i := 1) rfl 1 rfl ?_
  refine GG.callV (d' := 1) (a := 63) (as := [.int _]) e_X11_push_2 ml_X11_159 mf_X11_isOne mv_X11_isOne (rc_X11 i_X11_63) rfl (by decide) (Nat.le_of_ble_eq_true rfl) rfl ?_
  refine s_X11_isOne hR ?_
  refine GG.if_eq (tgt := 18) e_X11_push_5 rfl (fun h5 => ?_) (fun h5 => ?_)
  · skip
    have oo := (bI_0 _).mp h5
    refine GG.aload_n e_X11_push_18 (i := 0) rfl 0 rfl ?_
    refine GG.bipush (v := -2) e_X11_push_19 rfl ?_
    refine GG.callV (d' := 0) (a := 63) (as := [.int _]) e_X11_push_21 ml_X11_55 mf_X11_refuse mv_X11_refuse (rc_X11 i_X11_63) rfl (by decide) (Nat.le_of_ble_eq_true rfl) rfl ?_
    refine s_X11_refB ?_
    refine GG.iret e_X11_push_24 rfl rfl ?_
    exact hbad (by simp [oo])
  · skip
    obtain ⟨k, hk, rfl⟩ := mIn_of ((bI_n0 _).mp h5) (by omega)
    refine GG.iload_n e_X11_push_8 (i := 2) rfl 2 rfl ?_
    refine GG.iconst (v := 0) e_X11_push_9 rfl ?_
    refine GG.bipush (v := 99) e_X11_push_10 rfl ?_
    refine GG.callS (d' := 0) (as := [.int _, .int _, .int _]) e_X11_push_12 ml_X11_51 mf_X11_in ms_X11_in rfl (by decide) (Nat.le_of_ble_eq_true rfl) rfl ?_
    refine s_X11_inO ?_
    refine GG.if_ne (tgt := 25) e_X11_push_15 rfl (fun h15 => ?_) (fun h15 => ?_)
    · skip
      have o1 := inF h15
      refine GG.aload_n e_X11_push_25 (i := 0) rfl 0 rfl ?_
      refine GG.callV (d' := 0) (a := 63) (as := []) e_X11_push_26 ml_X11_168 mf_X11_layTried mv_X11_layTried (rc_X11 i_X11_63) rfl (by decide) (Nat.le_of_ble_eq_true rfl) rfl ?_
      refine s_X11_layTried ?_
      refine GG.iconst (v := 0) e_X11_push_29 rfl ?_
      refine GG.istore_n e_X11_push_30 (i := 3) rfl (Nat.le_of_ble_eq_true rfl) (ls' := [(3, .int _), (0, .ref _), (1, .int _), (2, .int _)]) rfl ?_
      exact lp k hk (hn k hk rfl o1) (hy k hk rfl o1) 11 0 _ (by omega) (by omega) gTr.cr (Or.inl (TT.cr hR)) (fun e h => by omega)
    · skip
      have oo := inT h15
      refine GG.aload_n e_X11_push_18 (i := 0) rfl 0 rfl ?_
      refine GG.bipush (v := -2) e_X11_push_19 rfl ?_
      refine GG.callV (d' := 0) (a := 63) (as := [.int _]) e_X11_push_21 ml_X11_55 mf_X11_refuse mv_X11_refuse (rc_X11 i_X11_63) rfl (by decide) (Nat.le_of_ble_eq_true rfl) rfl ?_
      refine s_X11_refB ?_
      refine GG.iret e_X11_push_24 rfl rfl ?_
      exact hbad (by simp [oo])
theorem s_X11_widest {f : Nat → Nat → Bool} (hR : MR μ P A) (hf : ∀ wd d, f wd d = decide (0 < vSnd (rV μ 0) (mrd μ 64 7) A (nI wd) P (mrd μ 64 9 + nI d)))
    (hn : (∀ wd, 4 ≤ wd → wd ≤ 30 → ∀ d, d < 60 → f wd d = false) → ∀ ν, gL9 μ ν → Q (some (.int (-1))) ν)
    (hy : ∀ wd d, 4 ≤ wd → wd ≤ 30 → d < 60 → f wd d = true → (∀ w2, wd < w2 → w2 ≤ 30 → ∀ d, d < 60 → f w2 d = false) → ∀ ν, gL9 μ ν → Q (some (.int (nI wd))) ν) : SPC 4 MX11_widest [.ref 63] μ Q := by
  have lp : ∀ wd ν, wd ≤ 30 → 3 ≤ wd → gL9 μ ν → (∀ w2, wd < w2 → w2 ≤ 30 → ∀ d, d < 60 → f w2 d = false) → GG 4 MX11_widest 3 [(1, .int (nI wd)), (0, .ref 63)] [] ν Q := by
    intro wd
    induction wd with
    | zero => intro ν _ h; omega
    | succ wd ih =>
      intro ν h30 h3 hν hff
      have inn : 3 ≤ wd → ∀ n j ν, 60 - j < n → j ≤ 60 → gL9 μ ν → (∀ d, d < j → f (wd + 1) d = false) → GG 4 MX11_widest 10 [(2, .int (nI j)), (1, .int (nI (wd + 1))), (0, .ref 63)] [] ν Q := by
        intro hw3 n
        induction n with
        | zero => intro j ν h; omega
        | succ n ihn =>
          intro j ν hn' hj hν hfd
          refine GG.iload_n e_X11_widest_10 (i := 2) rfl 0 rfl ?_
          refine GG.bipush (v := 60) e_X11_widest_11 rfl ?_
          refine GG.icmp_ge (tgt := 43) e_X11_widest_13 rfl (fun h13 => ?_) (fun h13 => ?_)
          · skip
            have e : j = 60 := by have := nle (a := 60) (b := j) h13 (by omega) (by omega); omega
            refine GG.iinc e_X11_widest_43 1 rfl (v := nI wd) (nI_d wd) (Nat.le_of_ble_eq_true rfl) (ls' := [(1, .int _), (2, .int _), (0, .ref _)]) rfl ?_
            refine GG.goto (tgt := 3) e_X11_widest_46 rfl ?_
            refine GG.perm [0, 2] rfl ?_
            subst e
            exact ih ν (by omega) hw3 hν (fun w2 h1 h2 d hd => if q : w2 = wd + 1 then q ▸ hfd d hd else hff w2 (by omega) h2 d hd)
          · skip
            have e := nnle (a := 60) (b := j) h13 (by omega) (by omega)
            refine GG.aload_n e_X11_widest_16 (i := 0) rfl 2 rfl ?_
            refine GG.iconst (v := 0) e_X11_widest_17 rfl ?_
            refine GG.iload_n e_X11_widest_18 (i := 1) rfl 1 rfl ?_
            refine GG.aload_n e_X11_widest_19 (i := 0) rfl 2 rfl ?_
            refine GG.getR (b := 64) e_X11_widest_20 fl_X11_7 (sf_X11_0 i_X11_63) ?_
            refine GG.bipush (v := 9) e_X11_widest_23 rfl ?_
            refine GG.ialoadV (k := 9) (v := mrd μ 64 9) e_X11_widest_25 (sa_X11_0 i_X11_63) (rfl) (by omega) (Nat.le_of_ble_eq_true rfl) (hν.row 9) ?_
            refine GG.iload_n e_X11_widest_26 (i := 2) rfl 0 rfl ?_
            refine GG.iadd e_X11_widest_27 ?_
            refine GG.iconst (v := -1) e_X11_widest_28 rfl ?_
            refine GG.callV (d' := 3) (a := 63) (as := [.int _, .int _, .int _, .int _]) e_X11_widest_29 ml_X11_149 mf_X11_soundBy mv_X11_soundBy (rc_X11 i_X11_63) rfl (by decide) (Nat.le_of_ble_eq_true rfl) rfl ?_
            refine s_X11_soundByS (B := 0) (hν.rl hR) (by omega) (fun ν2 hν2 => ?_)
            rw [hν.st]
            refine GG.if_le (tgt := 37) e_X11_widest_32 rfl (fun h32 => ?_) (fun h32 => ?_)
            · skip
              refine GG.iinc e_X11_widest_37 0 rfl (v := _) (by first | exact nI_s _ | exact nI_d _ | rfl) (Nat.le_of_ble_eq_true rfl) (ls' := [(2, .int _), (1, .int _), (0, .ref _)]) rfl ?_
              refine GG.goto (tgt := 10) e_X11_widest_40 rfl ?_
              refine ihn (j + 1) ν2 (by omega) (by omega) (hν.tr hν2) (fun d hd => ?_)
              by_cases q : d = j
              · subst q
                rw [hf, decide_eq_false_iff_not]
                exact Int32.not_lt.mpr h32
              · exact hfd d (by omega)
            · skip
              refine GG.iload_n e_X11_widest_35 (i := 1) rfl 1 rfl ?_
              refine GG.iret e_X11_widest_36 rfl rfl ?_
              exact hy (wd + 1) j (by omega) h30 e (by rw [hf, decide_eq_true_eq]; exact Int32.not_le.mp h32) hff ν2 (hν.tr hν2)
      refine GG.iload_n e_X11_widest_3 (i := 1) rfl 0 rfl ?_
      refine GG.iconst (v := 3) e_X11_widest_4 rfl ?_
      refine GG.icmp_le (tgt := 49) e_X11_widest_5 rfl (fun h5 => ?_) (fun h5 => ?_)
      · skip
        have e := nle (a := wd + 1) (b := 3) h5 (by omega) (by omega)
        refine GG.iconst (v := -1) e_X11_widest_49 rfl ?_
        refine GG.iret e_X11_widest_50 rfl rfl ?_
        exact hn (fun w2 h1 h2 d hd => hff w2 (by omega) h2 d hd) ν hν
      · skip
        have e := nnle (a := wd + 1) (b := 3) h5 (by omega) (by omega)
        refine GG.iconst (v := 0) e_X11_widest_8 rfl ?_
        refine GG.istore_n e_X11_widest_9 (i := 2) rfl (Nat.le_of_ble_eq_true rfl) (ls' := [(2, .int _), (1, .int _), (0, .ref _)]) rfl ?_
        exact inn (by omega) 61 0 ν (by omega) (by omega) hν (fun d h => by omega)
  refine SPC.of (by decide +kernel) (Nat.le_of_ble_eq_true rfl) (ls := [(0, .ref (63))]) rfl ?_
  refine GG.bipush (v := 30) e_X11_widest_0 rfl ?_
  refine GG.istore_n e_X11_widest_2 (i := 1) rfl (Nat.le_of_ble_eq_true rfl) (ls' := [(1, .int _), (0, .ref _)]) rfl ?_
  exact lp 30 μ (by omega) (by omega) (gL9.rf μ) (fun w2 h1 h2 => by omega)
theorem s_X11_wrong {f : Nat → Bool} {s : Bool} (hR : MR μ P A) (hs : s = decide (0 < vSnd (rV μ 0) (mrd μ 64 7) A (mrd μ 64 10) P c)) (hf : ∀ k, k < P → f k = decide (rSnd μ 0 A P (mrd μ 64 10) c (nI k) = 0)) (hbad : oB c 0 99 = true → Q (some (.int (-2))) (rRf μ 0))
    (hok : oB c 0 99 = false → ∀ ν, gL9 μ ν → Q (some (.int (if s = true then mBits f P else 0))) ν) : SPC 5 MX11_wrong [.ref 63, .int c] μ Q := by
  have hP7 := hR.2.1
  have hh : s = true → (∀ ν, gL9 μ ν → Q (some (.int (if s = true then mBits f P else 0))) ν) → ∀ n j x ν, P - j < n → j ≤ P → gL9 μ ν → x = mBits f j → GG 5 MX11_wrong 37 [(4, .int (nI j)), (3, .int 1), (2, .int x), (0, .ref 63), (1, .int c)] [] ν Q := by
    intro hst hq n
    induction n with
    | zero => intro j x ν h; omega
    | succ n ih =>
      intro j x ν hn hj hν hx
      refine GG.iload e_X11_wrong_37 0 rfl ?_
      refine GG.aload_n e_X11_wrong_39 (i := 0) rfl 3 rfl ?_
      refine GG.getR (b := 64) e_X11_wrong_40 fl_X11_7 (sf_X11_0 i_X11_63) ?_
      refine GG.bipush (v := 11) e_X11_wrong_43 rfl ?_
      refine GG.ialoadV (k := 11) (v := nI P) e_X11_wrong_45 (sa_X11_0 i_X11_63) (rfl) (by omega) (Nat.le_of_ble_eq_true rfl) ((hν.row 11).trans hR.1) ?_
      refine GG.icmp_ge (tgt := 88) e_X11_wrong_46 rfl (fun h46 => ?_) (fun h46 => ?_)
      · skip
        have e : j = P := by have := nle h46 (by omega) (by omega); omega
        refine GG.iload_n e_X11_wrong_88 (i := 2) rfl 2 rfl ?_
        refine GG.iret e_X11_wrong_89 rfl rfl ?_
        subst e
        exact qI (hq ν hν) (by rw [if_pos hst, hx])
      · skip
        have e := nnle h46 (by omega) (by omega)
        refine GG.iload_n e_X11_wrong_49 (i := 3) rfl 1 rfl ?_
        refine GG.if_eq (tgt := 88) e_X11_wrong_50 rfl (fun h50 => absurd h50 (by decide)) (fun h50 => ?_)
        refine GG.iload_n e_X11_wrong_53 (i := 2) rfl 2 rfl ?_
        refine GG.aload_n e_X11_wrong_54 (i := 0) rfl 3 rfl ?_
        refine GG.iconst (v := 0) e_X11_wrong_55 rfl ?_
        refine GG.aload_n e_X11_wrong_56 (i := 0) rfl 3 rfl ?_
        refine GG.getR (b := 64) e_X11_wrong_57 fl_X11_7 (sf_X11_0 i_X11_63) ?_
        refine GG.bipush (v := 10) e_X11_wrong_60 rfl ?_
        refine GG.ialoadE (k := 10) e_X11_wrong_62 (sa_X11_0 i_X11_63) (rfl) (by omega) (Nat.le_of_ble_eq_true rfl) ?_
        refine GG.iload_n e_X11_wrong_63 (i := 1) rfl 4 rfl ?_
        refine GG.iload e_X11_wrong_64 0 rfl ?_
        refine GG.callV (d' := 3) (a := 63) (as := [.int _, .int _, .int _, .int _]) e_X11_wrong_66 ml_X11_149 mf_X11_soundBy mv_X11_soundBy (rc_X11 i_X11_63) rfl (by decide) (Nat.le_of_ble_eq_true rfl) rfl ?_
        refine s_X11_soundBy (B := 0) (hν.rl hR) (by omega) (fun ν2 hν2 => ?_)
        rw [hν.snd, hν.row]
        refine GG.if_ne (tgt := 79) e_X11_wrong_69 rfl (fun h69 => ?_) (fun h69 => ?_)
        · skip
          refine GG.iconst (v := 0) e_X11_wrong_79 rfl ?_
          refine GG.ior e_X11_wrong_80 ?_
          refine GG.istore_n e_X11_wrong_81 (i := 2) rfl (Nat.le_of_ble_eq_true rfl) (ls' := [(2, .int _), (4, .int _), (3, .int _), (0, .ref _), (1, .int _)]) rfl ?_
          refine GG.iinc e_X11_wrong_82 1 rfl (v := _) (by first | exact nI_s _ | exact nI_d _ | rfl) (Nat.le_of_ble_eq_true rfl) (ls' := [(4, .int _), (2, .int _), (3, .int _), (0, .ref _), (1, .int _)]) rfl ?_
          refine GG.goto (tgt := 37) e_X11_wrong_85 rfl ?_
          refine GG.perm [0, 2, 1, 3, 4] rfl ?_
          refine ih (j + 1) _ ν2 (by omega) (by omega) (hν.tr hν2) ?_
          rw [mBits, hx, hf j e]
          first | (rw [if_pos (decide_eq_true h69)]; done) | (rw [if_neg (fun z => h69 (of_decide_eq_true z)), Int32.or_zero]; done)
        · skip
          refine GG.iconst (v := 1) e_X11_wrong_72 rfl ?_
          refine GG.iload e_X11_wrong_73 0 rfl ?_
          refine GG.ishl e_X11_wrong_75 ?_
          refine GG.goto (tgt := 80) e_X11_wrong_76 rfl ?_
          refine GG.ior e_X11_wrong_80 ?_
          refine GG.istore_n e_X11_wrong_81 (i := 2) rfl (Nat.le_of_ble_eq_true rfl) (ls' := [(2, .int _), (4, .int _), (3, .int _), (0, .ref _), (1, .int _)]) rfl ?_
          refine GG.iinc e_X11_wrong_82 1 rfl (v := _) (by first | exact nI_s _ | exact nI_d _ | rfl) (Nat.le_of_ble_eq_true rfl) (ls' := [(4, .int _), (2, .int _), (3, .int _), (0, .ref _), (1, .int _)]) rfl ?_
          refine GG.goto (tgt := 37) e_X11_wrong_85 rfl ?_
          refine GG.perm [0, 2, 1, 3, 4] rfl ?_
          refine ih (j + 1) _ ν2 (by omega) (by omega) (hν.tr hν2) ?_
          rw [mBits, hx, hf j e]
          first | (rw [if_pos (decide_eq_true h69)]; done) | (rw [if_neg (fun z => h69 (of_decide_eq_true z)), Int32.or_zero]; done)
  have hz : ∀ ν, Q (some (.int 0)) ν → GG 5 MX11_wrong 37 [(4, .int 0), (3, .int 0), (2, .int 0), (0, .ref 63), (1, .int c)] [] ν Q := by
    intro ν hq
    refine GG.iload e_X11_wrong_37 0 rfl ?_
    refine GG.aload_n e_X11_wrong_39 (i := 0) rfl 3 rfl ?_
    refine GG.getR (b := 64) e_X11_wrong_40 fl_X11_7 (sf_X11_0 i_X11_63) ?_
    refine GG.bipush (v := 11) e_X11_wrong_43 rfl ?_
    refine GG.ialoadE (k := 11) e_X11_wrong_45 (sa_X11_0 i_X11_63) (rfl) (by omega) (Nat.le_of_ble_eq_true rfl) ?_
    refine GG.icmp_ge (tgt := 88) e_X11_wrong_46 rfl (fun h46 => ?_) (fun h46 => ?_)
    · skip
      refine GG.iload_n e_X11_wrong_88 (i := 2) rfl 2 rfl ?_
      refine GG.iret e_X11_wrong_89 rfl rfl ?_
      exact hq
    · skip
      refine GG.iload_n e_X11_wrong_49 (i := 3) rfl 1 rfl ?_
      refine GG.if_eq (tgt := 88) e_X11_wrong_50 rfl (fun h50 => ?_) (fun h50 => absurd h50 (by exact fun z => z rfl))
      refine GG.iload_n e_X11_wrong_88 (i := 2) rfl 2 rfl ?_
      refine GG.iret e_X11_wrong_89 rfl rfl ?_
      exact hq
  refine SPC.of (by decide +kernel) (Nat.le_of_ble_eq_true rfl) (ls := [(0, .ref (63)), (1, .int (c))]) rfl ?_
  refine GG.iload_n e_X11_wrong_0 (i := 1) rfl 1 rfl ?_
  refine GG.iconst (v := 0) e_X11_wrong_1 rfl ?_
  refine GG.bipush (v := 99) e_X11_wrong_2 rfl ?_
  refine GG.callS (d' := 0) (as := [.int _, .int _, .int _]) e_X11_wrong_4 ml_X11_51 mf_X11_in ms_X11_in rfl (by decide) (Nat.le_of_ble_eq_true rfl) rfl ?_
  refine s_X11_inO ?_
  refine GG.if_ne (tgt := 17) e_X11_wrong_7 rfl (fun h7 => ?_) (fun h7 => ?_)
  · skip
    have o1 := inF h7
    refine GG.iconst (v := 0) e_X11_wrong_17 rfl ?_
    refine GG.istore_n e_X11_wrong_18 (i := 2) rfl (Nat.le_of_ble_eq_true rfl) (ls' := [(2, .int _), (0, .ref _), (1, .int _)]) rfl ?_
    refine GG.aload_n e_X11_wrong_19 (i := 0) rfl 1 rfl ?_
    refine GG.iconst (v := 0) e_X11_wrong_20 rfl ?_
    refine GG.iload_n e_X11_wrong_21 (i := 1) rfl 2 rfl ?_
    refine GG.callV (d' := 4) (a := 63) (as := [.int _, .int _]) e_X11_wrong_22 ml_X11_153 mf_X11_soundAt mv_X11_soundAt (rc_X11 i_X11_63) rfl (by decide) (Nat.le_of_ble_eq_true rfl) rfl ?_
    refine s_X11_soundAt (B := 0) hR (by omega) (fun ν hν => ?_)
    refine GG.if_le (tgt := 32) e_X11_wrong_25 rfl (fun h25 => ?_) (fun h25 => ?_)
    · skip
      have q : s = false := by rw [hs, decide_eq_false_iff_not]; exact Int32.not_lt.mpr h25
      have q2 : (if s = true then mBits f P else 0) = 0 := by rw [q]; rfl
      refine GG.iconst (v := 0) e_X11_wrong_32 rfl ?_
      refine GG.istore_n e_X11_wrong_33 (i := 3) rfl (Nat.le_of_ble_eq_true rfl) (ls' := [(3, .int _), (2, .int _), (0, .ref _), (1, .int _)]) rfl ?_
      refine GG.iconst (v := 0) e_X11_wrong_34 rfl ?_
      refine GG.istore e_X11_wrong_35 (Nat.le_of_ble_eq_true rfl) (ls' := [(4, .int _), (3, .int _), (2, .int _), (0, .ref _), (1, .int _)]) rfl ?_
      first | exact hh q (hok o1) (P + 1) 0 0 ν (by omega) (by omega) hν rfl | exact hz ν (qI (hok o1 ν hν) q2.symm)
    · skip
      have q : s = true := by rw [hs, decide_eq_true_eq]; exact Int32.not_le.mp h25
      refine GG.iconst (v := 1) e_X11_wrong_28 rfl ?_
      refine GG.goto (tgt := 33) e_X11_wrong_29 rfl ?_
      refine GG.istore_n e_X11_wrong_33 (i := 3) rfl (Nat.le_of_ble_eq_true rfl) (ls' := [(3, .int _), (2, .int _), (0, .ref _), (1, .int _)]) rfl ?_
      refine GG.iconst (v := 0) e_X11_wrong_34 rfl ?_
      refine GG.istore e_X11_wrong_35 (Nat.le_of_ble_eq_true rfl) (ls' := [(4, .int _), (3, .int _), (2, .int _), (0, .ref _), (1, .int _)]) rfl ?_
      first | exact hh q (hok o1) (P + 1) 0 0 ν (by omega) (by omega) hν rfl | exact hz ν (qI (hok o1 ν hν) q2.symm)
  · skip
    have oo := inT h7
    refine GG.aload_n e_X11_wrong_10 (i := 0) rfl 0 rfl ?_
    refine GG.bipush (v := -2) e_X11_wrong_11 rfl ?_
    refine GG.callV (d' := 0) (a := 63) (as := [.int _]) e_X11_wrong_13 ml_X11_55 mf_X11_refuse mv_X11_refuse (rc_X11 i_X11_63) rfl (by decide) (Nat.le_of_ble_eq_true rfl) rfl ?_
    refine s_X11_refB ?_
    refine GG.iret e_X11_wrong_16 rfl rfl ?_
    exact hbad oo
theorem s_X11_isHeardSo {f : Nat → Bool} (hR : MR μ P A) (hB : B ≤ 537) (hT : mrd μ 64 35 = nI T) (hT6 : T ≤ 6) (hf : ∀ q, q < T → f q = rHs μ (rV μ B) (mrd μ 64 (B + 7)) A P w q) (hQ : ∀ ν, gL9 μ ν → Q (some (.int (bI (mAll f T)))) ν) : SPC 4 MX11_isHeardSo [.ref 63, .int (nI B), .int w] μ Q := by
  have e2 : ∀ j, (36 : Int32) + 2 * nI j = nI (36 + 2 * j) := fun j => by rw [show (2 : Int32) = nI 2 from rfl, pk_mul, show (36 : Int32) = nI 36 from rfl, nI_add]
  have e3 : ∀ j, (36 : Int32) + 2 * nI j + 1 = nI (37 + 2 * j) := fun j => by rw [e2, nI_1]; congr 1; omega
  have lp : ∀ n j ν, T - j < n → j ≤ T → gL9 μ ν → GG 4 MX11_isHeardSo 5 [(4, .int (nI j)), (3, .int (bI (mAll f j))), (0, .ref 63), (1, .int (nI B)), (2, .int w)] [] ν Q := by
    intro n
    induction n with
    | zero => intro j ν h; omega
    | succ n ih =>
      intro j ν hn hj hν
      refine GG.iload e_X11_isHeardSo_5 0 rfl ?_
      refine GG.aload_n e_X11_isHeardSo_7 (i := 0) rfl 2 rfl ?_
      refine GG.getR (b := 64) e_X11_isHeardSo_8 fl_X11_7 (sf_X11_0 i_X11_63) ?_
      refine GG.bipush (v := 35) e_X11_isHeardSo_11 rfl ?_
      refine GG.ialoadV (k := 35) (v := nI T) e_X11_isHeardSo_13 (sa_X11_0 i_X11_63) (rfl) (by omega) (Nat.le_of_ble_eq_true rfl) ((hν.row 35).trans hT) ?_
      refine GG.icmp_ge (tgt := 86) e_X11_isHeardSo_14 rfl (fun h14 => ?_) (fun h14 => ?_)
      · skip
        have e : j = T := by have := nle h14 (by omega) (by omega); omega
        subst e
        refine GG.iload_n e_X11_isHeardSo_86 (i := 3) rfl 1 rfl ?_
        refine GG.zret e_X11_isHeardSo_87 rfl (gZ_n (bI_z _)) rfl ?_
        refine qI (hQ ν hν) ?_
        first | rfl | rw [q, mAll_stop q hj]
      · skip
        have e := nnle h14 (by omega) (by omega)
        refine GG.iload_n e_X11_isHeardSo_17 (i := 3) rfl 1 rfl ?_
        refine GG.if_eq (tgt := 86) e_X11_isHeardSo_18 rfl (fun h18 => ?_) (fun h18 => ?_)
        · skip
          have q := (bI_0 _).mp h18
          refine GG.iload_n e_X11_isHeardSo_86 (i := 3) rfl 1 rfl ?_
          refine GG.zret e_X11_isHeardSo_87 rfl (gZ_n (bI_z _)) rfl ?_
          refine qI (hQ ν hν) ?_
          first | rfl | rw [q, mAll_stop q hj]
        · skip
          have q := (bI_n0 _).mp h18
          refine GG.aload_n e_X11_isHeardSo_21 (i := 0) rfl 2 rfl ?_
          refine GG.iload_n e_X11_isHeardSo_22 (i := 1) rfl 3 rfl ?_
          refine GG.iload_n e_X11_isHeardSo_23 (i := 2) rfl 4 rfl ?_
          refine GG.aload_n e_X11_isHeardSo_24 (i := 0) rfl 2 rfl ?_
          refine GG.getR (b := 64) e_X11_isHeardSo_25 fl_X11_7 (sf_X11_0 i_X11_63) ?_
          refine GG.bipush (v := 36) e_X11_isHeardSo_28 rfl ?_
          refine GG.iconst (v := 2) e_X11_isHeardSo_30 rfl ?_
          refine GG.iload e_X11_isHeardSo_31 0 rfl ?_
          refine GG.imul e_X11_isHeardSo_33 ?_
          refine GG.iadd e_X11_isHeardSo_34 ?_
          refine GG.ialoadV (k := 36 + 2 * j) (v := mrd μ 64 (36 + 2 * j)) e_X11_isHeardSo_35 (sa_X11_0 i_X11_63) (e2 j) (by omega) (Nat.le_of_ble_eq_true rfl) (hν.row _) ?_
          refine GG.iconst (v := -1) e_X11_isHeardSo_36 rfl ?_
          refine GG.callV (d' := 3) (a := 63) (as := [.int _, .int _, .int _, .int _]) e_X11_isHeardSo_37 ml_X11_149 mf_X11_soundBy mv_X11_soundBy (rc_X11 i_X11_63) rfl (by decide) (Nat.le_of_ble_eq_true rfl) rfl ?_
          refine s_X11_soundByS (hν.rl hR) hB (fun ν2 hν2 => ?_)
          rw [hν.st]
          refine GG.if_le (tgt := 47) e_X11_isHeardSo_40 rfl (fun h40 => ?_) (fun h40 => ?_)
          · skip
            refine GG.iconst (v := 0) e_X11_isHeardSo_47 rfl ?_
            refine GG.aload_n e_X11_isHeardSo_48 (i := 0) rfl 2 rfl ?_
            refine GG.getR (b := 64) e_X11_isHeardSo_49 fl_X11_7 (sf_X11_0 i_X11_63) ?_
            refine GG.bipush (v := 36) e_X11_isHeardSo_52 rfl ?_
            refine GG.iconst (v := 2) e_X11_isHeardSo_54 rfl ?_
            refine GG.iload e_X11_isHeardSo_55 0 rfl ?_
            refine GG.imul e_X11_isHeardSo_57 ?_
            refine GG.iadd e_X11_isHeardSo_58 ?_
            refine GG.iconst (v := 1) e_X11_isHeardSo_59 rfl ?_
            refine GG.iadd e_X11_isHeardSo_60 ?_
            refine GG.ialoadV (k := 37 + 2 * j) (v := mrd μ 64 (37 + 2 * j)) e_X11_isHeardSo_61 (sa_X11_0 i_X11_63) (e3 j) (by omega) (Nat.le_of_ble_eq_true rfl) ((hν.tr hν2).row _) ?_
            refine GG.iconst (v := 1) e_X11_isHeardSo_62 rfl ?_
            refine GG.icmp_ne (tgt := 70) e_X11_isHeardSo_63 rfl (fun h63 => ?_) (fun h63 => ?_)
            · skip
              refine GG.iconst (v := 0) e_X11_isHeardSo_70 rfl ?_
              refine GG.icmp_ne (tgt := 78) e_X11_isHeardSo_71 rfl (fun h71 => ?_) (fun h71 => ?_)
              · skip
                refine GG.iconst (v := 0) e_X11_isHeardSo_78 rfl ?_
                refine GG.istore_n e_X11_isHeardSo_79 (i := 3) rfl (Nat.le_of_ble_eq_true rfl) (ls' := [(3, .int _), (4, .int _), (0, .ref _), (1, .int _), (2, .int _)]) rfl ?_
                refine GG.iinc e_X11_isHeardSo_80 1 rfl (v := _) (by first | exact nI_s _ | exact nI_d _ | rfl) (Nat.le_of_ble_eq_true rfl) (ls' := [(4, .int _), (3, .int _), (0, .ref _), (1, .int _), (2, .int _)]) rfl ?_
                refine GG.goto (tgt := 5) e_X11_isHeardSo_83 rfl ?_
                have q2 := hf j e
                have e3 : bI (mAll f (j + 1)) = bI (f j) := by rw [mAll, q, Bool.true_and]
                have h := ih (j + 1) ν2 (by omega) (by omega) (hν.tr hν2)
                rw [e3, q2] at h
                unfold rHs at h
                first | rw [decide_eq_false (show ¬ 0 < vSnd (rV μ B) (mrd μ 64 (B + 7)) A w P (mrd μ 64 (36 + 2 * j)) from Int32.not_lt.mpr h40)] at h | rw [decide_eq_true (show 0 < vSnd (rV μ B) (mrd μ 64 (B + 7)) A w P (mrd μ 64 (36 + 2 * j)) from Int32.not_le.mp h40)] at h
                first | rw [decide_eq_true h63] at h | rw [decide_eq_false h63] at h
                first | exact h | exact absurd h71 (by decide) | exact absurd rfl h71
              · skip
                refine GG.iconst (v := 1) e_X11_isHeardSo_74 rfl ?_
                refine GG.goto (tgt := 79) e_X11_isHeardSo_75 rfl ?_
                refine GG.istore_n e_X11_isHeardSo_79 (i := 3) rfl (Nat.le_of_ble_eq_true rfl) (ls' := [(3, .int _), (4, .int _), (0, .ref _), (1, .int _), (2, .int _)]) rfl ?_
                refine GG.iinc e_X11_isHeardSo_80 1 rfl (v := _) (by first | exact nI_s _ | exact nI_d _ | rfl) (Nat.le_of_ble_eq_true rfl) (ls' := [(4, .int _), (3, .int _), (0, .ref _), (1, .int _), (2, .int _)]) rfl ?_
                refine GG.goto (tgt := 5) e_X11_isHeardSo_83 rfl ?_
                have q2 := hf j e
                have e3 : bI (mAll f (j + 1)) = bI (f j) := by rw [mAll, q, Bool.true_and]
                have h := ih (j + 1) ν2 (by omega) (by omega) (hν.tr hν2)
                rw [e3, q2] at h
                unfold rHs at h
                first | rw [decide_eq_false (show ¬ 0 < vSnd (rV μ B) (mrd μ 64 (B + 7)) A w P (mrd μ 64 (36 + 2 * j)) from Int32.not_lt.mpr h40)] at h | rw [decide_eq_true (show 0 < vSnd (rV μ B) (mrd μ 64 (B + 7)) A w P (mrd μ 64 (36 + 2 * j)) from Int32.not_le.mp h40)] at h
                first | rw [decide_eq_true h63] at h | rw [decide_eq_false h63] at h
                first | exact h | exact absurd h71 (by decide) | exact absurd rfl h71
            · skip
              refine GG.iconst (v := 1) e_X11_isHeardSo_66 rfl ?_
              refine GG.goto (tgt := 71) e_X11_isHeardSo_67 rfl ?_
              refine GG.icmp_ne (tgt := 78) e_X11_isHeardSo_71 rfl (fun h71 => ?_) (fun h71 => ?_)
              · skip
                refine GG.iconst (v := 0) e_X11_isHeardSo_78 rfl ?_
                refine GG.istore_n e_X11_isHeardSo_79 (i := 3) rfl (Nat.le_of_ble_eq_true rfl) (ls' := [(3, .int _), (4, .int _), (0, .ref _), (1, .int _), (2, .int _)]) rfl ?_
                refine GG.iinc e_X11_isHeardSo_80 1 rfl (v := _) (by first | exact nI_s _ | exact nI_d _ | rfl) (Nat.le_of_ble_eq_true rfl) (ls' := [(4, .int _), (3, .int _), (0, .ref _), (1, .int _), (2, .int _)]) rfl ?_
                refine GG.goto (tgt := 5) e_X11_isHeardSo_83 rfl ?_
                have q2 := hf j e
                have e3 : bI (mAll f (j + 1)) = bI (f j) := by rw [mAll, q, Bool.true_and]
                have h := ih (j + 1) ν2 (by omega) (by omega) (hν.tr hν2)
                rw [e3, q2] at h
                unfold rHs at h
                first | rw [decide_eq_false (show ¬ 0 < vSnd (rV μ B) (mrd μ 64 (B + 7)) A w P (mrd μ 64 (36 + 2 * j)) from Int32.not_lt.mpr h40)] at h | rw [decide_eq_true (show 0 < vSnd (rV μ B) (mrd μ 64 (B + 7)) A w P (mrd μ 64 (36 + 2 * j)) from Int32.not_le.mp h40)] at h
                first | rw [decide_eq_true h63] at h | rw [decide_eq_false h63] at h
                first | exact h | exact absurd h71 (by decide) | exact absurd rfl h71
              · skip
                refine GG.iconst (v := 1) e_X11_isHeardSo_74 rfl ?_
                refine GG.goto (tgt := 79) e_X11_isHeardSo_75 rfl ?_
                refine GG.istore_n e_X11_isHeardSo_79 (i := 3) rfl (Nat.le_of_ble_eq_true rfl) (ls' := [(3, .int _), (4, .int _), (0, .ref _), (1, .int _), (2, .int _)]) rfl ?_
                refine GG.iinc e_X11_isHeardSo_80 1 rfl (v := _) (by first | exact nI_s _ | exact nI_d _ | rfl) (Nat.le_of_ble_eq_true rfl) (ls' := [(4, .int _), (3, .int _), (0, .ref _), (1, .int _), (2, .int _)]) rfl ?_
                refine GG.goto (tgt := 5) e_X11_isHeardSo_83 rfl ?_
                have q2 := hf j e
                have e3 : bI (mAll f (j + 1)) = bI (f j) := by rw [mAll, q, Bool.true_and]
                have h := ih (j + 1) ν2 (by omega) (by omega) (hν.tr hν2)
                rw [e3, q2] at h
                unfold rHs at h
                first | rw [decide_eq_false (show ¬ 0 < vSnd (rV μ B) (mrd μ 64 (B + 7)) A w P (mrd μ 64 (36 + 2 * j)) from Int32.not_lt.mpr h40)] at h | rw [decide_eq_true (show 0 < vSnd (rV μ B) (mrd μ 64 (B + 7)) A w P (mrd μ 64 (36 + 2 * j)) from Int32.not_le.mp h40)] at h
                first | rw [decide_eq_true h63] at h | rw [decide_eq_false h63] at h
                first | exact h | exact absurd h71 (by decide) | exact absurd rfl h71
          · skip
            refine GG.iconst (v := 1) e_X11_isHeardSo_43 rfl ?_
            refine GG.goto (tgt := 48) e_X11_isHeardSo_44 rfl ?_
            refine GG.aload_n e_X11_isHeardSo_48 (i := 0) rfl 2 rfl ?_
            refine GG.getR (b := 64) e_X11_isHeardSo_49 fl_X11_7 (sf_X11_0 i_X11_63) ?_
            refine GG.bipush (v := 36) e_X11_isHeardSo_52 rfl ?_
            refine GG.iconst (v := 2) e_X11_isHeardSo_54 rfl ?_
            refine GG.iload e_X11_isHeardSo_55 0 rfl ?_
            refine GG.imul e_X11_isHeardSo_57 ?_
            refine GG.iadd e_X11_isHeardSo_58 ?_
            refine GG.iconst (v := 1) e_X11_isHeardSo_59 rfl ?_
            refine GG.iadd e_X11_isHeardSo_60 ?_
            refine GG.ialoadV (k := 37 + 2 * j) (v := mrd μ 64 (37 + 2 * j)) e_X11_isHeardSo_61 (sa_X11_0 i_X11_63) (e3 j) (by omega) (Nat.le_of_ble_eq_true rfl) ((hν.tr hν2).row _) ?_
            refine GG.iconst (v := 1) e_X11_isHeardSo_62 rfl ?_
            refine GG.icmp_ne (tgt := 70) e_X11_isHeardSo_63 rfl (fun h63 => ?_) (fun h63 => ?_)
            · skip
              refine GG.iconst (v := 0) e_X11_isHeardSo_70 rfl ?_
              refine GG.icmp_ne (tgt := 78) e_X11_isHeardSo_71 rfl (fun h71 => ?_) (fun h71 => ?_)
              · skip
                refine GG.iconst (v := 0) e_X11_isHeardSo_78 rfl ?_
                refine GG.istore_n e_X11_isHeardSo_79 (i := 3) rfl (Nat.le_of_ble_eq_true rfl) (ls' := [(3, .int _), (4, .int _), (0, .ref _), (1, .int _), (2, .int _)]) rfl ?_
                refine GG.iinc e_X11_isHeardSo_80 1 rfl (v := _) (by first | exact nI_s _ | exact nI_d _ | rfl) (Nat.le_of_ble_eq_true rfl) (ls' := [(4, .int _), (3, .int _), (0, .ref _), (1, .int _), (2, .int _)]) rfl ?_
                refine GG.goto (tgt := 5) e_X11_isHeardSo_83 rfl ?_
                have q2 := hf j e
                have e3 : bI (mAll f (j + 1)) = bI (f j) := by rw [mAll, q, Bool.true_and]
                have h := ih (j + 1) ν2 (by omega) (by omega) (hν.tr hν2)
                rw [e3, q2] at h
                unfold rHs at h
                first | rw [decide_eq_false (show ¬ 0 < vSnd (rV μ B) (mrd μ 64 (B + 7)) A w P (mrd μ 64 (36 + 2 * j)) from Int32.not_lt.mpr h40)] at h | rw [decide_eq_true (show 0 < vSnd (rV μ B) (mrd μ 64 (B + 7)) A w P (mrd μ 64 (36 + 2 * j)) from Int32.not_le.mp h40)] at h
                first | rw [decide_eq_true h63] at h | rw [decide_eq_false h63] at h
                first | exact h | exact absurd h71 (by decide) | exact absurd rfl h71
              · skip
                refine GG.iconst (v := 1) e_X11_isHeardSo_74 rfl ?_
                refine GG.goto (tgt := 79) e_X11_isHeardSo_75 rfl ?_
                refine GG.istore_n e_X11_isHeardSo_79 (i := 3) rfl (Nat.le_of_ble_eq_true rfl) (ls' := [(3, .int _), (4, .int _), (0, .ref _), (1, .int _), (2, .int _)]) rfl ?_
                refine GG.iinc e_X11_isHeardSo_80 1 rfl (v := _) (by first | exact nI_s _ | exact nI_d _ | rfl) (Nat.le_of_ble_eq_true rfl) (ls' := [(4, .int _), (3, .int _), (0, .ref _), (1, .int _), (2, .int _)]) rfl ?_
                refine GG.goto (tgt := 5) e_X11_isHeardSo_83 rfl ?_
                have q2 := hf j e
                have e3 : bI (mAll f (j + 1)) = bI (f j) := by rw [mAll, q, Bool.true_and]
                have h := ih (j + 1) ν2 (by omega) (by omega) (hν.tr hν2)
                rw [e3, q2] at h
                unfold rHs at h
                first | rw [decide_eq_false (show ¬ 0 < vSnd (rV μ B) (mrd μ 64 (B + 7)) A w P (mrd μ 64 (36 + 2 * j)) from Int32.not_lt.mpr h40)] at h | rw [decide_eq_true (show 0 < vSnd (rV μ B) (mrd μ 64 (B + 7)) A w P (mrd μ 64 (36 + 2 * j)) from Int32.not_le.mp h40)] at h
                first | rw [decide_eq_true h63] at h | rw [decide_eq_false h63] at h
                first | exact h | exact absurd h71 (by decide) | exact absurd rfl h71
            · skip
              refine GG.iconst (v := 1) e_X11_isHeardSo_66 rfl ?_
              refine GG.goto (tgt := 71) e_X11_isHeardSo_67 rfl ?_
              refine GG.icmp_ne (tgt := 78) e_X11_isHeardSo_71 rfl (fun h71 => ?_) (fun h71 => ?_)
              · skip
                refine GG.iconst (v := 0) e_X11_isHeardSo_78 rfl ?_
                refine GG.istore_n e_X11_isHeardSo_79 (i := 3) rfl (Nat.le_of_ble_eq_true rfl) (ls' := [(3, .int _), (4, .int _), (0, .ref _), (1, .int _), (2, .int _)]) rfl ?_
                refine GG.iinc e_X11_isHeardSo_80 1 rfl (v := _) (by first | exact nI_s _ | exact nI_d _ | rfl) (Nat.le_of_ble_eq_true rfl) (ls' := [(4, .int _), (3, .int _), (0, .ref _), (1, .int _), (2, .int _)]) rfl ?_
                refine GG.goto (tgt := 5) e_X11_isHeardSo_83 rfl ?_
                have q2 := hf j e
                have e3 : bI (mAll f (j + 1)) = bI (f j) := by rw [mAll, q, Bool.true_and]
                have h := ih (j + 1) ν2 (by omega) (by omega) (hν.tr hν2)
                rw [e3, q2] at h
                unfold rHs at h
                first | rw [decide_eq_false (show ¬ 0 < vSnd (rV μ B) (mrd μ 64 (B + 7)) A w P (mrd μ 64 (36 + 2 * j)) from Int32.not_lt.mpr h40)] at h | rw [decide_eq_true (show 0 < vSnd (rV μ B) (mrd μ 64 (B + 7)) A w P (mrd μ 64 (36 + 2 * j)) from Int32.not_le.mp h40)] at h
                first | rw [decide_eq_true h63] at h | rw [decide_eq_false h63] at h
                first | exact h | exact absurd h71 (by decide) | exact absurd rfl h71
              · skip
                refine GG.iconst (v := 1) e_X11_isHeardSo_74 rfl ?_
                refine GG.goto (tgt := 79) e_X11_isHeardSo_75 rfl ?_
                refine GG.istore_n e_X11_isHeardSo_79 (i := 3) rfl (Nat.le_of_ble_eq_true rfl) (ls' := [(3, .int _), (4, .int _), (0, .ref _), (1, .int _), (2, .int _)]) rfl ?_
                refine GG.iinc e_X11_isHeardSo_80 1 rfl (v := _) (by first | exact nI_s _ | exact nI_d _ | rfl) (Nat.le_of_ble_eq_true rfl) (ls' := [(4, .int _), (3, .int _), (0, .ref _), (1, .int _), (2, .int _)]) rfl ?_
                refine GG.goto (tgt := 5) e_X11_isHeardSo_83 rfl ?_
                have q2 := hf j e
                have e3 : bI (mAll f (j + 1)) = bI (f j) := by rw [mAll, q, Bool.true_and]
                have h := ih (j + 1) ν2 (by omega) (by omega) (hν.tr hν2)
                rw [e3, q2] at h
                unfold rHs at h
                first | rw [decide_eq_false (show ¬ 0 < vSnd (rV μ B) (mrd μ 64 (B + 7)) A w P (mrd μ 64 (36 + 2 * j)) from Int32.not_lt.mpr h40)] at h | rw [decide_eq_true (show 0 < vSnd (rV μ B) (mrd μ 64 (B + 7)) A w P (mrd μ 64 (36 + 2 * j)) from Int32.not_le.mp h40)] at h
                first | rw [decide_eq_true h63] at h | rw [decide_eq_false h63] at h
                first | exact h | exact absurd h71 (by decide) | exact absurd rfl h71
  refine SPC.of (by decide +kernel) (Nat.le_of_ble_eq_true rfl) (ls := [(0, .ref (63)), (1, .int (nI B)), (2, .int (w))]) rfl ?_
  refine GG.iconst (v := 1) e_X11_isHeardSo_0 rfl ?_
  refine GG.istore_n e_X11_isHeardSo_1 (i := 3) rfl (Nat.le_of_ble_eq_true rfl) (ls' := [(3, .int _), (0, .ref _), (1, .int _), (2, .int _)]) rfl ?_
  refine GG.iconst (v := 0) e_X11_isHeardSo_2 rfl ?_
  refine GG.istore e_X11_isHeardSo_3 (Nat.le_of_ble_eq_true rfl) (ls' := [(4, .int _), (3, .int _), (0, .ref _), (1, .int _), (2, .int _)]) rfl ?_
  exact lp (T + 1) 0 μ (by omega) (by omega) (gL9.rf μ)
end S37
