/-! THE REFERENCE: the text, the next token -/
section S47
variable {μ : gM} {Q : Option Value → gM → Prop} {L k p : Nat} {b : Nat → Int32}
theorem s_X11_next (hL : mrd μ 63 6 = nI L) (hL5 : L ≤ 150) (hp : mrd μ 63 9 = nI p) (hpL : p ≤ L) (hb : mrd μ 67 = b) (hQ : Q none (mwr (mwr μ 63 8 (nI (T1 b L p))) 63 9 (nI (T3 b L p)))) : SPC 2 MX11_next [.ref 63] μ Q := by
  have t1 := T1_b (b := b) hpL
  have t3 := T3_b (b := b) hpL
  generalize ha : T1 b L p = a at *
  generalize he : T3 b L p = e3 at *
  have rd : ∀ e j, ¬ j = 8 → ¬ j = 9 → mrd (mwr (mwr μ 63 8 (nI a)) 63 9 (nI e)) 63 j = mrd μ 63 j := fun e j h1 h2 => by rw [mrd_wr, if_neg (by omega), mrd_wr, if_neg (by omega)]
  have r8 : ∀ e, mrd (mwr (mwr μ 63 8 (nI a)) 63 9 (nI e)) 63 8 = nI a := fun e => by rw [mrd_wr, if_neg (by omega), mrd_wr, if_pos ⟨rfl, rfl⟩]
  have r9 : ∀ e, mrd (mwr (mwr μ 63 8 (nI a)) 63 9 (nI e)) 63 9 = nI e := fun e => by rw [mrd_wr, if_pos ⟨rfl, rfl⟩]
  have rb : ∀ e, mrd (mwr (mwr μ 63 8 (nI a)) 63 9 (nI e)) 67 = b := fun e => by
    rw [← hb]; funext j; rw [mrd_wr, if_neg (by omega), mrd_wr, if_neg (by omega)]
  have wr9 : ∀ e x, mwr (mwr (mwr μ 63 8 (nI a)) 63 9 (nI e)) 63 9 x = mwr (mwr μ 63 8 (nI a)) 63 9 x := fun e x => by
    refine gM_ext (fun c q => ?_) (fun c q => by simp only [mrL_wr])
    simp only [mrd_wr]
    grind
  have hK : ∀ kd e, kd = 1 ∨ kd = 2 → ∀ (k : Nat) (Q : Option Value → gM → Prop), k ≤ 150 → Q (some (.int (bI (decide (k < L ∧ tKd (b k) = kd))))) (mwr (mwr μ 63 8 (nI a)) 63 9 (nI e)) → (kd = 1 → SPC 1 MX11_isLetter [.ref 63, .int (nI k)] (mwr (mwr μ 63 8 (nI a)) 63 9 (nI e)) Q) ∧ (kd = 2 → SPC 1 MX11_isFigure [.ref 63, .int (nI k)] (mwr (mwr μ 63 8 (nI a)) 63 9 (nI e)) Q) := fun kd e _ k Q hk h =>
    s_X11_isKd (by rw [rd e 6 (by omega) (by omega), hL]) hL5 hk (rb e) h
  have kd0 : (a < L ∧ tKd (b a) = 1) ↔ T2 b L p = 1 := by
    unfold T2
    rw [ha]
    split
    · next h => exact ⟨fun z => z.2, fun z => ⟨h, z⟩⟩
    · next h => exact ⟨fun z => absurd z.1 h, fun z => by cases z⟩
  have kd2 : (a < L ∧ tKd (b a) = 2) ↔ T2 b L p = 2 := by
    unfold T2
    rw [ha]
    split
    · next h => exact ⟨fun z => z.2, fun z => ⟨h, z⟩⟩
    · next h => exact ⟨fun z => absurd z.1 h, fun z => by cases z⟩
  have lp3 : ∀ n e, L - e < n → e ≤ L → (T2 b L p = 2 → tEx b L 2 (L - e) e = e3) → (¬ T2 b L p = 2 → e = e3) → GG 2 MX11_next 109 [(0, .ref 63)] [] (mwr (mwr μ 63 8 (nI a)) 63 9 (nI e)) Q := by
    intro n
    induction n with
    | zero => intro e h; omega
    | succ n ih =>
      intro e hn he1 h2 hn2
      refine GG.aload_n e_X11_next_109 (i := 0) rfl 0 rfl ?_
      refine GG.aload_n e_X11_next_110 (i := 0) rfl 0 rfl ?_
      refine GG.getIv (v := nI a) e_X11_next_111 fl_X11_78 (sf_X11_8 i_X11_63) (r8 e) ?_
      refine GG.callV (d' := 1) (a := 63) (as := [.int _]) e_X11_next_114 ml_X11_85 mf_X11_isFigure mv_X11_isFigure (rc_X11 i_X11_63) rfl (by decide) (Nat.le_of_ble_eq_true rfl) rfl ?_
      refine (hK 2 e (Or.inr rfl) a _ (by omega) ?_).2 rfl
      refine GG.if_eq (tgt := 144) e_X11_next_117 rfl (fun h117 => ?_) (fun h117 => ?_)
      · skip
        have g : ¬ T2 b L p = 2 := fun z => of_decide_eq_false ((bI_0 _).mp h117) (kd2.mpr z)
        have hee := hn2 g
        refine GG.vret e_X11_next_144 rfl rfl ?_
        rw [hee]
        exact hQ
      · skip
        have g : T2 b L p = 2 := kd2.mp (of_decide_eq_true ((bI_n0 _).mp h117))
        refine GG.aload_n e_X11_next_120 (i := 0) rfl 0 rfl ?_
        refine GG.aload_n e_X11_next_121 (i := 0) rfl 0 rfl ?_
        refine GG.getIv (v := nI e) e_X11_next_122 fl_X11_75 (sf_X11_9 i_X11_63) (r9 e) ?_
        refine GG.callV (d' := 1) (a := 63) (as := [.int _]) e_X11_next_125 ml_X11_85 mf_X11_isFigure mv_X11_isFigure (rc_X11 i_X11_63) rfl (by decide) (Nat.le_of_ble_eq_true rfl) rfl ?_
        refine (hK 2 e (Or.inr rfl) e _ (by omega) ?_).2 rfl
        refine GG.if_eq (tgt := 144) e_X11_next_128 rfl (fun h128 => ?_) (fun h128 => ?_)
        · skip
          have q := of_decide_eq_false ((bI_0 _).mp h128)
          have hee : e = e3 := by rw [← h2 g]; cases hm : L - e with | zero => rfl | succ m => rw [tEx, if_neg q]
          refine GG.vret e_X11_next_144 rfl rfl ?_
          rw [hee]
          exact hQ
        · skip
          have q := of_decide_eq_true ((bI_n0 _).mp h128)
          refine GG.aload_n e_X11_next_131 (i := 0) rfl 0 rfl ?_
          refine GG.dup e_X11_next_132 rfl ?_
          refine GG.getIv (v := nI e) e_X11_next_133 fl_X11_75 (sf_X11_9 i_X11_63) (r9 e) ?_
          refine GG.iconst (v := 1) e_X11_next_136 rfl ?_
          refine GG.iadd e_X11_next_137 ?_
          refine GG.top (nI_1 e) ?_
          refine GG.putI e_X11_next_138 fl_X11_75 fp_X11_9 (sf_X11_9 i_X11_63) ?_
          refine GG.goto (tgt := 109) e_X11_next_141 rfl ?_
          refine GG.mem (wr9 e _) (ih (e + 1) (by omega) (by omega) (fun _ => ?_) (fun z => absurd g z))
          have z := h2 g
          rw [show L - e = (L - (e + 1)) + 1 by omega, tEx, if_pos q] at z
          exact z
  have lp2 : ∀ n e, L - e < n → e ≤ L → (T2 b L p = 1 → tEx b L 1 (L - e) e = e3) → (T2 b L p = 2 → tEx b L 2 (L - e) e = e3) → (¬ T2 b L p = 1 → ¬ T2 b L p = 2 → e = e3) → GG 2 MX11_next 74 [(0, .ref 63)] [] (mwr (mwr μ 63 8 (nI a)) 63 9 (nI e)) Q := by
    intro n
    induction n with
    | zero => intro e h; omega
    | succ n ih =>
      intro e hn he1 h1 h2 hn2
      refine GG.aload_n e_X11_next_74 (i := 0) rfl 0 rfl ?_
      refine GG.aload_n e_X11_next_75 (i := 0) rfl 0 rfl ?_
      refine GG.getIv (v := nI a) e_X11_next_76 fl_X11_78 (sf_X11_8 i_X11_63) (r8 e) ?_
      refine GG.callV (d' := 1) (a := 63) (as := [.int _]) e_X11_next_79 ml_X11_81 mf_X11_isLetter mv_X11_isLetter (rc_X11 i_X11_63) rfl (by decide) (Nat.le_of_ble_eq_true rfl) rfl ?_
      refine (hK 1 e (Or.inl rfl) a _ (by omega) ?_).1 rfl
      refine GG.if_eq (tgt := 109) e_X11_next_82 rfl (fun h82 => ?_) (fun h82 => ?_)
      · skip
        have g : ¬ T2 b L p = 1 := fun z => of_decide_eq_false ((bI_0 _).mp h82) (kd0.mpr z)
        have q1 := h2
        have q2 := hn2 g
        exact lp3 (L - e + 1) e (by omega) he1 q1 q2
      · skip
        have g : T2 b L p = 1 := kd0.mp (of_decide_eq_true ((bI_n0 _).mp h82))
        refine GG.aload_n e_X11_next_85 (i := 0) rfl 0 rfl ?_
        refine GG.aload_n e_X11_next_86 (i := 0) rfl 0 rfl ?_
        refine GG.getIv (v := nI e) e_X11_next_87 fl_X11_75 (sf_X11_9 i_X11_63) (r9 e) ?_
        refine GG.callV (d' := 1) (a := 63) (as := [.int _]) e_X11_next_90 ml_X11_81 mf_X11_isLetter mv_X11_isLetter (rc_X11 i_X11_63) rfl (by decide) (Nat.le_of_ble_eq_true rfl) rfl ?_
        refine (hK 1 e (Or.inl rfl) e _ (by omega) ?_).1 rfl
        refine GG.if_eq (tgt := 109) e_X11_next_93 rfl (fun h93 => ?_) (fun h93 => ?_)
        · skip
          have q := of_decide_eq_false ((bI_0 _).mp h93)
          have hee : e = e3 := by rw [← h1 g]; cases hm : L - e with | zero => rfl | succ m => rw [tEx, if_neg q]
          have q1 : T2 b L p = 2 → tEx b L 2 (L - e) e = e3 := fun z => by rw [g] at z; cases z
          have q2 : ¬ T2 b L p = 2 → e = e3 := fun _ => hee
          exact lp3 (L - e + 1) e (by omega) he1 q1 q2
        · skip
          have q := of_decide_eq_true ((bI_n0 _).mp h93)
          refine GG.aload_n e_X11_next_96 (i := 0) rfl 0 rfl ?_
          refine GG.dup e_X11_next_97 rfl ?_
          refine GG.getIv (v := nI e) e_X11_next_98 fl_X11_75 (sf_X11_9 i_X11_63) (r9 e) ?_
          refine GG.iconst (v := 1) e_X11_next_101 rfl ?_
          refine GG.iadd e_X11_next_102 ?_
          refine GG.top (nI_1 e) ?_
          refine GG.putI e_X11_next_103 fl_X11_75 fp_X11_9 (sf_X11_9 i_X11_63) ?_
          refine GG.goto (tgt := 74) e_X11_next_106 rfl ?_
          refine GG.mem (wr9 e _) (ih (e + 1) (by omega) (by omega) (fun _ => ?_) (fun z => by rw [g] at z; cases z) (fun z => absurd g z))
          have z := h1 g
          rw [show L - e = (L - (e + 1)) + 1 by omega, tEx, if_pos q] at z
          exact z
  have j46 : GG 2 MX11_next 46 [(0, .ref 63)] [] (mwr μ 63 8 (nI a)) Q := by
    have a8 : mrd (mwr μ 63 8 (nI a)) 63 8 = nI a := by rw [mrd_wr, if_pos ⟨rfl, rfl⟩]
    unfold T3 at he
    rw [ha] at he
    refine GG.aload_n e_X11_next_46 (i := 0) rfl 0 rfl ?_
    refine GG.aload_n e_X11_next_47 (i := 0) rfl 0 rfl ?_
    refine GG.getIv (v := nI a) e_X11_next_48 fl_X11_78 (sf_X11_8 i_X11_63) (a8) ?_
    refine GG.aload_n e_X11_next_51 (i := 0) rfl 0 rfl ?_
    refine GG.getIv (v := nI L) e_X11_next_52 fl_X11_71 (sf_X11_6 i_X11_63) (by rw [mrd_wr, if_neg (by omega), hL]) ?_
    refine GG.icmp_ge (tgt := 67) e_X11_next_55 rfl (fun h55 => ?_) (fun h55 => ?_)
    · skip
      have e : ¬ a < L := by have := nle h55 (by omega) (by omega); omega
      have g0 : T2 b L p = 0 := by unfold T2; rw [ha, if_neg e]
      rw [if_pos g0] at he
      have w := lp2 (L + 1) a (by omega) (by omega) (fun z => by rw [g0] at z; cases z) (fun z => by rw [g0] at z; cases z) (fun _ _ => he)
      refine GG.aload_n e_X11_next_67 (i := 0) rfl 0 rfl ?_
      refine GG.getIv (v := nI a) e_X11_next_68 fl_X11_78 (sf_X11_8 i_X11_63) (a8) ?_
      refine GG.putI e_X11_next_71 fl_X11_75 fp_X11_9 (sf_X11_9 i_X11_63) ?_
      exact w
    · skip
      have e : a < L := nnle h55 (by omega) (by omega)
      have g0 : ¬ T2 b L p = 0 := by unfold T2; rw [ha, if_pos e]; have := (tKd_le (b a)).1; omega
      rw [if_neg g0] at he
      have g1 : T2 b L p = 1 → tEx b L 1 (L - (a + 1)) (a + 1) = e3 := fun z => by rw [if_pos (Or.inl z), z] at he; exact he
      have g2 : T2 b L p = 2 → tEx b L 2 (L - (a + 1)) (a + 1) = e3 := fun z => by rw [if_pos (Or.inr z), z] at he; exact he
      have g3 : ¬ T2 b L p = 1 → ¬ T2 b L p = 2 → a + 1 = e3 := fun z1 z2 => by rw [if_neg (fun z => z.elim z1 z2)] at he; exact he
      have w := lp2 (L + 1) (a + 1) (by omega) (by omega) g1 g2 g3
      refine GG.aload_n e_X11_next_58 (i := 0) rfl 0 rfl ?_
      refine GG.getIv (v := nI a) e_X11_next_59 fl_X11_78 (sf_X11_8 i_X11_63) (a8) ?_
      refine GG.iconst (v := 1) e_X11_next_62 rfl ?_
      refine GG.iadd e_X11_next_63 ?_
      refine GG.top (nI_1 a) ?_
      refine GG.goto (tgt := 71) e_X11_next_64 rfl ?_
      refine GG.putI e_X11_next_71 fl_X11_75 fp_X11_9 (sf_X11_9 i_X11_63) ?_
      exact w
  have lp1 : ∀ n x, L - x < n → x ≤ L → tSk b L (L - x) x = a → GG 2 MX11_next 8 [(0, .ref 63)] [] (mwr μ 63 8 (nI x)) Q := by
    intro n
    induction n with
    | zero => intro x h; omega
    | succ n ih =>
      intro x hn hx hs
      have x8 : mrd (mwr μ 63 8 (nI x)) 63 8 = nI x := by rw [mrd_wr, if_pos ⟨rfl, rfl⟩]
      refine GG.aload_n e_X11_next_8 (i := 0) rfl 0 rfl ?_
      refine GG.getIv (v := nI x) e_X11_next_9 fl_X11_78 (sf_X11_8 i_X11_63) (x8) ?_
      refine GG.aload_n e_X11_next_12 (i := 0) rfl 0 rfl ?_
      refine GG.getIv (v := nI L) e_X11_next_13 fl_X11_71 (sf_X11_6 i_X11_63) (by rw [mrd_wr, if_neg (by omega), hL]) ?_
      refine GG.icmp_ge (tgt := 46) e_X11_next_16 rfl (fun h16 => ?_) (fun h16 => ?_)
      · skip
        have e : x = L := by have := nle h16 (by omega) (by omega); omega
        have hxa : x = a := by rw [e, Nat.sub_self] at hs; rw [e]; exact hs
        rw [hxa]
        exact j46
      · skip
        have e : x < L := nnle h16 (by omega) (by omega)
        rw [show L - x = (L - (x + 1)) + 1 by omega, tSk] at hs
        refine GG.aload_n e_X11_next_19 (i := 0) rfl 0 rfl ?_
        refine GG.getR (b := 67) e_X11_next_20 fl_X11_24 (sf_X11_5 i_X11_63) ?_
        refine GG.aload_n e_X11_next_23 (i := 0) rfl 0 rfl ?_
        refine GG.getIv (v := nI x) e_X11_next_24 fl_X11_78 (sf_X11_8 i_X11_63) (x8) ?_
        refine GG.ialoadV (k := x) (v := b x) e_X11_next_27 (sa_X11_5 i_X11_63) (rfl) (by omega) (Nat.le_of_ble_eq_true rfl) (by rw [mrd_wr, if_neg (by omega), hb]) ?_
        refine GG.bipush (v := 32) e_X11_next_28 rfl ?_
        refine GG.icmp_ne (tgt := 46) e_X11_next_30 rfl (fun h30 => ?_) (fun h30 => ?_)
        · skip
          rw [if_neg (fun z => h30 z.2)] at hs
          have hxa : x = a := hs
          rw [hxa]
          exact j46
        · skip
          rw [if_pos ⟨e, h30⟩] at hs
          refine GG.aload_n e_X11_next_33 (i := 0) rfl 0 rfl ?_
          refine GG.dup e_X11_next_34 rfl ?_
          refine GG.getIv (v := nI x) e_X11_next_35 fl_X11_78 (sf_X11_8 i_X11_63) (x8) ?_
          refine GG.iconst (v := 1) e_X11_next_38 rfl ?_
          refine GG.iadd e_X11_next_39 ?_
          refine GG.top (nI_1 x) ?_
          refine GG.putI e_X11_next_40 fl_X11_78 fp_X11_8 (sf_X11_8 i_X11_63) ?_
          refine GG.goto (tgt := 8) e_X11_next_43 rfl ?_
          refine GG.mem ?_ (ih (x + 1) (by omega) (by omega) hs)
          refine gM_ext (fun c q => ?_) (fun c q => by simp only [mrL_wr])
          simp only [mrd_wr]
          grind
  refine SPC.of (by decide +kernel) (Nat.le_of_ble_eq_true rfl) (ls := [(0, .ref (63))]) rfl ?_
  refine GG.aload_n e_X11_next_0 (i := 0) rfl 0 rfl ?_
  refine GG.aload_n e_X11_next_1 (i := 0) rfl 0 rfl ?_
  refine GG.getIv (v := nI p) e_X11_next_2 fl_X11_75 (sf_X11_9 i_X11_63) (hp) ?_
  refine GG.putI e_X11_next_5 fl_X11_78 fp_X11_8 (sf_X11_8 i_X11_63) ?_
  exact lp1 (L + 1) p (by omega) hpL ha
end S47
