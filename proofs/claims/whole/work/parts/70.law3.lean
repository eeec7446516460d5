/-! THE LAW: its loop, its start -/
theorem dL_0 : lwD 0 (.new 7) 3 := by unfold lwD; decide +kernel
theorem dL_3 : lwD 3 .dup 1 := by unfold lwD; decide +kernel
theorem dL_4 : lwD 4 (.invokespecial 9) 3 := by unfold lwD; decide +kernel
theorem dL_7 : lwD 7 (.astore_n 1) 1 := by unfold lwD; decide +kernel
theorem dL_8 : lwD 8 (.new 10) 3 := by unfold lwD; decide +kernel
theorem dL_11 : lwD 11 .dup 1 := by unfold lwD; decide +kernel
theorem dL_12 : lwD 12 (.invokespecial 12) 3 := by unfold lwD; decide +kernel
theorem dL_15 : lwD 15 (.astore_n 2) 1 := by unfold lwD; decide +kernel
theorem dL_16 : lwD 16 (.iconst 0) 1 := by unfold lwD; decide +kernel
theorem dL_17 : lwD 17 (.istore_n 3) 1 := by unfold lwD; decide +kernel
theorem dL_18 : lwD 18 (.iload_n 3) 1 := by unfold lwD; decide +kernel
theorem dL_19 : lwD 19 (.aload_n 0) 1 := by unfold lwD; decide +kernel
theorem dL_20 : lwD 20 .arraylength 1 := by unfold lwD; decide +kernel
theorem dL_21 : lwD 21 (.iconst 5) 1 := by unfold lwD; decide +kernel
theorem dL_22 : lwD 22 .isub 1 := by unfold lwD; decide +kernel
theorem dL_23 : lwD 23 (.if_icmp .gt 1307) 3 := by unfold lwD; decide +kernel
theorem dL_26 : lwD 26 (.aload_n 0) 1 := by unfold lwD; decide +kernel
theorem dL_27 : lwD 27 (.iload_n 3) 1 := by unfold lwD; decide +kernel
theorem dL_28 : lwD 28 .iaload 1 := by unfold lwD; decide +kernel
theorem dL_29 : lwD 29 (.bipush 63) 2 := by unfold lwD; decide +kernel
theorem dL_31 : lwD 31 .iand 1 := by unfold lwD; decide +kernel
theorem dL_32 : lwD 32 (.tableswitch 1292 0 41 #[184, 207, 230, 273, 306, 329, 342, 355, 378, 411, 444, 457, 490, 523, 566, 589, 602, 625, 648, 681, 694, 717, 740, 773, 786, 809, 822, 875, 928, 951, 974, 997, 1020, 1043, 1096, 1129, 1162, 1186, 1209, 1232, 1255, 1278]) 184 := by unfold lwD; decide +kernel
theorem dL_1324 : lwD 1324 (.iinc 3 5) 3 := by unfold lwD; decide +kernel
theorem dL_1327 : lwD 1327 (.goto (-1309)) 3 := by unfold lwD; decide +kernel
theorem dL_1330 : lwD 1330 (.iconst 1) 1 := by unfold lwD; decide +kernel
theorem dL_1331 : lwD 1331 .ireturn 1 := by unfold lwD; decide +kernel
theorem lw_known {s : State} {b : Nat} (hts : ∀ w ∈ gTbl, w.before #[Value.ref b] s = true) : ∃ (D : va_G) (J Z : ClassId), va_K D gCl (kT J Z) s := by
  have h : ∀ k : Nat, ∃ (cC : ClassId) (iS : Nat → Nat), ∀ q : vw_C, gCl[k]? = some q → u_Kn s q.1 q.2.1 q.2.2 cC iS := by
    intro k
    match k with
    | 0 => obtain ⟨c0, i0, h0⟩ := u_known (C := RX0) (T := TX0) (N := 2) (n := 2) hts (gCl_ok (ci := 0) rfl).1 (hts _ (gTbl_in (List.mem_of_getElem? (i := 225) (by decide +kernel)) (by decide +kernel))); exact ⟨c0, i0, fun q hq => by cases hq; exact h0⟩
    | 1 => obtain ⟨c0, i0, h0⟩ := u_known (C := RX1) (T := TX1) (N := 1) (n := 1) hts (gCl_ok (ci := 1) rfl).1 (hts _ (gTbl_in (List.mem_of_getElem? (i := 256) (by decide +kernel)) (by decide +kernel))); exact ⟨c0, i0, fun q hq => by cases hq; exact h0⟩
    | 2 => obtain ⟨c0, i0, h0⟩ := u_known (C := RX2) (T := TX2) (N := 5) (n := 5) hts (gCl_ok (ci := 2) rfl).1 (hts _ (gTbl_in (List.mem_of_getElem? (i := 86) (by decide +kernel)) (by decide +kernel))); exact ⟨c0, i0, fun q hq => by cases hq; exact h0⟩
    | 3 => obtain ⟨c0, i0, h0⟩ := u_known (C := RX4) (T := TX4) (N := 11) (n := 11) hts (gCl_ok (ci := 3) rfl).1 (hts _ (gTbl_in (List.mem_of_getElem? (i := 92) (by decide +kernel)) (by decide +kernel))); exact ⟨c0, i0, fun q hq => by cases hq; exact h0⟩
    | 4 => obtain ⟨c0, i0, h0⟩ := u_known (C := RX5) (T := TX5) (N := 2) (n := 2) hts (gCl_ok (ci := 4) rfl).1 (hts _ (gTbl_in (List.mem_of_getElem? (i := 164) (by decide +kernel)) (by decide +kernel))); exact ⟨c0, i0, fun q hq => by cases hq; exact h0⟩
    | 5 => obtain ⟨c0, i0, h0⟩ := u_known (C := RX6) (T := TX6) (N := 2) (n := 2) hts (gCl_ok (ci := 5) rfl).1 (hts _ (gTbl_in (List.mem_of_getElem? (i := 148) (by decide +kernel)) (by decide +kernel))); exact ⟨c0, i0, fun q hq => by cases hq; exact h0⟩
    | 6 => obtain ⟨c0, i0, h0⟩ := u_known (C := RX7) (T := TX7) (N := 6) (n := 6) hts (gCl_ok (ci := 6) rfl).1 (hts _ (gTbl_in (List.mem_of_getElem? (i := 199) (by decide +kernel)) (by decide +kernel))); exact ⟨c0, i0, fun q hq => by cases hq; exact h0⟩
    | 7 => obtain ⟨c0, i0, h0⟩ := u_known (C := RX8) (T := TX8) (N := 2) (n := 2) hts (gCl_ok (ci := 7) rfl).1 (hts _ (gTbl_in (List.mem_of_getElem? (i := 240) (by decide +kernel)) (by decide +kernel))); exact ⟨c0, i0, fun q hq => by cases hq; exact h0⟩
    | 8 => obtain ⟨c0, i0, h0⟩ := u_known (C := RX9) (T := TX9) (N := 3) (n := 3) hts (gCl_ok (ci := 8) rfl).1 (hts _ (gTbl_in (List.mem_of_getElem? (i := 266) (by decide +kernel)) (by decide +kernel))); exact ⟨c0, i0, fun q hq => by cases hq; exact h0⟩
    | 9 => obtain ⟨c0, i0, h0⟩ := u_known (C := RX10) (T := TX10) (N := 13) (n := 13) hts (gCl_ok (ci := 9) rfl).1 (hts _ (gTbl_in (List.mem_of_getElem? (i := 78) (by decide +kernel)) (by decide +kernel))); exact ⟨c0, i0, fun q hq => by cases hq; exact h0⟩
    | 10 => obtain ⟨c0, i0, h0⟩ := u_known (C := RX11) (T := TX11) (N := 22) (n := 22) hts (gCl_ok (ci := 10) rfl).1 (hts _ (gTbl_in (List.mem_of_getElem? (i := 985) (by decide +kernel)) (by decide +kernel))); exact ⟨c0, i0, fun q hq => by cases hq; exact h0⟩
    | k + 11 => exact ⟨0, fun _ => 0, fun q hq => by simp [gCl] at hq⟩
  have arr : ∀ ty : FieldType, (∀ C : String, ¬ ty = .object C) → (Cond.arrayClass ty).before #[Value.ref b] s = true → ∃ cA : ClassId, ArrOfT s cA ty ∧ va_RA s cA ty := by
    intro ty hty hw
    obtain ⟨cA, kA, comp, h1, h2, h3⟩ := Cond.arrayClass_spec hw
    refine ⟨cA, fun n z => ⟨fun k h => (by cases h), kA, h2, comp, h3⟩, ?_⟩
    cases ty with
    | object C => exact absurd rfl (hty C)
    | _ => exact h1
  obtain ⟨J, hJ⟩ := arr .int (fun C h => by cases h) (hts _ k_arr.1)
  obtain ⟨Z, hZ⟩ := arr .boolean (fun C h => by cases h) (hts _ k_arr.2)
  refine ⟨(fun k => (h k).choose, fun k => (h k).choose_spec.choose), J, Z, fun k q hq => (h k).choose_spec.choose_spec q hq, fun k q hq => ?_⟩
  match k, hq with
  | 0, hq => cases hq; exact hJ
  | 1, hq => cases hq; exact hZ
  | k + 2, hq => simp [kT] at hq
def lw_tm : Nat → Term := fun i => .string "LaneCymbals$Text" ([95, 101, 103, 105, 107].getD i 0)
def lw_fl : List Cond := flatC (Jvm.Cond.and given_1 narrow_1)
theorem lw_s0 : ∀ i, i < 5 → gLen.getD i 0 < 2 ^ 31 ∧ Cond.exactly (lw_tm i) "java/lang/String" ∈ lw_fl ∧ Cond.eq (.field (lw_tm i) "java/lang/String" "coder" "B") (.int 0) ∈ lw_fl ∧ Cond.arrayOf (.field (lw_tm i) "java/lang/String" "value" "[B") .byte ∈ lw_fl ∧ Cond.eq (.length (.field (lw_tm i) "java/lang/String" "value" "[B")) (.int (Int32.ofNat (gLen.getD i 0))) ∈ lw_fl := by decide +kernel
theorem lw_s1 : ∀ i, i < 5 → ∀ j, j < gLen.getD i 0 → Cond.eq (.elem (.field (lw_tm i) "java/lang/String" "value" "[B") (.int (Int32.ofNat j))) (.int ((gByt.getD i []).getD j 0)) ∈ lw_fl := by decide +kernel
theorem lw_s2 : ∀ i, i < 5 → ∀ j, j < 5 → i ≠ j → Cond.not (Cond.eq (lw_tm i) (lw_tm j)) ∈ lw_fl ∨ Cond.not (Cond.eq (lw_tm j) (lw_tm i)) ∈ lw_fl := by decide +kernel
theorem vk_S.congr {N : Nat} {len : List Nat} {byt : List (List Int32)} {f f' g g' : Nat → Nat} {A : Nat → Prop} {U : State} {H : Heap} (h : vk_S N len byt f g A U H) (hf : ∀ i, i < N → f' i = f i) (hg : ∀ i, i < N → g' i = g i) : vk_S N len byt f' g' A U H :=
  ⟨fun i hi => by rw [hf i hi, hg i hi]; exact h.1 i hi, fun i j hi hj e => h.2 i j hi hj (by rw [← hf i hi, ← hf j hj]; exact e)⟩
section LAW3
variable {Γ : gC} {p : Program} {l : Launch} {e : Env} {s : State} {m : MethodId} {below : List Frame} {meth : Method} {c : Code} {b L : Nat} {xs : Nat → Int32} {i : Nat} {μ : gM}
/-- what the start gives of the JDK's own cells -/
theorem lw_start (C0 : lw_At p s m meth c b L xs) : ∃ (f g : Nat → Nat) (fm : Value), fm.category = 1 ∧ vk_S 5 gLen gByt f g (lwF s) s s.heap ∧ (∀ (i : Nat) (q : Nat × String), gTx[i]? = some q → vk_R "LaneCymbals$Text" q.1 q.2 (f i) s) ∧ va_Z "java/lang/String" "COMPACT_STRINGS" "Z" (.int 1) (lwF s) s s.heap ∧ va_Z "jdk/internal/util/Preconditions" "SIOOBE_FORMATTER" "Ljava/util/function/BiFunction;" fm (lwF s) s s.heap := by
  obtain ⟨hx, hb, hr, hml, hown, hts, hX, hbl, hlocks, hgv⟩ := C0
  have hts2 : ∀ w ∈ gTbl, w.before #[Value.ref b] s = true := fun w hw => hts w (List.mem_filter.mp hw).1
  have hs : ∀ w ∈ lw_fl, w.before #[Value.ref b] s = true := flat_of_before _ hgv
  have hA : ∀ a : Nat, a < s.heap.size → ¬ lwF s a := fun a h z => absurd h (Nat.not_lt.mpr z)
  obtain ⟨f, g, h1, h2⟩ := vk_Sof (N := 5) (tm := lw_tm) (len := gLen) (byt := gByt) (A := lwF s) (fun i hi => (lw_s0 i hi).1) (fun i hi => hs _ (lw_s0 i hi).2.1) (fun i hi => hs _ (lw_s0 i hi).2.2.1) (fun i hi => hs _ (lw_s0 i hi).2.2.2.1) (fun i hi => hs _ (lw_s0 i hi).2.2.2.2) (fun i hi j hj => hs _ (lw_s1 i hi j hj)) (fun i j hi hj hne => (lw_s2 i hi j hj hne).imp (hs _) (hs _)) hA
  have hZ2 : va_Zq "jdk/internal/util/Preconditions" "SIOOBE_FORMATTER" "Ljava/util/function/BiFunction;" (lwF s) s s.heap := va_Zqof (hts _ (List.mem_of_getElem? (i := 451) (by decide +kernel))) (hts2 _ (gTbl_in (List.mem_of_getElem? (i := 72) (by decide +kernel)) (by decide +kernel))) (hs _ (by decide +kernel)) hA
  obtain ⟨fm, hc, hZ3⟩ : ∃ fm : Value, fm.category = 1 ∧ va_Z "jdk/internal/util/Preconditions" "SIOOBE_FORMATTER" "Ljava/util/function/BiFunction;" fm (lwF s) s s.heap := by
    rcases hZ2 with h | ⟨t, h⟩
    · exact ⟨_, rfl, h⟩
    · exact ⟨_, rfl, h⟩
  refine ⟨f, g, fm, hc, h1, fun i q hq => ?_, va_Zof (hts _ (List.mem_of_getElem? (i := 435) (by decide +kernel))) (hts2 _ (gTbl_in (List.mem_of_getElem? (i := 70) (by decide +kernel)) (by decide +kernel))) (va_eqi (hs _ (by decide +kernel))) hA, hZ3⟩
  match i, hq with
  | 0, hq => cases hq; exact vk_R.of (hts _ (List.mem_of_getElem? (i := 421) (by decide +kernel))) (h2 0 (by omega))
  | 1, hq => cases hq; exact vk_R.of (hts _ (List.mem_of_getElem? (i := 474) (by decide +kernel))) (h2 1 (by omega))
  | 2, hq => cases hq; exact vk_R.of (hts _ (List.mem_of_getElem? (i := 475) (by decide +kernel))) (h2 2 (by omega))
  | 3, hq => cases hq; exact vk_R.of (hts _ (List.mem_of_getElem? (i := 476) (by decide +kernel))) (h2 3 (by omega))
  | 4, hq => cases hq; exact vk_R.of (hts _ (List.mem_of_getElem? (i := 477) (by decide +kernel))) (h2 4 (by omega))
  | i + 5, hq => simp [gTx] at hq
/-- a constructor called by the law -/
theorem law_ctor {Y : gMI} {D : kD} {d' mc' ms' idx q k n pc : Nat} {e0 : va_E} {w0 : va_W} {Q' : kD → Nat → va_W → Prop} {H : Heap} {locs : List Loc} {ls : Array Slot} {st : List Value} {Qg : State → Prop} (C0 : lw_At p s m meth c b L xs) (h : lwD pc (.invokespecial idx) 3) (hlink : Cond.methodLink R_law idx Y.1 ∈ gTbl) (hf : kMf Y) (hs : KS d' mc' ms' Y e0 Q') (hd : d' + 1 ≤ 2048 ∧ 20 + 40 * d' ≤ 84000) (hst : (st.map fun v => v.category).sum ≤ 8) (hk : k + mc' ≤ 600000) (hn : n + ms' ≤ 7302250) (hK : va_K D.1 gCl (kT D.2.1 D.2.2) s) (hN : kNw s) (hsz : ls.size = 4) (hP : va_P D.1 gCl (w0 ++ [(q, e0)]) H) (hD : va_D (lwF s) (w0 ++ [(q, e0)])) (hS : va_S (lwF s) s.heap H locs) (kk : ∀ (w1 : va_W) (H1 : Heap) (locs1 : List Loc), Q' D q w1 → va_P D.1 gCl (w0 ++ w1) H1 → va_D (lwF s) (w0 ++ w1) → va_S (lwF s) s.heap H1 locs1 → W p l e room_1 s m #[Value.ref b] below meth c H1 locs1 (k + mc') (n + ms') Qg (F0 m (pc + 3) ls st)) : W p l e room_1 s m #[Value.ref b] below meth c H locs k n Qg (F0 m pc ls (.ref q :: st)) := by
  obtain ⟨hx, hb, hr, hml, hown, hts0, hX, hbl, hlocks, hgv⟩ := C0
  have hts : ∀ w ∈ gTbl, w.before #[Value.ref b] s = true := fun w hw => hts0 w (List.mem_filter.mp hw).1
  have hA : ∀ q : Nat, s.heap.size ≤ q → lwF s q := fun _ h => h
  have atq : (w0 ++ [(q, e0)])[w0.length]? = some (q, e0) := by rw [List.getElem?_append_right (Nat.le_refl _), Nat.sub_self]; rfl
  have hPc : va_P D.1 gCl [(q, e0)] H := by
    intro i x hx
    have hi : i < 1 := (List.getElem?_eq_some_iff.mp hx).1
    have : i = 0 := by omega
    subst this
    cases hx
    exact hP _ _ atq
  have hFc : ∀ x, va_A [(q, e0)] H.size x → lwF s x := by
    rintro x (⟨k2, e2, h2⟩ | h2)
    · have hk2 : k2 < 1 := (List.getElem?_eq_some_iff.mp h2).1
      have : k2 = 0 := by omega
      subst this
      cases h2
      exact hD.2 _ _ atq
    · exact hA x (Nat.le_trans hS.1 h2)
  have run := va_runI (l := l) (e := e) (R := room_1) (below := below) (meth := meth) (locs := locs) (cells := k) (slots := n) (As := []) (rest := st) (g := F0 m pc ls (.ref q :: st)) (H := H) ⟨hx, hb, hml, hown, hts⟩ (hs D l q H.size) ⟨callB_of 0 hts (kGood hf) (by show gws Y = Cond.code Y.1 Y.2.1 Y.2.2.1 none :: gTbl; rw [← hf.2.2.2.2.2.2]; rfl) rfl rfl (hts _ hf.2.1) (hts _ hlink) hf.2.2.2.1 ⟨hd.1, by show 8 + (Y.2.2.1 + 11) + 40 * d' ≤ 84000; rw [hf.2.2.2.2.2.1]; omega⟩, hf.2.2.2.2.1, hts _ hf.2.2.1⟩ ⟨k_blind, fun U hU hW => ⟨rfl, by rw [hU], by rw [hU]; exact hPc, va_K.moved hW.alike hK, hN.warm hW⟩⟩ rfl rfl hsz rfl (lv_room hst) h ⟨hk, hn⟩
  intro T hT X
  obtain ⟨v, st₀, t, T', L2, q1, X', hL2, e1, e2, ⟨⟨hv, w1, hw1, hP1, hD1⟩, hz, hkp⟩, stp⟩ := run T hT X
  cases hv
  rw [q1] at hz hkp
  have hkp' : ∀ x : Nat, x < H.size → ¬ va_A [(q, e0)] H.size x → T'.heap[x]? = H[x]? := fun x a b => by rw [e1]; exact hkp x a b
  obtain ⟨hP2, hD2⟩ := k_join (H1 := T'.heap) hP hD hkp' hFc (by rw [e1]; exact hP1) hD1
  have hS2 : va_S (lwF s) s.heap T'.heap (locs ++ L2) := ⟨Nat.le_trans hS.1 (by rw [e1]; exact hz), fun x a b => by rw [hkp' x (Nat.lt_of_lt_of_le a hS.1) (fun z => b (hFc x z))]; exact hS.2.1 x a b, fun x hx => by
    rcases List.mem_append.mp hx with z | z
    · exact hS.2.2 x z
    · exact hFc _ (hL2 x z)⟩
  obtain ⟨t2, a1, b1⟩ := kk w1 T'.heap (locs ++ L2) hw1 hP2 hD2 hS2 T' rfl X'
  exact ⟨t2, stp t2 a1, b1⟩
theorem law_next (C : lwC Γ p s m meth c b L xs) (kk : LW Γ p l e s m below meth c b (i + 5) 18 [] μ) : LW Γ p l e s m below meth c b i 1324 [] μ := by
  intro H locs ls hP hS hl
  refine lv_iinc (v := nI (i + 5)) (lv' := [(3, .int (nI (i + 5))), (0, .ref b), (1, .ref (Γ.2.1 0)), (2, .ref (Γ.2.1 63))]) C.1.1 C.1.2.1 dL_1324 hl (k := 3) rfl (by rw [← nI_add]; rfl) (by decide) rfl (fun ls hl => ?_)
  refine lv_goto (tgt := 18) C.1.1 C.1.2.1 dL_1327 (by decide) ?_
  exact kk H locs ls hP hS (lv_sub hl [1, 2, 3, 0] rfl)
theorem law_head (C : lwC Γ p s m meth c b L xs) : ∀ (n i : Nat) (μ : gM), i ≤ L → L + 1 ≤ i + n → INV μ → LW Γ p l e s m below meth c b i 18 [] μ := by
  intro n
  induction n with
  | zero => intro i μ h1 h2; exact absurd h2 (by omega)
  | succ n ih =>
    intro i μ hi hin hI
    have hL := C.2.1
    intro H locs ls hP hS hl
    obtain ⟨hx, hb, hr, hml, hown, hts, hX, hbl, hlocks, hgv⟩ := id C.1
    refine lv_iload_n hx hb dL_18 rfl (lv_at hl 3 rfl) ?_
    refine lv_aload_n hx hb dL_19 rfl (lv_at hl 0 rfl) ?_
    refine va_slen hx hb hX hbl (Nat.not_le.mpr hbl) hS dL_20 ?_
    refine lv_iconst (v := 5) hx hb dL_21 (by decide) ?_
    refine lv_isub hx hb dL_22 ?_
    refine lv_icmp_gt (tgt := 1330) hx hb dL_23 (by decide) (fun _ => ?_) (fun h23 => ?_)
    · refine lv_iconst (v := 1) hx hb dL_1330 (by decide) ?_
      refine va_forget (fun q hq => hS.2.2 q hq) ?_
      exact lw_ret hx hb hr hlocks dL_1331
    · have h5 : i + 5 ≤ L := lw_five (by omega) hL h23
      refine lv_aload_n hx hb dL_26 rfl (lv_at hl 0 rfl) ?_
      refine lv_iload_n hx hb dL_27 rfl (lv_at hl 3 rfl) ?_
      refine va_sld hx hb hX hbl (Nat.not_le.mpr hbl) hS (vp_in_nI (by omega) (by omega)) dL_28 ?_
      refine lv_bipush (v := 63) hx hb dL_29 (by decide) ?_
      refine lv_iand hx hb dL_31 ?_
      generalize xs (nI i).toNatClampNeg &&& 63 = x
      have go : ∀ ν : gM, INV ν → LW Γ p l e s m below meth c b i 1324 [] ν := fun ν hν => law_next C (ih (i + 5) ν h5 (by omega) hν)
      by_cases hr2 : x.toInt < 0 ∨ 41 < x.toInt
      · exact lv_tableOut (tgt := 1324) hx hb dL_32 hr2 (by decide) (go μ hI H locs ls hP hS hl)
      · obtain ⟨k, hk, ek⟩ : ∃ k : Nat, k < 42 ∧ x.toInt = (k : Int) := ⟨x.toInt.toNat, by omega, by omega⟩
        match k, hk, ek with
        | 0, _, ek => exact lv_tableIn (off := 184) (tgt := 216) hx hb dL_32 (fun z => hr2 (Or.inl z)) (fun z => hr2 (Or.inr z)) (by rw [ek]; rfl) (by decide) (law_0 C h5 hI go H locs ls hP hS hl)
        | 1, _, ek => exact lv_tableIn (off := 207) (tgt := 239) hx hb dL_32 (fun z => hr2 (Or.inl z)) (fun z => hr2 (Or.inr z)) (by rw [ek]; rfl) (by decide) (law_1 C h5 hI go H locs ls hP hS hl)
        | 2, _, ek => exact lv_tableIn (off := 230) (tgt := 262) hx hb dL_32 (fun z => hr2 (Or.inl z)) (fun z => hr2 (Or.inr z)) (by rw [ek]; rfl) (by decide) (law_2 C h5 hI go H locs ls hP hS hl)
        | 3, _, ek => exact lv_tableIn (off := 273) (tgt := 305) hx hb dL_32 (fun z => hr2 (Or.inl z)) (fun z => hr2 (Or.inr z)) (by rw [ek]; rfl) (by decide) (law_3 C h5 hI go H locs ls hP hS hl)
        | 4, _, ek => exact lv_tableIn (off := 306) (tgt := 338) hx hb dL_32 (fun z => hr2 (Or.inl z)) (fun z => hr2 (Or.inr z)) (by rw [ek]; rfl) (by decide) (law_4 C h5 hI go H locs ls hP hS hl)
        | 5, _, ek => exact lv_tableIn (off := 329) (tgt := 361) hx hb dL_32 (fun z => hr2 (Or.inl z)) (fun z => hr2 (Or.inr z)) (by rw [ek]; rfl) (by decide) (law_5 C h5 hI go H locs ls hP hS hl)
        | 6, _, ek => exact lv_tableIn (off := 342) (tgt := 374) hx hb dL_32 (fun z => hr2 (Or.inl z)) (fun z => hr2 (Or.inr z)) (by rw [ek]; rfl) (by decide) (law_6 C h5 hI go H locs ls hP hS hl)
        | 7, _, ek => exact lv_tableIn (off := 355) (tgt := 387) hx hb dL_32 (fun z => hr2 (Or.inl z)) (fun z => hr2 (Or.inr z)) (by rw [ek]; rfl) (by decide) (law_7 C h5 hI go H locs ls hP hS hl)
        | 8, _, ek => exact lv_tableIn (off := 378) (tgt := 410) hx hb dL_32 (fun z => hr2 (Or.inl z)) (fun z => hr2 (Or.inr z)) (by rw [ek]; rfl) (by decide) (law_8 C h5 hI go H locs ls hP hS hl)
        | 9, _, ek => exact lv_tableIn (off := 411) (tgt := 443) hx hb dL_32 (fun z => hr2 (Or.inl z)) (fun z => hr2 (Or.inr z)) (by rw [ek]; rfl) (by decide) (law_9 C h5 hI go H locs ls hP hS hl)
        | 10, _, ek => exact lv_tableIn (off := 444) (tgt := 476) hx hb dL_32 (fun z => hr2 (Or.inl z)) (fun z => hr2 (Or.inr z)) (by rw [ek]; rfl) (by decide) (law_10 C h5 hI go H locs ls hP hS hl)
        | 11, _, ek => exact lv_tableIn (off := 457) (tgt := 489) hx hb dL_32 (fun z => hr2 (Or.inl z)) (fun z => hr2 (Or.inr z)) (by rw [ek]; rfl) (by decide) (law_11 C h5 hI go H locs ls hP hS hl)
        | 12, _, ek => exact lv_tableIn (off := 490) (tgt := 522) hx hb dL_32 (fun z => hr2 (Or.inl z)) (fun z => hr2 (Or.inr z)) (by rw [ek]; rfl) (by decide) (law_12 C h5 hI go H locs ls hP hS hl)
        | 13, _, ek => exact lv_tableIn (off := 523) (tgt := 555) hx hb dL_32 (fun z => hr2 (Or.inl z)) (fun z => hr2 (Or.inr z)) (by rw [ek]; rfl) (by decide) (law_13 C h5 hI go H locs ls hP hS hl)
        | 14, _, ek => exact lv_tableIn (off := 566) (tgt := 598) hx hb dL_32 (fun z => hr2 (Or.inl z)) (fun z => hr2 (Or.inr z)) (by rw [ek]; rfl) (by decide) (law_14 C h5 hI go H locs ls hP hS hl)
        | 15, _, ek => exact lv_tableIn (off := 589) (tgt := 621) hx hb dL_32 (fun z => hr2 (Or.inl z)) (fun z => hr2 (Or.inr z)) (by rw [ek]; rfl) (by decide) (law_15 C h5 hI go H locs ls hP hS hl)
        | 16, _, ek => exact lv_tableIn (off := 602) (tgt := 634) hx hb dL_32 (fun z => hr2 (Or.inl z)) (fun z => hr2 (Or.inr z)) (by rw [ek]; rfl) (by decide) (law_16 C h5 hI go H locs ls hP hS hl)
        | 17, _, ek => exact lv_tableIn (off := 625) (tgt := 657) hx hb dL_32 (fun z => hr2 (Or.inl z)) (fun z => hr2 (Or.inr z)) (by rw [ek]; rfl) (by decide) (law_17 C h5 hI go H locs ls hP hS hl)
        | 18, _, ek => exact lv_tableIn (off := 648) (tgt := 680) hx hb dL_32 (fun z => hr2 (Or.inl z)) (fun z => hr2 (Or.inr z)) (by rw [ek]; rfl) (by decide) (law_18 C h5 hI go H locs ls hP hS hl)
        | 19, _, ek => exact lv_tableIn (off := 681) (tgt := 713) hx hb dL_32 (fun z => hr2 (Or.inl z)) (fun z => hr2 (Or.inr z)) (by rw [ek]; rfl) (by decide) (law_19 C h5 hI go H locs ls hP hS hl)
        | 20, _, ek => exact lv_tableIn (off := 694) (tgt := 726) hx hb dL_32 (fun z => hr2 (Or.inl z)) (fun z => hr2 (Or.inr z)) (by rw [ek]; rfl) (by decide) (law_20 C h5 hI go H locs ls hP hS hl)
        | 21, _, ek => exact lv_tableIn (off := 717) (tgt := 749) hx hb dL_32 (fun z => hr2 (Or.inl z)) (fun z => hr2 (Or.inr z)) (by rw [ek]; rfl) (by decide) (law_21 C h5 hI go H locs ls hP hS hl)
        | 22, _, ek => exact lv_tableIn (off := 740) (tgt := 772) hx hb dL_32 (fun z => hr2 (Or.inl z)) (fun z => hr2 (Or.inr z)) (by rw [ek]; rfl) (by decide) (law_22 C h5 hI go H locs ls hP hS hl)
        | 23, _, ek => exact lv_tableIn (off := 773) (tgt := 805) hx hb dL_32 (fun z => hr2 (Or.inl z)) (fun z => hr2 (Or.inr z)) (by rw [ek]; rfl) (by decide) (law_23 C h5 hI go H locs ls hP hS hl)
        | 24, _, ek => exact lv_tableIn (off := 786) (tgt := 818) hx hb dL_32 (fun z => hr2 (Or.inl z)) (fun z => hr2 (Or.inr z)) (by rw [ek]; rfl) (by decide) (law_24 C h5 hI go H locs ls hP hS hl)
        | 25, _, ek => exact lv_tableIn (off := 809) (tgt := 841) hx hb dL_32 (fun z => hr2 (Or.inl z)) (fun z => hr2 (Or.inr z)) (by rw [ek]; rfl) (by decide) (law_25 C h5 hI go H locs ls hP hS hl)
        | 26, _, ek => exact lv_tableIn (off := 822) (tgt := 854) hx hb dL_32 (fun z => hr2 (Or.inl z)) (fun z => hr2 (Or.inr z)) (by rw [ek]; rfl) (by decide) (law_26 C h5 hI go H locs ls hP hS hl)
        | 27, _, ek => exact lv_tableIn (off := 875) (tgt := 907) hx hb dL_32 (fun z => hr2 (Or.inl z)) (fun z => hr2 (Or.inr z)) (by rw [ek]; rfl) (by decide) (law_27 C h5 hI go H locs ls hP hS hl)
        | 28, _, ek => exact lv_tableIn (off := 928) (tgt := 960) hx hb dL_32 (fun z => hr2 (Or.inl z)) (fun z => hr2 (Or.inr z)) (by rw [ek]; rfl) (by decide) (law_28 C h5 hI go H locs ls hP hS hl)
        | 29, _, ek => exact lv_tableIn (off := 951) (tgt := 983) hx hb dL_32 (fun z => hr2 (Or.inl z)) (fun z => hr2 (Or.inr z)) (by rw [ek]; rfl) (by decide) (law_29 C h5 hI go H locs ls hP hS hl)
        | 30, _, ek => exact lv_tableIn (off := 974) (tgt := 1006) hx hb dL_32 (fun z => hr2 (Or.inl z)) (fun z => hr2 (Or.inr z)) (by rw [ek]; rfl) (by decide) (law_30 C h5 hI go H locs ls hP hS hl)
        | 31, _, ek => exact lv_tableIn (off := 997) (tgt := 1029) hx hb dL_32 (fun z => hr2 (Or.inl z)) (fun z => hr2 (Or.inr z)) (by rw [ek]; rfl) (by decide) (law_31 C h5 hI go H locs ls hP hS hl)
        | 32, _, ek => exact lv_tableIn (off := 1020) (tgt := 1052) hx hb dL_32 (fun z => hr2 (Or.inl z)) (fun z => hr2 (Or.inr z)) (by rw [ek]; rfl) (by decide) (law_32 C h5 hI go H locs ls hP hS hl)
        | 33, _, ek => exact lv_tableIn (off := 1043) (tgt := 1075) hx hb dL_32 (fun z => hr2 (Or.inl z)) (fun z => hr2 (Or.inr z)) (by rw [ek]; rfl) (by decide) (law_33 C h5 hI go H locs ls hP hS hl)
        | 34, _, ek => exact lv_tableIn (off := 1096) (tgt := 1128) hx hb dL_32 (fun z => hr2 (Or.inl z)) (fun z => hr2 (Or.inr z)) (by rw [ek]; rfl) (by decide) (law_34 C h5 hI go H locs ls hP hS hl)
        | 35, _, ek => exact lv_tableIn (off := 1129) (tgt := 1161) hx hb dL_32 (fun z => hr2 (Or.inl z)) (fun z => hr2 (Or.inr z)) (by rw [ek]; rfl) (by decide) (law_35 C h5 hI go H locs ls hP hS hl)
        | 36, _, ek => exact lv_tableIn (off := 1162) (tgt := 1194) hx hb dL_32 (fun z => hr2 (Or.inl z)) (fun z => hr2 (Or.inr z)) (by rw [ek]; rfl) (by decide) (law_36 C h5 hI go H locs ls hP hS hl)
        | 37, _, ek => exact lv_tableIn (off := 1186) (tgt := 1218) hx hb dL_32 (fun z => hr2 (Or.inl z)) (fun z => hr2 (Or.inr z)) (by rw [ek]; rfl) (by decide) (law_37 C h5 hI go H locs ls hP hS hl)
        | 38, _, ek => exact lv_tableIn (off := 1209) (tgt := 1241) hx hb dL_32 (fun z => hr2 (Or.inl z)) (fun z => hr2 (Or.inr z)) (by rw [ek]; rfl) (by decide) (law_38 C h5 hI go H locs ls hP hS hl)
        | 39, _, ek => exact lv_tableIn (off := 1232) (tgt := 1264) hx hb dL_32 (fun z => hr2 (Or.inl z)) (fun z => hr2 (Or.inr z)) (by rw [ek]; rfl) (by decide) (law_39 C h5 hI go H locs ls hP hS hl)
        | 40, _, ek => exact lv_tableIn (off := 1255) (tgt := 1287) hx hb dL_32 (fun z => hr2 (Or.inl z)) (fun z => hr2 (Or.inr z)) (by rw [ek]; rfl) (by decide) (law_40 C h5 hI go H locs ls hP hS hl)
        | 41, _, ek => exact lv_tableIn (off := 1278) (tgt := 1310) hx hb dL_32 (fun z => hr2 (Or.inl z)) (fun z => hr2 (Or.inr z)) (by rw [ek]; rfl) (by decide) (law_41 C h5 hI go H locs ls hP hS hl)
        | k + 42, h, _ => exact absurd h (by omega)
end LAW3
set_option maxHeartbeats 4000000 in
theorem whole_start {p : Program} {e : Env} {s : State} {m : MethodId} {below : List Frame} {meth : Method} {c : Code} (l : Launch) (hflags : l.flags = flags0) {b L : Nat} {xs : Nat → Int32} (hL : L ≤ 2560) (C0 : lw_At p s m meth c b L xs) : W p l e room_1 s m #[Value.ref b] below meth c s.heap [] 0 0 (lw_Z below #[Value.ref b] s) (entryFrame m ([Value.ref b] : List Value).toArray 4) := by
  obtain ⟨hx, hb, hr, hml, hown, hts, hX, hbl, hlocks, hgv⟩ := id C0
  have hts2 : ∀ w ∈ gTbl, w.before #[Value.ref b] s = true := fun w hw => hts w (List.mem_filter.mp hw).1
  have hA : ∀ q : Nat, s.heap.size ≤ q → lwF s q := fun _ h => h
  obtain ⟨D, J, Z, hK⟩ := lw_known hts2
  obtain ⟨sK, sV, fm, hcat, hStr, hRef, hZ1, hZ2⟩ := lw_start C0
  have hNw : kNw s := fun a i x h hw => va_Nw.of rfl (hts _ hw)
  have hS : va_S (lwF s) s.heap s.heap [] := va_S.rf
  have hP : va_P D gCl [] s.heap := fun k q h => by simp at h
  have hD : va_D (lwF s) [] := ⟨fun i j p q h => by simp at h, fun k q h => by simp at h⟩
  have hl := lv_entry ([.ref b]) (n := 4) (Nat.le_of_ble_eq_true rfl)
  rw [lg_entry_eq]
  generalize (lg_sl ([.ref b]) ++ List.replicate (4 - (lg_sl ([.ref b])).length) Slot.unset).toArray = ls at hl ⊢
  have hl : lv_has ls 4 [(0, .ref b)] := hl
  refine va_new (ci := 9) (D := D) (cl := gCl) (tys := kT J Z) (C := RX10) (T := TX10) (N := 13) hx hb hts2 (gCl_ok (ci := 9) rfl).1 tyX10 tyX10_ok hown (hts2 _ (gTbl_in (List.mem_of_getElem? (i := 77) (by decide +kernel)) (by decide +kernel))) (hts2 _ (gTbl_in (List.mem_of_getElem? (i := 78) (by decide +kernel)) (by decide +kernel))) (hts2 _ (gTbl_in (List.mem_of_getElem? (i := 59) (by decide +kernel)) (by decide +kernel))) hK hP hD hS hA rfl k_dvX10 (Nat.le_of_ble_eq_true rfl) (Nat.le_of_ble_eq_true rfl) dL_0 (fun q10 H hP hD hS => ?_)
  refine lv_dup hx hb dL_3 rfl ?_
  refine law_ctor (D := (D, J, Z)) C0 dL_4 (gTbl_in (List.mem_of_getElem? (i := 79) (by decide +kernel)) (by decide +kernel)) kf_X10 ks_X10 (by decide) (Nat.le_of_ble_eq_true rfl) (Nat.le_of_ble_eq_true rfl) (Nat.le_of_ble_eq_true rfl) hK hNw hl.1 hP hD hS (fun w1 H locs h1 hP hD hS => ?_)
  refine lv_astore_n (lv' := [(1, .ref q10), (0, .ref b)]) hx hb dL_7 rfl hl (by decide) rfl (fun ls hl => ?_)
  refine va_new (ci := 10) (D := D) (cl := gCl) (tys := kT J Z) (C := RX11) (T := TX11) (N := 22) hx hb hts2 (gCl_ok (ci := 10) rfl).1 tyX11 tyX11_ok hown (hts2 _ (gTbl_in (List.mem_of_getElem? (i := 984) (by decide +kernel)) (by decide +kernel))) (hts2 _ (gTbl_in (List.mem_of_getElem? (i := 985) (by decide +kernel)) (by decide +kernel))) (hts2 _ (gTbl_in (List.mem_of_getElem? (i := 69) (by decide +kernel)) (by decide +kernel))) hK hP hD hS hA rfl k_dvX11 (Nat.le_of_ble_eq_true rfl) (Nat.le_of_ble_eq_true rfl) dL_8 (fun q11 H hP hD hS => ?_)
  refine lv_dup hx hb dL_11 rfl ?_
  refine law_ctor (D := (D, J, Z)) C0 dL_12 (gTbl_in (List.mem_of_getElem? (i := 986) (by decide +kernel)) (by decide +kernel)) kf_X11 ks_X11 (by decide) (Nat.le_of_ble_eq_true rfl) (Nat.le_of_ble_eq_true rfl) (Nat.le_of_ble_eq_true rfl) hK hNw hl.1 hP hD hS (fun w2 H locs h2 hP hD hS => ?_)
  refine lv_astore_n (lv' := [(2, .ref q11), (1, .ref q10), (0, .ref b)]) hx hb dL_15 rfl hl (by decide) rfl (fun ls hl => ?_)
  refine lv_iconst (v := 0) hx hb dL_16 (by decide) ?_
  refine lv_istore_n (lv' := [(3, .int 0), (2, .ref q11), (1, .ref q10), (0, .ref b)]) hx hb dL_17 rfl hl (by decide) rfl (fun ls hl => ?_)
  refine W.widen (k := 600000) (n := 7302250) (Nat.le_of_ble_eq_true rfl) (Nat.le_of_ble_eq_true rfl) ?_
  obtain ⟨f, rfl, rfl⟩ := h1
  obtain ⟨g, rfl, rfl⟩ := h2
  have eW : gW (D, gAd f g sK sV, (J, Z), fm) gM0 = [] ++ kX10 (D, J, Z) f 0 ++ kX11 (D, J, Z) g 0 := gW0
  rw [← eW] at hP hD
  generalize hΓ : ((D, gAd f g sK sV, (J, Z), fm) : gC) = Γ at hP hD
  have cell : ∀ i, i < 76 → ∃ x : Nat × va_E, (gW Γ gM0)[i]? = some x ∧ x.1 = Γ.2.1 i := by
    intro i hi
    cases hsh : gSh[i]? with
    | none => exact absurd (List.getElem?_eq_none_iff.mp hsh) (by rw [gSh_len]; omega)
    | some sh => exact ⟨_, gW_at hsh, rfl⟩
  have hN : gN Γ := ⟨fun i j hi hj hij => by
    obtain ⟨x, hx1, hx2⟩ := cell i hi
    obtain ⟨z, hz1, hz2⟩ := cell j hj
    exact hD.1 i j x z hx1 hz1 (by rw [hx2, hz2, hij]), by rw [← hΓ]; exact hcat⟩
  have hO : ∀ q : Nat, gOwn Γ q → s.heap.size ≤ q := by
    rintro q ⟨i, hi, rfl⟩
    obtain ⟨x, hx1, hx2⟩ := cell i hi
    rw [← hx2]
    exact hD.2 i x hx1
  have hG : gX Γ (gOwn Γ) s s.heap := by
    refine ⟨(hStr.narrow hO).congr (fun i hi => ?_) (fun i hi => ?_), fun i q hq => ?_, hZ1.narrow hO, ?_, fun a i x h hw => hNw a i x h hw⟩
    · rw [← hΓ]
      show gAd f g sK sV (1000 + i) = sK i
      unfold gAd
      rw [if_neg (by omega), if_neg (by omega), if_pos (by omega), Nat.add_sub_cancel_left]
    · rw [← hΓ]
      show gAd f g sK sV (1100 + i) = sV i
      unfold gAd
      rw [if_neg (by omega), if_neg (by omega), if_neg (by omega), Nat.add_sub_cancel_left]
    · have hi : i < 5 := (List.getElem?_eq_some_iff.mp hq).1
      have ea : Γ.2.1 (1000 + i) = sK i := by
        rw [← hΓ]
        show gAd f g sK sV (1000 + i) = sK i
        unfold gAd
        rw [if_neg (by omega), if_neg (by omega), if_pos (by omega), Nat.add_sub_cancel_left]
      rw [ea]
      exact hRef i q hq
    · rw [← hΓ] at hO ⊢
      exact hZ2.narrow hO
  have hK2 : va_K Γ.1 gCl (gT Γ) s := by rw [← hΓ]; exact hK
  have hP2 : va_P Γ.1 gCl (gW Γ gM0) H := by rw [← hΓ] at hP ⊢; exact hP
  have e0 : Γ.2.1 0 = f 0 := by rw [← hΓ]; rfl
  have e63 : Γ.2.1 63 = g 0 := by rw [← hΓ]; rfl
  refine law_head (Γ := Γ) ⟨C0, hL, hK2, hN, hG, hO⟩ (L + 1) 0 gM0 (Nat.zero_le _) (by omega) gM0_inv H locs ls hP2 hS ?_
  rw [e0, e63]
  exact lv_sub hl [3, 2, 1, 0] rfl
set_option maxHeartbeats 4000000 in
theorem lw_walk (l : Launch) (hflags : l.flags = flags0) (b : Addr) (xs : List Int32) : MetFree l x (headSpec (Jvm.Cond.code x code maxLocals ret :: tables_1) room_1) (lw_P b xs) (fun _ _ _ _ _ => True) lw_Q := by
  refine MetFree.of_bodyS (code := code) (maxLocals := maxLocals) (ret := ret) (by decide) ?_ ?_
  · intro args s m h hn
    obtain ⟨meth, c, h1, h2, h3, h4, h5, h6, -, -⟩ := Cond.code_spec hn (atoms_spec (ws := Jvm.Cond.code x code maxLocals ret :: tables_1) h _ List.mem_cons_self)
    exact ⟨meth, c, h1, h2, h3, h4, h5, h6⟩
  · intro p e s m args below meth c s₁ B hml0 hP _
    obtain ⟨rfl, hx, hbd, hgv⟩ := hP
    obtain ⟨scr, harrAt, hlist, hof, hsmall⟩ := hx
    obtain ⟨hcb, hkn, -, -⟩ := State.arrayAt?_spec harrAt
    have hown : s.vm.findClass R_law = some m.cls := findClass_of_methodNamed B.named
    have hts0 : ∀ c ∈ (Jvm.Cond.code x code maxLocals ret :: tables_1), c.before #[Value.ref b] s = true := atoms_spec (ws := Jvm.Cond.code x code maxLocals ret :: tables_1) B.pre
    have hts : ∀ w ∈ lw_tbl, w.before #[Value.ref b] s = true := k2_hts_sels lw_privs (fun w hw => hts0 w (List.mem_cons_of_mem _ hw)) lw_privs_ok
    have hml : c.maxLocals = 4 := B.maxLocals_eq (hts0 _ List.mem_cons_self)
    have X₀ : Stand p l e room_1 s m #[Value.ref b] below meth c s₁ [] 0 0 := Stand.of_body B
    have hh0 : s₁.heap = s.heap := by rw [B.state]; rfl
    have hsz : scr.slots.size = xs.length := by rw [← Array.length_toList, hlist, List.length_map]
    have hval : ∀ j : Nat, j < xs.length → scr.slots[j]? = some (.int (xs.getD j 0)) := fun j hj => by
      rw [← Array.getElem?_toList, hlist]
      simp [hj]
    have hbl : b < s.heap.size := (Array.getElem?_eq_some_iff.mp hcb).1
    have hX : va_X b xs.length (fun j => xs.getD j 0) s s.heap := ⟨scr, hcb, hof, hkn, hsz, hval⟩
    have K : W p l e room_1 s m #[Value.ref b] below meth c s₁.heap [] 0 0 (lw_Z below #[Value.ref b] s) (entryFrame m ([Value.ref b] : List Value).toArray 4) := by
      rw [hh0]
      exact whole_start l hflags hbd ⟨B.exec, B.bytes, B.returns, hml, hown, hts, hX, hbl, B.notSynchronized, hgv⟩
    obtain ⟨t, a1, o, b1, b2, b3⟩ := K s₁ rfl X₀
    exact ⟨t, o, a1, b1, b2, b3⟩
theorem lw_pre_spec {args : Array Value} {s : State} (h : (Jvm.Cond.and given_1 narrow_1).before args s = true) (hr : rest_1_c.before args s = true) : ∃ (b : Addr) (xs : List Int32), lw_P b xs args s := by
  have hs := flat_of_before _ h
  have hq := flat_of_before _ hr
  have hc : (Cond.count 1).before args s = true := hs _ (by decide +kernel)
  have harr : (Cond.arrayOf (.arg 0) .int).before args s = true := hs _ (by decide +kernel)
  have hle : (Cond.le (.length (.arg 0)) (.int 2560)).before args s = true := hs _ (by decide +kernel)
  have hlen : (Cond.isInt (.length (.arg 0))).before args s = true := hq _ (by decide +kernel)
  have hall : (Cond.all (.arg 0) (.isInt (.elem (.arg 0) (.index 0)))).before args s = true := hq _ (by decide +kernel)
  obtain ⟨b, xs, hb, hx⟩ := State.ints_of_pre rfl harr hlen hall
  have hsm : xs.length < 2 ^ 31 := hx.choose_spec.2.2.2
  have hev : (Term.length (.arg 0)).eval args s none [] s = some (.int xs.length.toInt32) := hx.length_eval hb
  have hv := Cond.le_ints hev (show (Term.int 2560).eval args s none [] s = some (.int 2560) from rfl)
  have hd : xs.length.toInt32 ≤ 2560 := by
    simpa [Cond.before, Cond.holds, hv] using hle
  have hN : xs.length ≤ 2560 := (Int32.ofNat_le_ofNat hsm (by decide)).mp (show Int32.ofNat xs.length ≤ Int32.ofNat 2560 from hd)
  exact ⟨b, xs, Cond.one_arg hc (show args[0]? = some (.ref b) from hb), hx, hN, h⟩
theorem lw_comes (l : Launch) (hflags : l.flags = flags0) : Comes l x (Jvm.Cond.code x code maxLocals ret :: tables_1) room_1 (fun tb e args s => Calls_1 tb e args s ∧ rest_1 tb e args s ∧ Pre_1 tb e args s)
    (fun _ _ args s o t => lw_Q args s o t) := by
  intro p e ha hc hk s m args below hf hfit hheap happ hpre
  obtain ⟨b, xs, hP⟩ := lw_pre_spec hpre.2.2 hpre.2.1
  obtain ⟨k, o, h1, h2, h3, hQ⟩ := lw_walk l hflags b xs p e ha hc hk s m args below hf ((Spec.applies_iff_loose hf).mp happ).1 hP trivial
  exact ⟨k, o, h1, h2, h3, hQ⟩
theorem lw_frame {s t : State} {o : Outcome} {args : Array Value} (h : Framed s o t [] 600000 7302250) :
    Framed s o t (fieldLocs frame_1_writes args s ++ arrayLocs frame_1_arrays args s ++ staticLocs frame_1_statics s) 600000 7302250 := h
theorem lw_limb (L : Cond) (hL : ∀ (args : Array Value) (s t : State), L.after args s (.returned (some (.int 1))) t = true) :
    ArmFor flags0 classFile x code maxLocals ret World_1 tables_1 room_1 Calls_1 rest_1 Pre_1
      (fun tb e a s o t => postC L tb e a s o t ∧ Framed s o t (fieldLocs frame_1_writes a s ++ arrayLocs frame_1_arrays a s ++ staticLocs frame_1_statics s) 600000 7302250) := by
  intro l hflags _ _ p e ha hc hk s m args below hf hfit hheap happ hpre
  obtain ⟨k, o, h1, h2, h3, rfl, hF⟩ := lw_comes l hflags p e ha hc hk s m args below hf hfit hheap happ hpre
  exact ⟨k, _, h1, h2, h3, hL args s _, lw_frame hF⟩
theorem i_vc : Claimed_1_1 ∧ Claimed_1_2 := ⟨lw_limb limb_1_1 (fun args s t => by simp [limb_1_1, Cond.after, Cond.holds, Cond.value]), lw_limb limb_1_2 (fun args s t => Cond.after_iff.mpr (by
  first | (rw [show limb_1_2 = Cond.eq .result (.int 1) from rfl, Cond.eq_ints (x := 1) (y := 1) rfl rfl]; simp; done) | (simp [limb_1_2, Cond.value, Term.eval]; done)))⟩
