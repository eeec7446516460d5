/-! CONSTRUCTORS: their contracts, printed by program (wip/whole/gen/ctor.py) -/
theorem KK.stoL {D : kD} {d mc ms : Nat} {y : gMI} {h0 : Nat} {A : Nat → Prop} {k n pc pc' : Nat} {st : List Value} {w0 : va_W} {Q : va_W → Prop} {a N j : Nat} {f : Nat → Int32} {i x : Int32} (h : gD y pc .iastore 1 pc') (hi : i = nI j) (hj : j < N) (hN : N ≤ 1000) (kk : KK D d mc ms y h0 A k n pc' st (w0 ++ [(a, .inl (D.2.1, N, .inl (upd f j x)))]) Q) : KK D d mc ms y h0 A k n pc (.int x :: .int i :: .ref a :: st) (w0 ++ [(a, .inl (D.2.1, N, .inl f))]) Q := by
  refine KK.sto (q0 := w0.length) h (by rw [List.getElem?_append_right (Nat.le_refl _), Nat.sub_self]; rfl) hi hj hN ?_
  rw [List.set_append_right _ _ (Nat.le_refl _), Nat.sub_self]
  exact kk
theorem k_dvX6 : ∀ j, j < 2 → defaultValue (tyX6 j) = vp_V [.int 0, .null] j
  | 0, _ => rfl
  | 1, _ => rfl
  | j + 2, h => absurd h (by omega)
theorem kf_X6 : kMf MX6_init := ⟨gTbl_in (List.mem_of_getElem? (i := 151) (by decide +kernel)) (by decide +kernel), gTbl_in (List.mem_of_getElem? (i := 62) (by decide +kernel)) (by decide +kernel), gTbl_in (List.mem_of_getElem? (i := 150) (by decide +kernel)) (by decide +kernel), ⟨by decide +kernel, by decide +kernel, by decide +kernel⟩, rfl, rfl, rfl⟩
def kX6 (D : kD) (f : Nat → Nat) (b : Nat) : va_W := [((f b), .inr (5, [.int 0, .ref (f (b + 1))])), ((f (b + 1)), .inl (D.2.1, 24, .inl (fun _ => 0)))]
theorem ks_X6 : KS 1 1 24 MX6_init (.inr (5, [.int 0, .null])) (fun D h w => ∃ f : Nat → Nat, f 0 = h ∧ w = kX6 D f 0) := by
  refine KS.of (by decide) rfl rfl rfl (fun D h0 A => ?_)
  refine KK.aload e_X6_init_0 ?_
  refine KK.obj e_X6_init_1 (gTbl_in (List.mem_of_getElem? (i := 152) (by decide +kernel)) (by decide +kernel)) (by decide) ?_
  refine KK.aload e_X6_init_4 ?_
  refine KK.bipush (v := 24) e_X6_init_5 (by decide) ?_
  refine KK.newI (N := 24) e_X6_init_7 (by decide) (by decide) (by decide) (by decide) (by decide) (fun a1 => ?_)
  refine KK.putF e_X6_init_9 (ci := 5) (j := 1) rfl (by decide) (gTbl_in (List.mem_of_getElem? (i := 157) (by decide +kernel)) (by decide +kernel)) rfl rfl (ty := (.array .int)) (by decide +kernel) rfl rfl (Nat.le_of_ble_eq_true rfl) ?_
  refine KK.ret e_X6_init_12 rfl rfl ?_
  exact ⟨fun i => ([h0, a1] : List Nat).getD i 0, rfl, rfl⟩
theorem k_dvX5 : ∀ j, j < 2 → defaultValue (tyX5 j) = vp_V [.int 0, .null] j
  | 0, _ => rfl
  | 1, _ => rfl
  | j + 2, h => absurd h (by omega)
theorem kf_X5 : kMf MX5_init := ⟨gTbl_in (List.mem_of_getElem? (i := 167) (by decide +kernel)) (by decide +kernel), gTbl_in (List.mem_of_getElem? (i := 63) (by decide +kernel)) (by decide +kernel), gTbl_in (List.mem_of_getElem? (i := 166) (by decide +kernel)) (by decide +kernel), ⟨by decide +kernel, by decide +kernel, by decide +kernel⟩, rfl, rfl, rfl⟩
def kX5 (D : kD) (f : Nat → Nat) (b : Nat) : va_W := [((f b), .inr (4, [.int 0, .ref (f (b + 1))])), ((f (b + 1)), .inl (D.2.1, 80, .inl (fun _ => 0)))]
theorem ks_X5 : KS 1 1 80 MX5_init (.inr (4, [.int 0, .null])) (fun D h w => ∃ f : Nat → Nat, f 0 = h ∧ w = kX5 D f 0) := by
  refine KS.of (by decide) rfl rfl rfl (fun D h0 A => ?_)
  refine KK.aload e_X5_init_0 ?_
  refine KK.obj e_X5_init_1 (gTbl_in (List.mem_of_getElem? (i := 168) (by decide +kernel)) (by decide +kernel)) (by decide) ?_
  refine KK.aload e_X5_init_4 ?_
  refine KK.bipush (v := 80) e_X5_init_5 (by decide) ?_
  refine KK.newI (N := 80) e_X5_init_7 (by decide) (by decide) (by decide) (by decide) (by decide) (fun a1 => ?_)
  refine KK.putF e_X5_init_9 (ci := 4) (j := 1) rfl (by decide) (gTbl_in (List.mem_of_getElem? (i := 171) (by decide +kernel)) (by decide +kernel)) rfl rfl (ty := (.array .int)) (by decide +kernel) rfl rfl (Nat.le_of_ble_eq_true rfl) ?_
  refine KK.ret e_X5_init_12 rfl rfl ?_
  exact ⟨fun i => ([h0, a1] : List Nat).getD i 0, rfl, rfl⟩
theorem k_dvX4 : ∀ j, j < 11 → defaultValue (tyX4 j) = vp_V [.int 0, .int 0, .null, .null, .null, .int 0, .null, .null, .int 0, .int 0, .int 0] j
  | 0, _ => rfl
  | 1, _ => rfl
  | 2, _ => rfl
  | 3, _ => rfl
  | 4, _ => rfl
  | 5, _ => rfl
  | 6, _ => rfl
  | 7, _ => rfl
  | 8, _ => rfl
  | 9, _ => rfl
  | 10, _ => rfl
  | j + 11, h => absurd h (by omega)
theorem kf_X4 : kMf MX4_init := ⟨gTbl_in (List.mem_of_getElem? (i := 95) (by decide +kernel)) (by decide +kernel), gTbl_in (List.mem_of_getElem? (i := 61) (by decide +kernel)) (by decide +kernel), gTbl_in (List.mem_of_getElem? (i := 94) (by decide +kernel)) (by decide +kernel), ⟨by decide +kernel, by decide +kernel, by decide +kernel⟩, rfl, rfl, rfl⟩
def kX4 (D : kD) (f : Nat → Nat) (b : Nat) : va_W := [((f b), .inr (3, [.int 12, .int 0, .ref (f (b + 1)), .ref (f (b + 2)), .ref (f (b + 3)), .int 0, .ref (f (b + 4)), .ref (f (b + 5)), .int 0, .int 0, .int 0])), ((f (b + 1)), .inl (D.2.1, 7, .inl (fun _ => 0))), ((f (b + 2)), .inl (D.2.1, 7, .inl (fun _ => 0))), ((f (b + 3)), .inl (D.2.1, 7, .inl (fun _ => 0))), ((f (b + 4)), .inl (D.2.1, 4, .inl (fun _ => 0))), ((f (b + 5)), .inl (D.2.1, 4, .inl (fun _ => 0)))]
theorem ks_X4 : KS 1 5 29 MX4_init (.inr (3, [.int 0, .int 0, .null, .null, .null, .int 0, .null, .null, .int 0, .int 0, .int 0])) (fun D h w => ∃ f : Nat → Nat, f 0 = h ∧ w = kX4 D f 0) := by
  refine KS.of (by decide) rfl rfl rfl (fun D h0 A => ?_)
  refine KK.aload e_X4_init_0 ?_
  refine KK.obj e_X4_init_1 (gTbl_in (List.mem_of_getElem? (i := 96) (by decide +kernel)) (by decide +kernel)) (by decide) ?_
  refine KK.aload e_X4_init_4 ?_
  refine KK.bipush (v := 12) e_X4_init_5 (by decide) ?_
  refine KK.put e_X4_init_7 (ci := 3) (j := 0) rfl (by decide) (gTbl_in (List.mem_of_getElem? (i := 97) (by decide +kernel)) (by decide +kernel)) rfl (ty := .int) (by decide +kernel) rfl rfl (Nat.le_of_ble_eq_true rfl) ?_
  refine KK.aload e_X4_init_10 ?_
  refine KK.bipush (v := 7) e_X4_init_11 (by decide) ?_
  refine KK.newI (N := 7) e_X4_init_13 (by decide) (by decide) (by decide) (by decide) (by decide) (fun a1 => ?_)
  refine KK.putF e_X4_init_15 (ci := 3) (j := 2) rfl (by decide) (gTbl_in (List.mem_of_getElem? (i := 105) (by decide +kernel)) (by decide +kernel)) rfl rfl (ty := (.array .int)) (by decide +kernel) rfl rfl (Nat.le_of_ble_eq_true rfl) ?_
  refine KK.aload e_X4_init_18 ?_
  refine KK.bipush (v := 7) e_X4_init_19 (by decide) ?_
  refine KK.newI (N := 7) e_X4_init_21 (by decide) (by decide) (by decide) (by decide) (by decide) (fun a2 => ?_)
  refine KK.putF e_X4_init_23 (ci := 3) (j := 3) rfl (by decide) (gTbl_in (List.mem_of_getElem? (i := 106) (by decide +kernel)) (by decide +kernel)) rfl rfl (ty := (.array .int)) (by decide +kernel) rfl rfl (Nat.le_of_ble_eq_true rfl) ?_
  refine KK.aload e_X4_init_26 ?_
  refine KK.bipush (v := 7) e_X4_init_27 (by decide) ?_
  refine KK.newI (N := 7) e_X4_init_29 (by decide) (by decide) (by decide) (by decide) (by decide) (fun a3 => ?_)
  refine KK.putF e_X4_init_31 (ci := 3) (j := 4) rfl (by decide) (gTbl_in (List.mem_of_getElem? (i := 107) (by decide +kernel)) (by decide +kernel)) rfl rfl (ty := (.array .int)) (by decide +kernel) rfl rfl (Nat.le_of_ble_eq_true rfl) ?_
  refine KK.aload e_X4_init_34 ?_
  refine KK.iconst (v := 4) e_X4_init_35 rfl ?_
  refine KK.newI (N := 4) e_X4_init_36 (by decide) (by decide) (by decide) (by decide) (by decide) (fun a4 => ?_)
  refine KK.putF e_X4_init_38 (ci := 3) (j := 6) rfl (by decide) (gTbl_in (List.mem_of_getElem? (i := 112) (by decide +kernel)) (by decide +kernel)) rfl rfl (ty := (.array .int)) (by decide +kernel) rfl rfl (Nat.le_of_ble_eq_true rfl) ?_
  refine KK.aload e_X4_init_41 ?_
  refine KK.iconst (v := 4) e_X4_init_42 rfl ?_
  refine KK.newI (N := 4) e_X4_init_43 (by decide) (by decide) (by decide) (by decide) (by decide) (fun a5 => ?_)
  refine KK.putF e_X4_init_45 (ci := 3) (j := 7) rfl (by decide) (gTbl_in (List.mem_of_getElem? (i := 113) (by decide +kernel)) (by decide +kernel)) rfl rfl (ty := (.array .int)) (by decide +kernel) rfl rfl (Nat.le_of_ble_eq_true rfl) ?_
  refine KK.ret e_X4_init_48 rfl rfl ?_
  exact ⟨fun i => ([h0, a1, a2, a3, a4, a5] : List Nat).getD i 0, rfl, rfl⟩
theorem k_dvX7 : ∀ j, j < 6 → defaultValue (tyX7 j) = vp_V [.int 0, .null, .int 0, .int 0, .int 0, .null] j
  | 0, _ => rfl
  | 1, _ => rfl
  | 2, _ => rfl
  | 3, _ => rfl
  | 4, _ => rfl
  | 5, _ => rfl
  | j + 6, h => absurd h (by omega)
theorem kf_X7 : kMf MX7_init := ⟨gTbl_in (List.mem_of_getElem? (i := 202) (by decide +kernel)) (by decide +kernel), gTbl_in (List.mem_of_getElem? (i := 64) (by decide +kernel)) (by decide +kernel), gTbl_in (List.mem_of_getElem? (i := 201) (by decide +kernel)) (by decide +kernel), ⟨by decide +kernel, by decide +kernel, by decide +kernel⟩, rfl, rfl, rfl⟩
def kX7 (D : kD) (f : Nat → Nat) (b : Nat) : va_W := [((f b), .inr (6, [.int 0, .ref (f (b + 1)), .int 0, .int 0, .int 0, .ref (f (b + 2))])), ((f (b + 1)), .inl (D.2.1, 150, .inl (fun _ => 0))), ((f (b + 2)), .inl (D.2.1, 3, .inl (fun _ => 0)))]
theorem ks_X7 : KS 1 2 153 MX7_init (.inr (6, [.int 0, .null, .int 0, .int 0, .int 0, .null])) (fun D h w => ∃ f : Nat → Nat, f 0 = h ∧ w = kX7 D f 0) := by
  refine KS.of (by decide) rfl rfl rfl (fun D h0 A => ?_)
  refine KK.aload e_X7_init_0 ?_
  refine KK.obj e_X7_init_1 (gTbl_in (List.mem_of_getElem? (i := 203) (by decide +kernel)) (by decide +kernel)) (by decide) ?_
  refine KK.aload e_X7_init_4 ?_
  refine KK.sipush (v := 150) e_X7_init_5 (by decide) ?_
  refine KK.newI (N := 150) e_X7_init_8 (by decide) (by decide) (by decide) (by decide) (by decide) (fun a1 => ?_)
  refine KK.putF e_X7_init_10 (ci := 6) (j := 1) rfl (by decide) (gTbl_in (List.mem_of_getElem? (i := 206) (by decide +kernel)) (by decide +kernel)) rfl rfl (ty := (.array .int)) (by decide +kernel) rfl rfl (Nat.le_of_ble_eq_true rfl) ?_
  refine KK.aload e_X7_init_13 ?_
  refine KK.iconst (v := 3) e_X7_init_14 rfl ?_
  refine KK.newI (N := 3) e_X7_init_15 (by decide) (by decide) (by decide) (by decide) (by decide) (fun a2 => ?_)
  refine KK.putF e_X7_init_17 (ci := 6) (j := 5) rfl (by decide) (gTbl_in (List.mem_of_getElem? (i := 210) (by decide +kernel)) (by decide +kernel)) rfl rfl (ty := (.array .int)) (by decide +kernel) rfl rfl (Nat.le_of_ble_eq_true rfl) ?_
  refine KK.ret e_X7_init_20 rfl rfl ?_
  exact ⟨fun i => ([h0, a1, a2] : List Nat).getD i 0, rfl, rfl⟩
theorem k_dvX0 : ∀ j, j < 2 → defaultValue (tyX0 j) = vp_V [.long 0, .long 0] j
  | 0, _ => rfl
  | 1, _ => rfl
  | j + 2, h => absurd h (by omega)
theorem kf_X0 : kMf MX0_init := ⟨gTbl_in (List.mem_of_getElem? (i := 228) (by decide +kernel)) (by decide +kernel), gTbl_in (List.mem_of_getElem? (i := 65) (by decide +kernel)) (by decide +kernel), gTbl_in (List.mem_of_getElem? (i := 227) (by decide +kernel)) (by decide +kernel), ⟨by decide +kernel, by decide +kernel, by decide +kernel⟩, rfl, rfl, rfl⟩
def kX0 (D : kD) (f : Nat → Nat) (b : Nat) : va_W := [((f b), .inr (0, [.long 0, .long 1]))]
theorem ks_X0 : KS 1 0 0 MX0_init (.inr (0, [.long 0, .long 0])) (fun D h w => ∃ f : Nat → Nat, f 0 = h ∧ w = kX0 D f 0) := by
  refine KS.of (by decide) rfl rfl rfl (fun D h0 A => ?_)
  refine KK.aload e_X0_init_0 ?_
  refine KK.obj e_X0_init_1 (gTbl_in (List.mem_of_getElem? (i := 229) (by decide +kernel)) (by decide +kernel)) (by decide) ?_
  refine KK.aload e_X0_init_4 ?_
  refine KK.lconst (v := 1) e_X0_init_5 (by decide) ?_
  refine KK.put e_X0_init_6 (ci := 0) (j := 1) rfl (by decide) (gTbl_in (List.mem_of_getElem? (i := 232) (by decide +kernel)) (by decide +kernel)) rfl (ty := .long) (by decide +kernel) rfl rfl (Nat.le_of_ble_eq_true rfl) ?_
  refine KK.ret e_X0_init_9 rfl rfl ?_
  exact ⟨fun i => ([h0] : List Nat).getD i 0, rfl, rfl⟩
theorem k_dvX1 : ∀ j, j < 1 → defaultValue (tyX1 j) = vp_V [.null] j
  | 0, _ => rfl
  | j + 1, h => absurd h (by omega)
theorem kf_X1 : kMf MX1_init := ⟨gTbl_in (List.mem_of_getElem? (i := 259) (by decide +kernel)) (by decide +kernel), gTbl_in (List.mem_of_getElem? (i := 67) (by decide +kernel)) (by decide +kernel), gTbl_in (List.mem_of_getElem? (i := 258) (by decide +kernel)) (by decide +kernel), ⟨by decide +kernel, by decide +kernel, by decide +kernel⟩, rfl, rfl, rfl⟩
def kX1 (D : kD) (f : Nat → Nat) (b : Nat) : va_W := [((f b), .inr (1, [.ref (f (b + 1))])), ((f (b + 1)), .inl (D.2.1, 6, .inl (fun _ => 0)))]
theorem ks_X1 : KS 1 1 6 MX1_init (.inr (1, [.null])) (fun D h w => ∃ f : Nat → Nat, f 0 = h ∧ w = kX1 D f 0) := by
  refine KS.of (by decide) rfl rfl rfl (fun D h0 A => ?_)
  refine KK.aload e_X1_init_0 ?_
  refine KK.obj e_X1_init_1 (gTbl_in (List.mem_of_getElem? (i := 260) (by decide +kernel)) (by decide +kernel)) (by decide) ?_
  refine KK.aload e_X1_init_4 ?_
  refine KK.bipush (v := 6) e_X1_init_5 (by decide) ?_
  refine KK.newI (N := 6) e_X1_init_7 (by decide) (by decide) (by decide) (by decide) (by decide) (fun a1 => ?_)
  refine KK.putF e_X1_init_9 (ci := 1) (j := 0) rfl (by decide) (gTbl_in (List.mem_of_getElem? (i := 261) (by decide +kernel)) (by decide +kernel)) rfl rfl (ty := (.array .int)) (by decide +kernel) rfl rfl (Nat.le_of_ble_eq_true rfl) ?_
  refine KK.ret e_X1_init_12 rfl rfl ?_
  exact ⟨fun i => ([h0, a1] : List Nat).getD i 0, rfl, rfl⟩
theorem k_dvX9 : ∀ j, j < 3 → defaultValue (tyX9 j) = vp_V [.int 0, .null, .null] j
  | 0, _ => rfl
  | 1, _ => rfl
  | 2, _ => rfl
  | j + 3, h => absurd h (by omega)
theorem kf_X9 : kMf MX9_init := ⟨gTbl_in (List.mem_of_getElem? (i := 269) (by decide +kernel)) (by decide +kernel), gTbl_in (List.mem_of_getElem? (i := 68) (by decide +kernel)) (by decide +kernel), gTbl_in (List.mem_of_getElem? (i := 268) (by decide +kernel)) (by decide +kernel), ⟨by decide +kernel, by decide +kernel, by decide +kernel⟩, rfl, rfl, rfl⟩
def kX9 (D : kD) (f : Nat → Nat) (b : Nat) : va_W := [((f b), .inr (8, [.int 0, .ref (f (b + 1)), .ref (f (b + 2))])), ((f (b + 1)), .inl (D.2.1, 7, .inl (fun _ => 0))), ((f (b + 2)), .inl (D.2.1, 7, .inl (fun _ => 0)))]
theorem ks_X9 : KS 1 2 14 MX9_init (.inr (8, [.int 0, .null, .null])) (fun D h w => ∃ f : Nat → Nat, f 0 = h ∧ w = kX9 D f 0) := by
  refine KS.of (by decide) rfl rfl rfl (fun D h0 A => ?_)
  refine KK.aload e_X9_init_0 ?_
  refine KK.obj e_X9_init_1 (gTbl_in (List.mem_of_getElem? (i := 270) (by decide +kernel)) (by decide +kernel)) (by decide) ?_
  refine KK.aload e_X9_init_4 ?_
  refine KK.bipush (v := 7) e_X9_init_5 (by decide) ?_
  refine KK.newI (N := 7) e_X9_init_7 (by decide) (by decide) (by decide) (by decide) (by decide) (fun a1 => ?_)
  refine KK.putF e_X9_init_9 (ci := 8) (j := 1) rfl (by decide) (gTbl_in (List.mem_of_getElem? (i := 273) (by decide +kernel)) (by decide +kernel)) rfl rfl (ty := (.array .int)) (by decide +kernel) rfl rfl (Nat.le_of_ble_eq_true rfl) ?_
  refine KK.aload e_X9_init_12 ?_
  refine KK.bipush (v := 7) e_X9_init_13 (by decide) ?_
  refine KK.newI (N := 7) e_X9_init_15 (by decide) (by decide) (by decide) (by decide) (by decide) (fun a2 => ?_)
  refine KK.putF e_X9_init_17 (ci := 8) (j := 2) rfl (by decide) (gTbl_in (List.mem_of_getElem? (i := 274) (by decide +kernel)) (by decide +kernel)) rfl rfl (ty := (.array .int)) (by decide +kernel) rfl rfl (Nat.le_of_ble_eq_true rfl) ?_
  refine KK.ret e_X9_init_20 rfl rfl ?_
  exact ⟨fun i => ([h0, a1, a2] : List Nat).getD i 0, rfl, rfl⟩
theorem k_dvX2 : ∀ j, j < 5 → defaultValue (tyX2 j) = vp_V [.null, .null, .null, .null, .null] j
  | 0, _ => rfl
  | 1, _ => rfl
  | 2, _ => rfl
  | 3, _ => rfl
  | 4, _ => rfl
  | j + 5, h => absurd h (by omega)
theorem kf_X2 : kMf MX2_init := ⟨gTbl_in (List.mem_of_getElem? (i := 89) (by decide +kernel)) (by decide +kernel), gTbl_in (List.mem_of_getElem? (i := 60) (by decide +kernel)) (by decide +kernel), gTbl_in (List.mem_of_getElem? (i := 88) (by decide +kernel)) (by decide +kernel), ⟨by decide +kernel, by decide +kernel, by decide +kernel⟩, rfl, rfl, rfl⟩
def kX2 (D : kD) (f : Nat → Nat) (b : Nat) : va_W := [((f b), .inr (2, [.ref (f (b + 1)), .ref (f (b + 7)), .ref (f (b + 9)), .ref (f (b + 11)), .ref (f (b + 13))])), ((f (b + 1)), .inr (3, [.int 12, .int 0, .ref (f (b + 2)), .ref (f (b + 3)), .ref (f (b + 4)), .int 0, .ref (f (b + 5)), .ref (f (b + 6)), .int 0, .int 0, .int 0])), ((f (b + 2)), .inl (D.2.1, 7, .inl (fun _ => 0))), ((f (b + 3)), .inl (D.2.1, 7, .inl (fun _ => 0))), ((f (b + 4)), .inl (D.2.1, 7, .inl (fun _ => 0))), ((f (b + 5)), .inl (D.2.1, 4, .inl (fun _ => 0))), ((f (b + 6)), .inl (D.2.1, 4, .inl (fun _ => 0))), ((f (b + 7)), .inr (5, [.int 0, .ref (f (b + 8))])), ((f (b + 8)), .inl (D.2.1, 24, .inl (fun _ => 0))), ((f (b + 9)), .inr (5, [.int 0, .ref (f (b + 10))])), ((f (b + 10)), .inl (D.2.1, 24, .inl (fun _ => 0))), ((f (b + 11)), .inr (5, [.int 0, .ref (f (b + 12))])), ((f (b + 12)), .inl (D.2.1, 24, .inl (fun _ => 0))), ((f (b + 13)), .inr (4, [.int 0, .ref (f (b + 14))])), ((f (b + 14)), .inl (D.2.1, 80, .inl (fun _ => 0)))]
theorem ks_X2 : KS 2 14 200 MX2_init (.inr (2, [.null, .null, .null, .null, .null])) (fun D h w => ∃ f : Nat → Nat, f 0 = h ∧ w = kX2 D f 0) := by
  refine KS.of (by decide) rfl rfl rfl (fun D h0 A => ?_)
  refine KK.aload e_X2_init_0 ?_
  refine KK.obj e_X2_init_1 (gTbl_in (List.mem_of_getElem? (i := 90) (by decide +kernel)) (by decide +kernel)) (by decide) ?_
  refine KK.aload e_X2_init_4 ?_
  refine KK.new e_X2_init_5 (ci := 3) rfl (gTbl_in (List.mem_of_getElem? (i := 91) (by decide +kernel)) (by decide +kernel)) (gTbl_in (List.mem_of_getElem? (i := 92) (by decide +kernel)) (by decide +kernel)) (gTbl_in (List.mem_of_getElem? (i := 61) (by decide +kernel)) (by decide +kernel)) tyX4_ok k_dvX4 (by decide) (by decide) (fun q1 => ?_)
  refine KK.dup e_X2_init_8 rfl ?_
  refine KK.ctor (host := RX10) e_X2_init_9 (List.mem_of_getElem? (i := 93) (by decide +kernel)) kf_X4 ks_X4 (by decide) (Nat.le_of_ble_eq_true rfl) (by decide) (by decide) (fun w1 h1 => ?_)
  refine KK.putF e_X2_init_12 (ci := 2) (j := 0) rfl (by decide) (gTbl_in (List.mem_of_getElem? (i := 177) (by decide +kernel)) (by decide +kernel)) rfl rfl (ty := (.object "LaneCymbals$Lane")) (by decide +kernel) rfl rfl (Nat.le_of_ble_eq_true rfl) ?_
  refine KK.aload e_X2_init_15 ?_
  refine KK.new e_X2_init_16 (ci := 5) rfl (gTbl_in (List.mem_of_getElem? (i := 147) (by decide +kernel)) (by decide +kernel)) (gTbl_in (List.mem_of_getElem? (i := 148) (by decide +kernel)) (by decide +kernel)) (gTbl_in (List.mem_of_getElem? (i := 62) (by decide +kernel)) (by decide +kernel)) tyX6_ok k_dvX6 (by decide) (by decide) (fun q7 => ?_)
  refine KK.dup e_X2_init_19 rfl ?_
  refine KK.ctor (host := RX10) e_X2_init_20 (List.mem_of_getElem? (i := 149) (by decide +kernel)) kf_X6 ks_X6 (by decide) (Nat.le_of_ble_eq_true rfl) (by decide) (by decide) (fun w7 h7 => ?_)
  refine KK.putF e_X2_init_23 (ci := 2) (j := 1) rfl (by decide) (gTbl_in (List.mem_of_getElem? (i := 179) (by decide +kernel)) (by decide +kernel)) rfl rfl (ty := (.object "LaneCymbals$Rows")) (by decide +kernel) rfl rfl (Nat.le_of_ble_eq_true rfl) ?_
  refine KK.aload e_X2_init_26 ?_
  refine KK.new e_X2_init_27 (ci := 5) rfl (gTbl_in (List.mem_of_getElem? (i := 147) (by decide +kernel)) (by decide +kernel)) (gTbl_in (List.mem_of_getElem? (i := 148) (by decide +kernel)) (by decide +kernel)) (gTbl_in (List.mem_of_getElem? (i := 62) (by decide +kernel)) (by decide +kernel)) tyX6_ok k_dvX6 (by decide) (by decide) (fun q9 => ?_)
  refine KK.dup e_X2_init_30 rfl ?_
  refine KK.ctor (host := RX10) e_X2_init_31 (List.mem_of_getElem? (i := 149) (by decide +kernel)) kf_X6 ks_X6 (by decide) (Nat.le_of_ble_eq_true rfl) (by decide) (by decide) (fun w9 h9 => ?_)
  refine KK.putF e_X2_init_34 (ci := 2) (j := 2) rfl (by decide) (gTbl_in (List.mem_of_getElem? (i := 181) (by decide +kernel)) (by decide +kernel)) rfl rfl (ty := (.object "LaneCymbals$Rows")) (by decide +kernel) rfl rfl (Nat.le_of_ble_eq_true rfl) ?_
  refine KK.aload e_X2_init_37 ?_
  refine KK.new e_X2_init_38 (ci := 5) rfl (gTbl_in (List.mem_of_getElem? (i := 147) (by decide +kernel)) (by decide +kernel)) (gTbl_in (List.mem_of_getElem? (i := 148) (by decide +kernel)) (by decide +kernel)) (gTbl_in (List.mem_of_getElem? (i := 62) (by decide +kernel)) (by decide +kernel)) tyX6_ok k_dvX6 (by decide) (by decide) (fun q11 => ?_)
  refine KK.dup e_X2_init_41 rfl ?_
  refine KK.ctor (host := RX10) e_X2_init_42 (List.mem_of_getElem? (i := 149) (by decide +kernel)) kf_X6 ks_X6 (by decide) (Nat.le_of_ble_eq_true rfl) (by decide) (by decide) (fun w11 h11 => ?_)
  refine KK.putF e_X2_init_45 (ci := 2) (j := 3) rfl (by decide) (gTbl_in (List.mem_of_getElem? (i := 183) (by decide +kernel)) (by decide +kernel)) rfl rfl (ty := (.object "LaneCymbals$Rows")) (by decide +kernel) rfl rfl (Nat.le_of_ble_eq_true rfl) ?_
  refine KK.aload e_X2_init_48 ?_
  refine KK.new e_X2_init_49 (ci := 4) rfl (gTbl_in (List.mem_of_getElem? (i := 163) (by decide +kernel)) (by decide +kernel)) (gTbl_in (List.mem_of_getElem? (i := 164) (by decide +kernel)) (by decide +kernel)) (gTbl_in (List.mem_of_getElem? (i := 63) (by decide +kernel)) (by decide +kernel)) tyX5_ok k_dvX5 (by decide) (by decide) (fun q13 => ?_)
  refine KK.dup e_X2_init_52 rfl ?_
  refine KK.ctor (host := RX10) e_X2_init_53 (List.mem_of_getElem? (i := 165) (by decide +kernel)) kf_X5 ks_X5 (by decide) (Nat.le_of_ble_eq_true rfl) (by decide) (by decide) (fun w13 h13 => ?_)
  refine KK.putF e_X2_init_56 (ci := 2) (j := 4) rfl (by decide) (gTbl_in (List.mem_of_getElem? (i := 185) (by decide +kernel)) (by decide +kernel)) rfl rfl (ty := (.object "LaneCymbals$Past")) (by decide +kernel) rfl rfl (Nat.le_of_ble_eq_true rfl) ?_
  refine KK.ret e_X2_init_59 rfl rfl ?_
  obtain ⟨f1, rfl, rfl⟩ := h1
  obtain ⟨f7, rfl, rfl⟩ := h7
  obtain ⟨f9, rfl, rfl⟩ := h9
  obtain ⟨f11, rfl, rfl⟩ := h11
  obtain ⟨f13, rfl, rfl⟩ := h13
  exact ⟨fun i => ([h0, f1 0, f1 1, f1 2, f1 3, f1 4, f1 5, f7 0, f7 1, f9 0, f9 1, f11 0, f11 1, f13 0, f13 1] : List Nat).getD i 0, rfl, rfl⟩
theorem k_dvX8 : ∀ j, j < 2 → defaultValue (tyX8 j) = vp_V [.null, .null] j
  | 0, _ => rfl
  | 1, _ => rfl
  | j + 2, h => absurd h (by omega)
theorem kf_X8 : kMf MX8_init := ⟨gTbl_in (List.mem_of_getElem? (i := 243) (by decide +kernel)) (by decide +kernel), gTbl_in (List.mem_of_getElem? (i := 66) (by decide +kernel)) (by decide +kernel), gTbl_in (List.mem_of_getElem? (i := 242) (by decide +kernel)) (by decide +kernel), ⟨by decide +kernel, by decide +kernel, by decide +kernel⟩, rfl, rfl, rfl⟩
def kX8 (D : kD) (f : Nat → Nat) (b : Nat) : va_W := [((f b), .inr (7, [.ref (f (b + 1)), .ref (f (b + 7))])), ((f (b + 1)), .inr (3, [.int 12, .int 0, .ref (f (b + 2)), .ref (f (b + 3)), .ref (f (b + 4)), .int 0, .ref (f (b + 5)), .ref (f (b + 6)), .int 0, .int 0, .int 0])), ((f (b + 2)), .inl (D.2.1, 7, .inl (fun _ => 0))), ((f (b + 3)), .inl (D.2.1, 7, .inl (fun _ => 0))), ((f (b + 4)), .inl (D.2.1, 7, .inl (fun _ => 0))), ((f (b + 5)), .inl (D.2.1, 4, .inl (fun _ => 0))), ((f (b + 6)), .inl (D.2.1, 4, .inl (fun _ => 0))), ((f (b + 7)), .inl (D.2.1, 20, .inl (fun _ => 0)))]
theorem ks_X8 : KS 2 7 60 MX8_init (.inr (7, [.null, .null])) (fun D h w => ∃ f : Nat → Nat, f 0 = h ∧ w = kX8 D f 0) := by
  refine KS.of (by decide) rfl rfl rfl (fun D h0 A => ?_)
  refine KK.aload e_X8_init_0 ?_
  refine KK.obj e_X8_init_1 (gTbl_in (List.mem_of_getElem? (i := 244) (by decide +kernel)) (by decide +kernel)) (by decide) ?_
  refine KK.aload e_X8_init_4 ?_
  refine KK.new e_X8_init_5 (ci := 3) rfl (gTbl_in (List.mem_of_getElem? (i := 245) (by decide +kernel)) (by decide +kernel)) (gTbl_in (List.mem_of_getElem? (i := 92) (by decide +kernel)) (by decide +kernel)) (gTbl_in (List.mem_of_getElem? (i := 61) (by decide +kernel)) (by decide +kernel)) tyX4_ok k_dvX4 (by decide) (by decide) (fun q1 => ?_)
  refine KK.dup e_X8_init_8 rfl ?_
  refine KK.ctor (host := RX10) e_X8_init_9 (List.mem_of_getElem? (i := 246) (by decide +kernel)) kf_X4 ks_X4 (by decide) (Nat.le_of_ble_eq_true rfl) (by decide) (by decide) (fun w1 h1 => ?_)
  refine KK.putF e_X8_init_12 (ci := 7) (j := 0) rfl (by decide) (gTbl_in (List.mem_of_getElem? (i := 247) (by decide +kernel)) (by decide +kernel)) rfl rfl (ty := (.object "LaneCymbals$Lane")) (by decide +kernel) rfl rfl (Nat.le_of_ble_eq_true rfl) ?_
  refine KK.aload e_X8_init_15 ?_
  refine KK.bipush (v := 20) e_X8_init_16 (by decide) ?_
  refine KK.newI (N := 20) e_X8_init_18 (by decide) (by decide) (by decide) (by decide) (by decide) (fun a7 => ?_)
  refine KK.putF e_X8_init_20 (ci := 7) (j := 1) rfl (by decide) (gTbl_in (List.mem_of_getElem? (i := 249) (by decide +kernel)) (by decide +kernel)) rfl rfl (ty := (.array .int)) (by decide +kernel) rfl rfl (Nat.le_of_ble_eq_true rfl) ?_
  refine KK.ret e_X8_init_23 rfl rfl ?_
  obtain ⟨f1, rfl, rfl⟩ := h1
  exact ⟨fun i => ([h0, f1 0, f1 1, f1 2, f1 3, f1 4, f1 5, a7] : List Nat).getD i 0, rfl, rfl⟩
theorem k_dvX10 : ∀ j, j < 13 → defaultValue (tyX10 j) = vp_V [.null, .null, .null, .int 0, .int 0, .null, .null, .null, .null, .null, .int 0, .int 0, .int 0] j
  | 0, _ => rfl
  | 1, _ => rfl
  | 2, _ => rfl
  | 3, _ => rfl
  | 4, _ => rfl
  | 5, _ => rfl
  | 6, _ => rfl
  | 7, _ => rfl
  | 8, _ => rfl
  | 9, _ => rfl
  | 10, _ => rfl
  | 11, _ => rfl
  | 12, _ => rfl
  | j + 13, h => absurd h (by omega)
theorem kf_X10 : kMf MX10_init := ⟨gTbl_in (List.mem_of_getElem? (i := 81) (by decide +kernel)) (by decide +kernel), gTbl_in (List.mem_of_getElem? (i := 59) (by decide +kernel)) (by decide +kernel), gTbl_in (List.mem_of_getElem? (i := 80) (by decide +kernel)) (by decide +kernel), ⟨by decide +kernel, by decide +kernel, by decide +kernel⟩, rfl, rfl, rfl⟩
def kX10 (D : kD) (f : Nat → Nat) (b : Nat) : va_W := [((f b), .inr (9, [.ref (f (b + 1)), .ref (f (b + 16)), .ref (f (b + 31)), .int 0, .int 0, .ref (f (b + 46)), .ref (f (b + 49)), .ref (f (b + 50)), .ref (f (b + 58)), .ref (f (b + 60)), .int 0, .int 0, .int 0])), ((f (b + 1)), .inr (2, [.ref (f (b + 2)), .ref (f (b + 8)), .ref (f (b + 10)), .ref (f (b + 12)), .ref (f (b + 14))])), ((f (b + 2)), .inr (3, [.int 12, .int 0, .ref (f (b + 3)), .ref (f (b + 4)), .ref (f (b + 5)), .int 0, .ref (f (b + 6)), .ref (f (b + 7)), .int 0, .int 0, .int 0])), ((f (b + 3)), .inl (D.2.1, 7, .inl (fun _ => 0))), ((f (b + 4)), .inl (D.2.1, 7, .inl (fun _ => 0))), ((f (b + 5)), .inl (D.2.1, 7, .inl (fun _ => 0))), ((f (b + 6)), .inl (D.2.1, 4, .inl (fun _ => 0))), ((f (b + 7)), .inl (D.2.1, 4, .inl (fun _ => 0))), ((f (b + 8)), .inr (5, [.int 0, .ref (f (b + 9))])), ((f (b + 9)), .inl (D.2.1, 24, .inl (fun _ => 0))), ((f (b + 10)), .inr (5, [.int 0, .ref (f (b + 11))])), ((f (b + 11)), .inl (D.2.1, 24, .inl (fun _ => 0))), ((f (b + 12)), .inr (5, [.int 0, .ref (f (b + 13))])), ((f (b + 13)), .inl (D.2.1, 24, .inl (fun _ => 0))), ((f (b + 14)), .inr (4, [.int 0, .ref (f (b + 15))])), ((f (b + 15)), .inl (D.2.1, 80, .inl (fun _ => 0))), ((f (b + 16)), .inr (2, [.ref (f (b + 17)), .ref (f (b + 23)), .ref (f (b + 25)), .ref (f (b + 27)), .ref (f (b + 29))])), ((f (b + 17)), .inr (3, [.int 12, .int 0, .ref (f (b + 18)), .ref (f (b + 19)), .ref (f (b + 20)), .int 0, .ref (f (b + 21)), .ref (f (b + 22)), .int 0, .int 0, .int 0])), ((f (b + 18)), .inl (D.2.1, 7, .inl (fun _ => 0))), ((f (b + 19)), .inl (D.2.1, 7, .inl (fun _ => 0))), ((f (b + 20)), .inl (D.2.1, 7, .inl (fun _ => 0))), ((f (b + 21)), .inl (D.2.1, 4, .inl (fun _ => 0))), ((f (b + 22)), .inl (D.2.1, 4, .inl (fun _ => 0))), ((f (b + 23)), .inr (5, [.int 0, .ref (f (b + 24))])), ((f (b + 24)), .inl (D.2.1, 24, .inl (fun _ => 0))), ((f (b + 25)), .inr (5, [.int 0, .ref (f (b + 26))])), ((f (b + 26)), .inl (D.2.1, 24, .inl (fun _ => 0))), ((f (b + 27)), .inr (5, [.int 0, .ref (f (b + 28))])), ((f (b + 28)), .inl (D.2.1, 24, .inl (fun _ => 0))), ((f (b + 29)), .inr (4, [.int 0, .ref (f (b + 30))])), ((f (b + 30)), .inl (D.2.1, 80, .inl (fun _ => 0))), ((f (b + 31)), .inr (2, [.ref (f (b + 32)), .ref (f (b + 38)), .ref (f (b + 40)), .ref (f (b + 42)), .ref (f (b + 44))])), ((f (b + 32)), .inr (3, [.int 12, .int 0, .ref (f (b + 33)), .ref (f (b + 34)), .ref (f (b + 35)), .int 0, .ref (f (b + 36)), .ref (f (b + 37)), .int 0, .int 0, .int 0])), ((f (b + 33)), .inl (D.2.1, 7, .inl (fun _ => 0))), ((f (b + 34)), .inl (D.2.1, 7, .inl (fun _ => 0))), ((f (b + 35)), .inl (D.2.1, 7, .inl (fun _ => 0))), ((f (b + 36)), .inl (D.2.1, 4, .inl (fun _ => 0))), ((f (b + 37)), .inl (D.2.1, 4, .inl (fun _ => 0))), ((f (b + 38)), .inr (5, [.int 0, .ref (f (b + 39))])), ((f (b + 39)), .inl (D.2.1, 24, .inl (fun _ => 0))), ((f (b + 40)), .inr (5, [.int 0, .ref (f (b + 41))])), ((f (b + 41)), .inl (D.2.1, 24, .inl (fun _ => 0))), ((f (b + 42)), .inr (5, [.int 0, .ref (f (b + 43))])), ((f (b + 43)), .inl (D.2.1, 24, .inl (fun _ => 0))), ((f (b + 44)), .inr (4, [.int 0, .ref (f (b + 45))])), ((f (b + 45)), .inl (D.2.1, 80, .inl (fun _ => 0))), ((f (b + 46)), .inr (6, [.int 0, .ref (f (b + 47)), .int 0, .int 0, .int 0, .ref (f (b + 48))])), ((f (b + 47)), .inl (D.2.1, 150, .inl (fun _ => 0))), ((f (b + 48)), .inl (D.2.1, 3, .inl (fun _ => 0))), ((f (b + 49)), .inr (0, [.long 0, .long 1])), ((f (b + 50)), .inr (7, [.ref (f (b + 51)), .ref (f (b + 57))])), ((f (b + 51)), .inr (3, [.int 12, .int 0, .ref (f (b + 52)), .ref (f (b + 53)), .ref (f (b + 54)), .int 0, .ref (f (b + 55)), .ref (f (b + 56)), .int 0, .int 0, .int 0])), ((f (b + 52)), .inl (D.2.1, 7, .inl (fun _ => 0))), ((f (b + 53)), .inl (D.2.1, 7, .inl (fun _ => 0))), ((f (b + 54)), .inl (D.2.1, 7, .inl (fun _ => 0))), ((f (b + 55)), .inl (D.2.1, 4, .inl (fun _ => 0))), ((f (b + 56)), .inl (D.2.1, 4, .inl (fun _ => 0))), ((f (b + 57)), .inl (D.2.1, 20, .inl (fun _ => 0))), ((f (b + 58)), .inr (1, [.ref (f (b + 59))])), ((f (b + 59)), .inl (D.2.1, 6, .inl (fun _ => 0))), ((f (b + 60)), .inr (8, [.int 0, .ref (f (b + 61)), .ref (f (b + 62))])), ((f (b + 61)), .inl (D.2.1, 7, .inl (fun _ => 0))), ((f (b + 62)), .inl (D.2.1, 7, .inl (fun _ => 0)))]
theorem ks_X10 : KS 3 62 862 MX10_init (.inr (9, [.null, .null, .null, .int 0, .int 0, .null, .null, .null, .null, .null, .int 0, .int 0, .int 0])) (fun D h w => ∃ f : Nat → Nat, f 0 = h ∧ w = kX10 D f 0) := by
  refine KS.of (by decide) rfl rfl rfl (fun D h0 A => ?_)
  refine KK.aload e_X10_init_0 ?_
  refine KK.obj e_X10_init_1 (gTbl_in (List.mem_of_getElem? (i := 82) (by decide +kernel)) (by decide +kernel)) (by decide) ?_
  refine KK.aload e_X10_init_4 ?_
  refine KK.new e_X10_init_5 (ci := 2) rfl (gTbl_in (List.mem_of_getElem? (i := 85) (by decide +kernel)) (by decide +kernel)) (gTbl_in (List.mem_of_getElem? (i := 86) (by decide +kernel)) (by decide +kernel)) (gTbl_in (List.mem_of_getElem? (i := 60) (by decide +kernel)) (by decide +kernel)) tyX2_ok k_dvX2 (by decide) (by decide) (fun q1 => ?_)
  refine KK.dup e_X10_init_8 rfl ?_
  refine KK.ctor (host := RX10) e_X10_init_9 (List.mem_of_getElem? (i := 87) (by decide +kernel)) kf_X2 ks_X2 (by decide) (Nat.le_of_ble_eq_true rfl) (by decide) (by decide) (fun w1 h1 => ?_)
  refine KK.putF e_X10_init_12 (ci := 9) (j := 0) rfl (by decide) (gTbl_in (List.mem_of_getElem? (i := 282) (by decide +kernel)) (by decide +kernel)) rfl rfl (ty := (.object "LaneCymbals$Houses")) (by decide +kernel) rfl rfl (Nat.le_of_ble_eq_true rfl) ?_
  refine KK.aload e_X10_init_15 ?_
  refine KK.new e_X10_init_16 (ci := 2) rfl (gTbl_in (List.mem_of_getElem? (i := 85) (by decide +kernel)) (by decide +kernel)) (gTbl_in (List.mem_of_getElem? (i := 86) (by decide +kernel)) (by decide +kernel)) (gTbl_in (List.mem_of_getElem? (i := 60) (by decide +kernel)) (by decide +kernel)) tyX2_ok k_dvX2 (by decide) (by decide) (fun q16 => ?_)
  refine KK.dup e_X10_init_19 rfl ?_
  refine KK.ctor (host := RX10) e_X10_init_20 (List.mem_of_getElem? (i := 87) (by decide +kernel)) kf_X2 ks_X2 (by decide) (Nat.le_of_ble_eq_true rfl) (by decide) (by decide) (fun w16 h16 => ?_)
  refine KK.putF e_X10_init_23 (ci := 9) (j := 1) rfl (by decide) (gTbl_in (List.mem_of_getElem? (i := 283) (by decide +kernel)) (by decide +kernel)) rfl rfl (ty := (.object "LaneCymbals$Houses")) (by decide +kernel) rfl rfl (Nat.le_of_ble_eq_true rfl) ?_
  refine KK.aload e_X10_init_26 ?_
  refine KK.new e_X10_init_27 (ci := 2) rfl (gTbl_in (List.mem_of_getElem? (i := 85) (by decide +kernel)) (by decide +kernel)) (gTbl_in (List.mem_of_getElem? (i := 86) (by decide +kernel)) (by decide +kernel)) (gTbl_in (List.mem_of_getElem? (i := 60) (by decide +kernel)) (by decide +kernel)) tyX2_ok k_dvX2 (by decide) (by decide) (fun q31 => ?_)
  refine KK.dup e_X10_init_30 rfl ?_
  refine KK.ctor (host := RX10) e_X10_init_31 (List.mem_of_getElem? (i := 87) (by decide +kernel)) kf_X2 ks_X2 (by decide) (Nat.le_of_ble_eq_true rfl) (by decide) (by decide) (fun w31 h31 => ?_)
  refine KK.putF e_X10_init_34 (ci := 9) (j := 2) rfl (by decide) (gTbl_in (List.mem_of_getElem? (i := 284) (by decide +kernel)) (by decide +kernel)) rfl rfl (ty := (.object "LaneCymbals$Houses")) (by decide +kernel) rfl rfl (Nat.le_of_ble_eq_true rfl) ?_
  refine KK.aload e_X10_init_37 ?_
  refine KK.new e_X10_init_38 (ci := 6) rfl (gTbl_in (List.mem_of_getElem? (i := 198) (by decide +kernel)) (by decide +kernel)) (gTbl_in (List.mem_of_getElem? (i := 199) (by decide +kernel)) (by decide +kernel)) (gTbl_in (List.mem_of_getElem? (i := 64) (by decide +kernel)) (by decide +kernel)) tyX7_ok k_dvX7 (by decide) (by decide) (fun q46 => ?_)
  refine KK.dup e_X10_init_41 rfl ?_
  refine KK.ctor (host := RX10) e_X10_init_42 (List.mem_of_getElem? (i := 200) (by decide +kernel)) kf_X7 ks_X7 (by decide) (Nat.le_of_ble_eq_true rfl) (by decide) (by decide) (fun w46 h46 => ?_)
  refine KK.putF e_X10_init_45 (ci := 9) (j := 5) rfl (by decide) (gTbl_in (List.mem_of_getElem? (i := 287) (by decide +kernel)) (by decide +kernel)) rfl rfl (ty := (.object "LaneCymbals$Text")) (by decide +kernel) rfl rfl (Nat.le_of_ble_eq_true rfl) ?_
  refine KK.aload e_X10_init_48 ?_
  refine KK.new e_X10_init_49 (ci := 0) rfl (gTbl_in (List.mem_of_getElem? (i := 224) (by decide +kernel)) (by decide +kernel)) (gTbl_in (List.mem_of_getElem? (i := 225) (by decide +kernel)) (by decide +kernel)) (gTbl_in (List.mem_of_getElem? (i := 65) (by decide +kernel)) (by decide +kernel)) tyX0_ok k_dvX0 (by decide) (by decide) (fun q49 => ?_)
  refine KK.dup e_X10_init_52 rfl ?_
  refine KK.ctor (host := RX10) e_X10_init_53 (List.mem_of_getElem? (i := 226) (by decide +kernel)) kf_X0 ks_X0 (by decide) (Nat.le_of_ble_eq_true rfl) (by decide) (by decide) (fun w49 h49 => ?_)
  refine KK.putF e_X10_init_56 (ci := 9) (j := 6) rfl (by decide) (gTbl_in (List.mem_of_getElem? (i := 288) (by decide +kernel)) (by decide +kernel)) rfl rfl (ty := (.object "LaneCymbals$Fraction")) (by decide +kernel) rfl rfl (Nat.le_of_ble_eq_true rfl) ?_
  refine KK.aload e_X10_init_59 ?_
  refine KK.new e_X10_init_60 (ci := 7) rfl (gTbl_in (List.mem_of_getElem? (i := 239) (by decide +kernel)) (by decide +kernel)) (gTbl_in (List.mem_of_getElem? (i := 240) (by decide +kernel)) (by decide +kernel)) (gTbl_in (List.mem_of_getElem? (i := 66) (by decide +kernel)) (by decide +kernel)) tyX8_ok k_dvX8 (by decide) (by decide) (fun q50 => ?_)
  refine KK.dup e_X10_init_63 rfl ?_
  refine KK.ctor (host := RX10) e_X10_init_64 (List.mem_of_getElem? (i := 241) (by decide +kernel)) kf_X8 ks_X8 (by decide) (Nat.le_of_ble_eq_true rfl) (by decide) (by decide) (fun w50 h50 => ?_)
  refine KK.putF e_X10_init_67 (ci := 9) (j := 7) rfl (by decide) (gTbl_in (List.mem_of_getElem? (i := 289) (by decide +kernel)) (by decide +kernel)) rfl rfl (ty := (.object "LaneCymbals$Trial")) (by decide +kernel) rfl rfl (Nat.le_of_ble_eq_true rfl) ?_
  refine KK.aload e_X10_init_70 ?_
  refine KK.new e_X10_init_71 (ci := 1) rfl (gTbl_in (List.mem_of_getElem? (i := 255) (by decide +kernel)) (by decide +kernel)) (gTbl_in (List.mem_of_getElem? (i := 256) (by decide +kernel)) (by decide +kernel)) (gTbl_in (List.mem_of_getElem? (i := 67) (by decide +kernel)) (by decide +kernel)) tyX1_ok k_dvX1 (by decide) (by decide) (fun q58 => ?_)
  refine KK.dup e_X10_init_74 rfl ?_
  refine KK.ctor (host := RX10) e_X10_init_75 (List.mem_of_getElem? (i := 257) (by decide +kernel)) kf_X1 ks_X1 (by decide) (Nat.le_of_ble_eq_true rfl) (by decide) (by decide) (fun w58 h58 => ?_)
  refine KK.putF e_X10_init_78 (ci := 9) (j := 8) rfl (by decide) (gTbl_in (List.mem_of_getElem? (i := 290) (by decide +kernel)) (by decide +kernel)) rfl rfl (ty := (.object "LaneCymbals$Guess")) (by decide +kernel) rfl rfl (Nat.le_of_ble_eq_true rfl) ?_
  refine KK.aload e_X10_init_81 ?_
  refine KK.new e_X10_init_82 (ci := 8) rfl (gTbl_in (List.mem_of_getElem? (i := 265) (by decide +kernel)) (by decide +kernel)) (gTbl_in (List.mem_of_getElem? (i := 266) (by decide +kernel)) (by decide +kernel)) (gTbl_in (List.mem_of_getElem? (i := 68) (by decide +kernel)) (by decide +kernel)) tyX9_ok k_dvX9 (by decide) (by decide) (fun q60 => ?_)
  refine KK.dup e_X10_init_85 rfl ?_
  refine KK.ctor (host := RX10) e_X10_init_86 (List.mem_of_getElem? (i := 267) (by decide +kernel)) kf_X9 ks_X9 (by decide) (Nat.le_of_ble_eq_true rfl) (by decide) (by decide) (fun w60 h60 => ?_)
  refine KK.putF e_X10_init_89 (ci := 9) (j := 9) rfl (by decide) (gTbl_in (List.mem_of_getElem? (i := 291) (by decide +kernel)) (by decide +kernel)) rfl rfl (ty := (.object "LaneCymbals$Wedding")) (by decide +kernel) rfl rfl (Nat.le_of_ble_eq_true rfl) ?_
  refine KK.ret e_X10_init_92 rfl rfl ?_
  obtain ⟨f1, rfl, rfl⟩ := h1
  obtain ⟨f16, rfl, rfl⟩ := h16
  obtain ⟨f31, rfl, rfl⟩ := h31
  obtain ⟨f46, rfl, rfl⟩ := h46
  obtain ⟨f49, rfl, rfl⟩ := h49
  obtain ⟨f50, rfl, rfl⟩ := h50
  obtain ⟨f58, rfl, rfl⟩ := h58
  obtain ⟨f60, rfl, rfl⟩ := h60
  exact ⟨fun i => ([h0, f1 0, f1 1, f1 2, f1 3, f1 4, f1 5, f1 6, f1 7, f1 8, f1 9, f1 10, f1 11, f1 12, f1 13, f1 14, f16 0, f16 1, f16 2, f16 3, f16 4, f16 5, f16 6, f16 7, f16 8, f16 9, f16 10, f16 11, f16 12, f16 13, f16 14, f31 0, f31 1, f31 2, f31 3, f31 4, f31 5, f31 6, f31 7, f31 8, f31 9, f31 10, f31 11, f31 12, f31 13, f31 14, f46 0, f46 1, f46 2, f49 0, f50 0, f50 1, f50 2, f50 3, f50 4, f50 5, f50 6, f50 7, f58 0, f58 1, f60 0, f60 1, f60 2] : List Nat).getD i 0, rfl, rfl⟩
theorem k_dvX11 : ∀ j, j < 22 → defaultValue (tyX11 j) = vp_V [.null, .null, .null, .long 0, .long 0, .null, .int 0, .null, .int 0, .int 0, .int 0, .int 0, .int 0, .null, .null, .null, .int 0, .int 0, .null, .null, .null, .null] j
  | 0, _ => rfl
  | 1, _ => rfl
  | 2, _ => rfl
  | 3, _ => rfl
  | 4, _ => rfl
  | 5, _ => rfl
  | 6, _ => rfl
  | 7, _ => rfl
  | 8, _ => rfl
  | 9, _ => rfl
  | 10, _ => rfl
  | 11, _ => rfl
  | 12, _ => rfl
  | 13, _ => rfl
  | 14, _ => rfl
  | 15, _ => rfl
  | 16, _ => rfl
  | 17, _ => rfl
  | 18, _ => rfl
  | 19, _ => rfl
  | 20, _ => rfl
  | 21, _ => rfl
  | j + 22, h => absurd h (by omega)
theorem kf_X11 : kMf MX11_init := ⟨gTbl_in (List.mem_of_getElem? (i := 988) (by decide +kernel)) (by decide +kernel), gTbl_in (List.mem_of_getElem? (i := 69) (by decide +kernel)) (by decide +kernel), gTbl_in (List.mem_of_getElem? (i := 987) (by decide +kernel)) (by decide +kernel), ⟨by decide +kernel, by decide +kernel, by decide +kernel⟩, rfl, rfl, rfl⟩
def kX11 (D : kD) (f : Nat → Nat) (b : Nat) : va_W := [((f b), .inr (10, [.ref (f (b + 1)), .ref (f (b + 2)), .ref (f (b + 3)), .long 0, .long 1, .ref (f (b + 4)), .int 0, .ref (f (b + 5)), .int 0, .int 0, .int 0, .int 0, .int 0, .ref (f (b + 6)), .ref (f (b + 7)), .ref (f (b + 8)), .int 0, .int 0, .ref (f (b + 9)), .ref (f (b + 10)), .ref (f (b + 11)), .ref (f (b + 12))])), ((f (b + 1)), .inl (D.2.1, 547, .inl (upd (fun _ => 0) 10 12))), ((f (b + 2)), .inl (D.2.2, 2, .inl (fun _ => 0))), ((f (b + 3)), .inl (D.2.1, 3, .inl (fun _ => 0))), ((f (b + 4)), .inl (D.2.1, 150, .inl (fun _ => 0))), ((f (b + 5)), .inl (D.2.1, 30, .inl (upd (upd (upd (upd (upd (upd (upd (upd (upd (upd (upd (upd (upd (upd (upd (upd (upd (upd (upd (upd (upd (upd (upd (upd (upd (upd (upd (upd (upd (upd (fun _ => 0) 0 108) 1 97) 2 110) 3 101) 4 0) 5 0) 6 111) 7 110) 8 101) 9 0) 10 0) 11 0) 12 97) 13 117) 14 110) 15 116) 16 0) 17 0) 18 97) 19 119) 20 97) 21 121) 22 0) 23 0) 24 99) 25 111) 26 117) 27 110) 28 116) 29 115))), ((f (b + 6)), .inl (D.2.1, 7, .inl (fun _ => 0))), ((f (b + 7)), .inl (D.2.1, 7, .inl (fun _ => 0))), ((f (b + 8)), .inl (D.2.1, 7, .inl (fun _ => 0))), ((f (b + 9)), .inl (D.2.1, 7, .inl (fun _ => 0))), ((f (b + 10)), .inl (D.2.1, 7, .inl (fun _ => 0))), ((f (b + 11)), .inl (D.2.1, 6, .inl (fun _ => 0))), ((f (b + 12)), .inl (D.2.1, 20, .inl (fun _ => 0)))]
theorem ks_X11 : KS 1 12 793 MX11_init (.inr (10, [.null, .null, .null, .long 0, .long 0, .null, .int 0, .null, .int 0, .int 0, .int 0, .int 0, .int 0, .null, .null, .null, .int 0, .int 0, .null, .null, .null, .null])) (fun D h w => ∃ f : Nat → Nat, f 0 = h ∧ w = kX11 D f 0) := by
  refine KS.of (by decide) rfl rfl rfl (fun D h0 A => ?_)
  refine KK.aload e_X11_init_0 ?_
  refine KK.obj e_X11_init_1 (gTbl_in (List.mem_of_getElem? (i := 989) (by decide +kernel)) (by decide +kernel)) (by decide) ?_
  refine KK.aload e_X11_init_4 ?_
  refine KK.sipush (v := 547) e_X11_init_5 (by decide) ?_
  refine KK.newI (N := 547) e_X11_init_8 (by decide) (by decide) (by decide) (by decide) (by decide) (fun a1 => ?_)
  refine KK.putF e_X11_init_10 (ci := 10) (j := 0) rfl (by decide) (gTbl_in (List.mem_of_getElem? (i := 990) (by decide +kernel)) (by decide +kernel)) rfl rfl (ty := (.array .int)) (by decide +kernel) rfl rfl (Nat.le_of_ble_eq_true rfl) ?_
  refine KK.aload e_X11_init_13 ?_
  refine KK.iconst (v := 2) e_X11_init_14 rfl ?_
  refine KK.newZ (N := 2) e_X11_init_15 (by decide) (by decide) (by decide) (by decide) (by decide) (fun a2 => ?_)
  refine KK.putF e_X11_init_17 (ci := 10) (j := 1) rfl (by decide) (gTbl_in (List.mem_of_getElem? (i := 991) (by decide +kernel)) (by decide +kernel)) rfl rfl (ty := (.array .boolean)) (by decide +kernel) rfl rfl (Nat.le_of_ble_eq_true rfl) ?_
  refine KK.aload e_X11_init_20 ?_
  refine KK.iconst (v := 3) e_X11_init_21 rfl ?_
  refine KK.newI (N := 3) e_X11_init_22 (by decide) (by decide) (by decide) (by decide) (by decide) (fun a3 => ?_)
  refine KK.putF e_X11_init_24 (ci := 10) (j := 2) rfl (by decide) (gTbl_in (List.mem_of_getElem? (i := 992) (by decide +kernel)) (by decide +kernel)) rfl rfl (ty := (.array .int)) (by decide +kernel) rfl rfl (Nat.le_of_ble_eq_true rfl) ?_
  refine KK.aload e_X11_init_27 ?_
  refine KK.lconst (v := 1) e_X11_init_28 (by decide) ?_
  refine KK.put e_X11_init_29 (ci := 10) (j := 4) rfl (by decide) (gTbl_in (List.mem_of_getElem? (i := 994) (by decide +kernel)) (by decide +kernel)) rfl (ty := .long) (by decide +kernel) rfl rfl (Nat.le_of_ble_eq_true rfl) ?_
  refine KK.aload e_X11_init_32 ?_
  refine KK.sipush (v := 150) e_X11_init_33 (by decide) ?_
  refine KK.newI (N := 150) e_X11_init_36 (by decide) (by decide) (by decide) (by decide) (by decide) (fun a4 => ?_)
  refine KK.putF e_X11_init_38 (ci := 10) (j := 5) rfl (by decide) (gTbl_in (List.mem_of_getElem? (i := 995) (by decide +kernel)) (by decide +kernel)) rfl rfl (ty := (.array .int)) (by decide +kernel) rfl rfl (Nat.le_of_ble_eq_true rfl) ?_
  refine KK.aload e_X11_init_41 ?_
  refine KK.bipush (v := 30) e_X11_init_42 (by decide) ?_
  refine KK.newI (N := 30) e_X11_init_44 (by decide) (by decide) (by decide) (by decide) (by decide) (fun a5 => ?_)
  refine KK.dup e_X11_init_46 rfl ?_
  refine KK.iconst (v := 0) e_X11_init_47 rfl ?_
  refine KK.bipush (v := 108) e_X11_init_48 (by decide) ?_
  refine KK.stoL (j := 0) (N := 30) e_X11_init_50 (by decide) (by decide) (by decide) ?_
  refine KK.dup e_X11_init_51 rfl ?_
  refine KK.iconst (v := 1) e_X11_init_52 rfl ?_
  refine KK.bipush (v := 97) e_X11_init_53 (by decide) ?_
  refine KK.stoL (j := 1) (N := 30) e_X11_init_55 (by decide) (by decide) (by decide) ?_
  refine KK.dup e_X11_init_56 rfl ?_
  refine KK.iconst (v := 2) e_X11_init_57 rfl ?_
  refine KK.bipush (v := 110) e_X11_init_58 (by decide) ?_
  refine KK.stoL (j := 2) (N := 30) e_X11_init_60 (by decide) (by decide) (by decide) ?_
  refine KK.dup e_X11_init_61 rfl ?_
  refine KK.iconst (v := 3) e_X11_init_62 rfl ?_
  refine KK.bipush (v := 101) e_X11_init_63 (by decide) ?_
  refine KK.stoL (j := 3) (N := 30) e_X11_init_65 (by decide) (by decide) (by decide) ?_
  refine KK.dup e_X11_init_66 rfl ?_
  refine KK.iconst (v := 4) e_X11_init_67 rfl ?_
  refine KK.iconst (v := 0) e_X11_init_68 rfl ?_
  refine KK.stoL (j := 4) (N := 30) e_X11_init_69 (by decide) (by decide) (by decide) ?_
  refine KK.dup e_X11_init_70 rfl ?_
  refine KK.iconst (v := 5) e_X11_init_71 rfl ?_
  refine KK.iconst (v := 0) e_X11_init_72 rfl ?_
  refine KK.stoL (j := 5) (N := 30) e_X11_init_73 (by decide) (by decide) (by decide) ?_
  refine KK.dup e_X11_init_74 rfl ?_
  refine KK.bipush (v := 6) e_X11_init_75 (by decide) ?_
  refine KK.bipush (v := 111) e_X11_init_77 (by decide) ?_
  refine KK.stoL (j := 6) (N := 30) e_X11_init_79 (by decide) (by decide) (by decide) ?_
  refine KK.dup e_X11_init_80 rfl ?_
  refine KK.bipush (v := 7) e_X11_init_81 (by decide) ?_
  refine KK.bipush (v := 110) e_X11_init_83 (by decide) ?_
  refine KK.stoL (j := 7) (N := 30) e_X11_init_85 (by decide) (by decide) (by decide) ?_
  refine KK.dup e_X11_init_86 rfl ?_
  refine KK.bipush (v := 8) e_X11_init_87 (by decide) ?_
  refine KK.bipush (v := 101) e_X11_init_89 (by decide) ?_
  refine KK.stoL (j := 8) (N := 30) e_X11_init_91 (by decide) (by decide) (by decide) ?_
  refine KK.dup e_X11_init_92 rfl ?_
  refine KK.bipush (v := 9) e_X11_init_93 (by decide) ?_
  refine KK.iconst (v := 0) e_X11_init_95 rfl ?_
  refine KK.stoL (j := 9) (N := 30) e_X11_init_96 (by decide) (by decide) (by decide) ?_
  refine KK.dup e_X11_init_97 rfl ?_
  refine KK.bipush (v := 10) e_X11_init_98 (by decide) ?_
  refine KK.iconst (v := 0) e_X11_init_100 rfl ?_
  refine KK.stoL (j := 10) (N := 30) e_X11_init_101 (by decide) (by decide) (by decide) ?_
  refine KK.dup e_X11_init_102 rfl ?_
  refine KK.bipush (v := 11) e_X11_init_103 (by decide) ?_
  refine KK.iconst (v := 0) e_X11_init_105 rfl ?_
  refine KK.stoL (j := 11) (N := 30) e_X11_init_106 (by decide) (by decide) (by decide) ?_
  refine KK.dup e_X11_init_107 rfl ?_
  refine KK.bipush (v := 12) e_X11_init_108 (by decide) ?_
  refine KK.bipush (v := 97) e_X11_init_110 (by decide) ?_
  refine KK.stoL (j := 12) (N := 30) e_X11_init_112 (by decide) (by decide) (by decide) ?_
  refine KK.dup e_X11_init_113 rfl ?_
  refine KK.bipush (v := 13) e_X11_init_114 (by decide) ?_
  refine KK.bipush (v := 117) e_X11_init_116 (by decide) ?_
  refine KK.stoL (j := 13) (N := 30) e_X11_init_118 (by decide) (by decide) (by decide) ?_
  refine KK.dup e_X11_init_119 rfl ?_
  refine KK.bipush (v := 14) e_X11_init_120 (by decide) ?_
  refine KK.bipush (v := 110) e_X11_init_122 (by decide) ?_
  refine KK.stoL (j := 14) (N := 30) e_X11_init_124 (by decide) (by decide) (by decide) ?_
  refine KK.dup e_X11_init_125 rfl ?_
  refine KK.bipush (v := 15) e_X11_init_126 (by decide) ?_
  refine KK.bipush (v := 116) e_X11_init_128 (by decide) ?_
  refine KK.stoL (j := 15) (N := 30) e_X11_init_130 (by decide) (by decide) (by decide) ?_
  refine KK.dup e_X11_init_131 rfl ?_
  refine KK.bipush (v := 16) e_X11_init_132 (by decide) ?_
  refine KK.iconst (v := 0) e_X11_init_134 rfl ?_
  refine KK.stoL (j := 16) (N := 30) e_X11_init_135 (by decide) (by decide) (by decide) ?_
  refine KK.dup e_X11_init_136 rfl ?_
  refine KK.bipush (v := 17) e_X11_init_137 (by decide) ?_
  refine KK.iconst (v := 0) e_X11_init_139 rfl ?_
  refine KK.stoL (j := 17) (N := 30) e_X11_init_140 (by decide) (by decide) (by decide) ?_
  refine KK.dup e_X11_init_141 rfl ?_
  refine KK.bipush (v := 18) e_X11_init_142 (by decide) ?_
  refine KK.bipush (v := 97) e_X11_init_144 (by decide) ?_
  refine KK.stoL (j := 18) (N := 30) e_X11_init_146 (by decide) (by decide) (by decide) ?_
  refine KK.dup e_X11_init_147 rfl ?_
  refine KK.bipush (v := 19) e_X11_init_148 (by decide) ?_
  refine KK.bipush (v := 119) e_X11_init_150 (by decide) ?_
  refine KK.stoL (j := 19) (N := 30) e_X11_init_152 (by decide) (by decide) (by decide) ?_
  refine KK.dup e_X11_init_153 rfl ?_
  refine KK.bipush (v := 20) e_X11_init_154 (by decide) ?_
  refine KK.bipush (v := 97) e_X11_init_156 (by decide) ?_
  refine KK.stoL (j := 20) (N := 30) e_X11_init_158 (by decide) (by decide) (by decide) ?_
  refine KK.dup e_X11_init_159 rfl ?_
  refine KK.bipush (v := 21) e_X11_init_160 (by decide) ?_
  refine KK.bipush (v := 121) e_X11_init_162 (by decide) ?_
  refine KK.stoL (j := 21) (N := 30) e_X11_init_164 (by decide) (by decide) (by decide) ?_
  refine KK.dup e_X11_init_165 rfl ?_
  refine KK.bipush (v := 22) e_X11_init_166 (by decide) ?_
  refine KK.iconst (v := 0) e_X11_init_168 rfl ?_
  refine KK.stoL (j := 22) (N := 30) e_X11_init_169 (by decide) (by decide) (by decide) ?_
  refine KK.dup e_X11_init_170 rfl ?_
  refine KK.bipush (v := 23) e_X11_init_171 (by decide) ?_
  refine KK.iconst (v := 0) e_X11_init_173 rfl ?_
  refine KK.stoL (j := 23) (N := 30) e_X11_init_174 (by decide) (by decide) (by decide) ?_
  refine KK.dup e_X11_init_175 rfl ?_
  refine KK.bipush (v := 24) e_X11_init_176 (by decide) ?_
  refine KK.bipush (v := 99) e_X11_init_178 (by decide) ?_
  refine KK.stoL (j := 24) (N := 30) e_X11_init_180 (by decide) (by decide) (by decide) ?_
  refine KK.dup e_X11_init_181 rfl ?_
  refine KK.bipush (v := 25) e_X11_init_182 (by decide) ?_
  refine KK.bipush (v := 111) e_X11_init_184 (by decide) ?_
  refine KK.stoL (j := 25) (N := 30) e_X11_init_186 (by decide) (by decide) (by decide) ?_
  refine KK.dup e_X11_init_187 rfl ?_
  refine KK.bipush (v := 26) e_X11_init_188 (by decide) ?_
  refine KK.bipush (v := 117) e_X11_init_190 (by decide) ?_
  refine KK.stoL (j := 26) (N := 30) e_X11_init_192 (by decide) (by decide) (by decide) ?_
  refine KK.dup e_X11_init_193 rfl ?_
  refine KK.bipush (v := 27) e_X11_init_194 (by decide) ?_
  refine KK.bipush (v := 110) e_X11_init_196 (by decide) ?_
  refine KK.stoL (j := 27) (N := 30) e_X11_init_198 (by decide) (by decide) (by decide) ?_
  refine KK.dup e_X11_init_199 rfl ?_
  refine KK.bipush (v := 28) e_X11_init_200 (by decide) ?_
  refine KK.bipush (v := 116) e_X11_init_202 (by decide) ?_
  refine KK.stoL (j := 28) (N := 30) e_X11_init_204 (by decide) (by decide) (by decide) ?_
  refine KK.dup e_X11_init_205 rfl ?_
  refine KK.bipush (v := 29) e_X11_init_206 (by decide) ?_
  refine KK.bipush (v := 115) e_X11_init_208 (by decide) ?_
  refine KK.stoL (j := 29) (N := 30) e_X11_init_210 (by decide) (by decide) (by decide) ?_
  refine KK.putF e_X11_init_211 (ci := 10) (j := 7) rfl (by decide) (gTbl_in (List.mem_of_getElem? (i := 997) (by decide +kernel)) (by decide +kernel)) rfl rfl (ty := (.array .int)) (by decide +kernel) rfl rfl (Nat.le_of_ble_eq_true rfl) ?_
  refine KK.aload e_X11_init_214 ?_
  refine KK.bipush (v := 7) e_X11_init_215 (by decide) ?_
  refine KK.newI (N := 7) e_X11_init_217 (by decide) (by decide) (by decide) (by decide) (by decide) (fun a6 => ?_)
  refine KK.putF e_X11_init_219 (ci := 10) (j := 13) rfl (by decide) (gTbl_in (List.mem_of_getElem? (i := 1003) (by decide +kernel)) (by decide +kernel)) rfl rfl (ty := (.array .int)) (by decide +kernel) rfl rfl (Nat.le_of_ble_eq_true rfl) ?_
  refine KK.aload e_X11_init_222 ?_
  refine KK.bipush (v := 7) e_X11_init_223 (by decide) ?_
  refine KK.newI (N := 7) e_X11_init_225 (by decide) (by decide) (by decide) (by decide) (by decide) (fun a7 => ?_)
  refine KK.putF e_X11_init_227 (ci := 10) (j := 14) rfl (by decide) (gTbl_in (List.mem_of_getElem? (i := 1004) (by decide +kernel)) (by decide +kernel)) rfl rfl (ty := (.array .int)) (by decide +kernel) rfl rfl (Nat.le_of_ble_eq_true rfl) ?_
  refine KK.aload e_X11_init_230 ?_
  refine KK.bipush (v := 7) e_X11_init_231 (by decide) ?_
  refine KK.newI (N := 7) e_X11_init_233 (by decide) (by decide) (by decide) (by decide) (by decide) (fun a8 => ?_)
  refine KK.putF e_X11_init_235 (ci := 10) (j := 15) rfl (by decide) (gTbl_in (List.mem_of_getElem? (i := 1005) (by decide +kernel)) (by decide +kernel)) rfl rfl (ty := (.array .int)) (by decide +kernel) rfl rfl (Nat.le_of_ble_eq_true rfl) ?_
  refine KK.aload e_X11_init_238 ?_
  refine KK.bipush (v := 7) e_X11_init_239 (by decide) ?_
  refine KK.newI (N := 7) e_X11_init_241 (by decide) (by decide) (by decide) (by decide) (by decide) (fun a9 => ?_)
  refine KK.putF e_X11_init_243 (ci := 10) (j := 18) rfl (by decide) (gTbl_in (List.mem_of_getElem? (i := 1008) (by decide +kernel)) (by decide +kernel)) rfl rfl (ty := (.array .int)) (by decide +kernel) rfl rfl (Nat.le_of_ble_eq_true rfl) ?_
  refine KK.aload e_X11_init_246 ?_
  refine KK.bipush (v := 7) e_X11_init_247 (by decide) ?_
  refine KK.newI (N := 7) e_X11_init_249 (by decide) (by decide) (by decide) (by decide) (by decide) (fun a10 => ?_)
  refine KK.putF e_X11_init_251 (ci := 10) (j := 19) rfl (by decide) (gTbl_in (List.mem_of_getElem? (i := 1009) (by decide +kernel)) (by decide +kernel)) rfl rfl (ty := (.array .int)) (by decide +kernel) rfl rfl (Nat.le_of_ble_eq_true rfl) ?_
  refine KK.aload e_X11_init_254 ?_
  refine KK.bipush (v := 6) e_X11_init_255 (by decide) ?_
  refine KK.newI (N := 6) e_X11_init_257 (by decide) (by decide) (by decide) (by decide) (by decide) (fun a11 => ?_)
  refine KK.putF e_X11_init_259 (ci := 10) (j := 20) rfl (by decide) (gTbl_in (List.mem_of_getElem? (i := 1010) (by decide +kernel)) (by decide +kernel)) rfl rfl (ty := (.array .int)) (by decide +kernel) rfl rfl (Nat.le_of_ble_eq_true rfl) ?_
  refine KK.aload e_X11_init_262 ?_
  refine KK.bipush (v := 20) e_X11_init_263 (by decide) ?_
  refine KK.newI (N := 20) e_X11_init_265 (by decide) (by decide) (by decide) (by decide) (by decide) (fun a12 => ?_)
  refine KK.putF e_X11_init_267 (ci := 10) (j := 21) rfl (by decide) (gTbl_in (List.mem_of_getElem? (i := 1011) (by decide +kernel)) (by decide +kernel)) rfl rfl (ty := (.array .int)) (by decide +kernel) rfl rfl (Nat.le_of_ble_eq_true rfl) ?_
  refine KK.aload e_X11_init_270 ?_
  refine KK.get e_X11_init_271 (ci := 10) (j := 0) rfl (by decide) (gTbl_in (List.mem_of_getElem? (i := 990) (by decide +kernel)) (by decide +kernel)) rfl ?_
  refine KK.bipush (v := 10) e_X11_init_274 (by decide) ?_
  refine KK.bipush (v := 12) e_X11_init_276 (by decide) ?_
  refine KK.sto (q0 := 1) (j := 10) (N := 547) e_X11_init_278 rfl (by decide) (by decide) (by decide) ?_
  refine KK.ret e_X11_init_279 rfl rfl ?_
  exact ⟨fun i => ([h0, a1, a2, a3, a4, a5, a6, a7, a8, a9, a10, a11, a12] : List Nat).getD i 0, rfl, rfl⟩
