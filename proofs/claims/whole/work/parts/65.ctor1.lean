/-! CONSTRUCTORS: a layer over worlds that grow -/
abbrev kT (I Z : ClassId) : List (ClassId × FieldType) := [(I, .int), (Z, .boolean)]
/-- the links between nest mates -/
def kNw (U : State) : Prop := ∀ (a : String) (i : Nat) (x : MethodName) (h : String), Cond.methodLinkNest a i x h ∈ lw_tbl → va_Nw (.methodLinkNest a i x h) U
theorem kNw.warm {s U : State} (hW : s.WarmedH U.vm) (h : kNw s) : kNw U := fun a i x o hw => va_Nw.warmM hW (h a i x o hw)
theorem kNw.same {u U : State} (hv : U.vm = u.vm) (h : kNw u) : kNw U := fun a i x o hw => va_Nw.same rfl hv.symm (h a i x o hw)
abbrev kD : Type := va_G × ClassId × ClassId
def kRm (d mc ms : Nat) : Room := { frames := d, cells := mc, slots := ms, locals := 40 * d }
def kCx (D : kD) (y : gMI) (p : Program) (s : State) (m : MethodId) (args : Array Value) (meth : Method) (c : Code) : Prop :=
  p.tables.exec = Jvm.exec ∧ c.code = y.2.1 ∧ meth.sig.returnType = none ∧ c.maxLocals = 1 ∧ s.vm.findClass y.1.cls = some m.cls ∧ (∀ w ∈ gTbl, w.before args s = true) ∧ meth.locks = false ∧ meth.name = "<init>" ∧ va_K D.1 gCl (kT D.2.1 D.2.2) s ∧ kNw s
def kQ (D : kD) (A : Nat → Prop) (Q : va_W → Prop) : Array Value → State → Outcome → State → Prop := fun _ st o t => (o = .returned none ∧ ∃ ws, Q ws ∧ va_P D.1 gCl ws t.heap ∧ va_D A ws) ∧ va_F A st t
/-- the machine stands in the constructor y of the object h0 at pc, over this world; k cells of n slots are made so far -/
def KK (D : kD) (d mc ms : Nat) (y : gMI) (h0 : Nat) (A : Nat → Prop) (k n pc : Nat) (st : List Value) (ws : va_W) (Q : va_W → Prop) : Prop :=
  ∀ (p : Program) (l : Launch) (e : Env) (s : State) (m : MethodId) (args : Array Value) (below : List Frame) (meth : Method) (c : Code) (H : Heap) (locs : List Loc) (lsA : Array Slot), kCx D y p s m args meth c → lv_has lsA 1 [(0, .ref h0)] → va_P D.1 gCl ws H → va_D A ws → va_S A s.heap H locs → (∀ q : Nat, s.heap.size ≤ q → A q) →
    W p l e (kRm d mc ms) s m args below meth c H locs k n (MQ below (kQ D A Q) args s mc ms A) (F0 m pc lsA st)
def KS (d mc ms : Nat) (y : gMI) (e0 : va_E) (Q : kD → Nat → va_W → Prop) : Prop :=
  ∀ (D : kD) (l : Launch) (h0 sz : Nat), Met l y.1 (gws y) (kRm d mc ms) (va_Pc [.ref h0] (fun U => U.heap.size = sz ∧ va_P D.1 gCl [(h0, e0)] U.heap ∧ va_K D.1 gCl (kT D.2.1 D.2.2) U ∧ kNw U)) (kQ D (va_A [(h0, e0)] sz) (Q D h0)) mc ms (va_A [(h0, e0)] sz)
theorem KS.of {d mc ms : Nat} {y : gMI} {e0 : va_E} {Q : kD → Nat → va_W → Prop} (hy : plainName y.1.cls = true) (h1 : y.2.2.1 = 1) (hr0 : y.2.2.2 = none) (hi : y.1.name = "<init>") (h : ∀ (D : kD) (h0 : Nat) (A : Nat → Prop), KK D d mc ms y h0 A 0 0 0 [] [(h0, e0)] (Q D h0)) : KS d mc ms y e0 Q := by
  intro D l h0 sz
  refine Met.ofW (cc := y.2.1) (maxL := y.2.2.1) (ret := y.2.2.2) hy rfl ?_
  intro p e s m args below meth c s₁ B hml hv
  obtain ⟨rfl, hsz, hP, hK, hN⟩ := hv
  have hts := atoms_spec (ws := gws y) B.pre
  have hin : meth.name = "<init>" := ((name_of_methodNamed B.named B.method).1).trans hi
  subst hsz
  have hD0 : va_D (fun _ => True) [(h0, e0)] := ⟨fun i j p q hi hj _ => by
    have a1 := (List.getElem?_eq_some_iff.mp hi).1
    have a2 := (List.getElem?_eq_some_iff.mp hj).1
    have b1 : i < 1 := a1
    have b2 : j < 1 := a2
    omega, fun _ _ _ => trivial⟩
  have hD := hD0.self (sz := s.heap.size)
  generalize hAe : va_A [(h0, e0)] s.heap.size = A at hD ⊢
  have hA : ∀ q : Nat, s.heap.size ≤ q → A q := fun q h => by rw [← hAe]; exact Or.inr h
  have hl := lv_entry ([.ref h0]) (n := y.2.2.1) (by rw [h1]; exact Nat.le_of_ble_eq_true rfl)
  rw [lg_entry_eq]
  generalize (lg_sl ([.ref h0]) ++ List.replicate (y.2.2.1 - (lg_sl ([.ref h0])).length) Slot.unset).toArray = ls at hl ⊢
  rw [h1] at hl
  have hl : lv_has ls 1 [(0, .ref h0)] := hl
  exact h D h0 A p l e s m _ below meth c s.heap [] ls ⟨B.exec, B.bytes, by rw [B.returns, hr0], by rw [hml, h1], findClass_of_methodNamed B.named, fun w hw => hts w (List.mem_cons_of_mem _ hw), B.notSynchronized, hin, hK, hN⟩ hl hP hD va_S.rf hA
section K65
variable {D : kD} {d mc ms : Nat} {y : gMI} {h0 : Nat} {A : Nat → Prop} {k n pc pc' : Nat} {st : List Value} {ws : va_W} {Q : va_W → Prop}
theorem KK.iconst {x : Int} {v : Int32} (h : gD y pc (.iconst x) 1 pc') (hv : Int32.ofInt x = v) (kk : KK D d mc ms y h0 A k n pc' (.int v :: st) ws Q) : KK D d mc ms y h0 A k n pc st ws Q := by
  obtain ⟨hd, rfl⟩ := h
  intro p l e s m args below meth c H locs lsA C hl hP hD hS hA
  exact lv_iconst C.1 C.2.1 hd hv (kk p l e s m args below meth c H locs lsA C hl hP hD hS hA)
theorem KK.bipush {x : Int} {v : Int32} (h : gD y pc (.bipush x) 2 pc') (hv : (Int8.ofInt x).toInt32 = v) (kk : KK D d mc ms y h0 A k n pc' (.int v :: st) ws Q) : KK D d mc ms y h0 A k n pc st ws Q := by
  obtain ⟨hd, rfl⟩ := h
  intro p l e s m args below meth c H locs lsA C hl hP hD hS hA
  exact lv_bipush C.1 C.2.1 hd hv (kk p l e s m args below meth c H locs lsA C hl hP hD hS hA)
theorem KK.sipush {x : Int} {v : Int32} (h : gD y pc (.sipush x) 3 pc') (hv : (Int16.ofInt x).toInt32 = v) (kk : KK D d mc ms y h0 A k n pc' (.int v :: st) ws Q) : KK D d mc ms y h0 A k n pc st ws Q := by
  obtain ⟨hd, rfl⟩ := h
  intro p l e s m args below meth c H locs lsA C hl hP hD hS hA
  exact lv_sipush C.1 C.2.1 hd hv (kk p l e s m args below meth c H locs lsA C hl hP hD hS hA)
theorem KK.lconst {x : Fin 2} {v : Int64} (h : gD y pc (.lconst x) 1 pc') (hv : Int64.ofNat (x : Nat) = v) (kk : KK D d mc ms y h0 A k n pc' (.long v :: st) ws Q) : KK D d mc ms y h0 A k n pc st ws Q := by
  obtain ⟨hd, rfl⟩ := h
  intro p l e s m args below meth c H locs lsA C hl hP hD hS hA
  exact lv_lconst C.1 C.2.1 hd hv (kk p l e s m args below meth c H locs lsA C hl hP hD hS hA)
theorem KK.dup {v : Value} (h : gD y pc .dup 1 pc') (hv : v.category = 1) (kk : KK D d mc ms y h0 A k n pc' (v :: v :: st) ws Q) : KK D d mc ms y h0 A k n pc (v :: st) ws Q := by
  obtain ⟨hd, rfl⟩ := h
  intro p l e s m args below meth c H locs lsA C hl hP hD hS hA
  exact lv_dup C.1 C.2.1 hd hv (kk p l e s m args below meth c H locs lsA C hl hP hD hS hA)
theorem KK.aload (h : gD y pc (.aload_n 0) 1 pc') (kk : KK D d mc ms y h0 A k n pc' (.ref h0 :: st) ws Q) : KK D d mc ms y h0 A k n pc st ws Q := by
  obtain ⟨hd, rfl⟩ := h
  intro p l e s m args below meth c H locs lsA C hl hP hD hS hA
  exact lv_aload_n C.1 C.2.1 hd rfl (lv_at hl 0 rfl) (kk p l e s m args below meth c H locs lsA C hl hP hD hS hA)
theorem k_obj : Cond.instanceMethod objectInit ∈ gTbl ∧ Cond.code objectInit ⟨#[0xb1]⟩ 1 none ∈ gTbl := ⟨gTbl_in (List.mem_of_getElem? (i := 83) (by decide +kernel)) (by decide +kernel), gTbl_in (List.mem_of_getElem? (i := 84) (by decide +kernel)) (by decide +kernel)⟩
theorem KK.obj {idx : Nat} (h : gD y pc (.invokespecial idx) 3 pc') (hl : Cond.methodLink y.1.cls idx objectInit ∈ gTbl) (hd1 : 1 ≤ d) (kk : KK D d mc ms y h0 A k n pc' [] ws Q) : KK D d mc ms y h0 A k n pc [.ref h0] ws Q := by
  obtain ⟨hd, rfl⟩ := h
  intro p l e s m args below meth c H locs lsA C hlo hP hD hS hA
  refine W.objInit C.1 C.2.1 C.2.2.2.2.1 (C.2.2.2.2.2.1 _ hl) (C.2.2.2.2.2.1 _ k_obj.1) (C.2.2.2.2.2.1 _ k_obj.2) rfl (by rw [C.2.2.2.1]; exact hlo.1) rfl hd hd1 (by show 0 + 0 + 12 ≤ 40 * d; omega) ?_
  exact W.eq (g2 := F0 m (pc + 3) lsA []) rfl (kk p l e s m args below meth c H locs lsA C hlo hP hD hS hA)
theorem KK.new {idx ci : Nat} {C' : String} {T : u_T} {N : Nat} {ty : Nat → FieldType} {fs : List Value} (h : gD y pc (.new idx) 3 pc') (hc : gCl[ci]? = some (C', T, N)) (hcl : Cond.classLink y.1.cls idx C' ∈ gTbl) (hin : Cond.instantiable C' N ∈ gTbl) (hini : Cond.initialized C' ∈ gTbl) (hty : ∀ j, j < N → parseFieldDescriptor (T j).2.2.1 = some (ty j)) (hfs : ∀ j, j < N → defaultValue (ty j) = vp_V fs j) (hk : k + 1 ≤ mc) (hn : n + N ≤ ms) (kk : ∀ q : Nat, KK D d mc ms y h0 A (k + 1) (n + N) pc' (.ref q :: st) (ws ++ [(q, .inr (ci, fs))]) Q) : KK D d mc ms y h0 A k n pc st ws Q := by
  obtain ⟨hd, rfl⟩ := h
  intro p l e s m args below meth c H locs lsA C hlo hP hD hS hA
  exact va_new (ci := ci) (fs := fs) (cl := gCl) (tys := kT D.2.1 D.2.2) C.1 C.2.1 C.2.2.2.2.2.1 (gCl_ok hc).1 ty hty C.2.2.2.2.1 (C.2.2.2.2.2.1 _ hcl) (C.2.2.2.2.2.1 _ hin) (C.2.2.2.2.2.1 _ hini) C.2.2.2.2.2.2.2.2.1 hP hD hS hA hc hfs hk hn hd (fun q H1 hP1 hD1 hS1 => kk q p l e s m args below meth c H1 locs lsA C hlo hP1 hD1 hS1 hA)
theorem k_arr : Cond.arrayClass .int ∈ gTbl ∧ Cond.arrayClass .boolean ∈ gTbl := ⟨gTbl_in (List.mem_of_getElem? (i := 146) (by decide +kernel)) (by decide +kernel), gTbl_in (List.mem_of_getElem? (i := 1057) (by decide +kernel)) (by decide +kernel)⟩
theorem KK.newI {x : Int32} {N : Nat} (h : gD y pc (.newarray .int) 2 pc') (hx : ¬ x < 0) (hN : x.toNatClampNeg = N) (hN2 : N ≤ 1000) (hk : k + 1 ≤ mc) (hn : n + N ≤ ms) (kk : ∀ q : Nat, KK D d mc ms y h0 A (k + 1) (n + N) pc' (.ref q :: st) (ws ++ [(q, .inl (D.2.1, N, .inl (fun _ => 0)))]) Q) : KK D d mc ms y h0 A k n pc (.int x :: st) ws Q := by
  obtain ⟨hd, rfl⟩ := h
  intro p l e s m args below meth c H locs lsA C hlo hP hD hS hA
  have hK := C.2.2.2.2.2.2.2.2.1
  refine va_newa (cl := gCl) (atype := .int) (ty := .int) (a0 := (N, .inl (fun _ => 0))) C.1 C.2.1 (C.2.2.2.2.2.1 _ k_arr.1) rfl hK hP hD hS hA (fun cA => rfl) hx hN (by show N * 4 ≤ 536870912; omega) hk hn hd (fun q cA H1 hK1 hP1 hD1 hS1 => ?_)
  have e1 : s.vm.findClass ("[" ++ FieldType.int.toString) = some cA := (hK1.2 2 (cA, .int) rfl).2
  have e2 : s.vm.findClass ("[" ++ FieldType.int.toString) = some D.2.1 := (hK.2 0 (D.2.1, .int) rfl).2
  have e : cA = D.2.1 := Option.some.inj (e1.symm.trans e2)
  subst e
  exact kk q p l e s m args below meth c H1 locs lsA C hlo hP1 hD1 hS1 hA
theorem KK.newZ {x : Int32} {N : Nat} (h : gD y pc (.newarray .boolean) 2 pc') (hx : ¬ x < 0) (hN : x.toNatClampNeg = N) (hN2 : N ≤ 1000) (hk : k + 1 ≤ mc) (hn : n + N ≤ ms) (kk : ∀ q : Nat, KK D d mc ms y h0 A (k + 1) (n + N) pc' (.ref q :: st) (ws ++ [(q, .inl (D.2.2, N, .inl (fun _ => 0)))]) Q) : KK D d mc ms y h0 A k n pc (.int x :: st) ws Q := by
  obtain ⟨hd, rfl⟩ := h
  intro p l e s m args below meth c H locs lsA C hlo hP hD hS hA
  have hK := C.2.2.2.2.2.2.2.2.1
  refine va_newa (cl := gCl) (atype := .boolean) (ty := .boolean) (a0 := (N, .inl (fun _ => 0))) C.1 C.2.1 (C.2.2.2.2.2.1 _ k_arr.2) rfl hK hP hD hS hA (fun cA => rfl) hx hN (by show N * 1 ≤ 536870912; omega) hk hn hd (fun q cA H1 hK1 hP1 hD1 hS1 => ?_)
  have e1 : s.vm.findClass ("[" ++ FieldType.boolean.toString) = some cA := (hK1.2 2 (cA, .boolean) rfl).2
  have e2 : s.vm.findClass ("[" ++ FieldType.boolean.toString) = some D.2.2 := (hK.2 1 (D.2.2, .boolean) rfl).2
  have e : cA = D.2.2 := Option.some.inj (e1.symm.trans e2)
  subst e
  exact kk q p l e s m args below meth c H1 locs lsA C hlo hP1 hD1 hS1 hA
/-- a field of the object itself -/
theorem KK.putF {idx ci j : Nat} {fs : List Value} {w' : va_W} {v : Value} {C' : String} {T : u_T} {N : Nat} {ty : FieldType} (h : gD y pc (.putfield idx) 3 pc') (hc : gCl[ci]? = some (C', T, N)) (hj : j < N) (hlk : Cond.fieldLink y.1.cls idx (T j).1 (T j).2.1 (T j).2.2.1 ∈ gTbl) (hfin : (T j).2.2.2 = true) (hdecl : (T j).1 = y.1.cls) (hty : parseFieldDescriptor (T j).2.2.1 = some ty) (hnr : narrow ty v = v) (hfit : fits ty v = true) (hl : j < fs.length) (kk : KK D d mc ms y h0 A k n pc' st ((h0, .inr (ci, fs.set j v)) :: w') Q) : KK D d mc ms y h0 A k n pc (v :: .ref h0 :: st) ((h0, .inr (ci, fs)) :: w') Q := by
  obtain ⟨hd, rfl⟩ := h
  intro p l e s m args below meth c H locs lsA C hlo hP hD hS hA
  obtain ⟨hin, ⟨ty0, hty0⟩, hnm⟩ := gCl_ok hc
  exact va_putF (cl := gCl) (tys := kT D.2.1 D.2.2) C.1 C.2.1 C.2.2.2.2.2.1 hin ty0 hty0 hnm C.2.2.2.2.1 C.2.2.2.2.2.2.2.2.1 hP hD hS 0 rfl hc j hj (C.2.2.2.2.2.1 _ hlk) (fun _ z => z) hfin C.2.2.2.2.2.2.2.1 hdecl hty hnr hfit hl hd (fun H1 locs1 hP1 hD1 hS1 => kk p l e s m args below meth c H1 locs1 lsA C hlo hP1 hD1 hS1 hA)
theorem KK.put {idx ci j : Nat} {fs : List Value} {w' : va_W} {v : Value} {C' : String} {T : u_T} {N : Nat} {ty : FieldType} (h : gD y pc (.putfield idx) 3 pc') (hc : gCl[ci]? = some (C', T, N)) (hj : j < N) (hlk : Cond.fieldLink y.1.cls idx (T j).1 (T j).2.1 (T j).2.2.1 ∈ gTbl) (hfin : (T j).2.2.2 = false) (hty : parseFieldDescriptor (T j).2.2.1 = some ty) (hnr : narrow ty v = v) (hfit : fits ty v = true) (hl : j < fs.length) (kk : KK D d mc ms y h0 A k n pc' st ((h0, .inr (ci, fs.set j v)) :: w') Q) : KK D d mc ms y h0 A k n pc (v :: .ref h0 :: st) ((h0, .inr (ci, fs)) :: w') Q := by
  obtain ⟨hd, rfl⟩ := h
  intro p l e s m args below meth c H locs lsA C hlo hP hD hS hA
  obtain ⟨hin, ⟨ty0, hty0⟩, hnm⟩ := gCl_ok hc
  exact va_put (cl := gCl) (tys := kT D.2.1 D.2.2) C.1 C.2.1 C.2.2.2.2.2.1 hin ty0 hty0 hnm C.2.2.2.2.1 C.2.2.2.2.2.2.2.2.1 hP hD hS 0 rfl hc j hj (C.2.2.2.2.2.1 _ hlk) (fun _ z => z) hfin hty hnr hfit hl hd (fun H1 locs1 hP1 hD1 hS1 => kk p l e s m args below meth c H1 locs1 lsA C hlo hP1 hD1 hS1 hA)
theorem KK.get {idx ci j : Nat} {fs : List Value} {w' : va_W} {v : Value} {C' : String} {T : u_T} {N : Nat} (h : gD y pc (.getfield idx) 3 pc') (hc : gCl[ci]? = some (C', T, N)) (hj : j < N) (hlk : Cond.fieldLink y.1.cls idx (T j).1 (T j).2.1 (T j).2.2.1 ∈ gTbl) (hv : fs[j]? = some v) (kk : KK D d mc ms y h0 A k n pc' (v :: st) ((h0, .inr (ci, fs)) :: w') Q) : KK D d mc ms y h0 A k n pc (.ref h0 :: st) ((h0, .inr (ci, fs)) :: w') Q := by
  obtain ⟨hd, rfl⟩ := h
  intro p l e s m args below meth c H locs lsA C hlo hP hD hS hA
  exact va_get (cl := gCl) (tys := kT D.2.1 D.2.2) C.1 C.2.1 C.2.2.2.2.2.1 (gCl_ok hc).1 C.2.2.2.2.1 C.2.2.2.2.2.2.2.2.1 hP 0 rfl hc j hj (C.2.2.2.2.2.1 _ hlk) (fun _ z => z) hv hd (kk p l e s m args below meth c H locs lsA C hlo hP hD hS hA)
/-- an element of an array of whole numbers -/
theorem KK.sto {a q0 N j : Nat} {f : Nat → Int32} {i x : Int32} (h : gD y pc .iastore 1 pc') (he : ws[q0]? = some (a, .inl (D.2.1, N, .inl f))) (hi : i = nI j) (hj : j < N) (hN : N ≤ 1000) (kk : KK D d mc ms y h0 A k n pc' st (ws.set q0 (a, .inl (D.2.1, N, .inl (upd f j x)))) Q) : KK D d mc ms y h0 A k n pc (.int x :: .int i :: .ref a :: st) ws Q := by
  obtain ⟨hd, rfl⟩ := h
  subst hi
  intro p l e s m args below meth c H locs lsA C hlo hP hD hS hA
  refine va_iast (cl := gCl) (tys := kT D.2.1 D.2.2) C.1 C.2.1 C.2.2.2.2.2.2.2.2.1 hP hD hS q0 0 he rfl (vp_in_nI hj (by omega)) hd (fun H1 locs1 hP1 hD1 hS1 => ?_)
  rw [nI_clamp (by omega)] at hP1 hD1
  exact kk p l e s m args below meth c H1 locs1 lsA C hlo hP1 hD1 hS1 hA
theorem KK.ret (h : gD y pc .return_ 1 pc') (hk : k = mc) (hn : n = ms) (hQ : Q ws) : KK D d mc ms y h0 A k n pc [] ws Q := by
  subst hk hn
  intro p l e s m args below meth c H locs lsA C hlo hP hD hS hA
  exact W.vret C.1 C.2.1 C.2.2.1 (fun t ht hW => ⟨⟨rfl, ws, hQ, by rw [ht]; exact hP, hD⟩, hS.F ht⟩) hS.2.2 h.1 (hlocks := C.2.2.2.2.2.2.1)
theorem k_blind {w : va_W} {as : List Value} {sz : Nat} : FrameBlind (va_Pc as (fun U => U.heap.size = sz ∧ va_P D.1 gCl w U.heap ∧ va_K D.1 gCl (kT D.2.1 D.2.2) U ∧ kNw U)) :=
  fun a U g mk q => by
    obtain ⟨q0, q1, qP, qK, qN⟩ := q
    exact ⟨q0, q1, qP, va_K.moved (u := U) (U := U.calling g mk a) (Vm.Alike.refl U.vm) qK, kNw.same (u := U) (U := U.calling g mk a) rfl qN⟩
/-- behind a constructor: the caller's other cells, and what it made -/
theorem k_join {A0 : Nat → Prop} {D : va_G} {w0 w1 : va_W} {q : Nat} {e : va_E} {H H1 : Heap} (hP : va_P D gCl (w0 ++ [(q, e)]) H) (hD : va_D A0 (w0 ++ [(q, e)])) (hk : ∀ x : Nat, x < H.size → ¬ va_A [(q, e)] H.size x → H1[x]? = H[x]?) (hF : ∀ x, va_A [(q, e)] H.size x → A0 x) (hP1 : va_P D gCl w1 H1) (hD1 : va_D (va_A [(q, e)] H.size) w1) : va_P D gCl (w0 ++ w1) H1 ∧ va_D A0 (w0 ++ w1) := by
  have at0 : ∀ (i : Nat) (x : Nat × va_E), w0[i]? = some x → (w0 ++ [(q, e)])[i]? = some x := fun i x h => by
    rw [List.getElem?_append_left (List.getElem?_eq_some_iff.mp h).1]; exact h
  have atq : (w0 ++ [(q, e)])[w0.length]? = some (q, e) := by rw [List.getElem?_append_right (Nat.le_refl _), Nat.sub_self]; rfl
  have apart : ∀ (i : Nat) (x : Nat × va_E), w0[i]? = some x → x.1 < H.size ∧ ¬ va_A [(q, e)] H.size x.1 := by
    intro i x h
    have hl := (hP i x (at0 i x h)).lt
    refine ⟨hl, ?_⟩
    rintro (⟨k2, e2, h2⟩ | h2)
    · have hk2 : k2 < 1 := (List.getElem?_eq_some_iff.mp h2).1
      have : k2 = 0 := by omega
      subst this
      cases h2
      have := hD.1 i w0.length x _ (at0 i x h) atq rfl
      have := (List.getElem?_eq_some_iff.mp h).1
      omega
    · omega
  have sp : ∀ (i : Nat) (x : Nat × va_E), (w0 ++ w1)[i]? = some x → (i < w0.length ∧ w0[i]? = some x) ∨ (w0.length ≤ i ∧ w1[i - w0.length]? = some x) := by
    intro i x h
    rcases Nat.lt_or_ge i w0.length with l | l
    · rw [List.getElem?_append_left l] at h; exact Or.inl ⟨l, h⟩
    · rw [List.getElem?_append_right l] at h; exact Or.inr ⟨l, h⟩
  refine ⟨fun i x h => ?_, fun i j x z hx hz hxz => ?_, fun i x h => ?_⟩
  · rcases sp i x h with ⟨-, h⟩ | ⟨-, h⟩
    · obtain ⟨a1, a2⟩ := apart i x h
      exact (hP i x (at0 i x h)).kept (hk x.1 a1 a2)
    · exact hP1 _ x h
  · rcases sp i x hx with ⟨l1, g1⟩ | ⟨l1, g1⟩ <;> rcases sp j z hz with ⟨l2, g2⟩ | ⟨l2, g2⟩
    · exact hD.1 i j x z (at0 i x g1) (at0 j z g2) hxz
    · exact absurd (by rw [hxz]; exact hD1.2 _ z g2) (apart i x g1).2
    · exact absurd (by rw [← hxz]; exact hD1.2 _ x g1) (apart j z g2).2
    · have := hD1.1 _ _ x z g1 g2 hxz
      omega
  · rcases sp i x h with ⟨-, h⟩ | ⟨-, h⟩
    · exact hD.2 i x (at0 i x h)
    · exact hF _ (hD1.2 _ x h)
/-- what a constructor's call wants of the tables -/
def kMf (Y : gMI) : Prop := Cond.code Y.1 Y.2.1 Y.2.2.1 Y.2.2.2 ∈ gTbl ∧ Cond.initialized Y.1.cls ∈ gTbl ∧ Cond.instanceMethod Y.1 ∈ gTbl ∧ (Y.1.cls ≠ "java/lang/invoke/MethodHandle" ∧ Y.1.cls ≠ "java/lang/invoke/VarHandle" ∧ (parseMethodDescriptor Y.1.desc).map (fun d => d.parameters.length) = some 0) ∧ Y.1.name = "<init>" ∧ Y.2.2.1 = 1 ∧ Y.2.2.2 = none
theorem kGood {Y : gMI} (h : kMf Y) : GoodIn gTbl (gws Y) := by
  intro w hw
  have hm : w ∈ gTbl := by
    rcases List.mem_cons.mp hw with rfl | hw
    · exact h.1
    · exact hw
  exact ⟨hm, good_of_word (List.mem_filter.mp hm).2⟩
theorem KK.ctor {Y : gMI} {d' mc' ms' idx q : Nat} {host : String} {e0 : va_E} {w0 : va_W} {Q' : kD → Nat → va_W → Prop} (h : gD y pc (.invokespecial idx) 3 pc') (hlink : Cond.methodLinkNest y.1.cls idx Y.1 host ∈ lw_tbl) (hf : kMf Y) (hs : KS d' mc' ms' Y e0 Q') (hd : d' < d) (hst : (st.map fun v => v.category).sum ≤ 8) (hk : k + mc' ≤ mc) (hn : n + ms' ≤ ms) (kk : ∀ w1 : va_W, Q' D q w1 → KK D d mc ms y h0 A (k + mc') (n + ms') pc' st (w0 ++ w1) Q) : KK D d mc ms y h0 A k n pc (.ref q :: st) (w0 ++ [(q, e0)]) Q := by
  obtain ⟨hdg, rfl⟩ := h
  intro p l e s m args below meth c H locs lsA C hlo hP hD hS hA
  obtain ⟨hx, hb, hr, hml, hown, hts, hlocks, hin, hK, hN⟩ := C
  have atq : (w0 ++ [(q, e0)])[w0.length]? = some (q, e0) := by rw [List.getElem?_append_right (Nat.le_refl _), Nat.sub_self]; rfl
  have hPc : va_P D.1 gCl [(q, e0)] H := by
    intro i x hx
    have hi : i < 1 := (List.getElem?_eq_some_iff.mp hx).1
    have : i = 0 := by omega
    subst this
    cases hx
    exact hP _ _ atq
  have hFc : ∀ x, va_A [(q, e0)] H.size x → A x := by
    rintro x (⟨k2, e2, h2⟩ | h2)
    · have hk2 : k2 < 1 := (List.getElem?_eq_some_iff.mp h2).1
      have : k2 = 0 := by omega
      subst this
      cases h2
      exact hD.2 _ _ atq
    · exact hA x (Nat.le_trans hS.1 h2)
  have run := va_runIN (l := l) (e := e) (R := kRm d mc ms) (below := below) (meth := meth) (locs := locs) (cells := k) (slots := n) (As := []) (rest := st) (host := host) (g := F0 m pc lsA (.ref q :: st)) (H := H) ⟨hx, hb, hml, hown, hts⟩ (hs D l q H.size) ⟨va_cnB 0 hts (kGood hf) (by show gws Y = Cond.code Y.1 Y.2.1 Y.2.2.1 none :: gTbl; rw [← hf.2.2.2.2.2.2]; rfl) rfl rfl (hN _ _ _ _ hlink) (hts _ hf.2.1) hf.2.2.2.1 ⟨hd, by show 8 + (Y.2.2.1 + 11) + 40 * d' ≤ 40 * d; rw [hf.2.2.2.2.2.1]; omega⟩, hf.2.2.2.2.1, hts _ hf.2.2.1⟩ ⟨k_blind, fun U hU hW => ⟨rfl, by rw [hU], by rw [hU]; exact hPc, va_K.moved hW.alike hK, hN.warm hW⟩⟩ rfl rfl hlo.1 rfl (lv_room hst) hdg ⟨hk, hn⟩
  intro T hT X
  obtain ⟨v, st₀, t, T', L, q1, X', hL, e1, e2, ⟨⟨hv, w1, hw1, hP1, hD1⟩, hz, hkp⟩, stp⟩ := run T hT X
  cases hv
  rw [q1] at hz hkp
  have hkp' : ∀ x : Nat, x < H.size → ¬ va_A [(q, e0)] H.size x → T'.heap[x]? = H[x]? := fun x a b => by rw [e1]; exact hkp x a b
  obtain ⟨hP2, hD2⟩ := k_join (H1 := T'.heap) hP hD hkp' hFc (by rw [e1]; exact hP1) hD1
  have hS2 : va_S A s.heap T'.heap (locs ++ L) := ⟨Nat.le_trans hS.1 (by rw [e1]; exact hz), fun x a b => by rw [hkp' x (Nat.lt_of_lt_of_le a hS.1) (fun z => b (hFc x z))]; exact hS.2.1 x a b, fun x hx => by
    rcases List.mem_append.mp hx with z | z
    · exact hS.2.2 x z
    · exact hFc _ (hL x z)⟩
  obtain ⟨t2, a1, b1⟩ := kk w1 hw1 p l e s m args below meth c T'.heap (locs ++ L) lsA ⟨hx, hb, hr, hml, hown, hts, hlocks, hin, hK, hN⟩ hlo hP2 hD2 hS2 hA T' rfl X'
  exact ⟨t2, stp t2 a1, b1⟩
end K65
