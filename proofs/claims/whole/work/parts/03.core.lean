/-! THE LAYER: an abstract memory over a fixed shape of cells; GG: the machine stands in a method of ours and ends with Q; SPC: a method's contract. -/
/-- an abstract memory: whole numbers by cell and slot, longs by cell and slot -/
abbrev gM : Type := (Nat → Nat → Int32) × (Nat → Nat → Int64)
def mrd (μ : gM) (c k : Nat) : Int32 := μ.1 c k
def mrL (μ : gM) (c k : Nat) : Int64 := μ.2 c k
def mwr (μ : gM) (c k : Nat) (v : Int32) : gM := (fun c' k' => if c' = c ∧ k' = k then v else μ.1 c' k', μ.2)
def mwL (μ : gM) (c k : Nat) (v : Int64) : gM := (μ.1, fun c' k' => if c' = c ∧ k' = k then v else μ.2 c' k')
/-- a cell's shape: an array (0: int, 1: boolean) of a length, or an object of a class with its fields (none: int, some none: long, some (some j): the cell j) -/
abbrev gS : Type := (Nat × Nat) ⊕ (Nat × List (Option (Option Nat)))
def gCl : List vw_C := [(RX0, TX0, 2), (RX1, TX1, 1), (RX2, TX2, 5), (RX4, TX4, 11), (RX5, TX5, 2), (RX6, TX6, 2), (RX7, TX7, 6), (RX8, TX8, 2), (RX9, TX9, 3), (RX10, TX10, 13), (RX11, TX11, 22)]
def gShLane (b : Nat) : List gS := [.inr (3, [none, none, some (some (b + 1)), some (some (b + 2)), some (some (b + 3)), none, some (some (b + 4)), some (some (b + 5)), none, none, none]), .inl (0, 7), .inl (0, 7), .inl (0, 7), .inl (0, 4), .inl (0, 4)]
def gShHouses (h : Nat) : List gS := .inr (2, [some (some (h + 1)), some (some (h + 7)), some (some (h + 9)), some (some (h + 11)), some (some (h + 13))]) :: (gShLane (h + 1) ++ [.inr (5, [none, some (some (h + 8))]), .inl (0, 24), .inr (5, [none, some (some (h + 10))]), .inl (0, 24), .inr (5, [none, some (some (h + 12))]), .inl (0, 24), .inr (4, [none, some (some (h + 14))]), .inl (0, 80)])
def gSh : List gS := .inr (9, [some (some 1), some (some 16), some (some 31), none, none, some (some 46), some (some 49), some (some 50), some (some 58), some (some 60), none, none, none]) ::
  (gShHouses 1 ++ (gShHouses 16 ++ (gShHouses 31 ++ (
  [.inr (6, [none, some (some 47), none, none, none, some (some 48)]), .inl (0, 150), .inl (0, 3), .inr (0, [some none, some none]), .inr (7, [some (some 51), some (some 57)])] ++ (gShLane 51 ++ (
  [.inl (0, 20), .inr (1, [some (some 59)]), .inl (0, 6), .inr (8, [none, some (some 61), some (some 62)]), .inl (0, 7), .inl (0, 7)] ++
  [.inr (10, [some (some 64), some (some 65), some (some 66), some none, some none, some (some 67), none, some (some 68), none, none, none, none, none, some (some 69), some (some 70), some (some 71), none, none, some (some 72), some (some 73), some (some 74), some (some 75)]),
   .inl (0, 547), .inl (1, 2), .inl (0, 3), .inl (0, 150), .inl (0, 30), .inl (0, 7), .inl (0, 7), .inl (0, 7), .inl (0, 7), .inl (0, 7), .inl (0, 6), .inl (0, 20)]))))))
theorem gSh_len : gSh.length = 76 := by decide +kernel
/-- where the cells lie: class numbers and slots, addresses, the array classes, the JDK's formatter -/
abbrev gC : Type := va_G × (Nat → Nat) × (ClassId × ClassId) × Value
/-- an abstract value's own: a reference is a cell's place (1000 ..: a String constant), a float stands for the formatter -/
def gv (Γ : gC) : Value → Value
  | .ref a => .ref (Γ.2.1 a)
  | .float _ => Γ.2.2.2
  | .int v => .int v
  | .long v => .long v
  | .double b => .double b
  | .null => .null
  | .retAddr a => .retAddr a
def gls (Γ : gC) (ls : List (Nat × Value)) : List (Nat × Value) := ls.map fun q => (q.1, gv Γ q.2)
def gfv (Γ : gC) (μ : gM) (i k : Nat) : Option (Option Nat) → Value
  | none => .int (mrd μ i k)
  | some none => .long (mrL μ i k)
  | some (some j) => .ref (Γ.2.1 j)
def gE (Γ : gC) (μ : gM) (i : Nat) : gS → va_E
  | .inl a => .inl (if a.1 = 0 then Γ.2.2.1.1 else Γ.2.2.1.2, a.2, .inl (fun k => mrd μ i k))
  | .inr o => .inr (o.1, o.2.mapIdx (fun k f => gfv Γ μ i k f))
def gW (Γ : gC) (μ : gM) : va_W := gSh.mapIdx fun i sh => (Γ.2.1 i, gE Γ μ i sh)
def gT (Γ : gC) : List (ClassId × FieldType) := [(Γ.2.2.1.1, .int), (Γ.2.2.1.2, .boolean)]
def gOwn (Γ : gC) : Nat → Prop := fun q => ∃ i, i < 76 ∧ q = Γ.2.1 i
def gN (Γ : gC) : Prop := (∀ i j, i < 76 → j < 76 → Γ.2.1 i = Γ.2.1 j → i = j) ∧ Γ.2.2.2.category = 1
def gTx : List (Nat × String) := [(95, "lane"), (101, "one"), (103, "aunt"), (105, "away"), (107, "counts")]
def gLen : List Nat := [4, 3, 4, 4, 6]
def gByt : List (List Int32) := [[108, 97, 110, 101], [111, 110, 101], [97, 117, 110, 116], [97, 119, 97, 121], [99, 111, 117, 110, 116, 115]]
/-- what the JDK's own cells hold: the String constants, the two statics -/
def gX (Γ : gC) (A : Nat → Prop) (U : State) (H : Heap) : Prop :=
  vk_S 5 gLen gByt (fun i => Γ.2.1 (1000 + i)) (fun i => Γ.2.1 (1100 + i)) A U H ∧
  (∀ (i : Nat) (q : Nat × String), gTx[i]? = some q → vk_R "LaneCymbals$Text" q.1 q.2 (Γ.2.1 (1000 + i)) U) ∧
  va_Z "java/lang/String" "COMPACT_STRINGS" "Z" (.int 1) A U H ∧ va_Z "jdk/internal/util/Preconditions" "SIOOBE_FORMATTER" "Ljava/util/function/BiFunction;" Γ.2.2.2 A U H ∧
  ∀ (a : String) (i : Nat) (x : MethodName) (h : String), Cond.methodLinkNest a i x h ∈ lw_tbl → va_Nw (.methodLinkNest a i x h) U
theorem gX.kept {Γ : gC} {A : Nat → Prop} {U : State} {H H1 : Heap} (h : gX Γ A U H) (hq : ∀ a : Nat, a < H.size → ¬ A a → H1[a]? = H[a]?) : gX Γ A U H1 := ⟨h.1.kept hq, h.2.1, h.2.2.1.kept hq, h.2.2.2.1.kept hq, h.2.2.2.2⟩
theorem gX.warm {Γ : gC} {A : Nat → Prop} {s U : State} {H : Heap} (hW : s.WarmedH U.vm) (h : gX Γ A s H) : gX Γ A U H := ⟨vk_S.moved hW.alike h.1, fun i q hq => vk_R.warm hW (h.2.1 i q hq), va_Z.moved hW.alike h.2.2.1, va_Z.moved hW.alike h.2.2.2.1, fun a i x o hw => va_Nw.warmM hW (h.2.2.2.2 a i x o hw)⟩
theorem gX.same {Γ : gC} {A : Nat → Prop} {u U : State} {H : Heap} (hv : U.vm = u.vm) (h : gX Γ A u H) : gX Γ A U H := by
  have ha : u.vm.Alike U.vm := by rw [hv]; exact Vm.Alike.refl u.vm
  exact ⟨vk_S.moved ha h.1, fun i q hq => vk_R.same hv (h.2.1 i q hq), va_Z.moved ha h.2.2.1, va_Z.moved ha h.2.2.2.1, fun a i x o hw => va_Nw.same rfl hv.symm (h.2.2.2.2 a i x o hw)⟩
/-- a method: name, code, how many locals, what it returns -/
abbrev gMI : Type := MethodName × ByteArray × Nat × Option FieldType
/-- the tables' words that stay true when the tables grow warmer -/
def gTbl : List Cond := lw_tbl.filter goodWord
theorem gTbl_in {w : Cond} (h : w ∈ lw_tbl) (hg : goodWord w = true) : w ∈ gTbl := List.mem_filter.mpr ⟨h, hg⟩
def gRm (d : Nat) : Room := { frames := d, cells := 0, slots := 0, locals := 40 * d }
def gws (y : gMI) : List Cond := .code y.1 y.2.1 y.2.2.1 y.2.2.2 :: gTbl
def gCx (Γ : gC) (y : gMI) (p : Program) (s : State) (m : MethodId) (args : Array Value) (meth : Method) (c : Code) : Prop :=
  p.tables.exec = Jvm.exec ∧ c.code = y.2.1 ∧ meth.sig.returnType = y.2.2.2 ∧ c.maxLocals = y.2.2.1 ∧ s.vm.findClass y.1.cls = some m.cls ∧ (∀ w ∈ gTbl, w.before args s = true) ∧ meth.locks = false ∧ va_K Γ.1 gCl (gT Γ) s ∧ gN Γ ∧ gX Γ (gOwn Γ) s s.heap
def gQ (Γ : gC) (Q : Option Value → gM → Prop) : Array Value → State → Outcome → State → Prop := fun _ st o t => (∃ (r : Option Value) (μ : gM), o = .returned (r.map (gv Γ)) ∧ Q r μ ∧ va_P Γ.1 gCl (gW Γ μ) t.heap) ∧ va_F (gOwn Γ) st t
/-- the machine stands in the method y at pc, with these locals, this stack, this memory; d levels of calls are left; it ends with Q of answer and memory -/
def GG (d : Nat) (y : gMI) (pc : Nat) (ls : List (Nat × Value)) (st : List Value) (μ : gM) (Q : Option Value → gM → Prop) : Prop :=
  ∀ (Γ : gC) (p : Program) (l : Launch) (e : Env) (s : State) (m : MethodId) (args : Array Value) (below : List Frame) (meth : Method) (c : Code) (H : Heap) (locs : List Loc) (lsA : Array Slot), gCx Γ y p s m args meth c → lv_has lsA y.2.2.1 (gls Γ ls) → va_P Γ.1 gCl (gW Γ μ) H → va_S (gOwn Γ) s.heap H locs →
    W p l e (gRm d) s m args below meth c H locs 0 0 (MQ below (gQ Γ Q) args s 0 0 (gOwn Γ)) (F0 m pc lsA (st.map (gv Γ)))
def SPC (d : Nat) (y : gMI) (as : List Value) (μ : gM) (Q : Option Value → gM → Prop) : Prop :=
  ∀ (Γ : gC) (l : Launch), gN Γ → Met l y.1 (gws y) (gRm d) (va_Pc (as.map (gv Γ)) (fun U => va_P Γ.1 gCl (gW Γ μ) U.heap ∧ va_K Γ.1 gCl (gT Γ) U ∧ gX Γ (gOwn Γ) U U.heap)) (gQ Γ Q) 0 0 (gOwn Γ)
theorem gv_cat {Γ : gC} (h : gN Γ) (v : Value) : (gv Γ v).category = v.category := by
  cases v <;> first | rfl | exact h.2
theorem gcat_sum {Γ : gC} (h : gN Γ) (st : List Value) : ((st.map (gv Γ)).map fun v => v.category).sum = (st.map fun v => v.category).sum := by
  induction st with
  | nil => rfl
  | cons v st ih => simp only [List.map_cons, List.sum_cons, gv_cat h, ih]
theorem gargs_map {Γ : gC} (h : gN Γ) (as : List Value) : ∀ k, lv_args k (as.map (gv Γ)) = gls Γ (lv_args k as) := by
  induction as with
  | nil => intro k; rfl
  | cons v as ih => intro k; simp only [List.map_cons, lv_args, gv_cat h, ih, gls]
theorem gsl_len {Γ : gC} (h : gN Γ) (as : List Value) : (lg_sl (as.map (gv Γ))).length = (lg_sl as).length := by
  induction as with
  | nil => rfl
  | cons v as ih =>
    have e : ∀ (w : Value) (l : List Value), (lg_sl (w :: l)).length = (if w.category = 2 then 2 else 1) + (lg_sl l).length := by
      intro w l
      unfold lg_sl
      rw [List.flatMap_cons, List.length_append]
      split <;> rfl
    rw [List.map_cons, e, e, gv_cat h, ih]
/-- a contract out of the walk from the method's entry -/
theorem SPC.of {d : Nat} {y : gMI} {as : List Value} {μ : gM} {Q : Option Value → gM → Prop} {ls : List (Nat × Value)} (hy : plainName y.1.cls = true) (hn : (lg_sl as).length ≤ y.2.2.1) (hls : lv_args 0 as = ls) (h : GG d y 0 ls [] μ Q) : SPC d y as μ Q := by
  intro Γ l hN
  refine Met.ofW (cc := y.2.1) (maxL := y.2.2.1) (ret := y.2.2.2) hy rfl ?_
  intro p e s m args below meth c s₁ B hml hv
  obtain ⟨rfl, hP, hK, hX⟩ := hv
  have hts := atoms_spec (ws := gws y) B.pre
  have hl := lv_entry (as.map (gv Γ)) (n := y.2.2.1) (by rw [gsl_len hN]; exact hn)
  rw [gargs_map hN, hls] at hl
  rw [lg_entry_eq]
  exact h Γ p l e s m _ below meth c s.heap [] _ ⟨B.exec, B.bytes, B.returns, hml, findClass_of_methodNamed B.named, fun w hw => hts w (List.mem_cons_of_mem _ hw), B.notSynchronized, hK, hN, hX⟩ hl hP va_S.rf
