def R_law : String := "LaneCymbalsLaw"
def lw_P (b : Addr) (xs : List Int32) (args : Array Value) (s : State) : Prop := args = #[.ref b] ∧ s.IntsAt b xs ∧ xs.length ≤ 2560 ∧ (Jvm.Cond.and given_1 narrow_1).before args s = true
def lw_Q (_ : Array Value) (s : State) (o : Outcome) (t : State) : Prop := o = .returned (some (.int 1)) ∧ Framed s o t [] 600000 7302250
def lw_Z (below : List Frame) (a : Array Value) (s : State) : State → Prop := fun t => ∃ o, t.status = .running ∧ Ended t below o ∧ lw_Q a s o t
/-- the law's own end, with 1 on the stack, nothing written that was there before, its room as the claim has it -/
theorem lw_ret {p : Program} {l : Launch} {e : Env} {s : State} {m : MethodId} {below : List Frame} {meth : Method} {c : Code} {b : Nat} (hx : p.tables.exec = Jvm.exec) (hb : c.code = code) (hr : meth.sig.returnType = ret) (hlocks : meth.locks = false) {pc : Nat} {H : Heap} {ls : Array Slot} (hdg : decode code pc = .ok (.ireturn, 1)) : W p l e room_1 s m #[Value.ref b] below meth c H [] 600000 7302250 (lw_Z below #[Value.ref b] s) (F0 m pc ls [.int 1]) := by
  intro T hT X
  obtain ⟨fs, hret, hrun, hended, hW, hframe⟩ := X.leave (v := some (.int 1)) (hlocks := hlocks) (fun h => by rw [hr] at h; cases h)
  have hmeth' : T.vm.method? m = some meth := X.method'
  refine ⟨T.setFrames fs, ?_, .returned (some (.int 1)), hrun, hended, rfl, ⟨_, rfl⟩, hW, hframe⟩
  jvm_step X.here [X.here.top, hx, hb, hdg, hmeth', hr, ret, narrow_b1]
  (try refine ⟨rfl, ?_⟩); (try refine ⟨rfl, ?_⟩)
  first | (intro acts; rw [hret _ acts rfl rfl rfl]) | rw [hret _ _ rfl rfl rfl]
  exact Steps.refl _
/-- what holds at the law's entry: the machine, the code, the tables' words (any of lw_tbl by 'hts w (by decide +kernel)'), the script of L ints xs at the cell b, what the Statement gives of the start (any of its parts by flat_of_before) -/
def lw_At (p : Program) (s : State) (m : MethodId) (meth : Method) (c : Code) (b L : Nat) (xs : Nat → Int32) : Prop :=
  p.tables.exec = Jvm.exec ∧ c.code = code ∧ meth.sig.returnType = ret ∧ c.maxLocals = 4 ∧ s.vm.findClass R_law = some m.cls ∧ (∀ w ∈ lw_tbl, w.before #[Value.ref b] s = true) ∧ va_X b L xs s s.heap ∧ b < s.heap.size ∧ meth.locks = false ∧ (Jvm.Cond.and given_1 narrow_1).before #[Value.ref b] s = true
/-! THE LAW: a layer over its own frame -/
abbrev lwF (s : State) : Nat → Prop := fun q : Nat => s.heap.size ≤ q
def LW (Γ : gC) (p : Program) (l : Launch) (e : Env) (s : State) (m : MethodId) (below : List Frame) (meth : Method) (c : Code) (b i pc : Nat) (st : List Value) (μ : gM) : Prop :=
  ∀ (H : Heap) (locs : List Loc) (ls : Array Slot), va_P Γ.1 gCl (gW Γ μ) H → va_S (lwF s) s.heap H locs → lv_has ls 4 [(0, .ref b), (1, .ref (Γ.2.1 0)), (2, .ref (Γ.2.1 63)), (3, .int (nI i))] → W p l e room_1 s m #[Value.ref b] below meth c H locs 600000 7302250 (lw_Z below #[Value.ref b] s) (F0 m pc ls st)
def lwC (Γ : gC) (p : Program) (s : State) (m : MethodId) (meth : Method) (c : Code) (b L : Nat) (xs : Nat → Int32) : Prop := lw_At p s m meth c b L xs ∧ L ≤ 2560 ∧ va_K Γ.1 gCl (gT Γ) s ∧ gN Γ ∧ gX Γ (gOwn Γ) s s.heap ∧ ∀ q : Nat, gOwn Γ q → s.heap.size ≤ q
def lwD (pc : Nat) (i : Instr) (n : Nat) : Prop := decode code pc = .ok (i, n)
/-- the five instructions that load a number of the script -/
def lwArg (pc : Nat) (k : Int) : Prop := lwD pc (.aload_n 0) 1 ∧ lwD (pc + 1) (.iload_n 3) 1 ∧ lwD (pc + 2) (.iconst k) 1 ∧ lwD (pc + 3) .iadd 1 ∧ lwD (pc + 4) .iaload 1
section LAW
variable {Γ : gC} {p : Program} {l : Launch} {e : Env} {s : State} {m : MethodId} {below : List Frame} {meth : Method} {c : Code} {b L : Nat} {xs : Nat → Int32} {i : Nat} {μ : gM}
theorem LW.arg (C : lwC Γ p s m meth c b L xs) {k : Int} {kn pc : Nat} {st : List Value} (h : lwArg pc k) (hk : Int32.ofInt k = nI kn) (hlt : i + kn < L) (kk : LW Γ p l e s m below meth c b i (pc + 5) (.int (xs (i + kn)) :: st) μ) : LW Γ p l e s m below meth c b i pc st μ := by
  intro H locs ls hP hS hl
  obtain ⟨⟨hx, hb, hr, hml, hown, hts, hX, hbl, hlocks, hgv⟩, hL, -⟩ := C
  obtain ⟨h0, h1, h2, h3, h4⟩ := h
  refine lv_aload_n hx hb h0 rfl (lv_at hl 0 rfl) ?_
  refine lv_iload_n hx hb h1 rfl (lv_at hl 3 rfl) ?_
  refine lv_iconst hx hb h2 hk ?_
  refine lv_iadd hx hb h3 ?_
  rw [nI_add]
  refine va_sld hx hb hX hbl (Nat.not_le.mpr hbl) hS (vp_in_nI hlt (by omega)) h4 ?_
  rw [nI_clamp (by omega)]
  exact kk H locs ls hP hS hl
theorem LW.call (C : lwC Γ p s m meth c b L xs) {a ci pc d idx n : Nat} {q : vw_C} {Y : gMI} {vs rest st0 : List Value} {Q : Option Value → gM → Prop} (ho : gOb a = some ci) (hc : gCl[ci]? = some q) (hY : Y.1.cls = q.1) (h : lwD pc (.invokevirtual idx) 3) (hlink : Cond.methodLink R_law idx Y.1 ∈ gTbl) (hf : gMf Y n) (hv : gMv Y) (hn : vs.length = n) (hvs : vs.map (gv Γ) = vs) (hd : d + 1 ≤ 2048 ∧ 40 * d + 40 ≤ 84000) (hst : (rest.map fun v => v.category).sum ≤ 8) (he : vs.reverse ++ .ref (Γ.2.1 a) :: rest = st0) (hs : SPC d Y (.ref a :: vs) μ Q) (kk : ∀ (r : Option Value) (ν : gM), Q r ν → LW Γ p l e s m below meth c b i (pc + 3) ((r.map (gv Γ)).toList ++ rest) ν) : LW Γ p l e s m below meth c b i pc st0 μ := by
  subst he
  intro H locs ls hP hS hl
  obtain ⟨⟨hx, hb, hr, hml, hown, hts, hX, hbl, hlocks, hgv⟩, hL, hK, hN, hG, hA⟩ := C
  have hts2 : ∀ w ∈ gTbl, w.before #[Value.ref b] s = true := fun w hw => hts w (List.mem_filter.mp hw).1
  have hrec := gRecv hK hP ho hc
  rw [← hY] at hrec
  have hX1 : gX Γ (gOwn Γ) s H := hG.kept (fun x h1 _ => hS.2.1 x h1 (Nat.not_le.mpr h1))
  have run := gCallV (lsA := ls) (own := R_law) (rest := rest) (Qg := lw_Z below #[Value.ref b] s) hx hb hml hown hts2 hK hN hX1 hP hS hA hl.1 hlink hf hv hrec hn hs hd hst h ⟨Nat.le_refl _, Nat.le_refl _⟩ (fun r ν H1 locs1 hq hP1 hS1 _ _ _ => kk r ν hq H1 locs1 ls hP1 hS1 hl)
  rw [hvs] at run
  exact run
theorem LW.case (C : lwC Γ p s m meth c b L xs) {pc pc1 pc2 d d' idx idx' n n' : Nat} {off : Int} {Y Y' : gMI} {vs : List Value} (hs : CTi d d' Y Y' vs μ) (h0 : lwD pc (.aload_n 1) 1) (a1 : ∀ (st : List Value) (ν : gM), LW Γ p l e s m below meth c b i pc1 (vs.reverse ++ st) ν → LW Γ p l e s m below meth c b i (pc + 1) st ν) (h1 : lwD pc1 (.invokevirtual idx) 3) (h2 : lwD (pc1 + 3) (.aload_n 2) 1) (a2 : ∀ (st : List Value) (ν : gM), LW Γ p l e s m below meth c b i pc2 (vs.reverse ++ st) ν → LW Γ p l e s m below meth c b i (pc1 + 4) st ν) (h3 : lwD pc2 (.invokevirtual idx') 3) (h4 : lwD (pc2 + 3) (.if_icmp .eq off) 3) (ht : ((pc2 + 3 : Nat) : Int) + off = (1324 : Nat)) (hY : Y.1.cls = RX10) (hY' : Y'.1.cls = RX11) (kl : Cond.methodLink R_law idx Y.1 ∈ gTbl) (kl' : Cond.methodLink R_law idx' Y'.1 ∈ gTbl) (hf : gMf Y n) (hf' : gMf Y' n') (hv : gMv Y) (hv' : gMv Y') (hn : vs.length = n) (hn' : vs.length = n') (hvs : vs.map (gv Γ) = vs) (hd : d + 1 ≤ 2048 ∧ 40 * d + 40 ≤ 84000) (hd' : d' + 1 ≤ 2048 ∧ 40 * d' + 40 ≤ 84000) (ih : ∀ ν : gM, INV ν → LW Γ p l e s m below meth c b i 1324 [] ν) : LW Γ p l e s m below meth c b i pc [] μ := by
  have load : ∀ (j : Fin 4) (q : Nat) (x : Nat) (st : List Value) (ν : gM), lwD q (.aload_n j) 1 → (∀ ls : Array Slot, lv_has ls 4 [(0, .ref b), (1, .ref (Γ.2.1 0)), (2, .ref (Γ.2.1 63)), (3, .int (nI i))] → ls[(j : Nat)]? = some (.val (.ref x))) → LW Γ p l e s m below meth c b i (q + 1) (.ref x :: st) ν → LW Γ p l e s m below meth c b i q st ν := by
    intro j q x st ν hdg hj kk H locs ls hP hS hl
    exact lv_aload_n C.1.1 C.1.2.1 hdg rfl (hj ls hl) (kk H locs ls hP hS hl)
  refine load 1 pc (Γ.2.1 0) [] μ h0 (fun ls hl => lv_at hl 1 rfl) ?_
  refine a1 _ _ ?_
  refine LW.call C (a := 0) (ci := 9) (rest := []) rfl rfl hY h1 kl hf hv hn hvs hd (Nat.zero_le _) rfl hs (fun r ν hq => ?_)
  obtain ⟨v, rfl, hs2⟩ := hq
  refine load 2 (pc1 + 3) (Γ.2.1 63) _ ν h2 (fun ls hl => lv_at hl 2 rfl) ?_
  refine a2 _ _ ?_
  refine LW.call C (a := 63) (ci := 10) (rest := [.int v]) rfl rfl hY' h3 kl' hf' hv' hn' hvs hd' (by show 1 + 0 ≤ 8; omega) rfl hs2 (fun r ν2 hq => ?_)
  obtain ⟨rfl, hI⟩ := hq
  intro H locs ls hP hS hl
  exact lv_icmp_eq (x := v) (y := v) (rest := []) C.1.1 C.1.2.1 h4 ht (fun _ => ih ν2 hI H locs ls hP hS hl) (fun z => absurd rfl z)
theorem LW.caseL (C : lwC Γ p s m meth c b L xs) {pc pc1 pc2 d d' idx idx' n n' : Nat} {off : Int} {Y Y' : gMI} {vs : List Value} (hs : CTl d d' Y Y' vs μ) (h0 : lwD pc (.aload_n 1) 1) (a1 : ∀ (st : List Value) (ν : gM), LW Γ p l e s m below meth c b i pc1 (vs.reverse ++ st) ν → LW Γ p l e s m below meth c b i (pc + 1) st ν) (h1 : lwD pc1 (.invokevirtual idx) 3) (h2 : lwD (pc1 + 3) (.aload_n 2) 1) (a2 : ∀ (st : List Value) (ν : gM), LW Γ p l e s m below meth c b i pc2 (vs.reverse ++ st) ν → LW Γ p l e s m below meth c b i (pc1 + 4) st ν) (h3 : lwD pc2 (.invokevirtual idx') 3) (hl : lwD (pc2 + 3) .lcmp 1) (h4 : lwD (pc2 + 4) (.ifCond .eq off) 3) (ht : ((pc2 + 4 : Nat) : Int) + off = (1324 : Nat)) (hY : Y.1.cls = RX10) (hY' : Y'.1.cls = RX11) (kl : Cond.methodLink R_law idx Y.1 ∈ gTbl) (kl' : Cond.methodLink R_law idx' Y'.1 ∈ gTbl) (hf : gMf Y n) (hf' : gMf Y' n') (hv : gMv Y) (hv' : gMv Y') (hn : vs.length = n) (hn' : vs.length = n') (hvs : vs.map (gv Γ) = vs) (hd : d + 1 ≤ 2048 ∧ 40 * d + 40 ≤ 84000) (hd' : d' + 1 ≤ 2048 ∧ 40 * d' + 40 ≤ 84000) (ih : ∀ ν : gM, INV ν → LW Γ p l e s m below meth c b i 1324 [] ν) : LW Γ p l e s m below meth c b i pc [] μ := by
  have load : ∀ (j : Fin 4) (q : Nat) (x : Nat) (st : List Value) (ν : gM), lwD q (.aload_n j) 1 → (∀ ls : Array Slot, lv_has ls 4 [(0, .ref b), (1, .ref (Γ.2.1 0)), (2, .ref (Γ.2.1 63)), (3, .int (nI i))] → ls[(j : Nat)]? = some (.val (.ref x))) → LW Γ p l e s m below meth c b i (q + 1) (.ref x :: st) ν → LW Γ p l e s m below meth c b i q st ν := by
    intro j q x st ν hdg hj kk H locs ls hP hS hl
    exact lv_aload_n C.1.1 C.1.2.1 hdg rfl (hj ls hl) (kk H locs ls hP hS hl)
  refine load 1 pc (Γ.2.1 0) [] μ h0 (fun ls hl => lv_at hl 1 rfl) ?_
  refine a1 _ _ ?_
  refine LW.call C (a := 0) (ci := 9) (rest := []) rfl rfl hY h1 kl hf hv hn hvs hd (Nat.zero_le _) rfl hs (fun r ν hq => ?_)
  obtain ⟨v, rfl, hs2⟩ := hq
  refine load 2 (pc1 + 3) (Γ.2.1 63) _ ν h2 (fun ls hl => lv_at hl 2 rfl) ?_
  refine a2 _ _ ?_
  refine LW.call C (a := 63) (ci := 10) (rest := [.long v]) rfl rfl hY' h3 kl' hf' hv' hn' hvs hd' (by show 2 + 0 ≤ 8; omega) rfl hs2 (fun r ν2 hq => ?_)
  obtain ⟨rfl, hI⟩ := hq
  intro H locs ls hP hS hlo
  refine W.lcmp (x := v) (y := v) (rest := []) C.1.1 C.1.2.1 hl ?_
  exact lv_if_eq (rest := []) C.1.1 C.1.2.1 h4 ht (fun _ => ih ν2 hI H locs ls hP hS hlo) (fun z => absurd (by rw [lg_cmp]; grind) z)
theorem lw_five {i L : Nat} (hi : i ≤ 2560) (hL : L ≤ 2560) (h : ¬ nI L - 5 < nI i) : i + 5 ≤ L := by
  rcases Nat.lt_or_ge L 5 with l | l
  · exfalso
    apply h
    have h0 : (0 : Int32) ≤ nI i := nI_pos' (by omega)
    have h1 : nI L - 5 < 0 := by
      match L, l with
      | 0, _ => decide
      | 1, _ => decide
      | 2, _ => decide
      | 3, _ => decide
      | 4, _ => decide
    exact Int32.lt_of_lt_of_le h1 h0
  · obtain ⟨k, rfl⟩ : ∃ k, L = k + 5 := ⟨L - 5, by omega⟩
    have e : nI (k + 5) - 5 = nI k := by
      rw [← nI_add]
      show nI k + 5 - 5 = nI k
      exact Int32.add_sub_cancel _ _
    rw [e] at h
    have := nnlt h (by omega) (by omega)
    omega
end LAW
