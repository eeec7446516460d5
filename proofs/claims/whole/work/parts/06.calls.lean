/-! CALLS of our methods, over the whole memory: the callee's contract is over the same memory, so no frame rule is wanted -/
def gMf (Y : gMI) (n : Nat) : Prop := Cond.code Y.1 Y.2.1 Y.2.2.1 Y.2.2.2 ∈ gTbl ∧ Cond.initialized Y.1.cls ∈ gTbl ∧ (Y.1.cls ≠ "java/lang/invoke/MethodHandle" ∧ Y.1.cls ≠ "java/lang/invoke/VarHandle" ∧ (parseMethodDescriptor Y.1.desc).map (fun d => d.parameters.length) = some n) ∧ Y.2.2.1 ≤ 21
def gMv (Y : gMI) : Prop := Cond.instanceMethod Y.1 ∈ gTbl ∧ Cond.selects Y.1.cls Y.1 Y.1 ∈ gTbl
def gMs (Y : gMI) : Prop := Cond.static Y.1 ∈ gTbl
theorem gGood {Y : gMI} {n : Nat} (h : gMf Y n) : GoodIn gTbl (gws Y) := by
  intro w hw
  have hm : w ∈ gTbl := by
    rcases List.mem_cons.mp hw with rfl | hw
    · exact h.1
    · exact hw
  exact ⟨hm, good_of_word (List.mem_filter.mp hm).2⟩
theorem gBlind {Γ : gC} {as : List Value} {μ : gM} : FrameBlind (va_Pc as (fun U => va_P Γ.1 gCl (gW Γ μ) U.heap ∧ va_K Γ.1 gCl (gT Γ) U ∧ gX Γ (gOwn Γ) U U.heap)) :=
  fun a U g mk q => by
    obtain ⟨q0, qP, qK, qX⟩ := q
    exact ⟨q0, qP, va_K.moved (u := U) (U := U.calling g mk a) (Vm.Alike.refl U.vm) qK, gX.same (u := U) (U := U.calling g mk a) rfl qX⟩
theorem gRecv {Γ : gC} {μ : gM} {s : State} {H : Heap} {a ci : Nat} {q : vw_C} (hK : va_K Γ.1 gCl (gT Γ) s) (hP : va_P Γ.1 gCl (gW Γ μ) H) (ho : gOb a = some ci) (hc : gCl[ci]? = some q) : ∃ cell : Cell, H[Γ.2.1 a]? = some cell ∧ cell.vm.isStatics = false ∧ s.vm.findClass q.1 = some cell.cls := by
  obtain ⟨fs, hs⟩ := gOb_sh ho
  exact va_recv hK hP hc (gW_at hs)
section CALLS
variable {p : Program} {l : Launch} {e : Env} {R : Room} {s : State} {m : MethodId} {args : Array Value} {below : List Frame} {meth : Method} {c : Code} {H : Heap} {locs : List Loc} {cells slots : Nat} {Qg : State → Prop} {Γ : gC} {μ : gM} {Y : gMI} {Q : Option Value → gM → Prop} {A0 : Nat → Prop} {lsA : Array Slot} {pc : Nat}
theorem gBack {g : JFrame} {rest st0 : List Value} {a : Array Value} (hg : g = F0 m pc lsA st0) (hr : va_Run p l e R s m args below meth c H locs cells slots 0 0 g rest (gQ Γ Q a) (gOwn Γ)) (hX : gX Γ (gOwn Γ) s H) (hS : va_S A0 s.heap H locs) (hA0 : ∀ q, gOwn Γ q → A0 q)
    (kk : ∀ (r : Option Value) (ν : gM) (H1 : Heap) (locs1 : List Loc), Q r ν → va_P Γ.1 gCl (gW Γ ν) H1 → va_S A0 s.heap H1 locs1 → gX Γ (gOwn Γ) s H1 → H.size ≤ H1.size → (∀ q : Nat, q < H.size → ¬ gOwn Γ q → H1[q]? = H[q]?) → W p l e R s m args below meth c H1 locs1 cells slots Qg (F0 m (pc + 3) lsA ((r.map (gv Γ)).toList ++ rest))) : W p l e R s m args below meth c H locs cells slots Qg (F0 m pc lsA st0) := by
  subst hg
  intro T hT X
  obtain ⟨v, st₀, t, T', L, h0, X', hL, e1, e2, ⟨⟨r, ν, hv, hq, hp⟩, hz, hk⟩, st⟩ := hr T hT X
  cases hv
  rw [h0] at hz hk
  obtain ⟨t2, a1, b1⟩ := kk r ν T'.heap (locs ++ L) hq (by rw [e1]; exact hp) ⟨Nat.le_trans hS.1 (by rw [e1]; exact hz), fun q h1 h2 => by rw [e1, hk q (Nat.lt_of_lt_of_le h1 hS.1) (fun z => h2 (hA0 q z))]; exact hS.2.1 q h1 h2, fun q hq => by
      rcases List.mem_append.mp hq with h | h
      · exact hS.2.2 q h
      · exact hA0 _ (hL q h)⟩ (hX.kept (fun a h1 h2 => by rw [e1]; exact hk a h1 h2)) (by rw [e1]; exact hz) (fun q h1 h2 => by rw [e1]; exact hk q h1 h2) T' rfl X'
  exact ⟨t2, st t2 a1, b1⟩
theorem gCB {own : String} {idx n d' : Nat} (hts : ∀ w ∈ gTbl, w.before args s = true) (hf : gMf Y n) (hlink : Cond.methodLink own idx Y.1 ∈ gTbl) (hR : d' + 1 ≤ R.frames ∧ 40 * d' + 40 ≤ R.locals) : CallB R s args own idx Y.1 Y.2.1 Y.2.2.1 Y.2.2.2 (gws Y) (gRm d') 0 0 n :=
  callB_of n hts (gGood hf) rfl rfl rfl (hts _ hf.2.1) (hts _ hlink) hf.2.2.1 ⟨hR.1, by show 8 + (Y.2.2.1 + 11) + 40 * d' ≤ _; have := hf.2.2.2; omega⟩
theorem gPre {C : String} {b : Nat} {as : List Value} (hK : va_K Γ.1 gCl (gT Γ) s) (hX : gX Γ (gOwn Γ) s H) (hP : va_P Γ.1 gCl (gW Γ μ) H) : ∀ U : State, U.heap = H → s.WarmedH U.vm → va_Pc (as.map (gv Γ)) (fun U => va_P Γ.1 gCl (gW Γ μ) U.heap ∧ va_K Γ.1 gCl (gT Γ) U ∧ gX Γ (gOwn Γ) U U.heap) (as.map (gv Γ)).toArray U :=
  fun U hU hW => ⟨rfl, by rw [hU]; exact hP, va_K.moved hW.alike hK, by rw [hU]; exact hX.warm hW⟩
theorem gCallV {cc : ByteArray} {nL : Nat} {own : String} (hx : p.tables.exec = Jvm.exec) (hb : c.code = cc) (hml : c.maxLocals = nL) (hown : s.vm.findClass own = some m.cls) (hts : ∀ w ∈ gTbl, w.before args s = true) (hK : va_K Γ.1 gCl (gT Γ) s) (hN : gN Γ) (hX : gX Γ (gOwn Γ) s H) (hP : va_P Γ.1 gCl (gW Γ μ) H) (hS : va_S A0 s.heap H locs) (hA0 : ∀ q, gOwn Γ q → A0 q) (hsz : lsA.size = nL)
    {idx n d' a : Nat} {as rest : List Value} (hlink : Cond.methodLink own idx Y.1 ∈ gTbl) (hf : gMf Y n) (hv : gMv Y) (hrec : ∃ cell : Cell, H[Γ.2.1 a]? = some cell ∧ cell.vm.isStatics = false ∧ s.vm.findClass Y.1.cls = some cell.cls) (hn : as.length = n) (hs : SPC d' Y (.ref a :: as) μ Q) (hR : d' + 1 ≤ R.frames ∧ 40 * d' + 40 ≤ R.locals) (hst : (rest.map fun v => v.category).sum ≤ 8) (hdg : decode cc pc = .ok (.invokevirtual idx, 3)) (hcs : cells ≤ R.cells ∧ slots ≤ R.slots)
    (kk : ∀ (r : Option Value) (ν : gM) (H1 : Heap) (locs1 : List Loc), Q r ν → va_P Γ.1 gCl (gW Γ ν) H1 → va_S A0 s.heap H1 locs1 → gX Γ (gOwn Γ) s H1 → H.size ≤ H1.size → (∀ q : Nat, q < H.size → ¬ gOwn Γ q → H1[q]? = H[q]?) → W p l e R s m args below meth c H1 locs1 cells slots Qg (F0 m (pc + 3) lsA ((r.map (gv Γ)).toList ++ rest))) :
    W p l e R s m args below meth c H locs cells slots Qg (F0 m pc lsA ((as.map (gv Γ)).reverse ++ .ref (Γ.2.1 a) :: rest)) :=
  gBack rfl (va_runV (As := as.map (gv Γ)) (C := Y.1.cls) ⟨hx, hb, hml, hown, hts⟩ (hs Γ l hN) ⟨gCB hts hf hlink hR, hts _ hv.1, hts _ hv.2⟩ ⟨gBlind, hrec, gPre (C := "") (b := 0) (as := .ref a :: as) hK hX hP⟩ rfl (by rw [List.length_map]; exact hn) hsz rfl (lv_room hst) hdg hcs) hX hS hA0 kk
theorem gCallS {cc : ByteArray} {nL : Nat} {own : String} (hx : p.tables.exec = Jvm.exec) (hb : c.code = cc) (hml : c.maxLocals = nL) (hown : s.vm.findClass own = some m.cls) (hts : ∀ w ∈ gTbl, w.before args s = true) (hK : va_K Γ.1 gCl (gT Γ) s) (hN : gN Γ) (hX : gX Γ (gOwn Γ) s H) (hP : va_P Γ.1 gCl (gW Γ μ) H) (hS : va_S A0 s.heap H locs) (hA0 : ∀ q, gOwn Γ q → A0 q) (hsz : lsA.size = nL)
    {idx n d' : Nat} {as rest : List Value} (hlink : Cond.methodLink own idx Y.1 ∈ gTbl) (hf : gMf Y n) (hv : gMs Y) (hn : as.length = n) (hs : SPC d' Y as μ Q) (hR : d' + 1 ≤ R.frames ∧ 40 * d' + 40 ≤ R.locals) (hst : (rest.map fun v => v.category).sum ≤ 8) (hdg : decode cc pc = .ok (.invokestatic idx, 3)) (hcs : cells ≤ R.cells ∧ slots ≤ R.slots)
    (kk : ∀ (r : Option Value) (ν : gM) (H1 : Heap) (locs1 : List Loc), Q r ν → va_P Γ.1 gCl (gW Γ ν) H1 → va_S A0 s.heap H1 locs1 → gX Γ (gOwn Γ) s H1 → H.size ≤ H1.size → (∀ q : Nat, q < H.size → ¬ gOwn Γ q → H1[q]? = H[q]?) → W p l e R s m args below meth c H1 locs1 cells slots Qg (F0 m (pc + 3) lsA ((r.map (gv Γ)).toList ++ rest))) :
    W p l e R s m args below meth c H locs cells slots Qg (F0 m pc lsA ((as.map (gv Γ)).reverse ++ rest)) :=
  gBack rfl (va_runS (As := as.map (gv Γ)) ⟨hx, hb, hml, hown, hts⟩ (hs Γ l hN) ⟨gCB hts hf hlink hR, hts _ hv⟩ ⟨gBlind, gPre (C := "") (b := 0) (as := as) hK hX hP⟩ rfl (by rw [List.length_map]; exact hn) hsz rfl (lv_room hst) hdg hcs) hX hS hA0 kk
theorem gCallSN {cc : ByteArray} {nL : Nat} {own host : String} (hx : p.tables.exec = Jvm.exec) (hb : c.code = cc) (hml : c.maxLocals = nL) (hown : s.vm.findClass own = some m.cls) (hts : ∀ w ∈ gTbl, w.before args s = true) (hK : va_K Γ.1 gCl (gT Γ) s) (hN : gN Γ) (hX : gX Γ (gOwn Γ) s H) (hP : va_P Γ.1 gCl (gW Γ μ) H) (hS : va_S A0 s.heap H locs) (hA0 : ∀ q, gOwn Γ q → A0 q) (hsz : lsA.size = nL)
    {idx n d' : Nat} {as rest : List Value} (hlink : Cond.methodLinkNest own idx Y.1 host ∈ lw_tbl) (hf : gMf Y n) (hv : gMs Y) (hn : as.length = n) (hs : SPC d' Y as μ Q) (hR : d' + 1 ≤ R.frames ∧ 40 * d' + 40 ≤ R.locals) (hst : (rest.map fun v => v.category).sum ≤ 8) (hdg : decode cc pc = .ok (.invokestatic idx, 3)) (hcs : cells ≤ R.cells ∧ slots ≤ R.slots)
    (kk : ∀ (r : Option Value) (ν : gM) (H1 : Heap) (locs1 : List Loc), Q r ν → va_P Γ.1 gCl (gW Γ ν) H1 → va_S A0 s.heap H1 locs1 → gX Γ (gOwn Γ) s H1 → H.size ≤ H1.size → (∀ q : Nat, q < H.size → ¬ gOwn Γ q → H1[q]? = H[q]?) → W p l e R s m args below meth c H1 locs1 cells slots Qg (F0 m (pc + 3) lsA ((r.map (gv Γ)).toList ++ rest))) :
    W p l e R s m args below meth c H locs cells slots Qg (F0 m pc lsA ((as.map (gv Γ)).reverse ++ rest)) :=
  gBack rfl (va_runSN (As := as.map (gv Γ)) (host := host) ⟨hx, hb, hml, hown, hts⟩ (hs Γ l hN) ⟨⟨⟨rfl, rfl, hR.1, by show 8 + (Y.2.2.1 + 11) + 40 * d' ≤ _; have := hf.2.2.2; omega, pay_in hts (gGood hf), List.mem_cons_self⟩, hts _ hf.1, hts _ hf.2.1, ⟨hf.2.2.1.1, hf.2.2.1.2.1⟩, fun sig h => by have h2 := hf.2.2.1.2.2; rw [h] at h2; exact (Option.some.inj h2).symm, va_Nw.use rfl (hX.2.2.2.2 _ _ _ _ hlink)⟩, hts _ hv, trivial⟩ ⟨gBlind, gPre (C := "") (b := 0) (as := as) hK hX hP⟩ rfl (by rw [List.length_map]; exact hn) hsz rfl (lv_room hst) hdg hcs) hX hS hA0 kk
end CALLS
def gpush : Option Value → List Value → List Value
  | none, st => st
  | some v, st => v :: st
theorem gpush_map {Γ : gC} (r : Option Value) (st : List Value) : (r.map (gv Γ)).toList ++ st.map (gv Γ) = (gpush r st).map (gv Γ) := by cases r <;> rfl
/-- what a call of an instance method of a class of ours wants -/
def gRc (a : Nat) (C : String) : Prop := ∃ (ci : Nat) (T : u_T) (N : Nat), gOb a = some ci ∧ gCl[ci]? = some (C, T, N)
section GCALLS
variable {d d' pc pc' n idx : Nat} {y Y : gMI} {ls : List (Nat × Value)} {st : List Value} {μ : gM} {Q : Option Value → gM → Prop}
theorem GG.callV {a : Nat} {as : List Value} {st0 : List Value} (h : gD y pc (.invokevirtual idx) 3 pc') (hlink : Cond.methodLink y.1.cls idx Y.1 ∈ gTbl) (hf : gMf Y n) (hv : gMv Y) (hrc : gRc a Y.1.cls) (hn : as.length = n) (hd : d' < d) (hst : (st.map fun v => v.category).sum ≤ 8) (he : as.reverse ++ .ref a :: st = st0) (hs : SPC d' Y (.ref a :: as) μ (fun r ν => GG d y pc' ls (gpush r st) ν Q)) : GG d y pc ls st0 μ Q := by
  obtain ⟨hdg, rfl⟩ := h
  subst he
  intro Γ p l e s m args below meth c H locs lsA C hlo hP hS
  obtain ⟨ci, T, N, ho, hc⟩ := hrc
  rw [List.map_append, List.map_cons, List.map_reverse]
  refine gCallV C.1 C.2.1 C.2.2.2.1 C.2.2.2.2.1 C.2.2.2.2.2.1 C.2.2.2.2.2.2.2.1 C.2.2.2.2.2.2.2.2.1 (C.2.2.2.2.2.2.2.2.2.kept hS.2.1) hP hS (fun _ z => z) hlo.1 hlink hf hv (gRecv C.2.2.2.2.2.2.2.1 hP ho hc) hn hs ⟨hd, by show 40 * d' + 40 ≤ 40 * d; omega⟩ (by rw [gcat_sum C.2.2.2.2.2.2.2.2.1]; exact hst) hdg ⟨Nat.zero_le _, Nat.zero_le _⟩ (fun r ν H1 locs1 hq hP1 hS1 _ _ _ => ?_)
  rw [gpush_map]
  exact hq Γ p l e s m args below meth c H1 locs1 lsA C hlo hP1 hS1
theorem GG.callS {as : List Value} {st0 : List Value} (h : gD y pc (.invokestatic idx) 3 pc') (hlink : Cond.methodLink y.1.cls idx Y.1 ∈ gTbl) (hf : gMf Y n) (hv : gMs Y) (hn : as.length = n) (hd : d' < d) (hst : (st.map fun v => v.category).sum ≤ 8) (he : as.reverse ++ st = st0) (hs : SPC d' Y as μ (fun r ν => GG d y pc' ls (gpush r st) ν Q)) : GG d y pc ls st0 μ Q := by
  obtain ⟨hdg, rfl⟩ := h
  subst he
  intro Γ p l e s m args below meth c H locs lsA C hlo hP hS
  rw [List.map_append, List.map_reverse]
  refine gCallS C.1 C.2.1 C.2.2.2.1 C.2.2.2.2.1 C.2.2.2.2.2.1 C.2.2.2.2.2.2.2.1 C.2.2.2.2.2.2.2.2.1 (C.2.2.2.2.2.2.2.2.2.kept hS.2.1) hP hS (fun _ z => z) hlo.1 hlink hf hv hn hs ⟨hd, by show 40 * d' + 40 ≤ 40 * d; omega⟩ (by rw [gcat_sum C.2.2.2.2.2.2.2.2.1]; exact hst) hdg ⟨Nat.zero_le _, Nat.zero_le _⟩ (fun r ν H1 locs1 hq hP1 hS1 _ _ _ => ?_)
  rw [gpush_map]
  exact hq Γ p l e s m args below meth c H1 locs1 lsA C hlo hP1 hS1
theorem GG.callN {as : List Value} {st0 : List Value} {host : String} (h : gD y pc (.invokestatic idx) 3 pc') (hlink : Cond.methodLinkNest y.1.cls idx Y.1 host ∈ lw_tbl) (hf : gMf Y n) (hv : gMs Y) (hn : as.length = n) (hd : d' < d) (hst : (st.map fun v => v.category).sum ≤ 8) (he : as.reverse ++ st = st0) (hs : SPC d' Y as μ (fun r ν => GG d y pc' ls (gpush r st) ν Q)) : GG d y pc ls st0 μ Q := by
  obtain ⟨hdg, rfl⟩ := h
  subst he
  intro Γ p l e s m args below meth c H locs lsA C hlo hP hS
  rw [List.map_append, List.map_reverse]
  refine gCallSN C.1 C.2.1 C.2.2.2.1 C.2.2.2.2.1 C.2.2.2.2.2.1 C.2.2.2.2.2.2.2.1 C.2.2.2.2.2.2.2.2.1 (C.2.2.2.2.2.2.2.2.2.kept hS.2.1) hP hS (fun _ z => z) hlo.1 hlink hf hv hn hs ⟨hd, by show 40 * d' + 40 ≤ 40 * d; omega⟩ (by rw [gcat_sum C.2.2.2.2.2.2.2.2.1]; exact hst) hdg ⟨Nat.zero_le _, Nat.zero_le _⟩ (fun r ν H1 locs1 hq hP1 hS1 _ _ _ => ?_)
  rw [gpush_map]
  exact hq Γ p l e s m args below meth c H1 locs1 lsA C hlo hP1 hS1
end GCALLS
