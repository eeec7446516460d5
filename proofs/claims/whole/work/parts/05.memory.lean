/-! FIELDS, ARRAYS, CALLS, RETURNS -/
def gFd (a k : Nat) : Option (Nat × Option (Option Nat)) := match gSh[a]? with
  | some (.inr o) => (o.2[k]?).map fun f => (o.1, f)
  | _ => none
def gAr (a : Nat) : Option (Nat × Nat) := match gSh[a]? with
  | some (.inl x) => some x
  | _ => none
def gOb (a : Nat) : Option Nat := match gSh[a]? with
  | some (.inr o) => some o.1
  | _ => none
theorem gFd_sh {a k ci : Nat} {f : Option (Option Nat)} (h : gFd a k = some (ci, f)) : ∃ fs, gSh[a]? = some (.inr (ci, fs)) ∧ fs[k]? = some f := by
  unfold gFd at h
  split at h
  · next o ho =>
    obtain ⟨ci', fs⟩ := o
    cases hf : fs[k]? with
    | none => rw [hf] at h; cases h
    | some g =>
      rw [hf] at h
      cases h
      exact ⟨fs, ho, hf⟩
  · cases h
theorem gAr_sh {a t n : Nat} (h : gAr a = some (t, n)) : gSh[a]? = some (.inl (t, n)) := by
  unfold gAr at h
  split at h
  · next o ho => cases h; exact ho
  · cases h
theorem gOb_sh {a ci : Nat} (h : gOb a = some ci) : ∃ fs, gSh[a]? = some (.inr (ci, fs)) := by
  unfold gOb at h
  split at h
  · next o ho => obtain ⟨c', fs⟩ := o; cases h; exact ⟨fs, ho⟩
  · cases h
theorem gSh_lt {a : Nat} {sh : gS} (h : gSh[a]? = some sh) : a < 76 := by
  have := (List.getElem?_eq_some_iff.mp h).1
  rw [gSh_len] at this
  exact this
theorem gW_at {Γ : gC} {μ : gM} {a : Nat} {sh : gS} (h : gSh[a]? = some sh) : (gW Γ μ)[a]? = some (Γ.2.1 a, gE Γ μ a sh) := by
  rw [gW, List.getElem?_mapIdx, h]
  rfl
theorem gW_D {Γ : gC} {μ : gM} (hN : gN Γ) : va_D (gOwn Γ) (gW Γ μ) := by
  have key : ∀ (i : Nat) (q : Nat × va_E), (gW Γ μ)[i]? = some q → i < 76 ∧ q.1 = Γ.2.1 i := by
    intro i q h
    rw [gW, List.getElem?_mapIdx] at h
    cases hs : gSh[i]? with
    | none => rw [hs] at h; cases h
    | some sh =>
      rw [hs] at h
      cases h
      exact ⟨gSh_lt hs, rfl⟩
  refine ⟨fun i j p q hi hj hpq => ?_, fun k q hk => ?_⟩
  · obtain ⟨h1, h2⟩ := key i p hi
    obtain ⟨h3, h4⟩ := key j q hj
    exact hN.1 i j h1 h3 (by rw [← h2, ← h4, hpq])
  · obtain ⟨h1, h2⟩ := key k q hk
    exact ⟨k, h1, h2⟩
theorem gE_other {Γ : gC} {μ ν : gM} {i : Nat} (sh : gS) (h : ∀ k, mrd ν i k = mrd μ i k) (h2 : ∀ k, mrL ν i k = mrL μ i k) : gE Γ ν i sh = gE Γ μ i sh := by
  cases sh with
  | inl a => simp only [gE, h]
  | inr o =>
    simp only [gE]
    congr 2
    congr 1
    funext k f
    rcases f with _ | _ | j <;> simp only [gfv, h, h2]
theorem gW_put {Γ : gC} {μ ν : gM} {a k ci : Nat} {fs : List (Option (Option Nat))} {f : Option (Option Nat)} {v : Value} (hs : gSh[a]? = some (.inr (ci, fs))) (hf : fs[k]? = some f) (hv : gfv Γ ν a k f = v)
    (ho : ∀ i j, ¬ (i = a ∧ j = k) → mrd ν i j = mrd μ i j ∧ mrL ν i j = mrL μ i j) :
    (gW Γ μ).set a (Γ.2.1 a, .inr (ci, (fs.mapIdx (fun k f => gfv Γ μ a k f)).set k v)) = gW Γ ν := by
  have hlt : a < gSh.length := (List.getElem?_eq_some_iff.mp hs).1
  apply List.ext_getElem?
  intro i
  by_cases hi : i = a
  · subst hi
    rw [List.getElem?_set_self (by simpa [gW] using hlt), gW_at hs]
    show some (_, Sum.inr (ci, _)) = some (_, Sum.inr (ci, _))
    congr 4
    apply List.ext_getElem?
    intro j
    by_cases hj : j = k
    · subst hj
      rw [List.getElem?_set_self (by simpa using (List.getElem?_eq_some_iff.mp hf).1), List.getElem?_mapIdx, hf, Option.map_some, hv]
    · rw [List.getElem?_set_ne (Ne.symm hj), List.getElem?_mapIdx, List.getElem?_mapIdx]
      congr 1
      funext g
      have := ho i j (fun q => hj q.2)
      rcases g with _ | _ | z <;> simp only [gfv, this.1, this.2]
  · rw [List.getElem?_set_ne (Ne.symm hi), gW, gW, List.getElem?_mapIdx, List.getElem?_mapIdx]
    congr 1
    funext sh
    rw [gE_other sh (fun k => (ho i k (fun q => hi q.1)).1) (fun k => (ho i k (fun q => hi q.1)).2)]
theorem gW_sto {Γ : gC} {μ : gM} {a t n j : Nat} {x : Int32} (hs : gSh[a]? = some (.inl (t, n))) :
    (gW Γ μ).set a (Γ.2.1 a, .inl (if t = 0 then Γ.2.2.1.1 else Γ.2.2.1.2, n, .inl (upd (fun k => mrd μ a k) j x))) = gW Γ (mwr μ a j x) := by
  have hlt : a < gSh.length := (List.getElem?_eq_some_iff.mp hs).1
  apply List.ext_getElem?
  intro i
  by_cases hi : i = a
  · subst hi
    rw [List.getElem?_set_self (by simpa [gW] using hlt), gW_at hs]
    show some (_, Sum.inl (_, n, Sum.inl _)) = some (_, Sum.inl (_, n, Sum.inl _))
    congr 6
    funext k
    by_cases hk : k = j <;> simp [mrd, mwr, upd, hk]
  · rw [List.getElem?_set_ne (Ne.symm hi), gW, gW, List.getElem?_mapIdx, List.getElem?_mapIdx]
    congr 1
    funext sh
    rw [gE_other (μ := μ) (ν := mwr μ a j x) sh (fun k => by simp [mrd, mwr, hi]) (fun k => rfl)]
/-- the classes' fields: their words stand in the tables, types and names are as they should be -/
theorem gCl_ok {ci : Nat} {q : vw_C} (h : gCl[ci]? = some q) : (∀ w ∈ u_ws q.1 q.2.1 q.2.2, w ∈ gTbl) ∧ (∃ ty : Nat → FieldType, ∀ k, k < q.2.2 → parseFieldDescriptor (q.2.1 k).2.2.1 = some (ty k)) ∧ ∀ a, a < q.2.2 → ∀ b, b < q.2.2 → a ≠ b → (q.2.1 a).2.1 ≠ (q.2.1 b).2.1 := by
  match ci, h with
  | 0, h => cases h; exact ⟨by decide +kernel, ⟨tyX0, tyX0_ok⟩, nmX0⟩
  | 1, h => cases h; exact ⟨by decide +kernel, ⟨tyX1, tyX1_ok⟩, nmX1⟩
  | 2, h => cases h; exact ⟨by decide +kernel, ⟨tyX2, tyX2_ok⟩, nmX2⟩
  | 3, h => cases h; exact ⟨by decide +kernel, ⟨tyX4, tyX4_ok⟩, nmX4⟩
  | 4, h => cases h; exact ⟨by decide +kernel, ⟨tyX5, tyX5_ok⟩, nmX5⟩
  | 5, h => cases h; exact ⟨by decide +kernel, ⟨tyX6, tyX6_ok⟩, nmX6⟩
  | 6, h => cases h; exact ⟨by decide +kernel, ⟨tyX7, tyX7_ok⟩, nmX7⟩
  | 7, h => cases h; exact ⟨by decide +kernel, ⟨tyX8, tyX8_ok⟩, nmX8⟩
  | 8, h => cases h; exact ⟨by decide +kernel, ⟨tyX9, tyX9_ok⟩, nmX9⟩
  | 9, h => cases h; exact ⟨by decide +kernel, ⟨tyX10, tyX10_ok⟩, nmX10⟩
  | 10, h => cases h; exact ⟨by decide +kernel, ⟨tyX11, tyX11_ok⟩, nmX11⟩
  | n + 11, h => simp [gCl] at h
/-- a place of a class file's pool links the field k of the class ci -/
def gFL (own : String) (idx ci k : Nat) : Prop := ∃ (C : String) (T : u_T) (N : Nat), gCl[ci]? = some (C, T, N) ∧ k < N ∧ Cond.fieldLink own idx (T k).1 (T k).2.1 (T k).2.2.1 ∈ gTbl
def gFP (ci k : Nat) (ty : FieldType) : Prop := ∃ (C : String) (T : u_T) (N : Nat), gCl[ci]? = some (C, T, N) ∧ (T k).2.2.2 = false ∧ parseFieldDescriptor (T k).2.2.1 = some ty
section MEM
variable {d pc pc' : Nat} {y : gMI} {ls ls' : List (Nat × Value)} {st : List Value} {μ : gM} {Q : Option Value → gM → Prop}
theorem GG.getv {a k ci idx : Nat} {f : Option (Option Nat)} {v : Value} (h : gD y pc (.getfield idx) 3 pc') (hl : gFL y.1.cls idx ci k) (hs : gFd a k = some (ci, f)) (hv : ∀ Γ : gC, gfv Γ μ a k f = gv Γ v) (kk : GG d y pc' ls (v :: st) μ Q) : GG d y pc ls (.ref a :: st) μ Q := by
  obtain ⟨hd, rfl⟩ := h
  obtain ⟨fs, h1, h2⟩ := gFd_sh hs
  obtain ⟨C', T, N, hc, hk, hw⟩ := hl
  intro Γ p l e s m args below meth c H locs lsA C hlo hP hS
  exact va_get (cl := gCl) (tys := gT Γ) C.1 C.2.1 C.2.2.2.2.2.1 (gCl_ok hc).1 C.2.2.2.2.1 C.2.2.2.2.2.2.2.1 hP a (gW_at h1) hc k hk (C.2.2.2.2.2.1 _ hw) (fun _ z => z) (v := gv Γ v) (by rw [List.getElem?_mapIdx, h2, Option.map_some, hv]) hd (kk Γ p l e s m args below meth c H locs lsA C hlo hP hS)
theorem GG.getI {a k ci idx : Nat} (h : gD y pc (.getfield idx) 3 pc') (hl : gFL y.1.cls idx ci k) (hs : gFd a k = some (ci, none)) (kk : GG d y pc' ls (.int (mrd μ a k) :: st) μ Q) : GG d y pc ls (.ref a :: st) μ Q := GG.getv h hl hs (fun _ => rfl) kk
theorem GG.getL {a k ci idx : Nat} (h : gD y pc (.getfield idx) 3 pc') (hl : gFL y.1.cls idx ci k) (hs : gFd a k = some (ci, some none)) (kk : GG d y pc' ls (.long (mrL μ a k) :: st) μ Q) : GG d y pc ls (.ref a :: st) μ Q := GG.getv h hl hs (fun _ => rfl) kk
theorem GG.getR {a k ci idx b : Nat} (h : gD y pc (.getfield idx) 3 pc') (hl : gFL y.1.cls idx ci k) (hs : gFd a k = some (ci, some (some b))) (kk : GG d y pc' ls (.ref b :: st) μ Q) : GG d y pc ls (.ref a :: st) μ Q := GG.getv h hl hs (fun _ => rfl) kk
theorem GG.putv {a k ci idx : Nat} {f : Option (Option Nat)} {v : Value} {ν : gM} {ty : FieldType} (h : gD y pc (.putfield idx) 3 pc') (hl : gFL y.1.cls idx ci k) (hp : gFP ci k ty) (hs : gFd a k = some (ci, f)) (hn : ∀ Γ : gC, narrow ty (gv Γ v) = gv Γ v) (hfit : ∀ Γ : gC, fits ty (gv Γ v) = true) (hv : ∀ Γ : gC, gfv Γ ν a k f = gv Γ v)
    (ho : ∀ i j, ¬ (i = a ∧ j = k) → mrd ν i j = mrd μ i j ∧ mrL ν i j = mrL μ i j) (kk : GG d y pc' ls st ν Q) : GG d y pc ls (v :: .ref a :: st) μ Q := by
  obtain ⟨hd, rfl⟩ := h
  obtain ⟨fs, h1, h2⟩ := gFd_sh hs
  obtain ⟨C', T, N, hc, hk, hw⟩ := hl
  obtain ⟨C2, T2, N2, hc2, hfin, hty⟩ := hp
  cases hc.symm.trans hc2
  obtain ⟨hin, ⟨ty0, hty0⟩, hnm⟩ := gCl_ok hc
  intro Γ p l e s m args below meth c H locs lsA C hlo hP hS
  refine va_put (cl := gCl) (tys := gT Γ) C.1 C.2.1 C.2.2.2.2.2.1 hin ty0 hty0 hnm C.2.2.2.2.1 C.2.2.2.2.2.2.2.1 hP (gW_D C.2.2.2.2.2.2.2.2.1) hS a (gW_at h1) hc k hk (C.2.2.2.2.2.1 _ hw) (fun _ z => z) hfin hty (hn Γ) (hfit Γ) (by simpa using (List.getElem?_eq_some_iff.mp h2).1) hd (fun H1 locs1 hP1 hD1 hS1 => ?_)
  exact kk Γ p l e s m args below meth c H1 locs1 lsA C hlo (by rw [← gW_put h1 h2 (hv Γ) ho]; exact hP1) hS1
theorem mwr_o {μ : gM} {a k : Nat} {x : Int32} : ∀ i j, ¬ (i = a ∧ j = k) → mrd (mwr μ a k x) i j = mrd μ i j ∧ mrL (mwr μ a k x) i j = mrL μ i j := fun i j h => ⟨by simp [mrd, mwr, h], rfl⟩
theorem mwL_o {μ : gM} {a k : Nat} {x : Int64} : ∀ i j, ¬ (i = a ∧ j = k) → mrd (mwL μ a k x) i j = mrd μ i j ∧ mrL (mwL μ a k x) i j = mrL μ i j := fun i j h => ⟨rfl, by simp [mrL, mwL, h]⟩
theorem GG.putI {a k ci idx : Nat} {x : Int32} (h : gD y pc (.putfield idx) 3 pc') (hl : gFL y.1.cls idx ci k) (hp : gFP ci k .int) (hs : gFd a k = some (ci, none)) (kk : GG d y pc' ls st (mwr μ a k x) Q) : GG d y pc ls (.int x :: .ref a :: st) μ Q :=
  GG.putv h hl hp hs (fun _ => rfl) (fun _ => rfl) (fun Γ => by simp [gfv, gv, mrd, mwr]) mwr_o kk
theorem GG.putL {a k ci idx : Nat} {x : Int64} (h : gD y pc (.putfield idx) 3 pc') (hl : gFL y.1.cls idx ci k) (hp : gFP ci k .long) (hs : gFd a k = some (ci, some none)) (kk : GG d y pc' ls st (mwL μ a k x) Q) : GG d y pc ls (.long x :: .ref a :: st) μ Q :=
  GG.putv h hl hp hs (fun _ => rfl) (fun _ => rfl) (fun Γ => by simp [gfv, gv, mrL, mwL]) mwL_o kk
def gZ (x : Int32) : Prop := x = 0 ∨ x = 1
theorem gZ_n {x : Int32} (h : gZ x) : narrow .boolean (.int x) = .int x := by rcases h with rfl | rfl <;> rfl
theorem gZ_f {x : Int32} (h : gZ x) : fits .boolean (.int x) = true := by rcases h with rfl | rfl <;> rfl
theorem GG.putZ {a k ci idx : Nat} {x : Int32} (h : gD y pc (.putfield idx) 3 pc') (hl : gFL y.1.cls idx ci k) (hp : gFP ci k .boolean) (hs : gFd a k = some (ci, none)) (hz : gZ x) (kk : GG d y pc' ls st (mwr μ a k x) Q) : GG d y pc ls (.int x :: .ref a :: st) μ Q :=
  GG.putv h hl hp hs (fun _ => gZ_n hz) (fun _ => gZ_f hz) (fun Γ => by simp [gfv, gv, mrd, mwr]) mwr_o kk
theorem GG.iaload {a n : Nat} {i : Int32} (h : gD y pc .iaload 1 pc') (hs : gAr a = some (0, n)) (hi : vp_in i n) (kk : GG d y pc' ls (.int (mrd μ a i.toNatClampNeg) :: st) μ Q) : GG d y pc ls (.int i :: .ref a :: st) μ Q := by
  obtain ⟨hd, rfl⟩ := h
  intro Γ p l e s m args below meth c H locs lsA C hlo hP hS
  exact va_iald (cl := gCl) (tys := gT Γ) C.1 C.2.1 C.2.2.2.2.2.2.2.1 hP a 0 (gW_at (gAr_sh hs)) rfl hi hd (kk Γ p l e s m args below meth c H locs lsA C hlo hP hS)
theorem GG.iastore {a n : Nat} {i x : Int32} (h : gD y pc .iastore 1 pc') (hs : gAr a = some (0, n)) (hi : vp_in i n) (kk : GG d y pc' ls st (mwr μ a i.toNatClampNeg x) Q) : GG d y pc ls (.int x :: .int i :: .ref a :: st) μ Q := by
  obtain ⟨hd, rfl⟩ := h
  intro Γ p l e s m args below meth c H locs lsA C hlo hP hS
  refine va_iast (cl := gCl) (tys := gT Γ) C.1 C.2.1 C.2.2.2.2.2.2.2.1 hP (gW_D C.2.2.2.2.2.2.2.2.1) hS a 0 (gW_at (gAr_sh hs)) rfl hi hd (fun H1 locs1 hP1 hD1 hS1 => ?_)
  exact kk Γ p l e s m args below meth c H1 locs1 lsA C hlo (by rw [← gW_sto (gAr_sh hs)]; exact hP1) hS1
theorem GG.baload {a n : Nat} {i : Int32} (h : gD y pc .baload 1 pc') (hs : gAr a = some (1, n)) (hi : vp_in i n) (kk : GG d y pc' ls (.int (mrd μ a i.toNatClampNeg) :: st) μ Q) : GG d y pc ls (.int i :: .ref a :: st) μ Q := by
  obtain ⟨hd, rfl⟩ := h
  intro Γ p l e s m args below meth c H locs lsA C hlo hP hS
  exact va_zald (cl := gCl) (tys := gT Γ) C.1 C.2.1 C.2.2.2.2.2.2.2.1 hP a 1 (gW_at (gAr_sh hs)) rfl hi hd (kk Γ p l e s m args below meth c H locs lsA C hlo hP hS)
theorem GG.bastore {a n : Nat} {i x : Int32} (h : gD y pc .bastore 1 pc') (hs : gAr a = some (1, n)) (hi : vp_in i n) (hz : gZ x) (kk : GG d y pc' ls st (mwr μ a i.toNatClampNeg x) Q) : GG d y pc ls (.int x :: .int i :: .ref a :: st) μ Q := by
  obtain ⟨hd, rfl⟩ := h
  intro Γ p l e s m args below meth c H locs lsA C hlo hP hS
  refine va_zast (cl := gCl) (tys := gT Γ) C.1 C.2.1 C.2.2.2.2.2.2.2.1 hP (gW_D C.2.2.2.2.2.2.2.2.1) hS a 1 (gW_at (gAr_sh hs)) rfl hi hd (fun H1 locs1 hP1 hD1 hS1 => ?_)
  refine kk Γ p l e s m args below meth c H1 locs1 lsA C hlo ?_ hS1
  rw [← gW_sto (gAr_sh hs)]
  have e : vp_nar .boolean x = x := by rcases hz with rfl | rfl <;> rfl
  rw [e] at hP1
  exact hP1
theorem GG.alen {a t n : Nat} {v : Int32} (h : gD y pc .arraylength 1 pc') (hs : gAr a = some (t, n)) (hv : Int32.ofNat n = v) (kk : GG d y pc' ls (.int v :: st) μ Q) : GG d y pc ls (.ref a :: st) μ Q := by
  obtain ⟨hd, rfl⟩ := h
  intro Γ p l e s m args below meth c H locs lsA C hlo hP hS
  by_cases ht : t = 0
  · subst ht
    exact va_alen (cl := gCl) (tys := gT Γ) C.1 C.2.1 C.2.2.2.2.2.2.2.1 hP a 0 (gW_at (gAr_sh hs)) (ty := .int) rfl hv hd (kk Γ p l e s m args below meth c H locs lsA C hlo hP hS)
  · exact va_alen (cl := gCl) (tys := gT Γ) C.1 C.2.1 C.2.2.2.2.2.2.2.1 hP a 1 (gW_at (gAr_sh hs)) (ty := .boolean) (by simp [gT, ht]) hv hd (kk Γ p l e s m args below meth c H locs lsA C hlo hP hS)
theorem gQ_i {Γ : gC} {s : State} {args : Array Value} {H : Heap} {locs : List Loc} {r : Option Value} (hQ : Q r μ) (hP : va_P Γ.1 gCl (gW Γ μ) H) (hS : va_S (gOwn Γ) s.heap H locs) : ∀ t : State, t.heap = H → s.WarmedH t.vm → gQ Γ Q args s (.returned (r.map (gv Γ))) t :=
  fun t ht _ => ⟨⟨r, μ, rfl, hQ, by rw [ht]; exact hP⟩, hS.F ht⟩
theorem GG.iret {x : Int32} {n : Nat} (h : gD y pc .ireturn n pc') (hr : y.2.2.2 = some .int) (hn : n = 1 := by rfl) (hQ : Q (some (.int x)) μ) : GG d y pc ls [.int x] μ Q := by
  subst hn
  intro Γ p l e s m args below meth c H locs lsA C hlo hP hS
  exact W.iret C.1 C.2.1 (by rw [C.2.2.1, hr]) (gQ_i hQ hP hS) hS.2.2 h.1 (hlocks := C.2.2.2.2.2.2.1)
theorem GG.zret {x : Int32} {ty : FieldType} {n : Nat} (h : gD y pc .ireturn n pc') (hr : y.2.2.2 = some ty) (hz : narrow ty (.int x) = .int x) (hn : n = 1 := by rfl) (hQ : Q (some (.int x)) μ) : GG d y pc ls [.int x] μ Q := by
  subst hn
  intro Γ p l e s m args below meth c H locs lsA C hlo hP hS
  exact W.zret C.1 C.2.1 (by rw [C.2.2.1, hr]) hz (gQ_i hQ hP hS) hS.2.2 h.1 (hlocks := C.2.2.2.2.2.2.1)
theorem GG.lret {x : Int64} {n : Nat} (h : gD y pc .lreturn n pc') (hr : y.2.2.2 = some .long) (hn : n = 1 := by rfl) (hQ : Q (some (.long x)) μ) : GG d y pc ls [.long x] μ Q := by
  subst hn
  intro Γ p l e s m args below meth c H locs lsA C hlo hP hS
  exact W.lret C.1 C.2.1 (by rw [C.2.2.1, hr]) (gQ_i hQ hP hS) hS.2.2 h.1 (hlocks := C.2.2.2.2.2.2.1)
theorem GG.vret {n : Nat} (h : gD y pc .return_ n pc') (hr : y.2.2.2 = none) (hn : n = 1 := by rfl) (hQ : Q none μ) : GG d y pc ls [] μ Q := by
  subst hn
  intro Γ p l e s m args below meth c H locs lsA C hlo hP hS
  exact W.vret C.1 C.2.1 (by rw [C.2.2.1, hr]) (gQ_i hQ hP hS) hS.2.2 h.1 (hlocks := C.2.2.2.2.2.2.1)
theorem GG.ldc2 {v : Int64} {idx : Nat} (h : gD y pc (.ldc2_w idx) 3 pc') (hw : Cond.constantLong y.1.cls idx v ∈ gTbl) (kk : GG d y pc' ls (.long v :: st) μ Q) : GG d y pc ls st μ Q := by
  obtain ⟨hd, rfl⟩ := h
  intro Γ p l e s m args below meth c H locs lsA C hlo hP hS
  exact lv_ldc2 C.1 C.2.1 C.2.2.2.2.1 (C.2.2.2.2.2.1 _ hw) hd (kk Γ p l e s m args below meth c H locs lsA C hlo hP hS)
theorem GG.ldcI {v : Int32} {idx : Nat} (h : gD y pc (.ldc idx) 2 pc') (hw : Cond.constant y.1.cls idx v ∈ gTbl) (kk : GG d y pc' ls (.int v :: st) μ Q) : GG d y pc ls st μ Q := by
  obtain ⟨hd, rfl⟩ := h
  intro Γ p l e s m args below meth c H locs lsA C hlo hP hS
  exact lv_ldc C.1 C.2.1 C.2.2.2.2.1 (C.2.2.2.2.2.1 _ hw) hd (kk Γ p l e s m args below meth c H locs lsA C hlo hP hS)
theorem GG.ldcw {v : Int32} {idx : Nat} (h : gD y pc (.ldc_w idx) 3 pc') (hw : Cond.constant y.1.cls idx v ∈ gTbl) (kk : GG d y pc' ls (.int v :: st) μ Q) : GG d y pc ls st μ Q := by
  obtain ⟨hd, rfl⟩ := h
  intro Γ p l e s m args below meth c H locs lsA C hlo hP hS
  exact lv_ldcw C.1 C.2.1 C.2.2.2.2.1 (C.2.2.2.2.2.1 _ hw) hd (kk Γ p l e s m args below meth c H locs lsA C hlo hP hS)
end MEM
