/-! THE RULES: an instruction each, out of the kit's rows. -/
def gD (y : gMI) (pc : Nat) (i : Instr) (n pc' : Nat) : Prop := decode y.2.1 pc = .ok (i, n) ∧ pc + n = pc'
section RULES
variable {d pc pc' : Nat} {y : gMI} {ls ls' : List (Nat × Value)} {st : List Value} {μ : gM} {Q : Option Value → gM → Prop}
theorem GG.iconst {n : Int} {v : Int32} (h : gD y pc (.iconst n) 1 pc') (hv : Int32.ofInt n = v) (k : GG d y pc' ls (.int v :: st) μ Q) : GG d y pc ls (st) μ Q := by
  obtain ⟨hd, rfl⟩ := h
  intro Γ p l e s m args below meth c H locs lsA C hl hP hS
  exact lv_iconst C.1 C.2.1 hd hv (k Γ p l e s m args below meth c H locs lsA C hl hP hS)
theorem GG.bipush {n : Int} {v : Int32} (h : gD y pc (.bipush n) 2 pc') (hv : (Int8.ofInt n).toInt32 = v) (k : GG d y pc' ls (.int v :: st) μ Q) : GG d y pc ls (st) μ Q := by
  obtain ⟨hd, rfl⟩ := h
  intro Γ p l e s m args below meth c H locs lsA C hl hP hS
  exact lv_bipush C.1 C.2.1 hd hv (k Γ p l e s m args below meth c H locs lsA C hl hP hS)
theorem GG.sipush {n : Int} {v : Int32} (h : gD y pc (.sipush n) 3 pc') (hv : (Int16.ofInt n).toInt32 = v) (k : GG d y pc' ls (.int v :: st) μ Q) : GG d y pc ls (st) μ Q := by
  obtain ⟨hd, rfl⟩ := h
  intro Γ p l e s m args below meth c H locs lsA C hl hP hS
  exact lv_sipush C.1 C.2.1 hd hv (k Γ p l e s m args below meth c H locs lsA C hl hP hS)
theorem GG.lconst {n : Fin 2} {v : Int64} (h : gD y pc (.lconst n) 1 pc') (hv : Int64.ofNat (n : Nat) = v) (k : GG d y pc' ls (.long v :: st) μ Q) : GG d y pc ls (st) μ Q := by
  obtain ⟨hd, rfl⟩ := h
  intro Γ p l e s m args below meth c H locs lsA C hl hP hS
  exact lv_lconst C.1 C.2.1 hd hv (k Γ p l e s m args below meth c H locs lsA C hl hP hS)
theorem GG.iadd {x z : Int32} (h : gD y pc .iadd 1 pc') (k : GG d y pc' ls (.int (x + z) :: st) μ Q) : GG d y pc ls (.int z :: .int x :: st) μ Q := by
  obtain ⟨hd, rfl⟩ := h
  intro Γ p l e s m args below meth c H locs lsA C hl hP hS
  exact lv_iadd C.1 C.2.1 hd (k Γ p l e s m args below meth c H locs lsA C hl hP hS)
theorem GG.isub {x z : Int32} (h : gD y pc .isub 1 pc') (k : GG d y pc' ls (.int (x - z) :: st) μ Q) : GG d y pc ls (.int z :: .int x :: st) μ Q := by
  obtain ⟨hd, rfl⟩ := h
  intro Γ p l e s m args below meth c H locs lsA C hl hP hS
  exact lv_isub C.1 C.2.1 hd (k Γ p l e s m args below meth c H locs lsA C hl hP hS)
theorem GG.imul {x z : Int32} (h : gD y pc .imul 1 pc') (k : GG d y pc' ls (.int (x * z) :: st) μ Q) : GG d y pc ls (.int z :: .int x :: st) μ Q := by
  obtain ⟨hd, rfl⟩ := h
  intro Γ p l e s m args below meth c H locs lsA C hl hP hS
  exact lv_imul C.1 C.2.1 hd (k Γ p l e s m args below meth c H locs lsA C hl hP hS)
theorem GG.iand {x z : Int32} (h : gD y pc .iand 1 pc') (k : GG d y pc' ls (.int (x &&& z) :: st) μ Q) : GG d y pc ls (.int z :: .int x :: st) μ Q := by
  obtain ⟨hd, rfl⟩ := h
  intro Γ p l e s m args below meth c H locs lsA C hl hP hS
  exact lv_iand C.1 C.2.1 hd (k Γ p l e s m args below meth c H locs lsA C hl hP hS)
theorem GG.ior {x z : Int32} (h : gD y pc .ior 1 pc') (k : GG d y pc' ls (.int (x ||| z) :: st) μ Q) : GG d y pc ls (.int z :: .int x :: st) μ Q := by
  obtain ⟨hd, rfl⟩ := h
  intro Γ p l e s m args below meth c H locs lsA C hl hP hS
  exact lv_ior C.1 C.2.1 hd (k Γ p l e s m args below meth c H locs lsA C hl hP hS)
theorem GG.ixor {x z : Int32} (h : gD y pc .ixor 1 pc') (k : GG d y pc' ls (.int (x ^^^ z) :: st) μ Q) : GG d y pc ls (.int z :: .int x :: st) μ Q := by
  obtain ⟨hd, rfl⟩ := h
  intro Γ p l e s m args below meth c H locs lsA C hl hP hS
  exact lv_ixor C.1 C.2.1 hd (k Γ p l e s m args below meth c H locs lsA C hl hP hS)
theorem GG.ishl {x z : Int32} (h : gD y pc .ishl 1 pc') (k : GG d y pc' ls (.int (x <<< (z &&& 31)) :: st) μ Q) : GG d y pc ls (.int z :: .int x :: st) μ Q := by
  obtain ⟨hd, rfl⟩ := h
  intro Γ p l e s m args below meth c H locs lsA C hl hP hS
  exact lv_ishl C.1 C.2.1 hd (k Γ p l e s m args below meth c H locs lsA C hl hP hS)
theorem GG.ishr {x z : Int32} (h : gD y pc .ishr 1 pc') (k : GG d y pc' ls (.int (x >>> (z &&& 31)) :: st) μ Q) : GG d y pc ls (.int z :: .int x :: st) μ Q := by
  obtain ⟨hd, rfl⟩ := h
  intro Γ p l e s m args below meth c H locs lsA C hl hP hS
  exact lv_ishr C.1 C.2.1 hd (k Γ p l e s m args below meth c H locs lsA C hl hP hS)
theorem GG.iushr {x z : Int32} (h : gD y pc .iushr 1 pc') (k : GG d y pc' ls (.int (x.toUInt32 >>> (z.toUInt32 &&& Int32.toUInt32 31)).toInt32 :: st) μ Q) : GG d y pc ls (.int z :: .int x :: st) μ Q := by
  obtain ⟨hd, rfl⟩ := h
  intro Γ p l e s m args below meth c H locs lsA C hl hP hS
  exact lv_iushr C.1 C.2.1 hd rfl (k Γ p l e s m args below meth c H locs lsA C hl hP hS)
theorem GG.idiv {x z : Int32} (h : gD y pc .idiv 1 pc') (hz : ¬ z = 0) (k : GG d y pc' ls (.int (x / z) :: st) μ Q) : GG d y pc ls (.int z :: .int x :: st) μ Q := by
  obtain ⟨hd, rfl⟩ := h
  intro Γ p l e s m args below meth c H locs lsA C hl hP hS
  exact lv_idiv C.1 C.2.1 hd hz (k Γ p l e s m args below meth c H locs lsA C hl hP hS)
theorem GG.irem {x z : Int32} (h : gD y pc .irem 1 pc') (hz : ¬ z = 0) (k : GG d y pc' ls (.int (x - x / z * z) :: st) μ Q) : GG d y pc ls (.int z :: .int x :: st) μ Q := by
  obtain ⟨hd, rfl⟩ := h
  intro Γ p l e s m args below meth c H locs lsA C hl hP hS
  exact lv_irem C.1 C.2.1 hd hz (k Γ p l e s m args below meth c H locs lsA C hl hP hS)
theorem GG.ineg {x : Int32} (h : gD y pc .ineg 1 pc') (k : GG d y pc' ls (.int (-x) :: st) μ Q) : GG d y pc ls (.int x :: st) μ Q := by
  obtain ⟨hd, rfl⟩ := h
  intro Γ p l e s m args below meth c H locs lsA C hl hP hS
  exact lv_ineg C.1 C.2.1 hd (k Γ p l e s m args below meth c H locs lsA C hl hP hS)
theorem GG.ladd {x z : Int64} (h : gD y pc .ladd 1 pc') (k : GG d y pc' ls (.long (x + z) :: st) μ Q) : GG d y pc ls (.long z :: .long x :: st) μ Q := by
  obtain ⟨hd, rfl⟩ := h
  intro Γ p l e s m args below meth c H locs lsA C hl hP hS
  exact lv_ladd C.1 C.2.1 hd (k Γ p l e s m args below meth c H locs lsA C hl hP hS)
theorem GG.lsub {x z : Int64} (h : gD y pc .lsub 1 pc') (k : GG d y pc' ls (.long (x - z) :: st) μ Q) : GG d y pc ls (.long z :: .long x :: st) μ Q := by
  obtain ⟨hd, rfl⟩ := h
  intro Γ p l e s m args below meth c H locs lsA C hl hP hS
  exact lv_lsub C.1 C.2.1 hd (k Γ p l e s m args below meth c H locs lsA C hl hP hS)
theorem GG.lmul {x z : Int64} (h : gD y pc .lmul 1 pc') (k : GG d y pc' ls (.long (x * z) :: st) μ Q) : GG d y pc ls (.long z :: .long x :: st) μ Q := by
  obtain ⟨hd, rfl⟩ := h
  intro Γ p l e s m args below meth c H locs lsA C hl hP hS
  exact lv_lmul C.1 C.2.1 hd (k Γ p l e s m args below meth c H locs lsA C hl hP hS)
theorem GG.ldiv {x z : Int64} (h : gD y pc .ldiv 1 pc') (hz : ¬ z = 0) (k : GG d y pc' ls (.long (x / z) :: st) μ Q) : GG d y pc ls (.long z :: .long x :: st) μ Q := by
  obtain ⟨hd, rfl⟩ := h
  intro Γ p l e s m args below meth c H locs lsA C hl hP hS
  exact lv_ldiv C.1 C.2.1 hd hz (k Γ p l e s m args below meth c H locs lsA C hl hP hS)
theorem GG.lrem {x z : Int64} (h : gD y pc .lrem 1 pc') (hz : ¬ z = 0) (k : GG d y pc' ls (.long (x - x / z * z) :: st) μ Q) : GG d y pc ls (.long z :: .long x :: st) μ Q := by
  obtain ⟨hd, rfl⟩ := h
  intro Γ p l e s m args below meth c H locs lsA C hl hP hS
  exact lv_lrem C.1 C.2.1 hd hz (k Γ p l e s m args below meth c H locs lsA C hl hP hS)
theorem GG.lcmp {x z : Int64} (h : gD y pc .lcmp 1 pc') (k : GG d y pc' ls (.int (lg_cmp x z) :: st) μ Q) : GG d y pc ls (.long z :: .long x :: st) μ Q := by
  obtain ⟨hd, rfl⟩ := h
  intro Γ p l e s m args below meth c H locs lsA C hl hP hS
  exact W.lcmp C.1 C.2.1 hd (k Γ p l e s m args below meth c H locs lsA C hl hP hS)
theorem GG.i2l {x : Int32} (h : gD y pc .i2l 1 pc') (k : GG d y pc' ls (.long x.toInt64 :: st) μ Q) : GG d y pc ls (.int x :: st) μ Q := by
  obtain ⟨hd, rfl⟩ := h
  intro Γ p l e s m args below meth c H locs lsA C hl hP hS
  exact lv_i2l C.1 C.2.1 hd rfl (k Γ p l e s m args below meth c H locs lsA C hl hP hS)
theorem GG.l2i {x : Int64} (h : gD y pc .l2i 1 pc') (k : GG d y pc' ls (.int x.toInt32 :: st) μ Q) : GG d y pc ls (.long x :: st) μ Q := by
  obtain ⟨hd, rfl⟩ := h
  intro Γ p l e s m args below meth c H locs lsA C hl hP hS
  exact lv_l2i C.1 C.2.1 hd rfl (k Γ p l e s m args below meth c H locs lsA C hl hP hS)
theorem GG.dup {v : Value} (h : gD y pc .dup 1 pc') (hv : v.category = 1) (k : GG d y pc' ls (v :: v :: st) μ Q) : GG d y pc ls (v :: st) μ Q := by
  obtain ⟨hd, rfl⟩ := h
  intro Γ p l e s m args below meth c H locs lsA C hl hP hS
  exact lv_dup C.1 C.2.1 hd ((gv_cat C.2.2.2.2.2.2.2.2.1 v).trans hv) (k Γ p l e s m args below meth c H locs lsA C hl hP hS)
theorem GG.pop {v : Value} (h : gD y pc .pop 1 pc') (hv : v.category = 1) (k : GG d y pc' ls (st) μ Q) : GG d y pc ls (v :: st) μ Q := by
  obtain ⟨hd, rfl⟩ := h
  intro Γ p l e s m args below meth c H locs lsA C hl hP hS
  exact lv_pop C.1 C.2.1 hd ((gv_cat C.2.2.2.2.2.2.2.2.1 v).trans hv) (k Γ p l e s m args below meth c H locs lsA C hl hP hS)
theorem GG.dup2 {v w : Value} (h : gD y pc .dup2 1 pc') (hv : v.category = 1) (hw : w.category = 1) (k : GG d y pc' ls (v :: w :: v :: w :: st) μ Q) : GG d y pc ls (v :: w :: st) μ Q := by
  obtain ⟨hd, rfl⟩ := h
  intro Γ p l e s m args below meth c H locs lsA C hl hP hS
  exact lv_dup2_11 C.1 C.2.1 hd ((gv_cat C.2.2.2.2.2.2.2.2.1 v).trans hv) ((gv_cat C.2.2.2.2.2.2.2.2.1 w).trans hw) (k Γ p l e s m args below meth c H locs lsA C hl hP hS)
theorem gls_at {Γ : gC} {nL : Nat} {lsA : Array Slot} {i : Nat} {v : Value} (hl : lv_has lsA nL (gls Γ ls)) (j : Nat) (hj : ls[j]? = some (i, v)) : lsA[i]? = some (.val (gv Γ v)) :=
  lv_at hl j (by rw [gls, List.getElem?_map, hj]; rfl)
def gst (ls : List (Nat × Value)) (i : Nat) (v : Value) : List (Nat × Value) := (i, v) :: ls.filter (fun q => !(q.1 == i) && !(q.1 + 1 == i && q.2.category == 2))
def gst2 (ls : List (Nat × Value)) (i : Nat) (v : Value) : List (Nat × Value) := (i, v) :: ls.filter (fun q => !(q.1 == i) && (!(q.1 == i + 1) && !(q.1 + 1 == i && q.2.category == 2)))
theorem gst_map {Γ : gC} (hN : gN Γ) (i : Nat) (v : Value) : ((i, gv Γ v) :: (gls Γ ls).filter (fun q => !(q.1 == i) && !(q.1 + 1 == i && q.2.category == 2))) = gls Γ (gst ls i v) := by
  simp only [gls, gst, List.map_cons, List.filter_map]
  congr 2
  congr 1
  funext q
  simp only [Function.comp, gv_cat hN]
theorem gst2_map {Γ : gC} (hN : gN Γ) (i : Nat) (v : Value) : ((i, gv Γ v) :: (gls Γ ls).filter (fun q => !(q.1 == i) && (!(q.1 == i + 1) && !(q.1 + 1 == i && q.2.category == 2)))) = gls Γ (gst2 ls i v) := by
  simp only [gls, gst2, List.map_cons, List.filter_map]
  congr 2
  congr 1
  funext q
  simp only [Function.comp, gv_cat hN]
theorem GG.iload_n {k : Fin 4} {i : Nat} {x : Int32} (h : gD y pc (.iload_n k) 1 pc') (hi : (k : Nat) = i) (j : Nat) (hj : ls[j]? = some (i, .int x)) (k : GG d y pc' ls (.int x :: st) μ Q) : GG d y pc ls st μ Q := by
  obtain ⟨hd, rfl⟩ := h
  intro Γ p l e s m args below meth c H locs lsA C hl hP hS
  exact lv_iload_n C.1 C.2.1 hd hi (gls_at hl j hj) (k Γ p l e s m args below meth c H locs lsA C hl hP hS)
theorem GG.iload {i : Nat} {x : Int32} (h : gD y pc (.iload i) 2 pc') (j : Nat) (hj : ls[j]? = some (i, .int x)) (k : GG d y pc' ls (.int x :: st) μ Q) : GG d y pc ls st μ Q := by
  obtain ⟨hd, rfl⟩ := h
  intro Γ p l e s m args below meth c H locs lsA C hl hP hS
  exact lv_iload C.1 C.2.1 hd (gls_at hl j hj) (k Γ p l e s m args below meth c H locs lsA C hl hP hS)
theorem GG.lload_n {k : Fin 4} {i : Nat} {x : Int64} (h : gD y pc (.lload_n k) 1 pc') (hi : (k : Nat) = i) (j : Nat) (hj : ls[j]? = some (i, .long x)) (k : GG d y pc' ls (.long x :: st) μ Q) : GG d y pc ls st μ Q := by
  obtain ⟨hd, rfl⟩ := h
  intro Γ p l e s m args below meth c H locs lsA C hl hP hS
  exact lv_lload_n C.1 C.2.1 hd hi (gls_at hl j hj) (k Γ p l e s m args below meth c H locs lsA C hl hP hS)
theorem GG.lload {i : Nat} {x : Int64} (h : gD y pc (.lload i) 2 pc') (j : Nat) (hj : ls[j]? = some (i, .long x)) (k : GG d y pc' ls (.long x :: st) μ Q) : GG d y pc ls st μ Q := by
  obtain ⟨hd, rfl⟩ := h
  intro Γ p l e s m args below meth c H locs lsA C hl hP hS
  exact lv_lload C.1 C.2.1 hd (gls_at hl j hj) (k Γ p l e s m args below meth c H locs lsA C hl hP hS)
theorem GG.aload_n {k : Fin 4} {i : Nat} {x : Nat} (h : gD y pc (.aload_n k) 1 pc') (hi : (k : Nat) = i) (j : Nat) (hj : ls[j]? = some (i, .ref x)) (k : GG d y pc' ls (.ref x :: st) μ Q) : GG d y pc ls st μ Q := by
  obtain ⟨hd, rfl⟩ := h
  intro Γ p l e s m args below meth c H locs lsA C hl hP hS
  exact lv_aload_n C.1 C.2.1 hd hi (gls_at hl j hj) (k Γ p l e s m args below meth c H locs lsA C hl hP hS)
theorem GG.aload {i : Nat} {x : Nat} (h : gD y pc (.aload i) 2 pc') (j : Nat) (hj : ls[j]? = some (i, .ref x)) (k : GG d y pc' ls (.ref x :: st) μ Q) : GG d y pc ls st μ Q := by
  obtain ⟨hd, rfl⟩ := h
  intro Γ p l e s m args below meth c H locs lsA C hl hP hS
  exact lv_aload C.1 C.2.1 hd (gls_at hl j hj) (k Γ p l e s m args below meth c H locs lsA C hl hP hS)
theorem GG.istore_n {k : Fin 4} {i : Nat} {x : Int32} (h : gD y pc (.istore_n k) 1 pc') (hi : (k : Nat) = i) (hn : i < y.2.2.1) (he : gst ls i (.int x) = ls') (kk : GG d y pc' ls' st μ Q) : GG d y pc ls (.int x :: st) μ Q := by
  obtain ⟨hd, rfl⟩ := h
  subst he
  intro Γ p l e s m args below meth c H locs lsA C hl hP hS
  exact lv_istore_n C.1 C.2.1 hd hi hl hn (gst_map C.2.2.2.2.2.2.2.2.1 i (.int x)) (fun lsA hl => kk Γ p l e s m args below meth c H locs lsA C hl hP hS)
theorem GG.istore {i : Nat} {x : Int32} (h : gD y pc (.istore i) 2 pc') (hn : i < y.2.2.1) (he : gst ls i (.int x) = ls') (kk : GG d y pc' ls' st μ Q) : GG d y pc ls (.int x :: st) μ Q := by
  obtain ⟨hd, rfl⟩ := h
  subst he
  intro Γ p l e s m args below meth c H locs lsA C hl hP hS
  exact lv_istore C.1 C.2.1 hd hl hn (gst_map C.2.2.2.2.2.2.2.2.1 i (.int x)) (fun lsA hl => kk Γ p l e s m args below meth c H locs lsA C hl hP hS)
theorem GG.lstore_n {k : Fin 4} {i : Nat} {x : Int64} (h : gD y pc (.lstore_n k) 1 pc') (hi : (k : Nat) = i) (hn : i + 1 < y.2.2.1) (he : gst2 ls i (.long x) = ls') (kk : GG d y pc' ls' st μ Q) : GG d y pc ls (.long x :: st) μ Q := by
  obtain ⟨hd, rfl⟩ := h
  subst he
  intro Γ p l e s m args below meth c H locs lsA C hl hP hS
  exact lv_lstore_n C.1 C.2.1 hd hi hl hn (gst2_map C.2.2.2.2.2.2.2.2.1 i (.long x)) (fun lsA hl => kk Γ p l e s m args below meth c H locs lsA C hl hP hS)
theorem GG.lstore {i : Nat} {x : Int64} (h : gD y pc (.lstore i) 2 pc') (hn : i + 1 < y.2.2.1) (he : gst2 ls i (.long x) = ls') (kk : GG d y pc' ls' st μ Q) : GG d y pc ls (.long x :: st) μ Q := by
  obtain ⟨hd, rfl⟩ := h
  subst he
  intro Γ p l e s m args below meth c H locs lsA C hl hP hS
  exact lv_lstore C.1 C.2.1 hd hl hn (gst2_map C.2.2.2.2.2.2.2.2.1 i (.long x)) (fun lsA hl => kk Γ p l e s m args below meth c H locs lsA C hl hP hS)
theorem GG.astore_n {k : Fin 4} {i : Nat} {x : Nat} (h : gD y pc (.astore_n k) 1 pc') (hi : (k : Nat) = i) (hn : i < y.2.2.1) (he : gst ls i (.ref x) = ls') (kk : GG d y pc' ls' st μ Q) : GG d y pc ls (.ref x :: st) μ Q := by
  obtain ⟨hd, rfl⟩ := h
  subst he
  intro Γ p l e s m args below meth c H locs lsA C hl hP hS
  exact lv_astore_n C.1 C.2.1 hd hi hl hn (gst_map C.2.2.2.2.2.2.2.2.1 i (.ref x)) (fun lsA hl => kk Γ p l e s m args below meth c H locs lsA C hl hP hS)
theorem GG.astore {i : Nat} {x : Nat} (h : gD y pc (.astore i) 2 pc') (hn : i < y.2.2.1) (he : gst ls i (.ref x) = ls') (kk : GG d y pc' ls' st μ Q) : GG d y pc ls (.ref x :: st) μ Q := by
  obtain ⟨hd, rfl⟩ := h
  subst he
  intro Γ p l e s m args below meth c H locs lsA C hl hP hS
  exact lv_astore C.1 C.2.1 hd hl hn (gst_map C.2.2.2.2.2.2.2.2.1 i (.ref x)) (fun lsA hl => kk Γ p l e s m args below meth c H locs lsA C hl hP hS)
theorem GG.iinc {i : Nat} {n : Int} {x v : Int32} (h : gD y pc (.iinc i n) 3 pc') (j : Nat) (hj : ls[j]? = some (i, .int x)) (hv : x + Int32.ofInt n = v) (hn : i < y.2.2.1) (he : gst ls i (.int v) = ls') (kk : GG d y pc' ls' st μ Q) : GG d y pc ls st μ Q := by
  obtain ⟨hd, rfl⟩ := h
  subst he
  intro Γ p l e s m args below meth c H locs lsA C hl hP hS
  exact lv_iinc C.1 C.2.1 hd hl (k := j) (by rw [gls, List.getElem?_map, hj]; rfl) hv hn (gst_map C.2.2.2.2.2.2.2.2.1 i (.int v)) (fun lsA hl => kk Γ p l e s m args below meth c H locs lsA C hl hP hS)
theorem GG.goto {off : Int} {tgt : Nat} (h : gD y pc (.goto off) 3 pc') (ht : (pc : Int) + off = (tgt : Int)) (k : GG d y tgt ls st μ Q) : GG d y pc ls st μ Q := by
  intro Γ p l e s m args below meth c H locs lsA C hl hP hS
  exact lv_goto C.1 C.2.1 h.1 ht (k Γ p l e s m args below meth c H locs lsA C hl hP hS)
theorem GG.ifnull {a : Nat} {off : Int} (h : gD y pc (.ifnull off) 3 pc') (k : GG d y pc' ls st μ Q) : GG d y pc ls (.ref a :: st) μ Q := by
  obtain ⟨hd, rfl⟩ := h
  intro Γ p l e s m args below meth c H locs lsA C hl hP hS
  exact lv_ifnull C.1 C.2.1 hd (k Γ p l e s m args below meth c H locs lsA C hl hP hS)
theorem GG.ifnonnull {a : Nat} {off : Int} {tgt : Nat} (h : gD y pc (.ifnonnull off) 3 pc') (ht : (pc : Int) + off = (tgt : Int)) (k : GG d y tgt ls st μ Q) : GG d y pc ls (.ref a :: st) μ Q := by
  intro Γ p l e s m args below meth c H locs lsA C hl hP hS
  exact lv_ifnonnull C.1 C.2.1 h.1 ht (k Γ p l e s m args below meth c H locs lsA C hl hP hS)
theorem GG.tableIn {dflt lo hi : Int} {offs : Array Int} {len : Nat} {x : Int32} {off : Int} {tgt : Nat} (h : gD y pc (.tableswitch dflt lo hi offs) len pc') (h1 : ¬ x.toInt < lo) (h2 : ¬ hi < x.toInt) (ho : offs[(x.toInt - lo).toNat]? = some off) (ht : (pc : Int) + off = (tgt : Int)) (k : GG d y tgt ls st μ Q) : GG d y pc ls (.int x :: st) μ Q := by
  intro Γ p l e s m args below meth c H locs lsA C hl hP hS
  exact lv_tableIn C.1 C.2.1 h.1 h1 h2 ho ht (k Γ p l e s m args below meth c H locs lsA C hl hP hS)
theorem GG.tableOut {dflt lo hi : Int} {offs : Array Int} {len : Nat} {x : Int32} {tgt : Nat} (h : gD y pc (.tableswitch dflt lo hi offs) len pc') (h1 : x.toInt < lo ∨ hi < x.toInt) (ht : (pc : Int) + dflt = (tgt : Int)) (k : GG d y tgt ls st μ Q) : GG d y pc ls (.int x :: st) μ Q := by
  intro Γ p l e s m args below meth c H locs lsA C hl hP hS
  exact lv_tableOut C.1 C.2.1 h.1 h1 ht (k Γ p l e s m args below meth c H locs lsA C hl hP hS)
theorem GG.if_eq {x : Int32} {off : Int} {tgt : Nat} (h : gD y pc (.ifCond .eq off) 3 pc') (ht : (pc : Int) + off = (tgt : Int)) (kt : x = 0 → GG d y tgt ls st μ Q) (kf : ¬ x = 0 → GG d y pc' ls st μ Q) : GG d y pc ls (.int x :: st) μ Q := by
  obtain ⟨hd, rfl⟩ := h
  intro Γ p l e s m args below meth c H locs lsA C hl hP hS
  exact lv_if_eq C.1 C.2.1 hd ht (fun h => kt h Γ p l e s m args below meth c H locs lsA C hl hP hS) (fun h => kf h Γ p l e s m args below meth c H locs lsA C hl hP hS)
theorem GG.icmp_eq {x z : Int32} {off : Int} {tgt : Nat} (h : gD y pc (.if_icmp .eq off) 3 pc') (ht : (pc : Int) + off = (tgt : Int)) (kt : x = z → GG d y tgt ls st μ Q) (kf : ¬ x = z → GG d y pc' ls st μ Q) : GG d y pc ls (.int z :: .int x :: st) μ Q := by
  obtain ⟨hd, rfl⟩ := h
  intro Γ p l e s m args below meth c H locs lsA C hl hP hS
  exact lv_icmp_eq C.1 C.2.1 hd ht (fun h => kt h Γ p l e s m args below meth c H locs lsA C hl hP hS) (fun h => kf h Γ p l e s m args below meth c H locs lsA C hl hP hS)
theorem GG.if_ne {x : Int32} {off : Int} {tgt : Nat} (h : gD y pc (.ifCond .ne off) 3 pc') (ht : (pc : Int) + off = (tgt : Int)) (kt : ¬ x = 0 → GG d y tgt ls st μ Q) (kf : x = 0 → GG d y pc' ls st μ Q) : GG d y pc ls (.int x :: st) μ Q := by
  obtain ⟨hd, rfl⟩ := h
  intro Γ p l e s m args below meth c H locs lsA C hl hP hS
  exact lv_if_ne C.1 C.2.1 hd ht (fun h => kt h Γ p l e s m args below meth c H locs lsA C hl hP hS) (fun h => kf h Γ p l e s m args below meth c H locs lsA C hl hP hS)
theorem GG.icmp_ne {x z : Int32} {off : Int} {tgt : Nat} (h : gD y pc (.if_icmp .ne off) 3 pc') (ht : (pc : Int) + off = (tgt : Int)) (kt : ¬ x = z → GG d y tgt ls st μ Q) (kf : x = z → GG d y pc' ls st μ Q) : GG d y pc ls (.int z :: .int x :: st) μ Q := by
  obtain ⟨hd, rfl⟩ := h
  intro Γ p l e s m args below meth c H locs lsA C hl hP hS
  exact lv_icmp_ne C.1 C.2.1 hd ht (fun h => kt h Γ p l e s m args below meth c H locs lsA C hl hP hS) (fun h => kf h Γ p l e s m args below meth c H locs lsA C hl hP hS)
theorem GG.if_lt {x : Int32} {off : Int} {tgt : Nat} (h : gD y pc (.ifCond .lt off) 3 pc') (ht : (pc : Int) + off = (tgt : Int)) (kt : x < 0 → GG d y tgt ls st μ Q) (kf : ¬ x < 0 → GG d y pc' ls st μ Q) : GG d y pc ls (.int x :: st) μ Q := by
  obtain ⟨hd, rfl⟩ := h
  intro Γ p l e s m args below meth c H locs lsA C hl hP hS
  exact lv_if_lt C.1 C.2.1 hd ht (fun h => kt h Γ p l e s m args below meth c H locs lsA C hl hP hS) (fun h => kf h Γ p l e s m args below meth c H locs lsA C hl hP hS)
theorem GG.icmp_lt {x z : Int32} {off : Int} {tgt : Nat} (h : gD y pc (.if_icmp .lt off) 3 pc') (ht : (pc : Int) + off = (tgt : Int)) (kt : x < z → GG d y tgt ls st μ Q) (kf : ¬ x < z → GG d y pc' ls st μ Q) : GG d y pc ls (.int z :: .int x :: st) μ Q := by
  obtain ⟨hd, rfl⟩ := h
  intro Γ p l e s m args below meth c H locs lsA C hl hP hS
  exact lv_icmp_lt C.1 C.2.1 hd ht (fun h => kt h Γ p l e s m args below meth c H locs lsA C hl hP hS) (fun h => kf h Γ p l e s m args below meth c H locs lsA C hl hP hS)
theorem GG.if_ge {x : Int32} {off : Int} {tgt : Nat} (h : gD y pc (.ifCond .ge off) 3 pc') (ht : (pc : Int) + off = (tgt : Int)) (kt : 0 ≤ x → GG d y tgt ls st μ Q) (kf : ¬ 0 ≤ x → GG d y pc' ls st μ Q) : GG d y pc ls (.int x :: st) μ Q := by
  obtain ⟨hd, rfl⟩ := h
  intro Γ p l e s m args below meth c H locs lsA C hl hP hS
  exact lv_if_ge C.1 C.2.1 hd ht (fun h => kt h Γ p l e s m args below meth c H locs lsA C hl hP hS) (fun h => kf h Γ p l e s m args below meth c H locs lsA C hl hP hS)
theorem GG.icmp_ge {x z : Int32} {off : Int} {tgt : Nat} (h : gD y pc (.if_icmp .ge off) 3 pc') (ht : (pc : Int) + off = (tgt : Int)) (kt : z ≤ x → GG d y tgt ls st μ Q) (kf : ¬ z ≤ x → GG d y pc' ls st μ Q) : GG d y pc ls (.int z :: .int x :: st) μ Q := by
  obtain ⟨hd, rfl⟩ := h
  intro Γ p l e s m args below meth c H locs lsA C hl hP hS
  exact lv_icmp_ge C.1 C.2.1 hd ht (fun h => kt h Γ p l e s m args below meth c H locs lsA C hl hP hS) (fun h => kf h Γ p l e s m args below meth c H locs lsA C hl hP hS)
theorem GG.if_gt {x : Int32} {off : Int} {tgt : Nat} (h : gD y pc (.ifCond .gt off) 3 pc') (ht : (pc : Int) + off = (tgt : Int)) (kt : 0 < x → GG d y tgt ls st μ Q) (kf : ¬ 0 < x → GG d y pc' ls st μ Q) : GG d y pc ls (.int x :: st) μ Q := by
  obtain ⟨hd, rfl⟩ := h
  intro Γ p l e s m args below meth c H locs lsA C hl hP hS
  exact lv_if_gt C.1 C.2.1 hd ht (fun h => kt h Γ p l e s m args below meth c H locs lsA C hl hP hS) (fun h => kf h Γ p l e s m args below meth c H locs lsA C hl hP hS)
theorem GG.icmp_gt {x z : Int32} {off : Int} {tgt : Nat} (h : gD y pc (.if_icmp .gt off) 3 pc') (ht : (pc : Int) + off = (tgt : Int)) (kt : z < x → GG d y tgt ls st μ Q) (kf : ¬ z < x → GG d y pc' ls st μ Q) : GG d y pc ls (.int z :: .int x :: st) μ Q := by
  obtain ⟨hd, rfl⟩ := h
  intro Γ p l e s m args below meth c H locs lsA C hl hP hS
  exact lv_icmp_gt C.1 C.2.1 hd ht (fun h => kt h Γ p l e s m args below meth c H locs lsA C hl hP hS) (fun h => kf h Γ p l e s m args below meth c H locs lsA C hl hP hS)
theorem GG.if_le {x : Int32} {off : Int} {tgt : Nat} (h : gD y pc (.ifCond .le off) 3 pc') (ht : (pc : Int) + off = (tgt : Int)) (kt : x ≤ 0 → GG d y tgt ls st μ Q) (kf : ¬ x ≤ 0 → GG d y pc' ls st μ Q) : GG d y pc ls (.int x :: st) μ Q := by
  obtain ⟨hd, rfl⟩ := h
  intro Γ p l e s m args below meth c H locs lsA C hl hP hS
  exact lv_if_le C.1 C.2.1 hd ht (fun h => kt h Γ p l e s m args below meth c H locs lsA C hl hP hS) (fun h => kf h Γ p l e s m args below meth c H locs lsA C hl hP hS)
theorem GG.icmp_le {x z : Int32} {off : Int} {tgt : Nat} (h : gD y pc (.if_icmp .le off) 3 pc') (ht : (pc : Int) + off = (tgt : Int)) (kt : x ≤ z → GG d y tgt ls st μ Q) (kf : ¬ x ≤ z → GG d y pc' ls st μ Q) : GG d y pc ls (.int z :: .int x :: st) μ Q := by
  obtain ⟨hd, rfl⟩ := h
  intro Γ p l e s m args below meth c H locs lsA C hl hP hS
  exact lv_icmp_le C.1 C.2.1 hd ht (fun h => kt h Γ p l e s m args below meth c H locs lsA C hl hP hS) (fun h => kf h Γ p l e s m args below meth c H locs lsA C hl hP hS)
end RULES
