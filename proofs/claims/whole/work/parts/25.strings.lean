/-! STRING CONSTANTS: rules over them, length and charAt; the text's tokens -/
theorem kf_J0_38 : Cond.fieldLink RJ0 38 "java/lang/String" "COMPACT_STRINGS" "Z" ∈ gTbl := gTbl_in (List.mem_of_getElem? (i := 434) (by decide +kernel)) (by decide +kernel)
theorem kf_J0_1053 : Cond.fieldLink RJ0 1053 "jdk/internal/util/Preconditions" "SIOOBE_FORMATTER" "Ljava/util/function/BiFunction;" ∈ gTbl := gTbl_in (List.mem_of_getElem? (i := 450) (by decide +kernel)) (by decide +kernel)
theorem kf_J0_9 : Cond.fieldLink RJ0 9 "java/lang/String" "value" "[B" ∈ gTbl := gTbl_in (List.mem_of_getElem? (i := 1403) (by decide +kernel)) (by decide +kernel)
theorem kf_J0_15 : Cond.fieldLink RJ0 15 "java/lang/String" "coder" "B" ∈ gTbl := gTbl_in (List.mem_of_getElem? (i := 1404) (by decide +kernel)) (by decide +kernel)
section STR
variable {d d' pc pc' n idx i : Nat} {y Y : gMI} {ls ls' : List (Nat × Value)} {st : List Value} {μ : gM} {Q : Option Value → gM → Prop}
theorem GG.ldcS {tx : String} (h : gD y pc (.ldc idx) 2 pc') (hi : gTx[i]? = some (idx, tx)) (hy : y.1.cls = "LaneCymbals$Text") (kk : GG d y pc' ls (.ref (1000 + i) :: st) μ Q) : GG d y pc ls st μ Q := by
  obtain ⟨hd, rfl⟩ := h
  intro Γ p l e s m args below meth c H locs lsA C hlo hP hS
  exact va_ldcS C.1 C.2.1 (by rw [← hy]; exact C.2.2.2.2.1) (C.2.2.2.2.2.2.2.2.2.2.1 i (idx, tx) hi) hd (kk Γ p l e s m args below meth c H locs lsA C hlo hP hS)
theorem GG.getSv (hi : i < 5) (h : gD y pc (.getfield idx) 3 pc') (hl : Cond.fieldLink y.1.cls idx "java/lang/String" "value" "[B" ∈ gTbl) (kk : GG d y pc' ls (.ref (1100 + i) :: st) μ Q) : GG d y pc ls (.ref (1000 + i) :: st) μ Q := by
  obtain ⟨hd, rfl⟩ := h
  intro Γ p l e s m args below meth c H locs lsA C hlo hP hS
  exact vk_getf C.1 C.2.1 (C.2.2.2.2.2.2.2.2.2.1.1 i hi).2.2.1 hS C.2.2.2.2.1 (C.2.2.2.2.2.1 _ hl) (fun _ z => z) hd (kk Γ p l e s m args below meth c H locs lsA C hlo hP hS)
theorem GG.getSc (hi : i < 5) (h : gD y pc (.getfield idx) 3 pc') (hl : Cond.fieldLink y.1.cls idx "java/lang/String" "coder" "B" ∈ gTbl) (kk : GG d y pc' ls (.int 0 :: st) μ Q) : GG d y pc ls (.ref (1000 + i) :: st) μ Q := by
  obtain ⟨hd, rfl⟩ := h
  intro Γ p l e s m args below meth c H locs lsA C hlo hP hS
  exact vk_getf C.1 C.2.1 (C.2.2.2.2.2.2.2.2.2.1.1 i hi).2.1 hS C.2.2.2.2.1 (C.2.2.2.2.2.1 _ hl) (fun _ z => z) hd (kk Γ p l e s m args below meth c H locs lsA C hlo hP hS)
theorem GG.alenS (hi : i < 5) (h : gD y pc .arraylength 1 pc') (kk : GG d y pc' ls (.int (nI (gLen.getD i 0)) :: st) μ Q) : GG d y pc ls (.ref (1100 + i) :: st) μ Q := by
  obtain ⟨hd, rfl⟩ := h
  intro Γ p l e s m args below meth c H locs lsA C hlo hP hS
  exact va_tlen C.1 C.2.1 (C.2.2.2.2.2.2.2.2.2.1.1 i hi).2.2.2 hS rfl hd (kk Γ p l e s m args below meth c H locs lsA C hlo hP hS)
theorem GG.baldS {j : Int32} (hi : i < 5) (h : gD y pc .baload 1 pc') (hj : vp_in j (gLen.getD i 0)) (kk : GG d y pc' ls (.int ((gByt.getD i []).getD j.toNatClampNeg 0) :: st) μ Q) : GG d y pc ls (.int j :: .ref (1100 + i) :: st) μ Q := by
  obtain ⟨hd, rfl⟩ := h
  intro Γ p l e s m args below meth c H locs lsA C hlo hP hS
  exact va_tb C.1 C.2.1 (C.2.2.2.2.2.2.2.2.2.1.1 i hi).2.2.2 hS hj rfl hd (kk Γ p l e s m args below meth c H locs lsA C hlo hP hS)
theorem GG.getZ (h : gD y pc (.getstatic idx) 3 pc') (hl : Cond.fieldLink y.1.cls idx "java/lang/String" "COMPACT_STRINGS" "Z" ∈ gTbl) (kk : GG d y pc' ls (.int 1 :: st) μ Q) : GG d y pc ls st μ Q := by
  obtain ⟨hd, rfl⟩ := h
  intro Γ p l e s m args below meth c H locs lsA C hlo hP hS
  exact va_gets C.1 C.2.1 C.2.2.2.2.2.2.2.2.2.2.2.1 hS C.2.2.2.2.1 (C.2.2.2.2.2.1 _ hl) (fun _ z => z) hd (kk Γ p l e s m args below meth c H locs lsA C hlo hP hS)
theorem GG.getF (h : gD y pc (.getstatic idx) 3 pc') (hl : Cond.fieldLink y.1.cls idx "jdk/internal/util/Preconditions" "SIOOBE_FORMATTER" "Ljava/util/function/BiFunction;" ∈ gTbl) (kk : GG d y pc' ls (.float 0 :: st) μ Q) : GG d y pc ls st μ Q := by
  obtain ⟨hd, rfl⟩ := h
  intro Γ p l e s m args below meth c H locs lsA C hlo hP hS
  exact va_gets C.1 C.2.1 C.2.2.2.2.2.2.2.2.2.2.2.2.1 hS C.2.2.2.2.1 (C.2.2.2.2.2.1 _ hl) (fun _ z => z) hd (kk Γ p l e s m args below meth c H locs lsA C hlo hP hS)
theorem GG.i2c {x : Int32} (h : gD y pc .i2c 1 pc') (kk : GG d y pc' ls (.int (x.toUInt32 % 65536).toInt32 :: st) μ Q) : GG d y pc ls (.int x :: st) μ Q := by
  obtain ⟨hd, rfl⟩ := h
  intro Γ p l e s m args below meth c H locs lsA C hlo hP hS
  exact lv_i2c C.1 C.2.1 hd rfl (kk Γ p l e s m args below meth c H locs lsA C hlo hP hS)
theorem GG.callVS (hi : i < 5) {as : List Value} {st0 : List Value} (h : gD y pc (.invokevirtual idx) 3 pc') (hlink : Cond.methodLink y.1.cls idx Y.1 ∈ gTbl) (hf : gMf Y n) (hv : gMv Y) (hY : Y.1.cls = "java/lang/String") (hn : as.length = n) (hd : d' < d) (hst : (st.map fun v => v.category).sum ≤ 8) (he : as.reverse ++ .ref (1000 + i) :: st = st0) (hs : SPC d' Y (.ref (1000 + i) :: as) μ (fun r ν => GG d y pc' ls (gpush r st) ν Q)) : GG d y pc ls st0 μ Q := by
  obtain ⟨hdg, rfl⟩ := h
  subst he
  intro Γ p l e s m args below meth c H locs lsA C hlo hP hS
  rw [List.map_append, List.map_cons, List.map_reverse]
  refine gCallV C.1 C.2.1 C.2.2.2.1 C.2.2.2.2.1 C.2.2.2.2.2.1 C.2.2.2.2.2.2.2.1 C.2.2.2.2.2.2.2.2.1 (C.2.2.2.2.2.2.2.2.2.kept hS.2.1) hP hS (fun _ z => z) hlo.1 hlink hf hv (by rw [hY]; exact vk_recv (adK := fun i => Γ.2.1 (1000 + i)) (i := i) C.2.2.2.2.2.2.2.2.2.1 hi hS) hn hs ⟨hd, by show 40 * d' + 40 ≤ 40 * d; omega⟩ (by rw [gcat_sum C.2.2.2.2.2.2.2.2.1]; exact hst) hdg ⟨Nat.zero_le _, Nat.zero_le _⟩ (fun r ν H1 locs1 hq hP1 hS1 _ _ _ => ?_)
  rw [gpush_map]
  exact hq Γ p l e s m args below meth c H1 locs1 lsA C hlo hP1 hS1
end STR
section S25
variable {μ ν : gM} {Q : Option Value → gM → Prop} {i k : Nat} {x z : Int32}
theorem s_J0_coder_7d493 (hi : i < 5) (hQ : Q (some (.int 0)) μ) : SPC 0 MJ0_coder_7d493 [.ref (1000 + i)] μ Q := by
  refine SPC.of (by decide +kernel) (Nat.le_of_ble_eq_true rfl) (ls := [(0, .ref (1000 + i))]) rfl ?_
  refine GG.getZ e_J0_coder_7d493_0 kf_J0_38 ?_
  refine GG.if_eq (tgt := 13) e_J0_coder_7d493_3 rfl (fun h3 => absurd h3 (by decide)) (fun h3 => ?_)
  refine GG.aload_n e_J0_coder_7d493_6 (i := 0) rfl 0 rfl ?_
  refine GG.getSc hi e_J0_coder_7d493_7 kf_J0_15 ?_
  refine GG.goto (tgt := 14) e_J0_coder_7d493_10 rfl ?_
  refine GG.zret e_J0_coder_7d493_14 rfl rfl rfl ?_
  exact hQ
theorem s_J0_isLatin1_aae02 (hi : i < 5) (hQ : Q (some (.int 1)) μ) : SPC 0 MJ0_isLatin1_aae02 [.ref (1000 + i)] μ Q := by
  refine SPC.of (by decide +kernel) (Nat.le_of_ble_eq_true rfl) (ls := [(0, .ref (1000 + i))]) rfl ?_
  refine GG.getZ e_J0_isLatin1_aae02_0 kf_J0_38 ?_
  refine GG.if_eq (tgt := 17) e_J0_isLatin1_aae02_3 rfl (fun h3 => absurd h3 (by decide)) (fun h3 => ?_)
  refine GG.aload_n e_J0_isLatin1_aae02_6 (i := 0) rfl 0 rfl ?_
  refine GG.getSc hi e_J0_isLatin1_aae02_7 kf_J0_15 ?_
  refine GG.if_ne (tgt := 17) e_J0_isLatin1_aae02_10 rfl (fun h10 => absurd h10 (by decide)) (fun h10 => ?_)
  refine GG.iconst (v := 1) e_J0_isLatin1_aae02_13 rfl ?_
  refine GG.goto (tgt := 18) e_J0_isLatin1_aae02_14 rfl ?_
  refine GG.zret e_J0_isLatin1_aae02_18 rfl rfl rfl ?_
  exact hQ
theorem gLen_s : ∀ i, i < 5 → nI (gLen.getD i 0) >>> ((0 : Int32) &&& 31) = nI (gLen.getD i 0) ∧ gLen.getD i 0 ≤ 6 := by decide +kernel
theorem gChr_s : ∀ i, i < 5 → ∀ k, k < 6 → ((((gByt.getD i []).getD k 0) &&& 255).toUInt32 % 65536).toInt32 = (gByt.getD i []).getD k 0 ∧ narrow .char (.int ((gByt.getD i []).getD k 0)) = .int ((gByt.getD i []).getD k 0) := by decide +kernel
theorem s_J0_length_8abf5 (hi : i < 5) (hQ : Q (some (.int (nI (gLen.getD i 0)))) μ) : SPC 1 MJ0_length_8abf5 [.ref (1000 + i)] μ Q := by
  refine SPC.of (by decide +kernel) (Nat.le_of_ble_eq_true rfl) (ls := [(0, .ref (1000 + i))]) rfl ?_
  refine GG.aload_n e_J0_length_8abf5_0 (i := 0) rfl 0 rfl ?_
  refine GG.getSv hi e_J0_length_8abf5_1 kf_J0_9 ?_
  refine GG.alenS hi e_J0_length_8abf5_4 ?_
  refine GG.aload_n e_J0_length_8abf5_5 (i := 0) rfl 0 rfl ?_
  refine GG.callVS hi (d' := 0) (as := []) e_J0_length_8abf5_6 ml_J0_335 mf_J0_coder_7d493 mv_J0_coder_7d493 rfl rfl (by decide) (Nat.le_of_ble_eq_true rfl) rfl ?_
  refine s_J0_coder_7d493 hi ?_
  refine GG.ishr e_J0_length_8abf5_9 ?_
  refine GG.iret e_J0_length_8abf5_10 rfl rfl ?_
  exact qI hQ (gLen_s i hi).1
theorem s_J3_checkIndex_8e157 (hx : ¬ x < 0) (hz : x < z) (hQ : Q (some (.int x)) μ) : SPC 0 MJ3_checkIndex_8e157 [.int x, .int z, .float 0] μ Q := by
  refine SPC.of (by decide +kernel) (Nat.le_of_ble_eq_true rfl) (ls := [(0, .int (x)), (1, .int (z)), (2, .float (0))]) rfl ?_
  refine GG.iload_n e_J3_checkIndex_8e157_0 (i := 0) rfl 0 rfl ?_
  refine GG.if_lt (tgt := 9) e_J3_checkIndex_8e157_1 rfl (fun h1 => absurd h1 (by exact hx)) (fun h1 => ?_)
  refine GG.iload_n e_J3_checkIndex_8e157_4 (i := 0) rfl 0 rfl ?_
  refine GG.iload_n e_J3_checkIndex_8e157_5 (i := 1) rfl 1 rfl ?_
  refine GG.icmp_lt (tgt := 16) e_J3_checkIndex_8e157_6 rfl (fun h6 => ?_) (fun h6 => absurd h6 (by exact fun q => q hz))
  refine GG.iload_n e_J3_checkIndex_8e157_16 (i := 0) rfl 0 rfl ?_
  refine GG.iret e_J3_checkIndex_8e157_17 rfl rfl ?_
  exact hQ
theorem s_J0_checkIndex_df160 (hx : ¬ x < 0) (hz : x < z) (hQ : Q none μ) : SPC 1 MJ0_checkIndex_df160 [.int x, .int z] μ Q := by
  refine SPC.of (by decide +kernel) (Nat.le_of_ble_eq_true rfl) (ls := [(0, .int (x)), (1, .int (z))]) rfl ?_
  refine GG.iload_n e_J0_checkIndex_df160_0 (i := 0) rfl 0 rfl ?_
  refine GG.iload_n e_J0_checkIndex_df160_1 (i := 1) rfl 1 rfl ?_
  refine GG.getF e_J0_checkIndex_df160_2 kf_J0_1053 ?_
  refine GG.callS (d' := 0) (as := [.int _, .int _, .float 0]) e_J0_checkIndex_df160_5 ml_J0_1059 mf_J3_checkIndex_8e157 ms_J3_checkIndex_8e157 rfl (by decide) (Nat.le_of_ble_eq_true rfl) rfl ?_
  refine s_J3_checkIndex_8e157 hx hz ?_
  refine GG.pop e_J0_checkIndex_df160_8 rfl ?_
  refine GG.vret e_J0_checkIndex_df160_9 rfl rfl ?_
  exact hQ
theorem s_J1_charAt_3b067 (hi : i < 5) (hk : k < gLen.getD i 0) (hQ : Q (some (.int ((gByt.getD i []).getD k 0))) μ) : SPC 2 MJ1_charAt_3b067 [.ref (1100 + i), .int (nI k)] μ Q := by
  have h6 := (gLen_s i hi).2
  have hc := gChr_s i hi k (by omega)
  refine SPC.of (by decide +kernel) (Nat.le_of_ble_eq_true rfl) (ls := [(0, .ref (1100 + i)), (1, .int (nI k))]) rfl ?_
  refine GG.iload_n e_J1_charAt_3b067_0 (i := 1) rfl 1 rfl ?_
  refine GG.aload_n e_J1_charAt_3b067_1 (i := 0) rfl 0 rfl ?_
  refine GG.alenS hi e_J1_charAt_3b067_2 ?_
  refine GG.callS (d' := 1) (as := [.int _, .int _]) e_J1_charAt_3b067_3 ml_J1_9 mf_J0_checkIndex_df160 ms_J0_checkIndex_df160 rfl (by decide) (Nat.le_of_ble_eq_true rfl) rfl ?_
  refine s_J0_checkIndex_df160 (nI_pos (by omega)) (nI_lt hk (by omega)) ?_
  refine GG.aload_n e_J1_charAt_3b067_6 (i := 0) rfl 0 rfl ?_
  refine GG.iload_n e_J1_charAt_3b067_7 (i := 1) rfl 1 rfl ?_
  refine GG.baldS hi e_J1_charAt_3b067_8 (vp_in_nI hk (by omega)) ?_
  rw [nI_clamp (by omega)]
  refine GG.sipush (v := 255) e_J1_charAt_3b067_9 rfl ?_
  refine GG.iand e_J1_charAt_3b067_12 ?_
  refine GG.i2c e_J1_charAt_3b067_13 ?_
  refine GG.top hc.1 ?_
  refine GG.zret e_J1_charAt_3b067_14 rfl hc.2 rfl ?_
  exact hQ
theorem s_J0_charAt_5068e (hi : i < 5) (hk : k < gLen.getD i 0) (hQ : Q (some (.int ((gByt.getD i []).getD k 0))) μ) : SPC 4 MJ0_charAt_5068e [.ref (1000 + i), .int (nI k)] μ Q := by
  have h6 := (gLen_s i hi).2
  have hc := gChr_s i hi k (by omega)
  refine SPC.of (by decide +kernel) (Nat.le_of_ble_eq_true rfl) (ls := [(0, .ref (1000 + i)), (1, .int (nI k))]) rfl ?_
  refine GG.aload_n e_J0_charAt_5068e_0 (i := 0) rfl 0 rfl ?_
  refine GG.callVS hi (d' := 0) (as := []) e_J0_charAt_5068e_1 ml_J0_492 mf_J0_isLatin1_aae02 mv_J0_isLatin1_aae02 rfl rfl (by decide) (Nat.le_of_ble_eq_true rfl) rfl ?_
  refine s_J0_isLatin1_aae02 hi ?_
  refine GG.if_eq (tgt := 16) e_J0_charAt_5068e_4 rfl (fun h4 => absurd h4 (by decide)) (fun h4 => ?_)
  refine GG.aload_n e_J0_charAt_5068e_7 (i := 0) rfl 0 rfl ?_
  refine GG.getSv hi e_J0_charAt_5068e_8 kf_J0_9 ?_
  refine GG.iload_n e_J0_charAt_5068e_11 (i := 1) rfl 1 rfl ?_
  refine GG.callS (d' := 2) (as := [.ref (1100+i), .int _]) e_J0_charAt_5068e_12 ml_J0_495 mf_J1_charAt_3b067 ms_J1_charAt_3b067 rfl (by decide) (Nat.le_of_ble_eq_true rfl) rfl ?_
  refine s_J1_charAt_3b067 hi hk ?_
  refine GG.zret e_J0_charAt_5068e_15 rfl hc.2 rfl ?_
  exact hQ
theorem s_X7_byteAt (hk : k < 150) (hQ : Q (some (.int (mrd μ 47 k))) μ) : SPC 0 MX7_byteAt [.ref 46, .int (nI k)] μ Q := by
  refine SPC.of (by decide +kernel) (Nat.le_of_ble_eq_true rfl) (ls := [(0, .ref (46)), (1, .int (nI k))]) rfl ?_
  refine GG.iload_n e_X7_byteAt_0 (i := 1) rfl 1 rfl ?_
  refine GG.if_lt (tgt := 20) e_X7_byteAt_1 rfl (fun h1 => absurd h1 (by exact nI_pos (by omega))) (fun h1 => ?_)
  refine GG.iload_n e_X7_byteAt_4 (i := 1) rfl 1 rfl ?_
  refine GG.sipush (v := 150) e_X7_byteAt_5 rfl ?_
  refine GG.icmp_ge (tgt := 20) e_X7_byteAt_8 rfl (fun h8 => absurd h8 (by exact nI_ge (b := 150) hk (by omega))) (fun h8 => ?_)
  refine GG.aload_n e_X7_byteAt_11 (i := 0) rfl 0 rfl ?_
  refine GG.getR (b := 47) e_X7_byteAt_12 fl_X7_9 (sf_X7_1 i_X7_46) ?_
  refine GG.iload_n e_X7_byteAt_15 (i := 1) rfl 1 rfl ?_
  refine GG.ialoadE (k := _) e_X7_byteAt_16 (sa_X7_1 i_X7_46) (rfl) (by omega) (Nat.le_of_ble_eq_true rfl) ?_
  refine GG.goto (tgt := 21) e_X7_byteAt_17 rfl ?_
  refine GG.iret e_X7_byteAt_21 rfl rfl ?_
  exact hQ
end S25
