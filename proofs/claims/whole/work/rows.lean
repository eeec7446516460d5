section
-- ===== PART A: goes FIRST, ahead of the names: the tables' words, and 'selects' of the private methods out of them =====
/-- a private method of a class that the tables say can be made, by its rows of tables_1 -/
def lw_okq (q : MethodName × Nat) : Prop := (q.1.cls ≠ "java/lang/invoke/MethodHandle" ∧ q.1.cls ≠ "java/lang/invoke/VarHandle") ∧ Cond.instantiable q.1.cls q.2 ∈ tables_1 ∧ Cond.privateMethod q.1 ∈ tables_1 ∧ Cond.instanceMethod q.1 ∈ tables_1
theorem lw_p0 : lw_okq (⟨"LaneCymbals", "refuseBad", "(I)I"⟩, 13) := ⟨⟨by decide +kernel, by decide +kernel⟩, List.mem_of_getElem? (i := 20) (by decide +kernel), List.mem_of_getElem? (i := 272) (by decide +kernel), List.mem_of_getElem? (i := 273) (by decide +kernel)⟩
theorem lw_p1 : lw_okq (⟨"LaneCymbals", "refuseFull", "()I"⟩, 13) := ⟨⟨by decide +kernel, by decide +kernel⟩, List.mem_of_getElem? (i := 20) (by decide +kernel), List.mem_of_getElem? (i := 315) (by decide +kernel), List.mem_of_getElem? (i := 316) (by decide +kernel)⟩
theorem lw_p2 : lw_okq (⟨"LaneCymbals$Text", "nextToken", "()V"⟩, 6) := ⟨⟨by decide +kernel, by decide +kernel⟩, List.mem_of_getElem? (i := 141) (by decide +kernel), List.mem_of_getElem? (i := 349) (by decide +kernel), List.mem_of_getElem? (i := 350) (by decide +kernel)⟩
theorem lw_p3 : lw_okq (⟨"LaneCymbals$Text", "byteAt", "(I)I"⟩, 6) := ⟨⟨by decide +kernel, by decide +kernel⟩, List.mem_of_getElem? (i := 141) (by decide +kernel), List.mem_of_getElem? (i := 353) (by decide +kernel), List.mem_of_getElem? (i := 354) (by decide +kernel)⟩
theorem lw_p4 : lw_okq (⟨"LaneCymbals$Text", "wordHere", "()I"⟩, 6) := ⟨⟨by decide +kernel, by decide +kernel⟩, List.mem_of_getElem? (i := 141) (by decide +kernel), List.mem_of_getElem? (i := 360) (by decide +kernel), List.mem_of_getElem? (i := 361) (by decide +kernel)⟩
theorem lw_p5 : lw_okq (⟨"LaneCymbals$Text", "wordIs", "(Ljava/lang/String;)Z"⟩, 6) := ⟨⟨by decide +kernel, by decide +kernel⟩, List.mem_of_getElem? (i := 141) (by decide +kernel), List.mem_of_getElem? (i := 365) (by decide +kernel), List.mem_of_getElem? (i := 366) (by decide +kernel)⟩
theorem lw_p6 : lw_okq (⟨"LaneCymbals$Text", "readNumbers", "(ILLaneCymbals$Lane;)Z"⟩, 6) := ⟨⟨by decide +kernel, by decide +kernel⟩, List.mem_of_getElem? (i := 141) (by decide +kernel), List.mem_of_getElem? (i := 424) (by decide +kernel), List.mem_of_getElem? (i := 425) (by decide +kernel)⟩
theorem lw_p7 : lw_okq (⟨"LaneCymbals$Text", "takeNumber", "(III)Z"⟩, 6) := ⟨⟨by decide +kernel, by decide +kernel⟩, List.mem_of_getElem? (i := 141) (by decide +kernel), List.mem_of_getElem? (i := 428) (by decide +kernel), List.mem_of_getElem? (i := 429) (by decide +kernel)⟩
theorem lw_p8 : lw_okq (⟨"LaneCymbals$Text", "takeSemicolon", "()Z"⟩, 6) := ⟨⟨by decide +kernel, by decide +kernel⟩, List.mem_of_getElem? (i := 141) (by decide +kernel), List.mem_of_getElem? (i := 432) (by decide +kernel), List.mem_of_getElem? (i := 433) (by decide +kernel)⟩
theorem lw_p9 : lw_okq (⟨"LaneCymbals$Text", "carryOut", "(ILLaneCymbals$Lane;)V"⟩, 6) := ⟨⟨by decide +kernel, by decide +kernel⟩, List.mem_of_getElem? (i := 141) (by decide +kernel), List.mem_of_getElem? (i := 436) (by decide +kernel), List.mem_of_getElem? (i := 437) (by decide +kernel)⟩
theorem lw_p10 : lw_okq (⟨"LaneCymbals$Past", "dropOldest", "()V"⟩, 2) := ⟨⟨by decide +kernel, by decide +kernel⟩, List.mem_of_getElem? (i := 106) (by decide +kernel), List.mem_of_getElem? (i := 498) (by decide +kernel), List.mem_of_getElem? (i := 499) (by decide +kernel)⟩
theorem lw_p11 : lw_okq (⟨"LaneCymbals", "refuseNo", "()I"⟩, 13) := ⟨⟨by decide +kernel, by decide +kernel⟩, List.mem_of_getElem? (i := 20) (by decide +kernel), List.mem_of_getElem? (i := 516) (by decide +kernel), List.mem_of_getElem? (i := 517) (by decide +kernel)⟩
theorem lw_p12 : lw_okq (⟨"LaneCymbals$Wedding", "firstChoice", "(III)I"⟩, 3) := ⟨⟨by decide +kernel, by decide +kernel⟩, List.mem_of_getElem? (i := 208) (by decide +kernel), List.mem_of_getElem? (i := 676) (by decide +kernel), List.mem_of_getElem? (i := 677) (by decide +kernel)⟩
theorem lw_p13 : lw_okq (⟨"LaneCymbals", "added", "(LLaneCymbals$Rows;Z)I"⟩, 13) := ⟨⟨by decide +kernel, by decide +kernel⟩, List.mem_of_getElem? (i := 20) (by decide +kernel), List.mem_of_getElem? (i := 694) (by decide +kernel), List.mem_of_getElem? (i := 695) (by decide +kernel)⟩
theorem lw_p14 : lw_okq (⟨"LaneCymbals$Trial", "fits", "(LLaneCymbals$Rows;)Z"⟩, 2) := ⟨⟨by decide +kernel, by decide +kernel⟩, List.mem_of_getElem? (i := 182) (by decide +kernel), List.mem_of_getElem? (i := 706) (by decide +kernel), List.mem_of_getElem? (i := 707) (by decide +kernel)⟩
theorem lw_p15 : lw_okq (⟨"LaneCymbals$Guess", "mostAlike", "(I)I"⟩, 1) := ⟨⟨by decide +kernel, by decide +kernel⟩, List.mem_of_getElem? (i := 198) (by decide +kernel), List.mem_of_getElem? (i := 768) (by decide +kernel), List.mem_of_getElem? (i := 769) (by decide +kernel)⟩
def lw_privs_1 : List (MethodName × Nat) := [(⟨"LaneCymbals", "refuseBad", "(I)I"⟩, 13), (⟨"LaneCymbals", "refuseFull", "()I"⟩, 13), (⟨"LaneCymbals$Text", "nextToken", "()V"⟩, 6), (⟨"LaneCymbals$Text", "byteAt", "(I)I"⟩, 6), (⟨"LaneCymbals$Text", "wordHere", "()I"⟩, 6), (⟨"LaneCymbals$Text", "wordIs", "(Ljava/lang/String;)Z"⟩, 6), (⟨"LaneCymbals$Text", "readNumbers", "(ILLaneCymbals$Lane;)Z"⟩, 6), (⟨"LaneCymbals$Text", "takeNumber", "(III)Z"⟩, 6), (⟨"LaneCymbals$Text", "takeSemicolon", "()Z"⟩, 6), (⟨"LaneCymbals$Text", "carryOut", "(ILLaneCymbals$Lane;)V"⟩, 6), (⟨"LaneCymbals$Past", "dropOldest", "()V"⟩, 2), (⟨"LaneCymbals", "refuseNo", "()I"⟩, 13), (⟨"LaneCymbals$Wedding", "firstChoice", "(III)I"⟩, 3), (⟨"LaneCymbals", "added", "(LLaneCymbals$Rows;Z)I"⟩, 13), (⟨"LaneCymbals$Trial", "fits", "(LLaneCymbals$Rows;)Z"⟩, 2), (⟨"LaneCymbals$Guess", "mostAlike", "(I)I"⟩, 1)]
theorem lw_r1 : ∀ q ∈ lw_privs_1, lw_okq q := List.forall_mem_cons.mpr ⟨lw_p0, List.forall_mem_cons.mpr ⟨lw_p1, List.forall_mem_cons.mpr ⟨lw_p2, List.forall_mem_cons.mpr ⟨lw_p3, List.forall_mem_cons.mpr ⟨lw_p4, List.forall_mem_cons.mpr ⟨lw_p5, List.forall_mem_cons.mpr ⟨lw_p6, List.forall_mem_cons.mpr ⟨lw_p7, List.forall_mem_cons.mpr ⟨lw_p8, List.forall_mem_cons.mpr ⟨lw_p9, List.forall_mem_cons.mpr ⟨lw_p10, List.forall_mem_cons.mpr ⟨lw_p11, List.forall_mem_cons.mpr ⟨lw_p12, List.forall_mem_cons.mpr ⟨lw_p13, List.forall_mem_cons.mpr ⟨lw_p14, List.forall_mem_cons.mpr ⟨lw_p15, fun _ h => absurd h List.not_mem_nil⟩⟩⟩⟩⟩⟩⟩⟩⟩⟩⟩⟩⟩⟩⟩⟩
theorem lw_p16 : lw_okq (⟨"LaneCymbals$Trial", "rests", "(I)Z"⟩, 2) := ⟨⟨by decide +kernel, by decide +kernel⟩, List.mem_of_getElem? (i := 182) (by decide +kernel), List.mem_of_getElem? (i := 804) (by decide +kernel), List.mem_of_getElem? (i := 805) (by decide +kernel)⟩
theorem lw_p17 : lw_okq (⟨"LaneCymbals$Trial", "swingerGets", "(I)I"⟩, 2) := ⟨⟨by decide +kernel, by decide +kernel⟩, List.mem_of_getElem? (i := 182) (by decide +kernel), List.mem_of_getElem? (i := 808) (by decide +kernel), List.mem_of_getElem? (i := 809) (by decide +kernel)⟩
theorem lw_p18 : lw_okq (⟨"LaneCymbals$Trial", "soundOfPair", "(I)I"⟩, 2) := ⟨⟨by decide +kernel, by decide +kernel⟩, List.mem_of_getElem? (i := 182) (by decide +kernel), List.mem_of_getElem? (i := 812) (by decide +kernel), List.mem_of_getElem? (i := 813) (by decide +kernel)⟩
theorem lw_p19 : lw_okq (⟨"LaneCymbals$Trial", "auntGets", "(I)I"⟩, 2) := ⟨⟨by decide +kernel, by decide +kernel⟩, List.mem_of_getElem? (i := 182) (by decide +kernel), List.mem_of_getElem? (i := 817) (by decide +kernel), List.mem_of_getElem? (i := 818) (by decide +kernel)⟩
theorem lw_p20 : lw_okq (⟨"LaneCymbals", "numberOf", "(I)I"⟩, 13) := ⟨⟨by decide +kernel, by decide +kernel⟩, List.mem_of_getElem? (i := 20) (by decide +kernel), List.mem_of_getElem? (i := 897) (by decide +kernel), List.mem_of_getElem? (i := 898) (by decide +kernel)⟩
theorem lw_p21 : lw_okq (⟨"LaneCymbalsModel", "refuse", "(I)I"⟩, 22) := ⟨⟨by decide +kernel, by decide +kernel⟩, List.mem_of_getElem? (i := 927) (by decide +kernel), List.mem_of_getElem? (i := 1008) (by decide +kernel), List.mem_of_getElem? (i := 1009) (by decide +kernel)⟩
theorem lw_p22 : lw_okq (⟨"LaneCymbalsModel", "layHouses", "(I)V"⟩, 22) := ⟨⟨by decide +kernel, by decide +kernel⟩, List.mem_of_getElem? (i := 927) (by decide +kernel), List.mem_of_getElem? (i := 1012) (by decide +kernel), List.mem_of_getElem? (i := 1013) (by decide +kernel)⟩
theorem lw_p23 : lw_okq (⟨"LaneCymbalsModel", "addOne", "(III)V"⟩, 22) := ⟨⟨by decide +kernel, by decide +kernel⟩, List.mem_of_getElem? (i := 927) (by decide +kernel), List.mem_of_getElem? (i := 1024) (by decide +kernel), List.mem_of_getElem? (i := 1025) (by decide +kernel)⟩
theorem lw_p24 : lw_okq (⟨"LaneCymbalsModel", "addAunt", "(II)V"⟩, 22) := ⟨⟨by decide +kernel, by decide +kernel⟩, List.mem_of_getElem? (i := 927) (by decide +kernel), List.mem_of_getElem? (i := 1032) (by decide +kernel), List.mem_of_getElem? (i := 1033) (by decide +kernel)⟩
theorem lw_p25 : lw_okq (⟨"LaneCymbalsModel", "readItems", "(Z)I"⟩, 22) := ⟨⟨by decide +kernel, by decide +kernel⟩, List.mem_of_getElem? (i := 927) (by decide +kernel), List.mem_of_getElem? (i := 1048) (by decide +kernel), List.mem_of_getElem? (i := 1049) (by decide +kernel)⟩
theorem lw_p26 : lw_okq (⟨"LaneCymbalsModel", "next", "()V"⟩, 22) := ⟨⟨by decide +kernel, by decide +kernel⟩, List.mem_of_getElem? (i := 927) (by decide +kernel), List.mem_of_getElem? (i := 1052) (by decide +kernel), List.mem_of_getElem? (i := 1053) (by decide +kernel)⟩
theorem lw_p27 : lw_okq (⟨"LaneCymbalsModel", "isLetter", "(I)Z"⟩, 22) := ⟨⟨by decide +kernel, by decide +kernel⟩, List.mem_of_getElem? (i := 927) (by decide +kernel), List.mem_of_getElem? (i := 1056) (by decide +kernel), List.mem_of_getElem? (i := 1057) (by decide +kernel)⟩
theorem lw_p28 : lw_okq (⟨"LaneCymbalsModel", "isFigure", "(I)Z"⟩, 22) := ⟨⟨by decide +kernel, by decide +kernel⟩, List.mem_of_getElem? (i := 927) (by decide +kernel), List.mem_of_getElem? (i := 1060) (by decide +kernel), List.mem_of_getElem? (i := 1061) (by decide +kernel)⟩
theorem lw_p29 : lw_okq (⟨"LaneCymbalsModel", "wordHere", "()I"⟩, 22) := ⟨⟨by decide +kernel, by decide +kernel⟩, List.mem_of_getElem? (i := 927) (by decide +kernel), List.mem_of_getElem? (i := 1064) (by decide +kernel), List.mem_of_getElem? (i := 1065) (by decide +kernel)⟩
theorem lw_p30 : lw_okq (⟨"LaneCymbalsModel", "isWord", "(I)Z"⟩, 22) := ⟨⟨by decide +kernel, by decide +kernel⟩, List.mem_of_getElem? (i := 927) (by decide +kernel), List.mem_of_getElem? (i := 1068) (by decide +kernel), List.mem_of_getElem? (i := 1069) (by decide +kernel)⟩
theorem lw_p31 : lw_okq (⟨"LaneCymbalsModel", "readsItem", "(I)Z"⟩, 22) := ⟨⟨by decide +kernel, by decide +kernel⟩, List.mem_of_getElem? (i := 927) (by decide +kernel), List.mem_of_getElem? (i := 1072) (by decide +kernel), List.mem_of_getElem? (i := 1073) (by decide +kernel)⟩
def lw_privs_2 : List (MethodName × Nat) := [(⟨"LaneCymbals$Trial", "rests", "(I)Z"⟩, 2), (⟨"LaneCymbals$Trial", "swingerGets", "(I)I"⟩, 2), (⟨"LaneCymbals$Trial", "soundOfPair", "(I)I"⟩, 2), (⟨"LaneCymbals$Trial", "auntGets", "(I)I"⟩, 2), (⟨"LaneCymbals", "numberOf", "(I)I"⟩, 13), (⟨"LaneCymbalsModel", "refuse", "(I)I"⟩, 22), (⟨"LaneCymbalsModel", "layHouses", "(I)V"⟩, 22), (⟨"LaneCymbalsModel", "addOne", "(III)V"⟩, 22), (⟨"LaneCymbalsModel", "addAunt", "(II)V"⟩, 22), (⟨"LaneCymbalsModel", "readItems", "(Z)I"⟩, 22), (⟨"LaneCymbalsModel", "next", "()V"⟩, 22), (⟨"LaneCymbalsModel", "isLetter", "(I)Z"⟩, 22), (⟨"LaneCymbalsModel", "isFigure", "(I)Z"⟩, 22), (⟨"LaneCymbalsModel", "wordHere", "()I"⟩, 22), (⟨"LaneCymbalsModel", "isWord", "(I)Z"⟩, 22), (⟨"LaneCymbalsModel", "readsItem", "(I)Z"⟩, 22)]
theorem lw_r2 : ∀ q ∈ lw_privs_2, lw_okq q := List.forall_mem_cons.mpr ⟨lw_p16, List.forall_mem_cons.mpr ⟨lw_p17, List.forall_mem_cons.mpr ⟨lw_p18, List.forall_mem_cons.mpr ⟨lw_p19, List.forall_mem_cons.mpr ⟨lw_p20, List.forall_mem_cons.mpr ⟨lw_p21, List.forall_mem_cons.mpr ⟨lw_p22, List.forall_mem_cons.mpr ⟨lw_p23, List.forall_mem_cons.mpr ⟨lw_p24, List.forall_mem_cons.mpr ⟨lw_p25, List.forall_mem_cons.mpr ⟨lw_p26, List.forall_mem_cons.mpr ⟨lw_p27, List.forall_mem_cons.mpr ⟨lw_p28, List.forall_mem_cons.mpr ⟨lw_p29, List.forall_mem_cons.mpr ⟨lw_p30, List.forall_mem_cons.mpr ⟨lw_p31, fun _ h => absurd h List.not_mem_nil⟩⟩⟩⟩⟩⟩⟩⟩⟩⟩⟩⟩⟩⟩⟩⟩
theorem lw_p32 : lw_okq (⟨"LaneCymbalsModel", "readsLane", "()Z"⟩, 22) := ⟨⟨by decide +kernel, by decide +kernel⟩, List.mem_of_getElem? (i := 927) (by decide +kernel), List.mem_of_getElem? (i := 1076) (by decide +kernel), List.mem_of_getElem? (i := 1077) (by decide +kernel)⟩
theorem lw_p33 : lw_okq (⟨"LaneCymbalsModel", "number", "(II)I"⟩, 22) := ⟨⟨by decide +kernel, by decide +kernel⟩, List.mem_of_getElem? (i := 927) (by decide +kernel), List.mem_of_getElem? (i := 1080) (by decide +kernel), List.mem_of_getElem? (i := 1081) (by decide +kernel)⟩
theorem lw_p34 : lw_okq (⟨"LaneCymbalsModel", "readsOne", "()Z"⟩, 22) := ⟨⟨by decide +kernel, by decide +kernel⟩, List.mem_of_getElem? (i := 927) (by decide +kernel), List.mem_of_getElem? (i := 1084) (by decide +kernel), List.mem_of_getElem? (i := 1085) (by decide +kernel)⟩
theorem lw_p35 : lw_okq (⟨"LaneCymbalsModel", "readsAunt", "()Z"⟩, 22) := ⟨⟨by decide +kernel, by decide +kernel⟩, List.mem_of_getElem? (i := 927) (by decide +kernel), List.mem_of_getElem? (i := 1088) (by decide +kernel), List.mem_of_getElem? (i := 1089) (by decide +kernel)⟩
theorem lw_p36 : lw_okq (⟨"LaneCymbalsModel", "goBy", "(II)V"⟩, 22) := ⟨⟨by decide +kernel, by decide +kernel⟩, List.mem_of_getElem? (i := 927) (by decide +kernel), List.mem_of_getElem? (i := 1092) (by decide +kernel), List.mem_of_getElem? (i := 1093) (by decide +kernel)⟩
theorem lw_p37 : lw_okq (⟨"LaneCymbalsModel", "soundAt", "(II)I"⟩, 22) := ⟨⟨by decide +kernel, by decide +kernel⟩, List.mem_of_getElem? (i := 927) (by decide +kernel), List.mem_of_getElem? (i := 1096) (by decide +kernel), List.mem_of_getElem? (i := 1097) (by decide +kernel)⟩
theorem lw_p38 : lw_okq (⟨"LaneCymbalsModel", "soundBy", "(IIII)I"⟩, 22) := ⟨⟨by decide +kernel, by decide +kernel⟩, List.mem_of_getElem? (i := 927) (by decide +kernel), List.mem_of_getElem? (i := 1100) (by decide +kernel), List.mem_of_getElem? (i := 1101) (by decide +kernel)⟩
theorem lw_p39 : lw_okq (⟨"LaneCymbalsModel", "leaning", "(III)I"⟩, 22) := ⟨⟨by decide +kernel, by decide +kernel⟩, List.mem_of_getElem? (i := 927) (by decide +kernel), List.mem_of_getElem? (i := 1104) (by decide +kernel), List.mem_of_getElem? (i := 1105) (by decide +kernel)⟩
theorem lw_p40 : lw_okq (⟨"LaneCymbalsModel", "keepPast", "()V"⟩, 22) := ⟨⟨by decide +kernel, by decide +kernel⟩, List.mem_of_getElem? (i := 927) (by decide +kernel), List.mem_of_getElem? (i := 1124) (by decide +kernel), List.mem_of_getElem? (i := 1125) (by decide +kernel)⟩
theorem lw_p41 : lw_okq (⟨"LaneCymbalsModel", "isOne", "(I)Z"⟩, 22) := ⟨⟨by decide +kernel, by decide +kernel⟩, List.mem_of_getElem? (i := 927) (by decide +kernel), List.mem_of_getElem? (i := 1132) (by decide +kernel), List.mem_of_getElem? (i := 1133) (by decide +kernel)⟩
theorem lw_p42 : lw_okq (⟨"LaneCymbalsModel", "isAunt", "(I)Z"⟩, 22) := ⟨⟨by decide +kernel, by decide +kernel⟩, List.mem_of_getElem? (i := 927) (by decide +kernel), List.mem_of_getElem? (i := 1140) (by decide +kernel), List.mem_of_getElem? (i := 1141) (by decide +kernel)⟩
theorem lw_p43 : lw_okq (⟨"LaneCymbalsModel", "badAs", "(I)I"⟩, 22) := ⟨⟨by decide +kernel, by decide +kernel⟩, List.mem_of_getElem? (i := 927) (by decide +kernel), List.mem_of_getElem? (i := 1160) (by decide +kernel), List.mem_of_getElem? (i := 1161) (by decide +kernel)⟩
theorem lw_p44 : lw_okq (⟨"LaneCymbalsModel", "layTried", "()V"⟩, 22) := ⟨⟨by decide +kernel, by decide +kernel⟩, List.mem_of_getElem? (i := 927) (by decide +kernel), List.mem_of_getElem? (i := 1176) (by decide +kernel), List.mem_of_getElem? (i := 1177) (by decide +kernel)⟩
theorem lw_p45 : lw_okq (⟨"LaneCymbalsModel", "isStill", "(I)Z"⟩, 22) := ⟨⟨by decide +kernel, by decide +kernel⟩, List.mem_of_getElem? (i := 927) (by decide +kernel), List.mem_of_getElem? (i := 1187) (by decide +kernel), List.mem_of_getElem? (i := 1188) (by decide +kernel)⟩
theorem lw_p46 : lw_okq (⟨"LaneCymbalsModel", "mostPairs", "()I"⟩, 22) := ⟨⟨by decide +kernel, by decide +kernel⟩, List.mem_of_getElem? (i := 927) (by decide +kernel), List.mem_of_getElem? (i := 1207) (by decide +kernel), List.mem_of_getElem? (i := 1208) (by decide +kernel)⟩
theorem lw_p47 : lw_okq (⟨"LaneCymbalsModel", "laySides", "()V"⟩, 22) := ⟨⟨by decide +kernel, by decide +kernel⟩, List.mem_of_getElem? (i := 927) (by decide +kernel), List.mem_of_getElem? (i := 1211) (by decide +kernel), List.mem_of_getElem? (i := 1212) (by decide +kernel)⟩
def lw_privs_3 : List (MethodName × Nat) := [(⟨"LaneCymbalsModel", "readsLane", "()Z"⟩, 22), (⟨"LaneCymbalsModel", "number", "(II)I"⟩, 22), (⟨"LaneCymbalsModel", "readsOne", "()Z"⟩, 22), (⟨"LaneCymbalsModel", "readsAunt", "()Z"⟩, 22), (⟨"LaneCymbalsModel", "goBy", "(II)V"⟩, 22), (⟨"LaneCymbalsModel", "soundAt", "(II)I"⟩, 22), (⟨"LaneCymbalsModel", "soundBy", "(IIII)I"⟩, 22), (⟨"LaneCymbalsModel", "leaning", "(III)I"⟩, 22), (⟨"LaneCymbalsModel", "keepPast", "()V"⟩, 22), (⟨"LaneCymbalsModel", "isOne", "(I)Z"⟩, 22), (⟨"LaneCymbalsModel", "isAunt", "(I)Z"⟩, 22), (⟨"LaneCymbalsModel", "badAs", "(I)I"⟩, 22), (⟨"LaneCymbalsModel", "layTried", "()V"⟩, 22), (⟨"LaneCymbalsModel", "isStill", "(I)Z"⟩, 22), (⟨"LaneCymbalsModel", "mostPairs", "()I"⟩, 22), (⟨"LaneCymbalsModel", "laySides", "()V"⟩, 22)]
theorem lw_r3 : ∀ q ∈ lw_privs_3, lw_okq q := List.forall_mem_cons.mpr ⟨lw_p32, List.forall_mem_cons.mpr ⟨lw_p33, List.forall_mem_cons.mpr ⟨lw_p34, List.forall_mem_cons.mpr ⟨lw_p35, List.forall_mem_cons.mpr ⟨lw_p36, List.forall_mem_cons.mpr ⟨lw_p37, List.forall_mem_cons.mpr ⟨lw_p38, List.forall_mem_cons.mpr ⟨lw_p39, List.forall_mem_cons.mpr ⟨lw_p40, List.forall_mem_cons.mpr ⟨lw_p41, List.forall_mem_cons.mpr ⟨lw_p42, List.forall_mem_cons.mpr ⟨lw_p43, List.forall_mem_cons.mpr ⟨lw_p44, List.forall_mem_cons.mpr ⟨lw_p45, List.forall_mem_cons.mpr ⟨lw_p46, List.forall_mem_cons.mpr ⟨lw_p47, fun _ h => absurd h List.not_mem_nil⟩⟩⟩⟩⟩⟩⟩⟩⟩⟩⟩⟩⟩⟩⟩⟩
theorem lw_p48 : lw_okq (⟨"LaneCymbalsModel", "pairsBy", "(I)I"⟩, 22) := ⟨⟨by decide +kernel, by decide +kernel⟩, List.mem_of_getElem? (i := 927) (by decide +kernel), List.mem_of_getElem? (i := 1215) (by decide +kernel), List.mem_of_getElem? (i := 1216) (by decide +kernel)⟩
theorem lw_p49 : lw_okq (⟨"LaneCymbalsModel", "areAlike", "(II)Z"⟩, 22) := ⟨⟨by decide +kernel, by decide +kernel⟩, List.mem_of_getElem? (i := 927) (by decide +kernel), List.mem_of_getElem? (i := 1219) (by decide +kernel), List.mem_of_getElem? (i := 1220) (by decide +kernel)⟩
theorem lw_p50 : lw_okq (⟨"LaneCymbalsModel", "isHeardSo", "(II)Z"⟩, 22) := ⟨⟨by decide +kernel, by decide +kernel⟩, List.mem_of_getElem? (i := 927) (by decide +kernel), List.mem_of_getElem? (i := 1231) (by decide +kernel), List.mem_of_getElem? (i := 1232) (by decide +kernel)⟩
theorem lw_p51 : lw_okq (⟨"LaneCymbalsModel", "kindsOf", "(I)I"⟩, 22) := ⟨⟨by decide +kernel, by decide +kernel⟩, List.mem_of_getElem? (i := 927) (by decide +kernel), List.mem_of_getElem? (i := 1260) (by decide +kernel), List.mem_of_getElem? (i := 1261) (by decide +kernel)⟩
theorem lw_p52 : lw_okq (⟨"LaneCymbalsModel", "mostAlike", "(I)I"⟩, 22) := ⟨⟨by decide +kernel, by decide +kernel⟩, List.mem_of_getElem? (i := 927) (by decide +kernel), List.mem_of_getElem? (i := 1268) (by decide +kernel), List.mem_of_getElem? (i := 1269) (by decide +kernel)⟩
theorem lw_p53 : lw_okq (⟨"LaneCymbalsModel", "auntKinds", "(I)I"⟩, 22) := ⟨⟨by decide +kernel, by decide +kernel⟩, List.mem_of_getElem? (i := 927) (by decide +kernel), List.mem_of_getElem? (i := 1276) (by decide +kernel), List.mem_of_getElem? (i := 1277) (by decide +kernel)⟩
theorem lw_p54 : lw_okq (⟨"LaneCymbalsModel", "rests", "(II)Z"⟩, 22) := ⟨⟨by decide +kernel, by decide +kernel⟩, List.mem_of_getElem? (i := 927) (by decide +kernel), List.mem_of_getElem? (i := 1288) (by decide +kernel), List.mem_of_getElem? (i := 1289) (by decide +kernel)⟩
theorem lw_p55 : lw_okq (⟨"LaneCymbalsModel", "tell", "(JJ)V"⟩, 22) := ⟨⟨by decide +kernel, by decide +kernel⟩, List.mem_of_getElem? (i := 927) (by decide +kernel), List.mem_of_getElem? (i := 1296) (by decide +kernel), List.mem_of_getElem? (i := 1297) (by decide +kernel)⟩
theorem lw_p56 : lw_okq (⟨"LaneCymbalsModel", "countOf", "(I)I"⟩, 22) := ⟨⟨by decide +kernel, by decide +kernel⟩, List.mem_of_getElem? (i := 927) (by decide +kernel), List.mem_of_getElem? (i := 1332) (by decide +kernel), List.mem_of_getElem? (i := 1333) (by decide +kernel)⟩
theorem lw_p57 : lw_okq (⟨"LaneCymbalsModel", "join", "(JII)J"⟩, 22) := ⟨⟨by decide +kernel, by decide +kernel⟩, List.mem_of_getElem? (i := 927) (by decide +kernel), List.mem_of_getElem? (i := 1342) (by decide +kernel), List.mem_of_getElem? (i := 1343) (by decide +kernel)⟩
def lw_privs_4 : List (MethodName × Nat) := [(⟨"LaneCymbalsModel", "pairsBy", "(I)I"⟩, 22), (⟨"LaneCymbalsModel", "areAlike", "(II)Z"⟩, 22), (⟨"LaneCymbalsModel", "isHeardSo", "(II)Z"⟩, 22), (⟨"LaneCymbalsModel", "kindsOf", "(I)I"⟩, 22), (⟨"LaneCymbalsModel", "mostAlike", "(I)I"⟩, 22), (⟨"LaneCymbalsModel", "auntKinds", "(I)I"⟩, 22), (⟨"LaneCymbalsModel", "rests", "(II)Z"⟩, 22), (⟨"LaneCymbalsModel", "tell", "(JJ)V"⟩, 22), (⟨"LaneCymbalsModel", "countOf", "(I)I"⟩, 22), (⟨"LaneCymbalsModel", "join", "(JII)J"⟩, 22)]
theorem lw_r4 : ∀ q ∈ lw_privs_4, lw_okq q := List.forall_mem_cons.mpr ⟨lw_p48, List.forall_mem_cons.mpr ⟨lw_p49, List.forall_mem_cons.mpr ⟨lw_p50, List.forall_mem_cons.mpr ⟨lw_p51, List.forall_mem_cons.mpr ⟨lw_p52, List.forall_mem_cons.mpr ⟨lw_p53, List.forall_mem_cons.mpr ⟨lw_p54, List.forall_mem_cons.mpr ⟨lw_p55, List.forall_mem_cons.mpr ⟨lw_p56, List.forall_mem_cons.mpr ⟨lw_p57, fun _ h => absurd h List.not_mem_nil⟩⟩⟩⟩⟩⟩⟩⟩⟩⟩
def lw_privs : List (MethodName × Nat) := lw_privs_1 ++ (lw_privs_2 ++ (lw_privs_3 ++ (lw_privs_4)))
def lw_tbl : List Cond := k2_sels lw_privs ++ tables_1
theorem lw_privs_ok : ∀ q ∈ lw_privs, lw_okq q := by
  show ∀ q ∈ lw_privs_1 ++ (lw_privs_2 ++ (lw_privs_3 ++ (lw_privs_4))), lw_okq q
  exact List.forall_mem_append.mpr ⟨lw_r1, List.forall_mem_append.mpr ⟨lw_r2, List.forall_mem_append.mpr ⟨lw_r3, lw_r4⟩⟩⟩
end
section
/-! ===== BEGIN printed: names, fields, word lists, decode rows ===== -/
def RX0 : String := "LaneCymbals$Fraction"
def TX0 : u_T := fun k => match k with
  | 0 => ("LaneCymbals$Fraction", "above", "J", false)
  | _ => ("LaneCymbals$Fraction", "below", "J", false)
def tyX0 : Nat → FieldType := fun k => match k with
  | 0 => .long
  | _ => .long
theorem nmX0 : ∀ a, a < 2 → ∀ b, b < 2 → a ≠ b → (TX0 a).2.1 ≠ (TX0 b).2.1 := by decide +kernel
theorem tyX0_ok : ∀ k, k < 2 → parseFieldDescriptor (TX0 k).2.2.1 = some (tyX0 k) := by decide +kernel
abbrev cX0_init : ByteArray := prog_2_method_1_code
def yX0_init : MethodName := ⟨RX0, "<init>", "()V"⟩
abbrev cX0_become : ByteArray := prog_2_method_2_code
def yX0_become : MethodName := ⟨RX0, "become", "(JJ)V"⟩
abbrev cX0_commonDivisor : ByteArray := prog_2_method_3_code
def yX0_commonDivisor : MethodName := ⟨RX0, "commonDivisor", "(JJ)J"⟩
def RX1 : String := "LaneCymbals$Guess"
def TX1 : u_T := fun k => match k with
  | _ => ("LaneCymbals$Guess", "told", "[I", true)
def tyX1 : Nat → FieldType := fun k => match k with
  | _ => .array .int
theorem nmX1 : ∀ a, a < 1 → ∀ b, b < 1 → a ≠ b → (TX1 a).2.1 ≠ (TX1 b).2.1 := by decide +kernel
theorem tyX1_ok : ∀ k, k < 1 → parseFieldDescriptor (TX1 k).2.2.1 = some (tyX1 k) := by decide +kernel
abbrev cX1_init : ByteArray := prog_3_method_1_code
def yX1_init : MethodName := ⟨RX1, "<init>", "()V"⟩
abbrev cX1_kindsOfOne : ByteArray := prog_3_method_2_code
def yX1_kindsOfOne : MethodName := ⟨RX1, "kindsOfOne", "(LLaneCymbals$Rows;I)I"⟩
abbrev cX1_kindsOfAunt : ByteArray := prog_3_method_3_code
def yX1_kindsOfAunt : MethodName := ⟨RX1, "kindsOfAunt", "(LLaneCymbals$Rows;I)I"⟩
abbrev cX1_bestLook : ByteArray := prog_3_method_4_code
def yX1_bestLook : MethodName := ⟨RX1, "bestLook", "(I)I"⟩
abbrev cX1_bestAsk : ByteArray := prog_3_method_5_code
def yX1_bestAsk : MethodName := ⟨RX1, "bestAsk", "(I)I"⟩
abbrev cX1_mostAlike : ByteArray := prog_3_method_6_code
def yX1_mostAlike : MethodName := ⟨RX1, "mostAlike", "(I)I"⟩
def RX2 : String := "LaneCymbals$Houses"
def TX2 : u_T := fun k => match k with
  | 0 => ("LaneCymbals$Houses", "lane", "LLaneCymbals$Lane;", true)
  | 1 => ("LaneCymbals$Houses", "soundings", "LLaneCymbals$Rows;", true)
  | 2 => ("LaneCymbals$Houses", "notes", "LLaneCymbals$Rows;", true)
  | 3 => ("LaneCymbals$Houses", "marks", "LLaneCymbals$Rows;", true)
  | _ => ("LaneCymbals$Houses", "past", "LLaneCymbals$Past;", true)
def tyX2 : Nat → FieldType := fun k => match k with
  | 0 => .object "LaneCymbals$Lane"
  | 1 => .object "LaneCymbals$Rows"
  | 2 => .object "LaneCymbals$Rows"
  | 3 => .object "LaneCymbals$Rows"
  | _ => .object "LaneCymbals$Past"
theorem nmX2 : ∀ a, a < 5 → ∀ b, b < 5 → a ≠ b → (TX2 a).2.1 ≠ (TX2 b).2.1 := by decide +kernel
theorem tyX2_ok : ∀ k, k < 5 → parseFieldDescriptor (TX2 k).2.2.1 = some (tyX2 k) := by decide +kernel
abbrev cX2_init : ByteArray := prog_4_method_1_code
def yX2_init : MethodName := ⟨RX2, "<init>", "()V"⟩
abbrev cX2_startAgain : ByteArray := prog_4_method_2_code
def yX2_startAgain : MethodName := ⟨RX2, "startAgain", "(I)V"⟩
abbrev cX2_copyFrom : ByteArray := prog_4_method_3_code
def yX2_copyFrom : MethodName := ⟨RX2, "copyFrom", "(LLaneCymbals$Houses;)V"⟩
abbrev cX2_foldedInto : ByteArray := prog_4_method_4_code
def yX2_foldedInto : MethodName := ⟨RX2, "foldedInto", "(J)J"⟩
def RX3 : String := "LaneCymbals$Kinds"
def TX3 : u_T := fun k => match k with
  | _ => ("", "", "", false)
def tyX3 : Nat → FieldType := fun k => match k with
  | _ => .int
theorem nmX3 : ∀ a, a < 0 → ∀ b, b < 0 → a ≠ b → (TX3 a).2.1 ≠ (TX3 b).2.1 := by decide +kernel
theorem tyX3_ok : ∀ k, k < 0 → parseFieldDescriptor (TX3 k).2.2.1 = some (tyX3 k) := by decide +kernel
abbrev cX3_leanAs : ByteArray := prog_5_method_2_code
def yX3_leanAs : MethodName := ⟨RX3, "leanAs", "(III)I"⟩
abbrev cX3_dampAs : ByteArray := prog_5_method_3_code
def yX3_dampAs : MethodName := ⟨RX3, "dampAs", "(III)I"⟩
def RX4 : String := "LaneCymbals$Lane"
def TX4 : u_T := fun k => match k with
  | 0 => ("LaneCymbals$Lane", "width", "I", false)
  | 1 => ("LaneCymbals$Lane", "people", "I", false)
  | 2 => ("LaneCymbals$Lane", "kind", "[I", true)
  | 3 => ("LaneCymbals$Lane", "house", "[I", true)
  | 4 => ("LaneCymbals$Lane", "swing", "[I", true)
  | 5 => ("LaneCymbals$Lane", "aunts", "I", false)
  | 6 => ("LaneCymbals$Lane", "auntKind", "[I", true)
  | 7 => ("LaneCymbals$Lane", "auntHouse", "[I", true)
  | 8 => ("LaneCymbals$Lane", "there", "I", false)
  | 9 => ("LaneCymbals$Lane", "time", "I", false)
  | _ => ("LaneCymbals$Lane", "noise", "I", false)
def tyX4 : Nat → FieldType := fun k => match k with
  | 0 => .int
  | 1 => .int
  | 2 => .array .int
  | 3 => .array .int
  | 4 => .array .int
  | 5 => .int
  | 6 => .array .int
  | 7 => .array .int
  | 8 => .int
  | 9 => .int
  | _ => .int
theorem nmX4 : ∀ a, a < 11 → ∀ b, b < 11 → a ≠ b → (TX4 a).2.1 ≠ (TX4 b).2.1 := by decide +kernel
theorem tyX4_ok : ∀ k, k < 11 → parseFieldDescriptor (TX4 k).2.2.1 = some (tyX4 k) := by decide +kernel
abbrev cX4_init : ByteArray := prog_6_method_1_code
def yX4_init : MethodName := ⟨RX4, "<init>", "()V"⟩
abbrev cX4_startAgain : ByteArray := prog_6_method_2_code
def yX4_startAgain : MethodName := ⟨RX4, "startAgain", "(I)V"⟩
abbrev cX4_copyFrom : ByteArray := prog_6_method_3_code
def yX4_copyFrom : MethodName := ⟨RX4, "copyFrom", "(LLaneCymbals$Lane;)V"⟩
abbrev cX4_addOne : ByteArray := prog_6_method_4_code
def yX4_addOne : MethodName := ⟨RX4, "addOne", "(III)Z"⟩
abbrev cX4_addAunt : ByteArray := prog_6_method_5_code
def yX4_addAunt : MethodName := ⟨RX4, "addAunt", "(II)Z"⟩
abbrev cX4_hasOne : ByteArray := prog_6_method_6_code
def yX4_hasOne : MethodName := ⟨RX4, "hasOne", "(I)Z"⟩
abbrev cX4_hasAunt : ByteArray := prog_6_method_7_code
def yX4_hasAunt : MethodName := ⟨RX4, "hasAunt", "(I)Z"⟩
abbrev cX4_isThere : ByteArray := prog_6_method_8_code
def yX4_isThere : MethodName := ⟨RX4, "isThere", "(I)Z"⟩
abbrev cX4_setThere : ByteArray := prog_6_method_9_code
def yX4_setThere : MethodName := ⟨RX4, "setThere", "(IZ)V"⟩
abbrev cX4_houseOf : ByteArray := prog_6_method_10_code
def yX4_houseOf : MethodName := ⟨RX4, "houseOf", "(I)I"⟩
abbrev cX4_swingOf : ByteArray := prog_6_method_11_code
def yX4_swingOf : MethodName := ⟨RX4, "swingOf", "(I)I"⟩
abbrev cX4_setSwing : ByteArray := prog_6_method_12_code
def yX4_setSwing : MethodName := ⟨RX4, "setSwing", "(II)V"⟩
abbrev cX4_factOfOne : ByteArray := prog_6_method_13_code
def yX4_factOfOne : MethodName := ⟨RX4, "factOfOne", "(II)I"⟩
abbrev cX4_factOfAunt : ByteArray := prog_6_method_14_code
def yX4_factOfAunt : MethodName := ⟨RX4, "factOfAunt", "(II)I"⟩
abbrev cX4_leanOf : ByteArray := prog_6_method_15_code
def yX4_leanOf : MethodName := ⟨RX4, "leanOf", "(II)I"⟩
abbrev cX4_leaningOf : ByteArray := prog_6_method_16_code
def yX4_leaningOf : MethodName := ⟨RX4, "leaningOf", "(II)I"⟩
abbrev cX4_soundAt : ByteArray := prog_6_method_17_code
def yX4_soundAt : MethodName := ⟨RX4, "soundAt", "(I)I"⟩
abbrev cX4_soundsAt : ByteArray := prog_6_method_18_code
def yX4_soundsAt : MethodName := ⟨RX4, "soundsAt", "(I)Z"⟩
abbrev cX4_reachAt : ByteArray := prog_6_method_19_code
def yX4_reachAt : MethodName := ⟨RX4, "reachAt", "(II)I"⟩
abbrev cX4_firstSounding : ByteArray := prog_6_method_20_code
def yX4_firstSounding : MethodName := ⟨RX4, "firstSounding", "(I)I"⟩
abbrev cX4_widestSounding : ByteArray := prog_6_method_21_code
def yX4_widestSounding : MethodName := ⟨RX4, "widestSounding", "(I)I"⟩
abbrev cX4_neededAt : ByteArray := prog_6_method_22_code
def yX4_neededAt : MethodName := ⟨RX4, "neededAt", "(I)I"⟩
abbrev cX4_passUpTo : ByteArray := prog_6_method_23_code
def yX4_passUpTo : MethodName := ⟨RX4, "passUpTo", "(II)V"⟩
abbrev cX4_saveInto : ByteArray := prog_6_method_24_code
def yX4_saveInto : MethodName := ⟨RX4, "saveInto", "([II)V"⟩
abbrev cX4_restoreFrom : ByteArray := prog_6_method_25_code
def yX4_restoreFrom : MethodName := ⟨RX4, "restoreFrom", "([II)V"⟩
abbrev cX4_foldedInto : ByteArray := prog_6_method_26_code
def yX4_foldedInto : MethodName := ⟨RX4, "foldedInto", "(J)J"⟩
def RX5 : String := "LaneCymbals$Past"
def TX5 : u_T := fun k => match k with
  | 0 => ("LaneCymbals$Past", "size", "I", false)
  | _ => ("LaneCymbals$Past", "saved", "[I", true)
def tyX5 : Nat → FieldType := fun k => match k with
  | 0 => .int
  | _ => .array .int
theorem nmX5 : ∀ a, a < 2 → ∀ b, b < 2 → a ≠ b → (TX5 a).2.1 ≠ (TX5 b).2.1 := by decide +kernel
theorem tyX5_ok : ∀ k, k < 2 → parseFieldDescriptor (TX5 k).2.2.1 = some (tyX5 k) := by decide +kernel
abbrev cX5_init : ByteArray := prog_7_method_1_code
def yX5_init : MethodName := ⟨RX5, "<init>", "()V"⟩
abbrev cX5_keep : ByteArray := prog_7_method_2_code
def yX5_keep : MethodName := ⟨RX5, "keep", "(LLaneCymbals$Lane;)V"⟩
abbrev cX5_dropOldest : ByteArray := prog_7_method_3_code
def yX5_dropOldest : MethodName := ⟨RX5, "dropOldest", "()V"⟩
abbrev cX5_takeBack : ByteArray := prog_7_method_4_code
def yX5_takeBack : MethodName := ⟨RX5, "takeBack", "(LLaneCymbals$Lane;)Z"⟩
abbrev cX5_forgetAll : ByteArray := prog_7_method_5_code
def yX5_forgetAll : MethodName := ⟨RX5, "forgetAll", "()V"⟩
abbrev cX5_copyFrom : ByteArray := prog_7_method_6_code
def yX5_copyFrom : MethodName := ⟨RX5, "copyFrom", "(LLaneCymbals$Past;)V"⟩
def RX6 : String := "LaneCymbals$Rows"
def TX6 : u_T := fun k => match k with
  | 0 => ("LaneCymbals$Rows", "size", "I", false)
  | _ => ("LaneCymbals$Rows", "cells", "[I", true)
def tyX6 : Nat → FieldType := fun k => match k with
  | 0 => .int
  | _ => .array .int
theorem nmX6 : ∀ a, a < 2 → ∀ b, b < 2 → a ≠ b → (TX6 a).2.1 ≠ (TX6 b).2.1 := by decide +kernel
theorem tyX6_ok : ∀ k, k < 2 → parseFieldDescriptor (TX6 k).2.2.1 = some (tyX6 k) := by decide +kernel
abbrev cX6_init : ByteArray := prog_8_method_1_code
def yX6_init : MethodName := ⟨RX6, "<init>", "()V"⟩
abbrev cX6_add : ByteArray := prog_8_method_2_code
def yX6_add : MethodName := ⟨RX6, "add", "(IIII)Z"⟩
abbrev cX6_cell : ByteArray := prog_8_method_3_code
def yX6_cell : MethodName := ⟨RX6, "cell", "(II)I"⟩
abbrev cX6_forgetAll : ByteArray := prog_8_method_4_code
def yX6_forgetAll : MethodName := ⟨RX6, "forgetAll", "()I"⟩
abbrev cX6_copyFrom : ByteArray := prog_8_method_5_code
def yX6_copyFrom : MethodName := ⟨RX6, "copyFrom", "(LLaneCymbals$Rows;)V"⟩
abbrev cX6_foldedInto : ByteArray := prog_8_method_6_code
def yX6_foldedInto : MethodName := ⟨RX6, "foldedInto", "(JI)J"⟩
def RX7 : String := "LaneCymbals$Text"
def TX7 : u_T := fun k => match k with
  | 0 => ("LaneCymbals$Text", "length", "I", false)
  | 1 => ("LaneCymbals$Text", "bytes", "[I", true)
  | 2 => ("LaneCymbals$Text", "token", "I", false)
  | 3 => ("LaneCymbals$Text", "tokenStart", "I", false)
  | 4 => ("LaneCymbals$Text", "tokenEnd", "I", false)
  | _ => ("LaneCymbals$Text", "numbers", "[I", true)
def tyX7 : Nat → FieldType := fun k => match k with
  | 0 => .int
  | 1 => .array .int
  | 2 => .int
  | 3 => .int
  | 4 => .int
  | _ => .array .int
theorem nmX7 : ∀ a, a < 6 → ∀ b, b < 6 → a ≠ b → (TX7 a).2.1 ≠ (TX7 b).2.1 := by decide +kernel
theorem tyX7_ok : ∀ k, k < 6 → parseFieldDescriptor (TX7 k).2.2.1 = some (tyX7 k) := by decide +kernel
abbrev cX7_init : ByteArray := prog_9_method_1_code
def yX7_init : MethodName := ⟨RX7, "<init>", "()V"⟩
abbrev cX7_append : ByteArray := prog_9_method_2_code
def yX7_append : MethodName := ⟨RX7, "append", "(I)Z"⟩
abbrev cX7_readInto : ByteArray := prog_9_method_3_code
def yX7_readInto : MethodName := ⟨RX7, "readInto", "(LLaneCymbals$Lane;)I"⟩
abbrev cX7_mayStand : ByteArray := prog_9_method_4_code
def yX7_mayStand : MethodName := ⟨RX7, "mayStand", "(ILLaneCymbals$Lane;Z)Z"⟩
abbrev cX7_readNumbers : ByteArray := prog_9_method_5_code
def yX7_readNumbers : MethodName := ⟨RX7, "readNumbers", "(ILLaneCymbals$Lane;)Z"⟩
abbrev cX7_carryOut : ByteArray := prog_9_method_6_code
def yX7_carryOut : MethodName := ⟨RX7, "carryOut", "(ILLaneCymbals$Lane;)V"⟩
abbrev cX7_takeNumber : ByteArray := prog_9_method_7_code
def yX7_takeNumber : MethodName := ⟨RX7, "takeNumber", "(III)Z"⟩
abbrev cX7_takeSemicolon : ByteArray := prog_9_method_8_code
def yX7_takeSemicolon : MethodName := ⟨RX7, "takeSemicolon", "()Z"⟩
abbrev cX7_wordHere : ByteArray := prog_9_method_9_code
def yX7_wordHere : MethodName := ⟨RX7, "wordHere", "()I"⟩
abbrev cX7_wordIs : ByteArray := prog_9_method_10_code
def yX7_wordIs : MethodName := ⟨RX7, "wordIs", "(Ljava/lang/String;)Z"⟩
abbrev cX7_nextToken : ByteArray := prog_9_method_11_code
def yX7_nextToken : MethodName := ⟨RX7, "nextToken", "()V"⟩
abbrev cX7_classOf : ByteArray := prog_9_method_12_code
def yX7_classOf : MethodName := ⟨RX7, "classOf", "(I)I"⟩
abbrev cX7_byteAt : ByteArray := prog_9_method_13_code
def yX7_byteAt : MethodName := ⟨RX7, "byteAt", "(I)I"⟩
def RX8 : String := "LaneCymbals$Trial"
def TX8 : u_T := fun k => match k with
  | 0 => ("LaneCymbals$Trial", "lane", "LLaneCymbals$Lane;", true)
  | _ => ("LaneCymbals$Trial", "pairSound", "[I", true)
def tyX8 : Nat → FieldType := fun k => match k with
  | 0 => .object "LaneCymbals$Lane"
  | _ => .array .int
theorem nmX8 : ∀ a, a < 2 → ∀ b, b < 2 → a ≠ b → (TX8 a).2.1 ≠ (TX8 b).2.1 := by decide +kernel
theorem tyX8_ok : ∀ k, k < 2 → parseFieldDescriptor (TX8 k).2.2.1 = some (tyX8 k) := by decide +kernel
abbrev cX8_init : ByteArray := prog_10_method_1_code
def yX8_init : MethodName := ⟨RX8, "<init>", "()V"⟩
abbrev cX8_noiseBehind : ByteArray := prog_10_method_2_code
def yX8_noiseBehind : MethodName := ⟨RX8, "noiseBehind", "(LLaneCymbals$Lane;I)I"⟩
abbrev cX8_fewestAunts : ByteArray := prog_10_method_3_code
def yX8_fewestAunts : MethodName := ⟨RX8, "fewestAunts", "(LLaneCymbals$Lane;I)I"⟩
abbrev cX8_leastPush : ByteArray := prog_10_method_4_code
def yX8_leastPush : MethodName := ⟨RX8, "leastPush", "(LLaneCymbals$Lane;II)I"⟩
abbrev cX8_lanesThatFit : ByteArray := prog_10_method_5_code
def yX8_lanesThatFit : MethodName := ⟨RX8, "lanesThatFit", "(LLaneCymbals$Lane;LLaneCymbals$Rows;)I"⟩
abbrev cX8_swingsThatFit : ByteArray := prog_10_method_6_code
def yX8_swingsThatFit : MethodName := ⟨RX8, "swingsThatFit", "(LLaneCymbals$Lane;LLaneCymbals$Rows;I)I"⟩
abbrev cX8_fits : ByteArray := prog_10_method_7_code
def yX8_fits : MethodName := ⟨RX8, "fits", "(LLaneCymbals$Rows;)Z"⟩
abbrev cX8_bestCount : ByteArray := prog_10_method_8_code
def yX8_bestCount : MethodName := ⟨RX8, "bestCount", "(LLaneCymbals$Lane;I)I"⟩
abbrev cX8_lanesUpTo : ByteArray := prog_10_method_9_code
def yX8_lanesUpTo : MethodName := ⟨RX8, "lanesUpTo", "(I)I"⟩
abbrev cX8_play : ByteArray := prog_10_method_10_code
def yX8_play : MethodName := ⟨RX8, "play", "(LLaneCymbals$Lane;III)V"⟩
abbrev cX8_restingPairs : ByteArray := prog_10_method_11_code
def yX8_restingPairs : MethodName := ⟨RX8, "restingPairs", "()I"⟩
abbrev cX8_restingPair : ByteArray := prog_10_method_12_code
def yX8_restingPair : MethodName := ⟨RX8, "restingPair", "(I)I"⟩
abbrev cX8_rests : ByteArray := prog_10_method_13_code
def yX8_rests : MethodName := ⟨RX8, "rests", "(I)Z"⟩
abbrev cX8_swingerGets : ByteArray := prog_10_method_14_code
def yX8_swingerGets : MethodName := ⟨RX8, "swingerGets", "(I)I"⟩
abbrev cX8_auntGets : ByteArray := prog_10_method_15_code
def yX8_auntGets : MethodName := ⟨RX8, "auntGets", "(I)I"⟩
abbrev cX8_soundOfPair : ByteArray := prog_10_method_16_code
def yX8_soundOfPair : MethodName := ⟨RX8, "soundOfPair", "(I)I"⟩
abbrev cX8_soundingShare : ByteArray := prog_10_method_17_code
def yX8_soundingShare : MethodName := ⟨RX8, "soundingShare", "(LLaneCymbals$Lane;II)J"⟩
abbrev cX8_soundOfReign : ByteArray := prog_10_method_18_code
def yX8_soundOfReign : MethodName := ⟨RX8, "soundOfReign", "(LLaneCymbals$Lane;II)I"⟩
def RX9 : String := "LaneCymbals$Wedding"
def TX9 : u_T := fun k => match k with
  | 0 => ("LaneCymbals$Wedding", "pairs", "I", false)
  | 1 => ("LaneCymbals$Wedding", "suitors", "[I", true)
  | _ => ("LaneCymbals$Wedding", "partner", "[I", true)
def tyX9 : Nat → FieldType := fun k => match k with
  | 0 => .int
  | 1 => .array .int
  | _ => .array .int
theorem nmX9 : ∀ a, a < 3 → ∀ b, b < 3 → a ≠ b → (TX9 a).2.1 ≠ (TX9 b).2.1 := by decide +kernel
theorem tyX9_ok : ∀ k, k < 3 → parseFieldDescriptor (TX9 k).2.2.1 = some (tyX9 k) := by decide +kernel
abbrev cX9_init : ByteArray := prog_11_method_1_code
def yX9_init : MethodName := ⟨RX9, "<init>", "()V"⟩
abbrev cX9_partnerOf : ByteArray := prog_11_method_2_code
def yX9_partnerOf : MethodName := ⟨RX9, "partnerOf", "(I)I"⟩
abbrev cX9_arrange : ByteArray := prog_11_method_3_code
def yX9_arrange : MethodName := ⟨RX9, "arrange", "(LLaneCymbals$Lane;)V"⟩
abbrev cX9_suitorsOf : ByteArray := prog_11_method_4_code
def yX9_suitorsOf : MethodName := ⟨RX9, "suitorsOf", "(LLaneCymbals$Lane;I)I"⟩
abbrev cX9_leanAlike : ByteArray := prog_11_method_5_code
def yX9_leanAlike : MethodName := ⟨RX9, "leanAlike", "(LLaneCymbals$Lane;II)Z"⟩
abbrev cX9_mostPairs : ByteArray := prog_11_method_6_code
def yX9_mostPairs : MethodName := ⟨RX9, "mostPairs", "([III)I"⟩
abbrev cX9_firstChoice : ByteArray := prog_11_method_7_code
def yX9_firstChoice : MethodName := ⟨RX9, "firstChoice", "(III)I"⟩
def RX10 : String := "LaneCymbals"
def TX10 : u_T := fun k => match k with
  | 0 => ("LaneCymbals", "now", "LLaneCymbals$Houses;", true)
  | 1 => ("LaneCymbals", "firstImage", "LLaneCymbals$Houses;", true)
  | 2 => ("LaneCymbals", "secondImage", "LLaneCymbals$Houses;", true)
  | 3 => ("LaneCymbals", "firstKept", "Z", false)
  | 4 => ("LaneCymbals", "secondKept", "Z", false)
  | 5 => ("LaneCymbals", "text", "LLaneCymbals$Text;", true)
  | 6 => ("LaneCymbals", "fraction", "LLaneCymbals$Fraction;", true)
  | 7 => ("LaneCymbals", "trial", "LLaneCymbals$Trial;", true)
  | 8 => ("LaneCymbals", "guess", "LLaneCymbals$Guess;", true)
  | 9 => ("LaneCymbals", "wedding", "LLaneCymbals$Wedding;", true)
  | 10 => ("LaneCymbals", "badCalls", "I", false)
  | 11 => ("LaneCymbals", "noCalls", "I", false)
  | _ => ("LaneCymbals", "fullCalls", "I", false)
def tyX10 : Nat → FieldType := fun k => match k with
  | 0 => .object "LaneCymbals$Houses"
  | 1 => .object "LaneCymbals$Houses"
  | 2 => .object "LaneCymbals$Houses"
  | 3 => .boolean
  | 4 => .boolean
  | 5 => .object "LaneCymbals$Text"
  | 6 => .object "LaneCymbals$Fraction"
  | 7 => .object "LaneCymbals$Trial"
  | 8 => .object "LaneCymbals$Guess"
  | 9 => .object "LaneCymbals$Wedding"
  | 10 => .int
  | 11 => .int
  | _ => .int
theorem nmX10 : ∀ a, a < 13 → ∀ b, b < 13 → a ≠ b → (TX10 a).2.1 ≠ (TX10 b).2.1 := by decide +kernel
theorem tyX10_ok : ∀ k, k < 13 → parseFieldDescriptor (TX10 k).2.2.1 = some (tyX10 k) := by decide +kernel
abbrev cX10_init : ByteArray := prog_1_method_1_code
def yX10_init : MethodName := ⟨RX10, "<init>", "()V"⟩
abbrev cX10_lane : ByteArray := prog_1_method_2_code
def yX10_lane : MethodName := ⟨RX10, "lane", "(I)I"⟩
abbrev cX10_wide : ByteArray := prog_1_method_3_code
def yX10_wide : MethodName := ⟨RX10, "wide", "(I)I"⟩
abbrev cX10_one : ByteArray := prog_1_method_4_code
def yX10_one : MethodName := ⟨RX10, "one", "(III)I"⟩
abbrev cX10_aunt : ByteArray := prog_1_method_5_code
def yX10_aunt : MethodName := ⟨RX10, "aunt", "(II)I"⟩
abbrev cX10_type : ByteArray := prog_1_method_6_code
def yX10_type : MethodName := ⟨RX10, "type", "(I)I"⟩
abbrev cX10_clear : ByteArray := prog_1_method_7_code
def yX10_clear : MethodName := ⟨RX10, "clear", "()I"⟩
abbrev cX10_read : ByteArray := prog_1_method_8_code
def yX10_read : MethodName := ⟨RX10, "read", "()I"⟩
abbrev cX10_counts : ByteArray := prog_1_method_9_code
def yX10_counts : MethodName := ⟨RX10, "counts", "(I)I"⟩
abbrev cX10_swings : ByteArray := prog_1_method_10_code
def yX10_swings : MethodName := ⟨RX10, "swings", "(II)I"⟩
abbrev cX10_sends : ByteArray := prog_1_method_11_code
def yX10_sends : MethodName := ⟨RX10, "sends", "(II)I"⟩
abbrev cX10_undo : ByteArray := prog_1_method_12_code
def yX10_undo : MethodName := ⟨RX10, "undo", "()I"⟩
abbrev cX10_of : ByteArray := prog_1_method_13_code
def yX10_of : MethodName := ⟨RX10, "of", "(II)I"⟩
abbrev cX10_about : ByteArray := prog_1_method_14_code
def yX10_about : MethodName := ⟨RX10, "about", "(II)I"⟩
abbrev cX10_leans : ByteArray := prog_1_method_15_code
def yX10_leans : MethodName := ⟨RX10, "leans", "(III)I"⟩
abbrev cX10_sound : ByteArray := prog_1_method_16_code
def yX10_sound : MethodName := ⟨RX10, "sound", "(I)I"⟩
abbrev cX10_entry : ByteArray := prog_1_method_17_code
def yX10_entry : MethodName := ⟨RX10, "entry", "()I"⟩
abbrev cX10_then : ByteArray := prog_1_method_18_code
def yX10_then : MethodName := ⟨RX10, "then", "(I)I"⟩
abbrev cX10_still : ByteArray := prog_1_method_19_code
def yX10_still : MethodName := ⟨RX10, "still", "(I)I"⟩
abbrev cX10_push : ByteArray := prog_1_method_20_code
def yX10_push : MethodName := ⟨RX10, "push", "(II)I"⟩
abbrev cX10_widest : ByteArray := prog_1_method_21_code
def yX10_widest : MethodName := ⟨RX10, "widest", "()I"⟩
abbrev cX10_wrong : ByteArray := prog_1_method_22_code
def yX10_wrong : MethodName := ⟨RX10, "wrong", "(I)I"⟩
abbrev cX10_marry : ByteArray := prog_1_method_23_code
def yX10_marry : MethodName := ⟨RX10, "marry", "(I)I"⟩
abbrev cX10_heard : ByteArray := prog_1_method_24_code
def yX10_heard : MethodName := ⟨RX10, "heard", "(II)I"⟩
abbrev cX10_lanes : ByteArray := prog_1_method_25_code
def yX10_lanes : MethodName := ⟨RX10, "lanes", "()I"⟩
abbrev cX10_swung : ByteArray := prog_1_method_26_code
def yX10_swung : MethodName := ⟨RX10, "swung", "(I)I"⟩
abbrev cX10_hear : ByteArray := prog_1_method_27_code
def yX10_hear : MethodName := ⟨RX10, "hear", "()I"⟩
abbrev cX10_note : ByteArray := prog_1_method_28_code
def yX10_note : MethodName := ⟨RX10, "note", "(IIII)I"⟩
abbrev cX10_mark : ByteArray := prog_1_method_29_code
def yX10_mark : MethodName := ⟨RX10, "mark", "(IIII)I"⟩
abbrev cX10_forget : ByteArray := prog_1_method_30_code
def yX10_forget : MethodName := ⟨RX10, "forget", "(I)I"⟩
abbrev cX10_is : ByteArray := prog_1_method_31_code
def yX10_is : MethodName := ⟨RX10, "is", "(I)I"⟩
abbrev cX10_look : ByteArray := prog_1_method_32_code
def yX10_look : MethodName := ⟨RX10, "look", "(I)I"⟩
abbrev cX10_kinds : ByteArray := prog_1_method_33_code
def yX10_kinds : MethodName := ⟨RX10, "kinds", "(I)I"⟩
abbrev cX10_ask : ByteArray := prog_1_method_34_code
def yX10_ask : MethodName := ⟨RX10, "ask", "(I)I"⟩
abbrev cX10_game : ByteArray := prog_1_method_35_code
def yX10_game : MethodName := ⟨RX10, "game", "(IIII)I"⟩
abbrev cX10_slips : ByteArray := prog_1_method_36_code
def yX10_slips : MethodName := ⟨RX10, "slips", "(II)I"⟩
abbrev cX10_reigns : ByteArray := prog_1_method_37_code
def yX10_reigns : MethodName := ⟨RX10, "reigns", "(II)I"⟩
abbrev cX10_part : ByteArray := prog_1_method_38_code
def yX10_part : MethodName := ⟨RX10, "part", "(I)J"⟩
abbrev cX10_image : ByteArray := prog_1_method_39_code
def yX10_image : MethodName := ⟨RX10, "image", "(I)I"⟩
abbrev cX10_from : ByteArray := prog_1_method_40_code
def yX10_from : MethodName := ⟨RX10, "from", "(I)I"⟩
abbrev cX10_status : ByteArray := prog_1_method_41_code
def yX10_status : MethodName := ⟨RX10, "status", "(I)I"⟩
abbrev cX10_count : ByteArray := prog_1_method_42_code
def yX10_count : MethodName := ⟨RX10, "count", "(I)I"⟩
abbrev cX10_digest : ByteArray := prog_1_method_43_code
def yX10_digest : MethodName := ⟨RX10, "digest", "()J"⟩
abbrev cX10_numberOf : ByteArray := prog_1_method_44_code
def yX10_numberOf : MethodName := ⟨RX10, "numberOf", "(I)I"⟩
abbrev cX10_added : ByteArray := prog_1_method_45_code
def yX10_added : MethodName := ⟨RX10, "added", "(LLaneCymbals$Rows;Z)I"⟩
abbrev cX10_refuseBad : ByteArray := prog_1_method_46_code
def yX10_refuseBad : MethodName := ⟨RX10, "refuseBad", "(I)I"⟩
abbrev cX10_refuseNo : ByteArray := prog_1_method_47_code
def yX10_refuseNo : MethodName := ⟨RX10, "refuseNo", "()I"⟩
abbrev cX10_refuseFull : ByteArray := prog_1_method_48_code
def yX10_refuseFull : MethodName := ⟨RX10, "refuseFull", "()I"⟩
abbrev cX10_outside : ByteArray := prog_1_method_49_code
def yX10_outside : MethodName := ⟨RX10, "outside", "(III)Z"⟩
abbrev cX10_notKind : ByteArray := prog_1_method_50_code
def yX10_notKind : MethodName := ⟨RX10, "notKind", "(I)Z"⟩
abbrev cX10_notHouse : ByteArray := prog_1_method_51_code
def yX10_notHouse : MethodName := ⟨RX10, "notHouse", "(I)Z"⟩
abbrev cX10_notSwing : ByteArray := prog_1_method_52_code
def yX10_notSwing : MethodName := ⟨RX10, "notSwing", "(I)Z"⟩
abbrev cX10_notAsked : ByteArray := prog_1_method_53_code
def yX10_notAsked : MethodName := ⟨RX10, "notAsked", "(I)Z"⟩
abbrev cX10_notLean : ByteArray := prog_1_method_54_code
def yX10_notLean : MethodName := ⟨RX10, "notLean", "(I)Z"⟩
abbrev cX10_hasBit : ByteArray := prog_1_method_55_code
def yX10_hasBit : MethodName := ⟨RX10, "hasBit", "(II)Z"⟩
abbrev cX10_folded : ByteArray := prog_1_method_56_code
def yX10_folded : MethodName := ⟨RX10, "folded", "(JJ)J"⟩
abbrev cX10_copyInto : ByteArray := prog_1_method_57_code
def yX10_copyInto : MethodName := ⟨RX10, "copyInto", "([I[I)V"⟩
abbrev cX10_power : ByteArray := prog_1_method_58_code
def yX10_power : MethodName := ⟨RX10, "power", "(JI)J"⟩
def RX11 : String := "LaneCymbalsModel"
def TX11 : u_T := fun k => match k with
  | 0 => ("LaneCymbalsModel", "row", "[I", true)
  | 1 => ("LaneCymbalsModel", "isKept", "[Z", true)
  | 2 => ("LaneCymbalsModel", "refused", "[I", true)
  | 3 => ("LaneCymbalsModel", "above", "J", false)
  | 4 => ("LaneCymbalsModel", "below", "J", false)
  | 5 => ("LaneCymbalsModel", "text", "[I", true)
  | 6 => ("LaneCymbalsModel", "length", "I", false)
  | 7 => ("LaneCymbalsModel", "words", "[I", true)
  | 8 => ("LaneCymbalsModel", "at", "I", false)
  | 9 => ("LaneCymbalsModel", "behind", "I", false)
  | 10 => ("LaneCymbalsModel", "readPeople", "I", false)
  | 11 => ("LaneCymbalsModel", "readAunts", "I", false)
  | 12 => ("LaneCymbalsModel", "doing", "Z", false)
  | 13 => ("LaneCymbalsModel", "leanings", "[I", true)
  | 14 => ("LaneCymbalsModel", "left", "[I", true)
  | 15 => ("LaneCymbalsModel", "right", "[I", true)
  | 16 => ("LaneCymbalsModel", "lefts", "I", false)
  | 17 => ("LaneCymbalsModel", "rights", "I", false)
  | 18 => ("LaneCymbalsModel", "mates", "[I", true)
  | 19 => ("LaneCymbalsModel", "best", "[I", true)
  | 20 => ("LaneCymbalsModel", "comes", "[I", true)
  | _ => ("LaneCymbalsModel", "both", "[I", true)
def tyX11 : Nat → FieldType := fun k => match k with
  | 0 => .array .int
  | 1 => .array .boolean
  | 2 => .array .int
  | 3 => .long
  | 4 => .long
  | 5 => .array .int
  | 6 => .int
  | 7 => .array .int
  | 8 => .int
  | 9 => .int
  | 10 => .int
  | 11 => .int
  | 12 => .boolean
  | 13 => .array .int
  | 14 => .array .int
  | 15 => .array .int
  | 16 => .int
  | 17 => .int
  | 18 => .array .int
  | 19 => .array .int
  | 20 => .array .int
  | _ => .array .int
theorem nmX11 : ∀ a, a < 22 → ∀ b, b < 22 → a ≠ b → (TX11 a).2.1 ≠ (TX11 b).2.1 := by decide +kernel
theorem tyX11_ok : ∀ k, k < 22 → parseFieldDescriptor (TX11 k).2.2.1 = some (tyX11 k) := by decide +kernel
abbrev cX11_init : ByteArray := prog_13_method_1_code
def yX11_init : MethodName := ⟨RX11, "<init>", "()V"⟩
abbrev cX11_in : ByteArray := prog_13_method_2_code
def yX11_in : MethodName := ⟨RX11, "in", "(III)Z"⟩
abbrev cX11_has : ByteArray := prog_13_method_3_code
def yX11_has : MethodName := ⟨RX11, "has", "(II)Z"⟩
abbrev cX11_bits : ByteArray := prog_13_method_4_code
def yX11_bits : MethodName := ⟨RX11, "bits", "(I)I"⟩
abbrev cX11_refuse : ByteArray := prog_13_method_5_code
def yX11_refuse : MethodName := ⟨RX11, "refuse", "(I)I"⟩
abbrev cX11_layHouses : ByteArray := prog_13_method_6_code
def yX11_layHouses : MethodName := ⟨RX11, "layHouses", "(I)V"⟩
abbrev cX11_lane : ByteArray := prog_13_method_7_code
def yX11_lane : MethodName := ⟨RX11, "lane", "(I)I"⟩
abbrev cX11_wide : ByteArray := prog_13_method_8_code
def yX11_wide : MethodName := ⟨RX11, "wide", "(I)I"⟩
abbrev cX11_addOne : ByteArray := prog_13_method_9_code
def yX11_addOne : MethodName := ⟨RX11, "addOne", "(III)V"⟩
abbrev cX11_one : ByteArray := prog_13_method_10_code
def yX11_one : MethodName := ⟨RX11, "one", "(III)I"⟩
abbrev cX11_addAunt : ByteArray := prog_13_method_11_code
def yX11_addAunt : MethodName := ⟨RX11, "addAunt", "(II)V"⟩
abbrev cX11_aunt : ByteArray := prog_13_method_12_code
def yX11_aunt : MethodName := ⟨RX11, "aunt", "(II)I"⟩
abbrev cX11_type : ByteArray := prog_13_method_13_code
def yX11_type : MethodName := ⟨RX11, "type", "(I)I"⟩
abbrev cX11_clear : ByteArray := prog_13_method_14_code
def yX11_clear : MethodName := ⟨RX11, "clear", "()I"⟩
abbrev cX11_isLetter : ByteArray := prog_13_method_15_code
def yX11_isLetter : MethodName := ⟨RX11, "isLetter", "(I)Z"⟩
abbrev cX11_isFigure : ByteArray := prog_13_method_16_code
def yX11_isFigure : MethodName := ⟨RX11, "isFigure", "(I)Z"⟩
abbrev cX11_next : ByteArray := prog_13_method_17_code
def yX11_next : MethodName := ⟨RX11, "next", "()V"⟩
abbrev cX11_isWord : ByteArray := prog_13_method_18_code
def yX11_isWord : MethodName := ⟨RX11, "isWord", "(I)Z"⟩
abbrev cX11_wordHere : ByteArray := prog_13_method_19_code
def yX11_wordHere : MethodName := ⟨RX11, "wordHere", "()I"⟩
abbrev cX11_number : ByteArray := prog_13_method_20_code
def yX11_number : MethodName := ⟨RX11, "number", "(II)I"⟩
abbrev cX11_readsLane : ByteArray := prog_13_method_21_code
def yX11_readsLane : MethodName := ⟨RX11, "readsLane", "()Z"⟩
abbrev cX11_readsOne : ByteArray := prog_13_method_22_code
def yX11_readsOne : MethodName := ⟨RX11, "readsOne", "()Z"⟩
abbrev cX11_readsAunt : ByteArray := prog_13_method_23_code
def yX11_readsAunt : MethodName := ⟨RX11, "readsAunt", "()Z"⟩
abbrev cX11_readsItem : ByteArray := prog_13_method_24_code
def yX11_readsItem : MethodName := ⟨RX11, "readsItem", "(I)Z"⟩
abbrev cX11_readItems : ByteArray := prog_13_method_25_code
def yX11_readItems : MethodName := ⟨RX11, "readItems", "(Z)I"⟩
abbrev cX11_read : ByteArray := prog_13_method_26_code
def yX11_read : MethodName := ⟨RX11, "read", "()I"⟩
abbrev cX11_leansBy : ByteArray := prog_13_method_27_code
def yX11_leansBy : MethodName := ⟨RX11, "leansBy", "(III)I"⟩
abbrev cX11_dampedPlain : ByteArray := prog_13_method_28_code
def yX11_dampedPlain : MethodName := ⟨RX11, "dampedPlain", "(I)I"⟩
abbrev cX11_dampedBy : ByteArray := prog_13_method_29_code
def yX11_dampedBy : MethodName := ⟨RX11, "dampedBy", "(III)I"⟩
abbrev cX11_leaning : ByteArray := prog_13_method_30_code
def yX11_leaning : MethodName := ⟨RX11, "leaning", "(III)I"⟩
abbrev cX11_soundBy : ByteArray := prog_13_method_31_code
def yX11_soundBy : MethodName := ⟨RX11, "soundBy", "(IIII)I"⟩
abbrev cX11_soundAt : ByteArray := prog_13_method_32_code
def yX11_soundAt : MethodName := ⟨RX11, "soundAt", "(II)I"⟩
abbrev cX11_goBy : ByteArray := prog_13_method_33_code
def yX11_goBy : MethodName := ⟨RX11, "goBy", "(II)V"⟩
abbrev cX11_keepPast : ByteArray := prog_13_method_34_code
def yX11_keepPast : MethodName := ⟨RX11, "keepPast", "()V"⟩
abbrev cX11_isOne : ByteArray := prog_13_method_35_code
def yX11_isOne : MethodName := ⟨RX11, "isOne", "(I)Z"⟩
abbrev cX11_isAunt : ByteArray := prog_13_method_36_code
def yX11_isAunt : MethodName := ⟨RX11, "isAunt", "(I)Z"⟩
abbrev cX11_counts : ByteArray := prog_13_method_37_code
def yX11_counts : MethodName := ⟨RX11, "counts", "(I)I"⟩
abbrev cX11_swings : ByteArray := prog_13_method_38_code
def yX11_swings : MethodName := ⟨RX11, "swings", "(II)I"⟩
abbrev cX11_sends : ByteArray := prog_13_method_39_code
def yX11_sends : MethodName := ⟨RX11, "sends", "(II)I"⟩
abbrev cX11_undo : ByteArray := prog_13_method_40_code
def yX11_undo : MethodName := ⟨RX11, "undo", "()I"⟩
abbrev cX11_of : ByteArray := prog_13_method_41_code
def yX11_of : MethodName := ⟨RX11, "of", "(II)I"⟩
abbrev cX11_about : ByteArray := prog_13_method_42_code
def yX11_about : MethodName := ⟨RX11, "about", "(II)I"⟩
abbrev cX11_badAs : ByteArray := prog_13_method_43_code
def yX11_badAs : MethodName := ⟨RX11, "badAs", "(I)I"⟩
abbrev cX11_leans : ByteArray := prog_13_method_44_code
def yX11_leans : MethodName := ⟨RX11, "leans", "(III)I"⟩
abbrev cX11_sound : ByteArray := prog_13_method_45_code
def yX11_sound : MethodName := ⟨RX11, "sound", "(I)I"⟩
abbrev cX11_entry : ByteArray := prog_13_method_46_code
def yX11_entry : MethodName := ⟨RX11, "entry", "()I"⟩
abbrev cX11_layTried : ByteArray := prog_13_method_47_code
def yX11_layTried : MethodName := ⟨RX11, "layTried", "()V"⟩
abbrev cX11_then : ByteArray := prog_13_method_48_code
def yX11_then : MethodName := ⟨RX11, "then", "(I)I"⟩
abbrev cX11_isStill : ByteArray := prog_13_method_49_code
def yX11_isStill : MethodName := ⟨RX11, "isStill", "(I)Z"⟩
abbrev cX11_still : ByteArray := prog_13_method_50_code
def yX11_still : MethodName := ⟨RX11, "still", "(I)I"⟩
abbrev cX11_push : ByteArray := prog_13_method_51_code
def yX11_push : MethodName := ⟨RX11, "push", "(II)I"⟩
abbrev cX11_widest : ByteArray := prog_13_method_52_code
def yX11_widest : MethodName := ⟨RX11, "widest", "()I"⟩
abbrev cX11_wrong : ByteArray := prog_13_method_53_code
def yX11_wrong : MethodName := ⟨RX11, "wrong", "(I)I"⟩
abbrev cX11_areAlike : ByteArray := prog_13_method_54_code
def yX11_areAlike : MethodName := ⟨RX11, "areAlike", "(II)Z"⟩
abbrev cX11_laySides : ByteArray := prog_13_method_55_code
def yX11_laySides : MethodName := ⟨RX11, "laySides", "()V"⟩
abbrev cX11_pairsBy : ByteArray := prog_13_method_56_code
def yX11_pairsBy : MethodName := ⟨RX11, "pairsBy", "(I)I"⟩
abbrev cX11_mostPairs : ByteArray := prog_13_method_57_code
def yX11_mostPairs : MethodName := ⟨RX11, "mostPairs", "()I"⟩
abbrev cX11_marry : ByteArray := prog_13_method_58_code
def yX11_marry : MethodName := ⟨RX11, "marry", "(I)I"⟩
abbrev cX11_heard : ByteArray := prog_13_method_59_code
def yX11_heard : MethodName := ⟨RX11, "heard", "(II)I"⟩
abbrev cX11_isHeardSo : ByteArray := prog_13_method_60_code
def yX11_isHeardSo : MethodName := ⟨RX11, "isHeardSo", "(II)Z"⟩
abbrev cX11_lanes : ByteArray := prog_13_method_61_code
def yX11_lanes : MethodName := ⟨RX11, "lanes", "()I"⟩
abbrev cX11_swung : ByteArray := prog_13_method_62_code
def yX11_swung : MethodName := ⟨RX11, "swung", "(I)I"⟩
abbrev cX11_hear : ByteArray := prog_13_method_63_code
def yX11_hear : MethodName := ⟨RX11, "hear", "()I"⟩
abbrev cX11_note : ByteArray := prog_13_method_64_code
def yX11_note : MethodName := ⟨RX11, "note", "(IIII)I"⟩
abbrev cX11_mark : ByteArray := prog_13_method_65_code
def yX11_mark : MethodName := ⟨RX11, "mark", "(IIII)I"⟩
abbrev cX11_forget : ByteArray := prog_13_method_66_code
def yX11_forget : MethodName := ⟨RX11, "forget", "(I)I"⟩
abbrev cX11_kindsOf : ByteArray := prog_13_method_67_code
def yX11_kindsOf : MethodName := ⟨RX11, "kindsOf", "(I)I"⟩
abbrev cX11_is : ByteArray := prog_13_method_68_code
def yX11_is : MethodName := ⟨RX11, "is", "(I)I"⟩
abbrev cX11_mostAlike : ByteArray := prog_13_method_69_code
def yX11_mostAlike : MethodName := ⟨RX11, "mostAlike", "(I)I"⟩
abbrev cX11_look : ByteArray := prog_13_method_70_code
def yX11_look : MethodName := ⟨RX11, "look", "(I)I"⟩
abbrev cX11_auntKinds : ByteArray := prog_13_method_71_code
def yX11_auntKinds : MethodName := ⟨RX11, "auntKinds", "(I)I"⟩
abbrev cX11_kinds : ByteArray := prog_13_method_72_code
def yX11_kinds : MethodName := ⟨RX11, "kinds", "(I)I"⟩
abbrev cX11_ask : ByteArray := prog_13_method_73_code
def yX11_ask : MethodName := ⟨RX11, "ask", "(I)I"⟩
abbrev cX11_rests : ByteArray := prog_13_method_74_code
def yX11_rests : MethodName := ⟨RX11, "rests", "(II)Z"⟩
abbrev cX11_game : ByteArray := prog_13_method_75_code
def yX11_game : MethodName := ⟨RX11, "game", "(IIII)I"⟩
abbrev cX11_tell : ByteArray := prog_13_method_76_code
def yX11_tell : MethodName := ⟨RX11, "tell", "(JJ)V"⟩
abbrev cX11_slips : ByteArray := prog_13_method_77_code
def yX11_slips : MethodName := ⟨RX11, "slips", "(II)I"⟩
abbrev cX11_reigns : ByteArray := prog_13_method_78_code
def yX11_reigns : MethodName := ⟨RX11, "reigns", "(II)I"⟩
abbrev cX11_part : ByteArray := prog_13_method_79_code
def yX11_part : MethodName := ⟨RX11, "part", "(I)J"⟩
abbrev cX11_image : ByteArray := prog_13_method_80_code
def yX11_image : MethodName := ⟨RX11, "image", "(I)I"⟩
abbrev cX11_from : ByteArray := prog_13_method_81_code
def yX11_from : MethodName := ⟨RX11, "from", "(I)I"⟩
abbrev cX11_status : ByteArray := prog_13_method_82_code
def yX11_status : MethodName := ⟨RX11, "status", "(I)I"⟩
abbrev cX11_countOf : ByteArray := prog_13_method_83_code
def yX11_countOf : MethodName := ⟨RX11, "countOf", "(I)I"⟩
abbrev cX11_count : ByteArray := prog_13_method_84_code
def yX11_count : MethodName := ⟨RX11, "count", "(I)I"⟩
abbrev cX11_join : ByteArray := prog_13_method_85_code
def yX11_join : MethodName := ⟨RX11, "join", "(JII)J"⟩
abbrev cX11_digest : ByteArray := prog_13_method_86_code
def yX11_digest : MethodName := ⟨RX11, "digest", "()J"⟩
def RJ6 : String := "java/lang/Integer"
def TJ6 : u_T := fun k => match k with
  | _ => ("", "", "", false)
def tyJ6 : Nat → FieldType := fun k => match k with
  | _ => .int
theorem nmJ6 : ∀ a, a < 0 → ∀ b, b < 0 → a ≠ b → (TJ6 a).2.1 ≠ (TJ6 b).2.1 := by decide +kernel
theorem tyJ6_ok : ∀ k, k < 0 → parseFieldDescriptor (TJ6 k).2.2.1 = some (tyJ6 k) := by decide +kernel
abbrev cJ6_bitCount_0f7a4 : ByteArray := prog_14_method_49_code
def yJ6_bitCount_0f7a4 : MethodName := ⟨RJ6, "bitCount", "(I)I"⟩
def RJ9 : String := "java/lang/Math"
def TJ9 : u_T := fun k => match k with
  | _ => ("", "", "", false)
def tyJ9 : Nat → FieldType := fun k => match k with
  | _ => .int
theorem nmJ9 : ∀ a, a < 0 → ∀ b, b < 0 → a ≠ b → (TJ9 a).2.1 ≠ (TJ9 b).2.1 := by decide +kernel
theorem tyJ9_ok : ∀ k, k < 0 → parseFieldDescriptor (TJ9 k).2.2.1 = some (tyJ9 k) := by decide +kernel
abbrev cJ9_abs_0f7a4 : ByteArray := prog_15_method_59_code
def yJ9_abs_0f7a4 : MethodName := ⟨RJ9, "abs", "(I)I"⟩
abbrev cJ9_max_7cf53 : ByteArray := prog_15_method_65_code
def yJ9_max_7cf53 : MethodName := ⟨RJ9, "max", "(II)I"⟩
abbrev cJ9_min_7cf53 : ByteArray := prog_15_method_69_code
def yJ9_min_7cf53 : MethodName := ⟨RJ9, "min", "(II)I"⟩
def RJ0 : String := "java/lang/String"
def TJ0 : u_T := fun k => match k with
  | _ => ("", "", "", false)
def tyJ0 : Nat → FieldType := fun k => match k with
  | _ => .int
theorem nmJ0 : ∀ a, a < 0 → ∀ b, b < 0 → a ≠ b → (TJ0 a).2.1 ≠ (TJ0 b).2.1 := by decide +kernel
theorem tyJ0_ok : ∀ k, k < 0 → parseFieldDescriptor (TJ0 k).2.2.1 = some (tyJ0 k) := by decide +kernel
abbrev cJ0_length_8abf5 : ByteArray := prog_16_method_54_code
def yJ0_length_8abf5 : MethodName := ⟨RJ0, "length", "()I"⟩
abbrev cJ0_charAt_5068e : ByteArray := prog_16_method_56_code
def yJ0_charAt_5068e : MethodName := ⟨RJ0, "charAt", "(I)C"⟩
abbrev cJ0_coder_7d493 : ByteArray := prog_16_method_152_code
def yJ0_coder_7d493 : MethodName := ⟨RJ0, "coder", "()B"⟩
abbrev cJ0_isLatin1_aae02 : ByteArray := prog_16_method_154_code
def yJ0_isLatin1_aae02 : MethodName := ⟨RJ0, "isLatin1", "()Z"⟩
abbrev cJ0_checkIndex_df160 : ByteArray := prog_16_method_155_code
def yJ0_checkIndex_df160 : MethodName := ⟨RJ0, "checkIndex", "(II)V"⟩
def RJ1 : String := "java/lang/StringLatin1"
def TJ1 : u_T := fun k => match k with
  | _ => ("", "", "", false)
def tyJ1 : Nat → FieldType := fun k => match k with
  | _ => .int
theorem nmJ1 : ∀ a, a < 0 → ∀ b, b < 0 → a ≠ b → (TJ1 a).2.1 ≠ (TJ1 b).2.1 := by decide +kernel
theorem tyJ1_ok : ∀ k, k < 0 → parseFieldDescriptor (TJ1 k).2.2.1 = some (tyJ1 k) := by decide +kernel
abbrev cJ1_charAt_3b067 : ByteArray := prog_17_method_2_code
def yJ1_charAt_3b067 : MethodName := ⟨RJ1, "charAt", "([BI)C"⟩
def RJ2 : String := "java/lang/StringUTF16"
def TJ2 : u_T := fun k => match k with
  | _ => ("", "", "", false)
def tyJ2 : Nat → FieldType := fun k => match k with
  | _ => .int
theorem nmJ2 : ∀ a, a < 0 → ∀ b, b < 0 → a ≠ b → (TJ2 a).2.1 ≠ (TJ2 b).2.1 := by decide +kernel
theorem tyJ2_ok : ∀ k, k < 0 → parseFieldDescriptor (TJ2 k).2.2.1 = some (tyJ2 k) := by decide +kernel
abbrev cJ2_getChar_3b067 : ByteArray := prog_18_method_5_code
def yJ2_getChar_3b067 : MethodName := ⟨RJ2, "getChar", "([BI)C"⟩
abbrev cJ2_length_9d52b : ByteArray := prog_18_method_6_code
def yJ2_length_9d52b : MethodName := ⟨RJ2, "length", "([B)I"⟩
abbrev cJ2_charAt_3b067 : ByteArray := prog_18_method_83_code
def yJ2_charAt_3b067 : MethodName := ⟨RJ2, "charAt", "([BI)C"⟩
abbrev cJ2_checkIndex_2214a : ByteArray := prog_18_method_91_code
def yJ2_checkIndex_2214a : MethodName := ⟨RJ2, "checkIndex", "(I[B)V"⟩
def RJ3 : String := "jdk/internal/util/Preconditions"
def TJ3 : u_T := fun k => match k with
  | _ => ("", "", "", false)
def tyJ3 : Nat → FieldType := fun k => match k with
  | _ => .int
theorem nmJ3 : ∀ a, a < 0 → ∀ b, b < 0 → a ≠ b → (TJ3 a).2.1 ≠ (TJ3 b).2.1 := by decide +kernel
theorem tyJ3_ok : ∀ k, k < 0 → parseFieldDescriptor (TJ3 k).2.2.1 = some (tyJ3 k) := by decide +kernel
abbrev cJ3_checkIndex_8e157 : ByteArray := prog_19_method_11_code
def yJ3_checkIndex_8e157 : MethodName := ⟨RJ3, "checkIndex", "(IILjava/util/function/BiFunction;)I"⟩
def RL : String := "LaneCymbalsLaw"
abbrev cL_law : ByteArray := code
def yL_law : MethodName := ⟨RL, "law", "([I)Z"⟩
end
section
/-! THE LAYER: an abstract memory over a fixed shape of cells; GG: the machine stands in a method of ours and ends with Q; SPC: a method's contract. -/
/-- an abstract memory: whole numbers by cell and slot, longs by cell and slot -/
abbrev gM : Type := (Nat → Nat → Int32) × (Nat → Nat → Int64)
def mrd (μ : gM) (c k : Nat) : Int32 := μ.1 c k
def mrL (μ : gM) (c k : Nat) : Int64 := μ.2 c k
def mwr (μ : gM) (c k : Nat) (v : Int32) : gM := (fun c' k' => if c' = c ∧ k' = k then v else μ.1 c' k', μ.2)
def mwL (μ : gM) (c k : Nat) (v : Int64) : gM := (μ.1, fun c' k' => if c' = c ∧ k' = k then v else μ.2 c' k')
/-- a cell's shape: an array (0: int, 1: boolean) of a length, or an object of a class with its fields (none: int, some none: long, some (some j): the cell j) -/
abbrev gS : Type := (Nat × Nat) ⊕ (Nat × List (Option (Option Nat)))
def gCl : List vw_C := [(RX0, TX0, 2), (RX1, TX1, 1), (RX2, TX2, 5), (RX4, TX4, 11), (RX5, TX5, 2), (RX6, TX6, 2), (RX7, TX7, 6), (RX8, TX8, 2), (RX9, TX9, 3), (RX10, TX10, 13), (RX11, TX11, 22)]
def gShLane (b : Nat) : List gS := [.inr (3, [none, none, some (some (b + 1)), some (some (b + 2)), some (some (b + 3)), none, some (some (b + 4)), some (some (b + 5)), none, none, none]), .inl (0, 7), .inl (0, 7), .inl (0, 7), .inl (0, 4), .inl (0, 4)]
def gShHouses (h : Nat) : List gS := .inr (2, [some (some (h + 1)), some (some (h + 7)), some (some (h + 9)), some (some (h + 11)), some (some (h + 13))]) :: (gShLane (h + 1) ++ [.inr (5, [none, some (some (h + 8))]), .inl (0, 24), .inr (5, [none, some (some (h + 10))]), .inl (0, 24), .inr (5, [none, some (some (h + 12))]), .inl (0, 24), .inr (4, [none, some (some (h + 14))]), .inl (0, 80)])
def gSh : List gS := .inr (9, [some (some 1), some (some 16), some (some 31), none, none, some (some 46), some (some 49), some (some 50), some (some 58), some (some 60), none, none, none]) ::
  (gShHouses 1 ++ (gShHouses 16 ++ (gShHouses 31 ++ (
  [.inr (6, [none, some (some 47), none, none, none, some (some 48)]), .inl (0, 150), .inl (0, 3), .inr (0, [some none, some none]), .inr (7, [some (some 51), some (some 57)])] ++ (gShLane 51 ++ (
  [.inl (0, 20), .inr (1, [some (some 59)]), .inl (0, 6), .inr (8, [none, some (some 61), some (some 62)]), .inl (0, 7), .inl (0, 7)] ++
  [.inr (10, [some (some 64), some (some 65), some (some 66), some none, some none, some (some 67), none, some (some 68), none, none, none, none, none, some (some 69), some (some 70), some (some 71), none, none, some (some 72), some (some 73), some (some 74), some (some 75)]),
   .inl (0, 547), .inl (1, 2), .inl (0, 3), .inl (0, 150), .inl (0, 30), .inl (0, 7), .inl (0, 7), .inl (0, 7), .inl (0, 7), .inl (0, 7), .inl (0, 6), .inl (0, 20)]))))))
theorem gSh_len : gSh.length = 76 := by decide +kernel
/-- where the cells lie: class numbers and slots, addresses, the array classes, the JDK's formatter -/
abbrev gC : Type := va_G × (Nat → Nat) × (ClassId × ClassId) × Value
/-- an abstract value's own: a reference is a cell's place (1000 ..: a String constant), a float stands for the formatter -/
def gv (Γ : gC) : Value → Value
  | .ref a => .ref (Γ.2.1 a)
  | .float _ => Γ.2.2.2
  | .int v => .int v
  | .long v => .long v
  | .double b => .double b
  | .null => .null
  | .retAddr a => .retAddr a
def gls (Γ : gC) (ls : List (Nat × Value)) : List (Nat × Value) := ls.map fun q => (q.1, gv Γ q.2)
def gfv (Γ : gC) (μ : gM) (i k : Nat) : Option (Option Nat) → Value
  | none => .int (mrd μ i k)
  | some none => .long (mrL μ i k)
  | some (some j) => .ref (Γ.2.1 j)
def gE (Γ : gC) (μ : gM) (i : Nat) : gS → va_E
  | .inl a => .inl (if a.1 = 0 then Γ.2.2.1.1 else Γ.2.2.1.2, a.2, .inl (fun k => mrd μ i k))
  | .inr o => .inr (o.1, o.2.mapIdx (fun k f => gfv Γ μ i k f))
def gW (Γ : gC) (μ : gM) : va_W := gSh.mapIdx fun i sh => (Γ.2.1 i, gE Γ μ i sh)
def gT (Γ : gC) : List (ClassId × FieldType) := [(Γ.2.2.1.1, .int), (Γ.2.2.1.2, .boolean)]
def gOwn (Γ : gC) : Nat → Prop := fun q => ∃ i, i < 76 ∧ q = Γ.2.1 i
def gN (Γ : gC) : Prop := (∀ i j, i < 76 → j < 76 → Γ.2.1 i = Γ.2.1 j → i = j) ∧ Γ.2.2.2.category = 1
def gTx : List (Nat × String) := [(95, "lane"), (101, "one"), (103, "aunt"), (105, "away"), (107, "counts")]
def gLen : List Nat := [4, 3, 4, 4, 6]
def gByt : List (List Int32) := [[108, 97, 110, 101], [111, 110, 101], [97, 117, 110, 116], [97, 119, 97, 121], [99, 111, 117, 110, 116, 115]]
/-- what the JDK's own cells hold: the String constants, the two statics -/
def gX (Γ : gC) (A : Nat → Prop) (U : State) (H : Heap) : Prop :=
  vk_S 5 gLen gByt (fun i => Γ.2.1 (1000 + i)) (fun i => Γ.2.1 (1100 + i)) A U H ∧
  (∀ (i : Nat) (q : Nat × String), gTx[i]? = some q → vk_R "LaneCymbals$Text" q.1 q.2 (Γ.2.1 (1000 + i)) U) ∧
  va_Z "java/lang/String" "COMPACT_STRINGS" "Z" (.int 1) A U H ∧ va_Z "jdk/internal/util/Preconditions" "SIOOBE_FORMATTER" "Ljava/util/function/BiFunction;" Γ.2.2.2 A U H ∧
  ∀ (a : String) (i : Nat) (x : MethodName) (h : String), Cond.methodLinkNest a i x h ∈ lw_tbl → va_Nw (.methodLinkNest a i x h) U
theorem gX.kept {Γ : gC} {A : Nat → Prop} {U : State} {H H1 : Heap} (h : gX Γ A U H) (hq : ∀ a : Nat, a < H.size → ¬ A a → H1[a]? = H[a]?) : gX Γ A U H1 := ⟨h.1.kept hq, h.2.1, h.2.2.1.kept hq, h.2.2.2.1.kept hq, h.2.2.2.2⟩
theorem gX.warm {Γ : gC} {A : Nat → Prop} {s U : State} {H : Heap} (hW : s.WarmedH U.vm) (h : gX Γ A s H) : gX Γ A U H := ⟨vk_S.moved hW.alike h.1, fun i q hq => vk_R.warm hW (h.2.1 i q hq), va_Z.moved hW.alike h.2.2.1, va_Z.moved hW.alike h.2.2.2.1, fun a i x o hw => va_Nw.warmM hW (h.2.2.2.2 a i x o hw)⟩
theorem gX.same {Γ : gC} {A : Nat → Prop} {u U : State} {H : Heap} (hv : U.vm = u.vm) (h : gX Γ A u H) : gX Γ A U H := by
  have ha : u.vm.Alike U.vm := by rw [hv]; exact Vm.Alike.refl u.vm
  exact ⟨vk_S.moved ha h.1, fun i q hq => vk_R.same hv (h.2.1 i q hq), va_Z.moved ha h.2.2.1, va_Z.moved ha h.2.2.2.1, fun a i x o hw => va_Nw.same rfl hv.symm (h.2.2.2.2 a i x o hw)⟩
/-- a method: name, code, how many locals, what it returns -/
abbrev gMI : Type := MethodName × ByteArray × Nat × Option FieldType
/-- the tables' words that stay true when the tables grow warmer -/
def gTbl : List Cond := lw_tbl.filter goodWord
theorem gTbl_in {w : Cond} (h : w ∈ lw_tbl) (hg : goodWord w = true) : w ∈ gTbl := List.mem_filter.mpr ⟨h, hg⟩
def gRm (d : Nat) : Room := { frames := d, cells := 0, slots := 0, locals := 40 * d }
def gws (y : gMI) : List Cond := .code y.1 y.2.1 y.2.2.1 y.2.2.2 :: gTbl
def gCx (Γ : gC) (y : gMI) (p : Program) (s : State) (m : MethodId) (args : Array Value) (meth : Method) (c : Code) : Prop :=
  p.tables.exec = Jvm.exec ∧ c.code = y.2.1 ∧ meth.sig.returnType = y.2.2.2 ∧ c.maxLocals = y.2.2.1 ∧ s.vm.findClass y.1.cls = some m.cls ∧ (∀ w ∈ gTbl, w.before args s = true) ∧ meth.locks = false ∧ va_K Γ.1 gCl (gT Γ) s ∧ gN Γ ∧ gX Γ (gOwn Γ) s s.heap
def gQ (Γ : gC) (Q : Option Value → gM → Prop) : Array Value → State → Outcome → State → Prop := fun _ st o t => (∃ (r : Option Value) (μ : gM), o = .returned (r.map (gv Γ)) ∧ Q r μ ∧ va_P Γ.1 gCl (gW Γ μ) t.heap) ∧ va_F (gOwn Γ) st t
/-- the machine stands in the method y at pc, with these locals, this stack, this memory; d levels of calls are left; it ends with Q of answer and memory -/
def GG (d : Nat) (y : gMI) (pc : Nat) (ls : List (Nat × Value)) (st : List Value) (μ : gM) (Q : Option Value → gM → Prop) : Prop :=
  ∀ (Γ : gC) (p : Program) (l : Launch) (e : Env) (s : State) (m : MethodId) (args : Array Value) (below : List Frame) (meth : Method) (c : Code) (H : Heap) (locs : List Loc) (lsA : Array Slot), gCx Γ y p s m args meth c → lv_has lsA y.2.2.1 (gls Γ ls) → va_P Γ.1 gCl (gW Γ μ) H → va_S (gOwn Γ) s.heap H locs →
    W p l e (gRm d) s m args below meth c H locs 0 0 (MQ below (gQ Γ Q) args s 0 0 (gOwn Γ)) (F0 m pc lsA (st.map (gv Γ)))
def SPC (d : Nat) (y : gMI) (as : List Value) (μ : gM) (Q : Option Value → gM → Prop) : Prop :=
  ∀ (Γ : gC) (l : Launch), gN Γ → Met l y.1 (gws y) (gRm d) (va_Pc (as.map (gv Γ)) (fun U => va_P Γ.1 gCl (gW Γ μ) U.heap ∧ va_K Γ.1 gCl (gT Γ) U ∧ gX Γ (gOwn Γ) U U.heap)) (gQ Γ Q) 0 0 (gOwn Γ)
theorem gv_cat {Γ : gC} (h : gN Γ) (v : Value) : (gv Γ v).category = v.category := by
  cases v <;> first | rfl | exact h.2
theorem gcat_sum {Γ : gC} (h : gN Γ) (st : List Value) : ((st.map (gv Γ)).map fun v => v.category).sum = (st.map fun v => v.category).sum := by
  induction st with
  | nil => rfl
  | cons v st ih => simp only [List.map_cons, List.sum_cons, gv_cat h, ih]
theorem gargs_map {Γ : gC} (h : gN Γ) (as : List Value) : ∀ k, lv_args k (as.map (gv Γ)) = gls Γ (lv_args k as) := by
  induction as with
  | nil => intro k; rfl
  | cons v as ih => intro k; simp only [List.map_cons, lv_args, gv_cat h, ih, gls]
theorem gsl_len {Γ : gC} (h : gN Γ) (as : List Value) : (lg_sl (as.map (gv Γ))).length = (lg_sl as).length := by
  induction as with
  | nil => rfl
  | cons v as ih =>
    have e : ∀ (w : Value) (l : List Value), (lg_sl (w :: l)).length = (if w.category = 2 then 2 else 1) + (lg_sl l).length := by
      intro w l
      unfold lg_sl
      rw [List.flatMap_cons, List.length_append]
      split <;> rfl
    rw [List.map_cons, e, e, gv_cat h, ih]
/-- a contract out of the walk from the method's entry -/
theorem SPC.of {d : Nat} {y : gMI} {as : List Value} {μ : gM} {Q : Option Value → gM → Prop} {ls : List (Nat × Value)} (hy : plainName y.1.cls = true) (hn : (lg_sl as).length ≤ y.2.2.1) (hls : lv_args 0 as = ls) (h : GG d y 0 ls [] μ Q) : SPC d y as μ Q := by
  intro Γ l hN
  refine Met.ofW (cc := y.2.1) (maxL := y.2.2.1) (ret := y.2.2.2) hy rfl ?_
  intro p e s m args below meth c s₁ B hml hv
  obtain ⟨rfl, hP, hK, hX⟩ := hv
  have hts := atoms_spec (ws := gws y) B.pre
  have hl := lv_entry (as.map (gv Γ)) (n := y.2.2.1) (by rw [gsl_len hN]; exact hn)
  rw [gargs_map hN, hls] at hl
  rw [lg_entry_eq]
  exact h Γ p l e s m _ below meth c s.heap [] _ ⟨B.exec, B.bytes, B.returns, hml, findClass_of_methodNamed B.named, fun w hw => hts w (List.mem_cons_of_mem _ hw), B.notSynchronized, hK, hN, hX⟩ hl hP va_S.rf
end
section
/-! THE RULES: an instruction each, out of the kit's rows. -/
def gD (y : gMI) (pc : Nat) (i : Instr) (n pc' : Nat) : Prop := decode y.2.1 pc = .ok (i, n) ∧ pc + n = pc'
section RULES
variable {d pc pc' : Nat} {y : gMI} {ls ls' : List (Nat × Value)} {st : List Value} {μ : gM} {Q : Option Value → gM → Prop}
theorem GG.iconst {n : Int} {v : Int32} (h : gD y pc (.iconst n) 1 pc') (hv : Int32.ofInt n = v) (k : GG d y pc' ls (.int v :: st) μ Q) : GG d y pc ls (st) μ Q := by
  obtain ⟨hd, rfl⟩ := h
  intro Γ p l e s m args below meth c H locs lsA C hl hP hS
  exact lv_iconst C.1 C.2.1 hd hv (k Γ p l e s m args below meth c H locs lsA C hl hP hS)
theorem GG.bipush {n : Int} {v : Int32} (h : gD y pc (.bipush n) 2 pc') (hv : (Int8.ofInt n).toInt32 = v) (k : GG d y pc' ls (.int v :: st) μ Q) : GG d y pc ls (st) μ Q := by
  obtain ⟨hd, rfl⟩ := h
  intro Γ p l e s m args below meth c H locs lsA C hl hP hS
  exact lv_bipush C.1 C.2.1 hd hv (k Γ p l e s m args below meth c H locs lsA C hl hP hS)
theorem GG.sipush {n : Int} {v : Int32} (h : gD y pc (.sipush n) 3 pc') (hv : (Int16.ofInt n).toInt32 = v) (k : GG d y pc' ls (.int v :: st) μ Q) : GG d y pc ls (st) μ Q := by
  obtain ⟨hd, rfl⟩ := h
  intro Γ p l e s m args below meth c H locs lsA C hl hP hS
  exact lv_sipush C.1 C.2.1 hd hv (k Γ p l e s m args below meth c H locs lsA C hl hP hS)
theorem GG.lconst {n : Fin 2} {v : Int64} (h : gD y pc (.lconst n) 1 pc') (hv : Int64.ofNat (n : Nat) = v) (k : GG d y pc' ls (.long v :: st) μ Q) : GG d y pc ls (st) μ Q := by
  obtain ⟨hd, rfl⟩ := h
  intro Γ p l e s m args below meth c H locs lsA C hl hP hS
  exact lv_lconst C.1 C.2.1 hd hv (k Γ p l e s m args below meth c H locs lsA C hl hP hS)
theorem GG.iadd {x z : Int32} (h : gD y pc .iadd 1 pc') (k : GG d y pc' ls (.int (x + z) :: st) μ Q) : GG d y pc ls (.int z :: .int x :: st) μ Q := by
  obtain ⟨hd, rfl⟩ := h
  intro Γ p l e s m args below meth c H locs lsA C hl hP hS
  exact lv_iadd C.1 C.2.1 hd (k Γ p l e s m args below meth c H locs lsA C hl hP hS)
theorem GG.isub {x z : Int32} (h : gD y pc .isub 1 pc') (k : GG d y pc' ls (.int (x - z) :: st) μ Q) : GG d y pc ls (.int z :: .int x :: st) μ Q := by
  obtain ⟨hd, rfl⟩ := h
  intro Γ p l e s m args below meth c H locs lsA C hl hP hS
  exact lv_isub C.1 C.2.1 hd (k Γ p l e s m args below meth c H locs lsA C hl hP hS)
theorem GG.imul {x z : Int32} (h : gD y pc .imul 1 pc') (k : GG d y pc' ls (.int (x * z) :: st) μ Q) : GG d y pc ls (.int z :: .int x :: st) μ Q := by
  obtain ⟨hd, rfl⟩ := h
  intro Γ p l e s m args below meth c H locs lsA C hl hP hS
  exact lv_imul C.1 C.2.1 hd (k Γ p l e s m args below meth c H locs lsA C hl hP hS)
theorem GG.iand {x z : Int32} (h : gD y pc .iand 1 pc') (k : GG d y pc' ls (.int (x &&& z) :: st) μ Q) : GG d y pc ls (.int z :: .int x :: st) μ Q := by
  obtain ⟨hd, rfl⟩ := h
  intro Γ p l e s m args below meth c H locs lsA C hl hP hS
  exact lv_iand C.1 C.2.1 hd (k Γ p l e s m args below meth c H locs lsA C hl hP hS)
theorem GG.ior {x z : Int32} (h : gD y pc .ior 1 pc') (k : GG d y pc' ls (.int (x ||| z) :: st) μ Q) : GG d y pc ls (.int z :: .int x :: st) μ Q := by
  obtain ⟨hd, rfl⟩ := h
  intro Γ p l e s m args below meth c H locs lsA C hl hP hS
  exact lv_ior C.1 C.2.1 hd (k Γ p l e s m args below meth c H locs lsA C hl hP hS)
theorem GG.ixor {x z : Int32} (h : gD y pc .ixor 1 pc') (k : GG d y pc' ls (.int (x ^^^ z) :: st) μ Q) : GG d y pc ls (.int z :: .int x :: st) μ Q := by
  obtain ⟨hd, rfl⟩ := h
  intro Γ p l e s m args below meth c H locs lsA C hl hP hS
  exact lv_ixor C.1 C.2.1 hd (k Γ p l e s m args below meth c H locs lsA C hl hP hS)
theorem GG.ishl {x z : Int32} (h : gD y pc .ishl 1 pc') (k : GG d y pc' ls (.int (x <<< (z &&& 31)) :: st) μ Q) : GG d y pc ls (.int z :: .int x :: st) μ Q := by
  obtain ⟨hd, rfl⟩ := h
  intro Γ p l e s m args below meth c H locs lsA C hl hP hS
  exact lv_ishl C.1 C.2.1 hd (k Γ p l e s m args below meth c H locs lsA C hl hP hS)
theorem GG.ishr {x z : Int32} (h : gD y pc .ishr 1 pc') (k : GG d y pc' ls (.int (x >>> (z &&& 31)) :: st) μ Q) : GG d y pc ls (.int z :: .int x :: st) μ Q := by
  obtain ⟨hd, rfl⟩ := h
  intro Γ p l e s m args below meth c H locs lsA C hl hP hS
  exact lv_ishr C.1 C.2.1 hd (k Γ p l e s m args below meth c H locs lsA C hl hP hS)
theorem GG.iushr {x z : Int32} (h : gD y pc .iushr 1 pc') (k : GG d y pc' ls (.int (x.toUInt32 >>> (z.toUInt32 &&& Int32.toUInt32 31)).toInt32 :: st) μ Q) : GG d y pc ls (.int z :: .int x :: st) μ Q := by
  obtain ⟨hd, rfl⟩ := h
  intro Γ p l e s m args below meth c H locs lsA C hl hP hS
  exact lv_iushr C.1 C.2.1 hd rfl (k Γ p l e s m args below meth c H locs lsA C hl hP hS)
theorem GG.idiv {x z : Int32} (h : gD y pc .idiv 1 pc') (hz : ¬ z = 0) (k : GG d y pc' ls (.int (x / z) :: st) μ Q) : GG d y pc ls (.int z :: .int x :: st) μ Q := by
  obtain ⟨hd, rfl⟩ := h
  intro Γ p l e s m args below meth c H locs lsA C hl hP hS
  exact lv_idiv C.1 C.2.1 hd hz (k Γ p l e s m args below meth c H locs lsA C hl hP hS)
theorem GG.irem {x z : Int32} (h : gD y pc .irem 1 pc') (hz : ¬ z = 0) (k : GG d y pc' ls (.int (x - x / z * z) :: st) μ Q) : GG d y pc ls (.int z :: .int x :: st) μ Q := by
  obtain ⟨hd, rfl⟩ := h
  intro Γ p l e s m args below meth c H locs lsA C hl hP hS
  exact lv_irem C.1 C.2.1 hd hz (k Γ p l e s m args below meth c H locs lsA C hl hP hS)
theorem GG.ineg {x : Int32} (h : gD y pc .ineg 1 pc') (k : GG d y pc' ls (.int (-x) :: st) μ Q) : GG d y pc ls (.int x :: st) μ Q := by
  obtain ⟨hd, rfl⟩ := h
  intro Γ p l e s m args below meth c H locs lsA C hl hP hS
  exact lv_ineg C.1 C.2.1 hd (k Γ p l e s m args below meth c H locs lsA C hl hP hS)
theorem GG.ladd {x z : Int64} (h : gD y pc .ladd 1 pc') (k : GG d y pc' ls (.long (x + z) :: st) μ Q) : GG d y pc ls (.long z :: .long x :: st) μ Q := by
  obtain ⟨hd, rfl⟩ := h
  intro Γ p l e s m args below meth c H locs lsA C hl hP hS
  exact lv_ladd C.1 C.2.1 hd (k Γ p l e s m args below meth c H locs lsA C hl hP hS)
theorem GG.lsub {x z : Int64} (h : gD y pc .lsub 1 pc') (k : GG d y pc' ls (.long (x - z) :: st) μ Q) : GG d y pc ls (.long z :: .long x :: st) μ Q := by
  obtain ⟨hd, rfl⟩ := h
  intro Γ p l e s m args below meth c H locs lsA C hl hP hS
  exact lv_lsub C.1 C.2.1 hd (k Γ p l e s m args below meth c H locs lsA C hl hP hS)
theorem GG.lmul {x z : Int64} (h : gD y pc .lmul 1 pc') (k : GG d y pc' ls (.long (x * z) :: st) μ Q) : GG d y pc ls (.long z :: .long x :: st) μ Q := by
  obtain ⟨hd, rfl⟩ := h
  intro Γ p l e s m args below meth c H locs lsA C hl hP hS
  exact lv_lmul C.1 C.2.1 hd (k Γ p l e s m args below meth c H locs lsA C hl hP hS)
theorem GG.ldiv {x z : Int64} (h : gD y pc .ldiv 1 pc') (hz : ¬ z = 0) (k : GG d y pc' ls (.long (x / z) :: st) μ Q) : GG d y pc ls (.long z :: .long x :: st) μ Q := by
  obtain ⟨hd, rfl⟩ := h
  intro Γ p l e s m args below meth c H locs lsA C hl hP hS
  exact lv_ldiv C.1 C.2.1 hd hz (k Γ p l e s m args below meth c H locs lsA C hl hP hS)
theorem GG.lrem {x z : Int64} (h : gD y pc .lrem 1 pc') (hz : ¬ z = 0) (k : GG d y pc' ls (.long (x - x / z * z) :: st) μ Q) : GG d y pc ls (.long z :: .long x :: st) μ Q := by
  obtain ⟨hd, rfl⟩ := h
  intro Γ p l e s m args below meth c H locs lsA C hl hP hS
  exact lv_lrem C.1 C.2.1 hd hz (k Γ p l e s m args below meth c H locs lsA C hl hP hS)
theorem GG.lcmp {x z : Int64} (h : gD y pc .lcmp 1 pc') (k : GG d y pc' ls (.int (lg_cmp x z) :: st) μ Q) : GG d y pc ls (.long z :: .long x :: st) μ Q := by
  obtain ⟨hd, rfl⟩ := h
  intro Γ p l e s m args below meth c H locs lsA C hl hP hS
  exact W.lcmp C.1 C.2.1 hd (k Γ p l e s m args below meth c H locs lsA C hl hP hS)
theorem GG.i2l {x : Int32} (h : gD y pc .i2l 1 pc') (k : GG d y pc' ls (.long x.toInt64 :: st) μ Q) : GG d y pc ls (.int x :: st) μ Q := by
  obtain ⟨hd, rfl⟩ := h
  intro Γ p l e s m args below meth c H locs lsA C hl hP hS
  exact lv_i2l C.1 C.2.1 hd rfl (k Γ p l e s m args below meth c H locs lsA C hl hP hS)
theorem GG.l2i {x : Int64} (h : gD y pc .l2i 1 pc') (k : GG d y pc' ls (.int x.toInt32 :: st) μ Q) : GG d y pc ls (.long x :: st) μ Q := by
  obtain ⟨hd, rfl⟩ := h
  intro Γ p l e s m args below meth c H locs lsA C hl hP hS
  exact lv_l2i C.1 C.2.1 hd rfl (k Γ p l e s m args below meth c H locs lsA C hl hP hS)
theorem GG.dup {v : Value} (h : gD y pc .dup 1 pc') (hv : v.category = 1) (k : GG d y pc' ls (v :: v :: st) μ Q) : GG d y pc ls (v :: st) μ Q := by
  obtain ⟨hd, rfl⟩ := h
  intro Γ p l e s m args below meth c H locs lsA C hl hP hS
  exact lv_dup C.1 C.2.1 hd ((gv_cat C.2.2.2.2.2.2.2.2.1 v).trans hv) (k Γ p l e s m args below meth c H locs lsA C hl hP hS)
theorem GG.pop {v : Value} (h : gD y pc .pop 1 pc') (hv : v.category = 1) (k : GG d y pc' ls (st) μ Q) : GG d y pc ls (v :: st) μ Q := by
  obtain ⟨hd, rfl⟩ := h
  intro Γ p l e s m args below meth c H locs lsA C hl hP hS
  exact lv_pop C.1 C.2.1 hd ((gv_cat C.2.2.2.2.2.2.2.2.1 v).trans hv) (k Γ p l e s m args below meth c H locs lsA C hl hP hS)
theorem GG.dup2 {v w : Value} (h : gD y pc .dup2 1 pc') (hv : v.category = 1) (hw : w.category = 1) (k : GG d y pc' ls (v :: w :: v :: w :: st) μ Q) : GG d y pc ls (v :: w :: st) μ Q := by
  obtain ⟨hd, rfl⟩ := h
  intro Γ p l e s m args below meth c H locs lsA C hl hP hS
  exact lv_dup2_11 C.1 C.2.1 hd ((gv_cat C.2.2.2.2.2.2.2.2.1 v).trans hv) ((gv_cat C.2.2.2.2.2.2.2.2.1 w).trans hw) (k Γ p l e s m args below meth c H locs lsA C hl hP hS)
theorem gls_at {Γ : gC} {nL : Nat} {lsA : Array Slot} {i : Nat} {v : Value} (hl : lv_has lsA nL (gls Γ ls)) (j : Nat) (hj : ls[j]? = some (i, v)) : lsA[i]? = some (.val (gv Γ v)) :=
  lv_at hl j (by rw [gls, List.getElem?_map, hj]; rfl)
def gst (ls : List (Nat × Value)) (i : Nat) (v : Value) : List (Nat × Value) := (i, v) :: ls.filter (fun q => !(q.1 == i) && !(q.1 + 1 == i && q.2.category == 2))
def gst2 (ls : List (Nat × Value)) (i : Nat) (v : Value) : List (Nat × Value) := (i, v) :: ls.filter (fun q => !(q.1 == i) && (!(q.1 == i + 1) && !(q.1 + 1 == i && q.2.category == 2)))
theorem gst_map {Γ : gC} (hN : gN Γ) (i : Nat) (v : Value) : ((i, gv Γ v) :: (gls Γ ls).filter (fun q => !(q.1 == i) && !(q.1 + 1 == i && q.2.category == 2))) = gls Γ (gst ls i v) := by
  simp only [gls, gst, List.map_cons, List.filter_map]
  congr 2
  congr 1
  funext q
  simp only [Function.comp, gv_cat hN]
theorem gst2_map {Γ : gC} (hN : gN Γ) (i : Nat) (v : Value) : ((i, gv Γ v) :: (gls Γ ls).filter (fun q => !(q.1 == i) && (!(q.1 == i + 1) && !(q.1 + 1 == i && q.2.category == 2)))) = gls Γ (gst2 ls i v) := by
  simp only [gls, gst2, List.map_cons, List.filter_map]
  congr 2
  congr 1
  funext q
  simp only [Function.comp, gv_cat hN]
theorem GG.iload_n {k : Fin 4} {i : Nat} {x : Int32} (h : gD y pc (.iload_n k) 1 pc') (hi : (k : Nat) = i) (j : Nat) (hj : ls[j]? = some (i, .int x)) (k : GG d y pc' ls (.int x :: st) μ Q) : GG d y pc ls st μ Q := by
  obtain ⟨hd, rfl⟩ := h
  intro Γ p l e s m args below meth c H locs lsA C hl hP hS
  exact lv_iload_n C.1 C.2.1 hd hi (gls_at hl j hj) (k Γ p l e s m args below meth c H locs lsA C hl hP hS)
theorem GG.iload {i : Nat} {x : Int32} (h : gD y pc (.iload i) 2 pc') (j : Nat) (hj : ls[j]? = some (i, .int x)) (k : GG d y pc' ls (.int x :: st) μ Q) : GG d y pc ls st μ Q := by
  obtain ⟨hd, rfl⟩ := h
  intro Γ p l e s m args below meth c H locs lsA C hl hP hS
  exact lv_iload C.1 C.2.1 hd (gls_at hl j hj) (k Γ p l e s m args below meth c H locs lsA C hl hP hS)
theorem GG.lload_n {k : Fin 4} {i : Nat} {x : Int64} (h : gD y pc (.lload_n k) 1 pc') (hi : (k : Nat) = i) (j : Nat) (hj : ls[j]? = some (i, .long x)) (k : GG d y pc' ls (.long x :: st) μ Q) : GG d y pc ls st μ Q := by
  obtain ⟨hd, rfl⟩ := h
  intro Γ p l e s m args below meth c H locs lsA C hl hP hS
  exact lv_lload_n C.1 C.2.1 hd hi (gls_at hl j hj) (k Γ p l e s m args below meth c H locs lsA C hl hP hS)
theorem GG.lload {i : Nat} {x : Int64} (h : gD y pc (.lload i) 2 pc') (j : Nat) (hj : ls[j]? = some (i, .long x)) (k : GG d y pc' ls (.long x :: st) μ Q) : GG d y pc ls st μ Q := by
  obtain ⟨hd, rfl⟩ := h
  intro Γ p l e s m args below meth c H locs lsA C hl hP hS
  exact lv_lload C.1 C.2.1 hd (gls_at hl j hj) (k Γ p l e s m args below meth c H locs lsA C hl hP hS)
theorem GG.aload_n {k : Fin 4} {i : Nat} {x : Nat} (h : gD y pc (.aload_n k) 1 pc') (hi : (k : Nat) = i) (j : Nat) (hj : ls[j]? = some (i, .ref x)) (k : GG d y pc' ls (.ref x :: st) μ Q) : GG d y pc ls st μ Q := by
  obtain ⟨hd, rfl⟩ := h
  intro Γ p l e s m args below meth c H locs lsA C hl hP hS
  exact lv_aload_n C.1 C.2.1 hd hi (gls_at hl j hj) (k Γ p l e s m args below meth c H locs lsA C hl hP hS)
theorem GG.aload {i : Nat} {x : Nat} (h : gD y pc (.aload i) 2 pc') (j : Nat) (hj : ls[j]? = some (i, .ref x)) (k : GG d y pc' ls (.ref x :: st) μ Q) : GG d y pc ls st μ Q := by
  obtain ⟨hd, rfl⟩ := h
  intro Γ p l e s m args below meth c H locs lsA C hl hP hS
  exact lv_aload C.1 C.2.1 hd (gls_at hl j hj) (k Γ p l e s m args below meth c H locs lsA C hl hP hS)
theorem GG.istore_n {k : Fin 4} {i : Nat} {x : Int32} (h : gD y pc (.istore_n k) 1 pc') (hi : (k : Nat) = i) (hn : i < y.2.2.1) (he : gst ls i (.int x) = ls') (kk : GG d y pc' ls' st μ Q) : GG d y pc ls (.int x :: st) μ Q := by
  obtain ⟨hd, rfl⟩ := h
  subst he
  intro Γ p l e s m args below meth c H locs lsA C hl hP hS
  exact lv_istore_n C.1 C.2.1 hd hi hl hn (gst_map C.2.2.2.2.2.2.2.2.1 i (.int x)) (fun lsA hl => kk Γ p l e s m args below meth c H locs lsA C hl hP hS)
theorem GG.istore {i : Nat} {x : Int32} (h : gD y pc (.istore i) 2 pc') (hn : i < y.2.2.1) (he : gst ls i (.int x) = ls') (kk : GG d y pc' ls' st μ Q) : GG d y pc ls (.int x :: st) μ Q := by
  obtain ⟨hd, rfl⟩ := h
  subst he
  intro Γ p l e s m args below meth c H locs lsA C hl hP hS
  exact lv_istore C.1 C.2.1 hd hl hn (gst_map C.2.2.2.2.2.2.2.2.1 i (.int x)) (fun lsA hl => kk Γ p l e s m args below meth c H locs lsA C hl hP hS)
theorem GG.lstore_n {k : Fin 4} {i : Nat} {x : Int64} (h : gD y pc (.lstore_n k) 1 pc') (hi : (k : Nat) = i) (hn : i + 1 < y.2.2.1) (he : gst2 ls i (.long x) = ls') (kk : GG d y pc' ls' st μ Q) : GG d y pc ls (.long x :: st) μ Q := by
  obtain ⟨hd, rfl⟩ := h
  subst he
  intro Γ p l e s m args below meth c H locs lsA C hl hP hS
  exact lv_lstore_n C.1 C.2.1 hd hi hl hn (gst2_map C.2.2.2.2.2.2.2.2.1 i (.long x)) (fun lsA hl => kk Γ p l e s m args below meth c H locs lsA C hl hP hS)
theorem GG.lstore {i : Nat} {x : Int64} (h : gD y pc (.lstore i) 2 pc') (hn : i + 1 < y.2.2.1) (he : gst2 ls i (.long x) = ls') (kk : GG d y pc' ls' st μ Q) : GG d y pc ls (.long x :: st) μ Q := by
  obtain ⟨hd, rfl⟩ := h
  subst he
  intro Γ p l e s m args below meth c H locs lsA C hl hP hS
  exact lv_lstore C.1 C.2.1 hd hl hn (gst2_map C.2.2.2.2.2.2.2.2.1 i (.long x)) (fun lsA hl => kk Γ p l e s m args below meth c H locs lsA C hl hP hS)
theorem GG.astore_n {k : Fin 4} {i : Nat} {x : Nat} (h : gD y pc (.astore_n k) 1 pc') (hi : (k : Nat) = i) (hn : i < y.2.2.1) (he : gst ls i (.ref x) = ls') (kk : GG d y pc' ls' st μ Q) : GG d y pc ls (.ref x :: st) μ Q := by
  obtain ⟨hd, rfl⟩ := h
  subst he
  intro Γ p l e s m args below meth c H locs lsA C hl hP hS
  exact lv_astore_n C.1 C.2.1 hd hi hl hn (gst_map C.2.2.2.2.2.2.2.2.1 i (.ref x)) (fun lsA hl => kk Γ p l e s m args below meth c H locs lsA C hl hP hS)
theorem GG.astore {i : Nat} {x : Nat} (h : gD y pc (.astore i) 2 pc') (hn : i < y.2.2.1) (he : gst ls i (.ref x) = ls') (kk : GG d y pc' ls' st μ Q) : GG d y pc ls (.ref x :: st) μ Q := by
  obtain ⟨hd, rfl⟩ := h
  subst he
  intro Γ p l e s m args below meth c H locs lsA C hl hP hS
  exact lv_astore C.1 C.2.1 hd hl hn (gst_map C.2.2.2.2.2.2.2.2.1 i (.ref x)) (fun lsA hl => kk Γ p l e s m args below meth c H locs lsA C hl hP hS)
theorem GG.iinc {i : Nat} {n : Int} {x v : Int32} (h : gD y pc (.iinc i n) 3 pc') (j : Nat) (hj : ls[j]? = some (i, .int x)) (hv : x + Int32.ofInt n = v) (hn : i < y.2.2.1) (he : gst ls i (.int v) = ls') (kk : GG d y pc' ls' st μ Q) : GG d y pc ls st μ Q := by
  obtain ⟨hd, rfl⟩ := h
  subst he
  intro Γ p l e s m args below meth c H locs lsA C hl hP hS
  exact lv_iinc C.1 C.2.1 hd hl (k := j) (by rw [gls, List.getElem?_map, hj]; rfl) hv hn (gst_map C.2.2.2.2.2.2.2.2.1 i (.int v)) (fun lsA hl => kk Γ p l e s m args below meth c H locs lsA C hl hP hS)
theorem GG.goto {off : Int} {tgt : Nat} (h : gD y pc (.goto off) 3 pc') (ht : (pc : Int) + off = (tgt : Int)) (k : GG d y tgt ls st μ Q) : GG d y pc ls st μ Q := by
  intro Γ p l e s m args below meth c H locs lsA C hl hP hS
  exact lv_goto C.1 C.2.1 h.1 ht (k Γ p l e s m args below meth c H locs lsA C hl hP hS)
theorem GG.ifnull {a : Nat} {off : Int} (h : gD y pc (.ifnull off) 3 pc') (k : GG d y pc' ls st μ Q) : GG d y pc ls (.ref a :: st) μ Q := by
  obtain ⟨hd, rfl⟩ := h
  intro Γ p l e s m args below meth c H locs lsA C hl hP hS
  exact lv_ifnull C.1 C.2.1 hd (k Γ p l e s m args below meth c H locs lsA C hl hP hS)
theorem GG.ifnonnull {a : Nat} {off : Int} {tgt : Nat} (h : gD y pc (.ifnonnull off) 3 pc') (ht : (pc : Int) + off = (tgt : Int)) (k : GG d y tgt ls st μ Q) : GG d y pc ls (.ref a :: st) μ Q := by
  intro Γ p l e s m args below meth c H locs lsA C hl hP hS
  exact lv_ifnonnull C.1 C.2.1 h.1 ht (k Γ p l e s m args below meth c H locs lsA C hl hP hS)
theorem GG.tableIn {dflt lo hi : Int} {offs : Array Int} {len : Nat} {x : Int32} {off : Int} {tgt : Nat} (h : gD y pc (.tableswitch dflt lo hi offs) len pc') (h1 : ¬ x.toInt < lo) (h2 : ¬ hi < x.toInt) (ho : offs[(x.toInt - lo).toNat]? = some off) (ht : (pc : Int) + off = (tgt : Int)) (k : GG d y tgt ls st μ Q) : GG d y pc ls (.int x :: st) μ Q := by
  intro Γ p l e s m args below meth c H locs lsA C hl hP hS
  exact lv_tableIn C.1 C.2.1 h.1 h1 h2 ho ht (k Γ p l e s m args below meth c H locs lsA C hl hP hS)
theorem GG.tableOut {dflt lo hi : Int} {offs : Array Int} {len : Nat} {x : Int32} {tgt : Nat} (h : gD y pc (.tableswitch dflt lo hi offs) len pc') (h1 : x.toInt < lo ∨ hi < x.toInt) (ht : (pc : Int) + dflt = (tgt : Int)) (k : GG d y tgt ls st μ Q) : GG d y pc ls (.int x :: st) μ Q := by
  intro Γ p l e s m args below meth c H locs lsA C hl hP hS
  exact lv_tableOut C.1 C.2.1 h.1 h1 ht (k Γ p l e s m args below meth c H locs lsA C hl hP hS)
theorem GG.if_eq {x : Int32} {off : Int} {tgt : Nat} (h : gD y pc (.ifCond .eq off) 3 pc') (ht : (pc : Int) + off = (tgt : Int)) (kt : x = 0 → GG d y tgt ls st μ Q) (kf : ¬ x = 0 → GG d y pc' ls st μ Q) : GG d y pc ls (.int x :: st) μ Q := by
  obtain ⟨hd, rfl⟩ := h
  intro Γ p l e s m args below meth c H locs lsA C hl hP hS
  exact lv_if_eq C.1 C.2.1 hd ht (fun h => kt h Γ p l e s m args below meth c H locs lsA C hl hP hS) (fun h => kf h Γ p l e s m args below meth c H locs lsA C hl hP hS)
theorem GG.icmp_eq {x z : Int32} {off : Int} {tgt : Nat} (h : gD y pc (.if_icmp .eq off) 3 pc') (ht : (pc : Int) + off = (tgt : Int)) (kt : x = z → GG d y tgt ls st μ Q) (kf : ¬ x = z → GG d y pc' ls st μ Q) : GG d y pc ls (.int z :: .int x :: st) μ Q := by
  obtain ⟨hd, rfl⟩ := h
  intro Γ p l e s m args below meth c H locs lsA C hl hP hS
  exact lv_icmp_eq C.1 C.2.1 hd ht (fun h => kt h Γ p l e s m args below meth c H locs lsA C hl hP hS) (fun h => kf h Γ p l e s m args below meth c H locs lsA C hl hP hS)
theorem GG.if_ne {x : Int32} {off : Int} {tgt : Nat} (h : gD y pc (.ifCond .ne off) 3 pc') (ht : (pc : Int) + off = (tgt : Int)) (kt : ¬ x = 0 → GG d y tgt ls st μ Q) (kf : x = 0 → GG d y pc' ls st μ Q) : GG d y pc ls (.int x :: st) μ Q := by
  obtain ⟨hd, rfl⟩ := h
  intro Γ p l e s m args below meth c H locs lsA C hl hP hS
  exact lv_if_ne C.1 C.2.1 hd ht (fun h => kt h Γ p l e s m args below meth c H locs lsA C hl hP hS) (fun h => kf h Γ p l e s m args below meth c H locs lsA C hl hP hS)
theorem GG.icmp_ne {x z : Int32} {off : Int} {tgt : Nat} (h : gD y pc (.if_icmp .ne off) 3 pc') (ht : (pc : Int) + off = (tgt : Int)) (kt : ¬ x = z → GG d y tgt ls st μ Q) (kf : x = z → GG d y pc' ls st μ Q) : GG d y pc ls (.int z :: .int x :: st) μ Q := by
  obtain ⟨hd, rfl⟩ := h
  intro Γ p l e s m args below meth c H locs lsA C hl hP hS
  exact lv_icmp_ne C.1 C.2.1 hd ht (fun h => kt h Γ p l e s m args below meth c H locs lsA C hl hP hS) (fun h => kf h Γ p l e s m args below meth c H locs lsA C hl hP hS)
theorem GG.if_lt {x : Int32} {off : Int} {tgt : Nat} (h : gD y pc (.ifCond .lt off) 3 pc') (ht : (pc : Int) + off = (tgt : Int)) (kt : x < 0 → GG d y tgt ls st μ Q) (kf : ¬ x < 0 → GG d y pc' ls st μ Q) : GG d y pc ls (.int x :: st) μ Q := by
  obtain ⟨hd, rfl⟩ := h
  intro Γ p l e s m args below meth c H locs lsA C hl hP hS
  exact lv_if_lt C.1 C.2.1 hd ht (fun h => kt h Γ p l e s m args below meth c H locs lsA C hl hP hS) (fun h => kf h Γ p l e s m args below meth c H locs lsA C hl hP hS)
theorem GG.icmp_lt {x z : Int32} {off : Int} {tgt : Nat} (h : gD y pc (.if_icmp .lt off) 3 pc') (ht : (pc : Int) + off = (tgt : Int)) (kt : x < z → GG d y tgt ls st μ Q) (kf : ¬ x < z → GG d y pc' ls st μ Q) : GG d y pc ls (.int z :: .int x :: st) μ Q := by
  obtain ⟨hd, rfl⟩ := h
  intro Γ p l e s m args below meth c H locs lsA C hl hP hS
  exact lv_icmp_lt C.1 C.2.1 hd ht (fun h => kt h Γ p l e s m args below meth c H locs lsA C hl hP hS) (fun h => kf h Γ p l e s m args below meth c H locs lsA C hl hP hS)
theorem GG.if_ge {x : Int32} {off : Int} {tgt : Nat} (h : gD y pc (.ifCond .ge off) 3 pc') (ht : (pc : Int) + off = (tgt : Int)) (kt : 0 ≤ x → GG d y tgt ls st μ Q) (kf : ¬ 0 ≤ x → GG d y pc' ls st μ Q) : GG d y pc ls (.int x :: st) μ Q := by
  obtain ⟨hd, rfl⟩ := h
  intro Γ p l e s m args below meth c H locs lsA C hl hP hS
  exact lv_if_ge C.1 C.2.1 hd ht (fun h => kt h Γ p l e s m args below meth c H locs lsA C hl hP hS) (fun h => kf h Γ p l e s m args below meth c H locs lsA C hl hP hS)
theorem GG.icmp_ge {x z : Int32} {off : Int} {tgt : Nat} (h : gD y pc (.if_icmp .ge off) 3 pc') (ht : (pc : Int) + off = (tgt : Int)) (kt : z ≤ x → GG d y tgt ls st μ Q) (kf : ¬ z ≤ x → GG d y pc' ls st μ Q) : GG d y pc ls (.int z :: .int x :: st) μ Q := by
  obtain ⟨hd, rfl⟩ := h
  intro Γ p l e s m args below meth c H locs lsA C hl hP hS
  exact lv_icmp_ge C.1 C.2.1 hd ht (fun h => kt h Γ p l e s m args below meth c H locs lsA C hl hP hS) (fun h => kf h Γ p l e s m args below meth c H locs lsA C hl hP hS)
theorem GG.if_gt {x : Int32} {off : Int} {tgt : Nat} (h : gD y pc (.ifCond .gt off) 3 pc') (ht : (pc : Int) + off = (tgt : Int)) (kt : 0 < x → GG d y tgt ls st μ Q) (kf : ¬ 0 < x → GG d y pc' ls st μ Q) : GG d y pc ls (.int x :: st) μ Q := by
  obtain ⟨hd, rfl⟩ := h
  intro Γ p l e s m args below meth c H locs lsA C hl hP hS
  exact lv_if_gt C.1 C.2.1 hd ht (fun h => kt h Γ p l e s m args below meth c H locs lsA C hl hP hS) (fun h => kf h Γ p l e s m args below meth c H locs lsA C hl hP hS)
theorem GG.icmp_gt {x z : Int32} {off : Int} {tgt : Nat} (h : gD y pc (.if_icmp .gt off) 3 pc') (ht : (pc : Int) + off = (tgt : Int)) (kt : z < x → GG d y tgt ls st μ Q) (kf : ¬ z < x → GG d y pc' ls st μ Q) : GG d y pc ls (.int z :: .int x :: st) μ Q := by
  obtain ⟨hd, rfl⟩ := h
  intro Γ p l e s m args below meth c H locs lsA C hl hP hS
  exact lv_icmp_gt C.1 C.2.1 hd ht (fun h => kt h Γ p l e s m args below meth c H locs lsA C hl hP hS) (fun h => kf h Γ p l e s m args below meth c H locs lsA C hl hP hS)
theorem GG.if_le {x : Int32} {off : Int} {tgt : Nat} (h : gD y pc (.ifCond .le off) 3 pc') (ht : (pc : Int) + off = (tgt : Int)) (kt : x ≤ 0 → GG d y tgt ls st μ Q) (kf : ¬ x ≤ 0 → GG d y pc' ls st μ Q) : GG d y pc ls (.int x :: st) μ Q := by
  obtain ⟨hd, rfl⟩ := h
  intro Γ p l e s m args below meth c H locs lsA C hl hP hS
  exact lv_if_le C.1 C.2.1 hd ht (fun h => kt h Γ p l e s m args below meth c H locs lsA C hl hP hS) (fun h => kf h Γ p l e s m args below meth c H locs lsA C hl hP hS)
theorem GG.icmp_le {x z : Int32} {off : Int} {tgt : Nat} (h : gD y pc (.if_icmp .le off) 3 pc') (ht : (pc : Int) + off = (tgt : Int)) (kt : x ≤ z → GG d y tgt ls st μ Q) (kf : ¬ x ≤ z → GG d y pc' ls st μ Q) : GG d y pc ls (.int z :: .int x :: st) μ Q := by
  obtain ⟨hd, rfl⟩ := h
  intro Γ p l e s m args below meth c H locs lsA C hl hP hS
  exact lv_icmp_le C.1 C.2.1 hd ht (fun h => kt h Γ p l e s m args below meth c H locs lsA C hl hP hS) (fun h => kf h Γ p l e s m args below meth c H locs lsA C hl hP hS)
end RULES
end
section
/-! FIELDS, ARRAYS, CALLS, RETURNS -/
def gFd (a k : Nat) : Option (Nat × Option (Option Nat)) := match gSh[a]? with
  | some (.inr o) => (o.2[k]?).map fun f => (o.1, f)
  | _ => none
def gAr (a : Nat) : Option (Nat × Nat) := match gSh[a]? with
  | some (.inl x) => some x
  | _ => none
def gOb (a : Nat) : Option Nat := match gSh[a]? with
  | some (.inr o) => some o.1
  | _ => none
theorem gFd_sh {a k ci : Nat} {f : Option (Option Nat)} (h : gFd a k = some (ci, f)) : ∃ fs, gSh[a]? = some (.inr (ci, fs)) ∧ fs[k]? = some f := by
  unfold gFd at h
  split at h
  · next o ho =>
    obtain ⟨ci', fs⟩ := o
    cases hf : fs[k]? with
    | none => rw [hf] at h; cases h
    | some g =>
      rw [hf] at h
      cases h
      exact ⟨fs, ho, hf⟩
  · cases h
theorem gAr_sh {a t n : Nat} (h : gAr a = some (t, n)) : gSh[a]? = some (.inl (t, n)) := by
  unfold gAr at h
  split at h
  · next o ho => cases h; exact ho
  · cases h
theorem gOb_sh {a ci : Nat} (h : gOb a = some ci) : ∃ fs, gSh[a]? = some (.inr (ci, fs)) := by
  unfold gOb at h
  split at h
  · next o ho => obtain ⟨c', fs⟩ := o; cases h; exact ⟨fs, ho⟩
  · cases h
theorem gSh_lt {a : Nat} {sh : gS} (h : gSh[a]? = some sh) : a < 76 := by
  have := (List.getElem?_eq_some_iff.mp h).1
  rw [gSh_len] at this
  exact this
theorem gW_at {Γ : gC} {μ : gM} {a : Nat} {sh : gS} (h : gSh[a]? = some sh) : (gW Γ μ)[a]? = some (Γ.2.1 a, gE Γ μ a sh) := by
  rw [gW, List.getElem?_mapIdx, h]
  rfl
theorem gW_D {Γ : gC} {μ : gM} (hN : gN Γ) : va_D (gOwn Γ) (gW Γ μ) := by
  have key : ∀ (i : Nat) (q : Nat × va_E), (gW Γ μ)[i]? = some q → i < 76 ∧ q.1 = Γ.2.1 i := by
    intro i q h
    rw [gW, List.getElem?_mapIdx] at h
    cases hs : gSh[i]? with
    | none => rw [hs] at h; cases h
    | some sh =>
      rw [hs] at h
      cases h
      exact ⟨gSh_lt hs, rfl⟩
  refine ⟨fun i j p q hi hj hpq => ?_, fun k q hk => ?_⟩
  · obtain ⟨h1, h2⟩ := key i p hi
    obtain ⟨h3, h4⟩ := key j q hj
    exact hN.1 i j h1 h3 (by rw [← h2, ← h4, hpq])
  · obtain ⟨h1, h2⟩ := key k q hk
    exact ⟨k, h1, h2⟩
theorem gE_other {Γ : gC} {μ ν : gM} {i : Nat} (sh : gS) (h : ∀ k, mrd ν i k = mrd μ i k) (h2 : ∀ k, mrL ν i k = mrL μ i k) : gE Γ ν i sh = gE Γ μ i sh := by
  cases sh with
  | inl a => simp only [gE, h]
  | inr o =>
    simp only [gE]
    congr 2
    congr 1
    funext k f
    rcases f with _ | _ | j <;> simp only [gfv, h, h2]
theorem gW_put {Γ : gC} {μ ν : gM} {a k ci : Nat} {fs : List (Option (Option Nat))} {f : Option (Option Nat)} {v : Value} (hs : gSh[a]? = some (.inr (ci, fs))) (hf : fs[k]? = some f) (hv : gfv Γ ν a k f = v)
    (ho : ∀ i j, ¬ (i = a ∧ j = k) → mrd ν i j = mrd μ i j ∧ mrL ν i j = mrL μ i j) :
    (gW Γ μ).set a (Γ.2.1 a, .inr (ci, (fs.mapIdx (fun k f => gfv Γ μ a k f)).set k v)) = gW Γ ν := by
  have hlt : a < gSh.length := (List.getElem?_eq_some_iff.mp hs).1
  apply List.ext_getElem?
  intro i
  by_cases hi : i = a
  · subst hi
    rw [List.getElem?_set_self (by simpa [gW] using hlt), gW_at hs]
    show some (_, Sum.inr (ci, _)) = some (_, Sum.inr (ci, _))
    congr 4
    apply List.ext_getElem?
    intro j
    by_cases hj : j = k
    · subst hj
      rw [List.getElem?_set_self (by simpa using (List.getElem?_eq_some_iff.mp hf).1), List.getElem?_mapIdx, hf, Option.map_some, hv]
    · rw [List.getElem?_set_ne (Ne.symm hj), List.getElem?_mapIdx, List.getElem?_mapIdx]
      congr 1
      funext g
      have := ho i j (fun q => hj q.2)
      rcases g with _ | _ | z <;> simp only [gfv, this.1, this.2]
  · rw [List.getElem?_set_ne (Ne.symm hi), gW, gW, List.getElem?_mapIdx, List.getElem?_mapIdx]
    congr 1
    funext sh
    rw [gE_other sh (fun k => (ho i k (fun q => hi q.1)).1) (fun k => (ho i k (fun q => hi q.1)).2)]
theorem gW_sto {Γ : gC} {μ : gM} {a t n j : Nat} {x : Int32} (hs : gSh[a]? = some (.inl (t, n))) :
    (gW Γ μ).set a (Γ.2.1 a, .inl (if t = 0 then Γ.2.2.1.1 else Γ.2.2.1.2, n, .inl (upd (fun k => mrd μ a k) j x))) = gW Γ (mwr μ a j x) := by
  have hlt : a < gSh.length := (List.getElem?_eq_some_iff.mp hs).1
  apply List.ext_getElem?
  intro i
  by_cases hi : i = a
  · subst hi
    rw [List.getElem?_set_self (by simpa [gW] using hlt), gW_at hs]
    show some (_, Sum.inl (_, n, Sum.inl _)) = some (_, Sum.inl (_, n, Sum.inl _))
    congr 6
    funext k
    by_cases hk : k = j <;> simp [mrd, mwr, upd, hk]
  · rw [List.getElem?_set_ne (Ne.symm hi), gW, gW, List.getElem?_mapIdx, List.getElem?_mapIdx]
    congr 1
    funext sh
    rw [gE_other (μ := μ) (ν := mwr μ a j x) sh (fun k => by simp [mrd, mwr, hi]) (fun k => rfl)]
/-- the classes' fields: their words stand in the tables, types and names are as they should be -/
theorem gCl_ok {ci : Nat} {q : vw_C} (h : gCl[ci]? = some q) : (∀ w ∈ u_ws q.1 q.2.1 q.2.2, w ∈ gTbl) ∧ (∃ ty : Nat → FieldType, ∀ k, k < q.2.2 → parseFieldDescriptor (q.2.1 k).2.2.1 = some (ty k)) ∧ ∀ a, a < q.2.2 → ∀ b, b < q.2.2 → a ≠ b → (q.2.1 a).2.1 ≠ (q.2.1 b).2.1 := by
  match ci, h with
  | 0, h => cases h; exact ⟨by decide +kernel, ⟨tyX0, tyX0_ok⟩, nmX0⟩
  | 1, h => cases h; exact ⟨by decide +kernel, ⟨tyX1, tyX1_ok⟩, nmX1⟩
  | 2, h => cases h; exact ⟨by decide +kernel, ⟨tyX2, tyX2_ok⟩, nmX2⟩
  | 3, h => cases h; exact ⟨by decide +kernel, ⟨tyX4, tyX4_ok⟩, nmX4⟩
  | 4, h => cases h; exact ⟨by decide +kernel, ⟨tyX5, tyX5_ok⟩, nmX5⟩
  | 5, h => cases h; exact ⟨by decide +kernel, ⟨tyX6, tyX6_ok⟩, nmX6⟩
  | 6, h => cases h; exact ⟨by decide +kernel, ⟨tyX7, tyX7_ok⟩, nmX7⟩
  | 7, h => cases h; exact ⟨by decide +kernel, ⟨tyX8, tyX8_ok⟩, nmX8⟩
  | 8, h => cases h; exact ⟨by decide +kernel, ⟨tyX9, tyX9_ok⟩, nmX9⟩
  | 9, h => cases h; exact ⟨by decide +kernel, ⟨tyX10, tyX10_ok⟩, nmX10⟩
  | 10, h => cases h; exact ⟨by decide +kernel, ⟨tyX11, tyX11_ok⟩, nmX11⟩
  | n + 11, h => simp [gCl] at h
/-- a place of a class file's pool links the field k of the class ci -/
def gFL (own : String) (idx ci k : Nat) : Prop := ∃ (C : String) (T : u_T) (N : Nat), gCl[ci]? = some (C, T, N) ∧ k < N ∧ Cond.fieldLink own idx (T k).1 (T k).2.1 (T k).2.2.1 ∈ gTbl
def gFP (ci k : Nat) (ty : FieldType) : Prop := ∃ (C : String) (T : u_T) (N : Nat), gCl[ci]? = some (C, T, N) ∧ (T k).2.2.2 = false ∧ parseFieldDescriptor (T k).2.2.1 = some ty
section MEM
variable {d pc pc' : Nat} {y : gMI} {ls ls' : List (Nat × Value)} {st : List Value} {μ : gM} {Q : Option Value → gM → Prop}
theorem GG.getv {a k ci idx : Nat} {f : Option (Option Nat)} {v : Value} (h : gD y pc (.getfield idx) 3 pc') (hl : gFL y.1.cls idx ci k) (hs : gFd a k = some (ci, f)) (hv : ∀ Γ : gC, gfv Γ μ a k f = gv Γ v) (kk : GG d y pc' ls (v :: st) μ Q) : GG d y pc ls (.ref a :: st) μ Q := by
  obtain ⟨hd, rfl⟩ := h
  obtain ⟨fs, h1, h2⟩ := gFd_sh hs
  obtain ⟨C', T, N, hc, hk, hw⟩ := hl
  intro Γ p l e s m args below meth c H locs lsA C hlo hP hS
  exact va_get (cl := gCl) (tys := gT Γ) C.1 C.2.1 C.2.2.2.2.2.1 (gCl_ok hc).1 C.2.2.2.2.1 C.2.2.2.2.2.2.2.1 hP a (gW_at h1) hc k hk (C.2.2.2.2.2.1 _ hw) (fun _ z => z) (v := gv Γ v) (by rw [List.getElem?_mapIdx, h2, Option.map_some, hv]) hd (kk Γ p l e s m args below meth c H locs lsA C hlo hP hS)
theorem GG.getI {a k ci idx : Nat} (h : gD y pc (.getfield idx) 3 pc') (hl : gFL y.1.cls idx ci k) (hs : gFd a k = some (ci, none)) (kk : GG d y pc' ls (.int (mrd μ a k) :: st) μ Q) : GG d y pc ls (.ref a :: st) μ Q := GG.getv h hl hs (fun _ => rfl) kk
theorem GG.getL {a k ci idx : Nat} (h : gD y pc (.getfield idx) 3 pc') (hl : gFL y.1.cls idx ci k) (hs : gFd a k = some (ci, some none)) (kk : GG d y pc' ls (.long (mrL μ a k) :: st) μ Q) : GG d y pc ls (.ref a :: st) μ Q := GG.getv h hl hs (fun _ => rfl) kk
theorem GG.getR {a k ci idx b : Nat} (h : gD y pc (.getfield idx) 3 pc') (hl : gFL y.1.cls idx ci k) (hs : gFd a k = some (ci, some (some b))) (kk : GG d y pc' ls (.ref b :: st) μ Q) : GG d y pc ls (.ref a :: st) μ Q := GG.getv h hl hs (fun _ => rfl) kk
theorem GG.putv {a k ci idx : Nat} {f : Option (Option Nat)} {v : Value} {ν : gM} {ty : FieldType} (h : gD y pc (.putfield idx) 3 pc') (hl : gFL y.1.cls idx ci k) (hp : gFP ci k ty) (hs : gFd a k = some (ci, f)) (hn : ∀ Γ : gC, narrow ty (gv Γ v) = gv Γ v) (hfit : ∀ Γ : gC, fits ty (gv Γ v) = true) (hv : ∀ Γ : gC, gfv Γ ν a k f = gv Γ v)
    (ho : ∀ i j, ¬ (i = a ∧ j = k) → mrd ν i j = mrd μ i j ∧ mrL ν i j = mrL μ i j) (kk : GG d y pc' ls st ν Q) : GG d y pc ls (v :: .ref a :: st) μ Q := by
  obtain ⟨hd, rfl⟩ := h
  obtain ⟨fs, h1, h2⟩ := gFd_sh hs
  obtain ⟨C', T, N, hc, hk, hw⟩ := hl
  obtain ⟨C2, T2, N2, hc2, hfin, hty⟩ := hp
  cases hc.symm.trans hc2
  obtain ⟨hin, ⟨ty0, hty0⟩, hnm⟩ := gCl_ok hc
  intro Γ p l e s m args below meth c H locs lsA C hlo hP hS
  refine va_put (cl := gCl) (tys := gT Γ) C.1 C.2.1 C.2.2.2.2.2.1 hin ty0 hty0 hnm C.2.2.2.2.1 C.2.2.2.2.2.2.2.1 hP (gW_D C.2.2.2.2.2.2.2.2.1) hS a (gW_at h1) hc k hk (C.2.2.2.2.2.1 _ hw) (fun _ z => z) hfin hty (hn Γ) (hfit Γ) (by simpa using (List.getElem?_eq_some_iff.mp h2).1) hd (fun H1 locs1 hP1 hD1 hS1 => ?_)
  exact kk Γ p l e s m args below meth c H1 locs1 lsA C hlo (by rw [← gW_put h1 h2 (hv Γ) ho]; exact hP1) hS1
theorem mwr_o {μ : gM} {a k : Nat} {x : Int32} : ∀ i j, ¬ (i = a ∧ j = k) → mrd (mwr μ a k x) i j = mrd μ i j ∧ mrL (mwr μ a k x) i j = mrL μ i j := fun i j h => ⟨by simp [mrd, mwr, h], rfl⟩
theorem mwL_o {μ : gM} {a k : Nat} {x : Int64} : ∀ i j, ¬ (i = a ∧ j = k) → mrd (mwL μ a k x) i j = mrd μ i j ∧ mrL (mwL μ a k x) i j = mrL μ i j := fun i j h => ⟨rfl, by simp [mrL, mwL, h]⟩
theorem GG.putI {a k ci idx : Nat} {x : Int32} (h : gD y pc (.putfield idx) 3 pc') (hl : gFL y.1.cls idx ci k) (hp : gFP ci k .int) (hs : gFd a k = some (ci, none)) (kk : GG d y pc' ls st (mwr μ a k x) Q) : GG d y pc ls (.int x :: .ref a :: st) μ Q :=
  GG.putv h hl hp hs (fun _ => rfl) (fun _ => rfl) (fun Γ => by simp [gfv, gv, mrd, mwr]) mwr_o kk
theorem GG.putL {a k ci idx : Nat} {x : Int64} (h : gD y pc (.putfield idx) 3 pc') (hl : gFL y.1.cls idx ci k) (hp : gFP ci k .long) (hs : gFd a k = some (ci, some none)) (kk : GG d y pc' ls st (mwL μ a k x) Q) : GG d y pc ls (.long x :: .ref a :: st) μ Q :=
  GG.putv h hl hp hs (fun _ => rfl) (fun _ => rfl) (fun Γ => by simp [gfv, gv, mrL, mwL]) mwL_o kk
def gZ (x : Int32) : Prop := x = 0 ∨ x = 1
theorem gZ_n {x : Int32} (h : gZ x) : narrow .boolean (.int x) = .int x := by rcases h with rfl | rfl <;> rfl
theorem gZ_f {x : Int32} (h : gZ x) : fits .boolean (.int x) = true := by rcases h with rfl | rfl <;> rfl
theorem GG.putZ {a k ci idx : Nat} {x : Int32} (h : gD y pc (.putfield idx) 3 pc') (hl : gFL y.1.cls idx ci k) (hp : gFP ci k .boolean) (hs : gFd a k = some (ci, none)) (hz : gZ x) (kk : GG d y pc' ls st (mwr μ a k x) Q) : GG d y pc ls (.int x :: .ref a :: st) μ Q :=
  GG.putv h hl hp hs (fun _ => gZ_n hz) (fun _ => gZ_f hz) (fun Γ => by simp [gfv, gv, mrd, mwr]) mwr_o kk
theorem GG.iaload {a n : Nat} {i : Int32} (h : gD y pc .iaload 1 pc') (hs : gAr a = some (0, n)) (hi : vp_in i n) (kk : GG d y pc' ls (.int (mrd μ a i.toNatClampNeg) :: st) μ Q) : GG d y pc ls (.int i :: .ref a :: st) μ Q := by
  obtain ⟨hd, rfl⟩ := h
  intro Γ p l e s m args below meth c H locs lsA C hlo hP hS
  exact va_iald (cl := gCl) (tys := gT Γ) C.1 C.2.1 C.2.2.2.2.2.2.2.1 hP a 0 (gW_at (gAr_sh hs)) rfl hi hd (kk Γ p l e s m args below meth c H locs lsA C hlo hP hS)
theorem GG.iastore {a n : Nat} {i x : Int32} (h : gD y pc .iastore 1 pc') (hs : gAr a = some (0, n)) (hi : vp_in i n) (kk : GG d y pc' ls st (mwr μ a i.toNatClampNeg x) Q) : GG d y pc ls (.int x :: .int i :: .ref a :: st) μ Q := by
  obtain ⟨hd, rfl⟩ := h
  intro Γ p l e s m args below meth c H locs lsA C hlo hP hS
  refine va_iast (cl := gCl) (tys := gT Γ) C.1 C.2.1 C.2.2.2.2.2.2.2.1 hP (gW_D C.2.2.2.2.2.2.2.2.1) hS a 0 (gW_at (gAr_sh hs)) rfl hi hd (fun H1 locs1 hP1 hD1 hS1 => ?_)
  exact kk Γ p l e s m args below meth c H1 locs1 lsA C hlo (by rw [← gW_sto (gAr_sh hs)]; exact hP1) hS1
theorem GG.baload {a n : Nat} {i : Int32} (h : gD y pc .baload 1 pc') (hs : gAr a = some (1, n)) (hi : vp_in i n) (kk : GG d y pc' ls (.int (mrd μ a i.toNatClampNeg) :: st) μ Q) : GG d y pc ls (.int i :: .ref a :: st) μ Q := by
  obtain ⟨hd, rfl⟩ := h
  intro Γ p l e s m args below meth c H locs lsA C hlo hP hS
  exact va_zald (cl := gCl) (tys := gT Γ) C.1 C.2.1 C.2.2.2.2.2.2.2.1 hP a 1 (gW_at (gAr_sh hs)) rfl hi hd (kk Γ p l e s m args below meth c H locs lsA C hlo hP hS)
theorem GG.bastore {a n : Nat} {i x : Int32} (h : gD y pc .bastore 1 pc') (hs : gAr a = some (1, n)) (hi : vp_in i n) (hz : gZ x) (kk : GG d y pc' ls st (mwr μ a i.toNatClampNeg x) Q) : GG d y pc ls (.int x :: .int i :: .ref a :: st) μ Q := by
  obtain ⟨hd, rfl⟩ := h
  intro Γ p l e s m args below meth c H locs lsA C hlo hP hS
  refine va_zast (cl := gCl) (tys := gT Γ) C.1 C.2.1 C.2.2.2.2.2.2.2.1 hP (gW_D C.2.2.2.2.2.2.2.2.1) hS a 1 (gW_at (gAr_sh hs)) rfl hi hd (fun H1 locs1 hP1 hD1 hS1 => ?_)
  refine kk Γ p l e s m args below meth c H1 locs1 lsA C hlo ?_ hS1
  rw [← gW_sto (gAr_sh hs)]
  have e : vp_nar .boolean x = x := by rcases hz with rfl | rfl <;> rfl
  rw [e] at hP1
  exact hP1
theorem GG.alen {a t n : Nat} {v : Int32} (h : gD y pc .arraylength 1 pc') (hs : gAr a = some (t, n)) (hv : Int32.ofNat n = v) (kk : GG d y pc' ls (.int v :: st) μ Q) : GG d y pc ls (.ref a :: st) μ Q := by
  obtain ⟨hd, rfl⟩ := h
  intro Γ p l e s m args below meth c H locs lsA C hlo hP hS
  by_cases ht : t = 0
  · subst ht
    exact va_alen (cl := gCl) (tys := gT Γ) C.1 C.2.1 C.2.2.2.2.2.2.2.1 hP a 0 (gW_at (gAr_sh hs)) (ty := .int) rfl hv hd (kk Γ p l e s m args below meth c H locs lsA C hlo hP hS)
  · exact va_alen (cl := gCl) (tys := gT Γ) C.1 C.2.1 C.2.2.2.2.2.2.2.1 hP a 1 (gW_at (gAr_sh hs)) (ty := .boolean) (by simp [gT, ht]) hv hd (kk Γ p l e s m args below meth c H locs lsA C hlo hP hS)
theorem gQ_i {Γ : gC} {s : State} {args : Array Value} {H : Heap} {locs : List Loc} {r : Option Value} (hQ : Q r μ) (hP : va_P Γ.1 gCl (gW Γ μ) H) (hS : va_S (gOwn Γ) s.heap H locs) : ∀ t : State, t.heap = H → s.WarmedH t.vm → gQ Γ Q args s (.returned (r.map (gv Γ))) t :=
  fun t ht _ => ⟨⟨r, μ, rfl, hQ, by rw [ht]; exact hP⟩, hS.F ht⟩
theorem GG.iret {x : Int32} {n : Nat} (h : gD y pc .ireturn n pc') (hr : y.2.2.2 = some .int) (hn : n = 1 := by rfl) (hQ : Q (some (.int x)) μ) : GG d y pc ls [.int x] μ Q := by
  subst hn
  intro Γ p l e s m args below meth c H locs lsA C hlo hP hS
  exact W.iret C.1 C.2.1 (by rw [C.2.2.1, hr]) (gQ_i hQ hP hS) hS.2.2 h.1 (hlocks := C.2.2.2.2.2.2.1)
theorem GG.zret {x : Int32} {ty : FieldType} {n : Nat} (h : gD y pc .ireturn n pc') (hr : y.2.2.2 = some ty) (hz : narrow ty (.int x) = .int x) (hn : n = 1 := by rfl) (hQ : Q (some (.int x)) μ) : GG d y pc ls [.int x] μ Q := by
  subst hn
  intro Γ p l e s m args below meth c H locs lsA C hlo hP hS
  exact W.zret C.1 C.2.1 (by rw [C.2.2.1, hr]) hz (gQ_i hQ hP hS) hS.2.2 h.1 (hlocks := C.2.2.2.2.2.2.1)
theorem GG.lret {x : Int64} {n : Nat} (h : gD y pc .lreturn n pc') (hr : y.2.2.2 = some .long) (hn : n = 1 := by rfl) (hQ : Q (some (.long x)) μ) : GG d y pc ls [.long x] μ Q := by
  subst hn
  intro Γ p l e s m args below meth c H locs lsA C hlo hP hS
  exact W.lret C.1 C.2.1 (by rw [C.2.2.1, hr]) (gQ_i hQ hP hS) hS.2.2 h.1 (hlocks := C.2.2.2.2.2.2.1)
theorem GG.vret {n : Nat} (h : gD y pc .return_ n pc') (hr : y.2.2.2 = none) (hn : n = 1 := by rfl) (hQ : Q none μ) : GG d y pc ls [] μ Q := by
  subst hn
  intro Γ p l e s m args below meth c H locs lsA C hlo hP hS
  exact W.vret C.1 C.2.1 (by rw [C.2.2.1, hr]) (gQ_i hQ hP hS) hS.2.2 h.1 (hlocks := C.2.2.2.2.2.2.1)
theorem GG.ldc2 {v : Int64} {idx : Nat} (h : gD y pc (.ldc2_w idx) 3 pc') (hw : Cond.constantLong y.1.cls idx v ∈ gTbl) (kk : GG d y pc' ls (.long v :: st) μ Q) : GG d y pc ls st μ Q := by
  obtain ⟨hd, rfl⟩ := h
  intro Γ p l e s m args below meth c H locs lsA C hlo hP hS
  exact lv_ldc2 C.1 C.2.1 C.2.2.2.2.1 (C.2.2.2.2.2.1 _ hw) hd (kk Γ p l e s m args below meth c H locs lsA C hlo hP hS)
theorem GG.ldcI {v : Int32} {idx : Nat} (h : gD y pc (.ldc idx) 2 pc') (hw : Cond.constant y.1.cls idx v ∈ gTbl) (kk : GG d y pc' ls (.int v :: st) μ Q) : GG d y pc ls st μ Q := by
  obtain ⟨hd, rfl⟩ := h
  intro Γ p l e s m args below meth c H locs lsA C hlo hP hS
  exact lv_ldc C.1 C.2.1 C.2.2.2.2.1 (C.2.2.2.2.2.1 _ hw) hd (kk Γ p l e s m args below meth c H locs lsA C hlo hP hS)
theorem GG.ldcw {v : Int32} {idx : Nat} (h : gD y pc (.ldc_w idx) 3 pc') (hw : Cond.constant y.1.cls idx v ∈ gTbl) (kk : GG d y pc' ls (.int v :: st) μ Q) : GG d y pc ls st μ Q := by
  obtain ⟨hd, rfl⟩ := h
  intro Γ p l e s m args below meth c H locs lsA C hlo hP hS
  exact lv_ldcw C.1 C.2.1 C.2.2.2.2.1 (C.2.2.2.2.2.1 _ hw) hd (kk Γ p l e s m args below meth c H locs lsA C hlo hP hS)
end MEM
end
section
/-! CALLS of our methods, over the whole memory: the callee's contract is over the same memory, so no frame rule is wanted -/
def gMf (Y : gMI) (n : Nat) : Prop := Cond.code Y.1 Y.2.1 Y.2.2.1 Y.2.2.2 ∈ gTbl ∧ Cond.initialized Y.1.cls ∈ gTbl ∧ (Y.1.cls ≠ "java/lang/invoke/MethodHandle" ∧ Y.1.cls ≠ "java/lang/invoke/VarHandle" ∧ (parseMethodDescriptor Y.1.desc).map (fun d => d.parameters.length) = some n) ∧ Y.2.2.1 ≤ 21
def gMv (Y : gMI) : Prop := Cond.instanceMethod Y.1 ∈ gTbl ∧ Cond.selects Y.1.cls Y.1 Y.1 ∈ gTbl
def gMs (Y : gMI) : Prop := Cond.static Y.1 ∈ gTbl
theorem gGood {Y : gMI} {n : Nat} (h : gMf Y n) : GoodIn gTbl (gws Y) := by
  intro w hw
  have hm : w ∈ gTbl := by
    rcases List.mem_cons.mp hw with rfl | hw
    · exact h.1
    · exact hw
  exact ⟨hm, good_of_word (List.mem_filter.mp hm).2⟩
theorem gBlind {Γ : gC} {as : List Value} {μ : gM} : FrameBlind (va_Pc as (fun U => va_P Γ.1 gCl (gW Γ μ) U.heap ∧ va_K Γ.1 gCl (gT Γ) U ∧ gX Γ (gOwn Γ) U U.heap)) :=
  fun a U g mk q => by
    obtain ⟨q0, qP, qK, qX⟩ := q
    exact ⟨q0, qP, va_K.moved (u := U) (U := U.calling g mk a) (Vm.Alike.refl U.vm) qK, gX.same (u := U) (U := U.calling g mk a) rfl qX⟩
theorem gRecv {Γ : gC} {μ : gM} {s : State} {H : Heap} {a ci : Nat} {q : vw_C} (hK : va_K Γ.1 gCl (gT Γ) s) (hP : va_P Γ.1 gCl (gW Γ μ) H) (ho : gOb a = some ci) (hc : gCl[ci]? = some q) : ∃ cell : Cell, H[Γ.2.1 a]? = some cell ∧ cell.vm.isStatics = false ∧ s.vm.findClass q.1 = some cell.cls := by
  obtain ⟨fs, hs⟩ := gOb_sh ho
  exact va_recv hK hP hc (gW_at hs)
section CALLS
variable {p : Program} {l : Launch} {e : Env} {R : Room} {s : State} {m : MethodId} {args : Array Value} {below : List Frame} {meth : Method} {c : Code} {H : Heap} {locs : List Loc} {cells slots : Nat} {Qg : State → Prop} {Γ : gC} {μ : gM} {Y : gMI} {Q : Option Value → gM → Prop} {A0 : Nat → Prop} {lsA : Array Slot} {pc : Nat}
theorem gBack {g : JFrame} {rest st0 : List Value} {a : Array Value} (hg : g = F0 m pc lsA st0) (hr : va_Run p l e R s m args below meth c H locs cells slots 0 0 g rest (gQ Γ Q a) (gOwn Γ)) (hX : gX Γ (gOwn Γ) s H) (hS : va_S A0 s.heap H locs) (hA0 : ∀ q, gOwn Γ q → A0 q)
    (kk : ∀ (r : Option Value) (ν : gM) (H1 : Heap) (locs1 : List Loc), Q r ν → va_P Γ.1 gCl (gW Γ ν) H1 → va_S A0 s.heap H1 locs1 → gX Γ (gOwn Γ) s H1 → H.size ≤ H1.size → (∀ q : Nat, q < H.size → ¬ gOwn Γ q → H1[q]? = H[q]?) → W p l e R s m args below meth c H1 locs1 cells slots Qg (F0 m (pc + 3) lsA ((r.map (gv Γ)).toList ++ rest))) : W p l e R s m args below meth c H locs cells slots Qg (F0 m pc lsA st0) := by
  subst hg
  intro T hT X
  obtain ⟨v, st₀, t, T', L, h0, X', hL, e1, e2, ⟨⟨r, ν, hv, hq, hp⟩, hz, hk⟩, st⟩ := hr T hT X
  cases hv
  rw [h0] at hz hk
  obtain ⟨t2, a1, b1⟩ := kk r ν T'.heap (locs ++ L) hq (by rw [e1]; exact hp) ⟨Nat.le_trans hS.1 (by rw [e1]; exact hz), fun q h1 h2 => by rw [e1, hk q (Nat.lt_of_lt_of_le h1 hS.1) (fun z => h2 (hA0 q z))]; exact hS.2.1 q h1 h2, fun q hq => by
      rcases List.mem_append.mp hq with h | h
      · exact hS.2.2 q h
      · exact hA0 _ (hL q h)⟩ (hX.kept (fun a h1 h2 => by rw [e1]; exact hk a h1 h2)) (by rw [e1]; exact hz) (fun q h1 h2 => by rw [e1]; exact hk q h1 h2) T' rfl X'
  exact ⟨t2, st t2 a1, b1⟩
theorem gCB {own : String} {idx n d' : Nat} (hts : ∀ w ∈ gTbl, w.before args s = true) (hf : gMf Y n) (hlink : Cond.methodLink own idx Y.1 ∈ gTbl) (hR : d' + 1 ≤ R.frames ∧ 40 * d' + 40 ≤ R.locals) : CallB R s args own idx Y.1 Y.2.1 Y.2.2.1 Y.2.2.2 (gws Y) (gRm d') 0 0 n :=
  callB_of n hts (gGood hf) rfl rfl rfl (hts _ hf.2.1) (hts _ hlink) hf.2.2.1 ⟨hR.1, by show 8 + (Y.2.2.1 + 11) + 40 * d' ≤ _; have := hf.2.2.2; omega⟩
theorem gPre {C : String} {b : Nat} {as : List Value} (hK : va_K Γ.1 gCl (gT Γ) s) (hX : gX Γ (gOwn Γ) s H) (hP : va_P Γ.1 gCl (gW Γ μ) H) : ∀ U : State, U.heap = H → s.WarmedH U.vm → va_Pc (as.map (gv Γ)) (fun U => va_P Γ.1 gCl (gW Γ μ) U.heap ∧ va_K Γ.1 gCl (gT Γ) U ∧ gX Γ (gOwn Γ) U U.heap) (as.map (gv Γ)).toArray U :=
  fun U hU hW => ⟨rfl, by rw [hU]; exact hP, va_K.moved hW.alike hK, by rw [hU]; exact hX.warm hW⟩
theorem gCallV {cc : ByteArray} {nL : Nat} {own : String} (hx : p.tables.exec = Jvm.exec) (hb : c.code = cc) (hml : c.maxLocals = nL) (hown : s.vm.findClass own = some m.cls) (hts : ∀ w ∈ gTbl, w.before args s = true) (hK : va_K Γ.1 gCl (gT Γ) s) (hN : gN Γ) (hX : gX Γ (gOwn Γ) s H) (hP : va_P Γ.1 gCl (gW Γ μ) H) (hS : va_S A0 s.heap H locs) (hA0 : ∀ q, gOwn Γ q → A0 q) (hsz : lsA.size = nL)
    {idx n d' a : Nat} {as rest : List Value} (hlink : Cond.methodLink own idx Y.1 ∈ gTbl) (hf : gMf Y n) (hv : gMv Y) (hrec : ∃ cell : Cell, H[Γ.2.1 a]? = some cell ∧ cell.vm.isStatics = false ∧ s.vm.findClass Y.1.cls = some cell.cls) (hn : as.length = n) (hs : SPC d' Y (.ref a :: as) μ Q) (hR : d' + 1 ≤ R.frames ∧ 40 * d' + 40 ≤ R.locals) (hst : (rest.map fun v => v.category).sum ≤ 8) (hdg : decode cc pc = .ok (.invokevirtual idx, 3)) (hcs : cells ≤ R.cells ∧ slots ≤ R.slots)
    (kk : ∀ (r : Option Value) (ν : gM) (H1 : Heap) (locs1 : List Loc), Q r ν → va_P Γ.1 gCl (gW Γ ν) H1 → va_S A0 s.heap H1 locs1 → gX Γ (gOwn Γ) s H1 → H.size ≤ H1.size → (∀ q : Nat, q < H.size → ¬ gOwn Γ q → H1[q]? = H[q]?) → W p l e R s m args below meth c H1 locs1 cells slots Qg (F0 m (pc + 3) lsA ((r.map (gv Γ)).toList ++ rest))) :
    W p l e R s m args below meth c H locs cells slots Qg (F0 m pc lsA ((as.map (gv Γ)).reverse ++ .ref (Γ.2.1 a) :: rest)) :=
  gBack rfl (va_runV (As := as.map (gv Γ)) (C := Y.1.cls) ⟨hx, hb, hml, hown, hts⟩ (hs Γ l hN) ⟨gCB hts hf hlink hR, hts _ hv.1, hts _ hv.2⟩ ⟨gBlind, hrec, gPre (C := "") (b := 0) (as := .ref a :: as) hK hX hP⟩ rfl (by rw [List.length_map]; exact hn) hsz rfl (lv_room hst) hdg hcs) hX hS hA0 kk
theorem gCallS {cc : ByteArray} {nL : Nat} {own : String} (hx : p.tables.exec = Jvm.exec) (hb : c.code = cc) (hml : c.maxLocals = nL) (hown : s.vm.findClass own = some m.cls) (hts : ∀ w ∈ gTbl, w.before args s = true) (hK : va_K Γ.1 gCl (gT Γ) s) (hN : gN Γ) (hX : gX Γ (gOwn Γ) s H) (hP : va_P Γ.1 gCl (gW Γ μ) H) (hS : va_S A0 s.heap H locs) (hA0 : ∀ q, gOwn Γ q → A0 q) (hsz : lsA.size = nL)
    {idx n d' : Nat} {as rest : List Value} (hlink : Cond.methodLink own idx Y.1 ∈ gTbl) (hf : gMf Y n) (hv : gMs Y) (hn : as.length = n) (hs : SPC d' Y as μ Q) (hR : d' + 1 ≤ R.frames ∧ 40 * d' + 40 ≤ R.locals) (hst : (rest.map fun v => v.category).sum ≤ 8) (hdg : decode cc pc = .ok (.invokestatic idx, 3)) (hcs : cells ≤ R.cells ∧ slots ≤ R.slots)
    (kk : ∀ (r : Option Value) (ν : gM) (H1 : Heap) (locs1 : List Loc), Q r ν → va_P Γ.1 gCl (gW Γ ν) H1 → va_S A0 s.heap H1 locs1 → gX Γ (gOwn Γ) s H1 → H.size ≤ H1.size → (∀ q : Nat, q < H.size → ¬ gOwn Γ q → H1[q]? = H[q]?) → W p l e R s m args below meth c H1 locs1 cells slots Qg (F0 m (pc + 3) lsA ((r.map (gv Γ)).toList ++ rest))) :
    W p l e R s m args below meth c H locs cells slots Qg (F0 m pc lsA ((as.map (gv Γ)).reverse ++ rest)) :=
  gBack rfl (va_runS (As := as.map (gv Γ)) ⟨hx, hb, hml, hown, hts⟩ (hs Γ l hN) ⟨gCB hts hf hlink hR, hts _ hv⟩ ⟨gBlind, gPre (C := "") (b := 0) (as := as) hK hX hP⟩ rfl (by rw [List.length_map]; exact hn) hsz rfl (lv_room hst) hdg hcs) hX hS hA0 kk
theorem gCallSN {cc : ByteArray} {nL : Nat} {own host : String} (hx : p.tables.exec = Jvm.exec) (hb : c.code = cc) (hml : c.maxLocals = nL) (hown : s.vm.findClass own = some m.cls) (hts : ∀ w ∈ gTbl, w.before args s = true) (hK : va_K Γ.1 gCl (gT Γ) s) (hN : gN Γ) (hX : gX Γ (gOwn Γ) s H) (hP : va_P Γ.1 gCl (gW Γ μ) H) (hS : va_S A0 s.heap H locs) (hA0 : ∀ q, gOwn Γ q → A0 q) (hsz : lsA.size = nL)
    {idx n d' : Nat} {as rest : List Value} (hlink : Cond.methodLinkNest own idx Y.1 host ∈ lw_tbl) (hf : gMf Y n) (hv : gMs Y) (hn : as.length = n) (hs : SPC d' Y as μ Q) (hR : d' + 1 ≤ R.frames ∧ 40 * d' + 40 ≤ R.locals) (hst : (rest.map fun v => v.category).sum ≤ 8) (hdg : decode cc pc = .ok (.invokestatic idx, 3)) (hcs : cells ≤ R.cells ∧ slots ≤ R.slots)
    (kk : ∀ (r : Option Value) (ν : gM) (H1 : Heap) (locs1 : List Loc), Q r ν → va_P Γ.1 gCl (gW Γ ν) H1 → va_S A0 s.heap H1 locs1 → gX Γ (gOwn Γ) s H1 → H.size ≤ H1.size → (∀ q : Nat, q < H.size → ¬ gOwn Γ q → H1[q]? = H[q]?) → W p l e R s m args below meth c H1 locs1 cells slots Qg (F0 m (pc + 3) lsA ((r.map (gv Γ)).toList ++ rest))) :
    W p l e R s m args below meth c H locs cells slots Qg (F0 m pc lsA ((as.map (gv Γ)).reverse ++ rest)) :=
  gBack rfl (va_runSN (As := as.map (gv Γ)) (host := host) ⟨hx, hb, hml, hown, hts⟩ (hs Γ l hN) ⟨⟨⟨rfl, rfl, hR.1, by show 8 + (Y.2.2.1 + 11) + 40 * d' ≤ _; have := hf.2.2.2; omega, pay_in hts (gGood hf), List.mem_cons_self⟩, hts _ hf.1, hts _ hf.2.1, ⟨hf.2.2.1.1, hf.2.2.1.2.1⟩, fun sig h => by have h2 := hf.2.2.1.2.2; rw [h] at h2; exact (Option.some.inj h2).symm, va_Nw.use rfl (hX.2.2.2.2 _ _ _ _ hlink)⟩, hts _ hv, trivial⟩ ⟨gBlind, gPre (C := "") (b := 0) (as := as) hK hX hP⟩ rfl (by rw [List.length_map]; exact hn) hsz rfl (lv_room hst) hdg hcs) hX hS hA0 kk
end CALLS
def gpush : Option Value → List Value → List Value
  | none, st => st
  | some v, st => v :: st
theorem gpush_map {Γ : gC} (r : Option Value) (st : List Value) : (r.map (gv Γ)).toList ++ st.map (gv Γ) = (gpush r st).map (gv Γ) := by cases r <;> rfl
/-- what a call of an instance method of a class of ours wants -/
def gRc (a : Nat) (C : String) : Prop := ∃ (ci : Nat) (T : u_T) (N : Nat), gOb a = some ci ∧ gCl[ci]? = some (C, T, N)
section GCALLS
variable {d d' pc pc' n idx : Nat} {y Y : gMI} {ls : List (Nat × Value)} {st : List Value} {μ : gM} {Q : Option Value → gM → Prop}
theorem GG.callV {a : Nat} {as : List Value} {st0 : List Value} (h : gD y pc (.invokevirtual idx) 3 pc') (hlink : Cond.methodLink y.1.cls idx Y.1 ∈ gTbl) (hf : gMf Y n) (hv : gMv Y) (hrc : gRc a Y.1.cls) (hn : as.length = n) (hd : d' < d) (hst : (st.map fun v => v.category).sum ≤ 8) (he : as.reverse ++ .ref a :: st = st0) (hs : SPC d' Y (.ref a :: as) μ (fun r ν => GG d y pc' ls (gpush r st) ν Q)) : GG d y pc ls st0 μ Q := by
  obtain ⟨hdg, rfl⟩ := h
  subst he
  intro Γ p l e s m args below meth c H locs lsA C hlo hP hS
  obtain ⟨ci, T, N, ho, hc⟩ := hrc
  rw [List.map_append, List.map_cons, List.map_reverse]
  refine gCallV C.1 C.2.1 C.2.2.2.1 C.2.2.2.2.1 C.2.2.2.2.2.1 C.2.2.2.2.2.2.2.1 C.2.2.2.2.2.2.2.2.1 (C.2.2.2.2.2.2.2.2.2.kept hS.2.1) hP hS (fun _ z => z) hlo.1 hlink hf hv (gRecv C.2.2.2.2.2.2.2.1 hP ho hc) hn hs ⟨hd, by show 40 * d' + 40 ≤ 40 * d; omega⟩ (by rw [gcat_sum C.2.2.2.2.2.2.2.2.1]; exact hst) hdg ⟨Nat.zero_le _, Nat.zero_le _⟩ (fun r ν H1 locs1 hq hP1 hS1 _ _ _ => ?_)
  rw [gpush_map]
  exact hq Γ p l e s m args below meth c H1 locs1 lsA C hlo hP1 hS1
theorem GG.callS {as : List Value} {st0 : List Value} (h : gD y pc (.invokestatic idx) 3 pc') (hlink : Cond.methodLink y.1.cls idx Y.1 ∈ gTbl) (hf : gMf Y n) (hv : gMs Y) (hn : as.length = n) (hd : d' < d) (hst : (st.map fun v => v.category).sum ≤ 8) (he : as.reverse ++ st = st0) (hs : SPC d' Y as μ (fun r ν => GG d y pc' ls (gpush r st) ν Q)) : GG d y pc ls st0 μ Q := by
  obtain ⟨hdg, rfl⟩ := h
  subst he
  intro Γ p l e s m args below meth c H locs lsA C hlo hP hS
  rw [List.map_append, List.map_reverse]
  refine gCallS C.1 C.2.1 C.2.2.2.1 C.2.2.2.2.1 C.2.2.2.2.2.1 C.2.2.2.2.2.2.2.1 C.2.2.2.2.2.2.2.2.1 (C.2.2.2.2.2.2.2.2.2.kept hS.2.1) hP hS (fun _ z => z) hlo.1 hlink hf hv hn hs ⟨hd, by show 40 * d' + 40 ≤ 40 * d; omega⟩ (by rw [gcat_sum C.2.2.2.2.2.2.2.2.1]; exact hst) hdg ⟨Nat.zero_le _, Nat.zero_le _⟩ (fun r ν H1 locs1 hq hP1 hS1 _ _ _ => ?_)
  rw [gpush_map]
  exact hq Γ p l e s m args below meth c H1 locs1 lsA C hlo hP1 hS1
theorem GG.callN {as : List Value} {st0 : List Value} {host : String} (h : gD y pc (.invokestatic idx) 3 pc') (hlink : Cond.methodLinkNest y.1.cls idx Y.1 host ∈ lw_tbl) (hf : gMf Y n) (hv : gMs Y) (hn : as.length = n) (hd : d' < d) (hst : (st.map fun v => v.category).sum ≤ 8) (he : as.reverse ++ st = st0) (hs : SPC d' Y as μ (fun r ν => GG d y pc' ls (gpush r st) ν Q)) : GG d y pc ls st0 μ Q := by
  obtain ⟨hdg, rfl⟩ := h
  subst he
  intro Γ p l e s m args below meth c H locs lsA C hlo hP hS
  rw [List.map_append, List.map_reverse]
  refine gCallSN C.1 C.2.1 C.2.2.2.1 C.2.2.2.2.1 C.2.2.2.2.2.1 C.2.2.2.2.2.2.2.1 C.2.2.2.2.2.2.2.2.1 (C.2.2.2.2.2.2.2.2.2.kept hS.2.1) hP hS (fun _ z => z) hlo.1 hlink hf hv hn hs ⟨hd, by show 40 * d' + 40 ≤ 40 * d; omega⟩ (by rw [gcat_sum C.2.2.2.2.2.2.2.2.1]; exact hst) hdg ⟨Nat.zero_le _, Nat.zero_le _⟩ (fun r ν H1 locs1 hq hP1 hS1 _ _ _ => ?_)
  rw [gpush_map]
  exact hq Γ p l e s m args below meth c H1 locs1 lsA C hlo hP1 hS1
end GCALLS
end
