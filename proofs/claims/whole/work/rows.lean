section
-- ===== PART A: goes FIRST, ahead of the names: the tables' words, and 'selects' of the private methods out of them =====
/-- a private method of a class that the tables say can be made, by its rows of tables_1 -/
def lw_okq (q : MethodName × Nat) : Prop := (q.1.cls ≠ "java/lang/invoke/MethodHandle" ∧ q.1.cls ≠ "java/lang/invoke/VarHandle") ∧ Cond.instantiable q.1.cls q.2 ∈ tables_1 ∧ Cond.privateMethod q.1 ∈ tables_1 ∧ Cond.instanceMethod q.1 ∈ tables_1
theorem lw_p0 : lw_okq (⟨"SpoonPassage", "isDigger", "(I)Z"⟩, 10) := ⟨⟨by decide +kernel, by decide +kernel⟩, List.mem_of_getElem? (i := 19) (by decide +kernel), List.mem_of_getElem? (i := 316) (by decide +kernel), List.mem_of_getElem? (i := 317) (by decide +kernel)⟩
theorem lw_p1 : lw_okq (⟨"SpoonPassage", "differences", "(LSpoonPassage$Sheet;I)I"⟩, 10) := ⟨⟨by decide +kernel, by decide +kernel⟩, List.mem_of_getElem? (i := 19) (by decide +kernel), List.mem_of_getElem? (i := 563) (by decide +kernel), List.mem_of_getElem? (i := 564) (by decide +kernel)⟩
theorem lw_p2 : lw_okq (⟨"SpoonPassage$Reader", "part", "(I)Z"⟩, 12) := ⟨⟨by decide +kernel, by decide +kernel⟩, List.mem_of_getElem? (i := 55) (by decide +kernel), List.mem_of_getElem? (i := 694) (by decide +kernel), List.mem_of_getElem? (i := 695) (by decide +kernel)⟩
theorem lw_p3 : lw_okq (⟨"SpoonPassage$Reader", "piece", "()Z"⟩, 12) := ⟨⟨by decide +kernel, by decide +kernel⟩, List.mem_of_getElem? (i := 55) (by decide +kernel), List.mem_of_getElem? (i := 698) (by decide +kernel), List.mem_of_getElem? (i := 699) (by decide +kernel)⟩
theorem lw_p4 : lw_okq (⟨"SpoonPassage$Reader", "not", "()Z"⟩, 12) := ⟨⟨by decide +kernel, by decide +kernel⟩, List.mem_of_getElem? (i := 55) (by decide +kernel), List.mem_of_getElem? (i := 779) (by decide +kernel), List.mem_of_getElem? (i := 780) (by decide +kernel)⟩
theorem lw_p5 : lw_okq (⟨"SpoonPassage$Reader", "bracket", "()Z"⟩, 12) := ⟨⟨by decide +kernel, by decide +kernel⟩, List.mem_of_getElem? (i := 55) (by decide +kernel), List.mem_of_getElem? (i := 783) (by decide +kernel), List.mem_of_getElem? (i := 784) (by decide +kernel)⟩
theorem lw_p6 : lw_okq (⟨"SpoonPassage", "isTold", "(III)Z"⟩, 10) := ⟨⟨by decide +kernel, by decide +kernel⟩, List.mem_of_getElem? (i := 19) (by decide +kernel), List.mem_of_getElem? (i := 888) (by decide +kernel), List.mem_of_getElem? (i := 889) (by decide +kernel)⟩
theorem lw_p7 : lw_okq (⟨"SpoonPassageModel", "comes", "(IIII)I"⟩, 33) := ⟨⟨by decide +kernel, by decide +kernel⟩, List.mem_of_getElem? (i := 905) (by decide +kernel), List.mem_of_getElem? (i := 1025) (by decide +kernel), List.mem_of_getElem? (i := 1026) (by decide +kernel)⟩
theorem lw_p8 : lw_okq (⟨"SpoonPassageModel", "put", "(III)V"⟩, 33) := ⟨⟨by decide +kernel, by decide +kernel⟩, List.mem_of_getElem? (i := 905) (by decide +kernel), List.mem_of_getElem? (i := 1029) (by decide +kernel), List.mem_of_getElem? (i := 1030) (by decide +kernel)⟩
theorem lw_p9 : lw_okq (⟨"SpoonPassageModel", "isDigger", "(I)Z"⟩, 33) := ⟨⟨by decide +kernel, by decide +kernel⟩, List.mem_of_getElem? (i := 905) (by decide +kernel), List.mem_of_getElem? (i := 1037) (by decide +kernel), List.mem_of_getElem? (i := 1038) (by decide +kernel)⟩
theorem lw_p10 : lw_okq (⟨"SpoonPassageModel", "of", "(II)I"⟩, 33) := ⟨⟨by decide +kernel, by decide +kernel⟩, List.mem_of_getElem? (i := 905) (by decide +kernel), List.mem_of_getElem? (i := 1041) (by decide +kernel), List.mem_of_getElem? (i := 1042) (by decide +kernel)⟩
theorem lw_p11 : lw_okq (⟨"SpoonPassageModel", "digsOf", "(I)I"⟩, 33) := ⟨⟨by decide +kernel, by decide +kernel⟩, List.mem_of_getElem? (i := 905) (by decide +kernel), List.mem_of_getElem? (i := 1045) (by decide +kernel), List.mem_of_getElem? (i := 1046) (by decide +kernel)⟩
theorem lw_p12 : lw_okq (⟨"SpoonPassageModel", "plainDig", "(I)I"⟩, 33) := ⟨⟨by decide +kernel, by decide +kernel⟩, List.mem_of_getElem? (i := 905) (by decide +kernel), List.mem_of_getElem? (i := 1049) (by decide +kernel), List.mem_of_getElem? (i := 1050) (by decide +kernel)⟩
theorem lw_p13 : lw_okq (⟨"SpoonPassageModel", "counts", "(I)I"⟩, 33) := ⟨⟨by decide +kernel, by decide +kernel⟩, List.mem_of_getElem? (i := 905) (by decide +kernel), List.mem_of_getElem? (i := 1053) (by decide +kernel), List.mem_of_getElem? (i := 1054) (by decide +kernel)⟩
theorem lw_p14 : lw_okq (⟨"SpoonPassageModel", "at", "(II)I"⟩, 33) := ⟨⟨by decide +kernel, by decide +kernel⟩, List.mem_of_getElem? (i := 905) (by decide +kernel), List.mem_of_getElem? (i := 1057) (by decide +kernel), List.mem_of_getElem? (i := 1058) (by decide +kernel)⟩
theorem lw_p15 : lw_okq (⟨"SpoonPassageModel", "ahead", "(I)I"⟩, 33) := ⟨⟨by decide +kernel, by decide +kernel⟩, List.mem_of_getElem? (i := 905) (by decide +kernel), List.mem_of_getElem? (i := 1061) (by decide +kernel), List.mem_of_getElem? (i := 1062) (by decide +kernel)⟩
def lw_privs_1 : List (MethodName × Nat) := [(⟨"SpoonPassage", "isDigger", "(I)Z"⟩, 10), (⟨"SpoonPassage", "differences", "(LSpoonPassage$Sheet;I)I"⟩, 10), (⟨"SpoonPassage$Reader", "part", "(I)Z"⟩, 12), (⟨"SpoonPassage$Reader", "piece", "()Z"⟩, 12), (⟨"SpoonPassage$Reader", "not", "()Z"⟩, 12), (⟨"SpoonPassage$Reader", "bracket", "()Z"⟩, 12), (⟨"SpoonPassage", "isTold", "(III)Z"⟩, 10), (⟨"SpoonPassageModel", "comes", "(IIII)I"⟩, 33), (⟨"SpoonPassageModel", "put", "(III)V"⟩, 33), (⟨"SpoonPassageModel", "isDigger", "(I)Z"⟩, 33), (⟨"SpoonPassageModel", "of", "(II)I"⟩, 33), (⟨"SpoonPassageModel", "digsOf", "(I)I"⟩, 33), (⟨"SpoonPassageModel", "plainDig", "(I)I"⟩, 33), (⟨"SpoonPassageModel", "counts", "(I)I"⟩, 33), (⟨"SpoonPassageModel", "at", "(II)I"⟩, 33), (⟨"SpoonPassageModel", "ahead", "(I)I"⟩, 33)]
theorem lw_r1 : ∀ q ∈ lw_privs_1, lw_okq q := List.forall_mem_cons.mpr ⟨lw_p0, List.forall_mem_cons.mpr ⟨lw_p1, List.forall_mem_cons.mpr ⟨lw_p2, List.forall_mem_cons.mpr ⟨lw_p3, List.forall_mem_cons.mpr ⟨lw_p4, List.forall_mem_cons.mpr ⟨lw_p5, List.forall_mem_cons.mpr ⟨lw_p6, List.forall_mem_cons.mpr ⟨lw_p7, List.forall_mem_cons.mpr ⟨lw_p8, List.forall_mem_cons.mpr ⟨lw_p9, List.forall_mem_cons.mpr ⟨lw_p10, List.forall_mem_cons.mpr ⟨lw_p11, List.forall_mem_cons.mpr ⟨lw_p12, List.forall_mem_cons.mpr ⟨lw_p13, List.forall_mem_cons.mpr ⟨lw_p14, List.forall_mem_cons.mpr ⟨lw_p15, fun _ h => absurd h List.not_mem_nil⟩⟩⟩⟩⟩⟩⟩⟩⟩⟩⟩⟩⟩⟩⟩⟩
theorem lw_p16 : lw_okq (⟨"SpoonPassageModel", "litIn", "(I)I"⟩, 33) := ⟨⟨by decide +kernel, by decide +kernel⟩, List.mem_of_getElem? (i := 905) (by decide +kernel), List.mem_of_getElem? (i := 1065) (by decide +kernel), List.mem_of_getElem? (i := 1066) (by decide +kernel)⟩
theorem lw_p17 : lw_okq (⟨"SpoonPassageModel", "worksOut", "(I)I"⟩, 33) := ⟨⟨by decide +kernel, by decide +kernel⟩, List.mem_of_getElem? (i := 905) (by decide +kernel), List.mem_of_getElem? (i := 1072) (by decide +kernel), List.mem_of_getElem? (i := 1073) (by decide +kernel)⟩
theorem lw_p18 : lw_okq (⟨"SpoonPassageModel", "isFarOff", "(I)Z"⟩, 33) := ⟨⟨by decide +kernel, by decide +kernel⟩, List.mem_of_getElem? (i := 905) (by decide +kernel), List.mem_of_getElem? (i := 1082) (by decide +kernel), List.mem_of_getElem? (i := 1083) (by decide +kernel)⟩
theorem lw_p19 : lw_okq (⟨"SpoonPassageModel", "fellows", "(I)I"⟩, 33) := ⟨⟨by decide +kernel, by decide +kernel⟩, List.mem_of_getElem? (i := 905) (by decide +kernel), List.mem_of_getElem? (i := 1086) (by decide +kernel), List.mem_of_getElem? (i := 1087) (by decide +kernel)⟩
theorem lw_p20 : lw_okq (⟨"SpoonPassageModel", "burnsOf", "(I)I"⟩, 33) := ⟨⟨by decide +kernel, by decide +kernel⟩, List.mem_of_getElem? (i := 905) (by decide +kernel), List.mem_of_getElem? (i := 1090) (by decide +kernel), List.mem_of_getElem? (i := 1091) (by decide +kernel)⟩
theorem lw_p21 : lw_okq (⟨"SpoonPassageModel", "worthOf", "(I)I"⟩, 33) := ⟨⟨by decide +kernel, by decide +kernel⟩, List.mem_of_getElem? (i := 905) (by decide +kernel), List.mem_of_getElem? (i := 1094) (by decide +kernel), List.mem_of_getElem? (i := 1095) (by decide +kernel)⟩
theorem lw_p22 : lw_okq (⟨"SpoonPassageModel", "swaps", "(II)I"⟩, 33) := ⟨⟨by decide +kernel, by decide +kernel⟩, List.mem_of_getElem? (i := 905) (by decide +kernel), List.mem_of_getElem? (i := 1110) (by decide +kernel), List.mem_of_getElem? (i := 1111) (by decide +kernel)⟩
theorem lw_p23 : lw_okq (⟨"SpoonPassageModel", "mayBe", "(III)Z"⟩, 33) := ⟨⟨by decide +kernel, by decide +kernel⟩, List.mem_of_getElem? (i := 905) (by decide +kernel), List.mem_of_getElem? (i := 1126) (by decide +kernel), List.mem_of_getElem? (i := 1127) (by decide +kernel)⟩
theorem lw_p24 : lw_okq (⟨"SpoonPassageModel", "diggersIn", "(I)I"⟩, 33) := ⟨⟨by decide +kernel, by decide +kernel⟩, List.mem_of_getElem? (i := 905) (by decide +kernel), List.mem_of_getElem? (i := 1134) (by decide +kernel), List.mem_of_getElem? (i := 1135) (by decide +kernel)⟩
theorem lw_p25 : lw_okq (⟨"SpoonPassageModel", "allDigs", "(I)I"⟩, 33) := ⟨⟨by decide +kernel, by decide +kernel⟩, List.mem_of_getElem? (i := 905) (by decide +kernel), List.mem_of_getElem? (i := 1138) (by decide +kernel), List.mem_of_getElem? (i := 1139) (by decide +kernel)⟩
theorem lw_p26 : lw_okq (⟨"SpoonPassageModel", "draw", "()I"⟩, 33) := ⟨⟨by decide +kernel, by decide +kernel⟩, List.mem_of_getElem? (i := 905) (by decide +kernel), List.mem_of_getElem? (i := 1150) (by decide +kernel), List.mem_of_getElem? (i := 1151) (by decide +kernel)⟩
theorem lw_p27 : lw_okq (⟨"SpoonPassageModel", "sums", "(I)I"⟩, 33) := ⟨⟨by decide +kernel, by decide +kernel⟩, List.mem_of_getElem? (i := 905) (by decide +kernel), List.mem_of_getElem? (i := 1163) (by decide +kernel), List.mem_of_getElem? (i := 1164) (by decide +kernel)⟩
theorem lw_p28 : lw_okq (⟨"SpoonPassageModel", "goesOn", "(I)V"⟩, 33) := ⟨⟨by decide +kernel, by decide +kernel⟩, List.mem_of_getElem? (i := 905) (by decide +kernel), List.mem_of_getElem? (i := 1167) (by decide +kernel), List.mem_of_getElem? (i := 1168) (by decide +kernel)⟩
theorem lw_p29 : lw_okq (⟨"SpoonPassageModel", "night", "()V"⟩, 33) := ⟨⟨by decide +kernel, by decide +kernel⟩, List.mem_of_getElem? (i := 905) (by decide +kernel), List.mem_of_getElem? (i := 1171) (by decide +kernel), List.mem_of_getElem? (i := 1172) (by decide +kernel)⟩
theorem lw_p30 : lw_okq (⟨"SpoonPassageModel", "digs", "(I)V"⟩, 33) := ⟨⟨by decide +kernel, by decide +kernel⟩, List.mem_of_getElem? (i := 905) (by decide +kernel), List.mem_of_getElem? (i := 1175) (by decide +kernel), List.mem_of_getElem? (i := 1176) (by decide +kernel)⟩
theorem lw_p31 : lw_okq (⟨"SpoonPassageModel", "warder", "(I)V"⟩, 33) := ⟨⟨by decide +kernel, by decide +kernel⟩, List.mem_of_getElem? (i := 905) (by decide +kernel), List.mem_of_getElem? (i := 1179) (by decide +kernel), List.mem_of_getElem? (i := 1180) (by decide +kernel)⟩
def lw_privs_2 : List (MethodName × Nat) := [(⟨"SpoonPassageModel", "litIn", "(I)I"⟩, 33), (⟨"SpoonPassageModel", "worksOut", "(I)I"⟩, 33), (⟨"SpoonPassageModel", "isFarOff", "(I)Z"⟩, 33), (⟨"SpoonPassageModel", "fellows", "(I)I"⟩, 33), (⟨"SpoonPassageModel", "burnsOf", "(I)I"⟩, 33), (⟨"SpoonPassageModel", "worthOf", "(I)I"⟩, 33), (⟨"SpoonPassageModel", "swaps", "(II)I"⟩, 33), (⟨"SpoonPassageModel", "mayBe", "(III)Z"⟩, 33), (⟨"SpoonPassageModel", "diggersIn", "(I)I"⟩, 33), (⟨"SpoonPassageModel", "allDigs", "(I)I"⟩, 33), (⟨"SpoonPassageModel", "draw", "()I"⟩, 33), (⟨"SpoonPassageModel", "sums", "(I)I"⟩, 33), (⟨"SpoonPassageModel", "goesOn", "(I)V"⟩, 33), (⟨"SpoonPassageModel", "night", "()V"⟩, 33), (⟨"SpoonPassageModel", "digs", "(I)V"⟩, 33), (⟨"SpoonPassageModel", "warder", "(I)V"⟩, 33)]
theorem lw_r2 : ∀ q ∈ lw_privs_2, lw_okq q := List.forall_mem_cons.mpr ⟨lw_p16, List.forall_mem_cons.mpr ⟨lw_p17, List.forall_mem_cons.mpr ⟨lw_p18, List.forall_mem_cons.mpr ⟨lw_p19, List.forall_mem_cons.mpr ⟨lw_p20, List.forall_mem_cons.mpr ⟨lw_p21, List.forall_mem_cons.mpr ⟨lw_p22, List.forall_mem_cons.mpr ⟨lw_p23, List.forall_mem_cons.mpr ⟨lw_p24, List.forall_mem_cons.mpr ⟨lw_p25, List.forall_mem_cons.mpr ⟨lw_p26, List.forall_mem_cons.mpr ⟨lw_p27, List.forall_mem_cons.mpr ⟨lw_p28, List.forall_mem_cons.mpr ⟨lw_p29, List.forall_mem_cons.mpr ⟨lw_p30, List.forall_mem_cons.mpr ⟨lw_p31, fun _ h => absurd h List.not_mem_nil⟩⟩⟩⟩⟩⟩⟩⟩⟩⟩⟩⟩⟩⟩⟩⟩
theorem lw_p32 : lw_okq (⟨"SpoonPassageModel", "peopled", "()I"⟩, 33) := ⟨⟨by decide +kernel, by decide +kernel⟩, List.mem_of_getElem? (i := 905) (by decide +kernel), List.mem_of_getElem? (i := 1187) (by decide +kernel), List.mem_of_getElem? (i := 1188) (by decide +kernel)⟩
theorem lw_p33 : lw_okq (⟨"SpoonPassageModel", "front", "()I"⟩, 33) := ⟨⟨by decide +kernel, by decide +kernel⟩, List.mem_of_getElem? (i := 905) (by decide +kernel), List.mem_of_getElem? (i := 1191) (by decide +kernel), List.mem_of_getElem? (i := 1192) (by decide +kernel)⟩
theorem lw_p34 : lw_okq (⟨"SpoonPassageModel", "thinks", "()V"⟩, 33) := ⟨⟨by decide +kernel, by decide +kernel⟩, List.mem_of_getElem? (i := 905) (by decide +kernel), List.mem_of_getElem? (i := 1199) (by decide +kernel), List.mem_of_getElem? (i := 1200) (by decide +kernel)⟩
theorem lw_p35 : lw_okq (⟨"SpoonPassageModel", "putsBack", "()V"⟩, 33) := ⟨⟨by decide +kernel, by decide +kernel⟩, List.mem_of_getElem? (i := 905) (by decide +kernel), List.mem_of_getElem? (i := 1206) (by decide +kernel), List.mem_of_getElem? (i := 1207) (by decide +kernel)⟩
theorem lw_p36 : lw_okq (⟨"SpoonPassageModel", "isHigh", "(III)Z"⟩, 33) := ⟨⟨by decide +kernel, by decide +kernel⟩, List.mem_of_getElem? (i := 905) (by decide +kernel), List.mem_of_getElem? (i := 1223) (by decide +kernel), List.mem_of_getElem? (i := 1224) (by decide +kernel)⟩
theorem lw_p37 : lw_okq (⟨"SpoonPassageModel", "earthOn", "(II)I"⟩, 33) := ⟨⟨by decide +kernel, by decide +kernel⟩, List.mem_of_getElem? (i := 905) (by decide +kernel), List.mem_of_getElem? (i := 1231) (by decide +kernel), List.mem_of_getElem? (i := 1232) (by decide +kernel)⟩
theorem lw_p38 : lw_okq (⟨"SpoonPassageModel", "bestOf", "(IIIII)I"⟩, 33) := ⟨⟨by decide +kernel, by decide +kernel⟩, List.mem_of_getElem? (i := 905) (by decide +kernel), List.mem_of_getElem? (i := 1239) (by decide +kernel), List.mem_of_getElem? (i := 1240) (by decide +kernel)⟩
theorem lw_p39 : lw_okq (⟨"SpoonPassageModel", "go", "()V"⟩, 33) := ⟨⟨by decide +kernel, by decide +kernel⟩, List.mem_of_getElem? (i := 905) (by decide +kernel), List.mem_of_getElem? (i := 1278) (by decide +kernel), List.mem_of_getElem? (i := 1279) (by decide +kernel)⟩
theorem lw_p40 : lw_okq (⟨"SpoonPassageModel", "isLetter", "(I)Z"⟩, 33) := ⟨⟨by decide +kernel, by decide +kernel⟩, List.mem_of_getElem? (i := 905) (by decide +kernel), List.mem_of_getElem? (i := 1282) (by decide +kernel), List.mem_of_getElem? (i := 1283) (by decide +kernel)⟩
theorem lw_p41 : lw_okq (⟨"SpoonPassageModel", "isFigure", "(I)Z"⟩, 33) := ⟨⟨by decide +kernel, by decide +kernel⟩, List.mem_of_getElem? (i := 905) (by decide +kernel), List.mem_of_getElem? (i := 1286) (by decide +kernel), List.mem_of_getElem? (i := 1287) (by decide +kernel)⟩
theorem lw_p42 : lw_okq (⟨"SpoonPassageModel", "takesKey", "()Z"⟩, 33) := ⟨⟨by decide +kernel, by decide +kernel⟩, List.mem_of_getElem? (i := 905) (by decide +kernel), List.mem_of_getElem? (i := 1290) (by decide +kernel), List.mem_of_getElem? (i := 1291) (by decide +kernel)⟩
theorem lw_p43 : lw_okq (⟨"SpoonPassageModel", "takesE", "()Z"⟩, 33) := ⟨⟨by decide +kernel, by decide +kernel⟩, List.mem_of_getElem? (i := 905) (by decide +kernel), List.mem_of_getElem? (i := 1294) (by decide +kernel), List.mem_of_getElem? (i := 1295) (by decide +kernel)⟩
theorem lw_p44 : lw_okq (⟨"SpoonPassageModel", "takesPart", "()Z"⟩, 33) := ⟨⟨by decide +kernel, by decide +kernel⟩, List.mem_of_getElem? (i := 905) (by decide +kernel), List.mem_of_getElem? (i := 1298) (by decide +kernel), List.mem_of_getElem? (i := 1299) (by decide +kernel)⟩
theorem lw_p45 : lw_okq (⟨"SpoonPassageModel", "nameOf", "(I)I"⟩, 33) := ⟨⟨by decide +kernel, by decide +kernel⟩, List.mem_of_getElem? (i := 905) (by decide +kernel), List.mem_of_getElem? (i := 1302) (by decide +kernel), List.mem_of_getElem? (i := 1303) (by decide +kernel)⟩
theorem lw_p46 : lw_okq (⟨"SpoonPassageModel", "settle", "(I)V"⟩, 33) := ⟨⟨by decide +kernel, by decide +kernel⟩, List.mem_of_getElem? (i := 905) (by decide +kernel), List.mem_of_getElem? (i := 1306) (by decide +kernel), List.mem_of_getElem? (i := 1307) (by decide +kernel)⟩
theorem lw_p47 : lw_okq (⟨"SpoonPassageModel", "notsOpen", "()I"⟩, 33) := ⟨⟨by decide +kernel, by decide +kernel⟩, List.mem_of_getElem? (i := 905) (by decide +kernel), List.mem_of_getElem? (i := 1313) (by decide +kernel), List.mem_of_getElem? (i := 1314) (by decide +kernel)⟩
def lw_privs_3 : List (MethodName × Nat) := [(⟨"SpoonPassageModel", "peopled", "()I"⟩, 33), (⟨"SpoonPassageModel", "front", "()I"⟩, 33), (⟨"SpoonPassageModel", "thinks", "()V"⟩, 33), (⟨"SpoonPassageModel", "putsBack", "()V"⟩, 33), (⟨"SpoonPassageModel", "isHigh", "(III)Z"⟩, 33), (⟨"SpoonPassageModel", "earthOn", "(II)I"⟩, 33), (⟨"SpoonPassageModel", "bestOf", "(IIIII)I"⟩, 33), (⟨"SpoonPassageModel", "go", "()V"⟩, 33), (⟨"SpoonPassageModel", "isLetter", "(I)Z"⟩, 33), (⟨"SpoonPassageModel", "isFigure", "(I)Z"⟩, 33), (⟨"SpoonPassageModel", "takesKey", "()Z"⟩, 33), (⟨"SpoonPassageModel", "takesE", "()Z"⟩, 33), (⟨"SpoonPassageModel", "takesPart", "()Z"⟩, 33), (⟨"SpoonPassageModel", "nameOf", "(I)I"⟩, 33), (⟨"SpoonPassageModel", "settle", "(I)V"⟩, 33), (⟨"SpoonPassageModel", "notsOpen", "()I"⟩, 33)]
theorem lw_r3 : ∀ q ∈ lw_privs_3, lw_okq q := List.forall_mem_cons.mpr ⟨lw_p32, List.forall_mem_cons.mpr ⟨lw_p33, List.forall_mem_cons.mpr ⟨lw_p34, List.forall_mem_cons.mpr ⟨lw_p35, List.forall_mem_cons.mpr ⟨lw_p36, List.forall_mem_cons.mpr ⟨lw_p37, List.forall_mem_cons.mpr ⟨lw_p38, List.forall_mem_cons.mpr ⟨lw_p39, List.forall_mem_cons.mpr ⟨lw_p40, List.forall_mem_cons.mpr ⟨lw_p41, List.forall_mem_cons.mpr ⟨lw_p42, List.forall_mem_cons.mpr ⟨lw_p43, List.forall_mem_cons.mpr ⟨lw_p44, List.forall_mem_cons.mpr ⟨lw_p45, List.forall_mem_cons.mpr ⟨lw_p46, List.forall_mem_cons.mpr ⟨lw_p47, fun _ h => absurd h List.not_mem_nil⟩⟩⟩⟩⟩⟩⟩⟩⟩⟩⟩⟩⟩⟩⟩⟩
theorem lw_p48 : lw_okq (⟨"SpoonPassageModel", "signHere", "()I"⟩, 33) := ⟨⟨by decide +kernel, by decide +kernel⟩, List.mem_of_getElem? (i := 905) (by decide +kernel), List.mem_of_getElem? (i := 1317) (by decide +kernel), List.mem_of_getElem? (i := 1318) (by decide +kernel)⟩
theorem lw_p49 : lw_okq (⟨"SpoonPassageModel", "allDug", "()I"⟩, 33) := ⟨⟨by decide +kernel, by decide +kernel⟩, List.mem_of_getElem? (i := 905) (by decide +kernel), List.mem_of_getElem? (i := 1381) (by decide +kernel), List.mem_of_getElem? (i := 1382) (by decide +kernel)⟩
def lw_privs_4 : List (MethodName × Nat) := [(⟨"SpoonPassageModel", "signHere", "()I"⟩, 33), (⟨"SpoonPassageModel", "allDug", "()I"⟩, 33)]
theorem lw_r4 : ∀ q ∈ lw_privs_4, lw_okq q := List.forall_mem_cons.mpr ⟨lw_p48, List.forall_mem_cons.mpr ⟨lw_p49, fun _ h => absurd h List.not_mem_nil⟩⟩
def lw_privs : List (MethodName × Nat) := lw_privs_1 ++ (lw_privs_2 ++ (lw_privs_3 ++ (lw_privs_4)))
def lw_tbl : List Cond := k2_sels lw_privs ++ tables_1
theorem lw_privs_ok : ∀ q ∈ lw_privs, lw_okq q := by
  show ∀ q ∈ lw_privs_1 ++ (lw_privs_2 ++ (lw_privs_3 ++ (lw_privs_4))), lw_okq q
  exact List.forall_mem_append.mpr ⟨lw_r1, List.forall_mem_append.mpr ⟨lw_r2, List.forall_mem_append.mpr ⟨lw_r3, lw_r4⟩⟩⟩
def RX0 : String := "SpoonPassage$Branch"
def TX0 : u_T := fun k => match k with
  | 0 => ("SpoonPassage$Branch", "dug", "I", false)
  | 1 => ("SpoonPassage$Branch", "rock", "I", false)
  | _ => ("SpoonPassage$Branch", "warder", "I", false)
def tyX0 : Nat → FieldType := fun k => match k with
  | 0 => .int
  | 1 => .int
  | _ => .int
abbrev wsX00 : List Cond := u_ws RX0 TX0 3
theorem nmX0 : ∀ a, a < 3 → ∀ b, b < 3 → a ≠ b → (TX0 a).2.1 ≠ (TX0 b).2.1 := by decide +kernel
theorem tyX0_ok : ∀ k, k < 3 → parseFieldDescriptor (TX0 k).2.2.1 = some (tyX0 k) := by decide +kernel
abbrev cX0_init : ByteArray := prog_2_method_1_code
def yX0_init : MethodName := ⟨RX0, "<init>", "()V"⟩
abbrev cX0_becomeAs : ByteArray := prog_2_method_2_code
def yX0_becomeAs : MethodName := ⟨RX0, "becomeAs", "(LSpoonPassage$Branch;)V"⟩
abbrev cX0_ahead : ByteArray := prog_2_method_3_code
def yX0_ahead : MethodName := ⟨RX0, "ahead", "()I"⟩
def RX1 : String := "SpoonPassage$Digger"
def TX1 : u_T := fun k => match k with
  | 0 => ("SpoonPassage$Digger", "kind", "I", false)
  | 1 => ("SpoonPassage$Digger", "force", "I", false)
  | 2 => ("SpoonPassage$Digger", "candles", "I", false)
  | 3 => ("SpoonPassage$Digger", "branch", "I", false)
  | _ => ("SpoonPassage$Digger", "earth", "I", false)
def tyX1 : Nat → FieldType := fun k => match k with
  | 0 => .int
  | 1 => .int
  | 2 => .int
  | 3 => .int
  | _ => .int
abbrev wsX10 : List Cond := u_ws RX1 TX1 5
theorem nmX1 : ∀ a, a < 5 → ∀ b, b < 5 → a ≠ b → (TX1 a).2.1 ≠ (TX1 b).2.1 := by decide +kernel
theorem tyX1_ok : ∀ k, k < 5 → parseFieldDescriptor (TX1 k).2.2.1 = some (tyX1 k) := by decide +kernel
abbrev cX1_init : ByteArray := prog_3_method_1_code
def yX1_init : MethodName := ⟨RX1, "<init>", "()V"⟩
abbrev cX1_becomeAs : ByteArray := prog_3_method_2_code
def yX1_becomeAs : MethodName := ⟨RX1, "becomeAs", "(LSpoonPassage$Digger;)V"⟩
abbrev cX1_isLit : ByteArray := prog_3_method_3_code
def yX1_isLit : MethodName := ⟨RX1, "isLit", "()Z"⟩
abbrev cX1_isOne : ByteArray := prog_3_method_4_code
def yX1_isOne : MethodName := ⟨RX1, "isOne", "(I)Z"⟩
abbrev cX1_worth : ByteArray := prog_3_method_5_code
def yX1_worth : MethodName := ⟨RX1, "worth", "()I"⟩
def RX2 : String := "SpoonPassage$Passage"
def TX2 : u_T := fun k => match k with
  | 0 => ("SpoonPassage$Passage", "branches", "[LSpoonPassage$Branch;", true)
  | 1 => ("SpoonPassage$Passage", "family", "[LSpoonPassage$Digger;", true)
  | 2 => ("SpoonPassage$Passage", "laws", "[I", true)
  | 3 => ("SpoonPassage$Passage", "table", "LSpoonPassage$Texts;", true)
  | 4 => ("SpoonPassage$Passage", "diggers", "I", false)
  | 5 => ("SpoonPassage$Passage", "texts", "I", false)
  | 6 => ("SpoonPassage$Passage", "step", "I", false)
  | 7 => ("SpoonPassage$Passage", "fall", "I", false)
  | 8 => ("SpoonPassage$Passage", "met", "I", false)
  | 9 => ("SpoonPassage$Passage", "falls", "I", false)
  | 10 => ("SpoonPassage$Passage", "night", "I", false)
  | _ => ("SpoonPassage$Passage", "z", "I", false)
def tyX2 : Nat → FieldType := fun k => match k with
  | 0 => .array (.object "SpoonPassage$Branch")
  | 1 => .array (.object "SpoonPassage$Digger")
  | 2 => .array .int
  | 3 => .object "SpoonPassage$Texts"
  | 4 => .int
  | 5 => .int
  | 6 => .int
  | 7 => .int
  | 8 => .int
  | 9 => .int
  | 10 => .int
  | _ => .int
abbrev wsX20 : List Cond := u_ws RX2 TX2 12
theorem nmX2 : ∀ a, a < 12 → ∀ b, b < 12 → a ≠ b → (TX2 a).2.1 ≠ (TX2 b).2.1 := by decide +kernel
theorem tyX2_ok : ∀ k, k < 12 → parseFieldDescriptor (TX2 k).2.2.1 = some (tyX2 k) := by decide +kernel
abbrev cX2_init : ByteArray := prog_4_method_1_code
def yX2_init : MethodName := ⟨RX2, "<init>", "(LSpoonPassage$Texts;)V"⟩
abbrev cX2_becomeAs : ByteArray := prog_4_method_2_code
def yX2_becomeAs : MethodName := ⟨RX2, "becomeAs", "(LSpoonPassage$Passage;)V"⟩
abbrev cX2_add : ByteArray := prog_4_method_3_code
def yX2_add : MethodName := ⟨RX2, "add", "(IIII)I"⟩
abbrev cX2_addDrawn : ByteArray := prog_4_method_4_code
def yX2_addDrawn : MethodName := ⟨RX2, "addDrawn", "()V"⟩
abbrev cX2_draw : ByteArray := prog_4_method_5_code
def yX2_draw : MethodName := ⟨RX2, "draw", "()I"⟩
abbrev cX2_addText : ByteArray := prog_4_method_6_code
def yX2_addText : MethodName := ⟨RX2, "addText", "(LSpoonPassage$Reader;)I"⟩
abbrev cX2_pass : ByteArray := prog_4_method_7_code
def yX2_pass : MethodName := ⟨RX2, "pass", "(I)V"⟩
abbrev cX2_digAll : ByteArray := prog_4_method_8_code
def yX2_digAll : MethodName := ⟨RX2, "digAll", "()V"⟩
abbrev cX2_follow : ByteArray := prog_4_method_9_code
def yX2_follow : MethodName := ⟨RX2, "follow", "(I)V"⟩
abbrev cX2_flee : ByteArray := prog_4_method_10_code
def yX2_flee : MethodName := ⟨RX2, "flee", "(I)V"⟩
abbrev cX2_letRockFall : ByteArray := prog_4_method_11_code
def yX2_letRockFall : MethodName := ⟨RX2, "letRockFall", "()V"⟩
abbrev cX2_digs : ByteArray := prog_4_method_12_code
def yX2_digs : MethodName := ⟨RX2, "digs", "(I)I"⟩
abbrev cX2_burns : ByteArray := prog_4_method_13_code
def yX2_burns : MethodName := ⟨RX2, "burns", "(I)I"⟩
abbrev cX2_isFar : ByteArray := prog_4_method_14_code
def yX2_isFar : MethodName := ⟨RX2, "isFar", "(LSpoonPassage$Digger;)Z"⟩
abbrev cX2_plain : ByteArray := prog_4_method_15_code
def yX2_plain : MethodName := ⟨RX2, "plain", "(LSpoonPassage$Digger;)I"⟩
abbrev cX2_feeGives : ByteArray := prog_4_method_16_code
def yX2_feeGives : MethodName := ⟨RX2, "feeGives", "()I"⟩
abbrev cX2_fineGives : ByteArray := prog_4_method_17_code
def yX2_fineGives : MethodName := ⟨RX2, "fineGives", "(LSpoonPassage$Digger;)I"⟩
abbrev cX2_matesOf : ByteArray := prog_4_method_18_code
def yX2_matesOf : MethodName := ⟨RX2, "matesOf", "(I)I"⟩
abbrev cX2_litIn : ByteArray := prog_4_method_19_code
def yX2_litIn : MethodName := ⟨RX2, "litIn", "(I)I"⟩
abbrev cX2_diggersIn : ByteArray := prog_4_method_20_code
def yX2_diggersIn : MethodName := ⟨RX2, "diggersIn", "(I)I"⟩
abbrev cX2_digIn : ByteArray := prog_4_method_21_code
def yX2_digIn : MethodName := ⟨RX2, "digIn", "(I)I"⟩
abbrev cX2_lit : ByteArray := prog_4_method_22_code
def yX2_lit : MethodName := ⟨RX2, "lit", "()I"⟩
abbrev cX2_putOutAllBut : ByteArray := prog_4_method_23_code
def yX2_putOutAllBut : MethodName := ⟨RX2, "putOutAllBut", "(I)V"⟩
abbrev cX2_hill : ByteArray := prog_4_method_24_code
def yX2_hill : MethodName := ⟨RX2, "hill", "()I"⟩
abbrev cX2_candlesOfAll : ByteArray := prog_4_method_25_code
def yX2_candlesOfAll : MethodName := ⟨RX2, "candlesOfAll", "()I"⟩
abbrev cX2_branchesInUse : ByteArray := prog_4_method_26_code
def yX2_branchesInUse : MethodName := ⟨RX2, "branchesInUse", "()I"⟩
abbrev cX2_dugOfAll : ByteArray := prog_4_method_27_code
def yX2_dugOfAll : MethodName := ⟨RX2, "dugOfAll", "()I"⟩
abbrev cX2_room : ByteArray := prog_4_method_28_code
def yX2_room : MethodName := ⟨RX2, "room", "()I"⟩
abbrev cX2_front : ByteArray := prog_4_method_29_code
def yX2_front : MethodName := ⟨RX2, "front", "()I"⟩
def RX3 : String := "SpoonPassage$Reader"
def TX3 : u_T := fun k => match k with
  | 0 => ("SpoonPassage$Reader", "tape", "[I", true)
  | 1 => ("SpoonPassage$Reader", "size", "I", false)
  | 2 => ("SpoonPassage$Reader", "sort", "I", false)
  | 3 => ("SpoonPassage$Reader", "start", "I", false)
  | 4 => ("SpoonPassage$Reader", "end", "I", false)
  | 5 => ("SpoonPassage$Reader", "tight", "Z", false)
  | 6 => ("SpoonPassage$Reader", "open", "I", false)
  | 7 => ("SpoonPassage$Reader", "nots", "I", false)
  | 8 => ("SpoonPassage$Reader", "key", "I", false)
  | 9 => ("SpoonPassage$Reader", "leafCount", "I", false)
  | 10 => ("SpoonPassage$Reader", "code", "[I", true)
  | _ => ("SpoonPassage$Reader", "length", "I", false)
def tyX3 : Nat → FieldType := fun k => match k with
  | 0 => .array .int
  | 1 => .int
  | 2 => .int
  | 3 => .int
  | 4 => .int
  | 5 => .boolean
  | 6 => .int
  | 7 => .int
  | 8 => .int
  | 9 => .int
  | 10 => .array .int
  | _ => .int
abbrev wsX30 : List Cond := u_ws RX3 TX3 12
theorem nmX3 : ∀ a, a < 12 → ∀ b, b < 12 → a ≠ b → (TX3 a).2.1 ≠ (TX3 b).2.1 := by decide +kernel
theorem tyX3_ok : ∀ k, k < 12 → parseFieldDescriptor (TX3 k).2.2.1 = some (tyX3 k) := by decide +kernel
abbrev cX3_init : ByteArray := prog_5_method_1_code
def yX3_init : MethodName := ⟨RX3, "<init>", "()V"⟩
abbrev cX3_addBytes : ByteArray := prog_5_method_2_code
def yX3_addBytes : MethodName := ⟨RX3, "addBytes", "(I)V"⟩
abbrev cX3_fault : ByteArray := prog_5_method_3_code
def yX3_fault : MethodName := ⟨RX3, "fault", "()I"⟩
abbrev cX3_begin : ByteArray := prog_5_method_4_code
def yX3_begin : MethodName := ⟨RX3, "begin", "()V"⟩
abbrev cX3_next : ByteArray := prog_5_method_5_code
def yX3_next : MethodName := ⟨RX3, "next", "()V"⟩
abbrev cX3_isWord : ByteArray := prog_5_method_6_code
def yX3_isWord : MethodName := ⟨RX3, "isWord", "(I)Z"⟩
abbrev cX3_sortAt : ByteArray := prog_5_method_7_code
def yX3_sortAt : MethodName := ⟨RX3, "sortAt", "(I)I"⟩
abbrev cX3_byteAt : ByteArray := prog_5_method_8_code
def yX3_byteAt : MethodName := ⟨RX3, "byteAt", "(I)I"⟩
abbrev cX3_keyHere : ByteArray := prog_5_method_9_code
def yX3_keyHere : MethodName := ⟨RX3, "keyHere", "()I"⟩
abbrev cX3_isHere : ByteArray := prog_5_method_10_code
def yX3_isHere : MethodName := ⟨RX3, "isHere", "(Ljava/lang/String;)Z"⟩
abbrev cX3_part : ByteArray := prog_5_method_11_code
def yX3_part : MethodName := ⟨RX3, "part", "(I)Z"⟩
abbrev cX3_piece : ByteArray := prog_5_method_12_code
def yX3_piece : MethodName := ⟨RX3, "piece", "()Z"⟩
abbrev cX3_not : ByteArray := prog_5_method_13_code
def yX3_not : MethodName := ⟨RX3, "not", "()Z"⟩
abbrev cX3_bracket : ByteArray := prog_5_method_14_code
def yX3_bracket : MethodName := ⟨RX3, "bracket", "()Z"⟩
abbrev cX3_isSignOf : ByteArray := prog_5_method_15_code
def yX3_isSignOf : MethodName := ⟨RX3, "isSignOf", "(I)Z"⟩
abbrev cX3_signsOf : ByteArray := prog_5_method_16_code
def yX3_signsOf : MethodName := ⟨RX3, "signsOf", "(I)Ljava/lang/String;"⟩
abbrev cX3_leaf : ByteArray := prog_5_method_17_code
def yX3_leaf : MethodName := ⟨RX3, "leaf", "()Z"⟩
abbrev cX3_number : ByteArray := prog_5_method_18_code
def yX3_number : MethodName := ⟨RX3, "number", "()I"⟩
abbrev cX3_name : ByteArray := prog_5_method_19_code
def yX3_name : MethodName := ⟨RX3, "name", "()I"⟩
abbrev cX3_namesOf : ByteArray := prog_5_method_20_code
def yX3_namesOf : MethodName := ⟨RX3, "namesOf", "(I)Ljava/lang/String;"⟩
abbrev cX3_put : ByteArray := prog_5_method_21_code
def yX3_put : MethodName := ⟨RX3, "put", "(I)V"⟩
def RX4 : String := "SpoonPassage$Sheet"
def TX4 : u_T := fun k => match k with
  | 0 => ("SpoonPassage$Sheet", "places", "[I", true)
  | 1 => ("SpoonPassage$Sheet", "sort", "I", false)
  | _ => ("SpoonPassage$Sheet", "size", "I", false)
def tyX4 : Nat → FieldType := fun k => match k with
  | 0 => .array .int
  | 1 => .int
  | _ => .int
abbrev wsX40 : List Cond := u_ws RX4 TX4 3
theorem nmX4 : ∀ a, a < 3 → ∀ b, b < 3 → a ≠ b → (TX4 a).2.1 ≠ (TX4 b).2.1 := by decide +kernel
theorem tyX4_ok : ∀ k, k < 3 → parseFieldDescriptor (TX4 k).2.2.1 = some (tyX4 k) := by decide +kernel
abbrev cX4_init : ByteArray := prog_6_method_1_code
def yX4_init : MethodName := ⟨RX4, "<init>", "()V"⟩
abbrev cX4_become : ByteArray := prog_6_method_2_code
def yX4_become : MethodName := ⟨RX4, "become", "(II)V"⟩
abbrev cX4_becomeAs : ByteArray := prog_6_method_3_code
def yX4_becomeAs : MethodName := ⟨RX4, "becomeAs", "(LSpoonPassage$Sheet;)V"⟩
abbrev cX4_isMissing : ByteArray := prog_6_method_4_code
def yX4_isMissing : MethodName := ⟨RX4, "isMissing", "()Z"⟩
abbrev cX4_hasPlace : ByteArray := prog_6_method_5_code
def yX4_hasPlace : MethodName := ⟨RX4, "hasPlace", "(I)Z"⟩
abbrev cX4_hasPlaces : ByteArray := prog_6_method_6_code
def yX4_hasPlaces : MethodName := ⟨RX4, "hasPlaces", "(II)Z"⟩
abbrev cX4_isNumber : ByteArray := prog_6_method_7_code
def yX4_isNumber : MethodName := ⟨RX4, "isNumber", "(I)Z"⟩
def RX5 : String := "SpoonPassage$Slot"
def TX5 : u_T := fun k => match k with
  | 0 => ("SpoonPassage$Slot", "thing", "I", false)
  | 1 => ("SpoonPassage$Slot", "number", "I", false)
  | 2 => ("SpoonPassage$Slot", "digger", "LSpoonPassage$Digger;", true)
  | _ => ("SpoonPassage$Slot", "row", "LSpoonPassage$Sheet;", true)
def tyX5 : Nat → FieldType := fun k => match k with
  | 0 => .int
  | 1 => .int
  | 2 => .object "SpoonPassage$Digger"
  | _ => .object "SpoonPassage$Sheet"
abbrev wsX50 : List Cond := u_ws RX5 TX5 4
theorem nmX5 : ∀ a, a < 4 → ∀ b, b < 4 → a ≠ b → (TX5 a).2.1 ≠ (TX5 b).2.1 := by decide +kernel
theorem tyX5_ok : ∀ k, k < 4 → parseFieldDescriptor (TX5 k).2.2.1 = some (tyX5 k) := by decide +kernel
abbrev cX5_init : ByteArray := prog_7_method_1_code
def yX5_init : MethodName := ⟨RX5, "<init>", "()V"⟩
def RX6 : String := "SpoonPassage$Texts"
def TX6 : u_T := fun k => match k with
  | 0 => ("SpoonPassage$Texts", "keys", "[I", true)
  | 1 => ("SpoonPassage$Texts", "leafCounts", "[I", true)
  | 2 => ("SpoonPassage$Texts", "lengths", "[I", true)
  | 3 => ("SpoonPassage$Texts", "code", "[I", true)
  | 4 => ("SpoonPassage$Texts", "named", "[I", true)
  | _ => ("SpoonPassage$Texts", "stack", "[I", true)
def tyX6 : Nat → FieldType := fun k => match k with
  | 0 => .array .int
  | 1 => .array .int
  | 2 => .array .int
  | 3 => .array .int
  | 4 => .array .int
  | _ => .array .int
abbrev wsX60 : List Cond := u_ws RX6 TX6 6
theorem nmX6 : ∀ a, a < 6 → ∀ b, b < 6 → a ≠ b → (TX6 a).2.1 ≠ (TX6 b).2.1 := by decide +kernel
theorem tyX6_ok : ∀ k, k < 6 → parseFieldDescriptor (TX6 k).2.2.1 = some (tyX6 k) := by decide +kernel
abbrev cX6_init : ByteArray := prog_8_method_1_code
def yX6_init : MethodName := ⟨RX6, "<init>", "()V"⟩
abbrev cX6_write : ByteArray := prog_8_method_2_code
def yX6_write : MethodName := ⟨RX6, "write", "(ILSpoonPassage$Reader;)V"⟩
abbrev cX6_put : ByteArray := prog_8_method_3_code
def yX6_put : MethodName := ⟨RX6, "put", "(II)V"⟩
abbrev cX6_gives : ByteArray := prog_8_method_4_code
def yX6_gives : MethodName := ⟨RX6, "gives", "(I)I"⟩
abbrev cX6_joined : ByteArray := prog_8_method_5_code
def yX6_joined : MethodName := ⟨RX6, "joined", "(III)I"⟩
def RX7 : String := "SpoonPassage"
def TX7 : u_T := fun k => match k with
  | 0 => ("SpoonPassage", "texts", "LSpoonPassage$Texts;", true)
  | 1 => ("SpoonPassage", "reader", "LSpoonPassage$Reader;", true)
  | 2 => ("SpoonPassage", "now", "LSpoonPassage$Passage;", true)
  | 3 => ("SpoonPassage", "image", "LSpoonPassage$Passage;", true)
  | 4 => ("SpoonPassage", "thought", "LSpoonPassage$Passage;", true)
  | 5 => ("SpoonPassage", "sheets", "[LSpoonPassage$Sheet;", true)
  | 6 => ("SpoonPassage", "slots", "[LSpoonPassage$Slot;", true)
  | 7 => ("SpoonPassage", "waiting", "[I", true)
  | 8 => ("SpoonPassage", "waits", "I", false)
  | _ => ("SpoonPassage", "kept", "Z", false)
def tyX7 : Nat → FieldType := fun k => match k with
  | 0 => .object "SpoonPassage$Texts"
  | 1 => .object "SpoonPassage$Reader"
  | 2 => .object "SpoonPassage$Passage"
  | 3 => .object "SpoonPassage$Passage"
  | 4 => .object "SpoonPassage$Passage"
  | 5 => .array (.object "SpoonPassage$Sheet")
  | 6 => .array (.object "SpoonPassage$Slot")
  | 7 => .array .int
  | 8 => .int
  | _ => .boolean
abbrev wsX70 : List Cond := u_ws RX7 TX7 10
theorem nmX7 : ∀ a, a < 10 → ∀ b, b < 10 → a ≠ b → (TX7 a).2.1 ≠ (TX7 b).2.1 := by decide +kernel
theorem tyX7_ok : ∀ k, k < 10 → parseFieldDescriptor (TX7 k).2.2.1 = some (tyX7 k) := by decide +kernel
abbrev cX7_init : ByteArray := prog_1_method_1_code
def yX7_init : MethodName := ⟨RX7, "<init>", "()V"⟩
abbrev cX7_digger : ByteArray := prog_1_method_2_code
def yX7_digger : MethodName := ⟨RX7, "digger", "(IIII)I"⟩
abbrev cX7_told : ByteArray := prog_1_method_3_code
def yX7_told : MethodName := ⟨RX7, "told", "(II)I"⟩
abbrev cX7_as : ByteArray := prog_1_method_4_code
def yX7_as : MethodName := ⟨RX7, "as", "(II)I"⟩
abbrev cX7_turns : ByteArray := prog_1_method_5_code
def yX7_turns : MethodName := ⟨RX7, "turns", "(II)I"⟩
abbrev cX7_set : ByteArray := prog_1_method_6_code
def yX7_set : MethodName := ⟨RX7, "set", "(III)I"⟩
abbrev cX7_sends : ByteArray := prog_1_method_7_code
def yX7_sends : MethodName := ⟨RX7, "sends", "(II)I"⟩
abbrev cX7_branch : ByteArray := prog_1_method_8_code
def yX7_branch : MethodName := ⟨RX7, "branch", "(III)I"⟩
abbrev cX7_branchOf : ByteArray := prog_1_method_9_code
def yX7_branchOf : MethodName := ⟨RX7, "branchOf", "(II)I"⟩
abbrev cX7_rule : ByteArray := prog_1_method_10_code
def yX7_rule : MethodName := ⟨RX7, "rule", "(II)I"⟩
abbrev cX7_deal : ByteArray := prog_1_method_11_code
def yX7_deal : MethodName := ⟨RX7, "deal", "(I)I"⟩
abbrev cX7_seed : ByteArray := prog_1_method_12_code
def yX7_seed : MethodName := ⟨RX7, "seed", "(I)I"⟩
abbrev cX7_nights : ByteArray := prog_1_method_13_code
def yX7_nights : MethodName := ⟨RX7, "nights", "(I)I"⟩
abbrev cX7_below : ByteArray := prog_1_method_14_code
def yX7_below : MethodName := ⟨RX7, "below", "(I)I"⟩
abbrev cX7_behind : ByteArray := prog_1_method_15_code
def yX7_behind : MethodName := ⟨RX7, "behind", "(II)I"⟩
abbrev cX7_reaches : ByteArray := prog_1_method_16_code
def yX7_reaches : MethodName := ⟨RX7, "reaches", "(II)I"⟩
abbrev cX7_leaves : ByteArray := prog_1_method_17_code
def yX7_leaves : MethodName := ⟨RX7, "leaves", "(I)I"⟩
abbrev cX7_light : ByteArray := prog_1_method_18_code
def yX7_light : MethodName := ⟨RX7, "light", "(II)I"⟩
abbrev cX7_wax : ByteArray := prog_1_method_19_code
def yX7_wax : MethodName := ⟨RX7, "wax", "(III)I"⟩
abbrev cX7_sent : ByteArray := prog_1_method_20_code
def yX7_sent : MethodName := ⟨RX7, "sent", "(III)I"⟩
abbrev cX7_becomes : ByteArray := prog_1_method_21_code
def yX7_becomes : MethodName := ⟨RX7, "becomes", "(III)I"⟩
abbrev cX7_like : ByteArray := prog_1_method_22_code
def yX7_like : MethodName := ⟨RX7, "like", "(II)I"⟩
abbrev cX7_fee : ByteArray := prog_1_method_23_code
def yX7_fee : MethodName := ⟨RX7, "fee", "()I"⟩
abbrev cX7_fine : ByteArray := prog_1_method_24_code
def yX7_fine : MethodName := ⟨RX7, "fine", "(I)I"⟩
abbrev cX7_feed : ByteArray := prog_1_method_25_code
def yX7_feed : MethodName := ⟨RX7, "feed", "(III)I"⟩
abbrev cX7_trim : ByteArray := prog_1_method_26_code
def yX7_trim : MethodName := ⟨RX7, "trim", "(I)I"⟩
abbrev cX7_text : ByteArray := prog_1_method_27_code
def yX7_text : MethodName := ⟨RX7, "text", "()I"⟩
abbrev cX7_textTold : ByteArray := prog_1_method_28_code
def yX7_textTold : MethodName := ⟨RX7, "textTold", "(II)I"⟩
abbrev cX7_why : ByteArray := prog_1_method_29_code
def yX7_why : MethodName := ⟨RX7, "why", "(I)I"⟩
abbrev cX7_sheet : ByteArray := prog_1_method_30_code
def yX7_sheet : MethodName := ⟨RX7, "sheet", "(III)I"⟩
abbrev cX7_mark : ByteArray := prog_1_method_31_code
def yX7_mark : MethodName := ⟨RX7, "mark", "(III)I"⟩
abbrev cX7_pour : ByteArray := prog_1_method_32_code
def yX7_pour : MethodName := ⟨RX7, "pour", "(I)I"⟩
abbrev cX7_reads : ByteArray := prog_1_method_33_code
def yX7_reads : MethodName := ⟨RX7, "reads", "(I)I"⟩
abbrev cX7_copy : ByteArray := prog_1_method_34_code
def yX7_copy : MethodName := ⟨RX7, "copy", "(IIIII)I"⟩
abbrev cX7_lay : ByteArray := prog_1_method_35_code
def yX7_lay : MethodName := ⟨RX7, "lay", "(III)I"⟩
abbrev cX7_ask : ByteArray := prog_1_method_36_code
def yX7_ask : MethodName := ⟨RX7, "ask", "(II)I"⟩
abbrev cX7_item : ByteArray := prog_1_method_37_code
def yX7_item : MethodName := ⟨RX7, "item", "(II)I"⟩
abbrev cX7_rest : ByteArray := prog_1_method_38_code
def yX7_rest : MethodName := ⟨RX7, "rest", "(II)I"⟩
abbrev cX7_tell : ByteArray := prog_1_method_39_code
def yX7_tell : MethodName := ⟨RX7, "tell", "(I)I"⟩
abbrev cX7_check : ByteArray := prog_1_method_40_code
def yX7_check : MethodName := ⟨RX7, "check", "(I)I"⟩
abbrev cX7_keep : ByteArray := prog_1_method_41_code
def yX7_keep : MethodName := ⟨RX7, "keep", "()I"⟩
abbrev cX7_back : ByteArray := prog_1_method_42_code
def yX7_back : MethodName := ⟨RX7, "back", "()I"⟩
abbrev cX7_count : ByteArray := prog_1_method_43_code
def yX7_count : MethodName := ⟨RX7, "count", "(I)I"⟩
abbrev cX7_within : ByteArray := prog_1_method_44_code
def yX7_within : MethodName := ⟨RX7, "within", "(III)Z"⟩
abbrev cX7_held : ByteArray := prog_1_method_45_code
def yX7_held : MethodName := ⟨RX7, "held", "(I)I"⟩
abbrev cX7_isKind : ByteArray := prog_1_method_46_code
def yX7_isKind : MethodName := ⟨RX7, "isKind", "(I)Z"⟩
abbrev cX7_isBranch : ByteArray := prog_1_method_47_code
def yX7_isBranch : MethodName := ⟨RX7, "isBranch", "(I)Z"⟩
abbrev cX7_isSheet : ByteArray := prog_1_method_48_code
def yX7_isSheet : MethodName := ⟨RX7, "isSheet", "(I)Z"⟩
abbrev cX7_isSlot : ByteArray := prog_1_method_49_code
def yX7_isSlot : MethodName := ⟨RX7, "isSlot", "(I)Z"⟩
abbrev cX7_isDigger : ByteArray := prog_1_method_50_code
def yX7_isDigger : MethodName := ⟨RX7, "isDigger", "(I)Z"⟩
abbrev cX7_differences : ByteArray := prog_1_method_51_code
def yX7_differences : MethodName := ⟨RX7, "differences", "(LSpoonPassage$Sheet;I)I"⟩
abbrev cX7_isTold : ByteArray := prog_1_method_52_code
def yX7_isTold : MethodName := ⟨RX7, "isTold", "(III)Z"⟩
def RX8 : String := "SpoonPassageModel"
def TX8 : u_T := fun k => match k with
  | 0 => ("SpoonPassageModel", "now", "[I", true)
  | 1 => ("SpoonPassageModel", "image", "[I", true)
  | 2 => ("SpoonPassageModel", "aside", "[I", true)
  | 3 => ("SpoonPassageModel", "hasImage", "Z", false)
  | 4 => ("SpoonPassageModel", "unlike", "[I", true)
  | 5 => ("SpoonPassageModel", "tape", "[I", true)
  | 6 => ("SpoonPassageModel", "taped", "I", false)
  | 7 => ("SpoonPassageModel", "next", "I", false)
  | 8 => ("SpoonPassageModel", "from", "I", false)
  | 9 => ("SpoonPassageModel", "token", "I", false)
  | 10 => ("SpoonPassageModel", "value", "I", false)
  | 11 => ("SpoonPassageModel", "ended", "I", false)
  | 12 => ("SpoonPassageModel", "key", "I", false)
  | 13 => ("SpoonPassageModel", "keys", "[C", true)
  | 14 => ("SpoonPassageModel", "keyAt", "[I", true)
  | 15 => ("SpoonPassageModel", "code", "[I", true)
  | 16 => ("SpoonPassageModel", "codes", "I", false)
  | 17 => ("SpoonPassageModel", "atoms", "I", false)
  | 18 => ("SpoonPassageModel", "waits", "[I", true)
  | 19 => ("SpoonPassageModel", "held", "I", false)
  | 20 => ("SpoonPassageModel", "tested", "[Z", true)
  | 21 => ("SpoonPassageModel", "stack", "[I", true)
  | 22 => ("SpoonPassageModel", "facts", "[I", true)
  | 23 => ("SpoonPassageModel", "sorts", "[I", true)
  | 24 => ("SpoonPassageModel", "sizes", "[I", true)
  | 25 => ("SpoonPassageModel", "cells", "[I", true)
  | 26 => ("SpoonPassageModel", "holds", "[I", true)
  | 27 => ("SpoonPassageModel", "holdsA", "[I", true)
  | 28 => ("SpoonPassageModel", "holdsB", "[I", true)
  | 29 => ("SpoonPassageModel", "heldCells", "[I", true)
  | 30 => ("SpoonPassageModel", "moved", "[I", true)
  | 31 => ("SpoonPassageModel", "tells", "[I", true)
  | _ => ("SpoonPassageModel", "waiting", "I", false)
def tyX8 : Nat → FieldType := fun k => match k with
  | 0 => .array .int
  | 1 => .array .int
  | 2 => .array .int
  | 3 => .boolean
  | 4 => .array .int
  | 5 => .array .int
  | 6 => .int
  | 7 => .int
  | 8 => .int
  | 9 => .int
  | 10 => .int
  | 11 => .int
  | 12 => .int
  | 13 => .array .char
  | 14 => .array .int
  | 15 => .array .int
  | 16 => .int
  | 17 => .int
  | 18 => .array .int
  | 19 => .int
  | 20 => .array .boolean
  | 21 => .array .int
  | 22 => .array .int
  | 23 => .array .int
  | 24 => .array .int
  | 25 => .array .int
  | 26 => .array .int
  | 27 => .array .int
  | 28 => .array .int
  | 29 => .array .int
  | 30 => .array .int
  | 31 => .array .int
  | _ => .int
abbrev wsX80 : List Cond := u_ws RX8 TX8 33
theorem nmX8 : ∀ a, a < 33 → ∀ b, b < 33 → a ≠ b → (TX8 a).2.1 ≠ (TX8 b).2.1 := by decide +kernel
theorem tyX8_ok : ∀ k, k < 33 → parseFieldDescriptor (TX8 k).2.2.1 = some (tyX8 k) := by decide +kernel
abbrev cX8_init : ByteArray := prog_10_method_1_code
def yX8_init : MethodName := ⟨RX8, "<init>", "()V"⟩
abbrev cX8_in : ByteArray := prog_10_method_2_code
def yX8_in : MethodName := ⟨RX8, "in", "(III)Z"⟩
abbrev cX8_within : ByteArray := prog_10_method_3_code
def yX8_within : MethodName := ⟨RX8, "within", "(III)I"⟩
abbrev cX8_copyAll : ByteArray := prog_10_method_4_code
def yX8_copyAll : MethodName := ⟨RX8, "copyAll", "([I[I)V"⟩
abbrev cX8_bits : ByteArray := prog_10_method_5_code
def yX8_bits : MethodName := ⟨RX8, "bits", "(I)I"⟩
abbrev cX8_isDigger : ByteArray := prog_10_method_6_code
def yX8_isDigger : MethodName := ⟨RX8, "isDigger", "(I)Z"⟩
abbrev cX8_isBranch : ByteArray := prog_10_method_7_code
def yX8_isBranch : MethodName := ⟨RX8, "isBranch", "(I)Z"⟩
abbrev cX8_of : ByteArray := prog_10_method_8_code
def yX8_of : MethodName := ⟨RX8, "of", "(II)I"⟩
abbrev cX8_put : ByteArray := prog_10_method_9_code
def yX8_put : MethodName := ⟨RX8, "put", "(III)V"⟩
abbrev cX8_at : ByteArray := prog_10_method_10_code
def yX8_at : MethodName := ⟨RX8, "at", "(II)I"⟩
abbrev cX8_swaps : ByteArray := prog_10_method_11_code
def yX8_swaps : MethodName := ⟨RX8, "swaps", "(II)I"⟩
abbrev cX8_off : ByteArray := prog_10_method_12_code
def yX8_off : MethodName := ⟨RX8, "off", "(I)I"⟩
abbrev cX8_ahead : ByteArray := prog_10_method_13_code
def yX8_ahead : MethodName := ⟨RX8, "ahead", "(I)I"⟩
abbrev cX8_diggersIn : ByteArray := prog_10_method_14_code
def yX8_diggersIn : MethodName := ⟨RX8, "diggersIn", "(I)I"⟩
abbrev cX8_litIn : ByteArray := prog_10_method_15_code
def yX8_litIn : MethodName := ⟨RX8, "litIn", "(I)I"⟩
abbrev cX8_plainDig : ByteArray := prog_10_method_16_code
def yX8_plainDig : MethodName := ⟨RX8, "plainDig", "(I)I"⟩
abbrev cX8_fellows : ByteArray := prog_10_method_17_code
def yX8_fellows : MethodName := ⟨RX8, "fellows", "(I)I"⟩
abbrev cX8_isFarOff : ByteArray := prog_10_method_18_code
def yX8_isFarOff : MethodName := ⟨RX8, "isFarOff", "(I)Z"⟩
abbrev cX8_digsOf : ByteArray := prog_10_method_19_code
def yX8_digsOf : MethodName := ⟨RX8, "digsOf", "(I)I"⟩
abbrev cX8_burnsOf : ByteArray := prog_10_method_20_code
def yX8_burnsOf : MethodName := ⟨RX8, "burnsOf", "(I)I"⟩
abbrev cX8_worthOf : ByteArray := prog_10_method_21_code
def yX8_worthOf : MethodName := ⟨RX8, "worthOf", "(I)I"⟩
abbrev cX8_comes : ByteArray := prog_10_method_22_code
def yX8_comes : MethodName := ⟨RX8, "comes", "(IIII)I"⟩
abbrev cX8_digger : ByteArray := prog_10_method_23_code
def yX8_digger : MethodName := ⟨RX8, "digger", "(IIII)I"⟩
abbrev cX8_told : ByteArray := prog_10_method_24_code
def yX8_told : MethodName := ⟨RX8, "told", "(II)I"⟩
abbrev cX8_isUnder : ByteArray := prog_10_method_25_code
def yX8_isUnder : MethodName := ⟨RX8, "isUnder", "(II)Z"⟩
abbrev cX8_as : ByteArray := prog_10_method_26_code
def yX8_as : MethodName := ⟨RX8, "as", "(II)I"⟩
abbrev cX8_turns : ByteArray := prog_10_method_27_code
def yX8_turns : MethodName := ⟨RX8, "turns", "(II)I"⟩
abbrev cX8_set : ByteArray := prog_10_method_28_code
def yX8_set : MethodName := ⟨RX8, "set", "(III)I"⟩
abbrev cX8_sends : ByteArray := prog_10_method_29_code
def yX8_sends : MethodName := ⟨RX8, "sends", "(II)I"⟩
abbrev cX8_mayBe : ByteArray := prog_10_method_30_code
def yX8_mayBe : MethodName := ⟨RX8, "mayBe", "(III)Z"⟩
abbrev cX8_branch : ByteArray := prog_10_method_31_code
def yX8_branch : MethodName := ⟨RX8, "branch", "(III)I"⟩
abbrev cX8_allDigs : ByteArray := prog_10_method_32_code
def yX8_allDigs : MethodName := ⟨RX8, "allDigs", "(I)I"⟩
abbrev cX8_branchOf : ByteArray := prog_10_method_33_code
def yX8_branchOf : MethodName := ⟨RX8, "branchOf", "(II)I"⟩
abbrev cX8_rule : ByteArray := prog_10_method_34_code
def yX8_rule : MethodName := ⟨RX8, "rule", "(II)I"⟩
abbrev cX8_draw : ByteArray := prog_10_method_35_code
def yX8_draw : MethodName := ⟨RX8, "draw", "()I"⟩
abbrev cX8_deal : ByteArray := prog_10_method_36_code
def yX8_deal : MethodName := ⟨RX8, "deal", "(I)I"⟩
abbrev cX8_seed : ByteArray := prog_10_method_37_code
def yX8_seed : MethodName := ⟨RX8, "seed", "(I)I"⟩
abbrev cX8_digs : ByteArray := prog_10_method_38_code
def yX8_digs : MethodName := ⟨RX8, "digs", "(I)V"⟩
abbrev cX8_warder : ByteArray := prog_10_method_39_code
def yX8_warder : MethodName := ⟨RX8, "warder", "(I)V"⟩
abbrev cX8_night : ByteArray := prog_10_method_40_code
def yX8_night : MethodName := ⟨RX8, "night", "()V"⟩
abbrev cX8_goesOn : ByteArray := prog_10_method_41_code
def yX8_goesOn : MethodName := ⟨RX8, "goesOn", "(I)V"⟩
abbrev cX8_sums : ByteArray := prog_10_method_42_code
def yX8_sums : MethodName := ⟨RX8, "sums", "(I)I"⟩
abbrev cX8_nights : ByteArray := prog_10_method_43_code
def yX8_nights : MethodName := ⟨RX8, "nights", "(I)I"⟩
abbrev cX8_peopled : ByteArray := prog_10_method_44_code
def yX8_peopled : MethodName := ⟨RX8, "peopled", "()I"⟩
abbrev cX8_front : ByteArray := prog_10_method_45_code
def yX8_front : MethodName := ⟨RX8, "front", "()I"⟩
abbrev cX8_allDug : ByteArray := prog_10_method_46_code
def yX8_allDug : MethodName := ⟨RX8, "allDug", "()I"⟩
abbrev cX8_below : ByteArray := prog_10_method_47_code
def yX8_below : MethodName := ⟨RX8, "below", "(I)I"⟩
abbrev cX8_thinks : ByteArray := prog_10_method_48_code
def yX8_thinks : MethodName := ⟨RX8, "thinks", "()V"⟩
abbrev cX8_putsBack : ByteArray := prog_10_method_49_code
def yX8_putsBack : MethodName := ⟨RX8, "putsBack", "()V"⟩
abbrev cX8_behind : ByteArray := prog_10_method_50_code
def yX8_behind : MethodName := ⟨RX8, "behind", "(II)I"⟩
abbrev cX8_reaches : ByteArray := prog_10_method_51_code
def yX8_reaches : MethodName := ⟨RX8, "reaches", "(II)I"⟩
abbrev cX8_leaves : ByteArray := prog_10_method_52_code
def yX8_leaves : MethodName := ⟨RX8, "leaves", "(I)I"⟩
abbrev cX8_isHigh : ByteArray := prog_10_method_53_code
def yX8_isHigh : MethodName := ⟨RX8, "isHigh", "(III)Z"⟩
abbrev cX8_light : ByteArray := prog_10_method_54_code
def yX8_light : MethodName := ⟨RX8, "light", "(II)I"⟩
abbrev cX8_earthOn : ByteArray := prog_10_method_55_code
def yX8_earthOn : MethodName := ⟨RX8, "earthOn", "(II)I"⟩
abbrev cX8_wax : ByteArray := prog_10_method_56_code
def yX8_wax : MethodName := ⟨RX8, "wax", "(III)I"⟩
abbrev cX8_bestOf : ByteArray := prog_10_method_57_code
def yX8_bestOf : MethodName := ⟨RX8, "bestOf", "(IIIII)I"⟩
abbrev cX8_sent : ByteArray := prog_10_method_58_code
def yX8_sent : MethodName := ⟨RX8, "sent", "(III)I"⟩
abbrev cX8_becomes : ByteArray := prog_10_method_59_code
def yX8_becomes : MethodName := ⟨RX8, "becomes", "(III)I"⟩
abbrev cX8_like : ByteArray := prog_10_method_60_code
def yX8_like : MethodName := ⟨RX8, "like", "(II)I"⟩
abbrev cX8_fee : ByteArray := prog_10_method_61_code
def yX8_fee : MethodName := ⟨RX8, "fee", "()I"⟩
abbrev cX8_fine : ByteArray := prog_10_method_62_code
def yX8_fine : MethodName := ⟨RX8, "fine", "(I)I"⟩
abbrev cX8_feed : ByteArray := prog_10_method_63_code
def yX8_feed : MethodName := ⟨RX8, "feed", "(III)I"⟩
abbrev cX8_trim : ByteArray := prog_10_method_64_code
def yX8_trim : MethodName := ⟨RX8, "trim", "(I)I"⟩
abbrev cX8_isLetter : ByteArray := prog_10_method_65_code
def yX8_isLetter : MethodName := ⟨RX8, "isLetter", "(I)Z"⟩
abbrev cX8_isFigure : ByteArray := prog_10_method_66_code
def yX8_isFigure : MethodName := ⟨RX8, "isFigure", "(I)Z"⟩
abbrev cX8_go : ByteArray := prog_10_method_67_code
def yX8_go : MethodName := ⟨RX8, "go", "()V"⟩
abbrev cX8_takesKey : ByteArray := prog_10_method_68_code
def yX8_takesKey : MethodName := ⟨RX8, "takesKey", "()Z"⟩
abbrev cX8_nameOf : ByteArray := prog_10_method_69_code
def yX8_nameOf : MethodName := ⟨RX8, "nameOf", "(I)I"⟩
abbrev cX8_rank : ByteArray := prog_10_method_70_code
def yX8_rank : MethodName := ⟨RX8, "rank", "(I)I"⟩
abbrev cX8_settle : ByteArray := prog_10_method_71_code
def yX8_settle : MethodName := ⟨RX8, "settle", "(I)V"⟩
abbrev cX8_signHere : ByteArray := prog_10_method_72_code
def yX8_signHere : MethodName := ⟨RX8, "signHere", "()I"⟩
abbrev cX8_takesPart : ByteArray := prog_10_method_73_code
def yX8_takesPart : MethodName := ⟨RX8, "takesPart", "()Z"⟩
abbrev cX8_takesE : ByteArray := prog_10_method_74_code
def yX8_takesE : MethodName := ⟨RX8, "takesE", "()Z"⟩
abbrev cX8_notsOpen : ByteArray := prog_10_method_75_code
def yX8_notsOpen : MethodName := ⟨RX8, "notsOpen", "()I"⟩
abbrev cX8_text : ByteArray := prog_10_method_76_code
def yX8_text : MethodName := ⟨RX8, "text", "()I"⟩
abbrev cX8_textTold : ByteArray := prog_10_method_77_code
def yX8_textTold : MethodName := ⟨RX8, "textTold", "(II)I"⟩
abbrev cX8_counts : ByteArray := prog_10_method_78_code
def yX8_counts : MethodName := ⟨RX8, "counts", "(I)I"⟩
abbrev cX8_why : ByteArray := prog_10_method_79_code
def yX8_why : MethodName := ⟨RX8, "why", "(I)I"⟩
abbrev cX8_two : ByteArray := prog_10_method_80_code
def yX8_two : MethodName := ⟨RX8, "two", "(III)I"⟩
abbrev cX8_worksOut : ByteArray := prog_10_method_81_code
def yX8_worksOut : MethodName := ⟨RX8, "worksOut", "(I)I"⟩
abbrev cX8_isSheet : ByteArray := prog_10_method_82_code
def yX8_isSheet : MethodName := ⟨RX8, "isSheet", "(I)Z"⟩
abbrev cX8_isSlot : ByteArray := prog_10_method_83_code
def yX8_isSlot : MethodName := ⟨RX8, "isSlot", "(I)Z"⟩
abbrev cX8_sheet : ByteArray := prog_10_method_84_code
def yX8_sheet : MethodName := ⟨RX8, "sheet", "(III)I"⟩
abbrev cX8_mark : ByteArray := prog_10_method_85_code
def yX8_mark : MethodName := ⟨RX8, "mark", "(III)I"⟩
abbrev cX8_pour : ByteArray := prog_10_method_86_code
def yX8_pour : MethodName := ⟨RX8, "pour", "(I)I"⟩
abbrev cX8_reads : ByteArray := prog_10_method_87_code
def yX8_reads : MethodName := ⟨RX8, "reads", "(I)I"⟩
abbrev cX8_copy : ByteArray := prog_10_method_88_code
def yX8_copy : MethodName := ⟨RX8, "copy", "(IIIII)I"⟩
abbrev cX8_lay : ByteArray := prog_10_method_89_code
def yX8_lay : MethodName := ⟨RX8, "lay", "(III)I"⟩
abbrev cX8_ask : ByteArray := prog_10_method_90_code
def yX8_ask : MethodName := ⟨RX8, "ask", "(II)I"⟩
abbrev cX8_item : ByteArray := prog_10_method_91_code
def yX8_item : MethodName := ⟨RX8, "item", "(II)I"⟩
abbrev cX8_rest : ByteArray := prog_10_method_92_code
def yX8_rest : MethodName := ⟨RX8, "rest", "(II)I"⟩
abbrev cX8_tell : ByteArray := prog_10_method_93_code
def yX8_tell : MethodName := ⟨RX8, "tell", "(I)I"⟩
abbrev cX8_check : ByteArray := prog_10_method_94_code
def yX8_check : MethodName := ⟨RX8, "check", "(I)I"⟩
abbrev cX8_keep : ByteArray := prog_10_method_95_code
def yX8_keep : MethodName := ⟨RX8, "keep", "()I"⟩
abbrev cX8_back : ByteArray := prog_10_method_96_code
def yX8_back : MethodName := ⟨RX8, "back", "()I"⟩
abbrev cX8_count : ByteArray := prog_10_method_97_code
def yX8_count : MethodName := ⟨RX8, "count", "(I)I"⟩
def RJ11 : String := "java/lang/Character"
abbrev cJ11_isValidCodePoint_9a6ad : ByteArray := prog_11_method_11_code
def yJ11_isValidCodePoint_9a6ad : MethodName := ⟨RJ11, "isValidCodePoint", "(I)Z"⟩
abbrev cJ11_highSurrogate_5068e : ByteArray := prog_11_method_28_code
def yJ11_highSurrogate_5068e : MethodName := ⟨RJ11, "highSurrogate", "(I)C"⟩
abbrev cJ11_lowSurrogate_5068e : ByteArray := prog_11_method_29_code
def yJ11_lowSurrogate_5068e : MethodName := ⟨RJ11, "lowSurrogate", "(I)C"⟩
def RJ6 : String := "java/lang/Integer"
abbrev cJ6_bitCount_0f7a4 : ByteArray := prog_12_method_49_code
def yJ6_bitCount_0f7a4 : MethodName := ⟨RJ6, "bitCount", "(I)I"⟩
def RJ9 : String := "java/lang/Math"
abbrev cJ9_abs_0f7a4 : ByteArray := prog_13_method_59_code
def yJ9_abs_0f7a4 : MethodName := ⟨RJ9, "abs", "(I)I"⟩
abbrev cJ9_max_7cf53 : ByteArray := prog_13_method_65_code
def yJ9_max_7cf53 : MethodName := ⟨RJ9, "max", "(II)I"⟩
abbrev cJ9_min_7cf53 : ByteArray := prog_13_method_69_code
def yJ9_min_7cf53 : MethodName := ⟨RJ9, "min", "(II)I"⟩
def RJ0 : String := "java/lang/String"
abbrev cJ0_length_8abf5 : ByteArray := prog_14_method_54_code
def yJ0_length_8abf5 : MethodName := ⟨RJ0, "length", "()I"⟩
abbrev cJ0_charAt_5068e : ByteArray := prog_14_method_56_code
def yJ0_charAt_5068e : MethodName := ⟨RJ0, "charAt", "(I)C"⟩
abbrev cJ0_indexOf_0f7a4 : ByteArray := prog_14_method_79_code
def yJ0_indexOf_0f7a4 : MethodName := ⟨RJ0, "indexOf", "(I)I"⟩
abbrev cJ0_indexOf_7cf53 : ByteArray := prog_14_method_80_code
def yJ0_indexOf_7cf53 : MethodName := ⟨RJ0, "indexOf", "(II)I"⟩
abbrev cJ0_coder_7d493 : ByteArray := prog_14_method_152_code
def yJ0_coder_7d493 : MethodName := ⟨RJ0, "coder", "()B"⟩
abbrev cJ0_isLatin1_aae02 : ByteArray := prog_14_method_154_code
def yJ0_isLatin1_aae02 : MethodName := ⟨RJ0, "isLatin1", "()Z"⟩
abbrev cJ0_checkIndex_df160 : ByteArray := prog_14_method_155_code
def yJ0_checkIndex_df160 : MethodName := ⟨RJ0, "checkIndex", "(II)V"⟩
abbrev cJ0_checkBoundsBeginEnd_23922 : ByteArray := prog_14_method_158_code
def yJ0_checkBoundsBeginEnd_23922 : MethodName := ⟨RJ0, "checkBoundsBeginEnd", "(III)V"⟩
def RJ1 : String := "java/lang/StringLatin1"
abbrev cJ1_charAt_3b067 : ByteArray := prog_15_method_2_code
def yJ1_charAt_3b067 : MethodName := ⟨RJ1, "charAt", "([BI)C"⟩
abbrev cJ1_canEncode_9a6ad : ByteArray := prog_15_method_4_code
def yJ1_canEncode_9a6ad : MethodName := ⟨RJ1, "canEncode", "(I)Z"⟩
abbrev cJ1_indexOf_4cfef : ByteArray := prog_15_method_22_code
def yJ1_indexOf_4cfef : MethodName := ⟨RJ1, "indexOf", "([BIII)I"⟩
abbrev cJ1_indexOfChar_4cfef : ByteArray := prog_15_method_23_code
def yJ1_indexOfChar_4cfef : MethodName := ⟨RJ1, "indexOfChar", "([BIII)I"⟩
def RJ2 : String := "java/lang/StringUTF16"
abbrev cJ2_getChar_3b067 : ByteArray := prog_16_method_5_code
def yJ2_getChar_3b067 : MethodName := ⟨RJ2, "getChar", "([BI)C"⟩
abbrev cJ2_length_9d52b : ByteArray := prog_16_method_6_code
def yJ2_length_9d52b : MethodName := ⟨RJ2, "length", "([B)I"⟩
abbrev cJ2_indexOf_4cfef : ByteArray := prog_16_method_40_code
def yJ2_indexOf_4cfef : MethodName := ⟨RJ2, "indexOf", "([BIII)I"⟩
abbrev cJ2_indexOfChar_4cfef : ByteArray := prog_16_method_47_code
def yJ2_indexOfChar_4cfef : MethodName := ⟨RJ2, "indexOfChar", "([BIII)I"⟩
abbrev cJ2_indexOfCharUnsafe_4cfef : ByteArray := prog_16_method_48_code
def yJ2_indexOfCharUnsafe_4cfef : MethodName := ⟨RJ2, "indexOfCharUnsafe", "([BIII)I"⟩
abbrev cJ2_indexOfSupplementary_4cfef : ByteArray := prog_16_method_49_code
def yJ2_indexOfSupplementary_4cfef : MethodName := ⟨RJ2, "indexOfSupplementary", "([BIII)I"⟩
abbrev cJ2_charAt_3b067 : ByteArray := prog_16_method_83_code
def yJ2_charAt_3b067 : MethodName := ⟨RJ2, "charAt", "([BI)C"⟩
abbrev cJ2_checkIndex_2214a : ByteArray := prog_16_method_91_code
def yJ2_checkIndex_2214a : MethodName := ⟨RJ2, "checkIndex", "(I[B)V"⟩
abbrev cJ2_checkBoundsBeginEnd_d044e : ByteArray := prog_16_method_93_code
def yJ2_checkBoundsBeginEnd_d044e : MethodName := ⟨RJ2, "checkBoundsBeginEnd", "(II[B)V"⟩
def RJ10 : String := "java/lang/System"
def RJ3 : String := "jdk/internal/util/Preconditions"
abbrev cJ3_checkIndex_8e157 : ByteArray := prog_18_method_11_code
def yJ3_checkIndex_8e157 : MethodName := ⟨RJ3, "checkIndex", "(IILjava/util/function/BiFunction;)I"⟩
abbrev cJ3_checkFromToIndex_8c36e : ByteArray := prog_18_method_12_code
def yJ3_checkFromToIndex_8c36e : MethodName := ⟨RJ3, "checkFromToIndex", "(IIILjava/util/function/BiFunction;)I"⟩
def RL : String := "SpoonPassageLaw"
abbrev cL_law : ByteArray := code
def yL_law : MethodName := ⟨RL, "law", "([I)Z"⟩
abbrev vwCl : List vw_C := [(RX0, TX0, 3), (RX1, TX1, 5), (RX2, TX2, 12), (RX3, TX3, 12), (RX4, TX4, 3), (RX5, TX5, 4), (RX6, TX6, 6), (RX7, TX7, 10), (RX8, TX8, 33)]
end
section
/-! THE LAYER: a method's run over an abstract memory. Cells are numbered from the law's first new cell on (id n lies at base + n); constants have ids from 1000 on -/
def tbG : List Cond := lw_tbl.filter goodWord
theorem tbG_of {w : Cond} (i : Nat) (h : lw_tbl[i]? = some w) (hg : goodWord w = true) : w ∈ tbG := List.mem_filter.mpr ⟨List.mem_of_getElem? h, hg⟩
theorem tbG_good : GoodIn tbG tbG := fun w h => ⟨h, good_of_word (List.mem_filter.mp h).2⟩
/-- the world: the launch, the classes' numbers and slots, the arrays' classes, the first new cell, where constants lie, the script -/
abbrev Wt : Type := Launch × va_G × (Nat → ClassId) × Nat × (Nat → Nat) × Nat × (Nat → Int32)
abbrev w_l (w : Wt) : Launch := w.1
abbrev w_D (w : Wt) : va_G := w.2.1
abbrev w_c (w : Wt) : Nat → ClassId := w.2.2.1
abbrev w_b (w : Wt) : Nat := w.2.2.2.1
abbrev w_a (w : Wt) : Nat → Nat := w.2.2.2.2.1
abbrev w_L (w : Wt) : Nat := w.2.2.2.2.2.1
abbrev w_x (w : Wt) : Nat → Int32 := w.2.2.2.2.2.2
def ad (w : Wt) (a : Nat) : Nat := if a < 1000 then w_b w + a else w_a w a
def cv (w : Wt) (v : Value) : Value := match v with
  | .ref a => .ref (ad w a)
  | v => v
theorem cv_cat (w : Wt) (v : Value) : (cv w v).category = v.category := by cases v <;> rfl
def Aw (w : Wt) : Nat → Prop := fun q => w_b w ≤ q
/-- the memory: how many cells, of which kind and length each, what each holds -/
abbrev Mu : Type := Nat × (Nat → Nat × Nat) × (Nat → Nat → Value)
def cok (w : Wt) (t n : Nat) (f : Nat → Value) (a : Nat) (H : Heap) : Prop :=
  (t < 10 → (∃ r : vw_C, vwCl[t]? = some r ∧ r.2.2 = n) ∧ t_OB a ((w_D w).1 t) n ((w_D w).2 t) H (fun k => cv w (f k))) ∧ (10 ≤ t → H[a]? = some (arrV (w_c w t) n (fun j => cv w (f j))))
def Hd (w : Wt) (u : Mu) (H : Heap) : Prop := H.size = w_b w + u.1 ∧ u.1 ≤ 1000 ∧ ∀ id, id < u.1 → cok w (u.2.1 id).1 (u.2.1 id).2 (u.2.2 id) (w_b w + id) H
def aty (t : Nat) : FieldType := match t with
  | 10 => .int
  | 11 => .char
  | 12 => .boolean
  | 14 => .object RX0
  | 15 => .object RX1
  | 16 => .object RX4
  | _ => .object RX5
def atys (w : Wt) : List (ClassId × FieldType) := [(w_c w 10, .int), (w_c w 11, .char), (w_c w 12, .boolean), (w_c w 14, .object RX0), (w_c w 15, .object RX1), (w_c w 16, .object RX4), (w_c w 17, .object RX5)]
/-- the constants: ABOVE's row, the texts of the reader, the script -/
def cAb (j : Nat) : Int32 := if j = 0 then -1 else if j = 3 then 1 else if j = 4 then 2 else 0
def cLen : List Nat := [3, 3, 4, 1, 1, 3, 2, 2, 4, 2, 2]
def cByt : List (List Int32) := [[100, 105, 103], [102, 101, 101], [102, 105, 110, 101], [124], [38], [60, 61, 62], [43, 45], [42, 47], [102, 114, 97, 110], [109, 104], [102, 99]]
def Cn (w : Wt) (s : State) : Prop :=
  va_Z "SpoonPassage" "ABOVE" "[I" (.ref (ad w 1000)) (Aw w) s s.heap ∧ va_T .int (ad w 1000) 6 (fun j => .int (cAb j)) (Aw w) s s.heap ∧
  va_Z "java/lang/String" "COMPACT_STRINGS" "Z" (.int 1) (Aw w) s s.heap ∧
  vk_S 11 cLen cByt (fun i => ad w (1010 + i)) (fun i => ad w (1030 + i)) (Aw w) s s.heap ∧
  (va_Z "jdk/internal/util/Preconditions" "SIOOBE_FORMATTER" "Ljava/util/function/BiFunction;" .null (Aw w) s s.heap ∨ va_Z "jdk/internal/util/Preconditions" "SIOOBE_FORMATTER" "Ljava/util/function/BiFunction;" (.ref (ad w 1002)) (Aw w) s s.heap) ∧
  va_T .int (ad w 1001) (w_L w) (fun j => .int (w_x w j)) (Aw w) s s.heap ∧
  (va_AO RX0 s ∧ va_AO RX1 s ∧ va_AO RX4 s ∧ va_AO RX5 s)
def cStr : List (Nat × Nat × String) := [(0, 74, "dig"), (1, 80, "fee"), (2, 82, "fine"), (3, 119, "|"), (4, 121, "&"), (5, 123, "<=>"), (6, 125, "+-"), (7, 127, "*/"), (8, 138, "fran"), (9, 140, "mh"), (10, 142, "fc")]
def Sr (w : Wt) (s : State) : Prop := ∀ i k tx, (i, k, tx) ∈ cStr → vk_R RX3 k tx (ad w (1010 + i)) s
def Nt (s : State) : Prop := va_Nw (.methodLinkNest RX2 28 yX1_init "SpoonPassage") s ∧ va_Nw (.methodLinkNest RX5 9 yX1_init "SpoonPassage") s ∧ va_Nw (.methodLinkNest RX2 165 yX7_held "SpoonPassage") s ∧ va_Nw (.methodLinkNest RX2 102 yX7_within "SpoonPassage") s ∧ va_Nw (.fieldLinkNest RX1 27 "SpoonPassage" "ABOVE" "[I" "SpoonPassage") s
def Kw (w : Wt) (s : State) : Prop := va_K (w_D w) vwCl (atys w) s ∧ Cn w s ∧ Sr w s ∧ Nt s
theorem Cn.go {w : Wt} {s U : State} {locs : List Loc} (hW : s.WarmedH U.vm) (hS : va_S (Aw w) s.heap U.heap locs) (h : Cn w s) : Cn w U := by
  have ha := hW.alike
  obtain ⟨h1, h2, h3, h4, h0, h5, h6, h7, h8, h9⟩ := h
  exact ⟨(h1.moved ha).kept hS.2.1, (h2.moved ha).kept hS.2.1, (h3.moved ha).kept hS.2.1, (h4.moved ha).kept hS.2.1, h0.imp (fun h => (h.moved ha).kept hS.2.1) (fun h => (h.moved ha).kept hS.2.1), (h5.moved ha).kept hS.2.1, h6.moved ha, h7.moved ha, h8.moved ha, h9.moved ha⟩
theorem Kw.go {w : Wt} {s U : State} {locs : List Loc} (hW : s.WarmedH U.vm) (hS : va_S (Aw w) s.heap U.heap locs) (h : Kw w s) : Kw w U :=
  ⟨va_K.moved hW.alike h.1, h.2.1.go hW hS, fun i k tx hi => (h.2.2.1 i k tx hi).warm hW, h.2.2.2.1.warmM hW, h.2.2.2.2.1.warmM hW, h.2.2.2.2.2.1.warmM hW, h.2.2.2.2.2.2.1.warmM hW, h.2.2.2.2.2.2.2.warmF hW⟩
/-- a method: its class's number, its name, its code, how many locals, what it gives back -/
abbrev Mt : Type := Nat × MethodName × ByteArray × Nat × Option FieldType
abbrev m_o (M : Mt) : Nat := M.1
abbrev m_y (M : Mt) : MethodName := M.2.1
abbrev m_c (M : Mt) : ByteArray := M.2.2.1
abbrev m_n (M : Mt) : Nat := M.2.2.2.1
abbrev m_r (M : Mt) : Option FieldType := M.2.2.2.2
def Cx (w : Wt) (k : Nat) (M : Mt) (p : Program) (R : Room) (s : State) (m : MethodId) (args : Array Value) (meth : Method) (c : Code) : Prop :=
  p.tables.exec = Jvm.exec ∧ c.code = m_c M ∧ c.maxLocals = m_n M ∧ meth.sig.returnType = m_r M ∧ meth.locks = false ∧ s.vm.findClass (m_y M).cls = some m.cls ∧ meth.name = (m_y M).name ∧ (∀ t ∈ tbG, t.before args s = true) ∧ Kw w s ∧ k ≤ R.frames ∧ 64 * k ≤ R.locals
theorem Cx.ts {w : Wt} {k : Nat} {M : Mt} {p : Program} {R : Room} {s : State} {m : MethodId} {args : Array Value} {meth : Method} {c : Code} (C : Cx w k M p R s m args meth c) : ∀ t ∈ tbG, t.before args s = true := C.2.2.2.2.2.2.2.1
theorem Cx.own {w : Wt} {k : Nat} {M : Mt} {p : Program} {R : Room} {s : State} {m : MethodId} {args : Array Value} {meth : Method} {c : Code} (C : Cx w k M p R s m args meth c) : s.vm.findClass (m_y M).cls = some m.cls := C.2.2.2.2.2.1
theorem Cx.kw {w : Wt} {k : Nat} {M : Mt} {p : Program} {R : Room} {s : State} {m : MethodId} {args : Array Value} {meth : Method} {c : Code} (C : Cx w k M p R s m args meth c) : Kw w s := C.2.2.2.2.2.2.2.2.1
def Rt (ret : Option FieldType) (r : Option Value) (i : Instr) : Prop :=
  (r = none ∧ ret = none ∧ i = .return_) ∨ (∃ (x : Int32) (ty : FieldType), r = some (.int x) ∧ ret = some ty ∧ narrow ty (.int x) = .int x ∧ i = .ireturn) ∨ (∃ (a : Nat) (ty : FieldType), r = some (.ref a) ∧ ret = some ty ∧ ((∃ n, ty = .object n) ∨ ∃ t, ty = .array t) ∧ i = .areturn)
/-- locals -/
def pr (w : Wt) : Nat → List (Option Value) → List (Nat × Value)
  | _, [] => []
  | i, none :: t => pr w (i + 1) t
  | i, some v :: t => (i, cv w v) :: pr w (i + 1) t
theorem pr_mem {w : Wt} {L : List (Option Value)} : ∀ {i : Nat} {q : Nat × Value}, q ∈ pr w i L ↔ ∃ j v, L[j]? = some (some v) ∧ q = (i + j, cv w v) := by
  induction L with
  | nil => intro i q; simp [pr]
  | cons x t ih =>
    intro i q
    cases x with
    | none =>
      rw [pr, ih]
      constructor
      · rintro ⟨j, v, h1, h2⟩
        exact ⟨j + 1, v, by simpa using h1, by rw [h2]; congr 1; omega⟩
      · rintro ⟨j, v, h1, h2⟩
        cases j with
        | zero => simp at h1
        | succ j => exact ⟨j, v, by simpa using h1, by rw [h2]; congr 1; omega⟩
    | some u =>
      rw [pr, List.mem_cons, ih]
      constructor
      · rintro (h | ⟨j, v, h1, h2⟩)
        · exact ⟨0, u, rfl, h⟩
        · exact ⟨j + 1, v, by simpa using h1, by rw [h2]; congr 1; omega⟩
      · rintro ⟨j, v, h1, h2⟩
        cases j with
        | zero =>
          have : u = v := by simpa using h1
          subst this
          exact Or.inl h2
        | succ j => exact Or.inr ⟨j, v, by simpa using h1, by rw [h2]; congr 1; omega⟩
def Lh (w : Wt) (n : Nat) (L : List (Option Value)) (ls : Array Slot) : Prop := lv_has ls n (pr w 0 L) ∧ ∀ (j : Nat) (v : Value), L[j]? = some (some v) → v.category = 1
theorem Lh.at {w : Wt} {n : Nat} {L : List (Option Value)} {ls : Array Slot} (h : Lh w n L ls) {i : Nat} {v : Value} (hi : L[i]? = some (some v)) : ls[i]? = some (.val (cv w v)) :=
  h.1.2.2 (i, cv w v) (pr_mem.mpr ⟨i, v, hi, by simp⟩)
theorem Lh.set {w : Wt} {n : Nat} {L : List (Option Value)} {ls : Array Slot} (h : Lh w n L ls) {i : Nat} {v : Value} (hi : i < n) (hv : v.category = 1) : ∃ ls', storeLocals ls i (cv w v) = some ls' ∧ Lh w n (L.set i (some v)) ls' := by
  obtain ⟨ls', h1, h2⟩ := lv_store1 (v := cv w v) h.1 hi (by rw [cv_cat]; exact hv)
  refine ⟨ls', h1, ⟨h2.1, h2.2.1, fun q hq => ?_⟩, fun j u hj => ?_⟩
  · obtain ⟨j, u, hj, rfl⟩ := pr_mem.mp hq
    by_cases hji : j = i
    · subst hji
      have hl : j < L.length := by
        by_cases hl : j < L.length
        · exact hl
        · rw [List.set_eq_of_length_le (by omega)] at hj
          rw [List.getElem?_eq_none (by omega)] at hj
          cases hj
      rw [List.getElem?_set_self hl] at hj
      cases hj
      simpa using h2.2.2 (j, cv w v) List.mem_cons_self
    · rw [List.getElem?_set_ne (Ne.symm hji)] at hj
      refine h2.2.2 _ (List.mem_cons_of_mem _ (List.mem_filter.mpr ⟨pr_mem.mpr ⟨j, u, hj, rfl⟩, ?_⟩))
      have hc := h.2 j u hj
      simp [hji, cv_cat, hc]
  · by_cases hji : j = i
    · subst hji
      by_cases hl : j < L.length
      · rw [List.getElem?_set_self hl] at hj
        cases hj
        exact hv
      · rw [List.set_eq_of_length_le (by omega)] at hj
        exact h.2 j u hj
    · rw [List.getElem?_set_ne (Ne.symm hji)] at hj
      exact h.2 j u hj
theorem Lh.sz {w : Wt} {n : Nat} {L : List (Option Value)} {ls : Array Slot} (h : Lh w n L ls) : ls.size = n := h.1.1
/-- THE JUDGEMENT: method M stands at pc with locals L, stack st, memory u, in k frames' room, with bc cells and bs slots to make: it comes to its return with Q -/
def Gp (w : Wt) (k bc bs : Nat) (M : Mt) (Q : Option Value → Mu → Prop) (pc : Nat) (L : List (Option Value)) (st : List Value) (u : Mu) : Prop :=
  ∀ (p : Program) (e : Env) (R : Room) (s : State) (m : MethodId) (args : Array Value) (below : List Frame) (meth : Method) (c : Code) (cells slots : Nat) (Z : State → Prop),
    Cx w k M p R s m args meth c → cells + bc ≤ R.cells → slots + bs ≤ R.slots →
    (∀ (r : Option Value) (u' : Mu) (H' : Heap) (locs' : List Loc) (pc' : Nat) (ls' : Array Slot) (i : Instr), Rt (m_r M) r i → decode (m_c M) pc' = .ok (i, 1) → Q r u' → Hd w u' H' → va_S (Aw w) s.heap H' locs' →
      W p (w_l w) e R s m args below meth c H' locs' (cells + bc) (slots + bs) Z (F0 m pc' ls' ((r.map (cv w)).toList))) →
    ∀ (H : Heap) (locs : List Loc) (ls : Array Slot), Hd w u H → va_S (Aw w) s.heap H locs → Lh w (m_n M) L ls →
      W p (w_l w) e R s m args below meth c H locs cells slots Z (F0 m pc ls (st.map (cv w)))
end
section
section G1
variable {w : Wt} {k bc bs : Nat} {M : Mt} {Q : Option Value → Mu → Prop} {pc : Nat} {L : List (Option Value)} {st : List Value} {u : Mu}
theorem g_iadd {x y : Int32} (hd : decode (m_c M) pc = .ok (.iadd, 1)) (h : Gp w k bc bs M Q (pc + 1) L (.int (x + y) :: st) u) : Gp w k bc bs M Q pc L (.int y :: .int x :: st) u := by
  intro p e R s m args below meth c cells slots Z C hc hs hZ H locs ls hH hS hL
  exact lv_iadd C.1 C.2.1 hd (h p e R s m args below meth c cells slots Z C hc hs hZ H locs ls hH hS hL)
theorem g_isub {x y : Int32} (hd : decode (m_c M) pc = .ok (.isub, 1)) (h : Gp w k bc bs M Q (pc + 1) L (.int (x - y) :: st) u) : Gp w k bc bs M Q pc L (.int y :: .int x :: st) u := by
  intro p e R s m args below meth c cells slots Z C hc hs hZ H locs ls hH hS hL
  exact lv_isub C.1 C.2.1 hd (h p e R s m args below meth c cells slots Z C hc hs hZ H locs ls hH hS hL)
theorem g_imul {x y : Int32} (hd : decode (m_c M) pc = .ok (.imul, 1)) (h : Gp w k bc bs M Q (pc + 1) L (.int (x * y) :: st) u) : Gp w k bc bs M Q pc L (.int y :: .int x :: st) u := by
  intro p e R s m args below meth c cells slots Z C hc hs hZ H locs ls hH hS hL
  exact lv_imul C.1 C.2.1 hd (h p e R s m args below meth c cells slots Z C hc hs hZ H locs ls hH hS hL)
theorem g_iand {x y : Int32} (hd : decode (m_c M) pc = .ok (.iand, 1)) (h : Gp w k bc bs M Q (pc + 1) L (.int (x &&& y) :: st) u) : Gp w k bc bs M Q pc L (.int y :: .int x :: st) u := by
  intro p e R s m args below meth c cells slots Z C hc hs hZ H locs ls hH hS hL
  exact lv_iand C.1 C.2.1 hd (h p e R s m args below meth c cells slots Z C hc hs hZ H locs ls hH hS hL)
theorem g_ior {x y : Int32} (hd : decode (m_c M) pc = .ok (.ior, 1)) (h : Gp w k bc bs M Q (pc + 1) L (.int (x ||| y) :: st) u) : Gp w k bc bs M Q pc L (.int y :: .int x :: st) u := by
  intro p e R s m args below meth c cells slots Z C hc hs hZ H locs ls hH hS hL
  exact lv_ior C.1 C.2.1 hd (h p e R s m args below meth c cells slots Z C hc hs hZ H locs ls hH hS hL)
theorem g_ixor {x y : Int32} (hd : decode (m_c M) pc = .ok (.ixor, 1)) (h : Gp w k bc bs M Q (pc + 1) L (.int (x ^^^ y) :: st) u) : Gp w k bc bs M Q pc L (.int y :: .int x :: st) u := by
  intro p e R s m args below meth c cells slots Z C hc hs hZ H locs ls hH hS hL
  exact lv_ixor C.1 C.2.1 hd (h p e R s m args below meth c cells slots Z C hc hs hZ H locs ls hH hS hL)
theorem g_ishl {x y : Int32} (hd : decode (m_c M) pc = .ok (.ishl, 1)) (h : Gp w k bc bs M Q (pc + 1) L (.int (x <<< (y &&& 31)) :: st) u) : Gp w k bc bs M Q pc L (.int y :: .int x :: st) u := by
  intro p e R s m args below meth c cells slots Z C hc hs hZ H locs ls hH hS hL
  exact lv_ishl C.1 C.2.1 hd (h p e R s m args below meth c cells slots Z C hc hs hZ H locs ls hH hS hL)
theorem g_ishr {x y : Int32} (hd : decode (m_c M) pc = .ok (.ishr, 1)) (h : Gp w k bc bs M Q (pc + 1) L (.int (x >>> (y &&& 31)) :: st) u) : Gp w k bc bs M Q pc L (.int y :: .int x :: st) u := by
  intro p e R s m args below meth c cells slots Z C hc hs hZ H locs ls hH hS hL
  exact lv_ishr C.1 C.2.1 hd (h p e R s m args below meth c cells slots Z C hc hs hZ H locs ls hH hS hL)
theorem g_idiv {x y : Int32} (hd : decode (m_c M) pc = .ok (.idiv, 1)) (hy : ¬ y = 0) (h : Gp w k bc bs M Q (pc + 1) L (.int (x / y) :: st) u) : Gp w k bc bs M Q pc L (.int y :: .int x :: st) u := by
  intro p e R s m args below meth c cells slots Z C hc hs hZ H locs ls hH hS hL
  exact lv_idiv C.1 C.2.1 hd hy (h p e R s m args below meth c cells slots Z C hc hs hZ H locs ls hH hS hL)
theorem g_irem {x y : Int32} (hd : decode (m_c M) pc = .ok (.irem, 1)) (hy : ¬ y = 0) (h : Gp w k bc bs M Q (pc + 1) L (.int (x - x / y * y) :: st) u) : Gp w k bc bs M Q pc L (.int y :: .int x :: st) u := by
  intro p e R s m args below meth c cells slots Z C hc hs hZ H locs ls hH hS hL
  exact lv_irem C.1 C.2.1 hd hy (h p e R s m args below meth c cells slots Z C hc hs hZ H locs ls hH hS hL)
theorem g_iushr {x y : Int32} (hd : decode (m_c M) pc = .ok (.iushr, 1)) (h : Gp w k bc bs M Q (pc + 1) L (.int (x.toUInt32 >>> (y.toUInt32 &&& Int32.toUInt32 31)).toInt32 :: st) u) : Gp w k bc bs M Q pc L (.int y :: .int x :: st) u := by
  intro p e R s m args below meth c cells slots Z C hc hs hZ H locs ls hH hS hL
  exact lv_iushr C.1 C.2.1 hd rfl (h p e R s m args below meth c cells slots Z C hc hs hZ H locs ls hH hS hL)
theorem g_ineg {x : Int32} (hd : decode (m_c M) pc = .ok (.ineg, 1)) (h : Gp w k bc bs M Q (pc + 1) L (.int (-x) :: st) u) : Gp w k bc bs M Q pc L (.int x :: st) u := by
  intro p e R s m args below meth c cells slots Z C hc hs hZ H locs ls hH hS hL
  exact lv_ineg C.1 C.2.1 hd (h p e R s m args below meth c cells slots Z C hc hs hZ H locs ls hH hS hL)
theorem g_i2s {x : Int32} (hd : decode (m_c M) pc = .ok (.i2s, 1)) (h : Gp w k bc bs M Q (pc + 1) L (.int (x.toInt16.toInt32) :: st) u) : Gp w k bc bs M Q pc L (.int x :: st) u := by
  intro p e R s m args below meth c cells slots Z C hc hs hZ H locs ls hH hS hL
  exact lv_i2s C.1 C.2.1 hd rfl (h p e R s m args below meth c cells slots Z C hc hs hZ H locs ls hH hS hL)
theorem g_i2c {x : Int32} (hd : decode (m_c M) pc = .ok (.i2c, 1)) (h : Gp w k bc bs M Q (pc + 1) L (.int ((x.toUInt32 % 65536).toInt32) :: st) u) : Gp w k bc bs M Q pc L (.int x :: st) u := by
  intro p e R s m args below meth c cells slots Z C hc hs hZ H locs ls hH hS hL
  exact lv_i2c C.1 C.2.1 hd rfl (h p e R s m args below meth c cells slots Z C hc hs hZ H locs ls hH hS hL)
theorem g_i2b {x : Int32} (hd : decode (m_c M) pc = .ok (.i2b, 1)) (h : Gp w k bc bs M Q (pc + 1) L (.int (x.toInt8.toInt32) :: st) u) : Gp w k bc bs M Q pc L (.int x :: st) u := by
  intro p e R s m args below meth c cells slots Z C hc hs hZ H locs ls hH hS hL
  exact lv_i2b C.1 C.2.1 hd rfl (h p e R s m args below meth c cells slots Z C hc hs hZ H locs ls hH hS hL)
theorem g_iconst {n : Int} (hd : decode (m_c M) pc = .ok (.iconst n, 1)) (h : Gp w k bc bs M Q (pc + 1) L (.int (Int32.ofInt n) :: st) u) : Gp w k bc bs M Q pc L (st) u := by
  intro p e R s m args below meth c cells slots Z C hc hs hZ H locs ls hH hS hL
  exact lv_iconst C.1 C.2.1 hd rfl (h p e R s m args below meth c cells slots Z C hc hs hZ H locs ls hH hS hL)
theorem g_bipush {n : Int} (hd : decode (m_c M) pc = .ok (.bipush n, 2)) (hv : (Int8.ofInt n).toInt32 = Int32.ofInt n) (h : Gp w k bc bs M Q (pc + 2) L (.int (Int32.ofInt n) :: st) u) : Gp w k bc bs M Q pc L (st) u := by
  intro p e R s m args below meth c cells slots Z C hc hs hZ H locs ls hH hS hL
  exact lv_bipush C.1 C.2.1 hd hv (h p e R s m args below meth c cells slots Z C hc hs hZ H locs ls hH hS hL)
theorem g_sipush {n : Int} (hd : decode (m_c M) pc = .ok (.sipush n, 3)) (hv : (Int16.ofInt n).toInt32 = Int32.ofInt n) (h : Gp w k bc bs M Q (pc + 3) L (.int (Int32.ofInt n) :: st) u) : Gp w k bc bs M Q pc L (st) u := by
  intro p e R s m args below meth c cells slots Z C hc hs hZ H locs ls hH hS hL
  exact lv_sipush C.1 C.2.1 hd hv (h p e R s m args below meth c cells slots Z C hc hs hZ H locs ls hH hS hL)
theorem g_ldc {i : Nat} {v : Int32} (hd : decode (m_c M) pc = .ok (.ldc i, 2)) (hw : Cond.constant (m_y M).cls i v ∈ tbG) (h : Gp w k bc bs M Q (pc + 2) L (.int v :: st) u) : Gp w k bc bs M Q pc L (st) u := by
  intro p e R s m args below meth c cells slots Z C hc hs hZ H locs ls hH hS hL
  exact lv_ldc C.1 C.2.1 C.own (C.ts _ hw) hd (h p e R s m args below meth c cells slots Z C hc hs hZ H locs ls hH hS hL)
theorem g_ldcw {i : Nat} {v : Int32} (hd : decode (m_c M) pc = .ok (.ldc_w i, 3)) (hw : Cond.constant (m_y M).cls i v ∈ tbG) (h : Gp w k bc bs M Q (pc + 3) L (.int v :: st) u) : Gp w k bc bs M Q pc L (st) u := by
  intro p e R s m args below meth c cells slots Z C hc hs hZ H locs ls hH hS hL
  exact lv_ldcw C.1 C.2.1 C.own (C.ts _ hw) hd (h p e R s m args below meth c cells slots Z C hc hs hZ H locs ls hH hS hL)
theorem g_iload {i : Nat} {x : Int32} (hd : decode (m_c M) pc = .ok (.iload i, 2)) (hi : L[i]? = some (some (.int x))) (h : Gp w k bc bs M Q (pc + 2) L (.int x :: st) u) : Gp w k bc bs M Q pc L (st) u := by
  intro p e R s m args below meth c cells slots Z C hc hs hZ H locs ls hH hS hL
  exact lv_iload C.1 C.2.1 hd (hL.at hi) (h p e R s m args below meth c cells slots Z C hc hs hZ H locs ls hH hS hL)
theorem g_iload_n {i : Fin 4} {x : Int32} (hd : decode (m_c M) pc = .ok (.iload_n i, 1)) (hi : L[i.val]? = some (some (.int x))) (h : Gp w k bc bs M Q (pc + 1) L (.int x :: st) u) : Gp w k bc bs M Q pc L (st) u := by
  intro p e R s m args below meth c cells slots Z C hc hs hZ H locs ls hH hS hL
  exact lv_iload_n C.1 C.2.1 hd rfl (hL.at hi) (h p e R s m args below meth c cells slots Z C hc hs hZ H locs ls hH hS hL)
theorem g_aload {i : Nat} {x : Nat} (hd : decode (m_c M) pc = .ok (.aload i, 2)) (hi : L[i]? = some (some (.ref x))) (h : Gp w k bc bs M Q (pc + 2) L (.ref x :: st) u) : Gp w k bc bs M Q pc L (st) u := by
  intro p e R s m args below meth c cells slots Z C hc hs hZ H locs ls hH hS hL
  exact lv_aload C.1 C.2.1 hd (hL.at hi) (h p e R s m args below meth c cells slots Z C hc hs hZ H locs ls hH hS hL)
theorem g_aload_n {i : Fin 4} {x : Nat} (hd : decode (m_c M) pc = .ok (.aload_n i, 1)) (hi : L[i.val]? = some (some (.ref x))) (h : Gp w k bc bs M Q (pc + 1) L (.ref x :: st) u) : Gp w k bc bs M Q pc L (st) u := by
  intro p e R s m args below meth c cells slots Z C hc hs hZ H locs ls hH hS hL
  exact lv_aload_n C.1 C.2.1 hd rfl (hL.at hi) (h p e R s m args below meth c cells slots Z C hc hs hZ H locs ls hH hS hL)
theorem g_istore {i : Nat} {x : Int32} (hd : decode (m_c M) pc = .ok (.istore i, 2)) (hi : i < m_n M) (h : Gp w k bc bs M Q (pc + 2) (L.set i (some (.int x))) st u) : Gp w k bc bs M Q pc L (.int x :: st) u := by
  intro p e R s m args below meth c cells slots Z C hc hs hZ H locs ls hH hS hL
  obtain ⟨ls', e1, hL'⟩ := hL.set (v := .int x) hi rfl
  have K := h p e R s m args below meth c cells slots Z C hc hs hZ H locs ls' hH hS hL'
  intro T hT X
  obtain ⟨t, a, b⟩ := K T hT X
  refine ⟨t, ?_, b⟩
  jvm_step X.here [X.here.top, C.1, C.2.1, hd, cv]
  exact ⟨ls', e1, a⟩
theorem g_istore_n {i : Fin 4} {x : Int32} (hd : decode (m_c M) pc = .ok (.istore_n i, 1)) (hi : i.val < m_n M) (h : Gp w k bc bs M Q (pc + 1) (L.set i.val (some (.int x))) st u) : Gp w k bc bs M Q pc L (.int x :: st) u := by
  intro p e R s m args below meth c cells slots Z C hc hs hZ H locs ls hH hS hL
  obtain ⟨ls', e1, hL'⟩ := hL.set (v := .int x) hi rfl
  have K := h p e R s m args below meth c cells slots Z C hc hs hZ H locs ls' hH hS hL'
  intro T hT X
  obtain ⟨t, a, b⟩ := K T hT X
  refine ⟨t, ?_, b⟩
  jvm_step X.here [X.here.top, C.1, C.2.1, hd, cv]
  exact ⟨ls', e1, a⟩
theorem g_astore {i : Nat} {x : Nat} (hd : decode (m_c M) pc = .ok (.astore i, 2)) (hi : i < m_n M) (h : Gp w k bc bs M Q (pc + 2) (L.set i (some (.ref x))) st u) : Gp w k bc bs M Q pc L (.ref x :: st) u := by
  intro p e R s m args below meth c cells slots Z C hc hs hZ H locs ls hH hS hL
  obtain ⟨ls', e1, hL'⟩ := hL.set (v := .ref x) hi rfl
  have K := h p e R s m args below meth c cells slots Z C hc hs hZ H locs ls' hH hS hL'
  intro T hT X
  obtain ⟨t, a, b⟩ := K T hT X
  refine ⟨t, ?_, b⟩
  jvm_step X.here [X.here.top, C.1, C.2.1, hd, cv]
  exact ⟨rfl, ls', e1, a⟩
theorem g_astore_n {i : Fin 4} {x : Nat} (hd : decode (m_c M) pc = .ok (.astore_n i, 1)) (hi : i.val < m_n M) (h : Gp w k bc bs M Q (pc + 1) (L.set i.val (some (.ref x))) st u) : Gp w k bc bs M Q pc L (.ref x :: st) u := by
  intro p e R s m args below meth c cells slots Z C hc hs hZ H locs ls hH hS hL
  obtain ⟨ls', e1, hL'⟩ := hL.set (v := .ref x) hi rfl
  have K := h p e R s m args below meth c cells slots Z C hc hs hZ H locs ls' hH hS hL'
  intro T hT X
  obtain ⟨t, a, b⟩ := K T hT X
  refine ⟨t, ?_, b⟩
  jvm_step X.here [X.here.top, C.1, C.2.1, hd, cv]
  exact ⟨rfl, ls', e1, a⟩
theorem g_iinc {i : Nat} {n : Int} {x : Int32} (hd : decode (m_c M) pc = .ok (.iinc i n, 3)) (hn : i < m_n M) (hi : L[i]? = some (some (.int x))) (h : Gp w k bc bs M Q (pc + 3) (L.set i (some (.int (x + Int32.ofInt n)))) st u) : Gp w k bc bs M Q pc L st u := by
  intro p e R s m args below meth c cells slots Z C hc hs hZ H locs ls hH hS hL
  obtain ⟨ls', e1, hL'⟩ := hL.set (v := .int (x + Int32.ofInt n)) hn rfl
  have K := h p e R s m args below meth c cells slots Z C hc hs hZ H locs ls' hH hS hL'
  have hx := hL.at hi
  intro T hT X
  obtain ⟨t, a, b⟩ := K T hT X
  refine ⟨t, ?_, b⟩
  jvm_step X.here [X.here.top, C.1, C.2.1, hd, hx, cv]
  exact ⟨ls', e1, a⟩
theorem g_dup {v : Value} (hd : decode (m_c M) pc = .ok (.dup, 1)) (hv : v.category = 1) (h : Gp w k bc bs M Q (pc + 1) L (v :: v :: st) u) : Gp w k bc bs M Q pc L (v :: st) u := by
  intro p e R s m args below meth c cells slots Z C hc hs hZ H locs ls hH hS hL
  exact lv_dup C.1 C.2.1 hd (by rw [cv_cat]; exact hv) (h p e R s m args below meth c cells slots Z C hc hs hZ H locs ls hH hS hL)
theorem g_dup2 {a b : Value} (hd : decode (m_c M) pc = .ok (.dup2, 1)) (ha : a.category = 1) (hb : b.category = 1) (h : Gp w k bc bs M Q (pc + 1) L (a :: b :: a :: b :: st) u) : Gp w k bc bs M Q pc L (a :: b :: st) u := by
  intro p e R s m args below meth c cells slots Z C hc hs hZ H locs ls hH hS hL
  exact lv_dup2_11 C.1 C.2.1 hd (by rw [cv_cat]; exact ha) (by rw [cv_cat]; exact hb) (h p e R s m args below meth c cells slots Z C hc hs hZ H locs ls hH hS hL)
theorem g_pop {v : Value} (hd : decode (m_c M) pc = .ok (.pop, 1)) (hv : v.category = 1) (h : Gp w k bc bs M Q (pc + 1) L (st) u) : Gp w k bc bs M Q pc L (v :: st) u := by
  intro p e R s m args below meth c cells slots Z C hc hs hZ H locs ls hH hS hL
  exact lv_pop C.1 C.2.1 hd (by rw [cv_cat]; exact hv) (h p e R s m args below meth c cells slots Z C hc hs hZ H locs ls hH hS hL)
theorem g_goto {off : Int} {tgt : Nat} (hd : decode (m_c M) pc = .ok (.goto off, 3)) (ht : (pc : Int) + off = (tgt : Int)) (h : Gp w k bc bs M Q (tgt) L (st) u) : Gp w k bc bs M Q pc L (st) u := by
  intro p e R s m args below meth c cells slots Z C hc hs hZ H locs ls hH hS hL
  exact lv_goto C.1 C.2.1 hd ht (h p e R s m args below meth c cells slots Z C hc hs hZ H locs ls hH hS hL)
theorem g_if_eq {x : Int32} {off : Int} {tgt : Nat} (hd : decode (m_c M) pc = .ok (.ifCond .eq off, 3)) (ht : (pc : Int) + off = (tgt : Int)) (kt : x = 0 → Gp w k bc bs M Q tgt L st u) (kf : ¬ x = 0 → Gp w k bc bs M Q (pc + 3) L st u) : Gp w k bc bs M Q pc L (.int x :: st) u := by
  intro p e R s m args below meth c cells slots Z C hc hs hZ H locs ls hH hS hL
  exact lv_if_eq C.1 C.2.1 hd ht (fun a => kt a p e R s m args below meth c cells slots Z C hc hs hZ H locs ls hH hS hL) (fun a => kf a p e R s m args below meth c cells slots Z C hc hs hZ H locs ls hH hS hL)
theorem g_icmp_eq {x y : Int32} {off : Int} {tgt : Nat} (hd : decode (m_c M) pc = .ok (.if_icmp .eq off, 3)) (ht : (pc : Int) + off = (tgt : Int)) (kt : x = y → Gp w k bc bs M Q tgt L st u) (kf : ¬ x = y → Gp w k bc bs M Q (pc + 3) L st u) : Gp w k bc bs M Q pc L (.int y :: .int x :: st) u := by
  intro p e R s m args below meth c cells slots Z C hc hs hZ H locs ls hH hS hL
  exact lv_icmp_eq C.1 C.2.1 hd ht (fun a => kt a p e R s m args below meth c cells slots Z C hc hs hZ H locs ls hH hS hL) (fun a => kf a p e R s m args below meth c cells slots Z C hc hs hZ H locs ls hH hS hL)
theorem g_if_ne {x : Int32} {off : Int} {tgt : Nat} (hd : decode (m_c M) pc = .ok (.ifCond .ne off, 3)) (ht : (pc : Int) + off = (tgt : Int)) (kt : ¬ x = 0 → Gp w k bc bs M Q tgt L st u) (kf : x = 0 → Gp w k bc bs M Q (pc + 3) L st u) : Gp w k bc bs M Q pc L (.int x :: st) u := by
  intro p e R s m args below meth c cells slots Z C hc hs hZ H locs ls hH hS hL
  exact lv_if_ne C.1 C.2.1 hd ht (fun a => kt a p e R s m args below meth c cells slots Z C hc hs hZ H locs ls hH hS hL) (fun a => kf a p e R s m args below meth c cells slots Z C hc hs hZ H locs ls hH hS hL)
theorem g_icmp_ne {x y : Int32} {off : Int} {tgt : Nat} (hd : decode (m_c M) pc = .ok (.if_icmp .ne off, 3)) (ht : (pc : Int) + off = (tgt : Int)) (kt : ¬ x = y → Gp w k bc bs M Q tgt L st u) (kf : x = y → Gp w k bc bs M Q (pc + 3) L st u) : Gp w k bc bs M Q pc L (.int y :: .int x :: st) u := by
  intro p e R s m args below meth c cells slots Z C hc hs hZ H locs ls hH hS hL
  exact lv_icmp_ne C.1 C.2.1 hd ht (fun a => kt a p e R s m args below meth c cells slots Z C hc hs hZ H locs ls hH hS hL) (fun a => kf a p e R s m args below meth c cells slots Z C hc hs hZ H locs ls hH hS hL)
theorem g_if_lt {x : Int32} {off : Int} {tgt : Nat} (hd : decode (m_c M) pc = .ok (.ifCond .lt off, 3)) (ht : (pc : Int) + off = (tgt : Int)) (kt : x < 0 → Gp w k bc bs M Q tgt L st u) (kf : ¬ x < 0 → Gp w k bc bs M Q (pc + 3) L st u) : Gp w k bc bs M Q pc L (.int x :: st) u := by
  intro p e R s m args below meth c cells slots Z C hc hs hZ H locs ls hH hS hL
  exact lv_if_lt C.1 C.2.1 hd ht (fun a => kt a p e R s m args below meth c cells slots Z C hc hs hZ H locs ls hH hS hL) (fun a => kf a p e R s m args below meth c cells slots Z C hc hs hZ H locs ls hH hS hL)
theorem g_icmp_lt {x y : Int32} {off : Int} {tgt : Nat} (hd : decode (m_c M) pc = .ok (.if_icmp .lt off, 3)) (ht : (pc : Int) + off = (tgt : Int)) (kt : x < y → Gp w k bc bs M Q tgt L st u) (kf : ¬ x < y → Gp w k bc bs M Q (pc + 3) L st u) : Gp w k bc bs M Q pc L (.int y :: .int x :: st) u := by
  intro p e R s m args below meth c cells slots Z C hc hs hZ H locs ls hH hS hL
  exact lv_icmp_lt C.1 C.2.1 hd ht (fun a => kt a p e R s m args below meth c cells slots Z C hc hs hZ H locs ls hH hS hL) (fun a => kf a p e R s m args below meth c cells slots Z C hc hs hZ H locs ls hH hS hL)
theorem g_if_ge {x : Int32} {off : Int} {tgt : Nat} (hd : decode (m_c M) pc = .ok (.ifCond .ge off, 3)) (ht : (pc : Int) + off = (tgt : Int)) (kt : 0 ≤ x → Gp w k bc bs M Q tgt L st u) (kf : ¬ 0 ≤ x → Gp w k bc bs M Q (pc + 3) L st u) : Gp w k bc bs M Q pc L (.int x :: st) u := by
  intro p e R s m args below meth c cells slots Z C hc hs hZ H locs ls hH hS hL
  exact lv_if_ge C.1 C.2.1 hd ht (fun a => kt a p e R s m args below meth c cells slots Z C hc hs hZ H locs ls hH hS hL) (fun a => kf a p e R s m args below meth c cells slots Z C hc hs hZ H locs ls hH hS hL)
theorem g_icmp_ge {x y : Int32} {off : Int} {tgt : Nat} (hd : decode (m_c M) pc = .ok (.if_icmp .ge off, 3)) (ht : (pc : Int) + off = (tgt : Int)) (kt : y ≤ x → Gp w k bc bs M Q tgt L st u) (kf : ¬ y ≤ x → Gp w k bc bs M Q (pc + 3) L st u) : Gp w k bc bs M Q pc L (.int y :: .int x :: st) u := by
  intro p e R s m args below meth c cells slots Z C hc hs hZ H locs ls hH hS hL
  exact lv_icmp_ge C.1 C.2.1 hd ht (fun a => kt a p e R s m args below meth c cells slots Z C hc hs hZ H locs ls hH hS hL) (fun a => kf a p e R s m args below meth c cells slots Z C hc hs hZ H locs ls hH hS hL)
theorem g_if_gt {x : Int32} {off : Int} {tgt : Nat} (hd : decode (m_c M) pc = .ok (.ifCond .gt off, 3)) (ht : (pc : Int) + off = (tgt : Int)) (kt : 0 < x → Gp w k bc bs M Q tgt L st u) (kf : ¬ 0 < x → Gp w k bc bs M Q (pc + 3) L st u) : Gp w k bc bs M Q pc L (.int x :: st) u := by
  intro p e R s m args below meth c cells slots Z C hc hs hZ H locs ls hH hS hL
  exact lv_if_gt C.1 C.2.1 hd ht (fun a => kt a p e R s m args below meth c cells slots Z C hc hs hZ H locs ls hH hS hL) (fun a => kf a p e R s m args below meth c cells slots Z C hc hs hZ H locs ls hH hS hL)
theorem g_icmp_gt {x y : Int32} {off : Int} {tgt : Nat} (hd : decode (m_c M) pc = .ok (.if_icmp .gt off, 3)) (ht : (pc : Int) + off = (tgt : Int)) (kt : y < x → Gp w k bc bs M Q tgt L st u) (kf : ¬ y < x → Gp w k bc bs M Q (pc + 3) L st u) : Gp w k bc bs M Q pc L (.int y :: .int x :: st) u := by
  intro p e R s m args below meth c cells slots Z C hc hs hZ H locs ls hH hS hL
  exact lv_icmp_gt C.1 C.2.1 hd ht (fun a => kt a p e R s m args below meth c cells slots Z C hc hs hZ H locs ls hH hS hL) (fun a => kf a p e R s m args below meth c cells slots Z C hc hs hZ H locs ls hH hS hL)
theorem g_if_le {x : Int32} {off : Int} {tgt : Nat} (hd : decode (m_c M) pc = .ok (.ifCond .le off, 3)) (ht : (pc : Int) + off = (tgt : Int)) (kt : x ≤ 0 → Gp w k bc bs M Q tgt L st u) (kf : ¬ x ≤ 0 → Gp w k bc bs M Q (pc + 3) L st u) : Gp w k bc bs M Q pc L (.int x :: st) u := by
  intro p e R s m args below meth c cells slots Z C hc hs hZ H locs ls hH hS hL
  exact lv_if_le C.1 C.2.1 hd ht (fun a => kt a p e R s m args below meth c cells slots Z C hc hs hZ H locs ls hH hS hL) (fun a => kf a p e R s m args below meth c cells slots Z C hc hs hZ H locs ls hH hS hL)
theorem g_icmp_le {x y : Int32} {off : Int} {tgt : Nat} (hd : decode (m_c M) pc = .ok (.if_icmp .le off, 3)) (ht : (pc : Int) + off = (tgt : Int)) (kt : x ≤ y → Gp w k bc bs M Q tgt L st u) (kf : ¬ x ≤ y → Gp w k bc bs M Q (pc + 3) L st u) : Gp w k bc bs M Q pc L (.int y :: .int x :: st) u := by
  intro p e R s m args below meth c cells slots Z C hc hs hZ H locs ls hH hS hL
  exact lv_icmp_le C.1 C.2.1 hd ht (fun a => kt a p e R s m args below meth c cells slots Z C hc hs hZ H locs ls hH hS hL) (fun a => kf a p e R s m args below meth c cells slots Z C hc hs hZ H locs ls hH hS hL)
theorem g_tableIn {dflt lo hi : Int} {offs : Array Int} {len : Nat} {x : Int32} {off : Int} {tgt : Nat} (hd : decode (m_c M) pc = .ok (.tableswitch dflt lo hi offs, len)) (h1 : ¬ x.toInt < lo) (h2 : ¬ hi < x.toInt) (ho : offs[(x.toInt - lo).toNat]? = some off) (ht : (pc : Int) + off = (tgt : Int)) (h : Gp w k bc bs M Q (tgt) L (st) u) : Gp w k bc bs M Q pc L (.int x :: st) u := by
  intro p e R s m args below meth c cells slots Z C hc hs hZ H locs ls hH hS hL
  exact lv_tableIn C.1 C.2.1 hd h1 h2 ho ht (h p e R s m args below meth c cells slots Z C hc hs hZ H locs ls hH hS hL)
theorem g_tableOut {dflt lo hi : Int} {offs : Array Int} {len : Nat} {x : Int32} {tgt : Nat} (hd : decode (m_c M) pc = .ok (.tableswitch dflt lo hi offs, len)) (h1 : x.toInt < lo ∨ hi < x.toInt) (ht : (pc : Int) + dflt = (tgt : Int)) (h : Gp w k bc bs M Q (tgt) L (st) u) : Gp w k bc bs M Q pc L (.int x :: st) u := by
  intro p e R s m args below meth c cells slots Z C hc hs hZ H locs ls hH hS hL
  exact lv_tableOut C.1 C.2.1 hd h1 ht (h p e R s m args below meth c cells slots Z C hc hs hZ H locs ls hH hS hL)
theorem g_lookup {dflt : Int} {ps : Array (Int × Int)} {len : Nat} {x : Int32} {off : Int} {tgt : Nat} (hd : decode (m_c M) pc = .ok (.lookupswitch dflt ps, len)) (hp : (ps.toList.zip (ps.toList.drop 1)).all (fun (a, next) => a.1 < next.1) = true) (ho : Op.lookupswitch.offset ps.toList dflt x.toInt = off) (ht : (pc : Int) + off = (tgt : Int)) (h : Gp w k bc bs M Q (tgt) L (st) u) : Gp w k bc bs M Q pc L (.int x :: st) u := by
  intro p e R s m args below meth c cells slots Z C hc hs hZ H locs ls hH hS hL
  exact lv_lookup C.1 C.2.1 hd hp ho ht (h p e R s m args below meth c cells slots Z C hc hs hZ H locs ls hH hS hL)
theorem g_iret {x : Int32} {ty : FieldType} (hr : m_r M = some ty) (hn : narrow ty (.int x) = .int x) (hd : decode (m_c M) pc = .ok (.ireturn, 1)) (h : Q (some (.int x)) u) : Gp w k 0 0 M Q pc L [.int x] u := by
  intro p e R s m args below meth c cells slots Z C hc hs hZ H locs ls hH hS hL
  exact hZ (some (.int x)) u H locs pc ls .ireturn (Or.inr (Or.inl ⟨x, ty, rfl, hr, hn, rfl⟩)) hd h hH hS
theorem g_aret {x : Nat} {ty : FieldType} (hr : m_r M = some ty) (hn : (∃ n, ty = .object n) ∨ ∃ t, ty = .array t) (hd : decode (m_c M) pc = .ok (.areturn, 1)) (h : Q (some (.ref x)) u) : Gp w k 0 0 M Q pc L [.ref x] u := by
  intro p e R s m args below meth c cells slots Z C hc hs hZ H locs ls hH hS hL
  exact hZ (some (.ref x)) u H locs pc ls .areturn (Or.inr (Or.inr ⟨x, ty, rfl, hr, hn, rfl⟩)) hd h hH hS
theorem g_vret (hr : m_r M = none) (hd : decode (m_c M) pc = .ok (.return_, 1)) (h : Q none u) : Gp w k 0 0 M Q pc L [] u := by
  intro p e R s m args below meth c cells slots Z C hc hs hZ H locs ls hH hS hL
  exact hZ none u H locs pc ls .return_ (Or.inl ⟨rfl, hr, rfl⟩) hd h hH hS
theorem Gp.mono {k' : Nat} (hk : k' ≤ k) (h : Gp w k' bc bs M Q pc L st u) : Gp w k bc bs M Q pc L st u := by
  intro p e R s m args below meth c cells slots Z C hc hs hZ H locs ls hH hS hL
  obtain ⟨c1, c2, c3, c4, c5, c6, c7, c8, c9, c10, c11⟩ := C
  exact h p e R s m args below meth c cells slots Z ⟨c1, c2, c3, c4, c5, c6, c7, c8, c9, by omega, by omega⟩ hc hs hZ H locs ls hH hS hL
theorem Gp.imp {Q' : Option Value → Mu → Prop} (hq : ∀ r v, Q' r v → Q r v) (h : Gp w k bc bs M Q' pc L st u) : Gp w k bc bs M Q pc L st u := by
  intro p e R s m args below meth c cells slots Z C hc hs hZ H locs ls hH hS hL
  exact h p e R s m args below meth c cells slots Z C hc hs (fun r u' H' locs' pc' ls' i a1 a2 a3 a4 a5 => hZ r u' H' locs' pc' ls' i a1 a2 (hq r u' a3) a4 a5) H locs ls hH hS hL
theorem Gp.more {bc' bs' : Nat} (h1 : bc' ≤ bc) (h2 : bs' ≤ bs) (h : Gp w k bc' bs' M Q pc L st u) : Gp w k bc bs M Q pc L st u := by
  intro p e R s m args below meth c cells slots Z C hc hs hZ H locs ls hH hS hL
  exact h p e R s m args below meth c cells slots Z C (by omega) (by omega) (fun r u' H' locs' pc' ls' i a1 a2 a3 a4 a5 => W.widen (by omega) (by omega) (hZ r u' H' locs' pc' ls' i a1 a2 a3 a4 a5)) H locs ls hH hS hL
end G1
end
section
/-! rows that read and write the memory -/
def Um (u : Mu) (a k : Nat) (v : Value) : Mu := (u.1, u.2.1, fun b j => if b = a ∧ j = k then v else u.2.2 b j)
theorem ad_lt {w : Wt} {u : Mu} {H : Heap} (h : Hd w u H) {a : Nat} (ha : a < u.1) : ad w a = w_b w + a := by
  unfold ad
  rw [if_pos (by have := h.2.1; omega)]
theorem cv_lt {w : Wt} {u : Mu} {H : Heap} (h : Hd w u H) {a : Nat} (ha : a < u.1) : cv w (.ref a) = .ref (w_b w + a) := by
  show Value.ref (ad w a) = _
  rw [ad_lt h ha]
theorem cok.kept {w : Wt} {t n a : Nat} {f : Nat → Value} {H H' : Heap} (h : cok w t n f a H) (hq : H'[a]? = H[a]?) : cok w t n f a H' :=
  ⟨fun ht => ⟨(h.1 ht).1, (h.1 ht).2.kept hq⟩, fun ht => by rw [hq]; exact h.2 ht⟩
theorem Hd.put {w : Wt} {u : Mu} {H H' : Heap} (h : Hd w u H) {a k : Nat} {v : Value} (hz : H'.size = H.size) (oq : ∀ q : Nat, q ≠ w_b w + a → H'[q]? = H[q]?) (hc : cok w (u.2.1 a).1 (u.2.1 a).2 (fun j => if j = k then v else u.2.2 a j) (w_b w + a) H') : Hd w (Um u a k v) H' := by
  refine ⟨by rw [hz]; exact h.1, h.2.1, fun id hid => ?_⟩
  by_cases e : id = a
  · subst e
    have e2 : (Um u id k v).2.2 id = fun j => if j = k then v else u.2.2 id j := by funext j; simp [Um]
    rw [e2]
    exact hc
  · have e2 : (Um u a k v).2.2 id = u.2.2 id := by funext j; simp [Um, e]
    rw [e2]
    exact (h.2.2 id hid).kept (oq _ (by omega))
/-- the classes' rows -/
def CF (t : Nat) : Prop := ∃ (C : String) (T : u_T) (N : Nat) (ty : Nat → FieldType), vwCl[t]? = some (C, T, N) ∧ (∀ x ∈ u_ws C T N, x ∈ tbG) ∧ (∀ k, k < N → parseFieldDescriptor (T k).2.2.1 = some (ty k)) ∧ (∀ a, a < N → ∀ b, b < N → a ≠ b → (T a).2.1 ≠ (T b).2.1) ∧ ∀ k, k < N → (T k).1 = C
theorem cf0 : CF 0 := ⟨RX0, TX0, 3, tyX0, rfl, by decide +kernel, tyX0_ok, nmX0, by decide +kernel⟩
theorem cf1 : CF 1 := ⟨RX1, TX1, 5, tyX1, rfl, by decide +kernel, tyX1_ok, nmX1, by decide +kernel⟩
theorem cf2 : CF 2 := ⟨RX2, TX2, 12, tyX2, rfl, by decide +kernel, tyX2_ok, nmX2, by decide +kernel⟩
theorem cf3 : CF 3 := ⟨RX3, TX3, 12, tyX3, rfl, by decide +kernel, tyX3_ok, nmX3, by decide +kernel⟩
theorem cf4 : CF 4 := ⟨RX4, TX4, 3, tyX4, rfl, by decide +kernel, tyX4_ok, nmX4, by decide +kernel⟩
theorem cf5 : CF 5 := ⟨RX5, TX5, 4, tyX5, rfl, by decide +kernel, tyX5_ok, nmX5, by decide +kernel⟩
theorem cf6 : CF 6 := ⟨RX6, TX6, 6, tyX6, rfl, by decide +kernel, tyX6_ok, nmX6, by decide +kernel⟩
theorem cf7 : CF 7 := ⟨RX7, TX7, 10, tyX7, rfl, by decide +kernel, tyX7_ok, nmX7, by decide +kernel⟩
theorem cf8 : CF 8 := ⟨RX8, TX8, 33, tyX8, rfl, by decide +kernel, tyX8_ok, nmX8, by decide +kernel⟩
theorem cfs (t : Nat) (h : t < 9) : CF t := by
  match t, h with
  | 0, _ => exact cf0
  | 1, _ => exact cf1
  | 2, _ => exact cf2
  | 3, _ => exact cf3
  | 4, _ => exact cf4
  | 5, _ => exact cf5
  | 6, _ => exact cf6
  | 7, _ => exact cf7
  | 8, _ => exact cf8
  | t + 9, h => exact absurd h (by omega)
/-- a field by its entry in a class's pool: class t's slot kf -/
def FO (own : String) (idx t kf : Nat) : Prop := t < 9 ∧ ∀ C T N, vwCl[t]? = some (C, T, N) → kf < N ∧ Cond.fieldLink own idx C (T kf).2.1 (T kf).2.2.1 ∈ tbG
/-- the same, of a field that isn't final, of type ty -/
def FP (own : String) (idx t kf : Nat) (ty : FieldType) : Prop := FO own idx t kf ∧ ∀ C T N, vwCl[t]? = some (C, T, N) → (T kf).2.2.2 = false ∧ parseFieldDescriptor (T kf).2.2.1 = some ty
/-- the same, of a final one -/
def FF (own : String) (idx t kf : Nat) (ty : FieldType) : Prop := FO own idx t kf ∧ ∀ C T N, vwCl[t]? = some (C, T, N) → (T kf).2.2.2 = true ∧ parseFieldDescriptor (T kf).2.2.1 = some ty ∧ C = own
section G2
variable {w : Wt} {k bc bs : Nat} {M : Mt} {Q : Option Value → Mu → Prop} {pc : Nat} {L : List (Option Value)} {st : List Value} {u : Mu}
theorem g_get {t kf idx a : Nat} (hd : decode (m_c M) pc = .ok (.getfield idx, 3)) (hf : FO (m_y M).cls idx t kf) (ha : a < u.1) (hkd : (u.2.1 a).1 = t) (h : Gp w k bc bs M Q (pc + 3) L (u.2.2 a kf :: st) u) : Gp w k bc bs M Q pc L (.ref a :: st) u := by
  intro p e R s m args below meth c cells slots Z X hc hs hZ H locs ls hH hS hL
  have hco := hH.2.2 a ha
  obtain ⟨ht9, hf⟩ := hf
  obtain ⟨C, T, N, ty, hcl, hin, hty, hnm, hT⟩ := cfs t ht9
  obtain ⟨hk, hl⟩ := hf C T N hcl
  obtain ⟨⟨r, hr, hrn⟩, cell, q1, q2, q3, q4⟩ := hco.1 (by omega)
  rw [hkd] at hr
  cases hcl.symm.trans hr
  obtain ⟨hSl, hfc, kC, hkC, hkind⟩ := X.kw.1.1 t _ hcl
  obtain ⟨cf, kf', fi, f, hi, hsl⟩ := hSl kf hk
  show W p (w_l w) e R s m args below meth c H locs cells slots Z (F0 m pc ls (cv w (.ref a) :: st.map (cv w)))
  rw [cv_lt hH ha]
  refine W.getf X.1 X.2.1 X.own (X.ts _ hl) (by rw [← hT kf hk]; exact hi) (u_facts hfc hkC (u_lays X.ts hin hk) hi).1 q1 (by rw [q3]; exact fun h => by cases h) (v := cv w (u.2.2 a kf)) ?_ rfl rfl hd (h p e R s m args below meth c cells slots Z X hc hs hZ H locs ls hH hS hL)
  rw [hsl]
  have := q4 kf (by rw [← hrn]; exact hk)
  rw [hkd] at this
  exact this
theorem g_put {t kf idx a : Nat} {v : Value} {ty : FieldType} (hd : decode (m_c M) pc = .ok (.putfield idx, 3)) (hf : FP (m_y M).cls idx t kf ty) (ha : a < u.1) (hkd : (u.2.1 a).1 = t) (hn : narrow ty (cv w v) = cv w v) (hfit : fits ty (cv w v) = true) (h : Gp w k bc bs M Q (pc + 3) L st (Um u a kf v)) : Gp w k bc bs M Q pc L (v :: .ref a :: st) u := by
  intro p e R s m args below meth c cells slots Z X hc hs hZ H locs ls hH hS hL
  have hco := hH.2.2 a ha
  obtain ⟨⟨ht9, hf⟩, hf2⟩ := hf
  obtain ⟨C, T, N, ty0, hcl, hin, hty, hnm, hT⟩ := cfs t ht9
  obtain ⟨hk, hl⟩ := hf C T N hcl
  obtain ⟨hfin, hpd⟩ := hf2 C T N hcl
  obtain ⟨⟨r, hr, hrn⟩, cell, q1, q2, q3, q4⟩ := hco.1 (by omega)
  rw [hkd] at hr
  cases hcl.symm.trans hr
  have hap := va_apart (own := C) X.ts hin ty0 hty hnm X.kw.1 hcl
  obtain ⟨hSl, hfc, kC, hkC, hkind⟩ := X.kw.1.1 t _ hcl
  obtain ⟨cf, kf', fi, f, hi, hsl⟩ := hSl kf hk
  have hlay := X.ts _ (hin _ (u_in_lay hk))
  unfold u_lay at hlay
  rw [if_neg (by rw [hfin]; decide)] at hlay
  have hst := (u_facts hfc hkC (u_lays X.ts hin hk) hi).1
  have h6 := u_store hfc hkC hkind hlay hi hpd hn hfit
  have hrn' : N = (u.2.1 a).2 := hrn
  rw [hkd] at q2 q4
  show W p (w_l w) e R s m args below meth c H locs cells slots Z (F0 m pc ls (cv w v :: cv w (.ref a) :: st.map (cv w)))
  rw [cv_lt hH ha]
  refine W.putK X.1 X.2.1 (f := f) ⟨X.own, X.ts _ hl, ⟨_, _, _, by rw [← hT kf hk]; exact hi⟩, hst⟩ (by rw [q2]; exact h6) q1 q3 (by rw [hsl]; exact k2_hasslot (q4 kf (by omega))) rfl rfl hd fun H' e1 e2 e3 => ?_
  rw [hsl] at e1
  refine h p e R s m args below meth c cells slots Z X hc hs hZ H' _ ls (hH.put e2 e3 ⟨fun _ => ⟨⟨_, by rw [hkd]; exact hcl, hrn⟩, ?_⟩, fun h10 => by omega⟩) (hS.put e2 e3 (by show w_b w ≤ _; omega)) hL
  rw [hkd]
  refine t_OB.to (V := updV (fun j => cv w (u.2.2 a j)) kf (cv w v)) ⟨_, e1, q2, q3, t_set q4 (fun x y hx hy => hap x y (by omega) (by omega)) (by omega) (cv w v)⟩ (fun j _ => ?_)
  unfold updV
  by_cases hj : j = kf <;> simp [hj]
theorem g_putF {t kf idx a : Nat} {v : Value} {ty : FieldType} (hd : decode (m_c M) pc = .ok (.putfield idx, 3)) (hf : FF (m_y M).cls idx t kf ty) (hini : (m_y M).name = "<init>") (ha : a < u.1) (hkd : (u.2.1 a).1 = t) (hn : narrow ty (cv w v) = cv w v) (hfit : fits ty (cv w v) = true) (h : Gp w k bc bs M Q (pc + 3) L st (Um u a kf v)) : Gp w k bc bs M Q pc L (v :: .ref a :: st) u := by
  intro p e R s m args below meth c cells slots Z X hc hs hZ H locs ls hH hS hL
  have hco := hH.2.2 a ha
  obtain ⟨⟨ht9, hf⟩, hf2⟩ := hf
  obtain ⟨C, T, N, ty0, hcl, hin, hty, hnm, hT⟩ := cfs t ht9
  obtain ⟨hk, hl⟩ := hf C T N hcl
  obtain ⟨hfin, hpd, hCo⟩ := hf2 C T N hcl
  obtain ⟨⟨r, hr, hrn⟩, cell, q1, q2, q3, q4⟩ := hco.1 (by omega)
  rw [hkd] at hr
  cases hcl.symm.trans hr
  have hap := va_apart (own := C) X.ts hin ty0 hty hnm X.kw.1 hcl
  obtain ⟨hSl, hfc, kC, hkC, hkind⟩ := X.kw.1.1 t _ hcl
  obtain ⟨cf, kf', fi, f, hi, hsl⟩ := hSl kf hk
  have hlay := X.ts _ (hin _ (u_in_lay hk))
  unfold u_lay at hlay
  rw [if_pos hfin] at hlay
  have hst := (u_facts hfc hkC (u_lays X.ts hin hk) hi).1
  have hcf : m.cls = cf := by
    obtain ⟨_, _, c', _, _, _, -, -, hf', -, -, -, hown2, -⟩ := Cond.laysFinal_spec hlay
    have e1 : c' = cf := by have := hi.symm.trans hf'; simp at this; exact this.1.symm
    rw [hT kf hk, hCo] at hown2
    rw [← e1]; exact Option.some.inj (X.own.symm.trans hown2)
  have h6 := u_fits hfc hkC hkind (Or.inr hlay) hi hpd hn hfit
  have hrn' : N = (u.2.1 a).2 := hrn
  rw [hkd] at q2 q4
  show W p (w_l w) e R s m args below meth c H locs cells slots Z (F0 m pc ls (cv w v :: cv w (.ref a) :: st.map (cv w)))
  rw [cv_lt hH ha]
  refine W.putFinK X.1 X.2.1 X.own (X.ts _ hl) (by rw [← hT kf hk]; exact hi) hst hcf (by rw [← hini]; exact X.2.2.2.2.2.2.1) (by rw [q2]; exact h6) q1 q3 (by rw [hsl]; exact k2_hasslot (q4 kf (by omega))) rfl rfl hd fun H' e1 e2 e3 => ?_
  rw [hsl] at e1
  refine h p e R s m args below meth c cells slots Z X hc hs hZ H' _ ls (hH.put e2 e3 ⟨fun _ => ⟨⟨_, by rw [hkd]; exact hcl, hrn⟩, ?_⟩, fun h10 => by omega⟩) (hS.put e2 e3 (by show w_b w ≤ _; omega)) hL
  rw [hkd]
  refine t_OB.to (V := updV (fun j => cv w (u.2.2 a j)) kf (cv w v)) ⟨_, e1, q2, q3, t_set q4 (fun x y hx hy => hap x y (by omega) (by omega)) (by omega) (cv w v)⟩ (fun j _ => ?_)
  unfold updV
  by_cases hj : j = kf <;> simp [hj]
/-- the rows' classes -/
theorem Kw.ar {s : State} (h : Kw w s) (i : Nat) {q : ClassId × FieldType} (hi : (atys w)[i]? = some q) : ArrOfT s q.1 q.2 ∧ va_RA s q.1 q.2 := h.1.2 i q hi
theorem at_row {a t n : Nat} {H : Heap} (hH : Hd w u H) (ha : a < u.1) (hkd : u.2.1 a = (t, n)) (ht : 10 ≤ t) : H[w_b w + a]? = some (arrV (w_c w t) n (fun j => cv w (u.2.2 a j))) := by
  have := (hH.2.2 a ha).2 (by rw [hkd]; exact ht)
  rw [hkd] at this
  exact this
theorem g_iald {a n : Nat} {i : Int32} (hd : decode (m_c M) pc = .ok (.iaload, 1)) (ha : a < u.1) (hkd : u.2.1 a = (10, n)) (hi : vp_in i n) (h : Gp w k bc bs M Q (pc + 1) L (u.2.2 a i.toNatClampNeg :: st) u) : Gp w k bc bs M Q pc L (.int i :: .ref a :: st) u := by
  intro p e R s m args below meth c cells slots Z X hc hs hZ H locs ls hH hS hL
  show W p (w_l w) e R s m args below meth c H locs cells slots Z (F0 m pc ls (.int i :: cv w (.ref a) :: st.map (cv w)))
  rw [cv_lt hH ha]
  have hlt : i.toNatClampNeg < n := Nat.not_le.mp fun q => hi (Or.inr q)
  exact W.iald (v := cv w (u.2.2 a i.toNatClampNeg)) X.1 X.2.1 (at_row hH ha hkd (by omega)) ((X.kw.ar 0 rfl).1 n _) (fun q => by cases q) (by rw [arrV_size]; exact hi) (by rw [arrV_read _ _ hlt]) rfl rfl hd (h p e R s m args below meth c cells slots Z X hc hs hZ H locs ls hH hS hL)
theorem g_cald {a n : Nat} {i : Int32} (hd : decode (m_c M) pc = .ok (.caload, 1)) (ha : a < u.1) (hkd : u.2.1 a = (11, n)) (hi : vp_in i n) (h : Gp w k bc bs M Q (pc + 1) L (u.2.2 a i.toNatClampNeg :: st) u) : Gp w k bc bs M Q pc L (.int i :: .ref a :: st) u := by
  intro p e R s m args below meth c cells slots Z X hc hs hZ H locs ls hH hS hL
  show W p (w_l w) e R s m args below meth c H locs cells slots Z (F0 m pc ls (.int i :: cv w (.ref a) :: st.map (cv w)))
  rw [cv_lt hH ha]
  have hlt : i.toNatClampNeg < n := Nat.not_le.mp fun q => hi (Or.inr q)
  exact W.cald (v := cv w (u.2.2 a i.toNatClampNeg)) X.1 X.2.1 (at_row hH ha hkd (by omega)) ((X.kw.ar 1 rfl).1 n _) (fun q => by cases q) (by rw [arrV_size]; exact hi) (by rw [arrV_read _ _ hlt]) rfl rfl hd (h p e R s m args below meth c cells slots Z X hc hs hZ H locs ls hH hS hL)
theorem g_zald {a n : Nat} {i : Int32} (hd : decode (m_c M) pc = .ok (.baload, 1)) (ha : a < u.1) (hkd : u.2.1 a = (12, n)) (hi : vp_in i n) (h : Gp w k bc bs M Q (pc + 1) L (u.2.2 a i.toNatClampNeg :: st) u) : Gp w k bc bs M Q pc L (.int i :: .ref a :: st) u := by
  intro p e R s m args below meth c cells slots Z X hc hs hZ H locs ls hH hS hL
  show W p (w_l w) e R s m args below meth c H locs cells slots Z (F0 m pc ls (.int i :: cv w (.ref a) :: st.map (cv w)))
  rw [cv_lt hH ha]
  have hlt : i.toNatClampNeg < n := Nat.not_le.mp fun q => hi (Or.inr q)
  exact W.zald (v := cv w (u.2.2 a i.toNatClampNeg)) X.1 X.2.1 (at_row hH ha hkd (by omega)) ((X.kw.ar 2 rfl).1 n _) (fun q => by cases q) (by rw [arrV_size]; exact hi) (by rw [arrV_read _ _ hlt]) rfl rfl hd (h p e R s m args below meth c cells slots Z X hc hs hZ H locs ls hH hS hL)
theorem g_aald {a t n : Nat} {i : Int32} (hd : decode (m_c M) pc = .ok (.aaload, 1)) (ha : a < u.1) (ht : 14 ≤ t ∧ t < 18) (hkd : u.2.1 a = (t, n)) (hi : vp_in i n) (h : Gp w k bc bs M Q (pc + 1) L (u.2.2 a i.toNatClampNeg :: st) u) : Gp w k bc bs M Q pc L (.int i :: .ref a :: st) u := by
  intro p e R s m args below meth c cells slots Z X hc hs hZ H locs ls hH hS hL
  show W p (w_l w) e R s m args below meth c H locs cells slots Z (F0 m pc ls (.int i :: cv w (.ref a) :: st.map (cv w)))
  rw [cv_lt hH ha]
  have hlt : i.toNatClampNeg < n := Nat.not_le.mp fun q => hi (Or.inr q)
  have har : ∃ C, ArrOfT s (w_c w t) (.object C) := by
    rcases (show t = 14 ∨ t = 15 ∨ t = 16 ∨ t = 17 by omega) with rfl | rfl | rfl | rfl
    · exact ⟨_, (X.kw.ar 3 rfl).1⟩
    · exact ⟨_, (X.kw.ar 4 rfl).1⟩
    · exact ⟨_, (X.kw.ar 5 rfl).1⟩
    · exact ⟨_, (X.kw.ar 6 rfl).1⟩
  obtain ⟨C, har⟩ := har
  exact W.aald (v := cv w (u.2.2 a i.toNatClampNeg)) X.1 X.2.1 (at_row hH ha hkd (by omega)) (har n _) rfl (fun q => by cases q) (by rw [arrV_size]; exact hi) (by rw [arrV_read _ _ hlt]) rfl rfl hd (h p e R s m args below meth c cells slots Z X hc hs hZ H locs ls hH hS hL)
theorem Hd.ast {a t n j : Nat} {v : Value} {H H' : Heap} (hH : Hd w u H) (ha : a < u.1) (hkd : u.2.1 a = (t, n)) (ht : 10 ≤ t) (e1 : H'[w_b w + a]? = some ((arrV (w_c w t) n (fun j => cv w (u.2.2 a j))).setSlot j (cv w v))) (e2 : H'.size = H.size) (e3 : ∀ q : Nat, q ≠ w_b w + a → H'[q]? = H[q]?) : Hd w (Um u a j v) H' := by
  refine hH.put e2 e3 ⟨fun h => by rw [hkd] at h; simp at h; omega, fun _ => ?_⟩
  rw [e1, arrV_store, hkd]
  congr 2
  funext q
  unfold updV
  by_cases hq : q = j <;> simp [hq]
theorem g_iast {a n : Nat} {i x : Int32} (hd : decode (m_c M) pc = .ok (.iastore, 1)) (ha : a < u.1) (hkd : u.2.1 a = (10, n)) (hi : vp_in i n) (h : Gp w k bc bs M Q (pc + 1) L st (Um u a i.toNatClampNeg (.int x))) : Gp w k bc bs M Q pc L (.int x :: .int i :: .ref a :: st) u := by
  intro p e R s m args below meth c cells slots Z X hc hs hZ H locs ls hH hS hL
  show W p (w_l w) e R s m args below meth c H locs cells slots Z (F0 m pc ls (.int x :: .int i :: cv w (.ref a) :: st.map (cv w)))
  rw [cv_lt hH ha]
  refine W.iast X.1 X.2.1 (at_row hH ha hkd (by omega)) ((X.kw.ar 0 rfl).1 n _) (fun q => by cases q) (by rw [arrV_size]; exact hi) rfl rfl hd fun H' e1 e2 e3 => ?_
  exact h p e R s m args below meth c cells slots Z X hc hs hZ H' _ ls (hH.ast (v := .int x) ha hkd (by omega) e1 e2 e3) (hS.put e2 e3 (by show w_b w ≤ _; omega)) hL
theorem g_cast {a n : Nat} {i x : Int32} (hd : decode (m_c M) pc = .ok (.castore, 1)) (ha : a < u.1) (hkd : u.2.1 a = (11, n)) (hi : vp_in i n) (hx : narrow .char (.int x) = .int x) (h : Gp w k bc bs M Q (pc + 1) L st (Um u a i.toNatClampNeg (.int x))) : Gp w k bc bs M Q pc L (.int x :: .int i :: .ref a :: st) u := by
  intro p e R s m args below meth c cells slots Z X hc hs hZ H locs ls hH hS hL
  show W p (w_l w) e R s m args below meth c H locs cells slots Z (F0 m pc ls (.int x :: .int i :: cv w (.ref a) :: st.map (cv w)))
  rw [cv_lt hH ha]
  refine W.cast X.1 X.2.1 (at_row hH ha hkd (by omega)) ((X.kw.ar 1 rfl).1 n _) (fun q => by cases q) (by rw [arrV_size]; exact hi) rfl rfl hd fun H' e1 e2 e3 => ?_
  rw [hx] at e1
  exact h p e R s m args below meth c cells slots Z X hc hs hZ H' _ ls (hH.ast (v := .int x) ha hkd (by omega) e1 e2 e3) (hS.put e2 e3 (by show w_b w ≤ _; omega)) hL
theorem g_zast {a n : Nat} {i x : Int32} (hd : decode (m_c M) pc = .ok (.bastore, 1)) (ha : a < u.1) (hkd : u.2.1 a = (12, n)) (hi : vp_in i n) (hx : narrow .boolean (.int x) = .int x) (h : Gp w k bc bs M Q (pc + 1) L st (Um u a i.toNatClampNeg (.int x))) : Gp w k bc bs M Q pc L (.int x :: .int i :: .ref a :: st) u := by
  intro p e R s m args below meth c cells slots Z X hc hs hZ H locs ls hH hS hL
  show W p (w_l w) e R s m args below meth c H locs cells slots Z (F0 m pc ls (.int x :: .int i :: cv w (.ref a) :: st.map (cv w)))
  rw [cv_lt hH ha]
  refine W.zast X.1 X.2.1 (at_row hH ha hkd (by omega)) ((X.kw.ar 2 rfl).1 n _) (fun q => by cases q) (by rw [arrV_size]; exact hi) rfl rfl hd fun H' e1 e2 e3 => ?_
  rw [hx] at e1
  exact h p e R s m args below meth c cells slots Z X hc hs hZ H' _ ls (hH.ast (v := .int x) ha hkd (by omega) e1 e2 e3) (hS.put e2 e3 (by show w_b w ≤ _; omega)) hL
end G2
end
section
/-! calls -/
def eL (n : Nat) (as : List Value) : List (Option Value) := as.map some ++ List.replicate (n - as.length) none
def rmk (k bc bs : Nat) : Room := { frames := k, cells := bc, slots := bs, locals := 64 * k }
def Qcc (w : Wt) (Q : Option Value → Mu → Prop) : State → Outcome → State → Prop := fun st oc t => ∃ (r : Option Value) (u : Mu), oc = .returned (r.map (cv w)) ∧ Q r u ∧ Hd w u t.heap ∧ va_F (Aw w) st t
/-- what the tables say of a method -/
def MW (M : Mt) (np : Nat) : Prop := Cond.code (m_y M) (m_c M) (m_n M) (m_r M) ∈ tbG ∧ Cond.initialized (m_y M).cls ∈ tbG ∧ plainName (m_y M).cls = true ∧ ((m_y M).cls ≠ "java/lang/invoke/MethodHandle" ∧ (m_y M).cls ≠ "java/lang/invoke/VarHandle" ∧ (parseMethodDescriptor (m_y M).desc).map (fun d => d.parameters.length) = some np) ∧ m_n M ≤ 40
theorem pr_none (w : Wt) : ∀ (n i : Nat), pr w i (List.replicate n none) = [] := by
  intro n
  induction n with
  | zero => intro i; rfl
  | succ n ih => intro i; rw [List.replicate_succ, pr]; exact ih (i + 1)
theorem pr_eL (w : Wt) (n : Nat) : ∀ (as : List Value) (i : Nat), (∀ v ∈ as, v.category = 1) → pr w i (as.map some ++ List.replicate n none) = lv_args i (as.map (cv w)) := by
  intro as
  induction as with
  | nil => intro i _; exact pr_none w n i
  | cons v t ih =>
    intro i h
    have h1 : v.category = 1 := h v List.mem_cons_self
    rw [List.map_cons, List.cons_append, pr, ih (i + 1) (fun x hx => h x (List.mem_cons_of_mem _ hx)), List.map_cons, lv_args]
    simp [cv_cat, h1]
theorem lgsl_len (w : Wt) : ∀ (as : List Value), (∀ v ∈ as, v.category = 1) → (lg_sl (as.map (cv w))).length = as.length := by
  intro as
  induction as with
  | nil => intro _; rfl
  | cons v t ih =>
    intro h
    have h1 : v.category = 1 := h v List.mem_cons_self
    have h2 := ih (fun x hx => h x (List.mem_cons_of_mem _ hx))
    unfold lg_sl at h2 ⊢
    rw [List.map_cons, List.flatMap_cons, List.length_append, h2]
    simp [cv_cat, h1]
    omega
theorem eL_cat {n : Nat} {as : List Value} (h : ∀ v ∈ as, v.category = 1) : ∀ (j : Nat) (v : Value), (eL n as)[j]? = some (some v) → v.category = 1 := by
  intro j v hj
  have hm := List.mem_of_getElem? hj
  unfold eL at hm
  rcases List.mem_append.mp hm with h1 | h1
  · obtain ⟨x, hx, e⟩ := List.mem_map.mp h1
    cases e
    exact h v hx
  · have := List.eq_of_mem_replicate h1
    cases this
theorem Kw.blind {w : Wt} {U : State} {g : JFrame} {mk : MethodId} {a : Array Value} (h : Kw w U) : Kw w (U.calling g mk a) := Kw.go (s := U) (U := U.calling g mk a) (locs := []) (State.WarmedH.refl U) va_S.rf h
set_option maxHeartbeats 4000000 in
theorem met_of {w : Wt} {k bc bs np : Nat} {M : Mt} {Q : Option Value → Mu → Prop} {as : List Value} {u : Mu} (hM : MW M np) (hcat : ∀ v ∈ as, v.category = 1) (hlen : as.length ≤ m_n M) (h : Gp w k bc bs M Q 0 (eL (m_n M) as) [] u) :
    Met (w_l w) (m_y M) (Cond.code (m_y M) (m_c M) (m_n M) (m_r M) :: tbG) (rmk k bc bs) (va_Pc (as.map (cv w)) (fun U => Hd w u U.heap ∧ Kw w U)) (fun _ => Qcc w Q) bc bs (Aw w) := by
  refine Met.ofW (cc := m_c M) (maxL := m_n M) (ret := m_r M) hM.2.2.1 rfl ?_
  intro p e s m args below meth c s₁ B hml hv
  obtain ⟨rfl, hH, hK⟩ := hv
  have hts := atoms_spec (ws := Cond.code (m_y M) (m_c M) (m_n M) (m_r M) :: tbG) B.pre
  have hlocks := B.notSynchronized
  have hnm := (name_of_methodNamed B.named B.method).1
  have X : Cx w k M p (rmk k bc bs) s m (as.map (cv w)).toArray meth c := ⟨B.exec, B.bytes, hml, B.returns, hlocks, findClass_of_methodNamed B.named, hnm, fun t ht => hts t (List.mem_cons_of_mem _ ht), hK, Nat.le_refl _, Nat.le_refl _⟩
  have hl := lv_entry (as.map (cv w)) (n := m_n M) (by rw [lgsl_len w as hcat]; exact hlen)
  rw [lg_entry_eq]
  generalize (lg_sl (as.map (cv w)) ++ List.replicate (m_n M - (lg_sl (as.map (cv w))).length) Slot.unset).toArray = ls at hl ⊢
  have hL : Lh w (m_n M) (eL (m_n M) as) ls := ⟨by unfold eL; rw [pr_eL w _ as 0 hcat]; exact hl, eL_cat hcat⟩
  have K := h p e (rmk k bc bs) s m (as.map (cv w)).toArray below meth c 0 0 (MQ below (fun _ => Qcc w Q) (as.map (cv w)).toArray s bc bs (Aw w)) X (by rw [Nat.zero_add]; exact Nat.le_refl _) (by rw [Nat.zero_add]; exact Nat.le_refl _) ?_ s.heap [] ls hH va_S.rf hL
  · exact K
  · intro r u' H' locs' pc' ls' i hR hd hq hHd hS
    rw [Nat.zero_add, Nat.zero_add]
    have hqq : ∀ t : State, t.heap = H' → s.WarmedH t.vm → Qcc w Q s (.returned (r.map (cv w))) t := fun t ht _ => ⟨r, u', rfl, hq, by rw [ht]; exact hHd, hS.F ht⟩
    rcases hR with ⟨rfl, h1, rfl⟩ | ⟨x, ty, rfl, h1, h2, rfl⟩ | ⟨a, ty, rfl, h1, h2, rfl⟩
    · exact W.vret (Qc := fun _ => Qcc w Q) B.exec B.bytes (B.returns.trans h1) hqq hS.2.2 hd
    · exact W.zret (Qc := fun _ => Qcc w Q) B.exec B.bytes (B.returns.trans h1) h2 hqq hS.2.2 hd
    · exact W.aret (Qc := fun _ => Qcc w Q) (v := cv w (.ref a)) B.exec B.bytes (B.returns.trans h1) h2 (Or.inr ⟨_, rfl⟩) hqq hS.2.2 hd
section G3
variable {w : Wt} {k bc bs : Nat} {M : Mt} {Q : Option Value → Mu → Prop} {pc : Nat} {L : List (Option Value)} {st : List Value} {u : Mu}
theorem g_core {bc' bs' bc2 bs2 : Nat} {rest : List Value} {Q' : Option Value → Mu → Prop} (hbc : bc = bc' + bc2) (hbs : bs = bs' + bs2)
    (hrun : ∀ (p : Program) (e : Env) (R : Room) (s : State) (m : MethodId) (args : Array Value) (below : List Frame) (meth : Method) (c : Code) (cells slots : Nat), Cx w k M p R s m args meth c → cells + bc' ≤ R.cells → slots + bs' ≤ R.slots → ∀ (H : Heap) (locs : List Loc) (ls : Array Slot), Hd w u H → va_S (Aw w) s.heap H locs → Lh w (m_n M) L ls →
      va_Run p (w_l w) e R s m args below meth c H locs cells slots bc' bs' (F0 m pc ls (st.map (cv w))) (rest.map (cv w)) (Qcc w Q') (Aw w))
    (hC : ∀ r u', Q' r u' → Gp w k bc2 bs2 M Q (pc + 3) L (r.toList ++ rest) u') : Gp w k bc bs M Q pc L st u := by
  intro p e R s m args below meth c cells slots Z X hc hs hZ H locs ls hH hS hL
  subst hbc
  subst hbs
  intro T hT Y
  obtain ⟨v, st₀, t, T', Lc, h0, X', hLc, e1, e2, hq, gst⟩ := hrun p e R s m args below meth c cells slots X (by omega) (by omega) H locs ls hH hS hL T hT Y
  obtain ⟨r, u', ev, hq', hHd', hF⟩ := hq
  have ev' : v = r.map (cv w) := Outcome.returned.inj ev
  subst ev'
  obtain ⟨hz, hk⟩ := hF
  rw [h0] at hz hk
  have hS' : va_S (Aw w) s.heap T'.heap (locs ++ Lc) := ⟨Nat.le_trans hS.1 (by rw [e1]; exact hz), fun q h1 h2 => by rw [e1, hk q (Nat.lt_of_lt_of_le h1 hS.1) h2]; exact hS.2.1 q h1 h2, fun q hq => by
    rcases List.mem_append.mp hq with h | h
    · exact hS.2.2 q h
    · exact hLc q h⟩
  obtain ⟨t2, a1, b1⟩ := hC r u' hq' p e R s m args below meth c (cells + bc') (slots + bs') Z X (by omega) (by omega) (by
    have ea : cells + bc' + bc2 = cells + (bc' + bc2) := by omega
    have eb : slots + bs' + bs2 = slots + (bs' + bs2) := by omega
    rw [ea, eb]
    exact hZ) T'.heap (locs ++ Lc) ls (by rw [e1]; exact hHd') hS' hL T' rfl X'
  refine ⟨t2, gst t2 ?_, b1⟩
  have ef : (r.toList ++ rest).map (cv w) = (r.map (cv w)).toList ++ rest.map (cv w) := by cases r <;> simp
  rw [ef] at a1
  exact a1
/-- a call's start -/
theorem pre_of {as : List Value} {s : State} {H : Heap} {locs : List Loc} (hK : Kw w s) (hS : va_S (Aw w) s.heap H locs) (hH : Hd w u H) : FrameBlind (va_Pc (as.map (cv w)) (fun U => Hd w u U.heap ∧ Kw w U)) ∧ ∀ U : State, U.heap = H → s.WarmedH U.vm → va_Pc (as.map (cv w)) (fun U => Hd w u U.heap ∧ Kw w U) (as.map (cv w)).toArray U :=
  ⟨fun a U g mk h => ⟨h.1, h.2.1, h.2.2.blind⟩, fun U hU hW => ⟨rfl, by rw [hU]; exact hH, hK.go hW (by rw [hU]; exact hS)⟩⟩
theorem cat_sum {rest : List Value} (h : (rest.map fun v => v.category).sum ≤ 8) : ((rest.map (cv w)).map fun v => v.category).sum ≤ 8 := by
  have : ((rest.map (cv w)).map fun v => v.category) = rest.map fun v => v.category := by simp [cv_cat]
  rw [this]; exact h
def KS (own : String) (idx : Nat) (M' : Mt) (np : Nat) : Prop := MW M' np ∧ Cond.static (m_y M') ∈ tbG ∧ (Cond.methodLink own idx (m_y M') ∈ tbG ∨ ∃ host, ∀ s, Nt s → va_Nw (.methodLinkNest own idx (m_y M') host) s)
set_option maxHeartbeats 4000000 in
theorem g_callS {M' : Mt} {k' bc' bs' bc2 bs2 np idx : Nat} {rest : List Value} {Q' : Option Value → Mu → Prop} (as : List Value) (hd : decode (m_c M) pc = .ok (.invokestatic idx, 3)) (hw : KS (m_y M).cls idx M' np) (hbc : bc = bc' + bc2) (hbs : bs = bs' + bs2) (hn : as.length = np) (hcat : ∀ v ∈ as, v.category = 1) (hnl : np ≤ m_n M') (hst : st = as.reverse ++ rest) (hrest : (rest.map fun v => v.category).sum ≤ 8) (hk : k' + 1 ≤ k)
    (hO : Gp w k' bc' bs' M' Q' 0 (eL (m_n M') as) [] u) (hC : ∀ r u', Q' r u' → Gp w k bc2 bs2 M Q (pc + 3) L (r.toList ++ rest) u') : Gp w k bc bs M Q pc L st u := by
  refine g_core hbc hbs (fun p e R s m args below meth c cells slots X h1 h2 H locs ls hH hS hL => ?_) hC
  obtain ⟨hM, hstat, hlink⟩ := hw
  have hmet := met_of hM hcat (by omega) hO
  have hfr := X.2.2.2.2.2.2.2.2.2
  have hR : (rmk k' bc' bs').frames + 1 ≤ R.frames ∧ 8 + (m_n M' + 11) + (rmk k' bc' bs').locals ≤ R.locals := ⟨by show k' + 1 ≤ _; omega, by show 8 + (m_n M' + 11) + 64 * k' ≤ _; have := hM.2.2.2.2; omega⟩
  have hG : GoodIn tbG (Cond.code (m_y M') (m_c M') (m_n M') (m_r M') :: tbG) := fun x hx => (List.mem_cons.mp hx).elim (fun e => by rw [e]; exact tbG_good _ hM.1) (tbG_good x)
  subst hst
  rcases hlink with hl | ⟨host, hl⟩
  · exact va_runS (As := as.map (cv w)) (rest := rest.map (cv w)) ⟨X.1, X.2.1, X.2.2.1, X.own, X.ts⟩ hmet ⟨callB_of np X.ts hG rfl rfl rfl (X.ts _ hM.2.1) (X.ts _ hl) hM.2.2.2.1 hR, X.ts _ hstat⟩ (pre_of X.kw hS hH) rfl (by simp [hn]) hL.sz (by simp [F0]) (lv_room (cat_sum hrest)) hd ⟨h1, h2⟩
  · exact va_runSN (As := as.map (cv w)) (rest := rest.map (cv w)) ⟨X.1, X.2.1, X.2.2.1, X.own, X.ts⟩ hmet ⟨va_cnB np X.ts hG rfl rfl rfl (hl s X.kw.2.2.2) (X.ts _ hM.2.1) hM.2.2.2.1 hR, X.ts _ hstat, trivial⟩ (pre_of X.kw hS hH) rfl (by simp [hn]) hL.sz (by simp [F0]) (lv_room (cat_sum hrest)) hd ⟨h1, h2⟩
end G3
end
section
section G4
variable {w : Wt} {k bc bs : Nat} {M : Mt} {Q : Option Value → Mu → Prop} {pc : Nat} {L : List (Option Value)} {st : List Value} {u : Mu}
def KV (own : String) (idx : Nat) (M' : Mt) (t np : Nat) : Prop := MW M' np ∧ Cond.instanceMethod (m_y M') ∈ tbG ∧ Cond.selects (m_y M').cls (m_y M') (m_y M') ∈ tbG ∧ Cond.methodLink own idx (m_y M') ∈ tbG ∧ t < 9 ∧ ∃ T N, vwCl[t]? = some ((m_y M').cls, T, N)
/-- the object that a call goes to -/
theorem gp_recv {a t : Nat} {C : String} {T : u_T} {N : Nat} {s : State} {H : Heap} (hK : Kw w s) (hH : Hd w u H) (ha : a < u.1) (hkd : (u.2.1 a).1 = t) (ht : t < 9) (hC : vwCl[t]? = some (C, T, N)) : ∃ cell : Cell, H[ad w a]? = some cell ∧ cell.vm.isStatics = false ∧ s.vm.findClass C = some cell.cls := by
  obtain ⟨-, cell, q1, q2, q3, -⟩ := (hH.2.2 a ha).1 (by omega)
  rw [ad_lt hH ha]
  refine ⟨cell, q1, by rw [q3]; rfl, ?_⟩
  rw [q2, hkd]
  exact (hK.1.1 t _ hC).2.1
set_option maxHeartbeats 4000000 in
theorem g_callV {M' : Mt} {k' bc' bs' bc2 bs2 np idx a t : Nat} {rest : List Value} {Q' : Option Value → Mu → Prop} (as : List Value) (hd : decode (m_c M) pc = .ok (.invokevirtual idx, 3)) (hw : KV (m_y M).cls idx M' t np) (ha : a < u.1) (hkd : (u.2.1 a).1 = t) (hbc : bc = bc' + bc2) (hbs : bs = bs' + bs2) (hn : as.length = np) (hcat : ∀ v ∈ as, v.category = 1) (hnl : np + 1 ≤ m_n M') (hst : st = as.reverse ++ .ref a :: rest) (hrest : (rest.map fun v => v.category).sum ≤ 8) (hk : k' + 1 ≤ k)
    (hO : Gp w k' bc' bs' M' Q' 0 (eL (m_n M') (.ref a :: as)) [] u) (hC : ∀ r u', Q' r u' → Gp w k bc2 bs2 M Q (pc + 3) L (r.toList ++ rest) u') : Gp w k bc bs M Q pc L st u := by
  refine g_core hbc hbs (fun p e R s m args below meth c cells slots X h1 h2 H locs ls hH hS hL => ?_) hC
  obtain ⟨hM, hins, hsel, hl, ht9, T, N, hcl⟩ := hw
  have hcat' : ∀ v ∈ Value.ref a :: as, v.category = 1 := fun v hv => (List.mem_cons.mp hv).elim (fun e => by rw [e]; rfl) (hcat v)
  have hmet := met_of hM hcat' (by rw [List.length_cons]; omega) hO
  have hfr := X.2.2.2.2.2.2.2.2.2
  have hR : (rmk k' bc' bs').frames + 1 ≤ R.frames ∧ 8 + (m_n M' + 11) + (rmk k' bc' bs').locals ≤ R.locals := ⟨by show k' + 1 ≤ _; omega, by show 8 + (m_n M' + 11) + 64 * k' ≤ _; have := hM.2.2.2.2; omega⟩
  have hG : GoodIn tbG (Cond.code (m_y M') (m_c M') (m_n M') (m_r M') :: tbG) := fun x hx => (List.mem_cons.mp hx).elim (fun e => by rw [e]; exact tbG_good _ hM.1) (tbG_good x)
  subst hst
  have hp := pre_of (as := .ref a :: as) X.kw hS hH
  exact va_runV (b := ad w a) (C := (m_y M').cls) (As := as.map (cv w)) (rest := rest.map (cv w)) ⟨X.1, X.2.1, X.2.2.1, X.own, X.ts⟩ hmet ⟨callB_of np X.ts hG rfl rfl rfl (X.ts _ hM.2.1) (X.ts _ hl) hM.2.2.2.1 hR, X.ts _ hins, X.ts _ hsel⟩ ⟨hp.1, gp_recv X.kw hH ha hkd ht9 hcl, hp.2⟩ rfl (by simp [hn]) hL.sz (by simp [F0, cv]) (lv_room (cat_sum hrest)) hd ⟨h1, h2⟩
def KI (own : String) (idx : Nat) (M' : Mt) (np : Nat) : Prop := MW M' np ∧ Cond.instanceMethod (m_y M') ∈ tbG ∧ (m_y M').name = "<init>" ∧ m_r M' = none ∧ (Cond.methodLink own idx (m_y M') ∈ tbG ∨ ∃ host, ∀ s, Nt s → va_Nw (.methodLinkNest own idx (m_y M') host) s)
set_option maxHeartbeats 4000000 in
theorem g_callI {M' : Mt} {k' bc' bs' bc2 bs2 np idx a : Nat} {rest : List Value} {Q' : Option Value → Mu → Prop} (as : List Value) (hd : decode (m_c M) pc = .ok (.invokespecial idx, 3)) (hw : KI (m_y M).cls idx M' np) (hbc : bc = bc' + bc2) (hbs : bs = bs' + bs2) (hn : as.length = np) (hcat : ∀ v ∈ as, v.category = 1) (hnl : np + 1 ≤ m_n M') (hst : st = as.reverse ++ .ref a :: rest) (hrest : (rest.map fun v => v.category).sum ≤ 8) (hk : k' + 1 ≤ k)
    (hO : Gp w k' bc' bs' M' Q' 0 (eL (m_n M') (.ref a :: as)) [] u) (hC : ∀ r u', Q' r u' → Gp w k bc2 bs2 M Q (pc + 3) L (r.toList ++ rest) u') : Gp w k bc bs M Q pc L st u := by
  refine g_core hbc hbs (fun p e R s m args below meth c cells slots X h1 h2 H locs ls hH hS hL => ?_) hC
  obtain ⟨hM, hins, hini, hret, hlink⟩ := hw
  have hcat' : ∀ v ∈ Value.ref a :: as, v.category = 1 := fun v hv => (List.mem_cons.mp hv).elim (fun e => by rw [e]; rfl) (hcat v)
  have hmet := met_of hM hcat' (by rw [List.length_cons]; omega) hO
  have hfr := X.2.2.2.2.2.2.2.2.2
  have hR : (rmk k' bc' bs').frames + 1 ≤ R.frames ∧ 8 + (m_n M' + 11) + (rmk k' bc' bs').locals ≤ R.locals := ⟨by show k' + 1 ≤ _; omega, by show 8 + (m_n M' + 11) + 64 * k' ≤ _; have := hM.2.2.2.2; omega⟩
  have hG : GoodIn tbG (Cond.code (m_y M') (m_c M') (m_n M') (m_r M') :: tbG) := fun x hx => (List.mem_cons.mp hx).elim (fun e => by rw [e]; exact tbG_good _ hM.1) (tbG_good x)
  subst hst
  rw [hret] at hmet hG
  have hp := pre_of (as := .ref a :: as) X.kw hS hH
  rcases hlink with hl | ⟨host, hl⟩
  · exact va_runI (b := ad w a) (As := as.map (cv w)) (rest := rest.map (cv w)) ⟨X.1, X.2.1, X.2.2.1, X.own, X.ts⟩ hmet ⟨callB_of np X.ts hG rfl rfl rfl (X.ts _ hM.2.1) (X.ts _ hl) hM.2.2.2.1 hR, hini, X.ts _ hins⟩ ⟨hp.1, hp.2⟩ rfl (by simp [hn]) hL.sz (by simp [F0, cv]) (lv_room (cat_sum hrest)) hd ⟨h1, h2⟩
  · exact va_runIN (b := ad w a) (As := as.map (cv w)) (rest := rest.map (cv w)) ⟨X.1, X.2.1, X.2.2.1, X.own, X.ts⟩ hmet ⟨va_cnB np X.ts hG rfl rfl rfl (hl s X.kw.2.2.2) (X.ts _ hM.2.1) hM.2.2.2.1 hR, hini, X.ts _ hins⟩ ⟨hp.1, hp.2⟩ rfl (by simp [hn]) hL.sz (by simp [F0, cv]) (lv_room (cat_sum hrest)) hd ⟨h1, h2⟩
theorem g_objI {idx a : Nat} (hd : decode (m_c M) pc = .ok (.invokespecial idx, 3)) (hl : Cond.methodLink (m_y M).cls idx Lib.objectInit ∈ tbG) (hrest : (st.map fun v => v.category).sum ≤ 8) (hk : 1 ≤ k) (h : Gp w k bc bs M Q (pc + 3) L st u) : Gp w k bc bs M Q pc L (.ref a :: st) u := by
  intro p e R s m args below meth c cells slots Z X hc hs hZ H locs ls hH hS hL
  have hfr := X.2.2.2.2.2.2.2.2.2
  exact W.objInit X.1 X.2.1 X.own (X.ts _ hl) (X.ts _ (tbG_of 74 (by decide +kernel) (by decide +kernel))) (X.ts _ (tbG_of 75 (by decide +kernel) (by decide +kernel))) rfl (hL.sz.trans X.2.2.1.symm) (a := ad w a) (rest := st.map (cv w)) rfl hd (by omega) (by have := cat_sum (w := w) hrest; have e : (F0 m pc ls (List.map (cv w) (Value.ref a :: st))).monitorRoom = 0 := rfl; rw [e]; omega) (h p e R s m args below meth c cells slots Z X hc hs hZ H locs ls hH hS hL)
/-- new cells -/
def Un (u : Mu) (t n : Nat) (f : Nat → Value) : Mu := (u.1 + 1, fun b => if b = u.1 then (t, n) else u.2.1 b, fun b => if b = u.1 then f else u.2.2 b)
theorem Hd.new {t n : Nat} {f : Nat → Value} {H H' : Heap} (h : Hd w u H) (hu : u.1 < 1000) (hz : H'.size = H.size + 1) (oq : ∀ q : Nat, q < H.size → H'[q]? = H[q]?) (hc : cok w t n f (w_b w + u.1) H') : Hd w (Un u t n f) H' := by
  refine ⟨by rw [hz, h.1]; rfl, by show u.1 + 1 ≤ 1000; omega, fun id hid => ?_⟩
  have hid' : id < u.1 + 1 := hid
  by_cases e : id = u.1
  · subst e
    simpa [Un] using hc
  · have := (h.2.2 id (by omega)).kept (oq (w_b w + id) (by rw [h.1]; omega))
    simpa [Un, e] using this
theorem va_S.new {A : Nat → Prop} {H0 H H1 : Heap} {locs : List Loc} (h : va_S A H0 H locs) (z : H1.size = H.size + 1) (o : ∀ q : Nat, q < H.size → H1[q]? = H[q]?) : va_S A H0 H1 locs :=
  ⟨by have := h.1; omega, fun q h1 h2 => (o q (Nat.lt_of_lt_of_le h1 h.1)).trans (h.2.1 q h1 h2), h.2.2⟩
theorem cv_new {H : Heap} (hH : Hd w u H) (hu : u.1 < 1000) : Value.ref H.size = cv w (.ref u.1) := by
  show _ = Value.ref (ad w u.1)
  unfold ad
  rw [if_pos hu, hH.1]
def dfl (ty : FieldType) : Value := defaultValue ty
set_option maxHeartbeats 4000000 in
theorem g_new {t idx N : Nat} {C : String} {T : u_T} {f : Nat → Value} (hd : decode (m_c M) pc = .ok (.new idx, 3)) (ht : t < 9) (hcl : vwCl[t]? = some (C, T, N)) (h1 : Cond.classLink (m_y M).cls idx C ∈ tbG) (h2 : Cond.instantiable C N ∈ tbG) (h3 : Cond.initialized C ∈ tbG) (hf : ∀ j, j < N → ∃ ty, parseFieldDescriptor (T j).2.2.1 = some ty ∧ defaultValue ty = f j) (hfc : ∀ j, cv w (f j) = f j) (hu : u.1 < 1000) (h : Gp w k bc bs M Q (pc + 3) L (.ref u.1 :: st) (Un u t N f)) : Gp w k (bc + 1) (bs + N) M Q pc L st u := by
  intro p e R s m args below meth c cells slots Z X hc hs hZ H locs ls hH hS hL
  obtain ⟨C', T', N', ty0, hcl', hin, hty, hnm, hT⟩ := cfs t ht
  cases hcl.symm.trans hcl'
  have hKn := X.kw.1.1 t _ hcl
  refine W.newcK X.1 X.2.1 X.own (X.ts _ h1) (X.ts _ h2) (X.ts _ h3) rfl hd (by omega) (by omega) hKn.2.1 rfl fun H1 kC hkC e1 z1 o1 => ?_
  have hb := u_born ty0 X.ts hin hKn hkC e1 hty
  rw [hH.1] at hb
  have hH' : Hd w (Un u t N f) H1 := hH.new hu z1 o1 ⟨fun _ => ⟨⟨_, hcl, rfl⟩, hb.to (fun j hj => by
    obtain ⟨ty, e2, e3⟩ := hf j hj
    have := (hty j hj).symm.trans e2
    cases this
    rw [hfc, ← e3])⟩, fun h => by omega⟩
  have K := h p e R s m args below meth c (cells + 1) (slots + N) Z X (by omega) (by omega) (by
    have ea : cells + 1 + bc = cells + (bc + 1) := by omega
    have eb : slots + N + bs = slots + (bs + N) := by omega
    rw [ea, eb]
    exact hZ) H1 locs ls hH' (hS.new z1 o1) hL
  have ec := cv_new hH hu
  show W p (w_l w) e R s m args below meth c H1 locs (cells + 1) (slots + N) Z (F0 m (pc + 3) ls (Value.ref H.size :: st.map (cv w)))
  rw [ec]
  exact K
end G4
def nth {α : Type} : List α → Nat → α → α
  | [], _, d => d
  | x :: _, 0, _ => x
  | _ :: t, n + 1, d => nth t n d
def cnm (o : Nat) : String := nth [RX0, RX1, RX2, RX3, RX4, RX5, RX6, RX7, RX8, "java/lang/Integer"] o RL
/-- a method of the table: its class's number says its class -/
def Mk (M : Mt) : Prop := m_o M < 10 → (m_y M).cls = cnm (m_o M)
end
section
/-! the methods -/
def MX7_init : Mt := (7, yX7_init, cX7_init, 2, none)
theorem mkX7_init : Mk MX7_init := fun h => rfl
theorem mwX7_init : MW MX7_init 0 := ⟨tbG_of 72 (by decide +kernel) (by decide +kernel), tbG_of 51 (by decide +kernel) (by decide +kernel), by decide, by decide +kernel, by decide⟩
def MX6_init : Mt := (6, yX6_init, cX6_init, 1, none)
theorem mkX6_init : Mk MX6_init := fun h => rfl
theorem mwX6_init : MW MX6_init 0 := ⟨tbG_of 80 (by decide +kernel) (by decide +kernel), tbG_of 52 (by decide +kernel) (by decide +kernel), by decide, by decide +kernel, by decide⟩
def MX3_init : Mt := (3, yX3_init, cX3_init, 1, none)
theorem mkX3_init : Mk MX3_init := fun h => rfl
theorem mwX3_init : MW MX3_init 0 := ⟨tbG_of 108 (by decide +kernel) (by decide +kernel), tbG_of 53 (by decide +kernel) (by decide +kernel), by decide, by decide +kernel, by decide⟩
def MX2_init : Mt := (2, yX2_init, cX2_init, 3, none)
theorem mkX2_init : Mk MX2_init := fun h => rfl
theorem mwX2_init : MW MX2_init 1 := ⟨tbG_of 157 (by decide +kernel) (by decide +kernel), tbG_of 54 (by decide +kernel) (by decide +kernel), by decide, by decide +kernel, by decide⟩
def MX0_init : Mt := (0, yX0_init, cX0_init, 1, none)
theorem mkX0_init : Mk MX0_init := fun h => rfl
theorem mwX0_init : MW MX0_init 0 := ⟨tbG_of 164 (by decide +kernel) (by decide +kernel), tbG_of 55 (by decide +kernel) (by decide +kernel), by decide, by decide +kernel, by decide⟩
def MX1_init : Mt := (1, yX1_init, cX1_init, 1, none)
theorem mkX1_init : Mk MX1_init := fun h => rfl
theorem mwX1_init : MW MX1_init 0 := ⟨tbG_of 187 (by decide +kernel) (by decide +kernel), tbG_of 56 (by decide +kernel) (by decide +kernel), by decide, by decide +kernel, by decide⟩
def MX4_init : Mt := (4, yX4_init, cX4_init, 1, none)
theorem mkX4_init : Mk MX4_init := fun h => rfl
theorem mwX4_init : MW MX4_init 0 := ⟨tbG_of 269 (by decide +kernel) (by decide +kernel), tbG_of 57 (by decide +kernel) (by decide +kernel), by decide, by decide +kernel, by decide⟩
def MX5_init : Mt := (5, yX5_init, cX5_init, 1, none)
theorem mkX5_init : Mk MX5_init := fun h => rfl
theorem mwX5_init : MW MX5_init 0 := ⟨tbG_of 289 (by decide +kernel) (by decide +kernel), tbG_of 58 (by decide +kernel) (by decide +kernel), by decide, by decide +kernel, by decide⟩
def MX7_digger : Mt := (7, yX7_digger, cX7_digger, 5, (some (.int)))
theorem mkX7_digger : Mk MX7_digger := fun h => rfl
theorem mwX7_digger : MW MX7_digger 4 := ⟨tbG_of 344 (by decide +kernel) (by decide +kernel), tbG_of 51 (by decide +kernel) (by decide +kernel), by decide, by decide +kernel, by decide⟩
def MX7_isKind : Mt := (7, yX7_isKind, cX7_isKind, 1, (some (.boolean)))
theorem mkX7_isKind : Mk MX7_isKind := fun h => rfl
theorem mwX7_isKind : MW MX7_isKind 1 := ⟨tbG_of 347 (by decide +kernel) (by decide +kernel), tbG_of 51 (by decide +kernel) (by decide +kernel), by decide, by decide +kernel, by decide⟩
def MX7_within : Mt := (7, yX7_within, cX7_within, 3, (some (.boolean)))
theorem mkX7_within : Mk MX7_within := fun h => rfl
theorem mwX7_within : MW MX7_within 3 := ⟨tbG_of 350 (by decide +kernel) (by decide +kernel), tbG_of 51 (by decide +kernel) (by decide +kernel), by decide, by decide +kernel, by decide⟩
def MX7_isBranch : Mt := (7, yX7_isBranch, cX7_isBranch, 1, (some (.boolean)))
theorem mkX7_isBranch : Mk MX7_isBranch := fun h => rfl
theorem mwX7_isBranch : MW MX7_isBranch 1 := ⟨tbG_of 353 (by decide +kernel) (by decide +kernel), tbG_of 51 (by decide +kernel) (by decide +kernel), by decide, by decide +kernel, by decide⟩
def MX2_add : Mt := (2, yX2_add, cX2_add, 6, (some (.int)))
theorem mkX2_add : Mk MX2_add := fun h => rfl
theorem mwX2_add : MW MX2_add 4 := ⟨tbG_of 358 (by decide +kernel) (by decide +kernel), tbG_of 54 (by decide +kernel) (by decide +kernel), by decide, by decide +kernel, by decide⟩
def MX7_told : Mt := (7, yX7_told, cX7_told, 4, (some (.int)))
theorem mkX7_told : Mk MX7_told := fun h => rfl
theorem mwX7_told : MW MX7_told 2 := ⟨tbG_of 364 (by decide +kernel) (by decide +kernel), tbG_of 51 (by decide +kernel) (by decide +kernel), by decide, by decide +kernel, by decide⟩
def MX7_isDigger : Mt := (7, yX7_isDigger, cX7_isDigger, 2, (some (.boolean)))
theorem mkX7_isDigger : Mk MX7_isDigger := fun h => rfl
theorem mwX7_isDigger : MW MX7_isDigger 1 := ⟨tbG_of 368 (by decide +kernel) (by decide +kernel), tbG_of 51 (by decide +kernel) (by decide +kernel), by decide, by decide +kernel, by decide⟩
def MX2_digs : Mt := (2, yX2_digs, cX2_digs, 4, (some (.int)))
theorem mkX2_digs : Mk MX2_digs := fun h => rfl
theorem mwX2_digs : MW MX2_digs 1 := ⟨tbG_of 372 (by decide +kernel) (by decide +kernel), tbG_of 54 (by decide +kernel) (by decide +kernel), by decide, by decide +kernel, by decide⟩
def MX2_plain : Mt := (2, yX2_plain, cX2_plain, 3, (some (.int)))
theorem mkX2_plain : Mk MX2_plain := fun h => rfl
theorem mwX2_plain : MW MX2_plain 1 := ⟨tbG_of 376 (by decide +kernel) (by decide +kernel), tbG_of 54 (by decide +kernel) (by decide +kernel), by decide, by decide +kernel, by decide⟩
def MX7_held : Mt := (7, yX7_held, cX7_held, 1, (some (.int)))
theorem mkX7_held : Mk MX7_held := fun h => rfl
theorem mwX7_held : MW MX7_held 1 := ⟨tbG_of 379 (by decide +kernel) (by decide +kernel), tbG_of 51 (by decide +kernel) (by decide +kernel), by decide, by decide +kernel, by decide⟩
def MX6_put : Mt := (6, yX6_put, cX6_put, 3, none)
theorem mkX6_put : Mk MX6_put := fun h => rfl
theorem mwX6_put : MW MX6_put 2 := ⟨tbG_of 389 (by decide +kernel) (by decide +kernel), tbG_of 52 (by decide +kernel) (by decide +kernel), by decide, by decide +kernel, by decide⟩
def MX0_ahead : Mt := (0, yX0_ahead, cX0_ahead, 1, (some (.int)))
theorem mkX0_ahead : Mk MX0_ahead := fun h => rfl
theorem mwX0_ahead : MW MX0_ahead 0 := ⟨tbG_of 393 (by decide +kernel) (by decide +kernel), tbG_of 55 (by decide +kernel) (by decide +kernel), by decide, by decide +kernel, by decide⟩
def MX2_litIn : Mt := (2, yX2_litIn, cX2_litIn, 4, (some (.int)))
theorem mkX2_litIn : Mk MX2_litIn := fun h => rfl
theorem mwX2_litIn : MW MX2_litIn 1 := ⟨tbG_of 397 (by decide +kernel) (by decide +kernel), tbG_of 54 (by decide +kernel) (by decide +kernel), by decide, by decide +kernel, by decide⟩
def MX1_isLit : Mt := (1, yX1_isLit, cX1_isLit, 1, (some (.boolean)))
theorem mkX1_isLit : Mk MX1_isLit := fun h => rfl
theorem mwX1_isLit : MW MX1_isLit 0 := ⟨tbG_of 401 (by decide +kernel) (by decide +kernel), tbG_of 56 (by decide +kernel) (by decide +kernel), by decide, by decide +kernel, by decide⟩
def MX6_gives : Mt := (6, yX6_gives, cX6_gives, 6, (some (.int)))
theorem mkX6_gives : Mk MX6_gives := fun h => rfl
theorem mwX6_gives : MW MX6_gives 1 := ⟨tbG_of 405 (by decide +kernel) (by decide +kernel), tbG_of 52 (by decide +kernel) (by decide +kernel), by decide, by decide +kernel, by decide⟩
def MX6_joined : Mt := (6, yX6_joined, cX6_joined, 3, (some (.int)))
theorem mkX6_joined : Mk MX6_joined := fun h => rfl
theorem mwX6_joined : MW MX6_joined 3 := ⟨tbG_of 408 (by decide +kernel) (by decide +kernel), tbG_of 52 (by decide +kernel) (by decide +kernel), by decide, by decide +kernel, by decide⟩
def MX2_isFar : Mt := (2, yX2_isFar, cX2_isFar, 2, (some (.boolean)))
theorem mkX2_isFar : Mk MX2_isFar := fun h => rfl
theorem mwX2_isFar : MW MX2_isFar 1 := ⟨tbG_of 412 (by decide +kernel) (by decide +kernel), tbG_of 54 (by decide +kernel) (by decide +kernel), by decide, by decide +kernel, by decide⟩
def MX2_matesOf : Mt := (2, yX2_matesOf, cX2_matesOf, 5, (some (.int)))
theorem mkX2_matesOf : Mk MX2_matesOf := fun h => rfl
theorem mwX2_matesOf : MW MX2_matesOf 1 := ⟨tbG_of 416 (by decide +kernel) (by decide +kernel), tbG_of 54 (by decide +kernel) (by decide +kernel), by decide, by decide +kernel, by decide⟩
def MX1_isOne : Mt := (1, yX1_isOne, cX1_isOne, 4, (some (.boolean)))
theorem mkX1_isOne : Mk MX1_isOne := fun h => rfl
theorem mwX1_isOne : MW MX1_isOne 1 := ⟨tbG_of 420 (by decide +kernel) (by decide +kernel), tbG_of 56 (by decide +kernel) (by decide +kernel), by decide, by decide +kernel, by decide⟩
def MX2_burns : Mt := (2, yX2_burns, cX2_burns, 3, (some (.int)))
theorem mkX2_burns : Mk MX2_burns := fun h => rfl
theorem mwX2_burns : MW MX2_burns 1 := ⟨tbG_of 426 (by decide +kernel) (by decide +kernel), tbG_of 54 (by decide +kernel) (by decide +kernel), by decide, by decide +kernel, by decide⟩
def MX1_worth : Mt := (1, yX1_worth, cX1_worth, 1, (some (.int)))
theorem mkX1_worth : Mk MX1_worth := fun h => rfl
theorem mwX1_worth : MW MX1_worth 0 := ⟨tbG_of 430 (by decide +kernel) (by decide +kernel), tbG_of 56 (by decide +kernel) (by decide +kernel), by decide, by decide +kernel, by decide⟩
def MX7_as : Mt := (7, yX7_as, cX7_as, 4, (some (.int)))
theorem mkX7_as : Mk MX7_as := fun h => rfl
theorem mwX7_as : MW MX7_as 2 := ⟨tbG_of 434 (by decide +kernel) (by decide +kernel), tbG_of 51 (by decide +kernel) (by decide +kernel), by decide, by decide +kernel, by decide⟩
def MX7_turns : Mt := (7, yX7_turns, cX7_turns, 5, (some (.int)))
theorem mkX7_turns : Mk MX7_turns := fun h => rfl
theorem mwX7_turns : MW MX7_turns 2 := ⟨tbG_of 440 (by decide +kernel) (by decide +kernel), tbG_of 51 (by decide +kernel) (by decide +kernel), by decide, by decide +kernel, by decide⟩
def MX7_set : Mt := (7, yX7_set, cX7_set, 6, (some (.int)))
theorem mkX7_set : Mk MX7_set := fun h => rfl
theorem mwX7_set : MW MX7_set 3 := ⟨tbG_of 444 (by decide +kernel) (by decide +kernel), tbG_of 51 (by decide +kernel) (by decide +kernel), by decide, by decide +kernel, by decide⟩
def MX7_sends : Mt := (7, yX7_sends, cX7_sends, 5, (some (.int)))
theorem mkX7_sends : Mk MX7_sends := fun h => rfl
theorem mwX7_sends : MW MX7_sends 2 := ⟨tbG_of 448 (by decide +kernel) (by decide +kernel), tbG_of 51 (by decide +kernel) (by decide +kernel), by decide, by decide +kernel, by decide⟩
def MX7_branch : Mt := (7, yX7_branch, cX7_branch, 6, (some (.int)))
theorem mkX7_branch : Mk MX7_branch := fun h => rfl
theorem mwX7_branch : MW MX7_branch 3 := ⟨tbG_of 452 (by decide +kernel) (by decide +kernel), tbG_of 51 (by decide +kernel) (by decide +kernel), by decide, by decide +kernel, by decide⟩
def MX7_branchOf : Mt := (7, yX7_branchOf, cX7_branchOf, 4, (some (.int)))
theorem mkX7_branchOf : Mk MX7_branchOf := fun h => rfl
theorem mwX7_branchOf : MW MX7_branchOf 2 := ⟨tbG_of 456 (by decide +kernel) (by decide +kernel), tbG_of 51 (by decide +kernel) (by decide +kernel), by decide, by decide +kernel, by decide⟩
def MX2_diggersIn : Mt := (2, yX2_diggersIn, cX2_diggersIn, 4, (some (.int)))
theorem mkX2_diggersIn : Mk MX2_diggersIn := fun h => rfl
theorem mwX2_diggersIn : MW MX2_diggersIn 1 := ⟨tbG_of 461 (by decide +kernel) (by decide +kernel), tbG_of 54 (by decide +kernel) (by decide +kernel), by decide, by decide +kernel, by decide⟩
def MX2_digIn : Mt := (2, yX2_digIn, cX2_digIn, 4, (some (.int)))
theorem mkX2_digIn : Mk MX2_digIn := fun h => rfl
theorem mwX2_digIn : MW MX2_digIn 1 := ⟨tbG_of 465 (by decide +kernel) (by decide +kernel), tbG_of 54 (by decide +kernel) (by decide +kernel), by decide, by decide +kernel, by decide⟩
def MX7_rule : Mt := (7, yX7_rule, cX7_rule, 4, (some (.int)))
theorem mkX7_rule : Mk MX7_rule := fun h => rfl
theorem mwX7_rule : MW MX7_rule 2 := ⟨tbG_of 470 (by decide +kernel) (by decide +kernel), tbG_of 51 (by decide +kernel) (by decide +kernel), by decide, by decide +kernel, by decide⟩
def MX7_deal : Mt := (7, yX7_deal, cX7_deal, 4, (some (.int)))
theorem mkX7_deal : Mk MX7_deal := fun h => rfl
theorem mwX7_deal : MW MX7_deal 1 := ⟨tbG_of 474 (by decide +kernel) (by decide +kernel), tbG_of 51 (by decide +kernel) (by decide +kernel), by decide, by decide +kernel, by decide⟩
def MX2_addDrawn : Mt := (2, yX2_addDrawn, cX2_addDrawn, 5, none)
theorem mkX2_addDrawn : Mk MX2_addDrawn := fun h => rfl
theorem mwX2_addDrawn : MW MX2_addDrawn 0 := ⟨tbG_of 478 (by decide +kernel) (by decide +kernel), tbG_of 54 (by decide +kernel) (by decide +kernel), by decide, by decide +kernel, by decide⟩
def MX2_draw : Mt := (2, yX2_draw, cX2_draw, 1, (some (.int)))
theorem mkX2_draw : Mk MX2_draw := fun h => rfl
theorem mwX2_draw : MW MX2_draw 0 := ⟨tbG_of 482 (by decide +kernel) (by decide +kernel), tbG_of 54 (by decide +kernel) (by decide +kernel), by decide, by decide +kernel, by decide⟩
def MX7_seed : Mt := (7, yX7_seed, cX7_seed, 3, (some (.int)))
theorem mkX7_seed : Mk MX7_seed := fun h => rfl
theorem mwX7_seed : MW MX7_seed 1 := ⟨tbG_of 488 (by decide +kernel) (by decide +kernel), tbG_of 51 (by decide +kernel) (by decide +kernel), by decide, by decide +kernel, by decide⟩
def MX7_nights : Mt := (7, yX7_nights, cX7_nights, 3, (some (.int)))
theorem mkX7_nights : Mk MX7_nights := fun h => rfl
theorem mwX7_nights : MW MX7_nights 1 := ⟨tbG_of 492 (by decide +kernel) (by decide +kernel), tbG_of 51 (by decide +kernel) (by decide +kernel), by decide, by decide +kernel, by decide⟩
def MX2_hill : Mt := (2, yX2_hill, cX2_hill, 3, (some (.int)))
theorem mkX2_hill : Mk MX2_hill := fun h => rfl
theorem mwX2_hill : MW MX2_hill 0 := ⟨tbG_of 496 (by decide +kernel) (by decide +kernel), tbG_of 54 (by decide +kernel) (by decide +kernel), by decide, by decide +kernel, by decide⟩
def MX2_pass : Mt := (2, yX2_pass, cX2_pass, 4, none)
theorem mkX2_pass : Mk MX2_pass := fun h => rfl
theorem mwX2_pass : MW MX2_pass 1 := ⟨tbG_of 500 (by decide +kernel) (by decide +kernel), tbG_of 54 (by decide +kernel) (by decide +kernel), by decide, by decide +kernel, by decide⟩
def MX2_digAll : Mt := (2, yX2_digAll, cX2_digAll, 7, none)
theorem mkX2_digAll : Mk MX2_digAll := fun h => rfl
theorem mwX2_digAll : MW MX2_digAll 0 := ⟨tbG_of 504 (by decide +kernel) (by decide +kernel), tbG_of 54 (by decide +kernel) (by decide +kernel), by decide, by decide +kernel, by decide⟩
def MX2_follow : Mt := (2, yX2_follow, cX2_follow, 3, none)
theorem mkX2_follow : Mk MX2_follow := fun h => rfl
theorem mwX2_follow : MW MX2_follow 1 := ⟨tbG_of 511 (by decide +kernel) (by decide +kernel), tbG_of 54 (by decide +kernel) (by decide +kernel), by decide, by decide +kernel, by decide⟩
def MX2_flee : Mt := (2, yX2_flee, cX2_flee, 4, none)
theorem mkX2_flee : Mk MX2_flee := fun h => rfl
theorem mwX2_flee : MW MX2_flee 1 := ⟨tbG_of 516 (by decide +kernel) (by decide +kernel), tbG_of 54 (by decide +kernel) (by decide +kernel), by decide, by decide +kernel, by decide⟩
def MX2_letRockFall : Mt := (2, yX2_letRockFall, cX2_letRockFall, 2, none)
theorem mkX2_letRockFall : Mk MX2_letRockFall := fun h => rfl
theorem mwX2_letRockFall : MW MX2_letRockFall 0 := ⟨tbG_of 520 (by decide +kernel) (by decide +kernel), tbG_of 54 (by decide +kernel) (by decide +kernel), by decide, by decide +kernel, by decide⟩
def MX7_below : Mt := (7, yX7_below, cX7_below, 2, (some (.int)))
theorem mkX7_below : Mk MX7_below := fun h => rfl
theorem mwX7_below : MW MX7_below 1 := ⟨tbG_of 524 (by decide +kernel) (by decide +kernel), tbG_of 51 (by decide +kernel) (by decide +kernel), by decide, by decide +kernel, by decide⟩
def MX2_candlesOfAll : Mt := (2, yX2_candlesOfAll, cX2_candlesOfAll, 3, (some (.int)))
theorem mkX2_candlesOfAll : Mk MX2_candlesOfAll := fun h => rfl
theorem mwX2_candlesOfAll : MW MX2_candlesOfAll 0 := ⟨tbG_of 528 (by decide +kernel) (by decide +kernel), tbG_of 54 (by decide +kernel) (by decide +kernel), by decide, by decide +kernel, by decide⟩
def MX2_branchesInUse : Mt := (2, yX2_branchesInUse, cX2_branchesInUse, 3, (some (.int)))
theorem mkX2_branchesInUse : Mk MX2_branchesInUse := fun h => rfl
theorem mwX2_branchesInUse : MW MX2_branchesInUse 0 := ⟨tbG_of 532 (by decide +kernel) (by decide +kernel), tbG_of 54 (by decide +kernel) (by decide +kernel), by decide, by decide +kernel, by decide⟩
def MX2_front : Mt := (2, yX2_front, cX2_front, 3, (some (.int)))
theorem mkX2_front : Mk MX2_front := fun h => rfl
theorem mwX2_front : MW MX2_front 0 := ⟨tbG_of 536 (by decide +kernel) (by decide +kernel), tbG_of 54 (by decide +kernel) (by decide +kernel), by decide, by decide +kernel, by decide⟩
def MX7_behind : Mt := (7, yX7_behind, cX7_behind, 3, (some (.int)))
theorem mkX7_behind : Mk MX7_behind := fun h => rfl
theorem mwX7_behind : MW MX7_behind 2 := ⟨tbG_of 540 (by decide +kernel) (by decide +kernel), tbG_of 51 (by decide +kernel) (by decide +kernel), by decide, by decide +kernel, by decide⟩
def MX2_becomeAs : Mt := (2, yX2_becomeAs, cX2_becomeAs, 3, none)
theorem mkX2_becomeAs : Mk MX2_becomeAs := fun h => rfl
theorem mwX2_becomeAs : MW MX2_becomeAs 1 := ⟨tbG_of 544 (by decide +kernel) (by decide +kernel), tbG_of 54 (by decide +kernel) (by decide +kernel), by decide, by decide +kernel, by decide⟩
def MX0_becomeAs : Mt := (0, yX0_becomeAs, cX0_becomeAs, 2, none)
theorem mkX0_becomeAs : Mk MX0_becomeAs := fun h => rfl
theorem mwX0_becomeAs : MW MX0_becomeAs 1 := ⟨tbG_of 548 (by decide +kernel) (by decide +kernel), tbG_of 55 (by decide +kernel) (by decide +kernel), by decide, by decide +kernel, by decide⟩
def MX1_becomeAs : Mt := (1, yX1_becomeAs, cX1_becomeAs, 2, none)
theorem mkX1_becomeAs : Mk MX1_becomeAs := fun h => rfl
theorem mwX1_becomeAs : MW MX1_becomeAs 1 := ⟨tbG_of 552 (by decide +kernel) (by decide +kernel), tbG_of 56 (by decide +kernel) (by decide +kernel), by decide, by decide +kernel, by decide⟩
def MX7_reaches : Mt := (7, yX7_reaches, cX7_reaches, 5, (some (.int)))
theorem mkX7_reaches : Mk MX7_reaches := fun h => rfl
theorem mwX7_reaches : MW MX7_reaches 2 := ⟨tbG_of 556 (by decide +kernel) (by decide +kernel), tbG_of 51 (by decide +kernel) (by decide +kernel), by decide, by decide +kernel, by decide⟩
def MX7_leaves : Mt := (7, yX7_leaves, cX7_leaves, 5, (some (.int)))
theorem mkX7_leaves : Mk MX7_leaves := fun h => rfl
theorem mwX7_leaves : MW MX7_leaves 1 := ⟨tbG_of 561 (by decide +kernel) (by decide +kernel), tbG_of 51 (by decide +kernel) (by decide +kernel), by decide, by decide +kernel, by decide⟩
def MX7_light : Mt := (7, yX7_light, cX7_light, 8, (some (.int)))
theorem mkX7_light : Mk MX7_light := fun h => rfl
theorem mwX7_light : MW MX7_light 2 := ⟨tbG_of 565 (by decide +kernel) (by decide +kernel), tbG_of 51 (by decide +kernel) (by decide +kernel), by decide, by decide +kernel, by decide⟩
def MX2_room : Mt := (2, yX2_room, cX2_room, 1, (some (.int)))
theorem mkX2_room : Mk MX2_room := fun h => rfl
theorem mwX2_room : MW MX2_room 0 := ⟨tbG_of 569 (by decide +kernel) (by decide +kernel), tbG_of 54 (by decide +kernel) (by decide +kernel), by decide, by decide +kernel, by decide⟩
def MX2_dugOfAll : Mt := (2, yX2_dugOfAll, cX2_dugOfAll, 3, (some (.int)))
theorem mkX2_dugOfAll : Mk MX2_dugOfAll := fun h => rfl
theorem mwX2_dugOfAll : MW MX2_dugOfAll 0 := ⟨tbG_of 573 (by decide +kernel) (by decide +kernel), tbG_of 54 (by decide +kernel) (by decide +kernel), by decide, by decide +kernel, by decide⟩
def MX2_lit : Mt := (2, yX2_lit, cX2_lit, 3, (some (.int)))
theorem mkX2_lit : Mk MX2_lit := fun h => rfl
theorem mwX2_lit : MW MX2_lit 0 := ⟨tbG_of 577 (by decide +kernel) (by decide +kernel), tbG_of 54 (by decide +kernel) (by decide +kernel), by decide, by decide +kernel, by decide⟩
def MJ6_bitCount_0f7a4 : Mt := (9, yJ6_bitCount_0f7a4, cJ6_bitCount_0f7a4, 1, (some (.int)))
theorem mkJ6_bitCount_0f7a4 : Mk MJ6_bitCount_0f7a4 := fun h => rfl
theorem mwJ6_bitCount_0f7a4 : MW MJ6_bitCount_0f7a4 1 := ⟨tbG_of 580 (by decide +kernel) (by decide +kernel), tbG_of 61 (by decide +kernel) (by decide +kernel), by decide, by decide +kernel, by decide⟩
def MX2_putOutAllBut : Mt := (2, yX2_putOutAllBut, cX2_putOutAllBut, 3, none)
theorem mkX2_putOutAllBut : Mk MX2_putOutAllBut := fun h => rfl
theorem mwX2_putOutAllBut : MW MX2_putOutAllBut 1 := ⟨tbG_of 587 (by decide +kernel) (by decide +kernel), tbG_of 54 (by decide +kernel) (by decide +kernel), by decide, by decide +kernel, by decide⟩
def MX7_wax : Mt := (7, yX7_wax, cX7_wax, 6, (some (.int)))
theorem mkX7_wax : Mk MX7_wax := fun h => rfl
theorem mwX7_wax : MW MX7_wax 3 := ⟨tbG_of 591 (by decide +kernel) (by decide +kernel), tbG_of 51 (by decide +kernel) (by decide +kernel), by decide, by decide +kernel, by decide⟩
def MX7_sent : Mt := (7, yX7_sent, cX7_sent, 8, (some (.int)))
theorem mkX7_sent : Mk MX7_sent := fun h => rfl
theorem mwX7_sent : MW MX7_sent 3 := ⟨tbG_of 595 (by decide +kernel) (by decide +kernel), tbG_of 51 (by decide +kernel) (by decide +kernel), by decide, by decide +kernel, by decide⟩
def MX7_becomes : Mt := (7, yX7_becomes, cX7_becomes, 8, (some (.int)))
theorem mkX7_becomes : Mk MX7_becomes := fun h => rfl
theorem mwX7_becomes : MW MX7_becomes 3 := ⟨tbG_of 599 (by decide +kernel) (by decide +kernel), tbG_of 51 (by decide +kernel) (by decide +kernel), by decide, by decide +kernel, by decide⟩
def MX7_like : Mt := (7, yX7_like, cX7_like, 8, (some (.int)))
theorem mkX7_like : Mk MX7_like := fun h => rfl
theorem mwX7_like : MW MX7_like 2 := ⟨tbG_of 603 (by decide +kernel) (by decide +kernel), tbG_of 51 (by decide +kernel) (by decide +kernel), by decide, by decide +kernel, by decide⟩
def MX7_isSheet : Mt := (7, yX7_isSheet, cX7_isSheet, 1, (some (.boolean)))
theorem mkX7_isSheet : Mk MX7_isSheet := fun h => rfl
theorem mwX7_isSheet : MW MX7_isSheet 1 := ⟨tbG_of 606 (by decide +kernel) (by decide +kernel), tbG_of 51 (by decide +kernel) (by decide +kernel), by decide, by decide +kernel, by decide⟩
def MX4_isMissing : Mt := (4, yX4_isMissing, cX4_isMissing, 1, (some (.boolean)))
theorem mkX4_isMissing : Mk MX4_isMissing := fun h => rfl
theorem mwX4_isMissing : MW MX4_isMissing 0 := ⟨tbG_of 610 (by decide +kernel) (by decide +kernel), tbG_of 57 (by decide +kernel) (by decide +kernel), by decide, by decide +kernel, by decide⟩
def MX7_differences : Mt := (7, yX7_differences, cX7_differences, 6, (some (.int)))
theorem mkX7_differences : Mk MX7_differences := fun h => rfl
theorem mwX7_differences : MW MX7_differences 2 := ⟨tbG_of 615 (by decide +kernel) (by decide +kernel), tbG_of 51 (by decide +kernel) (by decide +kernel), by decide, by decide +kernel, by decide⟩
def MX4_isNumber : Mt := (4, yX4_isNumber, cX4_isNumber, 2, (some (.boolean)))
theorem mkX4_isNumber : Mk MX4_isNumber := fun h => rfl
theorem mwX4_isNumber : MW MX4_isNumber 1 := ⟨tbG_of 619 (by decide +kernel) (by decide +kernel), tbG_of 57 (by decide +kernel) (by decide +kernel), by decide, by decide +kernel, by decide⟩
def MX4_hasPlace : Mt := (4, yX4_hasPlace, cX4_hasPlace, 2, (some (.boolean)))
theorem mkX4_hasPlace : Mk MX4_hasPlace := fun h => rfl
theorem mwX4_hasPlace : MW MX4_hasPlace 1 := ⟨tbG_of 623 (by decide +kernel) (by decide +kernel), tbG_of 57 (by decide +kernel) (by decide +kernel), by decide, by decide +kernel, by decide⟩
def MX7_fee : Mt := (7, yX7_fee, cX7_fee, 1, (some (.int)))
theorem mkX7_fee : Mk MX7_fee := fun h => rfl
theorem mwX7_fee : MW MX7_fee 0 := ⟨tbG_of 631 (by decide +kernel) (by decide +kernel), tbG_of 51 (by decide +kernel) (by decide +kernel), by decide, by decide +kernel, by decide⟩
def MX2_feeGives : Mt := (2, yX2_feeGives, cX2_feeGives, 1, (some (.int)))
theorem mkX2_feeGives : Mk MX2_feeGives := fun h => rfl
theorem mwX2_feeGives : MW MX2_feeGives 0 := ⟨tbG_of 635 (by decide +kernel) (by decide +kernel), tbG_of 54 (by decide +kernel) (by decide +kernel), by decide, by decide +kernel, by decide⟩
def MX7_fine : Mt := (7, yX7_fine, cX7_fine, 2, (some (.int)))
theorem mkX7_fine : Mk MX7_fine := fun h => rfl
theorem mwX7_fine : MW MX7_fine 1 := ⟨tbG_of 640 (by decide +kernel) (by decide +kernel), tbG_of 51 (by decide +kernel) (by decide +kernel), by decide, by decide +kernel, by decide⟩
def MX2_fineGives : Mt := (2, yX2_fineGives, cX2_fineGives, 2, (some (.int)))
theorem mkX2_fineGives : Mk MX2_fineGives := fun h => rfl
theorem mwX2_fineGives : MW MX2_fineGives 1 := ⟨tbG_of 644 (by decide +kernel) (by decide +kernel), tbG_of 54 (by decide +kernel) (by decide +kernel), by decide, by decide +kernel, by decide⟩
def MX7_feed : Mt := (7, yX7_feed, cX7_feed, 4, (some (.int)))
theorem mkX7_feed : Mk MX7_feed := fun h => rfl
theorem mwX7_feed : MW MX7_feed 3 := ⟨tbG_of 648 (by decide +kernel) (by decide +kernel), tbG_of 51 (by decide +kernel) (by decide +kernel), by decide, by decide +kernel, by decide⟩
def MX3_addBytes : Mt := (3, yX3_addBytes, cX3_addBytes, 3, none)
theorem mkX3_addBytes : Mk MX3_addBytes := fun h => rfl
theorem mwX3_addBytes : MW MX3_addBytes 1 := ⟨tbG_of 652 (by decide +kernel) (by decide +kernel), tbG_of 53 (by decide +kernel) (by decide +kernel), by decide, by decide +kernel, by decide⟩
def MX7_trim : Mt := (7, yX7_trim, cX7_trim, 2, (some (.int)))
theorem mkX7_trim : Mk MX7_trim := fun h => rfl
theorem mwX7_trim : MW MX7_trim 1 := ⟨tbG_of 656 (by decide +kernel) (by decide +kernel), tbG_of 51 (by decide +kernel) (by decide +kernel), by decide, by decide +kernel, by decide⟩
def MX7_text : Mt := (7, yX7_text, cX7_text, 2, (some (.int)))
theorem mkX7_text : Mk MX7_text := fun h => rfl
theorem mwX7_text : MW MX7_text 0 := ⟨tbG_of 660 (by decide +kernel) (by decide +kernel), tbG_of 51 (by decide +kernel) (by decide +kernel), by decide, by decide +kernel, by decide⟩
def MX3_fault : Mt := (3, yX3_fault, cX3_fault, 1, (some (.int)))
theorem mkX3_fault : Mk MX3_fault := fun h => rfl
theorem mwX3_fault : MW MX3_fault 0 := ⟨tbG_of 664 (by decide +kernel) (by decide +kernel), tbG_of 53 (by decide +kernel) (by decide +kernel), by decide, by decide +kernel, by decide⟩
def MX3_begin : Mt := (3, yX3_begin, cX3_begin, 1, none)
theorem mkX3_begin : Mk MX3_begin := fun h => rfl
theorem mwX3_begin : MW MX3_begin 0 := ⟨tbG_of 668 (by decide +kernel) (by decide +kernel), tbG_of 53 (by decide +kernel) (by decide +kernel), by decide, by decide +kernel, by decide⟩
def MX3_next : Mt := (3, yX3_next, cX3_next, 3, none)
theorem mkX3_next : Mk MX3_next := fun h => rfl
theorem mwX3_next : MW MX3_next 0 := ⟨tbG_of 672 (by decide +kernel) (by decide +kernel), tbG_of 53 (by decide +kernel) (by decide +kernel), by decide, by decide +kernel, by decide⟩
def MX3_byteAt : Mt := (3, yX3_byteAt, cX3_byteAt, 2, (some (.int)))
theorem mkX3_byteAt : Mk MX3_byteAt := fun h => rfl
theorem mwX3_byteAt : MW MX3_byteAt 1 := ⟨tbG_of 676 (by decide +kernel) (by decide +kernel), tbG_of 53 (by decide +kernel) (by decide +kernel), by decide, by decide +kernel, by decide⟩
def MX3_isWord : Mt := (3, yX3_isWord, cX3_isWord, 1, (some (.boolean)))
theorem mkX3_isWord : Mk MX3_isWord := fun h => rfl
theorem mwX3_isWord : MW MX3_isWord 1 := ⟨tbG_of 679 (by decide +kernel) (by decide +kernel), tbG_of 53 (by decide +kernel) (by decide +kernel), by decide, by decide +kernel, by decide⟩
def MX3_sortAt : Mt := (3, yX3_sortAt, cX3_sortAt, 3, (some (.int)))
theorem mkX3_sortAt : Mk MX3_sortAt := fun h => rfl
theorem mwX3_sortAt : MW MX3_sortAt 1 := ⟨tbG_of 683 (by decide +kernel) (by decide +kernel), tbG_of 53 (by decide +kernel) (by decide +kernel), by decide, by decide +kernel, by decide⟩
def MX3_keyHere : Mt := (3, yX3_keyHere, cX3_keyHere, 1, (some (.int)))
theorem mkX3_keyHere : Mk MX3_keyHere := fun h => rfl
theorem mwX3_keyHere : MW MX3_keyHere 0 := ⟨tbG_of 687 (by decide +kernel) (by decide +kernel), tbG_of 53 (by decide +kernel) (by decide +kernel), by decide, by decide +kernel, by decide⟩
def MX3_isHere : Mt := (3, yX3_isHere, cX3_isHere, 3, (some (.boolean)))
theorem mkX3_isHere : Mk MX3_isHere := fun h => rfl
theorem mwX3_isHere : MW MX3_isHere 1 := ⟨tbG_of 692 (by decide +kernel) (by decide +kernel), tbG_of 53 (by decide +kernel) (by decide +kernel), by decide, by decide +kernel, by decide⟩
def MJ0_length_8abf5 : Mt := (30, yJ0_length_8abf5, cJ0_length_8abf5, 1, (some (.int)))
theorem mkJ0_length_8abf5 : Mk MJ0_length_8abf5 := fun h => absurd h (by decide)
theorem mwJ0_length_8abf5 : MW MJ0_length_8abf5 0 := ⟨tbG_of 696 (by decide +kernel) (by decide +kernel), tbG_of 62 (by decide +kernel) (by decide +kernel), by decide, by decide +kernel, by decide⟩
def MJ0_coder_7d493 : Mt := (30, yJ0_coder_7d493, cJ0_coder_7d493, 1, (some (.byte)))
theorem mkJ0_coder_7d493 : Mk MJ0_coder_7d493 := fun h => absurd h (by decide)
theorem mwJ0_coder_7d493 : MW MJ0_coder_7d493 0 := ⟨tbG_of 700 (by decide +kernel) (by decide +kernel), tbG_of 62 (by decide +kernel) (by decide +kernel), by decide, by decide +kernel, by decide⟩
def MJ0_charAt_5068e : Mt := (30, yJ0_charAt_5068e, cJ0_charAt_5068e, 2, (some (.char)))
theorem mkJ0_charAt_5068e : Mk MJ0_charAt_5068e := fun h => absurd h (by decide)
theorem mwJ0_charAt_5068e : MW MJ0_charAt_5068e 1 := ⟨tbG_of 706 (by decide +kernel) (by decide +kernel), tbG_of 62 (by decide +kernel) (by decide +kernel), by decide, by decide +kernel, by decide⟩
def MJ0_isLatin1_aae02 : Mt := (30, yJ0_isLatin1_aae02, cJ0_isLatin1_aae02, 1, (some (.boolean)))
theorem mkJ0_isLatin1_aae02 : Mk MJ0_isLatin1_aae02 := fun h => absurd h (by decide)
theorem mwJ0_isLatin1_aae02 : MW MJ0_isLatin1_aae02 0 := ⟨tbG_of 710 (by decide +kernel) (by decide +kernel), tbG_of 62 (by decide +kernel) (by decide +kernel), by decide, by decide +kernel, by decide⟩
def MJ1_charAt_3b067 : Mt := (30, yJ1_charAt_3b067, cJ1_charAt_3b067, 2, (some (.char)))
theorem mkJ1_charAt_3b067 : Mk MJ1_charAt_3b067 := fun h => absurd h (by decide)
theorem mwJ1_charAt_3b067 : MW MJ1_charAt_3b067 2 := ⟨tbG_of 713 (by decide +kernel) (by decide +kernel), tbG_of 63 (by decide +kernel) (by decide +kernel), by decide, by decide +kernel, by decide⟩
def MJ0_checkIndex_df160 : Mt := (30, yJ0_checkIndex_df160, cJ0_checkIndex_df160, 2, none)
theorem mkJ0_checkIndex_df160 : Mk MJ0_checkIndex_df160 := fun h => absurd h (by decide)
theorem mwJ0_checkIndex_df160 : MW MJ0_checkIndex_df160 2 := ⟨tbG_of 716 (by decide +kernel) (by decide +kernel), tbG_of 62 (by decide +kernel) (by decide +kernel), by decide, by decide +kernel, by decide⟩
def MJ3_checkIndex_8e157 : Mt := (30, yJ3_checkIndex_8e157, cJ3_checkIndex_8e157, 3, (some (.int)))
theorem mkJ3_checkIndex_8e157 : Mk MJ3_checkIndex_8e157 := fun h => absurd h (by decide)
theorem mwJ3_checkIndex_8e157 : MW MJ3_checkIndex_8e157 3 := ⟨tbG_of 721 (by decide +kernel) (by decide +kernel), tbG_of 64 (by decide +kernel) (by decide +kernel), by decide, by decide +kernel, by decide⟩
def MX3_part : Mt := (3, yX3_part, cX3_part, 5, (some (.boolean)))
theorem mkX3_part : Mk MX3_part := fun h => rfl
theorem mwX3_part : MW MX3_part 1 := ⟨tbG_of 746 (by decide +kernel) (by decide +kernel), tbG_of 53 (by decide +kernel) (by decide +kernel), by decide, by decide +kernel, by decide⟩
def MX3_piece : Mt := (3, yX3_piece, cX3_piece, 2, (some (.boolean)))
theorem mkX3_piece : Mk MX3_piece := fun h => rfl
theorem mwX3_piece : MW MX3_piece 0 := ⟨tbG_of 750 (by decide +kernel) (by decide +kernel), tbG_of 53 (by decide +kernel) (by decide +kernel), by decide, by decide +kernel, by decide⟩
def MX3_leaf : Mt := (3, yX3_leaf, cX3_leaf, 2, (some (.boolean)))
theorem mkX3_leaf : Mk MX3_leaf := fun h => rfl
theorem mwX3_leaf : MW MX3_leaf 0 := ⟨tbG_of 754 (by decide +kernel) (by decide +kernel), tbG_of 53 (by decide +kernel) (by decide +kernel), by decide, by decide +kernel, by decide⟩
def MX3_number : Mt := (3, yX3_number, cX3_number, 3, (some (.int)))
theorem mkX3_number : Mk MX3_number := fun h => rfl
theorem mwX3_number : MW MX3_number 0 := ⟨tbG_of 758 (by decide +kernel) (by decide +kernel), tbG_of 53 (by decide +kernel) (by decide +kernel), by decide, by decide +kernel, by decide⟩
def MX3_name : Mt := (3, yX3_name, cX3_name, 2, (some (.int)))
theorem mkX3_name : Mk MX3_name := fun h => rfl
theorem mwX3_name : MW MX3_name 0 := ⟨tbG_of 762 (by decide +kernel) (by decide +kernel), tbG_of 53 (by decide +kernel) (by decide +kernel), by decide, by decide +kernel, by decide⟩
def MX3_namesOf : Mt := (3, yX3_namesOf, cX3_namesOf, 1, (some ((.object "java/lang/String"))))
theorem mkX3_namesOf : Mk MX3_namesOf := fun h => rfl
theorem mwX3_namesOf : MW MX3_namesOf 1 := ⟨tbG_of 765 (by decide +kernel) (by decide +kernel), tbG_of 53 (by decide +kernel) (by decide +kernel), by decide, by decide +kernel, by decide⟩
def MJ0_indexOf_0f7a4 : Mt := (30, yJ0_indexOf_0f7a4, cJ0_indexOf_0f7a4, 2, (some (.int)))
theorem mkJ0_indexOf_0f7a4 : Mk MJ0_indexOf_0f7a4 := fun h => absurd h (by decide)
theorem mwJ0_indexOf_0f7a4 : MW MJ0_indexOf_0f7a4 1 := ⟨tbG_of 772 (by decide +kernel) (by decide +kernel), tbG_of 62 (by decide +kernel) (by decide +kernel), by decide, by decide +kernel, by decide⟩
def MJ0_indexOf_7cf53 : Mt := (30, yJ0_indexOf_7cf53, cJ0_indexOf_7cf53, 3, (some (.int)))
theorem mkJ0_indexOf_7cf53 : Mk MJ0_indexOf_7cf53 := fun h => absurd h (by decide)
theorem mwJ0_indexOf_7cf53 : MW MJ0_indexOf_7cf53 2 := ⟨tbG_of 776 (by decide +kernel) (by decide +kernel), tbG_of 62 (by decide +kernel) (by decide +kernel), by decide, by decide +kernel, by decide⟩
def MJ1_indexOf_4cfef : Mt := (30, yJ1_indexOf_4cfef, cJ1_indexOf_4cfef, 4, (some (.int)))
theorem mkJ1_indexOf_4cfef : Mk MJ1_indexOf_4cfef := fun h => absurd h (by decide)
theorem mwJ1_indexOf_4cfef : MW MJ1_indexOf_4cfef 4 := ⟨tbG_of 780 (by decide +kernel) (by decide +kernel), tbG_of 63 (by decide +kernel) (by decide +kernel), by decide, by decide +kernel, by decide⟩
def MJ1_canEncode_9a6ad : Mt := (30, yJ1_canEncode_9a6ad, cJ1_canEncode_9a6ad, 1, (some (.boolean)))
theorem mkJ1_canEncode_9a6ad : Mk MJ1_canEncode_9a6ad := fun h => absurd h (by decide)
theorem mwJ1_canEncode_9a6ad : MW MJ1_canEncode_9a6ad 1 := ⟨tbG_of 783 (by decide +kernel) (by decide +kernel), tbG_of 63 (by decide +kernel) (by decide +kernel), by decide, by decide +kernel, by decide⟩
def MJ1_indexOfChar_4cfef : Mt := (30, yJ1_indexOfChar_4cfef, cJ1_indexOfChar_4cfef, 6, (some (.int)))
theorem mkJ1_indexOfChar_4cfef : Mk MJ1_indexOfChar_4cfef := fun h => absurd h (by decide)
theorem mwJ1_indexOfChar_4cfef : MW MJ1_indexOfChar_4cfef 4 := ⟨tbG_of 788 (by decide +kernel) (by decide +kernel), tbG_of 63 (by decide +kernel) (by decide +kernel), by decide, by decide +kernel, by decide⟩
def MJ0_checkBoundsBeginEnd_23922 : Mt := (30, yJ0_checkBoundsBeginEnd_23922, cJ0_checkBoundsBeginEnd_23922, 3, none)
theorem mkJ0_checkBoundsBeginEnd_23922 : Mk MJ0_checkBoundsBeginEnd_23922 := fun h => absurd h (by decide)
theorem mwJ0_checkBoundsBeginEnd_23922 : MW MJ0_checkBoundsBeginEnd_23922 3 := ⟨tbG_of 803 (by decide +kernel) (by decide +kernel), tbG_of 62 (by decide +kernel) (by decide +kernel), by decide, by decide +kernel, by decide⟩
def MJ3_checkFromToIndex_8c36e : Mt := (30, yJ3_checkFromToIndex_8c36e, cJ3_checkFromToIndex_8c36e, 4, (some (.int)))
theorem mkJ3_checkFromToIndex_8c36e : Mk MJ3_checkFromToIndex_8c36e := fun h => absurd h (by decide)
theorem mwJ3_checkFromToIndex_8c36e : MW MJ3_checkFromToIndex_8c36e 4 := ⟨tbG_of 806 (by decide +kernel) (by decide +kernel), tbG_of 64 (by decide +kernel) (by decide +kernel), by decide, by decide +kernel, by decide⟩
def MX3_put : Mt := (3, yX3_put, cX3_put, 2, none)
theorem mkX3_put : Mk MX3_put := fun h => rfl
theorem mwX3_put : MW MX3_put 1 := ⟨tbG_of 827 (by decide +kernel) (by decide +kernel), tbG_of 53 (by decide +kernel) (by decide +kernel), by decide, by decide +kernel, by decide⟩
def MX3_not : Mt := (3, yX3_not, cX3_not, 1, (some (.boolean)))
theorem mkX3_not : Mk MX3_not := fun h => rfl
theorem mwX3_not : MW MX3_not 0 := ⟨tbG_of 831 (by decide +kernel) (by decide +kernel), tbG_of 53 (by decide +kernel) (by decide +kernel), by decide, by decide +kernel, by decide⟩
def MX3_bracket : Mt := (3, yX3_bracket, cX3_bracket, 1, (some (.boolean)))
theorem mkX3_bracket : Mk MX3_bracket := fun h => rfl
theorem mwX3_bracket : MW MX3_bracket 0 := ⟨tbG_of 835 (by decide +kernel) (by decide +kernel), tbG_of 53 (by decide +kernel) (by decide +kernel), by decide, by decide +kernel, by decide⟩
def MX3_isSignOf : Mt := (3, yX3_isSignOf, cX3_isSignOf, 2, (some (.boolean)))
theorem mkX3_isSignOf : Mk MX3_isSignOf := fun h => rfl
theorem mwX3_isSignOf : MW MX3_isSignOf 1 := ⟨tbG_of 839 (by decide +kernel) (by decide +kernel), tbG_of 53 (by decide +kernel) (by decide +kernel), by decide, by decide +kernel, by decide⟩
def MX3_signsOf : Mt := (3, yX3_signsOf, cX3_signsOf, 1, (some ((.object "java/lang/String"))))
theorem mkX3_signsOf : Mk MX3_signsOf := fun h => rfl
theorem mwX3_signsOf : MW MX3_signsOf 1 := ⟨tbG_of 842 (by decide +kernel) (by decide +kernel), tbG_of 53 (by decide +kernel) (by decide +kernel), by decide, by decide +kernel, by decide⟩
def MX2_addText : Mt := (2, yX2_addText, cX2_addText, 3, (some (.int)))
theorem mkX2_addText : Mk MX2_addText := fun h => rfl
theorem mwX2_addText : MW MX2_addText 1 := ⟨tbG_of 851 (by decide +kernel) (by decide +kernel), tbG_of 54 (by decide +kernel) (by decide +kernel), by decide, by decide +kernel, by decide⟩
def MX6_write : Mt := (6, yX6_write, cX6_write, 4, none)
theorem mkX6_write : Mk MX6_write := fun h => rfl
theorem mwX6_write : MW MX6_write 2 := ⟨tbG_of 855 (by decide +kernel) (by decide +kernel), tbG_of 52 (by decide +kernel) (by decide +kernel), by decide, by decide +kernel, by decide⟩
def MX7_textTold : Mt := (7, yX7_textTold, cX7_textTold, 3, (some (.int)))
theorem mkX7_textTold : Mk MX7_textTold := fun h => rfl
theorem mwX7_textTold : MW MX7_textTold 2 := ⟨tbG_of 861 (by decide +kernel) (by decide +kernel), tbG_of 51 (by decide +kernel) (by decide +kernel), by decide, by decide +kernel, by decide⟩
def MX7_why : Mt := (7, yX7_why, cX7_why, 2, (some (.int)))
theorem mkX7_why : Mk MX7_why := fun h => rfl
theorem mwX7_why : MW MX7_why 1 := ⟨tbG_of 865 (by decide +kernel) (by decide +kernel), tbG_of 51 (by decide +kernel) (by decide +kernel), by decide, by decide +kernel, by decide⟩
def MX7_sheet : Mt := (7, yX7_sheet, cX7_sheet, 4, (some (.int)))
theorem mkX7_sheet : Mk MX7_sheet := fun h => rfl
theorem mwX7_sheet : MW MX7_sheet 3 := ⟨tbG_of 869 (by decide +kernel) (by decide +kernel), tbG_of 51 (by decide +kernel) (by decide +kernel), by decide, by decide +kernel, by decide⟩
def MX4_become : Mt := (4, yX4_become, cX4_become, 4, none)
theorem mkX4_become : Mk MX4_become := fun h => rfl
theorem mwX4_become : MW MX4_become 2 := ⟨tbG_of 873 (by decide +kernel) (by decide +kernel), tbG_of 57 (by decide +kernel) (by decide +kernel), by decide, by decide +kernel, by decide⟩
def MX7_mark : Mt := (7, yX7_mark, cX7_mark, 5, (some (.int)))
theorem mkX7_mark : Mk MX7_mark := fun h => rfl
theorem mwX7_mark : MW MX7_mark 3 := ⟨tbG_of 878 (by decide +kernel) (by decide +kernel), tbG_of 51 (by decide +kernel) (by decide +kernel), by decide, by decide +kernel, by decide⟩
def MX7_pour : Mt := (7, yX7_pour, cX7_pour, 8, (some (.int)))
theorem mkX7_pour : Mk MX7_pour := fun h => rfl
theorem mwX7_pour : MW MX7_pour 1 := ⟨tbG_of 886 (by decide +kernel) (by decide +kernel), tbG_of 51 (by decide +kernel) (by decide +kernel), by decide, by decide +kernel, by decide⟩
def MX7_reads : Mt := (7, yX7_reads, cX7_reads, 4, (some (.int)))
theorem mkX7_reads : Mk MX7_reads := fun h => rfl
theorem mwX7_reads : MW MX7_reads 1 := ⟨tbG_of 891 (by decide +kernel) (by decide +kernel), tbG_of 51 (by decide +kernel) (by decide +kernel), by decide, by decide +kernel, by decide⟩
def MX7_copy : Mt := (7, yX7_copy, cX7_copy, 8, (some (.int)))
theorem mkX7_copy : Mk MX7_copy := fun h => rfl
theorem mwX7_copy : MW MX7_copy 5 := ⟨tbG_of 895 (by decide +kernel) (by decide +kernel), tbG_of 51 (by decide +kernel) (by decide +kernel), by decide, by decide +kernel, by decide⟩
def MX4_hasPlaces : Mt := (4, yX4_hasPlaces, cX4_hasPlaces, 3, (some (.boolean)))
theorem mkX4_hasPlaces : Mk MX4_hasPlaces := fun h => rfl
theorem mwX4_hasPlaces : MW MX4_hasPlaces 2 := ⟨tbG_of 899 (by decide +kernel) (by decide +kernel), tbG_of 57 (by decide +kernel) (by decide +kernel), by decide, by decide +kernel, by decide⟩
def MX7_lay : Mt := (7, yX7_lay, cX7_lay, 6, (some (.int)))
theorem mkX7_lay : Mk MX7_lay := fun h => rfl
theorem mwX7_lay : MW MX7_lay 3 := ⟨tbG_of 906 (by decide +kernel) (by decide +kernel), tbG_of 51 (by decide +kernel) (by decide +kernel), by decide, by decide +kernel, by decide⟩
def MX7_isSlot : Mt := (7, yX7_isSlot, cX7_isSlot, 1, (some (.boolean)))
theorem mkX7_isSlot : Mk MX7_isSlot := fun h => rfl
theorem mwX7_isSlot : MW MX7_isSlot 1 := ⟨tbG_of 909 (by decide +kernel) (by decide +kernel), tbG_of 51 (by decide +kernel) (by decide +kernel), by decide, by decide +kernel, by decide⟩
def MX4_becomeAs : Mt := (4, yX4_becomeAs, cX4_becomeAs, 2, none)
theorem mkX4_becomeAs : Mk MX4_becomeAs := fun h => rfl
theorem mwX4_becomeAs : MW MX4_becomeAs 1 := ⟨tbG_of 914 (by decide +kernel) (by decide +kernel), tbG_of 57 (by decide +kernel) (by decide +kernel), by decide, by decide +kernel, by decide⟩
def MX7_ask : Mt := (7, yX7_ask, cX7_ask, 4, (some (.int)))
theorem mkX7_ask : Mk MX7_ask := fun h => rfl
theorem mwX7_ask : MW MX7_ask 2 := ⟨tbG_of 919 (by decide +kernel) (by decide +kernel), tbG_of 51 (by decide +kernel) (by decide +kernel), by decide, by decide +kernel, by decide⟩
def MX7_item : Mt := (7, yX7_item, cX7_item, 4, (some (.int)))
theorem mkX7_item : Mk MX7_item := fun h => rfl
theorem mwX7_item : MW MX7_item 2 := ⟨tbG_of 923 (by decide +kernel) (by decide +kernel), tbG_of 51 (by decide +kernel) (by decide +kernel), by decide, by decide +kernel, by decide⟩
def MX7_rest : Mt := (7, yX7_rest, cX7_rest, 4, (some (.int)))
theorem mkX7_rest : Mk MX7_rest := fun h => rfl
theorem mwX7_rest : MW MX7_rest 2 := ⟨tbG_of 927 (by decide +kernel) (by decide +kernel), tbG_of 51 (by decide +kernel) (by decide +kernel), by decide, by decide +kernel, by decide⟩
def MX7_tell : Mt := (7, yX7_tell, cX7_tell, 2, (some (.int)))
theorem mkX7_tell : Mk MX7_tell := fun h => rfl
theorem mwX7_tell : MW MX7_tell 1 := ⟨tbG_of 932 (by decide +kernel) (by decide +kernel), tbG_of 51 (by decide +kernel) (by decide +kernel), by decide, by decide +kernel, by decide⟩
def MX7_check : Mt := (7, yX7_check, cX7_check, 5, (some (.int)))
theorem mkX7_check : Mk MX7_check := fun h => rfl
theorem mwX7_check : MW MX7_check 1 := ⟨tbG_of 936 (by decide +kernel) (by decide +kernel), tbG_of 51 (by decide +kernel) (by decide +kernel), by decide, by decide +kernel, by decide⟩
def MX7_isTold : Mt := (7, yX7_isTold, cX7_isTold, 4, (some (.boolean)))
theorem mkX7_isTold : Mk MX7_isTold := fun h => rfl
theorem mwX7_isTold : MW MX7_isTold 3 := ⟨tbG_of 940 (by decide +kernel) (by decide +kernel), tbG_of 51 (by decide +kernel) (by decide +kernel), by decide, by decide +kernel, by decide⟩
def MX7_keep : Mt := (7, yX7_keep, cX7_keep, 1, (some (.int)))
theorem mkX7_keep : Mk MX7_keep := fun h => rfl
theorem mwX7_keep : MW MX7_keep 0 := ⟨tbG_of 945 (by decide +kernel) (by decide +kernel), tbG_of 51 (by decide +kernel) (by decide +kernel), by decide, by decide +kernel, by decide⟩
def MX7_back : Mt := (7, yX7_back, cX7_back, 1, (some (.int)))
theorem mkX7_back : Mk MX7_back := fun h => rfl
theorem mwX7_back : MW MX7_back 0 := ⟨tbG_of 949 (by decide +kernel) (by decide +kernel), tbG_of 51 (by decide +kernel) (by decide +kernel), by decide, by decide +kernel, by decide⟩
def MX7_count : Mt := (7, yX7_count, cX7_count, 2, (some (.int)))
theorem mkX7_count : Mk MX7_count := fun h => rfl
theorem mwX7_count : MW MX7_count 1 := ⟨tbG_of 953 (by decide +kernel) (by decide +kernel), tbG_of 51 (by decide +kernel) (by decide +kernel), by decide, by decide +kernel, by decide⟩
def MX8_init : Mt := (8, yX8_init, cX8_init, 2, none)
theorem mkX8_init : Mk MX8_init := fun h => rfl
theorem mwX8_init : MW MX8_init 0 := ⟨tbG_of 958 (by decide +kernel) (by decide +kernel), tbG_of 59 (by decide +kernel) (by decide +kernel), by decide, by decide +kernel, by decide⟩
def MX8_digger : Mt := (8, yX8_digger, cX8_digger, 5, (some (.int)))
theorem mkX8_digger : Mk MX8_digger := fun h => rfl
theorem mwX8_digger : MW MX8_digger 4 := ⟨tbG_of 1065 (by decide +kernel) (by decide +kernel), tbG_of 59 (by decide +kernel) (by decide +kernel), by decide, by decide +kernel, by decide⟩
def MX8_in : Mt := (8, yX8_in, cX8_in, 3, (some (.boolean)))
theorem mkX8_in : Mk MX8_in := fun h => rfl
theorem mwX8_in : MW MX8_in 3 := ⟨tbG_of 1068 (by decide +kernel) (by decide +kernel), tbG_of 59 (by decide +kernel) (by decide +kernel), by decide, by decide +kernel, by decide⟩
def MX8_isBranch : Mt := (8, yX8_isBranch, cX8_isBranch, 1, (some (.boolean)))
theorem mkX8_isBranch : Mk MX8_isBranch := fun h => rfl
theorem mwX8_isBranch : MW MX8_isBranch 1 := ⟨tbG_of 1071 (by decide +kernel) (by decide +kernel), tbG_of 59 (by decide +kernel) (by decide +kernel), by decide, by decide +kernel, by decide⟩
def MX8_comes : Mt := (8, yX8_comes, cX8_comes, 6, (some (.int)))
theorem mkX8_comes : Mk MX8_comes := fun h => rfl
theorem mwX8_comes : MW MX8_comes 4 := ⟨tbG_of 1077 (by decide +kernel) (by decide +kernel), tbG_of 59 (by decide +kernel) (by decide +kernel), by decide, by decide +kernel, by decide⟩
def MX8_put : Mt := (8, yX8_put, cX8_put, 4, none)
theorem mkX8_put : Mk MX8_put := fun h => rfl
theorem mwX8_put : MW MX8_put 3 := ⟨tbG_of 1081 (by decide +kernel) (by decide +kernel), tbG_of 59 (by decide +kernel) (by decide +kernel), by decide, by decide +kernel, by decide⟩
def MX8_told : Mt := (8, yX8_told, cX8_told, 3, (some (.int)))
theorem mkX8_told : Mk MX8_told := fun h => rfl
theorem mwX8_told : MW MX8_told 2 := ⟨tbG_of 1085 (by decide +kernel) (by decide +kernel), tbG_of 59 (by decide +kernel) (by decide +kernel), by decide, by decide +kernel, by decide⟩
def MX8_isDigger : Mt := (8, yX8_isDigger, cX8_isDigger, 2, (some (.boolean)))
theorem mkX8_isDigger : Mk MX8_isDigger := fun h => rfl
theorem mwX8_isDigger : MW MX8_isDigger 1 := ⟨tbG_of 1089 (by decide +kernel) (by decide +kernel), tbG_of 59 (by decide +kernel) (by decide +kernel), by decide, by decide +kernel, by decide⟩
def MX8_of : Mt := (8, yX8_of, cX8_of, 3, (some (.int)))
theorem mkX8_of : Mk MX8_of := fun h => rfl
theorem mwX8_of : MW MX8_of 2 := ⟨tbG_of 1093 (by decide +kernel) (by decide +kernel), tbG_of 59 (by decide +kernel) (by decide +kernel), by decide, by decide +kernel, by decide⟩
def MX8_digsOf : Mt := (8, yX8_digsOf, cX8_digsOf, 3, (some (.int)))
theorem mkX8_digsOf : Mk MX8_digsOf := fun h => rfl
theorem mwX8_digsOf : MW MX8_digsOf 1 := ⟨tbG_of 1097 (by decide +kernel) (by decide +kernel), tbG_of 59 (by decide +kernel) (by decide +kernel), by decide, by decide +kernel, by decide⟩
def MX8_plainDig : Mt := (8, yX8_plainDig, cX8_plainDig, 4, (some (.int)))
theorem mkX8_plainDig : Mk MX8_plainDig := fun h => rfl
theorem mwX8_plainDig : MW MX8_plainDig 1 := ⟨tbG_of 1101 (by decide +kernel) (by decide +kernel), tbG_of 59 (by decide +kernel) (by decide +kernel), by decide, by decide +kernel, by decide⟩
def MX8_counts : Mt := (8, yX8_counts, cX8_counts, 3, (some (.int)))
theorem mkX8_counts : Mk MX8_counts := fun h => rfl
theorem mwX8_counts : MW MX8_counts 1 := ⟨tbG_of 1105 (by decide +kernel) (by decide +kernel), tbG_of 59 (by decide +kernel) (by decide +kernel), by decide, by decide +kernel, by decide⟩
def MX8_at : Mt := (8, yX8_at, cX8_at, 3, (some (.int)))
theorem mkX8_at : Mk MX8_at := fun h => rfl
theorem mwX8_at : MW MX8_at 2 := ⟨tbG_of 1109 (by decide +kernel) (by decide +kernel), tbG_of 59 (by decide +kernel) (by decide +kernel), by decide, by decide +kernel, by decide⟩
def MX8_ahead : Mt := (8, yX8_ahead, cX8_ahead, 2, (some (.int)))
theorem mkX8_ahead : Mk MX8_ahead := fun h => rfl
theorem mwX8_ahead : MW MX8_ahead 1 := ⟨tbG_of 1113 (by decide +kernel) (by decide +kernel), tbG_of 59 (by decide +kernel) (by decide +kernel), by decide, by decide +kernel, by decide⟩
def MX8_litIn : Mt := (8, yX8_litIn, cX8_litIn, 4, (some (.int)))
theorem mkX8_litIn : Mk MX8_litIn := fun h => rfl
theorem mwX8_litIn : MW MX8_litIn 1 := ⟨tbG_of 1117 (by decide +kernel) (by decide +kernel), tbG_of 59 (by decide +kernel) (by decide +kernel), by decide, by decide +kernel, by decide⟩
def MX8_bits : Mt := (8, yX8_bits, cX8_bits, 3, (some (.int)))
theorem mkX8_bits : Mk MX8_bits := fun h => rfl
theorem mwX8_bits : MW MX8_bits 1 := ⟨tbG_of 1120 (by decide +kernel) (by decide +kernel), tbG_of 59 (by decide +kernel) (by decide +kernel), by decide, by decide +kernel, by decide⟩
def MX8_worksOut : Mt := (8, yX8_worksOut, cX8_worksOut, 6, (some (.int)))
theorem mkX8_worksOut : Mk MX8_worksOut := fun h => rfl
theorem mwX8_worksOut : MW MX8_worksOut 1 := ⟨tbG_of 1124 (by decide +kernel) (by decide +kernel), tbG_of 59 (by decide +kernel) (by decide +kernel), by decide, by decide +kernel, by decide⟩
def MX8_two : Mt := (8, yX8_two, cX8_two, 3, (some (.int)))
theorem mkX8_two : Mk MX8_two := fun h => rfl
theorem mwX8_two : MW MX8_two 3 := ⟨tbG_of 1127 (by decide +kernel) (by decide +kernel), tbG_of 59 (by decide +kernel) (by decide +kernel), by decide, by decide +kernel, by decide⟩
def MX8_within : Mt := (8, yX8_within, cX8_within, 3, (some (.int)))
theorem mkX8_within : Mk MX8_within := fun h => rfl
theorem mwX8_within : MW MX8_within 3 := ⟨tbG_of 1130 (by decide +kernel) (by decide +kernel), tbG_of 59 (by decide +kernel) (by decide +kernel), by decide, by decide +kernel, by decide⟩
def MX8_isFarOff : Mt := (8, yX8_isFarOff, cX8_isFarOff, 2, (some (.boolean)))
theorem mkX8_isFarOff : Mk MX8_isFarOff := fun h => rfl
theorem mwX8_isFarOff : MW MX8_isFarOff 1 := ⟨tbG_of 1134 (by decide +kernel) (by decide +kernel), tbG_of 59 (by decide +kernel) (by decide +kernel), by decide, by decide +kernel, by decide⟩
def MX8_fellows : Mt := (8, yX8_fellows, cX8_fellows, 6, (some (.int)))
theorem mkX8_fellows : Mk MX8_fellows := fun h => rfl
theorem mwX8_fellows : MW MX8_fellows 1 := ⟨tbG_of 1138 (by decide +kernel) (by decide +kernel), tbG_of 59 (by decide +kernel) (by decide +kernel), by decide, by decide +kernel, by decide⟩
def MX8_burnsOf : Mt := (8, yX8_burnsOf, cX8_burnsOf, 2, (some (.int)))
theorem mkX8_burnsOf : Mk MX8_burnsOf := fun h => rfl
theorem mwX8_burnsOf : MW MX8_burnsOf 1 := ⟨tbG_of 1142 (by decide +kernel) (by decide +kernel), tbG_of 59 (by decide +kernel) (by decide +kernel), by decide, by decide +kernel, by decide⟩
def MX8_worthOf : Mt := (8, yX8_worthOf, cX8_worthOf, 3, (some (.int)))
theorem mkX8_worthOf : Mk MX8_worthOf := fun h => rfl
theorem mwX8_worthOf : MW MX8_worthOf 1 := ⟨tbG_of 1146 (by decide +kernel) (by decide +kernel), tbG_of 59 (by decide +kernel) (by decide +kernel), by decide, by decide +kernel, by decide⟩
def MX8_as : Mt := (8, yX8_as, cX8_as, 3, (some (.int)))
theorem mkX8_as : Mk MX8_as := fun h => rfl
theorem mwX8_as : MW MX8_as 2 := ⟨tbG_of 1150 (by decide +kernel) (by decide +kernel), tbG_of 59 (by decide +kernel) (by decide +kernel), by decide, by decide +kernel, by decide⟩
def MX8_isUnder : Mt := (8, yX8_isUnder, cX8_isUnder, 2, (some (.boolean)))
theorem mkX8_isUnder : Mk MX8_isUnder := fun h => rfl
theorem mwX8_isUnder : MW MX8_isUnder 2 := ⟨tbG_of 1153 (by decide +kernel) (by decide +kernel), tbG_of 59 (by decide +kernel) (by decide +kernel), by decide, by decide +kernel, by decide⟩
def MX8_turns : Mt := (8, yX8_turns, cX8_turns, 3, (some (.int)))
theorem mkX8_turns : Mk MX8_turns := fun h => rfl
theorem mwX8_turns : MW MX8_turns 2 := ⟨tbG_of 1158 (by decide +kernel) (by decide +kernel), tbG_of 59 (by decide +kernel) (by decide +kernel), by decide, by decide +kernel, by decide⟩
def MX8_swaps : Mt := (8, yX8_swaps, cX8_swaps, 4, (some (.int)))
theorem mkX8_swaps : Mk MX8_swaps := fun h => rfl
theorem mwX8_swaps : MW MX8_swaps 2 := ⟨tbG_of 1162 (by decide +kernel) (by decide +kernel), tbG_of 59 (by decide +kernel) (by decide +kernel), by decide, by decide +kernel, by decide⟩
def MX8_set : Mt := (8, yX8_set, cX8_set, 4, (some (.int)))
theorem mkX8_set : Mk MX8_set := fun h => rfl
theorem mwX8_set : MW MX8_set 3 := ⟨tbG_of 1166 (by decide +kernel) (by decide +kernel), tbG_of 59 (by decide +kernel) (by decide +kernel), by decide, by decide +kernel, by decide⟩
def MX8_sends : Mt := (8, yX8_sends, cX8_sends, 3, (some (.int)))
theorem mkX8_sends : Mk MX8_sends := fun h => rfl
theorem mwX8_sends : MW MX8_sends 2 := ⟨tbG_of 1170 (by decide +kernel) (by decide +kernel), tbG_of 59 (by decide +kernel) (by decide +kernel), by decide, by decide +kernel, by decide⟩
def MX8_branch : Mt := (8, yX8_branch, cX8_branch, 4, (some (.int)))
theorem mkX8_branch : Mk MX8_branch := fun h => rfl
theorem mwX8_branch : MW MX8_branch 3 := ⟨tbG_of 1174 (by decide +kernel) (by decide +kernel), tbG_of 59 (by decide +kernel) (by decide +kernel), by decide, by decide +kernel, by decide⟩
def MX8_mayBe : Mt := (8, yX8_mayBe, cX8_mayBe, 4, (some (.boolean)))
theorem mkX8_mayBe : Mk MX8_mayBe := fun h => rfl
theorem mwX8_mayBe : MW MX8_mayBe 3 := ⟨tbG_of 1178 (by decide +kernel) (by decide +kernel), tbG_of 59 (by decide +kernel) (by decide +kernel), by decide, by decide +kernel, by decide⟩
def MX8_branchOf : Mt := (8, yX8_branchOf, cX8_branchOf, 3, (some (.int)))
theorem mkX8_branchOf : Mk MX8_branchOf := fun h => rfl
theorem mwX8_branchOf : MW MX8_branchOf 2 := ⟨tbG_of 1182 (by decide +kernel) (by decide +kernel), tbG_of 59 (by decide +kernel) (by decide +kernel), by decide, by decide +kernel, by decide⟩
def MX8_diggersIn : Mt := (8, yX8_diggersIn, cX8_diggersIn, 4, (some (.int)))
theorem mkX8_diggersIn : Mk MX8_diggersIn := fun h => rfl
theorem mwX8_diggersIn : MW MX8_diggersIn 1 := ⟨tbG_of 1186 (by decide +kernel) (by decide +kernel), tbG_of 59 (by decide +kernel) (by decide +kernel), by decide, by decide +kernel, by decide⟩
def MX8_allDigs : Mt := (8, yX8_allDigs, cX8_allDigs, 5, (some (.int)))
theorem mkX8_allDigs : Mk MX8_allDigs := fun h => rfl
theorem mwX8_allDigs : MW MX8_allDigs 1 := ⟨tbG_of 1190 (by decide +kernel) (by decide +kernel), tbG_of 59 (by decide +kernel) (by decide +kernel), by decide, by decide +kernel, by decide⟩
def MX8_rule : Mt := (8, yX8_rule, cX8_rule, 3, (some (.int)))
theorem mkX8_rule : Mk MX8_rule := fun h => rfl
theorem mwX8_rule : MW MX8_rule 2 := ⟨tbG_of 1194 (by decide +kernel) (by decide +kernel), tbG_of 59 (by decide +kernel) (by decide +kernel), by decide, by decide +kernel, by decide⟩
def MX8_deal : Mt := (8, yX8_deal, cX8_deal, 7, (some (.int)))
theorem mkX8_deal : Mk MX8_deal := fun h => rfl
theorem mwX8_deal : MW MX8_deal 1 := ⟨tbG_of 1198 (by decide +kernel) (by decide +kernel), tbG_of 59 (by decide +kernel) (by decide +kernel), by decide, by decide +kernel, by decide⟩
def MX8_draw : Mt := (8, yX8_draw, cX8_draw, 1, (some (.int)))
theorem mkX8_draw : Mk MX8_draw := fun h => rfl
theorem mwX8_draw : MW MX8_draw 0 := ⟨tbG_of 1202 (by decide +kernel) (by decide +kernel), tbG_of 59 (by decide +kernel) (by decide +kernel), by decide, by decide +kernel, by decide⟩
def MX8_seed : Mt := (8, yX8_seed, cX8_seed, 2, (some (.int)))
theorem mkX8_seed : Mk MX8_seed := fun h => rfl
theorem mwX8_seed : MW MX8_seed 1 := ⟨tbG_of 1207 (by decide +kernel) (by decide +kernel), tbG_of 59 (by decide +kernel) (by decide +kernel), by decide, by decide +kernel, by decide⟩
def MX8_nights : Mt := (8, yX8_nights, cX8_nights, 3, (some (.int)))
theorem mkX8_nights : Mk MX8_nights := fun h => rfl
theorem mwX8_nights : MW MX8_nights 1 := ⟨tbG_of 1211 (by decide +kernel) (by decide +kernel), tbG_of 59 (by decide +kernel) (by decide +kernel), by decide, by decide +kernel, by decide⟩
def MX8_sums : Mt := (8, yX8_sums, cX8_sums, 4, (some (.int)))
theorem mkX8_sums : Mk MX8_sums := fun h => rfl
theorem mwX8_sums : MW MX8_sums 1 := ⟨tbG_of 1215 (by decide +kernel) (by decide +kernel), tbG_of 59 (by decide +kernel) (by decide +kernel), by decide, by decide +kernel, by decide⟩
def MX8_goesOn : Mt := (8, yX8_goesOn, cX8_goesOn, 3, none)
theorem mkX8_goesOn : Mk MX8_goesOn := fun h => rfl
theorem mwX8_goesOn : MW MX8_goesOn 1 := ⟨tbG_of 1219 (by decide +kernel) (by decide +kernel), tbG_of 59 (by decide +kernel) (by decide +kernel), by decide, by decide +kernel, by decide⟩
def MX8_night : Mt := (8, yX8_night, cX8_night, 2, none)
theorem mkX8_night : Mk MX8_night := fun h => rfl
theorem mwX8_night : MW MX8_night 0 := ⟨tbG_of 1223 (by decide +kernel) (by decide +kernel), tbG_of 59 (by decide +kernel) (by decide +kernel), by decide, by decide +kernel, by decide⟩
def MX8_digs : Mt := (8, yX8_digs, cX8_digs, 5, none)
theorem mkX8_digs : Mk MX8_digs := fun h => rfl
theorem mwX8_digs : MW MX8_digs 1 := ⟨tbG_of 1227 (by decide +kernel) (by decide +kernel), tbG_of 59 (by decide +kernel) (by decide +kernel), by decide, by decide +kernel, by decide⟩
def MX8_warder : Mt := (8, yX8_warder, cX8_warder, 4, none)
theorem mkX8_warder : Mk MX8_warder := fun h => rfl
theorem mwX8_warder : MW MX8_warder 1 := ⟨tbG_of 1231 (by decide +kernel) (by decide +kernel), tbG_of 59 (by decide +kernel) (by decide +kernel), by decide, by decide +kernel, by decide⟩
def MX8_below : Mt := (8, yX8_below, cX8_below, 2, (some (.int)))
theorem mkX8_below : Mk MX8_below := fun h => rfl
theorem mwX8_below : MW MX8_below 1 := ⟨tbG_of 1235 (by decide +kernel) (by decide +kernel), tbG_of 59 (by decide +kernel) (by decide +kernel), by decide, by decide +kernel, by decide⟩
def MX8_peopled : Mt := (8, yX8_peopled, cX8_peopled, 3, (some (.int)))
theorem mkX8_peopled : Mk MX8_peopled := fun h => rfl
theorem mwX8_peopled : MW MX8_peopled 0 := ⟨tbG_of 1239 (by decide +kernel) (by decide +kernel), tbG_of 59 (by decide +kernel) (by decide +kernel), by decide, by decide +kernel, by decide⟩
def MX8_front : Mt := (8, yX8_front, cX8_front, 3, (some (.int)))
theorem mkX8_front : Mk MX8_front := fun h => rfl
theorem mwX8_front : MW MX8_front 0 := ⟨tbG_of 1243 (by decide +kernel) (by decide +kernel), tbG_of 59 (by decide +kernel) (by decide +kernel), by decide, by decide +kernel, by decide⟩
def MX8_behind : Mt := (8, yX8_behind, cX8_behind, 4, (some (.int)))
theorem mkX8_behind : Mk MX8_behind := fun h => rfl
theorem mwX8_behind : MW MX8_behind 2 := ⟨tbG_of 1247 (by decide +kernel) (by decide +kernel), tbG_of 59 (by decide +kernel) (by decide +kernel), by decide, by decide +kernel, by decide⟩
def MX8_thinks : Mt := (8, yX8_thinks, cX8_thinks, 1, none)
theorem mkX8_thinks : Mk MX8_thinks := fun h => rfl
theorem mwX8_thinks : MW MX8_thinks 0 := ⟨tbG_of 1251 (by decide +kernel) (by decide +kernel), tbG_of 59 (by decide +kernel) (by decide +kernel), by decide, by decide +kernel, by decide⟩
def MX8_copyAll : Mt := (8, yX8_copyAll, cX8_copyAll, 3, none)
theorem mkX8_copyAll : Mk MX8_copyAll := fun h => rfl
theorem mwX8_copyAll : MW MX8_copyAll 2 := ⟨tbG_of 1254 (by decide +kernel) (by decide +kernel), tbG_of 59 (by decide +kernel) (by decide +kernel), by decide, by decide +kernel, by decide⟩
def MX8_putsBack : Mt := (8, yX8_putsBack, cX8_putsBack, 1, none)
theorem mkX8_putsBack : Mk MX8_putsBack := fun h => rfl
theorem mwX8_putsBack : MW MX8_putsBack 0 := ⟨tbG_of 1258 (by decide +kernel) (by decide +kernel), tbG_of 59 (by decide +kernel) (by decide +kernel), by decide, by decide +kernel, by decide⟩
def MX8_reaches : Mt := (8, yX8_reaches, cX8_reaches, 4, (some (.int)))
theorem mkX8_reaches : Mk MX8_reaches := fun h => rfl
theorem mwX8_reaches : MW MX8_reaches 2 := ⟨tbG_of 1262 (by decide +kernel) (by decide +kernel), tbG_of 59 (by decide +kernel) (by decide +kernel), by decide, by decide +kernel, by decide⟩
def MX8_leaves : Mt := (8, yX8_leaves, cX8_leaves, 4, (some (.int)))
theorem mkX8_leaves : Mk MX8_leaves := fun h => rfl
theorem mwX8_leaves : MW MX8_leaves 1 := ⟨tbG_of 1267 (by decide +kernel) (by decide +kernel), tbG_of 59 (by decide +kernel) (by decide +kernel), by decide, by decide +kernel, by decide⟩
def MX8_light : Mt := (8, yX8_light, cX8_light, 6, (some (.int)))
theorem mkX8_light : Mk MX8_light := fun h => rfl
theorem mwX8_light : MW MX8_light 2 := ⟨tbG_of 1271 (by decide +kernel) (by decide +kernel), tbG_of 59 (by decide +kernel) (by decide +kernel), by decide, by decide +kernel, by decide⟩
def MX8_isHigh : Mt := (8, yX8_isHigh, cX8_isHigh, 5, (some (.boolean)))
theorem mkX8_isHigh : Mk MX8_isHigh := fun h => rfl
theorem mwX8_isHigh : MW MX8_isHigh 3 := ⟨tbG_of 1275 (by decide +kernel) (by decide +kernel), tbG_of 59 (by decide +kernel) (by decide +kernel), by decide, by decide +kernel, by decide⟩
def MX8_wax : Mt := (8, yX8_wax, cX8_wax, 5, (some (.int)))
theorem mkX8_wax : Mk MX8_wax := fun h => rfl
theorem mwX8_wax : MW MX8_wax 3 := ⟨tbG_of 1279 (by decide +kernel) (by decide +kernel), tbG_of 59 (by decide +kernel) (by decide +kernel), by decide, by decide +kernel, by decide⟩
def MX8_earthOn : Mt := (8, yX8_earthOn, cX8_earthOn, 4, (some (.int)))
theorem mkX8_earthOn : Mk MX8_earthOn := fun h => rfl
theorem mwX8_earthOn : MW MX8_earthOn 2 := ⟨tbG_of 1283 (by decide +kernel) (by decide +kernel), tbG_of 59 (by decide +kernel) (by decide +kernel), by decide, by decide +kernel, by decide⟩
def MX8_sent : Mt := (8, yX8_sent, cX8_sent, 4, (some (.int)))
theorem mkX8_sent : Mk MX8_sent := fun h => rfl
theorem mwX8_sent : MW MX8_sent 3 := ⟨tbG_of 1287 (by decide +kernel) (by decide +kernel), tbG_of 59 (by decide +kernel) (by decide +kernel), by decide, by decide +kernel, by decide⟩
def MX8_bestOf : Mt := (8, yX8_bestOf, cX8_bestOf, 10, (some (.int)))
theorem mkX8_bestOf : Mk MX8_bestOf := fun h => rfl
theorem mwX8_bestOf : MW MX8_bestOf 5 := ⟨tbG_of 1291 (by decide +kernel) (by decide +kernel), tbG_of 59 (by decide +kernel) (by decide +kernel), by decide, by decide +kernel, by decide⟩
def MX8_becomes : Mt := (8, yX8_becomes, cX8_becomes, 4, (some (.int)))
theorem mkX8_becomes : Mk MX8_becomes := fun h => rfl
theorem mwX8_becomes : MW MX8_becomes 3 := ⟨tbG_of 1295 (by decide +kernel) (by decide +kernel), tbG_of 59 (by decide +kernel) (by decide +kernel), by decide, by decide +kernel, by decide⟩
def MX8_like : Mt := (8, yX8_like, cX8_like, 6, (some (.int)))
theorem mkX8_like : Mk MX8_like := fun h => rfl
theorem mwX8_like : MW MX8_like 2 := ⟨tbG_of 1299 (by decide +kernel) (by decide +kernel), tbG_of 59 (by decide +kernel) (by decide +kernel), by decide, by decide +kernel, by decide⟩
def MX8_isSheet : Mt := (8, yX8_isSheet, cX8_isSheet, 1, (some (.boolean)))
theorem mkX8_isSheet : Mk MX8_isSheet := fun h => rfl
theorem mwX8_isSheet : MW MX8_isSheet 1 := ⟨tbG_of 1302 (by decide +kernel) (by decide +kernel), tbG_of 59 (by decide +kernel) (by decide +kernel), by decide, by decide +kernel, by decide⟩
def MX8_off : Mt := (8, yX8_off, cX8_off, 1, (some (.int)))
theorem mkX8_off : Mk MX8_off := fun h => rfl
theorem mwX8_off : MW MX8_off 1 := ⟨tbG_of 1306 (by decide +kernel) (by decide +kernel), tbG_of 59 (by decide +kernel) (by decide +kernel), by decide, by decide +kernel, by decide⟩
def MX8_fee : Mt := (8, yX8_fee, cX8_fee, 2, (some (.int)))
theorem mkX8_fee : Mk MX8_fee := fun h => rfl
theorem mwX8_fee : MW MX8_fee 0 := ⟨tbG_of 1310 (by decide +kernel) (by decide +kernel), tbG_of 59 (by decide +kernel) (by decide +kernel), by decide, by decide +kernel, by decide⟩
def MX8_fine : Mt := (8, yX8_fine, cX8_fine, 3, (some (.int)))
theorem mkX8_fine : Mk MX8_fine := fun h => rfl
theorem mwX8_fine : MW MX8_fine 1 := ⟨tbG_of 1314 (by decide +kernel) (by decide +kernel), tbG_of 59 (by decide +kernel) (by decide +kernel), by decide, by decide +kernel, by decide⟩
def MX8_feed : Mt := (8, yX8_feed, cX8_feed, 6, (some (.int)))
theorem mkX8_feed : Mk MX8_feed := fun h => rfl
theorem mwX8_feed : MW MX8_feed 3 := ⟨tbG_of 1318 (by decide +kernel) (by decide +kernel), tbG_of 59 (by decide +kernel) (by decide +kernel), by decide, by decide +kernel, by decide⟩
def MX8_trim : Mt := (8, yX8_trim, cX8_trim, 2, (some (.int)))
theorem mkX8_trim : Mk MX8_trim := fun h => rfl
theorem mwX8_trim : MW MX8_trim 1 := ⟨tbG_of 1322 (by decide +kernel) (by decide +kernel), tbG_of 59 (by decide +kernel) (by decide +kernel), by decide, by decide +kernel, by decide⟩
def MX8_text : Mt := (8, yX8_text, cX8_text, 4, (some (.int)))
theorem mkX8_text : Mk MX8_text := fun h => rfl
theorem mwX8_text : MW MX8_text 0 := ⟨tbG_of 1326 (by decide +kernel) (by decide +kernel), tbG_of 59 (by decide +kernel) (by decide +kernel), by decide, by decide +kernel, by decide⟩
def MX8_go : Mt := (8, yX8_go, cX8_go, 2, none)
theorem mkX8_go : Mk MX8_go := fun h => rfl
theorem mwX8_go : MW MX8_go 0 := ⟨tbG_of 1330 (by decide +kernel) (by decide +kernel), tbG_of 59 (by decide +kernel) (by decide +kernel), by decide, by decide +kernel, by decide⟩
def MX8_isLetter : Mt := (8, yX8_isLetter, cX8_isLetter, 2, (some (.boolean)))
theorem mkX8_isLetter : Mk MX8_isLetter := fun h => rfl
theorem mwX8_isLetter : MW MX8_isLetter 1 := ⟨tbG_of 1334 (by decide +kernel) (by decide +kernel), tbG_of 59 (by decide +kernel) (by decide +kernel), by decide, by decide +kernel, by decide⟩
def MX8_isFigure : Mt := (8, yX8_isFigure, cX8_isFigure, 2, (some (.boolean)))
theorem mkX8_isFigure : Mk MX8_isFigure := fun h => rfl
theorem mwX8_isFigure : MW MX8_isFigure 1 := ⟨tbG_of 1338 (by decide +kernel) (by decide +kernel), tbG_of 59 (by decide +kernel) (by decide +kernel), by decide, by decide +kernel, by decide⟩
def MX8_takesKey : Mt := (8, yX8_takesKey, cX8_takesKey, 5, (some (.boolean)))
theorem mkX8_takesKey : Mk MX8_takesKey := fun h => rfl
theorem mwX8_takesKey : MW MX8_takesKey 0 := ⟨tbG_of 1342 (by decide +kernel) (by decide +kernel), tbG_of 59 (by decide +kernel) (by decide +kernel), by decide, by decide +kernel, by decide⟩
def MX8_takesE : Mt := (8, yX8_takesE, cX8_takesE, 5, (some (.boolean)))
theorem mkX8_takesE : Mk MX8_takesE := fun h => rfl
theorem mwX8_takesE : MW MX8_takesE 0 := ⟨tbG_of 1346 (by decide +kernel) (by decide +kernel), tbG_of 59 (by decide +kernel) (by decide +kernel), by decide, by decide +kernel, by decide⟩
def MX8_takesPart : Mt := (8, yX8_takesPart, cX8_takesPart, 2, (some (.boolean)))
theorem mkX8_takesPart : Mk MX8_takesPart := fun h => rfl
theorem mwX8_takesPart : MW MX8_takesPart 0 := ⟨tbG_of 1350 (by decide +kernel) (by decide +kernel), tbG_of 59 (by decide +kernel) (by decide +kernel), by decide, by decide +kernel, by decide⟩
def MX8_nameOf : Mt := (8, yX8_nameOf, cX8_nameOf, 2, (some (.int)))
theorem mkX8_nameOf : Mk MX8_nameOf := fun h => rfl
theorem mwX8_nameOf : MW MX8_nameOf 1 := ⟨tbG_of 1354 (by decide +kernel) (by decide +kernel), tbG_of 59 (by decide +kernel) (by decide +kernel), by decide, by decide +kernel, by decide⟩
def MX8_settle : Mt := (8, yX8_settle, cX8_settle, 2, none)
theorem mkX8_settle : Mk MX8_settle := fun h => rfl
theorem mwX8_settle : MW MX8_settle 1 := ⟨tbG_of 1358 (by decide +kernel) (by decide +kernel), tbG_of 59 (by decide +kernel) (by decide +kernel), by decide, by decide +kernel, by decide⟩
def MX8_rank : Mt := (8, yX8_rank, cX8_rank, 1, (some (.int)))
theorem mkX8_rank : Mk MX8_rank := fun h => rfl
theorem mwX8_rank : MW MX8_rank 1 := ⟨tbG_of 1361 (by decide +kernel) (by decide +kernel), tbG_of 59 (by decide +kernel) (by decide +kernel), by decide, by decide +kernel, by decide⟩
def MX8_notsOpen : Mt := (8, yX8_notsOpen, cX8_notsOpen, 3, (some (.int)))
theorem mkX8_notsOpen : Mk MX8_notsOpen := fun h => rfl
theorem mwX8_notsOpen : MW MX8_notsOpen 0 := ⟨tbG_of 1365 (by decide +kernel) (by decide +kernel), tbG_of 59 (by decide +kernel) (by decide +kernel), by decide, by decide +kernel, by decide⟩
def MX8_signHere : Mt := (8, yX8_signHere, cX8_signHere, 1, (some (.int)))
theorem mkX8_signHere : Mk MX8_signHere := fun h => rfl
theorem mwX8_signHere : MW MX8_signHere 0 := ⟨tbG_of 1369 (by decide +kernel) (by decide +kernel), tbG_of 59 (by decide +kernel) (by decide +kernel), by decide, by decide +kernel, by decide⟩
def MX8_textTold : Mt := (8, yX8_textTold, cX8_textTold, 3, (some (.int)))
theorem mkX8_textTold : Mk MX8_textTold := fun h => rfl
theorem mwX8_textTold : MW MX8_textTold 2 := ⟨tbG_of 1373 (by decide +kernel) (by decide +kernel), tbG_of 59 (by decide +kernel) (by decide +kernel), by decide, by decide +kernel, by decide⟩
def MX8_why : Mt := (8, yX8_why, cX8_why, 3, (some (.int)))
theorem mkX8_why : Mk MX8_why := fun h => rfl
theorem mwX8_why : MW MX8_why 1 := ⟨tbG_of 1377 (by decide +kernel) (by decide +kernel), tbG_of 59 (by decide +kernel) (by decide +kernel), by decide, by decide +kernel, by decide⟩
def MX8_sheet : Mt := (8, yX8_sheet, cX8_sheet, 5, (some (.int)))
theorem mkX8_sheet : Mk MX8_sheet := fun h => rfl
theorem mwX8_sheet : MW MX8_sheet 3 := ⟨tbG_of 1381 (by decide +kernel) (by decide +kernel), tbG_of 59 (by decide +kernel) (by decide +kernel), by decide, by decide +kernel, by decide⟩
def MX8_mark : Mt := (8, yX8_mark, cX8_mark, 4, (some (.int)))
theorem mkX8_mark : Mk MX8_mark := fun h => rfl
theorem mwX8_mark : MW MX8_mark 3 := ⟨tbG_of 1386 (by decide +kernel) (by decide +kernel), tbG_of 59 (by decide +kernel) (by decide +kernel), by decide, by decide +kernel, by decide⟩
def MX8_pour : Mt := (8, yX8_pour, cX8_pour, 6, (some (.int)))
theorem mkX8_pour : Mk MX8_pour := fun h => rfl
theorem mwX8_pour : MW MX8_pour 1 := ⟨tbG_of 1393 (by decide +kernel) (by decide +kernel), tbG_of 59 (by decide +kernel) (by decide +kernel), by decide, by decide +kernel, by decide⟩
def MX8_reads : Mt := (8, yX8_reads, cX8_reads, 4, (some (.int)))
theorem mkX8_reads : Mk MX8_reads := fun h => rfl
theorem mwX8_reads : MW MX8_reads 1 := ⟨tbG_of 1397 (by decide +kernel) (by decide +kernel), tbG_of 59 (by decide +kernel) (by decide +kernel), by decide, by decide +kernel, by decide⟩
def MX8_copy : Mt := (8, yX8_copy, cX8_copy, 7, (some (.int)))
theorem mkX8_copy : Mk MX8_copy := fun h => rfl
theorem mwX8_copy : MW MX8_copy 5 := ⟨tbG_of 1401 (by decide +kernel) (by decide +kernel), tbG_of 59 (by decide +kernel) (by decide +kernel), by decide, by decide +kernel, by decide⟩
def MX8_lay : Mt := (8, yX8_lay, cX8_lay, 6, (some (.int)))
theorem mkX8_lay : Mk MX8_lay := fun h => rfl
theorem mwX8_lay : MW MX8_lay 3 := ⟨tbG_of 1405 (by decide +kernel) (by decide +kernel), tbG_of 59 (by decide +kernel) (by decide +kernel), by decide, by decide +kernel, by decide⟩
def MX8_isSlot : Mt := (8, yX8_isSlot, cX8_isSlot, 1, (some (.boolean)))
theorem mkX8_isSlot : Mk MX8_isSlot := fun h => rfl
theorem mwX8_isSlot : MW MX8_isSlot 1 := ⟨tbG_of 1408 (by decide +kernel) (by decide +kernel), tbG_of 59 (by decide +kernel) (by decide +kernel), by decide, by decide +kernel, by decide⟩
def MX8_ask : Mt := (8, yX8_ask, cX8_ask, 3, (some (.int)))
theorem mkX8_ask : Mk MX8_ask := fun h => rfl
theorem mwX8_ask : MW MX8_ask 2 := ⟨tbG_of 1412 (by decide +kernel) (by decide +kernel), tbG_of 59 (by decide +kernel) (by decide +kernel), by decide, by decide +kernel, by decide⟩
def MX8_item : Mt := (8, yX8_item, cX8_item, 4, (some (.int)))
theorem mkX8_item : Mk MX8_item := fun h => rfl
theorem mwX8_item : MW MX8_item 2 := ⟨tbG_of 1416 (by decide +kernel) (by decide +kernel), tbG_of 59 (by decide +kernel) (by decide +kernel), by decide, by decide +kernel, by decide⟩
def MX8_rest : Mt := (8, yX8_rest, cX8_rest, 3, (some (.int)))
theorem mkX8_rest : Mk MX8_rest := fun h => rfl
theorem mwX8_rest : MW MX8_rest 2 := ⟨tbG_of 1420 (by decide +kernel) (by decide +kernel), tbG_of 59 (by decide +kernel) (by decide +kernel), by decide, by decide +kernel, by decide⟩
def MX8_tell : Mt := (8, yX8_tell, cX8_tell, 2, (some (.int)))
theorem mkX8_tell : Mk MX8_tell := fun h => rfl
theorem mwX8_tell : MW MX8_tell 1 := ⟨tbG_of 1425 (by decide +kernel) (by decide +kernel), tbG_of 59 (by decide +kernel) (by decide +kernel), by decide, by decide +kernel, by decide⟩
def MX8_check : Mt := (8, yX8_check, cX8_check, 6, (some (.int)))
theorem mkX8_check : Mk MX8_check := fun h => rfl
theorem mwX8_check : MW MX8_check 1 := ⟨tbG_of 1429 (by decide +kernel) (by decide +kernel), tbG_of 59 (by decide +kernel) (by decide +kernel), by decide, by decide +kernel, by decide⟩
def MX8_allDug : Mt := (8, yX8_allDug, cX8_allDug, 3, (some (.int)))
theorem mkX8_allDug : Mk MX8_allDug := fun h => rfl
theorem mwX8_allDug : MW MX8_allDug 0 := ⟨tbG_of 1433 (by decide +kernel) (by decide +kernel), tbG_of 59 (by decide +kernel) (by decide +kernel), by decide, by decide +kernel, by decide⟩
def MX8_keep : Mt := (8, yX8_keep, cX8_keep, 1, (some (.int)))
theorem mkX8_keep : Mk MX8_keep := fun h => rfl
theorem mwX8_keep : MW MX8_keep 0 := ⟨tbG_of 1437 (by decide +kernel) (by decide +kernel), tbG_of 59 (by decide +kernel) (by decide +kernel), by decide, by decide +kernel, by decide⟩
def MX8_back : Mt := (8, yX8_back, cX8_back, 1, (some (.int)))
theorem mkX8_back : Mk MX8_back := fun h => rfl
theorem mwX8_back : MW MX8_back 0 := ⟨tbG_of 1441 (by decide +kernel) (by decide +kernel), tbG_of 59 (by decide +kernel) (by decide +kernel), by decide, by decide +kernel, by decide⟩
def MX8_count : Mt := (8, yX8_count, cX8_count, 2, (some (.int)))
theorem mkX8_count : Mk MX8_count := fun h => rfl
theorem mwX8_count : MW MX8_count 1 := ⟨tbG_of 1445 (by decide +kernel) (by decide +kernel), tbG_of 59 (by decide +kernel) (by decide +kernel), by decide, by decide +kernel, by decide⟩
theorem kiL_9 : KI RL 9 MX7_init 0 := ⟨mwX7_init, tbG_of 71 (by decide +kernel) (by decide +kernel), rfl, rfl, Or.inl (tbG_of 70 (by decide +kernel) (by decide +kernel))⟩
theorem kiX7_9 : KI RX7 9 MX6_init 0 := ⟨mwX6_init, tbG_of 79 (by decide +kernel) (by decide +kernel), rfl, rfl, Or.inl (tbG_of 78 (by decide +kernel) (by decide +kernel))⟩
theorem kiX7_18 : KI RX7 18 MX3_init 0 := ⟨mwX3_init, tbG_of 107 (by decide +kernel) (by decide +kernel), rfl, rfl, Or.inl (tbG_of 106 (by decide +kernel) (by decide +kernel))⟩
theorem kiX7_25 : KI RX7 25 MX2_init 1 := ⟨mwX2_init, tbG_of 156 (by decide +kernel) (by decide +kernel), rfl, rfl, Or.inl (tbG_of 155 (by decide +kernel) (by decide +kernel))⟩
theorem kiX2_21 : KI RX2 21 MX0_init 0 := ⟨mwX0_init, tbG_of 163 (by decide +kernel) (by decide +kernel), rfl, rfl, Or.inl (tbG_of 162 (by decide +kernel) (by decide +kernel))⟩
theorem kiX7_44 : KI RX7 44 MX4_init 0 := ⟨mwX4_init, tbG_of 268 (by decide +kernel) (by decide +kernel), rfl, rfl, Or.inl (tbG_of 267 (by decide +kernel) (by decide +kernel))⟩
theorem kiX7_51 : KI RX7 51 MX5_init 0 := ⟨mwX5_init, tbG_of 288 (by decide +kernel) (by decide +kernel), rfl, rfl, Or.inl (tbG_of 287 (by decide +kernel) (by decide +kernel))⟩
theorem kiX5_18 : KI RX5 18 MX4_init 0 := ⟨mwX4_init, tbG_of 268 (by decide +kernel) (by decide +kernel), rfl, rfl, Or.inl (tbG_of 294 (by decide +kernel) (by decide +kernel))⟩
theorem kvL_13 : KV RL 13 MX7_digger 7 4 := ⟨mwX7_digger, tbG_of 342 (by decide +kernel) (by decide +kernel), tbG_of 343 (by decide +kernel) (by decide +kernel), tbG_of 341 (by decide +kernel) (by decide +kernel), by decide, TX7, _, rfl⟩
theorem ksX7_64 : KS RX7 64 MX7_isKind 1 := ⟨mwX7_isKind, tbG_of 346 (by decide +kernel) (by decide +kernel), Or.inl (tbG_of 345 (by decide +kernel) (by decide +kernel))⟩
theorem ksX7_68 : KS RX7 68 MX7_within 3 := ⟨mwX7_within, tbG_of 349 (by decide +kernel) (by decide +kernel), Or.inl (tbG_of 348 (by decide +kernel) (by decide +kernel))⟩
theorem ksX7_72 : KS RX7 72 MX7_isBranch 1 := ⟨mwX7_isBranch, tbG_of 352 (by decide +kernel) (by decide +kernel), Or.inl (tbG_of 351 (by decide +kernel) (by decide +kernel))⟩
theorem kvX7_79 : KV RX7 79 MX2_add 2 4 := ⟨mwX2_add, tbG_of 356 (by decide +kernel) (by decide +kernel), tbG_of 357 (by decide +kernel) (by decide +kernel), tbG_of 355 (by decide +kernel) (by decide +kernel), by decide, TX2, _, rfl⟩
theorem kvL_18 : KV RL 18 MX7_told 7 2 := ⟨mwX7_told, tbG_of 362 (by decide +kernel) (by decide +kernel), tbG_of 363 (by decide +kernel) (by decide +kernel), tbG_of 361 (by decide +kernel) (by decide +kernel), by decide, TX7, _, rfl⟩
theorem kvX7_84 : KV RX7 84 MX7_isDigger 7 1 := ⟨mwX7_isDigger, tbG_of 367 (by decide +kernel) (by decide +kernel), tbG_of 0 (by decide +kernel) (by decide +kernel), tbG_of 365 (by decide +kernel) (by decide +kernel), by decide, TX7, _, rfl⟩
theorem kvX7_108 : KV RX7 108 MX2_digs 2 1 := ⟨mwX2_digs, tbG_of 370 (by decide +kernel) (by decide +kernel), tbG_of 371 (by decide +kernel) (by decide +kernel), tbG_of 369 (by decide +kernel) (by decide +kernel), by decide, TX2, _, rfl⟩
theorem kvX2_151 : KV RX2 151 MX2_plain 2 1 := ⟨mwX2_plain, tbG_of 374 (by decide +kernel) (by decide +kernel), tbG_of 375 (by decide +kernel) (by decide +kernel), tbG_of 373 (by decide +kernel) (by decide +kernel), by decide, TX2, _, rfl⟩
theorem kvX2_168 : KV RX2 168 MX6_put 6 2 := ⟨mwX6_put, tbG_of 387 (by decide +kernel) (by decide +kernel), tbG_of 388 (by decide +kernel) (by decide +kernel), tbG_of 386 (by decide +kernel) (by decide +kernel), by decide, TX6, _, rfl⟩
theorem kvX2_162 : KV RX2 162 MX0_ahead 0 0 := ⟨mwX0_ahead, tbG_of 391 (by decide +kernel) (by decide +kernel), tbG_of 392 (by decide +kernel) (by decide +kernel), tbG_of 390 (by decide +kernel) (by decide +kernel), by decide, TX0, _, rfl⟩
theorem kvX2_172 : KV RX2 172 MX2_litIn 2 1 := ⟨mwX2_litIn, tbG_of 395 (by decide +kernel) (by decide +kernel), tbG_of 396 (by decide +kernel) (by decide +kernel), tbG_of 394 (by decide +kernel) (by decide +kernel), by decide, TX2, _, rfl⟩
theorem kvX2_116 : KV RX2 116 MX1_isLit 1 0 := ⟨mwX1_isLit, tbG_of 399 (by decide +kernel) (by decide +kernel), tbG_of 400 (by decide +kernel) (by decide +kernel), tbG_of 398 (by decide +kernel) (by decide +kernel), by decide, TX1, _, rfl⟩
theorem kvX2_175 : KV RX2 175 MX6_gives 6 1 := ⟨mwX6_gives, tbG_of 403 (by decide +kernel) (by decide +kernel), tbG_of 404 (by decide +kernel) (by decide +kernel), tbG_of 402 (by decide +kernel) (by decide +kernel), by decide, TX6, _, rfl⟩
theorem ksX6_43 : KS RX6 43 MX6_joined 3 := ⟨mwX6_joined, tbG_of 407 (by decide +kernel) (by decide +kernel), Or.inl (tbG_of 406 (by decide +kernel) (by decide +kernel))⟩
theorem kvX2_155 : KV RX2 155 MX2_isFar 2 1 := ⟨mwX2_isFar, tbG_of 410 (by decide +kernel) (by decide +kernel), tbG_of 411 (by decide +kernel) (by decide +kernel), tbG_of 409 (by decide +kernel) (by decide +kernel), by decide, TX2, _, rfl⟩
theorem kvX2_159 : KV RX2 159 MX2_matesOf 2 1 := ⟨mwX2_matesOf, tbG_of 414 (by decide +kernel) (by decide +kernel), tbG_of 415 (by decide +kernel) (by decide +kernel), tbG_of 413 (by decide +kernel) (by decide +kernel), by decide, TX2, _, rfl⟩
theorem kvX2_181 : KV RX2 181 MX1_isOne 1 1 := ⟨mwX1_isOne, tbG_of 418 (by decide +kernel) (by decide +kernel), tbG_of 419 (by decide +kernel) (by decide +kernel), tbG_of 417 (by decide +kernel) (by decide +kernel), by decide, TX1, _, rfl⟩
theorem kvX7_112 : KV RX7 112 MX2_burns 2 1 := ⟨mwX2_burns, tbG_of 424 (by decide +kernel) (by decide +kernel), tbG_of 425 (by decide +kernel) (by decide +kernel), tbG_of 423 (by decide +kernel) (by decide +kernel), by decide, TX2, _, rfl⟩
theorem kvX7_115 : KV RX7 115 MX1_worth 1 0 := ⟨mwX1_worth, tbG_of 428 (by decide +kernel) (by decide +kernel), tbG_of 429 (by decide +kernel) (by decide +kernel), tbG_of 427 (by decide +kernel) (by decide +kernel), by decide, TX1, _, rfl⟩
theorem kvL_23 : KV RL 23 MX7_as 7 2 := ⟨mwX7_as, tbG_of 432 (by decide +kernel) (by decide +kernel), tbG_of 433 (by decide +kernel) (by decide +kernel), tbG_of 431 (by decide +kernel) (by decide +kernel), by decide, TX7, _, rfl⟩
theorem kvX7_119 : KV RX7 119 MX1_isOne 1 1 := ⟨mwX1_isOne, tbG_of 418 (by decide +kernel) (by decide +kernel), tbG_of 419 (by decide +kernel) (by decide +kernel), tbG_of 435 (by decide +kernel) (by decide +kernel), by decide, TX1, _, rfl⟩
theorem kvL_27 : KV RL 27 MX7_turns 7 2 := ⟨mwX7_turns, tbG_of 438 (by decide +kernel) (by decide +kernel), tbG_of 439 (by decide +kernel) (by decide +kernel), tbG_of 437 (by decide +kernel) (by decide +kernel), by decide, TX7, _, rfl⟩
theorem kvL_31 : KV RL 31 MX7_set 7 3 := ⟨mwX7_set, tbG_of 442 (by decide +kernel) (by decide +kernel), tbG_of 443 (by decide +kernel) (by decide +kernel), tbG_of 441 (by decide +kernel) (by decide +kernel), by decide, TX7, _, rfl⟩
theorem kvL_36 : KV RL 36 MX7_sends 7 2 := ⟨mwX7_sends, tbG_of 446 (by decide +kernel) (by decide +kernel), tbG_of 447 (by decide +kernel) (by decide +kernel), tbG_of 445 (by decide +kernel) (by decide +kernel), by decide, TX7, _, rfl⟩
theorem kvL_40 : KV RL 40 MX7_branch 7 3 := ⟨mwX7_branch, tbG_of 450 (by decide +kernel) (by decide +kernel), tbG_of 451 (by decide +kernel) (by decide +kernel), tbG_of 449 (by decide +kernel) (by decide +kernel), by decide, TX7, _, rfl⟩
theorem kvL_44 : KV RL 44 MX7_branchOf 7 2 := ⟨mwX7_branchOf, tbG_of 454 (by decide +kernel) (by decide +kernel), tbG_of 455 (by decide +kernel) (by decide +kernel), tbG_of 453 (by decide +kernel) (by decide +kernel), by decide, TX7, _, rfl⟩
theorem kvX7_138 : KV RX7 138 MX0_ahead 0 0 := ⟨mwX0_ahead, tbG_of 391 (by decide +kernel) (by decide +kernel), tbG_of 392 (by decide +kernel) (by decide +kernel), tbG_of 457 (by decide +kernel) (by decide +kernel), by decide, TX0, _, rfl⟩
theorem kvX7_141 : KV RX7 141 MX2_diggersIn 2 1 := ⟨mwX2_diggersIn, tbG_of 459 (by decide +kernel) (by decide +kernel), tbG_of 460 (by decide +kernel) (by decide +kernel), tbG_of 458 (by decide +kernel) (by decide +kernel), by decide, TX2, _, rfl⟩
theorem kvX7_144 : KV RX7 144 MX2_digIn 2 1 := ⟨mwX2_digIn, tbG_of 463 (by decide +kernel) (by decide +kernel), tbG_of 464 (by decide +kernel) (by decide +kernel), tbG_of 462 (by decide +kernel) (by decide +kernel), by decide, TX2, _, rfl⟩
theorem kvX2_120 : KV RX2 120 MX2_digs 2 1 := ⟨mwX2_digs, tbG_of 370 (by decide +kernel) (by decide +kernel), tbG_of 371 (by decide +kernel) (by decide +kernel), tbG_of 466 (by decide +kernel) (by decide +kernel), by decide, TX2, _, rfl⟩
theorem kvL_48 : KV RL 48 MX7_rule 7 2 := ⟨mwX7_rule, tbG_of 468 (by decide +kernel) (by decide +kernel), tbG_of 469 (by decide +kernel) (by decide +kernel), tbG_of 467 (by decide +kernel) (by decide +kernel), by decide, TX7, _, rfl⟩
theorem kvL_52 : KV RL 52 MX7_deal 7 1 := ⟨mwX7_deal, tbG_of 472 (by decide +kernel) (by decide +kernel), tbG_of 473 (by decide +kernel) (by decide +kernel), tbG_of 471 (by decide +kernel) (by decide +kernel), by decide, TX7, _, rfl⟩
theorem kvX7_159 : KV RX7 159 MX2_addDrawn 2 0 := ⟨mwX2_addDrawn, tbG_of 476 (by decide +kernel) (by decide +kernel), tbG_of 477 (by decide +kernel) (by decide +kernel), tbG_of 475 (by decide +kernel) (by decide +kernel), by decide, TX2, _, rfl⟩
theorem kvX2_82 : KV RX2 82 MX2_draw 2 0 := ⟨mwX2_draw, tbG_of 480 (by decide +kernel) (by decide +kernel), tbG_of 481 (by decide +kernel) (by decide +kernel), tbG_of 479 (by decide +kernel) (by decide +kernel), by decide, TX2, _, rfl⟩
theorem kvX2_86 : KV RX2 86 MX2_add 2 4 := ⟨mwX2_add, tbG_of 356 (by decide +kernel) (by decide +kernel), tbG_of 357 (by decide +kernel) (by decide +kernel), tbG_of 484 (by decide +kernel) (by decide +kernel), by decide, TX2, _, rfl⟩
theorem kvL_57 : KV RL 57 MX7_seed 7 1 := ⟨mwX7_seed, tbG_of 486 (by decide +kernel) (by decide +kernel), tbG_of 487 (by decide +kernel) (by decide +kernel), tbG_of 485 (by decide +kernel) (by decide +kernel), by decide, TX7, _, rfl⟩
theorem kvL_61 : KV RL 61 MX7_nights 7 1 := ⟨mwX7_nights, tbG_of 490 (by decide +kernel) (by decide +kernel), tbG_of 491 (by decide +kernel) (by decide +kernel), tbG_of 489 (by decide +kernel) (by decide +kernel), by decide, TX7, _, rfl⟩
theorem kvX7_165 : KV RX7 165 MX2_hill 2 0 := ⟨mwX2_hill, tbG_of 494 (by decide +kernel) (by decide +kernel), tbG_of 495 (by decide +kernel) (by decide +kernel), tbG_of 493 (by decide +kernel) (by decide +kernel), by decide, TX2, _, rfl⟩
theorem kvX7_171 : KV RX7 171 MX2_pass 2 1 := ⟨mwX2_pass, tbG_of 498 (by decide +kernel) (by decide +kernel), tbG_of 499 (by decide +kernel) (by decide +kernel), tbG_of 497 (by decide +kernel) (by decide +kernel), by decide, TX2, _, rfl⟩
theorem kvX2_106 : KV RX2 106 MX2_digAll 2 0 := ⟨mwX2_digAll, tbG_of 502 (by decide +kernel) (by decide +kernel), tbG_of 503 (by decide +kernel) (by decide +kernel), tbG_of 501 (by decide +kernel) (by decide +kernel), by decide, TX2, _, rfl⟩
theorem kvX2_124 : KV RX2 124 MX2_burns 2 1 := ⟨mwX2_burns, tbG_of 424 (by decide +kernel) (by decide +kernel), tbG_of 425 (by decide +kernel) (by decide +kernel), tbG_of 505 (by decide +kernel) (by decide +kernel), by decide, TX2, _, rfl⟩
theorem kvX2_109 : KV RX2 109 MX2_follow 2 1 := ⟨mwX2_follow, tbG_of 509 (by decide +kernel) (by decide +kernel), tbG_of 510 (by decide +kernel) (by decide +kernel), tbG_of 508 (by decide +kernel) (by decide +kernel), by decide, TX2, _, rfl⟩
theorem kvX2_142 : KV RX2 142 MX2_diggersIn 2 1 := ⟨mwX2_diggersIn, tbG_of 459 (by decide +kernel) (by decide +kernel), tbG_of 460 (by decide +kernel) (by decide +kernel), tbG_of 512 (by decide +kernel) (by decide +kernel), by decide, TX2, _, rfl⟩
theorem kvX2_145 : KV RX2 145 MX2_flee 2 1 := ⟨mwX2_flee, tbG_of 514 (by decide +kernel) (by decide +kernel), tbG_of 515 (by decide +kernel) (by decide +kernel), tbG_of 513 (by decide +kernel) (by decide +kernel), by decide, TX2, _, rfl⟩
theorem kvX2_113 : KV RX2 113 MX2_letRockFall 2 0 := ⟨mwX2_letRockFall, tbG_of 518 (by decide +kernel) (by decide +kernel), tbG_of 519 (by decide +kernel) (by decide +kernel), tbG_of 517 (by decide +kernel) (by decide +kernel), by decide, TX2, _, rfl⟩
theorem kvL_65 : KV RL 65 MX7_below 7 1 := ⟨mwX7_below, tbG_of 522 (by decide +kernel) (by decide +kernel), tbG_of 523 (by decide +kernel) (by decide +kernel), tbG_of 521 (by decide +kernel) (by decide +kernel), by decide, TX7, _, rfl⟩
theorem kvX7_181 : KV RX7 181 MX2_candlesOfAll 2 0 := ⟨mwX2_candlesOfAll, tbG_of 526 (by decide +kernel) (by decide +kernel), tbG_of 527 (by decide +kernel) (by decide +kernel), tbG_of 525 (by decide +kernel) (by decide +kernel), by decide, TX2, _, rfl⟩
theorem kvX7_184 : KV RX7 184 MX2_branchesInUse 2 0 := ⟨mwX2_branchesInUse, tbG_of 530 (by decide +kernel) (by decide +kernel), tbG_of 531 (by decide +kernel) (by decide +kernel), tbG_of 529 (by decide +kernel) (by decide +kernel), by decide, TX2, _, rfl⟩
theorem kvX7_187 : KV RX7 187 MX2_front 2 0 := ⟨mwX2_front, tbG_of 534 (by decide +kernel) (by decide +kernel), tbG_of 535 (by decide +kernel) (by decide +kernel), tbG_of 533 (by decide +kernel) (by decide +kernel), by decide, TX2, _, rfl⟩
theorem kvL_69 : KV RL 69 MX7_behind 7 2 := ⟨mwX7_behind, tbG_of 538 (by decide +kernel) (by decide +kernel), tbG_of 539 (by decide +kernel) (by decide +kernel), tbG_of 537 (by decide +kernel) (by decide +kernel), by decide, TX7, _, rfl⟩
theorem kvX7_190 : KV RX7 190 MX2_becomeAs 2 1 := ⟨mwX2_becomeAs, tbG_of 542 (by decide +kernel) (by decide +kernel), tbG_of 543 (by decide +kernel) (by decide +kernel), tbG_of 541 (by decide +kernel) (by decide +kernel), by decide, TX2, _, rfl⟩
theorem kvX2_41 : KV RX2 41 MX0_becomeAs 0 1 := ⟨mwX0_becomeAs, tbG_of 546 (by decide +kernel) (by decide +kernel), tbG_of 547 (by decide +kernel) (by decide +kernel), tbG_of 545 (by decide +kernel) (by decide +kernel), by decide, TX0, _, rfl⟩
theorem kvX2_48 : KV RX2 48 MX1_becomeAs 1 1 := ⟨mwX1_becomeAs, tbG_of 550 (by decide +kernel) (by decide +kernel), tbG_of 551 (by decide +kernel) (by decide +kernel), tbG_of 549 (by decide +kernel) (by decide +kernel), by decide, TX1, _, rfl⟩
theorem kvL_73 : KV RL 73 MX7_reaches 7 2 := ⟨mwX7_reaches, tbG_of 554 (by decide +kernel) (by decide +kernel), tbG_of 555 (by decide +kernel) (by decide +kernel), tbG_of 553 (by decide +kernel) (by decide +kernel), by decide, TX7, _, rfl⟩
theorem kvL_77 : KV RL 77 MX7_leaves 7 1 := ⟨mwX7_leaves, tbG_of 559 (by decide +kernel) (by decide +kernel), tbG_of 560 (by decide +kernel) (by decide +kernel), tbG_of 558 (by decide +kernel) (by decide +kernel), by decide, TX7, _, rfl⟩
theorem kvL_81 : KV RL 81 MX7_light 7 2 := ⟨mwX7_light, tbG_of 563 (by decide +kernel) (by decide +kernel), tbG_of 564 (by decide +kernel) (by decide +kernel), tbG_of 562 (by decide +kernel) (by decide +kernel), by decide, TX7, _, rfl⟩
theorem kvX7_195 : KV RX7 195 MX2_room 2 0 := ⟨mwX2_room, tbG_of 567 (by decide +kernel) (by decide +kernel), tbG_of 568 (by decide +kernel) (by decide +kernel), tbG_of 566 (by decide +kernel) (by decide +kernel), by decide, TX2, _, rfl⟩
theorem kvX2_185 : KV RX2 185 MX2_dugOfAll 2 0 := ⟨mwX2_dugOfAll, tbG_of 571 (by decide +kernel) (by decide +kernel), tbG_of 572 (by decide +kernel) (by decide +kernel), tbG_of 570 (by decide +kernel) (by decide +kernel), by decide, TX2, _, rfl⟩
theorem kvX7_198 : KV RX7 198 MX2_lit 2 0 := ⟨mwX2_lit, tbG_of 575 (by decide +kernel) (by decide +kernel), tbG_of 576 (by decide +kernel) (by decide +kernel), tbG_of 574 (by decide +kernel) (by decide +kernel), by decide, TX2, _, rfl⟩
theorem ksX7_201 : KS RX7 201 MJ6_bitCount_0f7a4 1 := ⟨mwJ6_bitCount_0f7a4, tbG_of 579 (by decide +kernel) (by decide +kernel), Or.inl (tbG_of 578 (by decide +kernel) (by decide +kernel))⟩
theorem kvX7_206 : KV RX7 206 MX2_putOutAllBut 2 1 := ⟨mwX2_putOutAllBut, tbG_of 585 (by decide +kernel) (by decide +kernel), tbG_of 586 (by decide +kernel) (by decide +kernel), tbG_of 584 (by decide +kernel) (by decide +kernel), by decide, TX2, _, rfl⟩
theorem kvL_85 : KV RL 85 MX7_wax 7 3 := ⟨mwX7_wax, tbG_of 589 (by decide +kernel) (by decide +kernel), tbG_of 590 (by decide +kernel) (by decide +kernel), tbG_of 588 (by decide +kernel) (by decide +kernel), by decide, TX7, _, rfl⟩
theorem kvL_89 : KV RL 89 MX7_sent 7 3 := ⟨mwX7_sent, tbG_of 593 (by decide +kernel) (by decide +kernel), tbG_of 594 (by decide +kernel) (by decide +kernel), tbG_of 592 (by decide +kernel) (by decide +kernel), by decide, TX7, _, rfl⟩
theorem kvL_93 : KV RL 93 MX7_becomes 7 3 := ⟨mwX7_becomes, tbG_of 597 (by decide +kernel) (by decide +kernel), tbG_of 598 (by decide +kernel) (by decide +kernel), tbG_of 596 (by decide +kernel) (by decide +kernel), by decide, TX7, _, rfl⟩
theorem kvL_97 : KV RL 97 MX7_like 7 2 := ⟨mwX7_like, tbG_of 601 (by decide +kernel) (by decide +kernel), tbG_of 602 (by decide +kernel) (by decide +kernel), tbG_of 600 (by decide +kernel) (by decide +kernel), by decide, TX7, _, rfl⟩
theorem ksX7_209 : KS RX7 209 MX7_isSheet 1 := ⟨mwX7_isSheet, tbG_of 605 (by decide +kernel) (by decide +kernel), Or.inl (tbG_of 604 (by decide +kernel) (by decide +kernel))⟩
theorem kvX7_212 : KV RX7 212 MX4_isMissing 4 0 := ⟨mwX4_isMissing, tbG_of 608 (by decide +kernel) (by decide +kernel), tbG_of 609 (by decide +kernel) (by decide +kernel), tbG_of 607 (by decide +kernel) (by decide +kernel), by decide, TX4, _, rfl⟩
theorem kvX7_217 : KV RX7 217 MX7_differences 7 2 := ⟨mwX7_differences, tbG_of 614 (by decide +kernel) (by decide +kernel), tbG_of 1 (by decide +kernel) (by decide +kernel), tbG_of 612 (by decide +kernel) (by decide +kernel), by decide, TX7, _, rfl⟩
theorem kvX7_270 : KV RX7 270 MX4_isNumber 4 1 := ⟨mwX4_isNumber, tbG_of 617 (by decide +kernel) (by decide +kernel), tbG_of 618 (by decide +kernel) (by decide +kernel), tbG_of 616 (by decide +kernel) (by decide +kernel), by decide, TX4, _, rfl⟩
theorem kvX4_28 : KV RX4 28 MX4_hasPlace 4 1 := ⟨mwX4_hasPlace, tbG_of 621 (by decide +kernel) (by decide +kernel), tbG_of 622 (by decide +kernel) (by decide +kernel), tbG_of 620 (by decide +kernel) (by decide +kernel), by decide, TX4, _, rfl⟩
theorem kvL_101 : KV RL 101 MX7_fee 7 0 := ⟨mwX7_fee, tbG_of 629 (by decide +kernel) (by decide +kernel), tbG_of 630 (by decide +kernel) (by decide +kernel), tbG_of 628 (by decide +kernel) (by decide +kernel), by decide, TX7, _, rfl⟩
theorem kvX7_221 : KV RX7 221 MX2_feeGives 2 0 := ⟨mwX2_feeGives, tbG_of 633 (by decide +kernel) (by decide +kernel), tbG_of 634 (by decide +kernel) (by decide +kernel), tbG_of 632 (by decide +kernel) (by decide +kernel), by decide, TX2, _, rfl⟩
theorem kvX2_178 : KV RX2 178 MX2_hill 2 0 := ⟨mwX2_hill, tbG_of 494 (by decide +kernel) (by decide +kernel), tbG_of 495 (by decide +kernel) (by decide +kernel), tbG_of 636 (by decide +kernel) (by decide +kernel), by decide, TX2, _, rfl⟩
theorem kvL_106 : KV RL 106 MX7_fine 7 1 := ⟨mwX7_fine, tbG_of 638 (by decide +kernel) (by decide +kernel), tbG_of 639 (by decide +kernel) (by decide +kernel), tbG_of 637 (by decide +kernel) (by decide +kernel), by decide, TX7, _, rfl⟩
theorem kvX7_224 : KV RX7 224 MX2_fineGives 2 1 := ⟨mwX2_fineGives, tbG_of 642 (by decide +kernel) (by decide +kernel), tbG_of 643 (by decide +kernel) (by decide +kernel), tbG_of 641 (by decide +kernel) (by decide +kernel), by decide, TX2, _, rfl⟩
theorem kvL_110 : KV RL 110 MX7_feed 7 3 := ⟨mwX7_feed, tbG_of 646 (by decide +kernel) (by decide +kernel), tbG_of 647 (by decide +kernel) (by decide +kernel), tbG_of 645 (by decide +kernel) (by decide +kernel), by decide, TX7, _, rfl⟩
theorem kvX7_231 : KV RX7 231 MX3_addBytes 3 1 := ⟨mwX3_addBytes, tbG_of 650 (by decide +kernel) (by decide +kernel), tbG_of 651 (by decide +kernel) (by decide +kernel), tbG_of 649 (by decide +kernel) (by decide +kernel), by decide, TX3, _, rfl⟩
theorem kvL_114 : KV RL 114 MX7_trim 7 1 := ⟨mwX7_trim, tbG_of 654 (by decide +kernel) (by decide +kernel), tbG_of 655 (by decide +kernel) (by decide +kernel), tbG_of 653 (by decide +kernel) (by decide +kernel), by decide, TX7, _, rfl⟩
theorem kvL_118 : KV RL 118 MX7_text 7 0 := ⟨mwX7_text, tbG_of 658 (by decide +kernel) (by decide +kernel), tbG_of 659 (by decide +kernel) (by decide +kernel), tbG_of 657 (by decide +kernel) (by decide +kernel), by decide, TX7, _, rfl⟩
theorem kvX7_234 : KV RX7 234 MX3_fault 3 0 := ⟨mwX3_fault, tbG_of 662 (by decide +kernel) (by decide +kernel), tbG_of 663 (by decide +kernel) (by decide +kernel), tbG_of 661 (by decide +kernel) (by decide +kernel), by decide, TX3, _, rfl⟩
theorem kvX3_22 : KV RX3 22 MX3_begin 3 0 := ⟨mwX3_begin, tbG_of 666 (by decide +kernel) (by decide +kernel), tbG_of 667 (by decide +kernel) (by decide +kernel), tbG_of 665 (by decide +kernel) (by decide +kernel), by decide, TX3, _, rfl⟩
theorem kvX3_35 : KV RX3 35 MX3_next 3 0 := ⟨mwX3_next, tbG_of 670 (by decide +kernel) (by decide +kernel), tbG_of 671 (by decide +kernel) (by decide +kernel), tbG_of 669 (by decide +kernel) (by decide +kernel), by decide, TX3, _, rfl⟩
theorem kvX3_60 : KV RX3 60 MX3_byteAt 3 1 := ⟨mwX3_byteAt, tbG_of 674 (by decide +kernel) (by decide +kernel), tbG_of 675 (by decide +kernel) (by decide +kernel), tbG_of 673 (by decide +kernel) (by decide +kernel), by decide, TX3, _, rfl⟩
theorem ksX3_64 : KS RX3 64 MX3_isWord 1 := ⟨mwX3_isWord, tbG_of 678 (by decide +kernel) (by decide +kernel), Or.inl (tbG_of 677 (by decide +kernel) (by decide +kernel))⟩
theorem kvX3_67 : KV RX3 67 MX3_sortAt 3 1 := ⟨mwX3_sortAt, tbG_of 681 (by decide +kernel) (by decide +kernel), tbG_of 682 (by decide +kernel) (by decide +kernel), tbG_of 680 (by decide +kernel) (by decide +kernel), by decide, TX3, _, rfl⟩
theorem kvX3_25 : KV RX3 25 MX3_keyHere 3 0 := ⟨mwX3_keyHere, tbG_of 685 (by decide +kernel) (by decide +kernel), tbG_of 686 (by decide +kernel) (by decide +kernel), tbG_of 684 (by decide +kernel) (by decide +kernel), by decide, TX3, _, rfl⟩
theorem kvX3_76 : KV RX3 76 MX3_isHere 3 1 := ⟨mwX3_isHere, tbG_of 690 (by decide +kernel) (by decide +kernel), tbG_of 691 (by decide +kernel) (by decide +kernel), tbG_of 689 (by decide +kernel) (by decide +kernel), by decide, TX3, _, rfl⟩
theorem ksJ0_495 : KS RJ0 495 MJ1_charAt_3b067 2 := ⟨mwJ1_charAt_3b067, tbG_of 712 (by decide +kernel) (by decide +kernel), Or.inl (tbG_of 711 (by decide +kernel) (by decide +kernel))⟩
theorem ksJ1_9 : KS RJ1 9 MJ0_checkIndex_df160 2 := ⟨mwJ0_checkIndex_df160, tbG_of 715 (by decide +kernel) (by decide +kernel), Or.inl (tbG_of 714 (by decide +kernel) (by decide +kernel))⟩
theorem ksJ0_1059 : KS RJ0 1059 MJ3_checkIndex_8e157 3 := ⟨mwJ3_checkIndex_8e157, tbG_of 720 (by decide +kernel) (by decide +kernel), Or.inl (tbG_of 719 (by decide +kernel) (by decide +kernel))⟩
theorem kvX3_38 : KV RX3 38 MX3_part 3 1 := ⟨mwX3_part, tbG_of 745 (by decide +kernel) (by decide +kernel), tbG_of 2 (by decide +kernel) (by decide +kernel), tbG_of 743 (by decide +kernel) (by decide +kernel), by decide, TX3, _, rfl⟩
theorem kvX3_92 : KV RX3 92 MX3_piece 3 0 := ⟨mwX3_piece, tbG_of 749 (by decide +kernel) (by decide +kernel), tbG_of 3 (by decide +kernel) (by decide +kernel), tbG_of 747 (by decide +kernel) (by decide +kernel), by decide, TX3, _, rfl⟩
theorem kvX3_103 : KV RX3 103 MX3_leaf 3 0 := ⟨mwX3_leaf, tbG_of 752 (by decide +kernel) (by decide +kernel), tbG_of 753 (by decide +kernel) (by decide +kernel), tbG_of 751 (by decide +kernel) (by decide +kernel), by decide, TX3, _, rfl⟩
theorem kvX3_129 : KV RX3 129 MX3_number 3 0 := ⟨mwX3_number, tbG_of 756 (by decide +kernel) (by decide +kernel), tbG_of 757 (by decide +kernel) (by decide +kernel), tbG_of 755 (by decide +kernel) (by decide +kernel), by decide, TX3, _, rfl⟩
theorem kvX3_132 : KV RX3 132 MX3_name 3 0 := ⟨mwX3_name, tbG_of 760 (by decide +kernel) (by decide +kernel), tbG_of 761 (by decide +kernel) (by decide +kernel), tbG_of 759 (by decide +kernel) (by decide +kernel), by decide, TX3, _, rfl⟩
theorem ksX3_135 : KS RX3 135 MX3_namesOf 1 := ⟨mwX3_namesOf, tbG_of 764 (by decide +kernel) (by decide +kernel), Or.inl (tbG_of 763 (by decide +kernel) (by decide +kernel))⟩
theorem ksJ0_637 : KS RJ0 637 MJ1_indexOf_4cfef 4 := ⟨mwJ1_indexOf_4cfef, tbG_of 779 (by decide +kernel) (by decide +kernel), Or.inl (tbG_of 778 (by decide +kernel) (by decide +kernel))⟩
theorem ksJ1_88 : KS RJ1 88 MJ1_canEncode_9a6ad 1 := ⟨mwJ1_canEncode_9a6ad, tbG_of 782 (by decide +kernel) (by decide +kernel), Or.inl (tbG_of 781 (by decide +kernel) (by decide +kernel))⟩
theorem ksJ1_95 : KS RJ1 95 MJ1_indexOfChar_4cfef 4 := ⟨mwJ1_indexOfChar_4cfef, tbG_of 787 (by decide +kernel) (by decide +kernel), Or.inl (tbG_of 786 (by decide +kernel) (by decide +kernel))⟩
theorem ksJ0_1062 : KS RJ0 1062 MJ3_checkFromToIndex_8c36e 4 := ⟨mwJ3_checkFromToIndex_8c36e, tbG_of 805 (by decide +kernel) (by decide +kernel), Or.inl (tbG_of 804 (by decide +kernel) (by decide +kernel))⟩
theorem kvX3_99 : KV RX3 99 MX3_put 3 1 := ⟨mwX3_put, tbG_of 825 (by decide +kernel) (by decide +kernel), tbG_of 826 (by decide +kernel) (by decide +kernel), tbG_of 824 (by decide +kernel) (by decide +kernel), by decide, TX3, _, rfl⟩
theorem kvX3_106 : KV RX3 106 MX3_not 3 0 := ⟨mwX3_not, tbG_of 830 (by decide +kernel) (by decide +kernel), tbG_of 4 (by decide +kernel) (by decide +kernel), tbG_of 828 (by decide +kernel) (by decide +kernel), by decide, TX3, _, rfl⟩
theorem kvX3_109 : KV RX3 109 MX3_bracket 3 0 := ⟨mwX3_bracket, tbG_of 834 (by decide +kernel) (by decide +kernel), tbG_of 5 (by decide +kernel) (by decide +kernel), tbG_of 832 (by decide +kernel) (by decide +kernel), by decide, TX3, _, rfl⟩
theorem kvX3_96 : KV RX3 96 MX3_isSignOf 3 1 := ⟨mwX3_isSignOf, tbG_of 837 (by decide +kernel) (by decide +kernel), tbG_of 838 (by decide +kernel) (by decide +kernel), tbG_of 836 (by decide +kernel) (by decide +kernel), by decide, TX3, _, rfl⟩
theorem ksX3_112 : KS RX3 112 MX3_signsOf 1 := ⟨mwX3_signsOf, tbG_of 841 (by decide +kernel) (by decide +kernel), Or.inl (tbG_of 840 (by decide +kernel) (by decide +kernel))⟩
theorem kvX7_239 : KV RX7 239 MX2_addText 2 1 := ⟨mwX2_addText, tbG_of 849 (by decide +kernel) (by decide +kernel), tbG_of 850 (by decide +kernel) (by decide +kernel), tbG_of 848 (by decide +kernel) (by decide +kernel), by decide, TX2, _, rfl⟩
theorem kvX2_91 : KV RX2 91 MX6_write 6 2 := ⟨mwX6_write, tbG_of 853 (by decide +kernel) (by decide +kernel), tbG_of 854 (by decide +kernel) (by decide +kernel), tbG_of 852 (by decide +kernel) (by decide +kernel), by decide, TX6, _, rfl⟩
theorem kvL_122 : KV RL 122 MX7_textTold 7 2 := ⟨mwX7_textTold, tbG_of 859 (by decide +kernel) (by decide +kernel), tbG_of 860 (by decide +kernel) (by decide +kernel), tbG_of 858 (by decide +kernel) (by decide +kernel), by decide, TX7, _, rfl⟩
theorem kvL_126 : KV RL 126 MX7_why 7 1 := ⟨mwX7_why, tbG_of 863 (by decide +kernel) (by decide +kernel), tbG_of 864 (by decide +kernel) (by decide +kernel), tbG_of 862 (by decide +kernel) (by decide +kernel), by decide, TX7, _, rfl⟩
theorem kvL_130 : KV RL 130 MX7_sheet 7 3 := ⟨mwX7_sheet, tbG_of 867 (by decide +kernel) (by decide +kernel), tbG_of 868 (by decide +kernel) (by decide +kernel), tbG_of 866 (by decide +kernel) (by decide +kernel), by decide, TX7, _, rfl⟩
theorem kvX7_252 : KV RX7 252 MX4_become 4 2 := ⟨mwX4_become, tbG_of 871 (by decide +kernel) (by decide +kernel), tbG_of 872 (by decide +kernel) (by decide +kernel), tbG_of 870 (by decide +kernel) (by decide +kernel), by decide, TX4, _, rfl⟩
theorem kvL_134 : KV RL 134 MX7_mark 7 3 := ⟨mwX7_mark, tbG_of 876 (by decide +kernel) (by decide +kernel), tbG_of 877 (by decide +kernel) (by decide +kernel), tbG_of 875 (by decide +kernel) (by decide +kernel), by decide, TX7, _, rfl⟩
theorem kvX7_257 : KV RX7 257 MX4_hasPlace 4 1 := ⟨mwX4_hasPlace, tbG_of 621 (by decide +kernel) (by decide +kernel), tbG_of 622 (by decide +kernel) (by decide +kernel), tbG_of 879 (by decide +kernel) (by decide +kernel), by decide, TX4, _, rfl⟩
theorem kvL_138 : KV RL 138 MX7_pour 7 1 := ⟨mwX7_pour, tbG_of 884 (by decide +kernel) (by decide +kernel), tbG_of 885 (by decide +kernel) (by decide +kernel), tbG_of 883 (by decide +kernel) (by decide +kernel), by decide, TX7, _, rfl⟩
theorem ksX7_273 : KS RX7 273 MX7_held 1 := ⟨mwX7_held, tbG_of 378 (by decide +kernel) (by decide +kernel), Or.inl (tbG_of 887 (by decide +kernel) (by decide +kernel))⟩
theorem kvL_142 : KV RL 142 MX7_reads 7 1 := ⟨mwX7_reads, tbG_of 889 (by decide +kernel) (by decide +kernel), tbG_of 890 (by decide +kernel) (by decide +kernel), tbG_of 888 (by decide +kernel) (by decide +kernel), by decide, TX7, _, rfl⟩
theorem kvL_146 : KV RL 146 MX7_copy 7 5 := ⟨mwX7_copy, tbG_of 893 (by decide +kernel) (by decide +kernel), tbG_of 894 (by decide +kernel) (by decide +kernel), tbG_of 892 (by decide +kernel) (by decide +kernel), by decide, TX7, _, rfl⟩
theorem kvX7_276 : KV RX7 276 MX4_hasPlaces 4 2 := ⟨mwX4_hasPlaces, tbG_of 897 (by decide +kernel) (by decide +kernel), tbG_of 898 (by decide +kernel) (by decide +kernel), tbG_of 896 (by decide +kernel) (by decide +kernel), by decide, TX4, _, rfl⟩
theorem kvL_151 : KV RL 151 MX7_lay 7 3 := ⟨mwX7_lay, tbG_of 904 (by decide +kernel) (by decide +kernel), tbG_of 905 (by decide +kernel) (by decide +kernel), tbG_of 903 (by decide +kernel) (by decide +kernel), by decide, TX7, _, rfl⟩
theorem ksX7_286 : KS RX7 286 MX7_isSlot 1 := ⟨mwX7_isSlot, tbG_of 908 (by decide +kernel) (by decide +kernel), Or.inl (tbG_of 907 (by decide +kernel) (by decide +kernel))⟩
theorem kvX7_296 : KV RX7 296 MX1_becomeAs 1 1 := ⟨mwX1_becomeAs, tbG_of 550 (by decide +kernel) (by decide +kernel), tbG_of 551 (by decide +kernel) (by decide +kernel), tbG_of 910 (by decide +kernel) (by decide +kernel), by decide, TX1, _, rfl⟩
theorem kvX7_303 : KV RX7 303 MX4_becomeAs 4 1 := ⟨mwX4_becomeAs, tbG_of 912 (by decide +kernel) (by decide +kernel), tbG_of 913 (by decide +kernel) (by decide +kernel), tbG_of 911 (by decide +kernel) (by decide +kernel), by decide, TX4, _, rfl⟩
theorem kvL_155 : KV RL 155 MX7_ask 7 2 := ⟨mwX7_ask, tbG_of 917 (by decide +kernel) (by decide +kernel), tbG_of 918 (by decide +kernel) (by decide +kernel), tbG_of 916 (by decide +kernel) (by decide +kernel), by decide, TX7, _, rfl⟩
theorem kvL_159 : KV RL 159 MX7_item 7 2 := ⟨mwX7_item, tbG_of 921 (by decide +kernel) (by decide +kernel), tbG_of 922 (by decide +kernel) (by decide +kernel), tbG_of 920 (by decide +kernel) (by decide +kernel), by decide, TX7, _, rfl⟩
theorem kvL_163 : KV RL 163 MX7_rest 7 2 := ⟨mwX7_rest, tbG_of 925 (by decide +kernel) (by decide +kernel), tbG_of 926 (by decide +kernel) (by decide +kernel), tbG_of 924 (by decide +kernel) (by decide +kernel), by decide, TX7, _, rfl⟩
theorem kvL_167 : KV RL 167 MX7_tell 7 1 := ⟨mwX7_tell, tbG_of 930 (by decide +kernel) (by decide +kernel), tbG_of 931 (by decide +kernel) (by decide +kernel), tbG_of 929 (by decide +kernel) (by decide +kernel), by decide, TX7, _, rfl⟩
theorem kvL_171 : KV RL 171 MX7_check 7 1 := ⟨mwX7_check, tbG_of 934 (by decide +kernel) (by decide +kernel), tbG_of 935 (by decide +kernel) (by decide +kernel), tbG_of 933 (by decide +kernel) (by decide +kernel), by decide, TX7, _, rfl⟩
theorem kvX7_310 : KV RX7 310 MX7_isTold 7 3 := ⟨mwX7_isTold, tbG_of 939 (by decide +kernel) (by decide +kernel), tbG_of 6 (by decide +kernel) (by decide +kernel), tbG_of 937 (by decide +kernel) (by decide +kernel), by decide, TX7, _, rfl⟩
theorem kvX7_313 : KV RX7 313 MX2_dugOfAll 2 0 := ⟨mwX2_dugOfAll, tbG_of 571 (by decide +kernel) (by decide +kernel), tbG_of 572 (by decide +kernel) (by decide +kernel), tbG_of 941 (by decide +kernel) (by decide +kernel), by decide, TX2, _, rfl⟩
theorem kvL_175 : KV RL 175 MX7_keep 7 0 := ⟨mwX7_keep, tbG_of 943 (by decide +kernel) (by decide +kernel), tbG_of 944 (by decide +kernel) (by decide +kernel), tbG_of 942 (by decide +kernel) (by decide +kernel), by decide, TX7, _, rfl⟩
theorem kvL_179 : KV RL 179 MX7_back 7 0 := ⟨mwX7_back, tbG_of 947 (by decide +kernel) (by decide +kernel), tbG_of 948 (by decide +kernel) (by decide +kernel), tbG_of 946 (by decide +kernel) (by decide +kernel), by decide, TX7, _, rfl⟩
theorem kvL_183 : KV RL 183 MX7_count 7 1 := ⟨mwX7_count, tbG_of 951 (by decide +kernel) (by decide +kernel), tbG_of 952 (by decide +kernel) (by decide +kernel), tbG_of 950 (by decide +kernel) (by decide +kernel), by decide, TX7, _, rfl⟩
theorem kiL_12 : KI RL 12 MX8_init 0 := ⟨mwX8_init, tbG_of 957 (by decide +kernel) (by decide +kernel), rfl, rfl, Or.inl (tbG_of 956 (by decide +kernel) (by decide +kernel))⟩
theorem kvL_17 : KV RL 17 MX8_digger 8 4 := ⟨mwX8_digger, tbG_of 1063 (by decide +kernel) (by decide +kernel), tbG_of 1064 (by decide +kernel) (by decide +kernel), tbG_of 1062 (by decide +kernel) (by decide +kernel), by decide, TX8, _, rfl⟩
theorem ksX8_75 : KS RX8 75 MX8_in 3 := ⟨mwX8_in, tbG_of 1067 (by decide +kernel) (by decide +kernel), Or.inl (tbG_of 1066 (by decide +kernel) (by decide +kernel))⟩
theorem ksX8_120 : KS RX8 120 MX8_isBranch 1 := ⟨mwX8_isBranch, tbG_of 1070 (by decide +kernel) (by decide +kernel), Or.inl (tbG_of 1069 (by decide +kernel) (by decide +kernel))⟩
theorem kvX8_125 : KV RX8 125 MX8_comes 8 4 := ⟨mwX8_comes, tbG_of 1076 (by decide +kernel) (by decide +kernel), tbG_of 7 (by decide +kernel) (by decide +kernel), tbG_of 1074 (by decide +kernel) (by decide +kernel), by decide, TX8, _, rfl⟩
theorem kvX8_116 : KV RX8 116 MX8_put 8 3 := ⟨mwX8_put, tbG_of 1080 (by decide +kernel) (by decide +kernel), tbG_of 8 (by decide +kernel) (by decide +kernel), tbG_of 1078 (by decide +kernel) (by decide +kernel), by decide, TX8, _, rfl⟩
theorem kvL_22 : KV RL 22 MX8_told 8 2 := ⟨mwX8_told, tbG_of 1083 (by decide +kernel) (by decide +kernel), tbG_of 1084 (by decide +kernel) (by decide +kernel), tbG_of 1082 (by decide +kernel) (by decide +kernel), by decide, TX8, _, rfl⟩
theorem kvX8_129 : KV RX8 129 MX8_isDigger 8 1 := ⟨mwX8_isDigger, tbG_of 1088 (by decide +kernel) (by decide +kernel), tbG_of 9 (by decide +kernel) (by decide +kernel), tbG_of 1086 (by decide +kernel) (by decide +kernel), by decide, TX8, _, rfl⟩
theorem kvX8_83 : KV RX8 83 MX8_of 8 2 := ⟨mwX8_of, tbG_of 1092 (by decide +kernel) (by decide +kernel), tbG_of 10 (by decide +kernel) (by decide +kernel), tbG_of 1090 (by decide +kernel) (by decide +kernel), by decide, TX8, _, rfl⟩
theorem kvX8_132 : KV RX8 132 MX8_digsOf 8 1 := ⟨mwX8_digsOf, tbG_of 1096 (by decide +kernel) (by decide +kernel), tbG_of 11 (by decide +kernel) (by decide +kernel), tbG_of 1094 (by decide +kernel) (by decide +kernel), by decide, TX8, _, rfl⟩
theorem kvX8_106 : KV RX8 106 MX8_plainDig 8 1 := ⟨mwX8_plainDig, tbG_of 1100 (by decide +kernel) (by decide +kernel), tbG_of 12 (by decide +kernel) (by decide +kernel), tbG_of 1098 (by decide +kernel) (by decide +kernel), by decide, TX8, _, rfl⟩
theorem kvX8_86 : KV RX8 86 MX8_counts 8 1 := ⟨mwX8_counts, tbG_of 1104 (by decide +kernel) (by decide +kernel), tbG_of 13 (by decide +kernel) (by decide +kernel), tbG_of 1102 (by decide +kernel) (by decide +kernel), by decide, TX8, _, rfl⟩
theorem kvX8_79 : KV RX8 79 MX8_at 8 2 := ⟨mwX8_at, tbG_of 1108 (by decide +kernel) (by decide +kernel), tbG_of 14 (by decide +kernel) (by decide +kernel), tbG_of 1106 (by decide +kernel) (by decide +kernel), by decide, TX8, _, rfl⟩
theorem kvX8_90 : KV RX8 90 MX8_ahead 8 1 := ⟨mwX8_ahead, tbG_of 1112 (by decide +kernel) (by decide +kernel), tbG_of 15 (by decide +kernel) (by decide +kernel), tbG_of 1110 (by decide +kernel) (by decide +kernel), by decide, TX8, _, rfl⟩
theorem kvX8_93 : KV RX8 93 MX8_litIn 8 1 := ⟨mwX8_litIn, tbG_of 1116 (by decide +kernel) (by decide +kernel), tbG_of 16 (by decide +kernel) (by decide +kernel), tbG_of 1114 (by decide +kernel) (by decide +kernel), by decide, TX8, _, rfl⟩
theorem ksX8_96 : KS RX8 96 MX8_bits 1 := ⟨mwX8_bits, tbG_of 1119 (by decide +kernel) (by decide +kernel), Or.inl (tbG_of 1118 (by decide +kernel) (by decide +kernel))⟩
theorem kvX8_99 : KV RX8 99 MX8_worksOut 8 1 := ⟨mwX8_worksOut, tbG_of 1123 (by decide +kernel) (by decide +kernel), tbG_of 17 (by decide +kernel) (by decide +kernel), tbG_of 1121 (by decide +kernel) (by decide +kernel), by decide, TX8, _, rfl⟩
theorem ksX8_278 : KS RX8 278 MX8_two 3 := ⟨mwX8_two, tbG_of 1126 (by decide +kernel) (by decide +kernel), Or.inl (tbG_of 1125 (by decide +kernel) (by decide +kernel))⟩
theorem ksX8_102 : KS RX8 102 MX8_within 3 := ⟨mwX8_within, tbG_of 1129 (by decide +kernel) (by decide +kernel), Or.inl (tbG_of 1128 (by decide +kernel) (by decide +kernel))⟩
theorem kvX8_109 : KV RX8 109 MX8_isFarOff 8 1 := ⟨mwX8_isFarOff, tbG_of 1133 (by decide +kernel) (by decide +kernel), tbG_of 18 (by decide +kernel) (by decide +kernel), tbG_of 1131 (by decide +kernel) (by decide +kernel), by decide, TX8, _, rfl⟩
theorem kvX8_113 : KV RX8 113 MX8_fellows 8 1 := ⟨mwX8_fellows, tbG_of 1137 (by decide +kernel) (by decide +kernel), tbG_of 19 (by decide +kernel) (by decide +kernel), tbG_of 1135 (by decide +kernel) (by decide +kernel), by decide, TX8, _, rfl⟩
theorem kvX8_135 : KV RX8 135 MX8_burnsOf 8 1 := ⟨mwX8_burnsOf, tbG_of 1141 (by decide +kernel) (by decide +kernel), tbG_of 20 (by decide +kernel) (by decide +kernel), tbG_of 1139 (by decide +kernel) (by decide +kernel), by decide, TX8, _, rfl⟩
theorem kvX8_138 : KV RX8 138 MX8_worthOf 8 1 := ⟨mwX8_worthOf, tbG_of 1145 (by decide +kernel) (by decide +kernel), tbG_of 21 (by decide +kernel) (by decide +kernel), tbG_of 1143 (by decide +kernel) (by decide +kernel), by decide, TX8, _, rfl⟩
theorem kvL_26 : KV RL 26 MX8_as 8 2 := ⟨mwX8_as, tbG_of 1148 (by decide +kernel) (by decide +kernel), tbG_of 1149 (by decide +kernel) (by decide +kernel), tbG_of 1147 (by decide +kernel) (by decide +kernel), by decide, TX8, _, rfl⟩
theorem ksX8_141 : KS RX8 141 MX8_isUnder 2 := ⟨mwX8_isUnder, tbG_of 1152 (by decide +kernel) (by decide +kernel), Or.inl (tbG_of 1151 (by decide +kernel) (by decide +kernel))⟩
theorem kvL_30 : KV RL 30 MX8_turns 8 2 := ⟨mwX8_turns, tbG_of 1156 (by decide +kernel) (by decide +kernel), tbG_of 1157 (by decide +kernel) (by decide +kernel), tbG_of 1155 (by decide +kernel) (by decide +kernel), by decide, TX8, _, rfl⟩
theorem kvX8_146 : KV RX8 146 MX8_swaps 8 2 := ⟨mwX8_swaps, tbG_of 1161 (by decide +kernel) (by decide +kernel), tbG_of 22 (by decide +kernel) (by decide +kernel), tbG_of 1159 (by decide +kernel) (by decide +kernel), by decide, TX8, _, rfl⟩
theorem kvL_35 : KV RL 35 MX8_set 8 3 := ⟨mwX8_set, tbG_of 1164 (by decide +kernel) (by decide +kernel), tbG_of 1165 (by decide +kernel) (by decide +kernel), tbG_of 1163 (by decide +kernel) (by decide +kernel), by decide, TX8, _, rfl⟩
theorem kvL_39 : KV RL 39 MX8_sends 8 2 := ⟨mwX8_sends, tbG_of 1168 (by decide +kernel) (by decide +kernel), tbG_of 1169 (by decide +kernel) (by decide +kernel), tbG_of 1167 (by decide +kernel) (by decide +kernel), by decide, TX8, _, rfl⟩
theorem kvL_43 : KV RL 43 MX8_branch 8 3 := ⟨mwX8_branch, tbG_of 1172 (by decide +kernel) (by decide +kernel), tbG_of 1173 (by decide +kernel) (by decide +kernel), tbG_of 1171 (by decide +kernel) (by decide +kernel), by decide, TX8, _, rfl⟩
theorem kvX8_149 : KV RX8 149 MX8_mayBe 8 3 := ⟨mwX8_mayBe, tbG_of 1177 (by decide +kernel) (by decide +kernel), tbG_of 23 (by decide +kernel) (by decide +kernel), tbG_of 1175 (by decide +kernel) (by decide +kernel), by decide, TX8, _, rfl⟩
theorem kvL_47 : KV RL 47 MX8_branchOf 8 2 := ⟨mwX8_branchOf, tbG_of 1180 (by decide +kernel) (by decide +kernel), tbG_of 1181 (by decide +kernel) (by decide +kernel), tbG_of 1179 (by decide +kernel) (by decide +kernel), by decide, TX8, _, rfl⟩
theorem kvX8_152 : KV RX8 152 MX8_diggersIn 8 1 := ⟨mwX8_diggersIn, tbG_of 1185 (by decide +kernel) (by decide +kernel), tbG_of 24 (by decide +kernel) (by decide +kernel), tbG_of 1183 (by decide +kernel) (by decide +kernel), by decide, TX8, _, rfl⟩
theorem kvX8_155 : KV RX8 155 MX8_allDigs 8 1 := ⟨mwX8_allDigs, tbG_of 1189 (by decide +kernel) (by decide +kernel), tbG_of 25 (by decide +kernel) (by decide +kernel), tbG_of 1187 (by decide +kernel) (by decide +kernel), by decide, TX8, _, rfl⟩
theorem kvL_51 : KV RL 51 MX8_rule 8 2 := ⟨mwX8_rule, tbG_of 1192 (by decide +kernel) (by decide +kernel), tbG_of 1193 (by decide +kernel) (by decide +kernel), tbG_of 1191 (by decide +kernel) (by decide +kernel), by decide, TX8, _, rfl⟩
theorem kvL_56 : KV RL 56 MX8_deal 8 1 := ⟨mwX8_deal, tbG_of 1196 (by decide +kernel) (by decide +kernel), tbG_of 1197 (by decide +kernel) (by decide +kernel), tbG_of 1195 (by decide +kernel) (by decide +kernel), by decide, TX8, _, rfl⟩
theorem kvX8_159 : KV RX8 159 MX8_draw 8 0 := ⟨mwX8_draw, tbG_of 1201 (by decide +kernel) (by decide +kernel), tbG_of 26 (by decide +kernel) (by decide +kernel), tbG_of 1199 (by decide +kernel) (by decide +kernel), by decide, TX8, _, rfl⟩
theorem kvL_60 : KV RL 60 MX8_seed 8 1 := ⟨mwX8_seed, tbG_of 1205 (by decide +kernel) (by decide +kernel), tbG_of 1206 (by decide +kernel) (by decide +kernel), tbG_of 1204 (by decide +kernel) (by decide +kernel), by decide, TX8, _, rfl⟩
theorem kvL_64 : KV RL 64 MX8_nights 8 1 := ⟨mwX8_nights, tbG_of 1209 (by decide +kernel) (by decide +kernel), tbG_of 1210 (by decide +kernel) (by decide +kernel), tbG_of 1208 (by decide +kernel) (by decide +kernel), by decide, TX8, _, rfl⟩
theorem kvX8_173 : KV RX8 173 MX8_sums 8 1 := ⟨mwX8_sums, tbG_of 1214 (by decide +kernel) (by decide +kernel), tbG_of 27 (by decide +kernel) (by decide +kernel), tbG_of 1212 (by decide +kernel) (by decide +kernel), by decide, TX8, _, rfl⟩
theorem kvX8_176 : KV RX8 176 MX8_goesOn 8 1 := ⟨mwX8_goesOn, tbG_of 1218 (by decide +kernel) (by decide +kernel), tbG_of 28 (by decide +kernel) (by decide +kernel), tbG_of 1216 (by decide +kernel) (by decide +kernel), by decide, TX8, _, rfl⟩
theorem kvX8_170 : KV RX8 170 MX8_night 8 0 := ⟨mwX8_night, tbG_of 1222 (by decide +kernel) (by decide +kernel), tbG_of 29 (by decide +kernel) (by decide +kernel), tbG_of 1220 (by decide +kernel) (by decide +kernel), by decide, TX8, _, rfl⟩
theorem kvX8_163 : KV RX8 163 MX8_digs 8 1 := ⟨mwX8_digs, tbG_of 1226 (by decide +kernel) (by decide +kernel), tbG_of 30 (by decide +kernel) (by decide +kernel), tbG_of 1224 (by decide +kernel) (by decide +kernel), by decide, TX8, _, rfl⟩
theorem kvX8_167 : KV RX8 167 MX8_warder 8 1 := ⟨mwX8_warder, tbG_of 1230 (by decide +kernel) (by decide +kernel), tbG_of 31 (by decide +kernel) (by decide +kernel), tbG_of 1228 (by decide +kernel) (by decide +kernel), by decide, TX8, _, rfl⟩
theorem kvL_68 : KV RL 68 MX8_below 8 1 := ⟨mwX8_below, tbG_of 1233 (by decide +kernel) (by decide +kernel), tbG_of 1234 (by decide +kernel) (by decide +kernel), tbG_of 1232 (by decide +kernel) (by decide +kernel), by decide, TX8, _, rfl⟩
theorem kvX8_179 : KV RX8 179 MX8_peopled 8 0 := ⟨mwX8_peopled, tbG_of 1238 (by decide +kernel) (by decide +kernel), tbG_of 32 (by decide +kernel) (by decide +kernel), tbG_of 1236 (by decide +kernel) (by decide +kernel), by decide, TX8, _, rfl⟩
theorem kvX8_182 : KV RX8 182 MX8_front 8 0 := ⟨mwX8_front, tbG_of 1242 (by decide +kernel) (by decide +kernel), tbG_of 33 (by decide +kernel) (by decide +kernel), tbG_of 1240 (by decide +kernel) (by decide +kernel), by decide, TX8, _, rfl⟩
theorem kvL_72 : KV RL 72 MX8_behind 8 2 := ⟨mwX8_behind, tbG_of 1245 (by decide +kernel) (by decide +kernel), tbG_of 1246 (by decide +kernel) (by decide +kernel), tbG_of 1244 (by decide +kernel) (by decide +kernel), by decide, TX8, _, rfl⟩
theorem kvX8_189 : KV RX8 189 MX8_thinks 8 0 := ⟨mwX8_thinks, tbG_of 1250 (by decide +kernel) (by decide +kernel), tbG_of 34 (by decide +kernel) (by decide +kernel), tbG_of 1248 (by decide +kernel) (by decide +kernel), by decide, TX8, _, rfl⟩
theorem ksX8_185 : KS RX8 185 MX8_copyAll 2 := ⟨mwX8_copyAll, tbG_of 1253 (by decide +kernel) (by decide +kernel), Or.inl (tbG_of 1252 (by decide +kernel) (by decide +kernel))⟩
theorem kvX8_192 : KV RX8 192 MX8_putsBack 8 0 := ⟨mwX8_putsBack, tbG_of 1257 (by decide +kernel) (by decide +kernel), tbG_of 35 (by decide +kernel) (by decide +kernel), tbG_of 1255 (by decide +kernel) (by decide +kernel), by decide, TX8, _, rfl⟩
theorem kvL_76 : KV RL 76 MX8_reaches 8 2 := ⟨mwX8_reaches, tbG_of 1260 (by decide +kernel) (by decide +kernel), tbG_of 1261 (by decide +kernel) (by decide +kernel), tbG_of 1259 (by decide +kernel) (by decide +kernel), by decide, TX8, _, rfl⟩
theorem kvL_80 : KV RL 80 MX8_leaves 8 1 := ⟨mwX8_leaves, tbG_of 1265 (by decide +kernel) (by decide +kernel), tbG_of 1266 (by decide +kernel) (by decide +kernel), tbG_of 1264 (by decide +kernel) (by decide +kernel), by decide, TX8, _, rfl⟩
theorem kvL_84 : KV RL 84 MX8_light 8 2 := ⟨mwX8_light, tbG_of 1269 (by decide +kernel) (by decide +kernel), tbG_of 1270 (by decide +kernel) (by decide +kernel), tbG_of 1268 (by decide +kernel) (by decide +kernel), by decide, TX8, _, rfl⟩
theorem kvX8_196 : KV RX8 196 MX8_isHigh 8 3 := ⟨mwX8_isHigh, tbG_of 1274 (by decide +kernel) (by decide +kernel), tbG_of 36 (by decide +kernel) (by decide +kernel), tbG_of 1272 (by decide +kernel) (by decide +kernel), by decide, TX8, _, rfl⟩
theorem kvL_88 : KV RL 88 MX8_wax 8 3 := ⟨mwX8_wax, tbG_of 1277 (by decide +kernel) (by decide +kernel), tbG_of 1278 (by decide +kernel) (by decide +kernel), tbG_of 1276 (by decide +kernel) (by decide +kernel), by decide, TX8, _, rfl⟩
theorem kvX8_199 : KV RX8 199 MX8_earthOn 8 2 := ⟨mwX8_earthOn, tbG_of 1282 (by decide +kernel) (by decide +kernel), tbG_of 37 (by decide +kernel) (by decide +kernel), tbG_of 1280 (by decide +kernel) (by decide +kernel), by decide, TX8, _, rfl⟩
theorem kvL_92 : KV RL 92 MX8_sent 8 3 := ⟨mwX8_sent, tbG_of 1285 (by decide +kernel) (by decide +kernel), tbG_of 1286 (by decide +kernel) (by decide +kernel), tbG_of 1284 (by decide +kernel) (by decide +kernel), by decide, TX8, _, rfl⟩
theorem kvX8_202 : KV RX8 202 MX8_bestOf 8 5 := ⟨mwX8_bestOf, tbG_of 1290 (by decide +kernel) (by decide +kernel), tbG_of 38 (by decide +kernel) (by decide +kernel), tbG_of 1288 (by decide +kernel) (by decide +kernel), by decide, TX8, _, rfl⟩
theorem kvL_96 : KV RL 96 MX8_becomes 8 3 := ⟨mwX8_becomes, tbG_of 1293 (by decide +kernel) (by decide +kernel), tbG_of 1294 (by decide +kernel) (by decide +kernel), tbG_of 1292 (by decide +kernel) (by decide +kernel), by decide, TX8, _, rfl⟩
theorem kvL_100 : KV RL 100 MX8_like 8 2 := ⟨mwX8_like, tbG_of 1297 (by decide +kernel) (by decide +kernel), tbG_of 1298 (by decide +kernel) (by decide +kernel), tbG_of 1296 (by decide +kernel) (by decide +kernel), by decide, TX8, _, rfl⟩
theorem ksX8_206 : KS RX8 206 MX8_isSheet 1 := ⟨mwX8_isSheet, tbG_of 1301 (by decide +kernel) (by decide +kernel), Or.inl (tbG_of 1300 (by decide +kernel) (by decide +kernel))⟩
theorem ksX8_210 : KS RX8 210 MX8_off 1 := ⟨mwX8_off, tbG_of 1305 (by decide +kernel) (by decide +kernel), Or.inl (tbG_of 1304 (by decide +kernel) (by decide +kernel))⟩
theorem kvL_105 : KV RL 105 MX8_fee 8 0 := ⟨mwX8_fee, tbG_of 1308 (by decide +kernel) (by decide +kernel), tbG_of 1309 (by decide +kernel) (by decide +kernel), tbG_of 1307 (by decide +kernel) (by decide +kernel), by decide, TX8, _, rfl⟩
theorem kvL_109 : KV RL 109 MX8_fine 8 1 := ⟨mwX8_fine, tbG_of 1312 (by decide +kernel) (by decide +kernel), tbG_of 1313 (by decide +kernel) (by decide +kernel), tbG_of 1311 (by decide +kernel) (by decide +kernel), by decide, TX8, _, rfl⟩
theorem kvL_113 : KV RL 113 MX8_feed 8 3 := ⟨mwX8_feed, tbG_of 1316 (by decide +kernel) (by decide +kernel), tbG_of 1317 (by decide +kernel) (by decide +kernel), tbG_of 1315 (by decide +kernel) (by decide +kernel), by decide, TX8, _, rfl⟩
theorem kvL_117 : KV RL 117 MX8_trim 8 1 := ⟨mwX8_trim, tbG_of 1320 (by decide +kernel) (by decide +kernel), tbG_of 1321 (by decide +kernel) (by decide +kernel), tbG_of 1319 (by decide +kernel) (by decide +kernel), by decide, TX8, _, rfl⟩
theorem kvL_121 : KV RL 121 MX8_text 8 0 := ⟨mwX8_text, tbG_of 1324 (by decide +kernel) (by decide +kernel), tbG_of 1325 (by decide +kernel) (by decide +kernel), tbG_of 1323 (by decide +kernel) (by decide +kernel), by decide, TX8, _, rfl⟩
theorem kvX8_241 : KV RX8 241 MX8_go 8 0 := ⟨mwX8_go, tbG_of 1329 (by decide +kernel) (by decide +kernel), tbG_of 39 (by decide +kernel) (by decide +kernel), tbG_of 1327 (by decide +kernel) (by decide +kernel), by decide, TX8, _, rfl⟩
theorem kvX8_229 : KV RX8 229 MX8_isLetter 8 1 := ⟨mwX8_isLetter, tbG_of 1333 (by decide +kernel) (by decide +kernel), tbG_of 40 (by decide +kernel) (by decide +kernel), tbG_of 1331 (by decide +kernel) (by decide +kernel), by decide, TX8, _, rfl⟩
theorem kvX8_235 : KV RX8 235 MX8_isFigure 8 1 := ⟨mwX8_isFigure, tbG_of 1337 (by decide +kernel) (by decide +kernel), tbG_of 41 (by decide +kernel) (by decide +kernel), tbG_of 1335 (by decide +kernel) (by decide +kernel), by decide, TX8, _, rfl⟩
theorem kvX8_272 : KV RX8 272 MX8_takesKey 8 0 := ⟨mwX8_takesKey, tbG_of 1341 (by decide +kernel) (by decide +kernel), tbG_of 42 (by decide +kernel) (by decide +kernel), tbG_of 1339 (by decide +kernel) (by decide +kernel), by decide, TX8, _, rfl⟩
theorem kvX8_275 : KV RX8 275 MX8_takesE 8 0 := ⟨mwX8_takesE, tbG_of 1345 (by decide +kernel) (by decide +kernel), tbG_of 43 (by decide +kernel) (by decide +kernel), tbG_of 1343 (by decide +kernel) (by decide +kernel), by decide, TX8, _, rfl⟩
theorem kvX8_262 : KV RX8 262 MX8_takesPart 8 0 := ⟨mwX8_takesPart, tbG_of 1349 (by decide +kernel) (by decide +kernel), tbG_of 44 (by decide +kernel) (by decide +kernel), tbG_of 1347 (by decide +kernel) (by decide +kernel), by decide, TX8, _, rfl⟩
theorem kvX8_253 : KV RX8 253 MX8_nameOf 8 1 := ⟨mwX8_nameOf, tbG_of 1353 (by decide +kernel) (by decide +kernel), tbG_of 45 (by decide +kernel) (by decide +kernel), tbG_of 1351 (by decide +kernel) (by decide +kernel), by decide, TX8, _, rfl⟩
theorem kvX8_259 : KV RX8 259 MX8_settle 8 1 := ⟨mwX8_settle, tbG_of 1357 (by decide +kernel) (by decide +kernel), tbG_of 46 (by decide +kernel) (by decide +kernel), tbG_of 1355 (by decide +kernel) (by decide +kernel), by decide, TX8, _, rfl⟩
theorem ksX8_247 : KS RX8 247 MX8_rank 1 := ⟨mwX8_rank, tbG_of 1360 (by decide +kernel) (by decide +kernel), Or.inl (tbG_of 1359 (by decide +kernel) (by decide +kernel))⟩
theorem kvX8_266 : KV RX8 266 MX8_notsOpen 8 0 := ⟨mwX8_notsOpen, tbG_of 1364 (by decide +kernel) (by decide +kernel), tbG_of 47 (by decide +kernel) (by decide +kernel), tbG_of 1362 (by decide +kernel) (by decide +kernel), by decide, TX8, _, rfl⟩
theorem kvX8_269 : KV RX8 269 MX8_signHere 8 0 := ⟨mwX8_signHere, tbG_of 1368 (by decide +kernel) (by decide +kernel), tbG_of 48 (by decide +kernel) (by decide +kernel), tbG_of 1366 (by decide +kernel) (by decide +kernel), by decide, TX8, _, rfl⟩
theorem kvL_125 : KV RL 125 MX8_textTold 8 2 := ⟨mwX8_textTold, tbG_of 1371 (by decide +kernel) (by decide +kernel), tbG_of 1372 (by decide +kernel) (by decide +kernel), tbG_of 1370 (by decide +kernel) (by decide +kernel), by decide, TX8, _, rfl⟩
theorem kvL_129 : KV RL 129 MX8_why 8 1 := ⟨mwX8_why, tbG_of 1375 (by decide +kernel) (by decide +kernel), tbG_of 1376 (by decide +kernel) (by decide +kernel), tbG_of 1374 (by decide +kernel) (by decide +kernel), by decide, TX8, _, rfl⟩
theorem kvL_133 : KV RL 133 MX8_sheet 8 3 := ⟨mwX8_sheet, tbG_of 1379 (by decide +kernel) (by decide +kernel), tbG_of 1380 (by decide +kernel) (by decide +kernel), tbG_of 1378 (by decide +kernel) (by decide +kernel), by decide, TX8, _, rfl⟩
theorem kvL_137 : KV RL 137 MX8_mark 8 3 := ⟨mwX8_mark, tbG_of 1384 (by decide +kernel) (by decide +kernel), tbG_of 1385 (by decide +kernel) (by decide +kernel), tbG_of 1383 (by decide +kernel) (by decide +kernel), by decide, TX8, _, rfl⟩
theorem kvL_141 : KV RL 141 MX8_pour 8 1 := ⟨mwX8_pour, tbG_of 1391 (by decide +kernel) (by decide +kernel), tbG_of 1392 (by decide +kernel) (by decide +kernel), tbG_of 1390 (by decide +kernel) (by decide +kernel), by decide, TX8, _, rfl⟩
theorem kvL_145 : KV RL 145 MX8_reads 8 1 := ⟨mwX8_reads, tbG_of 1395 (by decide +kernel) (by decide +kernel), tbG_of 1396 (by decide +kernel) (by decide +kernel), tbG_of 1394 (by decide +kernel) (by decide +kernel), by decide, TX8, _, rfl⟩
theorem kvL_150 : KV RL 150 MX8_copy 8 5 := ⟨mwX8_copy, tbG_of 1399 (by decide +kernel) (by decide +kernel), tbG_of 1400 (by decide +kernel) (by decide +kernel), tbG_of 1398 (by decide +kernel) (by decide +kernel), by decide, TX8, _, rfl⟩
theorem kvL_154 : KV RL 154 MX8_lay 8 3 := ⟨mwX8_lay, tbG_of 1403 (by decide +kernel) (by decide +kernel), tbG_of 1404 (by decide +kernel) (by decide +kernel), tbG_of 1402 (by decide +kernel) (by decide +kernel), by decide, TX8, _, rfl⟩
theorem ksX8_285 : KS RX8 285 MX8_isSlot 1 := ⟨mwX8_isSlot, tbG_of 1407 (by decide +kernel) (by decide +kernel), Or.inl (tbG_of 1406 (by decide +kernel) (by decide +kernel))⟩
theorem kvL_158 : KV RL 158 MX8_ask 8 2 := ⟨mwX8_ask, tbG_of 1410 (by decide +kernel) (by decide +kernel), tbG_of 1411 (by decide +kernel) (by decide +kernel), tbG_of 1409 (by decide +kernel) (by decide +kernel), by decide, TX8, _, rfl⟩
theorem kvL_162 : KV RL 162 MX8_item 8 2 := ⟨mwX8_item, tbG_of 1414 (by decide +kernel) (by decide +kernel), tbG_of 1415 (by decide +kernel) (by decide +kernel), tbG_of 1413 (by decide +kernel) (by decide +kernel), by decide, TX8, _, rfl⟩
theorem kvL_166 : KV RL 166 MX8_rest 8 2 := ⟨mwX8_rest, tbG_of 1418 (by decide +kernel) (by decide +kernel), tbG_of 1419 (by decide +kernel) (by decide +kernel), tbG_of 1417 (by decide +kernel) (by decide +kernel), by decide, TX8, _, rfl⟩
theorem kvL_170 : KV RL 170 MX8_tell 8 1 := ⟨mwX8_tell, tbG_of 1423 (by decide +kernel) (by decide +kernel), tbG_of 1424 (by decide +kernel) (by decide +kernel), tbG_of 1422 (by decide +kernel) (by decide +kernel), by decide, TX8, _, rfl⟩
theorem kvL_174 : KV RL 174 MX8_check 8 1 := ⟨mwX8_check, tbG_of 1427 (by decide +kernel) (by decide +kernel), tbG_of 1428 (by decide +kernel) (by decide +kernel), tbG_of 1426 (by decide +kernel) (by decide +kernel), by decide, TX8, _, rfl⟩
theorem kvX8_296 : KV RX8 296 MX8_allDug 8 0 := ⟨mwX8_allDug, tbG_of 1432 (by decide +kernel) (by decide +kernel), tbG_of 49 (by decide +kernel) (by decide +kernel), tbG_of 1430 (by decide +kernel) (by decide +kernel), by decide, TX8, _, rfl⟩
theorem kvL_178 : KV RL 178 MX8_keep 8 0 := ⟨mwX8_keep, tbG_of 1435 (by decide +kernel) (by decide +kernel), tbG_of 1436 (by decide +kernel) (by decide +kernel), tbG_of 1434 (by decide +kernel) (by decide +kernel), by decide, TX8, _, rfl⟩
theorem kvL_182 : KV RL 182 MX8_back 8 0 := ⟨mwX8_back, tbG_of 1439 (by decide +kernel) (by decide +kernel), tbG_of 1440 (by decide +kernel) (by decide +kernel), tbG_of 1438 (by decide +kernel) (by decide +kernel), by decide, TX8, _, rfl⟩
theorem kvL_186 : KV RL 186 MX8_count 8 1 := ⟨mwX8_count, tbG_of 1443 (by decide +kernel) (by decide +kernel), tbG_of 1444 (by decide +kernel) (by decide +kernel), tbG_of 1442 (by decide +kernel) (by decide +kernel), by decide, TX8, _, rfl⟩
theorem kiX2_28 : KI RX2 28 MX1_init 0 := ⟨mwX1_init, tbG_of 186 (by decide +kernel) (by decide +kernel), rfl, rfl, Or.inr ⟨"SpoonPassage", fun s h => h.1⟩⟩
theorem kiX5_9 : KI RX5 9 MX1_init 0 := ⟨mwX1_init, tbG_of 186 (by decide +kernel) (by decide +kernel), rfl, rfl, Or.inr ⟨"SpoonPassage", fun s h => h.2.1⟩⟩
theorem ksX2_165 : KS RX2 165 MX7_held 1 := ⟨mwX7_held, tbG_of 378 (by decide +kernel) (by decide +kernel), Or.inr ⟨"SpoonPassage", fun s h => h.2.2.1⟩⟩
theorem ksX2_102 : KS RX2 102 MX7_within 3 := ⟨mwX7_within, tbG_of 349 (by decide +kernel) (by decide +kernel), Or.inr ⟨"SpoonPassage", fun s h => h.2.2.2.1⟩⟩
end
section
/-! the layout of the cells when both objects are made: 0 .. 95 the class's, 96 .. 117 the reference's -/
def kdL : List (List (Nat × Nat)) := [[(7, 10), (6, 6), (10, 14), (10, 14), (10, 14), (10, 1344), (10, 4), (10, 96), (3, 12), (10, 96), (10, 96), (2, 12), (14, 4), (0, 3), (0, 3), (0, 3)], [(0, 3), (15, 10), (1, 5), (1, 5), (1, 5), (1, 5), (1, 5), (1, 5), (1, 5), (1, 5), (1, 5), (1, 5), (10, 3), (2, 12), (14, 4), (0, 3)], [(0, 3), (0, 3), (0, 3), (15, 10), (1, 5), (1, 5), (1, 5), (1, 5), (1, 5), (1, 5), (1, 5), (1, 5), (1, 5), (1, 5), (10, 3), (2, 12)], [(14, 4), (0, 3), (0, 3), (0, 3), (0, 3), (15, 10), (1, 5), (1, 5), (1, 5), (1, 5), (1, 5), (1, 5), (1, 5), (1, 5), (1, 5), (1, 5)], [(10, 3), (16, 4), (4, 3), (10, 24), (4, 3), (10, 24), (4, 3), (10, 24), (4, 3), (10, 24), (17, 5), (5, 4), (1, 5), (4, 3), (10, 24), (5, 4)], [(1, 5), (4, 3), (10, 24), (5, 4), (1, 5), (4, 3), (10, 24), (5, 4), (1, 5), (4, 3), (10, 24), (5, 4), (1, 5), (4, 3), (10, 24), (10, 60)], [(8, 33), (10, 1442), (10, 1442), (10, 1442), (10, 4), (10, 96), (11, 10), (10, 4), (10, 96), (10, 96), (12, 10), (10, 96), (10, 4), (10, 4), (10, 4), (10, 96)], [(10, 5), (10, 5), (10, 5), (10, 120), (10, 24), (10, 60)]]
def kd0 (a : Nat) : Nat × Nat := nth (nth kdL (a / 16) []) (a % 16) (0, 0)
def rfL : List (List (List (Option Nat))) := [[[some 1, some 8, some 11, some 29, some 47, some 65, some 74, some 95, none, none], [some 2, some 3, some 4, some 5, some 6, some 7], [], [], [], [], [], [], [some 9, none, none, none, none, none, none, none, none, none, some 10, none], [], [], [some 12, some 17, some 28, some 1, none, none, none, none, none, none, none, none], [some 13, some 14, some 15, some 16], [], [], []],
  [[], [some 18, some 19, some 20, some 21, some 22, some 23, some 24, some 25, some 26, some 27], [], [], [], [], [], [], [], [], [], [], [], [some 30, some 35, some 46, some 1, none, none, none, none, none, none, none, none], [some 31, some 32, some 33, some 34], []],
  [[], [], [], [some 36, some 37, some 38, some 39, some 40, some 41, some 42, some 43, some 44, some 45], [], [], [], [], [], [], [], [], [], [], [], [some 48, some 53, some 64, some 1, none, none, none, none, none, none, none, none]],
  [[some 49, some 50, some 51, some 52], [], [], [], [], [some 54, some 55, some 56, some 57, some 58, some 59, some 60, some 61, some 62, some 63], [], [], [], [], [], [], [], [], [], []],
  [[], [some 66, some 68, some 70, some 72], [some 67, none, none], [], [some 69, none, none], [], [some 71, none, none], [], [some 73, none, none], [], [some 75, some 79, some 83, some 87, some 91], [none, none, some 76, some 77], [], [some 78, none, none], [], [none, none, some 80, some 81]],
  [[], [some 82, none, none], [], [none, none, some 84, some 85], [], [some 86, none, none], [], [none, none, some 88, some 89], [], [some 90, none, none], [], [none, none, some 92, some 93], [], [some 94, none, none], [], []],
  [[some 97, some 98, some 99, none, some 100, some 101, none, none, none, none, none, none, none, some 102, some 103, some 104, none, none, some 105, none, some 106, some 107, some 108, some 109, some 110, some 111, some 112, some 113, some 114, some 115, some 116, some 117, none], [], [], [], [], [], [], [], [], [], [], [], [], [], [], []],
  [[], [], [], [], [], []]]
def rf0 (a k : Nat) : Option Nat := nth (nth (nth rfL (a / 16) []) (a % 16) []) k none
abbrev Mm : Type := Nat → Nat → Int32
def vl (h : Mm) (a k : Nat) : Value := match rf0 a k with
  | some r => .ref r
  | none => .int (h a k)
def mu (h : Mm) : Mu := (118, kd0, vl h)
def up (h : Mm) (a k : Nat) (x : Int32) : Mm := fun b j => if b = a ∧ j = k then x else h b j
theorem mu_up {h : Mm} {a k : Nat} {x : Int32} (hr : rf0 a k = none) : Um (mu h) a k (.int x) = mu (up h a k x) := by
  unfold Um mu
  refine congrArg (fun f => (118, kd0, f)) ?_
  funext b j
  show (if b = a ∧ j = k then Value.int x else vl h b j) = vl (up h a k x) b j
  by_cases e : b = a ∧ j = k
  · obtain ⟨rfl, rfl⟩ := e
    simp [vl, hr, up]
  · rw [if_neg e]
    unfold vl
    cases hrf : rf0 b j with
    | some r => rfl
    | none => simp [up, e]
def Wp (w : Wt) (k : Nat) (M : Mt) (Q : Option Value → Mm → Prop) (pc : Nat) (L : List (Option Value)) (st : List Value) (h : Mm) : Prop := Gp w k 0 0 M (fun r u => ∃ h', u = mu h' ∧ Q r h') pc L st (mu h)

theorem fo0_13 : FO RX0 13 0 0 := ⟨by decide, fun C T N h => by cases h; exact ⟨by decide, tbG_of 166 (by decide +kernel) (by decide +kernel)⟩⟩
theorem fo0_7 : FO RX0 7 0 1 := ⟨by decide, fun C T N h => by cases h; exact ⟨by decide, tbG_of 169 (by decide +kernel) (by decide +kernel)⟩⟩
theorem fo0_16 : FO RX0 16 0 2 := ⟨by decide, fun C T N h => by cases h; exact ⟨by decide, tbG_of 172 (by decide +kernel) (by decide +kernel)⟩⟩
theorem fo1_9 : FO RX1 9 1 0 := ⟨by decide, fun C T N h => by cases h; exact ⟨by decide, tbG_of 189 (by decide +kernel) (by decide +kernel)⟩⟩
theorem fo1_15 : FO RX1 15 1 1 := ⟨by decide, fun C T N h => by cases h; exact ⟨by decide, tbG_of 192 (by decide +kernel) (by decide +kernel)⟩⟩
theorem fo1_18 : FO RX1 18 1 2 := ⟨by decide, fun C T N h => by cases h; exact ⟨by decide, tbG_of 195 (by decide +kernel) (by decide +kernel)⟩⟩
theorem fo1_21 : FO RX1 21 1 3 := ⟨by decide, fun C T N h => by cases h; exact ⟨by decide, tbG_of 198 (by decide +kernel) (by decide +kernel)⟩⟩
theorem fo1_24 : FO RX1 24 1 4 := ⟨by decide, fun C T N h => by cases h; exact ⟨by decide, tbG_of 201 (by decide +kernel) (by decide +kernel)⟩⟩
theorem fo2_97 : FO RX2 97 3 8 := ⟨by decide, fun C T N h => by cases h; exact ⟨by decide, tbG_of 121 (by decide +kernel) (by decide +kernel)⟩⟩
theorem fo2_127 : FO RX2 127 0 0 := ⟨by decide, fun C T N h => by cases h; exact ⟨by decide, tbG_of 167 (by decide +kernel) (by decide +kernel)⟩⟩
theorem fo2_148 : FO RX2 148 0 1 := ⟨by decide, fun C T N h => by cases h; exact ⟨by decide, tbG_of 171 (by decide +kernel) (by decide +kernel)⟩⟩
theorem fo2_139 : FO RX2 139 0 2 := ⟨by decide, fun C T N h => by cases h; exact ⟨by decide, tbG_of 174 (by decide +kernel) (by decide +kernel)⟩⟩
theorem fo2_67 : FO RX2 67 1 0 := ⟨by decide, fun C T N h => by cases h; exact ⟨by decide, tbG_of 190 (by decide +kernel) (by decide +kernel)⟩⟩
theorem fo2_70 : FO RX2 70 1 1 := ⟨by decide, fun C T N h => by cases h; exact ⟨by decide, tbG_of 193 (by decide +kernel) (by decide +kernel)⟩⟩
theorem fo2_73 : FO RX2 73 1 2 := ⟨by decide, fun C T N h => by cases h; exact ⟨by decide, tbG_of 196 (by decide +kernel) (by decide +kernel)⟩⟩
theorem fo2_76 : FO RX2 76 1 3 := ⟨by decide, fun C T N h => by cases h; exact ⟨by decide, tbG_of 199 (by decide +kernel) (by decide +kernel)⟩⟩
theorem fo2_79 : FO RX2 79 1 4 := ⟨by decide, fun C T N h => by cases h; exact ⟨by decide, tbG_of 202 (by decide +kernel) (by decide +kernel)⟩⟩
theorem fo2_17 : FO RX2 17 2 0 := ⟨by decide, fun C T N h => by cases h; exact ⟨by decide, tbG_of 216 (by decide +kernel) (by decide +kernel)⟩⟩
theorem fo2_24 : FO RX2 24 2 1 := ⟨by decide, fun C T N h => by cases h; exact ⟨by decide, tbG_of 218 (by decide +kernel) (by decide +kernel)⟩⟩
theorem fo2_29 : FO RX2 29 2 2 := ⟨by decide, fun C T N h => by cases h; exact ⟨by decide, tbG_of 220 (by decide +kernel) (by decide +kernel)⟩⟩
theorem fo2_9 : FO RX2 9 2 3 := ⟨by decide, fun C T N h => by cases h; exact ⟨by decide, tbG_of 222 (by decide +kernel) (by decide +kernel)⟩⟩
theorem fo2_45 : FO RX2 45 2 4 := ⟨by decide, fun C T N h => by cases h; exact ⟨by decide, tbG_of 223 (by decide +kernel) (by decide +kernel)⟩⟩
theorem fo2_51 : FO RX2 51 2 5 := ⟨by decide, fun C T N h => by cases h; exact ⟨by decide, tbG_of 225 (by decide +kernel) (by decide +kernel)⟩⟩
theorem fo2_34 : FO RX2 34 2 6 := ⟨by decide, fun C T N h => by cases h; exact ⟨by decide, tbG_of 227 (by decide +kernel) (by decide +kernel)⟩⟩
theorem fo2_54 : FO RX2 54 2 7 := ⟨by decide, fun C T N h => by cases h; exact ⟨by decide, tbG_of 229 (by decide +kernel) (by decide +kernel)⟩⟩
theorem fo2_57 : FO RX2 57 2 8 := ⟨by decide, fun C T N h => by cases h; exact ⟨by decide, tbG_of 231 (by decide +kernel) (by decide +kernel)⟩⟩
theorem fo2_60 : FO RX2 60 2 9 := ⟨by decide, fun C T N h => by cases h; exact ⟨by decide, tbG_of 233 (by decide +kernel) (by decide +kernel)⟩⟩
theorem fo2_63 : FO RX2 63 2 10 := ⟨by decide, fun C T N h => by cases h; exact ⟨by decide, tbG_of 235 (by decide +kernel) (by decide +kernel)⟩⟩
theorem fo2_38 : FO RX2 38 2 11 := ⟨by decide, fun C T N h => by cases h; exact ⟨by decide, tbG_of 237 (by decide +kernel) (by decide +kernel)⟩⟩
theorem fo3_9 : FO RX3 9 3 0 := ⟨by decide, fun C T N h => by cases h; exact ⟨by decide, tbG_of 110 (by decide +kernel) (by decide +kernel)⟩⟩
theorem fo3_18 : FO RX3 18 3 1 := ⟨by decide, fun C T N h => by cases h; exact ⟨by decide, tbG_of 111 (by decide +kernel) (by decide +kernel)⟩⟩
theorem fo3_42 : FO RX3 42 3 2 := ⟨by decide, fun C T N h => by cases h; exact ⟨by decide, tbG_of 113 (by decide +kernel) (by decide +kernel)⟩⟩
theorem fo3_32 : FO RX3 32 3 3 := ⟨by decide, fun C T N h => by cases h; exact ⟨by decide, tbG_of 114 (by decide +kernel) (by decide +kernel)⟩⟩
theorem fo3_45 : FO RX3 45 3 4 := ⟨by decide, fun C T N h => by cases h; exact ⟨by decide, tbG_of 115 (by decide +kernel) (by decide +kernel)⟩⟩
theorem fo3_70 : FO RX3 70 3 5 := ⟨by decide, fun C T N h => by cases h; exact ⟨by decide, tbG_of 116 (by decide +kernel) (by decide +kernel)⟩⟩
theorem fo3_48 : FO RX3 48 3 6 := ⟨by decide, fun C T N h => by cases h; exact ⟨by decide, tbG_of 117 (by decide +kernel) (by decide +kernel)⟩⟩
theorem fo3_51 : FO RX3 51 3 7 := ⟨by decide, fun C T N h => by cases h; exact ⟨by decide, tbG_of 118 (by decide +kernel) (by decide +kernel)⟩⟩
theorem fo3_29 : FO RX3 29 3 8 := ⟨by decide, fun C T N h => by cases h; exact ⟨by decide, tbG_of 120 (by decide +kernel) (by decide +kernel)⟩⟩
theorem fo3_54 : FO RX3 54 3 9 := ⟨by decide, fun C T N h => by cases h; exact ⟨by decide, tbG_of 123 (by decide +kernel) (by decide +kernel)⟩⟩
theorem fo3_15 : FO RX3 15 3 10 := ⟨by decide, fun C T N h => by cases h; exact ⟨by decide, tbG_of 124 (by decide +kernel) (by decide +kernel)⟩⟩
theorem fo3_57 : FO RX3 57 3 11 := ⟨by decide, fun C T N h => by cases h; exact ⟨by decide, tbG_of 127 (by decide +kernel) (by decide +kernel)⟩⟩
theorem fo4_9 : FO RX4 9 4 0 := ⟨by decide, fun C T N h => by cases h; exact ⟨by decide, tbG_of 271 (by decide +kernel) (by decide +kernel)⟩⟩
theorem fo4_15 : FO RX4 15 4 1 := ⟨by decide, fun C T N h => by cases h; exact ⟨by decide, tbG_of 273 (by decide +kernel) (by decide +kernel)⟩⟩
theorem fo4_19 : FO RX4 19 4 2 := ⟨by decide, fun C T N h => by cases h; exact ⟨by decide, tbG_of 275 (by decide +kernel) (by decide +kernel)⟩⟩
theorem fo5_10 : FO RX5 10 5 2 := ⟨by decide, fun C T N h => by cases h; exact ⟨by decide, tbG_of 297 (by decide +kernel) (by decide +kernel)⟩⟩
theorem fo5_19 : FO RX5 19 5 3 := ⟨by decide, fun C T N h => by cases h; exact ⟨by decide, tbG_of 299 (by decide +kernel) (by decide +kernel)⟩⟩
theorem fo6_9 : FO RX6 9 6 0 := ⟨by decide, fun C T N h => by cases h; exact ⟨by decide, tbG_of 82 (by decide +kernel) (by decide +kernel)⟩⟩
theorem fo6_15 : FO RX6 15 6 1 := ⟨by decide, fun C T N h => by cases h; exact ⟨by decide, tbG_of 84 (by decide +kernel) (by decide +kernel)⟩⟩
theorem fo6_18 : FO RX6 18 6 2 := ⟨by decide, fun C T N h => by cases h; exact ⟨by decide, tbG_of 86 (by decide +kernel) (by decide +kernel)⟩⟩
theorem fo6_21 : FO RX6 21 6 3 := ⟨by decide, fun C T N h => by cases h; exact ⟨by decide, tbG_of 87 (by decide +kernel) (by decide +kernel)⟩⟩
theorem fo6_24 : FO RX6 24 6 4 := ⟨by decide, fun C T N h => by cases h; exact ⟨by decide, tbG_of 88 (by decide +kernel) (by decide +kernel)⟩⟩
theorem fo6_27 : FO RX6 27 6 5 := ⟨by decide, fun C T N h => by cases h; exact ⟨by decide, tbG_of 89 (by decide +kernel) (by decide +kernel)⟩⟩
theorem fo6_30 : FO RX6 30 3 8 := ⟨by decide, fun C T N h => by cases h; exact ⟨by decide, tbG_of 119 (by decide +kernel) (by decide +kernel)⟩⟩
theorem fo6_36 : FO RX6 36 3 9 := ⟨by decide, fun C T N h => by cases h; exact ⟨by decide, tbG_of 122 (by decide +kernel) (by decide +kernel)⟩⟩
theorem fo6_42 : FO RX6 42 3 10 := ⟨by decide, fun C T N h => by cases h; exact ⟨by decide, tbG_of 125 (by decide +kernel) (by decide +kernel)⟩⟩
theorem fo6_39 : FO RX6 39 3 11 := ⟨by decide, fun C T N h => by cases h; exact ⟨by decide, tbG_of 126 (by decide +kernel) (by decide +kernel)⟩⟩
theorem fo7_243 : FO RX7 243 6 0 := ⟨by decide, fun C T N h => by cases h; exact ⟨by decide, tbG_of 83 (by decide +kernel) (by decide +kernel)⟩⟩
theorem fo7_246 : FO RX7 246 6 1 := ⟨by decide, fun C T N h => by cases h; exact ⟨by decide, tbG_of 85 (by decide +kernel) (by decide +kernel)⟩⟩
theorem fo7_228 : FO RX7 228 3 1 := ⟨by decide, fun C T N h => by cases h; exact ⟨by decide, tbG_of 112 (by decide +kernel) (by decide +kernel)⟩⟩
theorem fo7_132 : FO RX7 132 0 0 := ⟨by decide, fun C T N h => by cases h; exact ⟨by decide, tbG_of 168 (by decide +kernel) (by decide +kernel)⟩⟩
theorem fo7_135 : FO RX7 135 0 1 := ⟨by decide, fun C T N h => by cases h; exact ⟨by decide, tbG_of 170 (by decide +kernel) (by decide +kernel)⟩⟩
theorem fo7_127 : FO RX7 127 0 2 := ⟨by decide, fun C T N h => by cases h; exact ⟨by decide, tbG_of 173 (by decide +kernel) (by decide +kernel)⟩⟩
theorem fo7_91 : FO RX7 91 1 0 := ⟨by decide, fun C T N h => by cases h; exact ⟨by decide, tbG_of 191 (by decide +kernel) (by decide +kernel)⟩⟩
theorem fo7_96 : FO RX7 96 1 1 := ⟨by decide, fun C T N h => by cases h; exact ⟨by decide, tbG_of 194 (by decide +kernel) (by decide +kernel)⟩⟩
theorem fo7_99 : FO RX7 99 1 2 := ⟨by decide, fun C T N h => by cases h; exact ⟨by decide, tbG_of 197 (by decide +kernel) (by decide +kernel)⟩⟩
theorem fo7_102 : FO RX7 102 1 3 := ⟨by decide, fun C T N h => by cases h; exact ⟨by decide, tbG_of 200 (by decide +kernel) (by decide +kernel)⟩⟩
theorem fo7_105 : FO RX7 105 1 4 := ⟨by decide, fun C T N h => by cases h; exact ⟨by decide, tbG_of 203 (by decide +kernel) (by decide +kernel)⟩⟩
theorem fo7_123 : FO RX7 123 2 0 := ⟨by decide, fun C T N h => by cases h; exact ⟨by decide, tbG_of 217 (by decide +kernel) (by decide +kernel)⟩⟩
theorem fo7_87 : FO RX7 87 2 1 := ⟨by decide, fun C T N h => by cases h; exact ⟨by decide, tbG_of 219 (by decide +kernel) (by decide +kernel)⟩⟩
theorem fo7_249 : FO RX7 249 2 2 := ⟨by decide, fun C T N h => by cases h; exact ⟨by decide, tbG_of 221 (by decide +kernel) (by decide +kernel)⟩⟩
theorem fo7_76 : FO RX7 76 2 4 := ⟨by decide, fun C T N h => by cases h; exact ⟨by decide, tbG_of 224 (by decide +kernel) (by decide +kernel)⟩⟩
theorem fo7_237 : FO RX7 237 2 5 := ⟨by decide, fun C T N h => by cases h; exact ⟨by decide, tbG_of 226 (by decide +kernel) (by decide +kernel)⟩⟩
theorem fo7_147 : FO RX7 147 2 6 := ⟨by decide, fun C T N h => by cases h; exact ⟨by decide, tbG_of 228 (by decide +kernel) (by decide +kernel)⟩⟩
theorem fo7_150 : FO RX7 150 2 7 := ⟨by decide, fun C T N h => by cases h; exact ⟨by decide, tbG_of 230 (by decide +kernel) (by decide +kernel)⟩⟩
theorem fo7_175 : FO RX7 175 2 8 := ⟨by decide, fun C T N h => by cases h; exact ⟨by decide, tbG_of 232 (by decide +kernel) (by decide +kernel)⟩⟩
theorem fo7_178 : FO RX7 178 2 9 := ⟨by decide, fun C T N h => by cases h; exact ⟨by decide, tbG_of 234 (by decide +kernel) (by decide +kernel)⟩⟩
theorem fo7_168 : FO RX7 168 2 10 := ⟨by decide, fun C T N h => by cases h; exact ⟨by decide, tbG_of 236 (by decide +kernel) (by decide +kernel)⟩⟩
theorem fo7_162 : FO RX7 162 2 11 := ⟨by decide, fun C T N h => by cases h; exact ⟨by decide, tbG_of 238 (by decide +kernel) (by decide +kernel)⟩⟩
theorem fo7_264 : FO RX7 264 4 0 := ⟨by decide, fun C T N h => by cases h; exact ⟨by decide, tbG_of 272 (by decide +kernel) (by decide +kernel)⟩⟩
theorem fo7_261 : FO RX7 261 4 1 := ⟨by decide, fun C T N h => by cases h; exact ⟨by decide, tbG_of 274 (by decide +kernel) (by decide +kernel)⟩⟩
theorem fo7_269 : FO RX7 269 4 2 := ⟨by decide, fun C T N h => by cases h; exact ⟨by decide, tbG_of 276 (by decide +kernel) (by decide +kernel)⟩⟩
theorem fo7_289 : FO RX7 289 5 0 := ⟨by decide, fun C T N h => by cases h; exact ⟨by decide, tbG_of 295 (by decide +kernel) (by decide +kernel)⟩⟩
theorem fo7_306 : FO RX7 306 5 1 := ⟨by decide, fun C T N h => by cases h; exact ⟨by decide, tbG_of 296 (by decide +kernel) (by decide +kernel)⟩⟩
theorem fo7_292 : FO RX7 292 5 2 := ⟨by decide, fun C T N h => by cases h; exact ⟨by decide, tbG_of 298 (by decide +kernel) (by decide +kernel)⟩⟩
theorem fo7_299 : FO RX7 299 5 3 := ⟨by decide, fun C T N h => by cases h; exact ⟨by decide, tbG_of 300 (by decide +kernel) (by decide +kernel)⟩⟩
theorem fo7_10 : FO RX7 10 7 0 := ⟨by decide, fun C T N h => by cases h; exact ⟨by decide, tbG_of 310 (by decide +kernel) (by decide +kernel)⟩⟩
theorem fo7_19 : FO RX7 19 7 1 := ⟨by decide, fun C T N h => by cases h; exact ⟨by decide, tbG_of 311 (by decide +kernel) (by decide +kernel)⟩⟩
theorem fo7_28 : FO RX7 28 7 2 := ⟨by decide, fun C T N h => by cases h; exact ⟨by decide, tbG_of 312 (by decide +kernel) (by decide +kernel)⟩⟩
theorem fo7_32 : FO RX7 32 7 3 := ⟨by decide, fun C T N h => by cases h; exact ⟨by decide, tbG_of 313 (by decide +kernel) (by decide +kernel)⟩⟩
theorem fo7_35 : FO RX7 35 7 4 := ⟨by decide, fun C T N h => by cases h; exact ⟨by decide, tbG_of 314 (by decide +kernel) (by decide +kernel)⟩⟩
theorem fo7_40 : FO RX7 40 7 5 := ⟨by decide, fun C T N h => by cases h; exact ⟨by decide, tbG_of 315 (by decide +kernel) (by decide +kernel)⟩⟩
theorem fo7_47 : FO RX7 47 7 6 := ⟨by decide, fun C T N h => by cases h; exact ⟨by decide, tbG_of 316 (by decide +kernel) (by decide +kernel)⟩⟩
theorem fo7_52 : FO RX7 52 7 7 := ⟨by decide, fun C T N h => by cases h; exact ⟨by decide, tbG_of 317 (by decide +kernel) (by decide +kernel)⟩⟩
theorem fo7_56 : FO RX7 56 7 8 := ⟨by decide, fun C T N h => by cases h; exact ⟨by decide, tbG_of 318 (by decide +kernel) (by decide +kernel)⟩⟩
theorem fo7_60 : FO RX7 60 7 9 := ⟨by decide, fun C T N h => by cases h; exact ⟨by decide, tbG_of 319 (by decide +kernel) (by decide +kernel)⟩⟩
theorem fo8_9 : FO RX8 9 8 0 := ⟨by decide, fun C T N h => by cases h; exact ⟨by decide, tbG_of 960 (by decide +kernel) (by decide +kernel)⟩⟩
theorem fo8_13 : FO RX8 13 8 1 := ⟨by decide, fun C T N h => by cases h; exact ⟨by decide, tbG_of 961 (by decide +kernel) (by decide +kernel)⟩⟩
theorem fo8_16 : FO RX8 16 8 2 := ⟨by decide, fun C T N h => by cases h; exact ⟨by decide, tbG_of 962 (by decide +kernel) (by decide +kernel)⟩⟩
theorem fo8_292 : FO RX8 292 8 3 := ⟨by decide, fun C T N h => by cases h; exact ⟨by decide, tbG_of 963 (by decide +kernel) (by decide +kernel)⟩⟩
theorem fo8_19 : FO RX8 19 8 4 := ⟨by decide, fun C T N h => by cases h; exact ⟨by decide, tbG_of 964 (by decide +kernel) (by decide +kernel)⟩⟩
theorem fo8_22 : FO RX8 22 8 5 := ⟨by decide, fun C T N h => by cases h; exact ⟨by decide, tbG_of 965 (by decide +kernel) (by decide +kernel)⟩⟩
theorem fo8_213 : FO RX8 213 8 6 := ⟨by decide, fun C T N h => by cases h; exact ⟨by decide, tbG_of 966 (by decide +kernel) (by decide +kernel)⟩⟩
theorem fo8_217 : FO RX8 217 8 7 := ⟨by decide, fun C T N h => by cases h; exact ⟨by decide, tbG_of 967 (by decide +kernel) (by decide +kernel)⟩⟩
theorem fo8_220 : FO RX8 220 8 8 := ⟨by decide, fun C T N h => by cases h; exact ⟨by decide, tbG_of 968 (by decide +kernel) (by decide +kernel)⟩⟩
theorem fo8_226 : FO RX8 226 8 9 := ⟨by decide, fun C T N h => by cases h; exact ⟨by decide, tbG_of 969 (by decide +kernel) (by decide +kernel)⟩⟩
theorem fo8_232 : FO RX8 232 8 10 := ⟨by decide, fun C T N h => by cases h; exact ⟨by decide, tbG_of 970 (by decide +kernel) (by decide +kernel)⟩⟩
theorem fo8_223 : FO RX8 223 8 11 := ⟨by decide, fun C T N h => by cases h; exact ⟨by decide, tbG_of 971 (by decide +kernel) (by decide +kernel)⟩⟩
theorem fo8_238 : FO RX8 238 8 12 := ⟨by decide, fun C T N h => by cases h; exact ⟨by decide, tbG_of 972 (by decide +kernel) (by decide +kernel)⟩⟩
theorem fo8_25 : FO RX8 25 8 13 := ⟨by decide, fun C T N h => by cases h; exact ⟨by decide, tbG_of 973 (by decide +kernel) (by decide +kernel)⟩⟩
theorem fo8_29 : FO RX8 29 8 14 := ⟨by decide, fun C T N h => by cases h; exact ⟨by decide, tbG_of 974 (by decide +kernel) (by decide +kernel)⟩⟩
theorem fo8_32 : FO RX8 32 8 15 := ⟨by decide, fun C T N h => by cases h; exact ⟨by decide, tbG_of 975 (by decide +kernel) (by decide +kernel)⟩⟩
theorem fo8_250 : FO RX8 250 8 16 := ⟨by decide, fun C T N h => by cases h; exact ⟨by decide, tbG_of 976 (by decide +kernel) (by decide +kernel)⟩⟩
theorem fo8_256 : FO RX8 256 8 17 := ⟨by decide, fun C T N h => by cases h; exact ⟨by decide, tbG_of 977 (by decide +kernel) (by decide +kernel)⟩⟩
theorem fo8_35 : FO RX8 35 8 18 := ⟨by decide, fun C T N h => by cases h; exact ⟨by decide, tbG_of 978 (by decide +kernel) (by decide +kernel)⟩⟩
theorem fo8_244 : FO RX8 244 8 19 := ⟨by decide, fun C T N h => by cases h; exact ⟨by decide, tbG_of 979 (by decide +kernel) (by decide +kernel)⟩⟩
theorem fo8_38 : FO RX8 38 8 20 := ⟨by decide, fun C T N h => by cases h; exact ⟨by decide, tbG_of 980 (by decide +kernel) (by decide +kernel)⟩⟩
theorem fo8_42 : FO RX8 42 8 21 := ⟨by decide, fun C T N h => by cases h; exact ⟨by decide, tbG_of 981 (by decide +kernel) (by decide +kernel)⟩⟩
theorem fo8_45 : FO RX8 45 8 22 := ⟨by decide, fun C T N h => by cases h; exact ⟨by decide, tbG_of 982 (by decide +kernel) (by decide +kernel)⟩⟩
theorem fo8_48 : FO RX8 48 8 23 := ⟨by decide, fun C T N h => by cases h; exact ⟨by decide, tbG_of 983 (by decide +kernel) (by decide +kernel)⟩⟩
theorem fo8_51 : FO RX8 51 8 24 := ⟨by decide, fun C T N h => by cases h; exact ⟨by decide, tbG_of 984 (by decide +kernel) (by decide +kernel)⟩⟩
theorem fo8_54 : FO RX8 54 8 25 := ⟨by decide, fun C T N h => by cases h; exact ⟨by decide, tbG_of 985 (by decide +kernel) (by decide +kernel)⟩⟩
theorem fo8_57 : FO RX8 57 8 26 := ⟨by decide, fun C T N h => by cases h; exact ⟨by decide, tbG_of 986 (by decide +kernel) (by decide +kernel)⟩⟩
theorem fo8_60 : FO RX8 60 8 27 := ⟨by decide, fun C T N h => by cases h; exact ⟨by decide, tbG_of 987 (by decide +kernel) (by decide +kernel)⟩⟩
theorem fo8_63 : FO RX8 63 8 28 := ⟨by decide, fun C T N h => by cases h; exact ⟨by decide, tbG_of 988 (by decide +kernel) (by decide +kernel)⟩⟩
theorem fo8_66 : FO RX8 66 8 29 := ⟨by decide, fun C T N h => by cases h; exact ⟨by decide, tbG_of 989 (by decide +kernel) (by decide +kernel)⟩⟩
theorem fo8_69 : FO RX8 69 8 30 := ⟨by decide, fun C T N h => by cases h; exact ⟨by decide, tbG_of 990 (by decide +kernel) (by decide +kernel)⟩⟩
theorem fo8_72 : FO RX8 72 8 31 := ⟨by decide, fun C T N h => by cases h; exact ⟨by decide, tbG_of 991 (by decide +kernel) (by decide +kernel)⟩⟩
theorem fo8_289 : FO RX8 289 8 32 := ⟨by decide, fun C T N h => by cases h; exact ⟨by decide, tbG_of 992 (by decide +kernel) (by decide +kernel)⟩⟩
def fl0 : List (Nat × Nat × Nat) := [(13, 0, 0), (7, 0, 1), (16, 0, 2)]
theorem fl0_ok : ∀ e ∈ fl0, FO RX0 e.1 e.2.1 e.2.2 := List.forall_mem_cons.mpr ⟨fo0_13, List.forall_mem_cons.mpr ⟨fo0_7, List.forall_mem_cons.mpr ⟨fo0_16, fun _ h => absurd h List.not_mem_nil⟩⟩⟩
def fl1 : List (Nat × Nat × Nat) := [(9, 1, 0), (15, 1, 1), (18, 1, 2), (21, 1, 3), (24, 1, 4)]
theorem fl1_ok : ∀ e ∈ fl1, FO RX1 e.1 e.2.1 e.2.2 := List.forall_mem_cons.mpr ⟨fo1_9, List.forall_mem_cons.mpr ⟨fo1_15, List.forall_mem_cons.mpr ⟨fo1_18, List.forall_mem_cons.mpr ⟨fo1_21, List.forall_mem_cons.mpr ⟨fo1_24, fun _ h => absurd h List.not_mem_nil⟩⟩⟩⟩⟩
def fl2 : List (Nat × Nat × Nat) := [(97, 3, 8), (127, 0, 0), (148, 0, 1), (139, 0, 2), (67, 1, 0), (70, 1, 1), (73, 1, 2), (76, 1, 3), (79, 1, 4), (17, 2, 0), (24, 2, 1), (29, 2, 2), (9, 2, 3), (45, 2, 4), (51, 2, 5), (34, 2, 6), (54, 2, 7), (57, 2, 8), (60, 2, 9), (63, 2, 10), (38, 2, 11)]
theorem fl2_ok : ∀ e ∈ fl2, FO RX2 e.1 e.2.1 e.2.2 := List.forall_mem_cons.mpr ⟨fo2_97, List.forall_mem_cons.mpr ⟨fo2_127, List.forall_mem_cons.mpr ⟨fo2_148, List.forall_mem_cons.mpr ⟨fo2_139, List.forall_mem_cons.mpr ⟨fo2_67, List.forall_mem_cons.mpr ⟨fo2_70, List.forall_mem_cons.mpr ⟨fo2_73, List.forall_mem_cons.mpr ⟨fo2_76, List.forall_mem_cons.mpr ⟨fo2_79, List.forall_mem_cons.mpr ⟨fo2_17, List.forall_mem_cons.mpr ⟨fo2_24, List.forall_mem_cons.mpr ⟨fo2_29, List.forall_mem_cons.mpr ⟨fo2_9, List.forall_mem_cons.mpr ⟨fo2_45, List.forall_mem_cons.mpr ⟨fo2_51, List.forall_mem_cons.mpr ⟨fo2_34, List.forall_mem_cons.mpr ⟨fo2_54, List.forall_mem_cons.mpr ⟨fo2_57, List.forall_mem_cons.mpr ⟨fo2_60, List.forall_mem_cons.mpr ⟨fo2_63, List.forall_mem_cons.mpr ⟨fo2_38, fun _ h => absurd h List.not_mem_nil⟩⟩⟩⟩⟩⟩⟩⟩⟩⟩⟩⟩⟩⟩⟩⟩⟩⟩⟩⟩⟩
def fl3 : List (Nat × Nat × Nat) := [(9, 3, 0), (18, 3, 1), (42, 3, 2), (32, 3, 3), (45, 3, 4), (70, 3, 5), (48, 3, 6), (51, 3, 7), (29, 3, 8), (54, 3, 9), (15, 3, 10), (57, 3, 11)]
theorem fl3_ok : ∀ e ∈ fl3, FO RX3 e.1 e.2.1 e.2.2 := List.forall_mem_cons.mpr ⟨fo3_9, List.forall_mem_cons.mpr ⟨fo3_18, List.forall_mem_cons.mpr ⟨fo3_42, List.forall_mem_cons.mpr ⟨fo3_32, List.forall_mem_cons.mpr ⟨fo3_45, List.forall_mem_cons.mpr ⟨fo3_70, List.forall_mem_cons.mpr ⟨fo3_48, List.forall_mem_cons.mpr ⟨fo3_51, List.forall_mem_cons.mpr ⟨fo3_29, List.forall_mem_cons.mpr ⟨fo3_54, List.forall_mem_cons.mpr ⟨fo3_15, List.forall_mem_cons.mpr ⟨fo3_57, fun _ h => absurd h List.not_mem_nil⟩⟩⟩⟩⟩⟩⟩⟩⟩⟩⟩⟩
def fl4 : List (Nat × Nat × Nat) := [(9, 4, 0), (15, 4, 1), (19, 4, 2)]
theorem fl4_ok : ∀ e ∈ fl4, FO RX4 e.1 e.2.1 e.2.2 := List.forall_mem_cons.mpr ⟨fo4_9, List.forall_mem_cons.mpr ⟨fo4_15, List.forall_mem_cons.mpr ⟨fo4_19, fun _ h => absurd h List.not_mem_nil⟩⟩⟩
def fl5 : List (Nat × Nat × Nat) := [(10, 5, 2), (19, 5, 3)]
theorem fl5_ok : ∀ e ∈ fl5, FO RX5 e.1 e.2.1 e.2.2 := List.forall_mem_cons.mpr ⟨fo5_10, List.forall_mem_cons.mpr ⟨fo5_19, fun _ h => absurd h List.not_mem_nil⟩⟩
def fl6 : List (Nat × Nat × Nat) := [(9, 6, 0), (15, 6, 1), (18, 6, 2), (21, 6, 3), (24, 6, 4), (27, 6, 5), (30, 3, 8), (36, 3, 9), (42, 3, 10), (39, 3, 11)]
theorem fl6_ok : ∀ e ∈ fl6, FO RX6 e.1 e.2.1 e.2.2 := List.forall_mem_cons.mpr ⟨fo6_9, List.forall_mem_cons.mpr ⟨fo6_15, List.forall_mem_cons.mpr ⟨fo6_18, List.forall_mem_cons.mpr ⟨fo6_21, List.forall_mem_cons.mpr ⟨fo6_24, List.forall_mem_cons.mpr ⟨fo6_27, List.forall_mem_cons.mpr ⟨fo6_30, List.forall_mem_cons.mpr ⟨fo6_36, List.forall_mem_cons.mpr ⟨fo6_42, List.forall_mem_cons.mpr ⟨fo6_39, fun _ h => absurd h List.not_mem_nil⟩⟩⟩⟩⟩⟩⟩⟩⟩⟩
def fl7 : List (Nat × Nat × Nat) := [(243, 6, 0), (246, 6, 1), (228, 3, 1), (132, 0, 0), (135, 0, 1), (127, 0, 2), (91, 1, 0), (96, 1, 1), (99, 1, 2), (102, 1, 3), (105, 1, 4), (123, 2, 0), (87, 2, 1), (249, 2, 2), (76, 2, 4), (237, 2, 5), (147, 2, 6), (150, 2, 7), (175, 2, 8), (178, 2, 9), (168, 2, 10), (162, 2, 11), (264, 4, 0), (261, 4, 1), (269, 4, 2), (289, 5, 0), (306, 5, 1), (292, 5, 2), (299, 5, 3), (10, 7, 0), (19, 7, 1), (28, 7, 2), (32, 7, 3), (35, 7, 4), (40, 7, 5), (47, 7, 6), (52, 7, 7), (56, 7, 8), (60, 7, 9)]
theorem fl7_ok : ∀ e ∈ fl7, FO RX7 e.1 e.2.1 e.2.2 := List.forall_mem_cons.mpr ⟨fo7_243, List.forall_mem_cons.mpr ⟨fo7_246, List.forall_mem_cons.mpr ⟨fo7_228, List.forall_mem_cons.mpr ⟨fo7_132, List.forall_mem_cons.mpr ⟨fo7_135, List.forall_mem_cons.mpr ⟨fo7_127, List.forall_mem_cons.mpr ⟨fo7_91, List.forall_mem_cons.mpr ⟨fo7_96, List.forall_mem_cons.mpr ⟨fo7_99, List.forall_mem_cons.mpr ⟨fo7_102, List.forall_mem_cons.mpr ⟨fo7_105, List.forall_mem_cons.mpr ⟨fo7_123, List.forall_mem_cons.mpr ⟨fo7_87, List.forall_mem_cons.mpr ⟨fo7_249, List.forall_mem_cons.mpr ⟨fo7_76, List.forall_mem_cons.mpr ⟨fo7_237, List.forall_mem_cons.mpr ⟨fo7_147, List.forall_mem_cons.mpr ⟨fo7_150, List.forall_mem_cons.mpr ⟨fo7_175, List.forall_mem_cons.mpr ⟨fo7_178, List.forall_mem_cons.mpr ⟨fo7_168, List.forall_mem_cons.mpr ⟨fo7_162, List.forall_mem_cons.mpr ⟨fo7_264, List.forall_mem_cons.mpr ⟨fo7_261, List.forall_mem_cons.mpr ⟨fo7_269, List.forall_mem_cons.mpr ⟨fo7_289, List.forall_mem_cons.mpr ⟨fo7_306, List.forall_mem_cons.mpr ⟨fo7_292, List.forall_mem_cons.mpr ⟨fo7_299, List.forall_mem_cons.mpr ⟨fo7_10, List.forall_mem_cons.mpr ⟨fo7_19, List.forall_mem_cons.mpr ⟨fo7_28, List.forall_mem_cons.mpr ⟨fo7_32, List.forall_mem_cons.mpr ⟨fo7_35, List.forall_mem_cons.mpr ⟨fo7_40, List.forall_mem_cons.mpr ⟨fo7_47, List.forall_mem_cons.mpr ⟨fo7_52, List.forall_mem_cons.mpr ⟨fo7_56, List.forall_mem_cons.mpr ⟨fo7_60, fun _ h => absurd h List.not_mem_nil⟩⟩⟩⟩⟩⟩⟩⟩⟩⟩⟩⟩⟩⟩⟩⟩⟩⟩⟩⟩⟩⟩⟩⟩⟩⟩⟩⟩⟩⟩⟩⟩⟩⟩⟩⟩⟩⟩⟩
def fl8 : List (Nat × Nat × Nat) := [(9, 8, 0), (13, 8, 1), (16, 8, 2), (292, 8, 3), (19, 8, 4), (22, 8, 5), (213, 8, 6), (217, 8, 7), (220, 8, 8), (226, 8, 9), (232, 8, 10), (223, 8, 11), (238, 8, 12), (25, 8, 13), (29, 8, 14), (32, 8, 15), (250, 8, 16), (256, 8, 17), (35, 8, 18), (244, 8, 19), (38, 8, 20), (42, 8, 21), (45, 8, 22), (48, 8, 23), (51, 8, 24), (54, 8, 25), (57, 8, 26), (60, 8, 27), (63, 8, 28), (66, 8, 29), (69, 8, 30), (72, 8, 31), (289, 8, 32)]
theorem fl8_ok : ∀ e ∈ fl8, FO RX8 e.1 e.2.1 e.2.2 := List.forall_mem_cons.mpr ⟨fo8_9, List.forall_mem_cons.mpr ⟨fo8_13, List.forall_mem_cons.mpr ⟨fo8_16, List.forall_mem_cons.mpr ⟨fo8_292, List.forall_mem_cons.mpr ⟨fo8_19, List.forall_mem_cons.mpr ⟨fo8_22, List.forall_mem_cons.mpr ⟨fo8_213, List.forall_mem_cons.mpr ⟨fo8_217, List.forall_mem_cons.mpr ⟨fo8_220, List.forall_mem_cons.mpr ⟨fo8_226, List.forall_mem_cons.mpr ⟨fo8_232, List.forall_mem_cons.mpr ⟨fo8_223, List.forall_mem_cons.mpr ⟨fo8_238, List.forall_mem_cons.mpr ⟨fo8_25, List.forall_mem_cons.mpr ⟨fo8_29, List.forall_mem_cons.mpr ⟨fo8_32, List.forall_mem_cons.mpr ⟨fo8_250, List.forall_mem_cons.mpr ⟨fo8_256, List.forall_mem_cons.mpr ⟨fo8_35, List.forall_mem_cons.mpr ⟨fo8_244, List.forall_mem_cons.mpr ⟨fo8_38, List.forall_mem_cons.mpr ⟨fo8_42, List.forall_mem_cons.mpr ⟨fo8_45, List.forall_mem_cons.mpr ⟨fo8_48, List.forall_mem_cons.mpr ⟨fo8_51, List.forall_mem_cons.mpr ⟨fo8_54, List.forall_mem_cons.mpr ⟨fo8_57, List.forall_mem_cons.mpr ⟨fo8_60, List.forall_mem_cons.mpr ⟨fo8_63, List.forall_mem_cons.mpr ⟨fo8_66, List.forall_mem_cons.mpr ⟨fo8_69, List.forall_mem_cons.mpr ⟨fo8_72, List.forall_mem_cons.mpr ⟨fo8_289, fun _ h => absurd h List.not_mem_nil⟩⟩⟩⟩⟩⟩⟩⟩⟩⟩⟩⟩⟩⟩⟩⟩⟩⟩⟩⟩⟩⟩⟩⟩⟩⟩⟩⟩⟩⟩⟩⟩⟩
def flA : List (List (Nat × Nat × Nat)) := [fl0, fl1, fl2, fl3, fl4, fl5, fl6, fl7, fl8]
def lk : List (Nat × Nat × Nat) → Nat → Option (Nat × Nat)
  | [], _ => none
  | e :: t, i => match Nat.beq e.1 i with
    | true => some e.2
    | false => lk t i
def fl (o idx : Nat) : Option (Nat × Nat) := lk (nth flA o []) idx
theorem lk_mem : ∀ {l : List (Nat × Nat × Nat)} {i : Nat} {q : Nat × Nat}, lk l i = some q → (i, q) ∈ l
  | [], _, _, h => by simp [lk] at h
  | e :: t, i, q, h => by
    unfold lk at h
    cases hb : Nat.beq e.1 i with
    | true =>
      rw [hb] at h
      have h1 : e.1 = i := Nat.eq_of_beq_eq_true hb
      have h2 : e.2 = q := Option.some.inj h
      rw [← h1, ← h2]
      exact List.mem_cons_self
    | false =>
      rw [hb] at h
      exact List.mem_cons_of_mem _ (lk_mem h)
theorem fl_ok {o idx t kf : Nat} (ho : o < 9) (h : fl o idx = some (t, kf)) : FO (cnm o) idx t kf := by
  unfold fl at h
  have hm := lk_mem h
  match o, ho, hm with
  | 0, _, hm => exact fl0_ok _ hm
  | 1, _, hm => exact fl1_ok _ hm
  | 2, _, hm => exact fl2_ok _ hm
  | 3, _, hm => exact fl3_ok _ hm
  | 4, _, hm => exact fl4_ok _ hm
  | 5, _, hm => exact fl5_ok _ hm
  | 6, _, hm => exact fl6_ok _ hm
  | 7, _, hm => exact fl7_ok _ hm
  | 8, _, hm => exact fl8_ok _ hm
  | o + 9, ho, _ => exact absurd ho (by omega)
/-- the fields of ints that aren't final, by classes -/
def fiL : List (List Bool) := [[true, true, true], [true, true, true, true, true], [false, false, false, false, true, true, true, true, true, true, true, true], [false, true, true, true, true, false, true, true, true, true, false, true], [false, true, true], [true, true, false, false], [false, false, false, false, false, false], [false, false, false, false, false, false, false, false, true, false], [false, false, false, false, false, false, true, true, true, true, true, true, true, false, false, false, true, true, false, true, false, false, false, false, false, false, false, false, false, false, false, false, true]]
def fI (t kf : Nat) : Bool := nth (nth fiL t []) kf false
theorem fi0 : ∀ kf, kf < 3 → nth (nth fiL 0 []) kf false = true → (TX0 kf).2.2.2 = false ∧ parseFieldDescriptor (TX0 kf).2.2.1 = some .int := by decide +kernel
theorem fi1 : ∀ kf, kf < 5 → nth (nth fiL 1 []) kf false = true → (TX1 kf).2.2.2 = false ∧ parseFieldDescriptor (TX1 kf).2.2.1 = some .int := by decide +kernel
theorem fi2 : ∀ kf, kf < 12 → nth (nth fiL 2 []) kf false = true → (TX2 kf).2.2.2 = false ∧ parseFieldDescriptor (TX2 kf).2.2.1 = some .int := by decide +kernel
theorem fi3 : ∀ kf, kf < 12 → nth (nth fiL 3 []) kf false = true → (TX3 kf).2.2.2 = false ∧ parseFieldDescriptor (TX3 kf).2.2.1 = some .int := by decide +kernel
theorem fi4 : ∀ kf, kf < 3 → nth (nth fiL 4 []) kf false = true → (TX4 kf).2.2.2 = false ∧ parseFieldDescriptor (TX4 kf).2.2.1 = some .int := by decide +kernel
theorem fi5 : ∀ kf, kf < 4 → nth (nth fiL 5 []) kf false = true → (TX5 kf).2.2.2 = false ∧ parseFieldDescriptor (TX5 kf).2.2.1 = some .int := by decide +kernel
theorem fi6 : ∀ kf, kf < 6 → nth (nth fiL 6 []) kf false = true → (TX6 kf).2.2.2 = false ∧ parseFieldDescriptor (TX6 kf).2.2.1 = some .int := by decide +kernel
theorem fi7 : ∀ kf, kf < 10 → nth (nth fiL 7 []) kf false = true → (TX7 kf).2.2.2 = false ∧ parseFieldDescriptor (TX7 kf).2.2.1 = some .int := by decide +kernel
theorem fi8 : ∀ kf, kf < 33 → nth (nth fiL 8 []) kf false = true → (TX8 kf).2.2.2 = false ∧ parseFieldDescriptor (TX8 kf).2.2.1 = some .int := by decide +kernel
theorem fI_ok {t kf : Nat} (ht : t < 9) (h : fI t kf = true) {C : String} {T : u_T} {N : Nat} (hc : vwCl[t]? = some (C, T, N)) (hk : kf < N) : (T kf).2.2.2 = false ∧ parseFieldDescriptor (T kf).2.2.1 = some .int := by
  match t, ht, hc, h with
  | 0, _, hc, h => cases hc; exact fi0 kf hk h
  | 1, _, hc, h => cases hc; exact fi1 kf hk h
  | 2, _, hc, h => cases hc; exact fi2 kf hk h
  | 3, _, hc, h => cases hc; exact fi3 kf hk h
  | 4, _, hc, h => cases hc; exact fi4 kf hk h
  | 5, _, hc, h => cases hc; exact fi5 kf hk h
  | 6, _, hc, h => cases hc; exact fi6 kf hk h
  | 7, _, hc, h => cases hc; exact fi7 kf hk h
  | 8, _, hc, h => cases hc; exact fi8 kf hk h
  | t + 9, ht, _, _ => exact absurd ht (by omega)
/-- the pools' ints -/
def ko0 : List (Nat × Int) := []
theorem ko0_ok : ∀ e ∈ ko0, Cond.constant (cnm 0) e.1 (Int32.ofInt e.2) ∈ tbG := fun _ h => absurd h List.not_mem_nil
def ko1 : List (Nat × Int) := []
theorem ko1_ok : ∀ e ∈ ko1, Cond.constant (cnm 1) e.1 (Int32.ofInt e.2) ∈ tbG := fun _ h => absurd h List.not_mem_nil
def ko2 : List (Nat × Int) := [(33, -1000000005), (66, -1000000003), (90, 1103515245)]
theorem ko2_ok : ∀ e ∈ ko2, Cond.constant (cnm 2) e.1 (Int32.ofInt e.2) ∈ tbG := List.forall_mem_cons.mpr ⟨tbG_of 215 (by decide +kernel) (by decide +kernel), List.forall_mem_cons.mpr ⟨tbG_of 359 (by decide +kernel) (by decide +kernel), List.forall_mem_cons.mpr ⟨tbG_of 483 (by decide +kernel) (by decide +kernel), fun _ h => absurd h List.not_mem_nil⟩⟩⟩
def ko3 : List (Nat × Int) := []
theorem ko3_ok : ∀ e ∈ ko3, Cond.constant (cnm 3) e.1 (Int32.ofInt e.2) ∈ tbG := fun _ h => absurd h List.not_mem_nil
def ko4 : List (Nat × Int) := [(32, -1000000005)]
theorem ko4_ok : ∀ e ∈ ko4, Cond.constant (cnm 4) e.1 (Int32.ofInt e.2) ∈ tbG := List.forall_mem_cons.mpr ⟨tbG_of 624 (by decide +kernel) (by decide +kernel), fun _ h => absurd h List.not_mem_nil⟩
def ko5 : List (Nat × Int) := []
theorem ko5_ok : ∀ e ∈ ko5, Cond.constant (cnm 5) e.1 (Int32.ofInt e.2) ∈ tbG := fun _ h => absurd h List.not_mem_nil
def ko6 : List (Nat × Int) := []
theorem ko6_ok : ∀ e ∈ ko6, Cond.constant (cnm 6) e.1 (Int32.ofInt e.2) ∈ tbG := fun _ h => absurd h List.not_mem_nil
def ko7 : List (Nat × Int) := [(75, -1000000001), (83, -1000000003), (122, -1000000012), (194, -1000000005), (216, -1000000011), (256, -1000000014), (260, -1000000013), (267, -99999), (268, 99999), (309, -1000000002)]
theorem ko7_ok : ∀ e ∈ ko7, Cond.constant (cnm 7) e.1 (Int32.ofInt e.2) ∈ tbG := List.forall_mem_cons.mpr ⟨tbG_of 354 (by decide +kernel) (by decide +kernel), List.forall_mem_cons.mpr ⟨tbG_of 360 (by decide +kernel) (by decide +kernel), List.forall_mem_cons.mpr ⟨tbG_of 436 (by decide +kernel) (by decide +kernel), List.forall_mem_cons.mpr ⟨tbG_of 557 (by decide +kernel) (by decide +kernel), List.forall_mem_cons.mpr ⟨tbG_of 611 (by decide +kernel) (by decide +kernel), List.forall_mem_cons.mpr ⟨tbG_of 874 (by decide +kernel) (by decide +kernel), List.forall_mem_cons.mpr ⟨tbG_of 880 (by decide +kernel) (by decide +kernel), List.forall_mem_cons.mpr ⟨tbG_of 881 (by decide +kernel) (by decide +kernel), List.forall_mem_cons.mpr ⟨tbG_of 882 (by decide +kernel) (by decide +kernel), List.forall_mem_cons.mpr ⟨tbG_of 928 (by decide +kernel) (by decide +kernel), fun _ h => absurd h List.not_mem_nil⟩⟩⟩⟩⟩⟩⟩⟩⟩⟩
def ko8 : List (Nat × Int) := [(123, -1000000001), (124, -1000000003), (145, -1000000012), (158, 1103515245), (195, -1000000005), (209, -1000000011), (281, -1000000014), (282, -1000000013), (283, -99999), (284, 99999), (288, -1000000002)]
theorem ko8_ok : ∀ e ∈ ko8, Cond.constant (cnm 8) e.1 (Int32.ofInt e.2) ∈ tbG := List.forall_mem_cons.mpr ⟨tbG_of 1072 (by decide +kernel) (by decide +kernel), List.forall_mem_cons.mpr ⟨tbG_of 1073 (by decide +kernel) (by decide +kernel), List.forall_mem_cons.mpr ⟨tbG_of 1154 (by decide +kernel) (by decide +kernel), List.forall_mem_cons.mpr ⟨tbG_of 1203 (by decide +kernel) (by decide +kernel), List.forall_mem_cons.mpr ⟨tbG_of 1263 (by decide +kernel) (by decide +kernel), List.forall_mem_cons.mpr ⟨tbG_of 1303 (by decide +kernel) (by decide +kernel), List.forall_mem_cons.mpr ⟨tbG_of 1382 (by decide +kernel) (by decide +kernel), List.forall_mem_cons.mpr ⟨tbG_of 1387 (by decide +kernel) (by decide +kernel), List.forall_mem_cons.mpr ⟨tbG_of 1388 (by decide +kernel) (by decide +kernel), List.forall_mem_cons.mpr ⟨tbG_of 1389 (by decide +kernel) (by decide +kernel), List.forall_mem_cons.mpr ⟨tbG_of 1421 (by decide +kernel) (by decide +kernel), fun _ h => absurd h List.not_mem_nil⟩⟩⟩⟩⟩⟩⟩⟩⟩⟩⟩
def ko9 : List (Nat × Int) := [(265, 1431655765), (266, 858993459), (267, 252645135)]
theorem ko9_ok : ∀ e ∈ ko9, Cond.constant (cnm 9) e.1 (Int32.ofInt e.2) ∈ tbG := List.forall_mem_cons.mpr ⟨tbG_of 581 (by decide +kernel) (by decide +kernel), List.forall_mem_cons.mpr ⟨tbG_of 582 (by decide +kernel) (by decide +kernel), List.forall_mem_cons.mpr ⟨tbG_of 583 (by decide +kernel) (by decide +kernel), fun _ h => absurd h List.not_mem_nil⟩⟩⟩
def koA : List (List (Nat × Int)) := [ko0, ko1, ko2, ko3, ko4, ko5, ko6, ko7, ko8, ko9]
def lkI : List (Nat × Int) → Nat → Option Int
  | [], _ => none
  | e :: t, i => match Nat.beq e.1 i with
    | true => some e.2
    | false => lkI t i
def kon (o idx : Nat) : Option Int := lkI (nth koA o []) idx
theorem lkI_mem : ∀ {l : List (Nat × Int)} {i : Nat} {q : Int}, lkI l i = some q → (i, q) ∈ l
  | [], _, _, h => by simp [lkI] at h
  | e :: t, i, q, h => by
    unfold lkI at h
    cases hb : Nat.beq e.1 i with
    | true =>
      rw [hb] at h
      have h1 : e.1 = i := Nat.eq_of_beq_eq_true hb
      have h2 : e.2 = q := Option.some.inj h
      rw [← h1, ← h2]
      exact List.mem_cons_self
    | false =>
      rw [hb] at h
      exact List.mem_cons_of_mem _ (lkI_mem h)
theorem nth_out {α : Type} {d : α} : ∀ {l : List α} {n : Nat}, l.length ≤ n → nth l n d = d
  | [], n, _ => by simp [nth]
  | x :: t, 0, h => by simp at h
  | x :: t, n + 1, h => by rw [nth]; exact nth_out (by simpa using h)
theorem fl_lt {o idx : Nat} {q : Nat × Nat} (h : fl o idx = some q) : o < 9 := by
  rcases Nat.lt_or_ge o 9 with h1 | h1
  · exact h1
  · unfold fl at h
    rw [nth_out (by exact h1)] at h
    simp [lk] at h
theorem kon_lt {o idx : Nat} {q : Int} (h : kon o idx = some q) : o < 10 := by
  rcases Nat.lt_or_ge o 10 with h1 | h1
  · exact h1
  · unfold kon at h
    rw [nth_out (by exact h1)] at h
    simp [lkI] at h
theorem kon_ok {o idx : Nat} {v : Int} (ho : o < 10) (h : kon o idx = some v) : Cond.constant (cnm o) idx (Int32.ofInt v) ∈ tbG := by
  unfold kon at h
  have hm := lkI_mem h
  match o, ho, hm with
  | 0, _, hm => exact ko0_ok _ hm
  | 1, _, hm => exact ko1_ok _ hm
  | 2, _, hm => exact ko2_ok _ hm
  | 3, _, hm => exact ko3_ok _ hm
  | 4, _, hm => exact ko4_ok _ hm
  | 5, _, hm => exact ko5_ok _ hm
  | 6, _, hm => exact ko6_ok _ hm
  | 7, _, hm => exact ko7_ok _ hm
  | 8, _, hm => exact ko8_ok _ hm
  | 9, _, hm => exact ko9_ok _ hm
  | o + 10, ho, _ => exact absurd ho (by omega)
end
section
/-! stretches: what straight instructions do, as a function; rows of the main phase -/
def ln (i : Instr) : Nat := match i with
  | .bipush _ => 2
  | .iload _ => 2
  | .aload _ => 2
  | .istore _ => 2
  | .astore _ => 2
  | .ldc _ => 2
  | .sipush _ => 3
  | .iinc _ _ => 3
  | .getfield _ => 3
  | .putfield _ => 3
  | .goto _ => 3
  | .ldc_w _ => 3
  | _ => 1
def nx (pc : Nat) (i : Instr) : Nat := match i with
  | .goto off => ((pc : Int) + off).toNat
  | .bipush _ => pc + 2
  | .iload _ => pc + 2
  | .aload _ => pc + 2
  | .istore _ => pc + 2
  | .astore _ => pc + 2
  | .ldc _ => pc + 2
  | .sipush _ => pc + 3
  | .iinc _ _ => pc + 3
  | .getfield _ => pc + 3
  | .putfield _ => pc + 3
  | .ldc_w _ => pc + 3
  | _ => pc + 1
def inr (n : Int) (b : Nat) : Bool := match n with
  | .ofNat k => Nat.blt k b
  | .negSucc k => Nat.blt k b
def gL (L : List (Option Value)) (i : Nat) : Option Value := nth L i none
def sL : List (Option Value) → Nat → Value → Option (List (Option Value))
  | [], _, _ => none
  | _ :: t, 0, v => some (some v :: t)
  | x :: t, n + 1, v => match sL t n v with
    | some t' => some (x :: t')
    | none => none
theorem gL_at : ∀ {L : List (Option Value)} {i : Nat} {v : Value}, gL L i = some v → L[i]? = some (some v)
  | [], i, v, h => by simp [gL, nth] at h
  | x :: t, 0, v, h => by simpa [gL, nth] using h
  | x :: t, i + 1, v, h => by
    have h1 : gL t i = some v := by simpa [gL, nth] using h
    simpa using gL_at h1
theorem sL_set : ∀ {L L' : List (Option Value)} {i : Nat} {v : Value}, sL L i v = some L' → L' = L.set i (some v) ∧ i < L.length
  | [], L', i, v, h => by simp [sL] at h
  | x :: t, L', 0, v, h => by
    have h1 : some v :: t = L' := by simpa [sL] using h
    subst h1
    simp
  | x :: t, L', i + 1, v, h => by
    unfold sL at h
    cases hs : sL t i v with
    | none => rw [hs] at h; cases h
    | some t' =>
      rw [hs] at h
      have h1 : x :: t' = L' := by simpa using h
      obtain ⟨h2, h3⟩ := sL_set hs
      subst h1
      subst h2
      exact ⟨rfl, by simp; omega⟩
def stp (o nL pc : Nat) (h : Mm) (i : Instr) (L : List (Option Value)) (st : List Value) : Option (List (Option Value) × List Value × Mm) := match i with
  | .iadd => (match st with
    | .int y :: .int x :: r => some (L, .int (x + y) :: r, h)
    | _ => none)
  | .isub => (match st with
    | .int y :: .int x :: r => some (L, .int (x - y) :: r, h)
    | _ => none)
  | .imul => (match st with
    | .int y :: .int x :: r => some (L, .int (x * y) :: r, h)
    | _ => none)
  | .iand => (match st with
    | .int y :: .int x :: r => some (L, .int (x &&& y) :: r, h)
    | _ => none)
  | .ior => (match st with
    | .int y :: .int x :: r => some (L, .int (x ||| y) :: r, h)
    | _ => none)
  | .ixor => (match st with
    | .int y :: .int x :: r => some (L, .int (x ^^^ y) :: r, h)
    | _ => none)
  | .ishl => (match st with
    | .int y :: .int x :: r => some (L, .int (x <<< (y &&& 31)) :: r, h)
    | _ => none)
  | .ishr => (match st with
    | .int y :: .int x :: r => some (L, .int (x >>> (y &&& 31)) :: r, h)
    | _ => none)
  | .iushr => (match st with
    | .int y :: .int x :: r => some (L, .int ((x.toUInt32 >>> (y.toUInt32 &&& Int32.toUInt32 31)).toInt32) :: r, h)
    | _ => none)
  | .ineg => (match st with
    | .int x :: r => some (L, .int (-x) :: r, h)
    | _ => none)
  | .i2s => (match st with
    | .int x :: r => some (L, .int (x.toInt16.toInt32) :: r, h)
    | _ => none)
  | .i2c => (match st with
    | .int x :: r => some (L, .int ((x.toUInt32 % 65536).toInt32) :: r, h)
    | _ => none)
  | .i2b => (match st with
    | .int x :: r => some (L, .int (x.toInt8.toInt32) :: r, h)
    | _ => none)
  | .iconst n => some (L, .int (Int32.ofInt n) :: st, h)
  | .bipush n => (match inr n 128 with
    | true => some (L, .int (Int32.ofInt n) :: st, h)
    | false => none)
  | .sipush n => (match inr n 32768 with
    | true => some (L, .int (Int32.ofInt n) :: st, h)
    | false => none)
  | .ldc i => (match kon o i with
    | some v => some (L, .int (Int32.ofInt v) :: st, h)
    | none => none)
  | .ldc_w i => (match kon o i with
    | some v => some (L, .int (Int32.ofInt v) :: st, h)
    | none => none)
  | .iload i => (match gL L i with
    | some (.int x) => some (L, .int x :: st, h)
    | _ => none)
  | .iload_n i => (match gL L i.val with
    | some (.int x) => some (L, .int x :: st, h)
    | _ => none)
  | .aload i => (match gL L i with
    | some (.ref x) => some (L, .ref x :: st, h)
    | _ => none)
  | .aload_n i => (match gL L i.val with
    | some (.ref x) => some (L, .ref x :: st, h)
    | _ => none)
  | .istore i => (match st with
    | .int x :: r => (match sL L i (.int x) with
      | some L' => some (L', r, h)
      | none => none)
    | _ => none)
  | .istore_n i => (match st with
    | .int x :: r => (match sL L i.val (.int x) with
      | some L' => some (L', r, h)
      | none => none)
    | _ => none)
  | .astore i => (match st with
    | .ref x :: r => (match sL L i (.ref x) with
      | some L' => some (L', r, h)
      | none => none)
    | _ => none)
  | .astore_n i => (match st with
    | .ref x :: r => (match sL L i.val (.ref x) with
      | some L' => some (L', r, h)
      | none => none)
    | _ => none)
  | .iinc i n => (match gL L i with
    | some (.int x) => (match sL L i (.int (x + Int32.ofInt n)) with
      | some L' => some (L', st, h)
      | none => none)
    | _ => none)
  | .dup => (match st with
    | .int x :: r => some (L, .int x :: .int x :: r, h)
    | .ref x :: r => some (L, .ref x :: .ref x :: r, h)
    | _ => none)
  | .dup2 => (match st with
    | .int x :: .ref y :: r => some (L, .int x :: .ref y :: .int x :: .ref y :: r, h)
    | .int x :: .int y :: r => some (L, .int x :: .int y :: .int x :: .int y :: r, h)
    | _ => none)
  | .pop => (match st with
    | .int x :: r => some (L, r, h)
    | .ref x :: r => some (L, r, h)
    | _ => none)
  | .goto off => (match ((pc : Int) + off) with
    | .ofNat _ => some (L, st, h)
    | .negSucc _ => none)
  | .getfield idx => (match st with
    | .ref a :: r => (match fl o idx with
      | some (t, kf) => (match Nat.beq (kd0 a).1 t && Nat.blt a 118 with
        | true => (match rf0 a kf with
          | some q => some (L, .ref q :: r, h)
          | none => some (L, .int (h a kf) :: r, h))
        | false => none)
      | none => none)
    | _ => none)
  | .putfield idx => (match st with
    | .int x :: .ref a :: r => (match fl o idx with
      | some (t, kf) => (match (Nat.beq (kd0 a).1 t && Nat.blt a 118) && fI t kf with
        | true => (match rf0 a kf with
          | some _ => none
          | none => some (L, r, up h a kf x))
        | false => none)
      | none => none)
    | _ => none)
  | _ => none
def rn (o nL : Nat) : List Instr → Nat → List (Option Value) → List Value → Mm → Option (Nat × List (Option Value) × List Value × Mm)
  | [], pc, L, st, h => some (pc, L, st, h)
  | i :: t, pc, L, st, h => match stp o nL pc h i L st with
    | some (L', st', h') => rn o nL t (nx pc i) L' st' h'
    | none => none
def dcs (cc : ByteArray) : Nat → List Instr → Bool
  | _, [] => true
  | pc, i :: t => decide (decode cc pc = .ok (i, ln i)) && dcs cc (nx pc i) t
theorem inr8 {n : Int} (h : inr n 128 = true) : (Int8.ofInt n).toInt32 = Int32.ofInt n := by
  have : -128 ≤ n ∧ n < 128 := by
    cases n with
    | ofNat k => have := Nat.le_of_ble_eq_true h; constructor <;> simp only [Int.ofNat_eq_natCast] <;> omega
    | negSucc k => have := Nat.le_of_ble_eq_true h; constructor <;> omega
  apply Int32.toInt.inj
  rw [Int8.toInt_toInt32, Int8.toInt_ofInt, Int32.toInt_ofInt]
  rw [Int.bmod_eq_of_le, Int.bmod_eq_of_le] <;> simp only [Int32.size, Int8.size, Int16.size] <;> omega
theorem inr16 {n : Int} (h : inr n 32768 = true) : (Int16.ofInt n).toInt32 = Int32.ofInt n := by
  have : -32768 ≤ n ∧ n < 32768 := by
    cases n with
    | ofNat k => have := Nat.le_of_ble_eq_true h; constructor <;> simp only [Int.ofNat_eq_natCast] <;> omega
    | negSucc k => have := Nat.le_of_ble_eq_true h; constructor <;> omega
  apply Int32.toInt.inj
  rw [Int16.toInt_toInt32, Int16.toInt_ofInt, Int32.toInt_ofInt]
  rw [Int.bmod_eq_of_le, Int.bmod_eq_of_le] <;> simp only [Int32.size, Int8.size, Int16.size] <;> omega
section G5
variable {w : Wt} {k : Nat} {M : Mt} {Q : Option Value → Mm → Prop} {pc : Nat} {L : List (Option Value)} {st : List Value} {h : Mm}
theorem p_getR {idx a t kf r : Nat} (hd : decode (m_c M) pc = .ok (.getfield idx, 3)) (hf : FO (m_y M).cls idx t kf) (ha : a < 118) (hkd : (kd0 a).1 = t) (hr : rf0 a kf = some r) (kk : Wp w k M Q (pc + 3) L (.ref r :: st) h) : Wp w k M Q pc L (.ref a :: st) h := by
  refine g_get hd hf ha hkd ?_
  show Gp w k 0 0 M _ (pc + 3) L (vl h a kf :: st) (mu h)
  rw [show vl h a kf = .ref r by simp [vl, hr]]
  exact kk
theorem p_getI {idx a t kf : Nat} (hd : decode (m_c M) pc = .ok (.getfield idx, 3)) (hf : FO (m_y M).cls idx t kf) (ha : a < 118) (hkd : (kd0 a).1 = t) (hr : rf0 a kf = none) (kk : Wp w k M Q (pc + 3) L (.int (h a kf) :: st) h) : Wp w k M Q pc L (.ref a :: st) h := by
  refine g_get hd hf ha hkd ?_
  show Gp w k 0 0 M _ (pc + 3) L (vl h a kf :: st) (mu h)
  rw [show vl h a kf = .int (h a kf) by simp [vl, hr]]
  exact kk
theorem p_put {idx a t kf : Nat} {x : Int32} (hd : decode (m_c M) pc = .ok (.putfield idx, 3)) (hf : FO (m_y M).cls idx t kf) (ha : a < 118) (hkd : (kd0 a).1 = t) (hI : fI t kf = true) (hr : rf0 a kf = none) (kk : Wp w k M Q (pc + 3) L st (up h a kf x)) : Wp w k M Q pc L (.int x :: .ref a :: st) h := by
  refine g_put (ty := .int) hd ⟨hf, fun C T N hc => fI_ok hf.1 hI hc (hf.2 C T N hc).1⟩ ha hkd rfl rfl ?_
  rw [mu_up hr]
  exact kk
theorem stp_ok {i : Instr} {L' : List (Option Value)} {st' : List Value} {h' : Mm} (hM : Mk M) (hLn : L.length ≤ m_n M) (hd : decode (m_c M) pc = .ok (i, ln i)) (hs : stp (m_o M) (m_n M) pc h i L st = some (L', st', h')) (kk : Wp w k M Q (nx pc i) L' st' h') : Wp w k M Q pc L st h := by
  cases i with
  | iadd =>
    simp only [stp] at hs
    split at hs
    · cases hs
      exact g_iadd hd kk
    · cases hs
  | isub =>
    simp only [stp] at hs
    split at hs
    · cases hs
      exact g_isub hd kk
    · cases hs
  | imul =>
    simp only [stp] at hs
    split at hs
    · cases hs
      exact g_imul hd kk
    · cases hs
  | iand =>
    simp only [stp] at hs
    split at hs
    · cases hs
      exact g_iand hd kk
    · cases hs
  | ior =>
    simp only [stp] at hs
    split at hs
    · cases hs
      exact g_ior hd kk
    · cases hs
  | ixor =>
    simp only [stp] at hs
    split at hs
    · cases hs
      exact g_ixor hd kk
    · cases hs
  | ishl =>
    simp only [stp] at hs
    split at hs
    · cases hs
      exact g_ishl hd kk
    · cases hs
  | ishr =>
    simp only [stp] at hs
    split at hs
    · cases hs
      exact g_ishr hd kk
    · cases hs
  | iushr =>
    simp only [stp] at hs
    split at hs
    · cases hs
      exact g_iushr hd kk
    · cases hs
  | ineg =>
    simp only [stp] at hs
    split at hs
    · cases hs
      exact g_ineg hd kk
    · cases hs
  | i2s =>
    simp only [stp] at hs
    split at hs
    · cases hs
      exact g_i2s hd kk
    · cases hs
  | i2c =>
    simp only [stp] at hs
    split at hs
    · cases hs
      exact g_i2c hd kk
    · cases hs
  | i2b =>
    simp only [stp] at hs
    split at hs
    · cases hs
      exact g_i2b hd kk
    · cases hs
  | iconst n =>
    simp only [stp] at hs
    cases hs
    exact g_iconst hd kk
  | bipush n =>
    simp only [stp] at hs
    split at hs
    · rename_i hb
      cases hs
      exact g_bipush hd (inr8 hb) kk
    · cases hs
  | sipush n =>
    simp only [stp] at hs
    split at hs
    · rename_i hb
      cases hs
      exact g_sipush hd (inr16 hb) kk
    · cases hs
  | ldc j =>
    simp only [stp] at hs
    split at hs
    · rename_i v hb
      cases hs
      exact g_ldc hd (by rw [hM (kon_lt hb)]; exact kon_ok (kon_lt hb) hb) kk
    · cases hs
  | ldc_w j =>
    simp only [stp] at hs
    split at hs
    · rename_i v hb
      cases hs
      exact g_ldcw hd (by rw [hM (kon_lt hb)]; exact kon_ok (kon_lt hb) hb) kk
    · cases hs
  | iload j =>
    simp only [stp] at hs
    split at hs
    · rename_i x hb
      cases hs
      exact g_iload hd (gL_at hb) kk
    · cases hs
  | iload_n j =>
    simp only [stp] at hs
    split at hs
    · rename_i x hb
      cases hs
      exact g_iload_n hd (gL_at hb) kk
    · cases hs
  | aload j =>
    simp only [stp] at hs
    split at hs
    · rename_i x hb
      cases hs
      exact g_aload hd (gL_at hb) kk
    · cases hs
  | aload_n j =>
    simp only [stp] at hs
    split at hs
    · rename_i x hb
      cases hs
      exact g_aload_n hd (gL_at hb) kk
    · cases hs
  | istore j =>
    simp only [stp] at hs
    split at hs
    · split at hs
      · rename_i L2 hb
        cases hs
        obtain ⟨e1, e2⟩ := sL_set hb
        rw [e1] at kk
        exact g_istore hd (by omega) kk
      · cases hs
    · cases hs
  | istore_n j =>
    simp only [stp] at hs
    split at hs
    · split at hs
      · rename_i L2 hb
        cases hs
        obtain ⟨e1, e2⟩ := sL_set hb
        rw [e1] at kk
        exact g_istore_n hd (by omega) kk
      · cases hs
    · cases hs
  | astore j =>
    simp only [stp] at hs
    split at hs
    · split at hs
      · rename_i L2 hb
        cases hs
        obtain ⟨e1, e2⟩ := sL_set hb
        rw [e1] at kk
        exact g_astore hd (by omega) kk
      · cases hs
    · cases hs
  | astore_n j =>
    simp only [stp] at hs
    split at hs
    · split at hs
      · rename_i L2 hb
        cases hs
        obtain ⟨e1, e2⟩ := sL_set hb
        rw [e1] at kk
        exact g_astore_n hd (by omega) kk
      · cases hs
    · cases hs
  | iinc j n =>
    simp only [stp] at hs
    split at hs
    · rename_i x hg
      split at hs
      · rename_i L2 hb
        cases hs
        obtain ⟨e1, e2⟩ := sL_set hb
        rw [e1] at kk
        exact g_iinc hd (by omega) (gL_at hg) kk
      · cases hs
    · cases hs
  | dup =>
    simp only [stp] at hs
    split at hs
    · cases hs
      exact g_dup hd rfl kk
    · cases hs
      exact g_dup hd rfl kk
    · cases hs
  | dup2 =>
    simp only [stp] at hs
    split at hs
    · cases hs
      exact g_dup2 hd rfl rfl kk
    · cases hs
      exact g_dup2 hd rfl rfl kk
    · cases hs
  | pop =>
    simp only [stp] at hs
    split at hs
    · cases hs
      exact g_pop hd rfl kk
    · cases hs
      exact g_pop hd rfl kk
    · cases hs
  | goto off =>
    simp only [stp] at hs
    split at hs
    · rename_i n hb
      cases hs
      refine g_goto (tgt := nx pc (.goto off)) hd ?_ kk
      show (pc : Int) + off = ((((pc : Int) + off).toNat : Nat) : Int)
      rw [hb]
      rfl
    · cases hs
  | getfield idx =>
    simp only [stp] at hs
    split at hs
    · split at hs
      · rename_i t kf hb
        split at hs
        · rename_i hc
          rw [Bool.and_eq_true] at hc
          have ha := Nat.le_of_ble_eq_true hc.2
          have ht := Nat.eq_of_beq_eq_true hc.1
          have hf : FO (m_y M).cls idx t kf := by rw [hM (Nat.lt_succ_of_lt (fl_lt hb))]; exact fl_ok (fl_lt hb) hb
          split at hs
          · rename_i q hr
            cases hs
            exact p_getR hd hf ha ht hr kk
          · rename_i hr
            cases hs
            exact p_getI hd hf ha ht hr kk
        · cases hs
      · cases hs
    · cases hs
  | putfield idx =>
    simp only [stp] at hs
    split at hs
    · split at hs
      · rename_i t kf hb
        split at hs
        · rename_i hc
          rw [Bool.and_eq_true, Bool.and_eq_true] at hc
          have ha := Nat.le_of_ble_eq_true hc.1.2
          have ht := Nat.eq_of_beq_eq_true hc.1.1
          have hf : FO (m_y M).cls idx t kf := by rw [hM (Nat.lt_succ_of_lt (fl_lt hb))]; exact fl_ok (fl_lt hb) hb
          split at hs
          · cases hs
          · rename_i hr
            cases hs
            exact p_put hd hf ha ht hc.2 hr kk
        · cases hs
      · cases hs
    · cases hs
  | _ => cases hs
end G5
end
section
/-! rows of the main phase -/
theorem rfk : ∀ a, a < 118 → (10 ≤ (kd0 a).1 ∧ (kd0 a).1 < 13) → nth (nth rfL (a / 16) []) (a % 16) [] = [] := by decide +kernel
theorem rf_row {a : Nat} (ha : a < 118) (h : 10 ≤ (kd0 a).1 ∧ (kd0 a).1 < 13) (j : Nat) : rf0 a j = none := by
  unfold rf0
  rw [rfk a ha h]
  rfl
theorem kd_small : ∀ a, a < 118 → (kd0 a).2 < 2 ^ 31 := by decide +kernel
section G6
variable {w : Wt} {k : Nat} {M : Mt} {Q : Option Value → Mm → Prop} {pc : Nat} {L : List (Option Value)} {st : List Value} {h : Mm}
theorem rn_ok (hM : Mk M) : ∀ (is : List Instr) {pc pc' : Nat} {L L' : List (Option Value)} {st st' : List Value} {h h' : Mm}, L.length ≤ m_n M → dcs (m_c M) pc is = true → rn (m_o M) (m_n M) is pc L st h = some (pc', L', st', h') → Wp w k M Q pc' L' st' h' → Wp w k M Q pc L st h := by
  intro is
  induction is with
  | nil => intro pc pc' L L' st st' h h' _ _ hr kk; simp only [rn] at hr; cases hr; exact kk
  | cons i t ih =>
    intro pc pc' L L' st st' h h' hL hd hr kk
    simp only [dcs, Bool.and_eq_true, decide_eq_true_eq] at hd
    simp only [rn] at hr
    split at hr
    · rename_i L2 st2 h2 hs
      refine stp_ok hM hL hd.1 hs (ih ?_ hd.2 hr kk)
      have key : L2.length = L.length := by
        cases i <;> simp only [stp] at hs <;> first
          | (cases hs; done)
          | (cases hs; rfl; done)
          | (split at hs <;> first | (cases hs; rfl; done) | (cases hs; done) | (split at hs <;> first | (cases hs; rfl; done) | (cases hs; done) | (rename_i hb; cases hs; rw [(sL_set hb).1, List.length_set]; done) | (split at hs <;> first | (cases hs; rfl; done) | (cases hs; done) | (split at hs <;> first | (cases hs; rfl; done) | (cases hs; done)))))
      omega
    · cases hr
theorem p_run (is : List Instr) {pc' : Nat} {L' : List (Option Value)} {st' : List Value} {h' : Mm} (hM : Mk M) (hd : dcs (m_c M) pc is = true) (hl : Nat.ble L.length (m_n M) = true) (hr : rn (m_o M) (m_n M) is pc L st h = some (pc', L', st', h')) (kk : Wp w k M Q pc' L' st' h') : Wp w k M Q pc L st h := rn_ok hM is (Nat.le_of_ble_eq_true hl) hd hr kk
theorem p_idiv {x y : Int32} (hd : decode (m_c M) pc = .ok (.idiv, 1)) (hy : ¬ y = 0) (kk : Wp w k M Q (pc + 1) L (.int (x / y) :: st) h) : Wp w k M Q pc L (.int y :: .int x :: st) h := g_idiv hd hy kk
def jrem (x y : Int32) : Int32 := x - x / y * y
theorem p_irem {x y : Int32} (hd : decode (m_c M) pc = .ok (.irem, 1)) (hy : ¬ y = 0) (kk : Wp w k M Q (pc + 1) L (.int (jrem x y) :: st) h) : Wp w k M Q pc L (.int y :: .int x :: st) h := g_irem hd hy kk
theorem p_if_eq {x : Int32} {off : Int} (tgt : Nat) (hd : decode (m_c M) pc = .ok (.ifCond .eq off, 3)) (ht : (pc : Int) + off = (tgt : Int)) (kt : x = 0 → Wp w k M Q tgt L st h) (kf : ¬ x = 0 → Wp w k M Q (pc + 3) L st h) : Wp w k M Q pc L (.int x :: st) h := g_if_eq hd ht kt kf
theorem p_icmp_eq {x y : Int32} {off : Int} (tgt : Nat) (hd : decode (m_c M) pc = .ok (.if_icmp .eq off, 3)) (ht : (pc : Int) + off = (tgt : Int)) (kt : x = y → Wp w k M Q tgt L st h) (kf : ¬ x = y → Wp w k M Q (pc + 3) L st h) : Wp w k M Q pc L (.int y :: .int x :: st) h := g_icmp_eq hd ht kt kf
theorem p_if_ne {x : Int32} {off : Int} (tgt : Nat) (hd : decode (m_c M) pc = .ok (.ifCond .ne off, 3)) (ht : (pc : Int) + off = (tgt : Int)) (kt : ¬ x = 0 → Wp w k M Q tgt L st h) (kf : x = 0 → Wp w k M Q (pc + 3) L st h) : Wp w k M Q pc L (.int x :: st) h := g_if_ne hd ht kt kf
theorem p_icmp_ne {x y : Int32} {off : Int} (tgt : Nat) (hd : decode (m_c M) pc = .ok (.if_icmp .ne off, 3)) (ht : (pc : Int) + off = (tgt : Int)) (kt : ¬ x = y → Wp w k M Q tgt L st h) (kf : x = y → Wp w k M Q (pc + 3) L st h) : Wp w k M Q pc L (.int y :: .int x :: st) h := g_icmp_ne hd ht kt kf
theorem p_if_lt {x : Int32} {off : Int} (tgt : Nat) (hd : decode (m_c M) pc = .ok (.ifCond .lt off, 3)) (ht : (pc : Int) + off = (tgt : Int)) (kt : x < 0 → Wp w k M Q tgt L st h) (kf : ¬ x < 0 → Wp w k M Q (pc + 3) L st h) : Wp w k M Q pc L (.int x :: st) h := g_if_lt hd ht kt kf
theorem p_icmp_lt {x y : Int32} {off : Int} (tgt : Nat) (hd : decode (m_c M) pc = .ok (.if_icmp .lt off, 3)) (ht : (pc : Int) + off = (tgt : Int)) (kt : x < y → Wp w k M Q tgt L st h) (kf : ¬ x < y → Wp w k M Q (pc + 3) L st h) : Wp w k M Q pc L (.int y :: .int x :: st) h := g_icmp_lt hd ht kt kf
theorem p_if_ge {x : Int32} {off : Int} (tgt : Nat) (hd : decode (m_c M) pc = .ok (.ifCond .ge off, 3)) (ht : (pc : Int) + off = (tgt : Int)) (kt : 0 ≤ x → Wp w k M Q tgt L st h) (kf : ¬ 0 ≤ x → Wp w k M Q (pc + 3) L st h) : Wp w k M Q pc L (.int x :: st) h := g_if_ge hd ht kt kf
theorem p_icmp_ge {x y : Int32} {off : Int} (tgt : Nat) (hd : decode (m_c M) pc = .ok (.if_icmp .ge off, 3)) (ht : (pc : Int) + off = (tgt : Int)) (kt : y ≤ x → Wp w k M Q tgt L st h) (kf : ¬ y ≤ x → Wp w k M Q (pc + 3) L st h) : Wp w k M Q pc L (.int y :: .int x :: st) h := g_icmp_ge hd ht kt kf
theorem p_if_gt {x : Int32} {off : Int} (tgt : Nat) (hd : decode (m_c M) pc = .ok (.ifCond .gt off, 3)) (ht : (pc : Int) + off = (tgt : Int)) (kt : 0 < x → Wp w k M Q tgt L st h) (kf : ¬ 0 < x → Wp w k M Q (pc + 3) L st h) : Wp w k M Q pc L (.int x :: st) h := g_if_gt hd ht kt kf
theorem p_icmp_gt {x y : Int32} {off : Int} (tgt : Nat) (hd : decode (m_c M) pc = .ok (.if_icmp .gt off, 3)) (ht : (pc : Int) + off = (tgt : Int)) (kt : y < x → Wp w k M Q tgt L st h) (kf : ¬ y < x → Wp w k M Q (pc + 3) L st h) : Wp w k M Q pc L (.int y :: .int x :: st) h := g_icmp_gt hd ht kt kf
theorem p_if_le {x : Int32} {off : Int} (tgt : Nat) (hd : decode (m_c M) pc = .ok (.ifCond .le off, 3)) (ht : (pc : Int) + off = (tgt : Int)) (kt : x ≤ 0 → Wp w k M Q tgt L st h) (kf : ¬ x ≤ 0 → Wp w k M Q (pc + 3) L st h) : Wp w k M Q pc L (.int x :: st) h := g_if_le hd ht kt kf
theorem p_icmp_le {x y : Int32} {off : Int} (tgt : Nat) (hd : decode (m_c M) pc = .ok (.if_icmp .le off, 3)) (ht : (pc : Int) + off = (tgt : Int)) (kt : x ≤ y → Wp w k M Q tgt L st h) (kf : ¬ x ≤ y → Wp w k M Q (pc + 3) L st h) : Wp w k M Q pc L (.int y :: .int x :: st) h := g_icmp_le hd ht kt kf
theorem p_tableIn {dflt lo hi : Int} {offs : Array Int} {len : Nat} {x : Int32} {off : Int} (tgt : Nat) (hd : decode (m_c M) pc = .ok (.tableswitch dflt lo hi offs, len)) (h1 : ¬ x.toInt < lo) (h2 : ¬ hi < x.toInt) (ho : offs[(x.toInt - lo).toNat]? = some off) (ht : (pc : Int) + off = (tgt : Int)) (kk : Wp w k M Q tgt L st h) : Wp w k M Q pc L (.int x :: st) h := g_tableIn hd h1 h2 ho ht kk
theorem p_tableOut {dflt lo hi : Int} {offs : Array Int} {len : Nat} {x : Int32} (tgt : Nat) (hd : decode (m_c M) pc = .ok (.tableswitch dflt lo hi offs, len)) (h1 : x.toInt < lo ∨ hi < x.toInt) (ht : (pc : Int) + dflt = (tgt : Int)) (kk : Wp w k M Q tgt L st h) : Wp w k M Q pc L (.int x :: st) h := g_tableOut hd h1 ht kk
theorem p_lookup {dflt : Int} {ps : Array (Int × Int)} {len : Nat} {x : Int32} {off : Int} (tgt : Nat) (hd : decode (m_c M) pc = .ok (.lookupswitch dflt ps, len)) (hp : (ps.toList.zip (ps.toList.drop 1)).all (fun (a, next) => a.1 < next.1) = true) (ho : Op.lookupswitch.offset ps.toList dflt x.toInt = off) (ht : (pc : Int) + off = (tgt : Int)) (kk : Wp w k M Q tgt L st h) : Wp w k M Q pc L (.int x :: st) h := g_lookup hd hp ho ht kk
theorem p_iret {x : Int32} {ty : FieldType} (hr : m_r M = some ty) (hn : narrow ty (.int x) = .int x) (hd : decode (m_c M) pc = .ok (.ireturn, 1)) (hq : Q (some (.int x)) h) : Wp w k M Q pc L [.int x] h := g_iret hr hn hd ⟨h, rfl, hq⟩
theorem p_aret {x : Nat} {ty : FieldType} (hr : m_r M = some ty) (hn : (∃ n, ty = .object n) ∨ ∃ t, ty = .array t) (hd : decode (m_c M) pc = .ok (.areturn, 1)) (hq : Q (some (.ref x)) h) : Wp w k M Q pc L [.ref x] h := g_aret hr hn hd ⟨h, rfl, hq⟩
theorem p_vret (hr : m_r M = none) (hd : decode (m_c M) pc = .ok (.return_, 1)) (hq : Q none h) : Wp w k M Q pc L [] h := g_vret hr hd ⟨h, rfl, hq⟩
theorem Wp.mono {k' : Nat} (hk : k' ≤ k) (hh : Wp w k' M Q pc L st h) : Wp w k M Q pc L st h := Gp.mono hk hh
theorem Wp.imp {Q' : Option Value → Mm → Prop} (hq : ∀ r h', Q' r h' → Q r h') (hh : Wp w k M Q' pc L st h) : Wp w k M Q pc L st h := Gp.imp (fun r v ⟨h', e, q⟩ => ⟨h', e, hq r h' q⟩) hh
theorem vl_row {a : Nat} (ha : a < 118) (ht : 10 ≤ (kd0 a).1 ∧ (kd0 a).1 < 13) (j : Nat) : vl h a j = .int (h a j) := by simp [vl, rf_row ha ht j]
theorem p_iald {a n : Nat} {i : Int32} (j : Nat) (hd : decode (m_c M) pc = .ok (.iaload, 1)) (ha : Nat.blt a 118 = true) (hkd : kd0 a = (10, n)) (hi : i = nI j) (hj : j < n) (kk : Wp w k M Q (pc + 1) L (.int (h a j) :: st) h) : Wp w k M Q pc L (.int i :: .ref a :: st) h := by
  have ha' := Nat.le_of_ble_eq_true ha
  have hn : n < 2 ^ 31 := by have := kd_small a ha'; rw [hkd] at this; exact this
  subst hi
  refine g_iald hd ha' hkd (vp_in_nI hj hn) ?_
  rw [nI_clamp (by omega)]
  show Gp w k 0 0 M _ (pc + 1) L (vl h a j :: st) (mu h)
  rw [vl_row ha' (by rw [hkd]; exact ⟨Nat.le_refl _, by omega⟩) j]
  exact kk
theorem p_cald {a n : Nat} {i : Int32} (j : Nat) (hd : decode (m_c M) pc = .ok (.caload, 1)) (ha : Nat.blt a 118 = true) (hkd : kd0 a = (11, n)) (hi : i = nI j) (hj : j < n) (kk : Wp w k M Q (pc + 1) L (.int (h a j) :: st) h) : Wp w k M Q pc L (.int i :: .ref a :: st) h := by
  have ha' := Nat.le_of_ble_eq_true ha
  have hn : n < 2 ^ 31 := by have := kd_small a ha'; rw [hkd] at this; exact this
  subst hi
  refine g_cald hd ha' hkd (vp_in_nI hj hn) ?_
  rw [nI_clamp (by omega)]
  show Gp w k 0 0 M _ (pc + 1) L (vl h a j :: st) (mu h)
  rw [vl_row ha' (by rw [hkd]; exact ⟨by omega, by omega⟩) j]
  exact kk
theorem p_zald {a n : Nat} {i : Int32} (j : Nat) (hd : decode (m_c M) pc = .ok (.baload, 1)) (ha : Nat.blt a 118 = true) (hkd : kd0 a = (12, n)) (hi : i = nI j) (hj : j < n) (kk : Wp w k M Q (pc + 1) L (.int (h a j) :: st) h) : Wp w k M Q pc L (.int i :: .ref a :: st) h := by
  have ha' := Nat.le_of_ble_eq_true ha
  have hn : n < 2 ^ 31 := by have := kd_small a ha'; rw [hkd] at this; exact this
  subst hi
  refine g_zald hd ha' hkd (vp_in_nI hj hn) ?_
  rw [nI_clamp (by omega)]
  show Gp w k 0 0 M _ (pc + 1) L (vl h a j :: st) (mu h)
  rw [vl_row ha' (by rw [hkd]; exact ⟨by omega, by omega⟩) j]
  exact kk
theorem p_iast {a n : Nat} {i x : Int32} (j : Nat) (hd : decode (m_c M) pc = .ok (.iastore, 1)) (ha : Nat.blt a 118 = true) (hkd : kd0 a = (10, n)) (hi : i = nI j) (hj : j < n) (kk : Wp w k M Q (pc + 1) L st (up h a j x)) : Wp w k M Q pc L (.int x :: .int i :: .ref a :: st) h := by
  have ha' := Nat.le_of_ble_eq_true ha
  have hn : n < 2 ^ 31 := by have := kd_small a ha'; rw [hkd] at this; exact this
  subst hi
  refine g_iast hd ha' hkd (vp_in_nI hj hn) ?_
  rw [nI_clamp (by omega), mu_up (rf_row ha' (by rw [hkd]; exact ⟨Nat.le_refl _, by omega⟩) j)]
  exact kk
theorem p_zast {a n : Nat} {i x : Int32} (j : Nat) (hd : decode (m_c M) pc = .ok (.bastore, 1)) (ha : Nat.blt a 118 = true) (hkd : kd0 a = (12, n)) (hi : i = nI j) (hj : j < n) (hx : x = 0 ∨ x = 1) (kk : Wp w k M Q (pc + 1) L st (up h a j x)) : Wp w k M Q pc L (.int x :: .int i :: .ref a :: st) h := by
  have ha' := Nat.le_of_ble_eq_true ha
  have hn : n < 2 ^ 31 := by have := kd_small a ha'; rw [hkd] at this; exact this
  subst hi
  refine g_zast hd ha' hkd (vp_in_nI hj hn) (by rcases hx with rfl | rfl <;> rfl) ?_
  rw [nI_clamp (by omega), mu_up (rf_row ha' (by rw [hkd]; exact ⟨by omega, by omega⟩) j)]
  exact kk
theorem p_aald {a t n r : Nat} {i : Int32} (j : Nat) (hd : decode (m_c M) pc = .ok (.aaload, 1)) (ha : a < 118) (hkd : kd0 a = (t, n)) (ht : 14 ≤ t ∧ t < 18) (hi : i = nI j) (hj : j < n) (hr : rf0 a j = some r) (kk : Wp w k M Q (pc + 1) L (.ref r :: st) h) : Wp w k M Q pc L (.int i :: .ref a :: st) h := by
  have hn : n < 2 ^ 31 := by have := kd_small a ha; rw [hkd] at this; exact this
  subst hi
  refine g_aald hd ha ht hkd (vp_in_nI hj hn) ?_
  rw [nI_clamp (by omega)]
  show Gp w k 0 0 M _ (pc + 1) L (vl h a j :: st) (mu h)
  rw [show vl h a j = .ref r by simp [vl, hr]]
  exact kk
/-- a field of truth -/
theorem p_putZ {idx a t kf : Nat} {x : Int32} (hd : decode (m_c M) pc = .ok (.putfield idx, 3)) (hf : FO (m_y M).cls idx t kf) (ha : a < 118) (hkd : (kd0 a).1 = t) (hZ : ∀ C T N, vwCl[t]? = some (C, T, N) → (T kf).2.2.2 = false ∧ parseFieldDescriptor (T kf).2.2.1 = some .boolean) (hr : rf0 a kf = none) (hx : x = 0 ∨ x = 1) (kk : Wp w k M Q (pc + 3) L st (up h a kf x)) : Wp w k M Q pc L (.int x :: .ref a :: st) h := by
  refine g_put (ty := .boolean) hd ⟨hf, hZ⟩ ha hkd (by rcases hx with rfl | rfl <;> rfl) (by rcases hx with rfl | rfl <;> rfl) ?_
  rw [mu_up hr]
  exact kk
def Ok (w : Wt) (k : Nat) (M : Mt) (as : List Value) (h : Mm) (Q : Option Value → Mm → Prop) : Prop := Wp w k M Q 0 (eL (m_n M) as) [] h
theorem Ok.imp {as : List Value} {Q' : Option Value → Mm → Prop} (hh : Ok w k M as h Q') (hq : ∀ r h', Q' r h' → Q r h') : Ok w k M as h Q := Wp.imp hq hh
theorem cat_of {as : List Value} (h : as.all (fun v => Nat.beq v.category 1) = true) : ∀ v ∈ as, v.category = 1 := fun v hv => Nat.eq_of_beq_eq_true (List.all_eq_true.mp h v hv)
theorem p_callS {M' : Mt} {k' np idx : Nat} {as rest : List Value} {Q' : Option Value → Mm → Prop} (hO : Ok w k' M' as h Q') (hw : KS (m_y M).cls idx M' np) (hd : decode (m_c M) pc = .ok (.invokestatic idx, 3)) (hk : k' + 1 ≤ k) (hst : st = as.reverse ++ rest) (hn : as.length = np) (hcat : as.all (fun v => Nat.beq v.category 1) = true) (hnl : Nat.ble np (m_n M') = true) (hrest : Nat.ble (rest.map fun v => v.category).sum 8 = true) (hC : ∀ r h', Q' r h' → Wp w k M Q (pc + 3) L (r.toList ++ rest) h') : Wp w k M Q pc L st h :=
  g_callS (bc' := 0) (bs' := 0) (bc2 := 0) (bs2 := 0) as hd hw rfl rfl hn (cat_of hcat) (Nat.le_of_ble_eq_true hnl) hst (Nat.le_of_ble_eq_true hrest) hk hO (fun r u' ⟨h', e, q⟩ => by rw [e]; exact hC r h' q)
theorem p_callV {M' : Mt} {k' np idx a t : Nat} {as rest : List Value} {Q' : Option Value → Mm → Prop} (hO : Ok w k' M' (.ref a :: as) h Q') (hw : KV (m_y M).cls idx M' t np) (hd : decode (m_c M) pc = .ok (.invokevirtual idx, 3)) (ha : a < 118) (hkd : (kd0 a).1 = t) (hk : k' + 1 ≤ k) (hst : st = as.reverse ++ .ref a :: rest) (hn : as.length = np) (hcat : as.all (fun v => Nat.beq v.category 1) = true) (hnl : Nat.ble (np + 1) (m_n M') = true) (hrest : Nat.ble (rest.map fun v => v.category).sum 8 = true) (hC : ∀ r h', Q' r h' → Wp w k M Q (pc + 3) L (r.toList ++ rest) h') : Wp w k M Q pc L st h :=
  g_callV (bc' := 0) (bs' := 0) (bc2 := 0) (bs2 := 0) as hd hw ha hkd rfl rfl hn (cat_of hcat) (Nat.le_of_ble_eq_true hnl) hst (Nat.le_of_ble_eq_true hrest) hk hO (fun r u' ⟨h', e, q⟩ => by rw [e]; exact hC r h' q)
/-- what a method that only answers, or only changes, says -/
def Rv (v : Int32) (h1 : Mm) : Option Value → Mm → Prop := fun r h' => r = some (.int v) ∧ h' = h1
def Rw (h1 : Mm) : Option Value → Mm → Prop := fun r h' => r = none ∧ h' = h1
theorem p_callSv {M' : Mt} {k' np idx : Nat} {as rest : List Value} {v : Int32} {h1 : Mm} (hO : Ok w k' M' as h (Rv v h1)) (hw : KS (m_y M).cls idx M' np) (hd : decode (m_c M) pc = .ok (.invokestatic idx, 3)) (hk : k' + 1 ≤ k) (hst : st = as.reverse ++ rest) (hn : as.length = np) (hcat : as.all (fun v => Nat.beq v.category 1) = true) (hnl : Nat.ble np (m_n M') = true) (hrest : Nat.ble (rest.map fun v => v.category).sum 8 = true) (kk : Wp w k M Q (pc + 3) L (.int v :: rest) h1) : Wp w k M Q pc L st h :=
  p_callS hO hw hd hk hst hn hcat hnl hrest (fun r h' ⟨e1, e2⟩ => by rw [e1, e2]; exact kk)
theorem p_callSw {M' : Mt} {k' np idx : Nat} {as rest : List Value} {h1 : Mm} (hO : Ok w k' M' as h (Rw h1)) (hw : KS (m_y M).cls idx M' np) (hd : decode (m_c M) pc = .ok (.invokestatic idx, 3)) (hk : k' + 1 ≤ k) (hst : st = as.reverse ++ rest) (hn : as.length = np) (hcat : as.all (fun v => Nat.beq v.category 1) = true) (hnl : Nat.ble np (m_n M') = true) (hrest : Nat.ble (rest.map fun v => v.category).sum 8 = true) (kk : Wp w k M Q (pc + 3) L rest h1) : Wp w k M Q pc L st h :=
  p_callS hO hw hd hk hst hn hcat hnl hrest (fun r h' ⟨e1, e2⟩ => by rw [e1, e2]; exact kk)
theorem p_callVv {M' : Mt} {k' np idx a t : Nat} {as rest : List Value} {v : Int32} {h1 : Mm} (hO : Ok w k' M' (.ref a :: as) h (Rv v h1)) (hw : KV (m_y M).cls idx M' t np) (hd : decode (m_c M) pc = .ok (.invokevirtual idx, 3)) (ha : a < 118) (hkd : (kd0 a).1 = t) (hk : k' + 1 ≤ k) (hst : st = as.reverse ++ .ref a :: rest) (hn : as.length = np) (hcat : as.all (fun v => Nat.beq v.category 1) = true) (hnl : Nat.ble (np + 1) (m_n M') = true) (hrest : Nat.ble (rest.map fun v => v.category).sum 8 = true) (kk : Wp w k M Q (pc + 3) L (.int v :: rest) h1) : Wp w k M Q pc L st h :=
  p_callV hO hw hd ha hkd hk hst hn hcat hnl hrest (fun r h' ⟨e1, e2⟩ => by rw [e1, e2]; exact kk)
theorem p_callVw {M' : Mt} {k' np idx a t : Nat} {as rest : List Value} {h1 : Mm} (hO : Ok w k' M' (.ref a :: as) h (Rw h1)) (hw : KV (m_y M).cls idx M' t np) (hd : decode (m_c M) pc = .ok (.invokevirtual idx, 3)) (ha : a < 118) (hkd : (kd0 a).1 = t) (hk : k' + 1 ≤ k) (hst : st = as.reverse ++ .ref a :: rest) (hn : as.length = np) (hcat : as.all (fun v => Nat.beq v.category 1) = true) (hnl : Nat.ble (np + 1) (m_n M') = true) (hrest : Nat.ble (rest.map fun v => v.category).sum 8 = true) (kk : Wp w k M Q (pc + 3) L rest h1) : Wp w k M Q pc L st h :=
  p_callV hO hw hd ha hkd hk hst hn hcat hnl hrest (fun r h' ⟨e1, e2⟩ => by rw [e1, e2]; exact kk)
end G6
end
section
/-! the reference: small methods -/
theorem oI (n : Nat) : Int32.ofInt (no_index (OfNat.ofNat n : Int)) = nI (OfNat.ofNat n : Nat) := rfl
theorem nIm (a b : Nat) : nI a * nI b = nI (a * b) := (Int32.ofNat_mul a b).symm
theorem nIs {a b : Nat} (h : b ≤ a) : nI a - nI b = nI (a - b) := by
  have : nI a = nI (a - b) + nI b := by rw [nI_add]; congr 1; omega
  rw [this, Int32.add_sub_cancel]
theorem upS (h : Mm) (a k : Nat) (x : Int32) : up h a k x a = upd (h a) k x := by
  funext j
  simp [up, upd]
theorem upN {h : Mm} {a b k : Nat} {x : Int32} (hb : b ≠ a) : up h a k x b = h b := by
  funext j
  simp [up, hb]
noncomputable def bI (p : Prop) : Int32 := @ite _ p (Classical.propDecidable p) 1 0
theorem bIt {p : Prop} (h : p) : bI p = 1 := if_pos h
theorem bIf {p : Prop} (h : ¬ p) : bI p = 0 := if_neg h
theorem bI0 {p : Prop} : bI p = 0 ↔ ¬ p := ⟨fun e hp => by rw [bIt hp] at e; exact absurd e (by decide), bIf⟩
theorem bI1 {p : Prop} : ¬ bI p = 0 ↔ p := by rw [bI0]; exact Classical.not_not
theorem bIn {p : Prop} : narrow .boolean (.int (bI p)) = .int (bI p) := by
  rcases Classical.em p with h | h
  · rw [bIt h]; rfl
  · rw [bIf h]; rfl
set_option maxRecDepth 20000 in
set_option maxHeartbeats 4000000 in
theorem in_ok (w : Wt) {k : Nat} (v lo hi : Int32) (h : Mm) : Ok w k MX8_in [.int v, .int lo, .int hi] h (Rv (bI (lo ≤ v ∧ v ≤ hi)) h) := by
  show Wp w k MX8_in _ 0 [some (.int v), some (.int lo), some (.int hi)] [] h
  refine p_run (pc' := 2) [.iload_n 0, .iload_n 1] mkX8_in (by decide +kernel) rfl rfl ?_
  refine p_icmp_lt (off := 12) 14 (by decide +kernel) (by decide) (fun c2 => ?_) (fun c2 => ?_)
  · refine p_run (pc' := 15) [.iconst 0] mkX8_in (by decide +kernel) rfl rfl ?_
    refine p_iret rfl rfl (by decide +kernel) ?_
    exact ⟨by rw [bIf (fun h => absurd c2 (Int32.not_lt.mpr h.1))]; rfl, rfl⟩
  · refine p_run (pc' := 7) [.iload_n 0, .iload_n 2] mkX8_in (by decide +kernel) rfl rfl ?_
    refine p_icmp_gt (off := 7) 14 (by decide +kernel) (by decide) (fun c7 => ?_) (fun c7 => ?_)
    · refine p_run (pc' := 15) [.iconst 0] mkX8_in (by decide +kernel) rfl rfl ?_
      refine p_iret rfl rfl (by decide +kernel) ?_
      exact ⟨by rw [bIf (fun h => absurd c7 (Int32.not_lt.mpr h.2))]; rfl, rfl⟩
    · refine p_run (pc' := 15) [.iconst 1, .goto 4] mkX8_in (by decide +kernel) rfl rfl ?_
      refine p_iret rfl rfl (by decide +kernel) ?_
      exact ⟨by rw [bIt ⟨Int32.not_lt.mp c2, Int32.not_lt.mp c7⟩]; rfl, rfl⟩
set_option maxRecDepth 20000 in
set_option maxHeartbeats 4000000 in
theorem of_ok (w : Wt) {k : Nat} (d j : Nat) (h : Mm) (hb : 20 + 5 * d + j < 1442) : Ok w k MX8_of [.ref 96, .int (nI d), .int (nI j)] h (Rv (h 97 (20 + 5 * d + j)) h) := by
  show Wp w k MX8_of _ 0 [some (.ref 96), some (.int (nI d)), some (.int (nI j))] [] h
  refine p_run (pc' := 12) [.aload_n 0, .getfield 9, .bipush 20, .iconst 5, .iload_n 1, .imul, .iadd, .iload_n 2, .iadd] mkX8_of (by decide +kernel) rfl rfl ?_
  refine p_iald (20 + 5 * d + j) (by decide +kernel) rfl rfl (by simp only [oI, nI_add, nIm]) hb ?_
  refine p_iret rfl rfl (by decide +kernel) ?_
  exact ⟨rfl, rfl⟩
set_option maxRecDepth 20000 in
set_option maxHeartbeats 4000000 in
theorem put_ok (w : Wt) {k : Nat} (d j : Nat) (x : Int32) (h : Mm) (hb : 20 + 5 * d + j < 1442) : Ok w k MX8_put [.ref 96, .int (nI d), .int (nI j), .int x] h (Rw (up h 97 (20 + 5 * d + j) x)) := by
  show Wp w k MX8_put _ 0 [some (.ref 96), some (.int (nI d)), some (.int (nI j)), some (.int x)] [] h
  refine p_run (pc' := 13) [.aload_n 0, .getfield 9, .bipush 20, .iconst 5, .iload_n 1, .imul, .iadd, .iload_n 2, .iadd, .iload_n 3] mkX8_put (by decide +kernel) rfl rfl ?_
  refine p_iast (20 + 5 * d + j) (by decide +kernel) rfl rfl (by simp only [oI, nI_add, nIm]) hb  ?_
  refine p_vret rfl (by decide +kernel) ?_
  exact ⟨rfl, rfl⟩
set_option maxRecDepth 20000 in
set_option maxHeartbeats 4000000 in
theorem at_ok (w : Wt) {k : Nat} (b j : Nat) (h : Mm) (hb : 8 + 3 * b + j < 1442) : Ok w k MX8_at [.ref 96, .int (nI b), .int (nI j)] h (Rv (h 97 (8 + 3 * b + j)) h) := by
  show Wp w k MX8_at _ 0 [some (.ref 96), some (.int (nI b)), some (.int (nI j))] [] h
  refine p_run (pc' := 12) [.aload_n 0, .getfield 9, .bipush 8, .iconst 3, .iload_n 1, .imul, .iadd, .iload_n 2, .iadd] mkX8_at (by decide +kernel) rfl rfl ?_
  refine p_iald (8 + 3 * b + j) (by decide +kernel) rfl rfl (by simp only [oI, nI_add, nIm]) hb ?_
  refine p_iret rfl rfl (by decide +kernel) ?_
  exact ⟨rfl, rfl⟩
end
section
/-! THE PICTURE: a row of numbers as the reference keeps it (a passage), and what is thought of it -/
abbrev Vc : Type := Nat → Int32
abbrev BADv : Int32 := Int32.ofInt (-1000000001)
abbrev NOv : Int32 := Int32.ofInt (-1000000002)
abbrev FULLv : Int32 := Int32.ofInt (-1000000003)
abbrev NONEv : Int32 := Int32.ofInt (-1000000005)
abbrev NOTHINGv : Int32 := Int32.ofInt (-1000000011)
abbrev KINDv : Int32 := Int32.ofInt (-1000000012)
abbrev INDEXv : Int32 := Int32.ofInt (-1000000013)
abbrev SIZEv : Int32 := Int32.ofInt (-1000000014)
theorem Wp.eqL {w : Wt} {k : Nat} {M : Mt} {Q : Option Value → Mm → Prop} {pc : Nat} {L L' : List (Option Value)} {st : List Value} {h : Mm} (e : L = L') (hh : Wp w k M Q pc L' st h) : Wp w k M Q pc L st h := by rw [e]; exact hh
theorem Wp.eqS {w : Wt} {k : Nat} {M : Mt} {Q : Option Value → Mm → Prop} {pc : Nat} {L : List (Option Value)} {st st' : List Value} {h : Mm} (e : st = st') (hh : Wp w k M Q pc L st' h) : Wp w k M Q pc L st h := by rw [e]; exact hh
theorem Wp.eqH {w : Wt} {k : Nat} {M : Mt} {Q : Option Value → Mm → Prop} {pc : Nat} {L : List (Option Value)} {st : List Value} {h h' : Mm} (e : h = h') (hh : Wp w k M Q pc L st h') : Wp w k M Q pc L st h := by rw [e]; exact hh
/-- a number from 0 to n -/
def nN (x : Int32) : Nat := x.toNatClampNeg
def In (x : Int32) (n : Nat) : Prop := x = nI (nN x) ∧ nN x ≤ n
theorem nN_nI {n : Nat} (h : n < 2 ^ 31) : nN (nI n) = n := nI_clamp h
theorem In_nI {j n : Nat} (h : j ≤ n) (hn : n < 2 ^ 31) : In (nI j) n := by
  unfold In
  rw [nN_nI (by omega)]
  exact ⟨rfl, h⟩
theorem In_mono {x : Int32} {m n : Nat} (h : In x m) (hm : m ≤ n) : In x n := ⟨h.1, Nat.le_trans h.2 hm⟩
theorem In_of {x : Int32} {n : Nat} (hn : n < 2 ^ 31) (h0 : nI 0 ≤ x) (h1 : x ≤ nI n) : In x n := by
  obtain ⟨j, hj, rfl⟩ := nI_of2 (M := nI n) (n := n) (nI_toInt hn) (by rw [← nI_0]; exact Int32.not_lt.mpr h0) h1
  exact In_nI hj hn
theorem In_le {x : Int32} {n : Nat} (hn : n < 2 ^ 31) (h : In x n) : nI 0 ≤ x ∧ x ≤ nI n := by
  rw [h.1]
  have := h.2
  exact ⟨nI_le (Nat.zero_le _) (by omega), nI_le this hn⟩
/-- sets and counts -/
def setF (p : Nat → Bool) : Nat → Nat
  | 0 => 0
  | n + 1 => setF p n + (if p n then 2 ^ n else 0)
def cntF (p : Nat → Bool) : Nat → Nat
  | 0 => 0
  | n + 1 => cntF p n + (if p n then 1 else 0)
theorem setF_lt (p : Nat → Bool) : ∀ n, setF p n < 2 ^ n
  | 0 => by simp [setF]
  | n + 1 => by
    have := setF_lt p n
    rw [setF, Nat.pow_succ]
    split <;> omega
theorem cntF_le (p : Nat → Bool) : ∀ n, cntF p n ≤ n
  | 0 => by simp [cntF]
  | n + 1 => by
    have := cntF_le p n
    rw [cntF]
    split <;> omega
theorem setF_congr {p q : Nat → Bool} : ∀ {n : Nat}, (∀ i, i < n → p i = q i) → setF p n = setF q n
  | 0, _ => rfl
  | n + 1, h => by rw [setF, setF, setF_congr (fun i hi => h i (by omega)), h n (by omega)]
theorem cntF_congr {p q : Nat → Bool} : ∀ {n : Nat}, (∀ i, i < n → p i = q i) → cntF p n = cntF q n
  | 0, _ => rfl
  | n + 1, h => by rw [cntF, cntF, cntF_congr (fun i hi => h i (by omega)), h n (by omega)]
theorem shl1 : ∀ i, i < 20 → nI 1 <<< (nI i &&& 31) = nI (2 ^ i) := by decide +kernel
theorem or_pow {m i : Nat} (hm : m < 2 ^ i) : nI m ||| nI (2 ^ i) = nI (m + 2 ^ i) := by
  have h : nI m ||| nI (2 ^ i) = nI (m ||| 2 ^ i) := by
    unfold nI
    apply Int32.toBitVec_inj.mp
    simp [BitVec.ofNat_or]
  rw [h]
  congr 1
  have := Nat.two_pow_add_eq_or_of_lt hm 1
  rw [Nat.mul_one] at this
  rw [Nat.or_comm, ← this, Nat.add_comm]
theorem or_0 (m : Nat) : nI m ||| nI 0 = nI m := by
  unfold nI
  apply Int32.toBitVec_inj.mp
  simp
/-- diggers, branches -/
def dK (N : Vc) (d j : Nat) : Int32 := N (20 + 5 * d + j)
def bK (N : Vc) (b j : Nat) : Int32 := N (8 + 3 * b + j)
def nd (N : Vc) : Nat := nN (N 1)
def inB (N : Vc) (b : Nat) (d : Nat) : Bool := decide (dK N d 3 = nI b)
def litB (N : Vc) (b : Nat) (d : Nat) : Bool := decide (dK N d 3 = nI b ∧ 0 < dK N d 2)
def ahF (N : Vc) (b : Nat) : Int32 := bK N b 0 - bK N b 2
def clF (v lo hi : Int32) : Int32 := if v < lo then lo else if hi < v then hi else v
/-- texts: the reference's code, run on a list -/
noncomputable def two (s a b : Int32) : Int32 :=
  if s = Int32.ofInt (-1) then bI (a ≠ 0 ∨ b ≠ 0) else if s = Int32.ofInt (-2) then bI (a ≠ 0 ∧ b ≠ 0) else if s = Int32.ofInt (-3) then bI (a < b) else if s = Int32.ofInt (-4) then bI (a = b) else if s = Int32.ofInt (-5) then bI (b < a)
  else if s = Int32.ofInt (-6) then a + b else if s = Int32.ofInt (-7) then a - b else if s = Int32.ofInt (-8) then a * b else if b = 0 then 0 else a / b
noncomputable def tokS (fc : Nat → Int32) (s : Int32) (k : List Int32) : List Int32 :=
  if nI 0 ≤ s then (if s < nI 10000 then s else fc (nN s - 10000)) :: k
  else if s = Int32.ofInt (-10) then (match k with
    | a :: r => bI (a = 0) :: r
    | [] => [])
  else (match k with
    | b :: a :: r => two s a b :: r
    | _ => [])
noncomputable def runT (fc : Nat → Int32) (c : Nat → Int32) : Nat → List Int32
  | 0 => []
  | n + 1 => tokS fc (c n) (runT fc c n)
/-- how many lie on the stack behind n signs -/
def dep (c : Nat → Int32) : Nat → Nat
  | 0 => 0
  | n + 1 => if nI 0 ≤ c n then dep c n + 1 else if c n = Int32.ofInt (-10) then dep c n else dep c n - 1
/-- a code that can be run: each sign finds what it needs; one number is left -/
def wfC (m : Nat) (c : Nat → Int32) (n : Nat) : Prop := (∀ i, i < n → (nI 0 ≤ c i ∧ c i < nI (10000 + m)) ∨ (c i = Int32.ofInt (-10) ∧ 1 ≤ dep c i) ∨ (Int32.ofInt (-9) ≤ c i ∧ c i < nI 0 ∧ 2 ≤ dep c i)) ∧ dep c n = 1 ∧ n ≤ 96
noncomputable def evF (N : Vc) (t : Nat) (fc : Nat → Int32) : Int32 := (runT fc (fun i => N (98 + 96 * t + i)) (nN (N (70 + 2 * t)) % 1000)).getLastD 0
def lastT (N : Vc) (key : Nat) : Nat → Option Nat
  | 0 => none
  | t + 1 => if nN (N (70 + 2 * t)) / 1000 = key then some t else lastT N key t
def lawT (N : Vc) (key : Nat) : Option Nat := lastT N key (nN (N 7))
def fc4 (a b c d : Int32) : Nat → Int32 := fun i => if i = 0 then a else if i = 1 then b else if i = 2 then c else d
def brF (N : Vc) (d : Nat) : Nat := nN (dK N d 3)
noncomputable def plF (N : Vc) (d : Nat) : Int32 := clF (match lawT N 0 with
  | none => dK N d 1 - bK N (brF N d) 1
  | some t => evF N t (fc4 (dK N d 1) (bK N (brF N d) 1) (ahF N (brF N d)) (nI (cntF (litB N (brF N d)) (nd N))))) (nI 0) (nI 99)
def feB (N : Vc) (d : Nat) (i : Nat) : Bool := decide ((dK N i 0 = nI 2 ∨ dK N i 0 = nI 4) ∧ i ≠ d) && litB N (brF N d) i
def farF (N : Vc) (d : Nat) : Prop := nI 40 < ahF N (brF N d)
end
section
/-! the reference: tests, marks of sets -/
set_option maxRecDepth 20000 in
set_option maxHeartbeats 4000000 in
theorem risBranch_ok (w : Wt) {k : Nat} (hk : 1 ≤ k) (v : Int32) (h : Mm) : Ok w k MX8_isBranch [.int v] h (Rv (bI (nI 0 ≤ v ∧ v ≤ nI 3)) h) := by
  show Wp w k MX8_isBranch _ 0 [some (.int v)] [] h
  refine p_run (pc' := 3) [.iload_n 0, .iconst 0, .iconst 3] mkX8_isBranch (by decide +kernel) rfl rfl ?_
  refine p_callSv (in_ok w (k := k - 1) _ _ _ _) ksX8_75 (by decide +kernel) (by omega) rfl rfl rfl rfl rfl ?_
  refine p_iret rfl bIn (by decide +kernel) ?_
  exact ⟨by simp only [oI], rfl⟩
set_option maxRecDepth 20000 in
set_option maxHeartbeats 4000000 in
theorem risSheet_ok (w : Wt) {k : Nat} (hk : 1 ≤ k) (v : Int32) (h : Mm) : Ok w k MX8_isSheet [.int v] h (Rv (bI (nI 0 ≤ v ∧ v ≤ nI 3)) h) := by
  show Wp w k MX8_isSheet _ 0 [some (.int v)] [] h
  refine p_run (pc' := 3) [.iload_n 0, .iconst 0, .iconst 3] mkX8_isSheet (by decide +kernel) rfl rfl ?_
  refine p_callSv (in_ok w (k := k - 1) _ _ _ _) ksX8_75 (by decide +kernel) (by omega) rfl rfl rfl rfl rfl ?_
  refine p_iret rfl bIn (by decide +kernel) ?_
  exact ⟨by simp only [oI], rfl⟩
set_option maxRecDepth 20000 in
set_option maxHeartbeats 4000000 in
theorem risSlot_ok (w : Wt) {k : Nat} (hk : 1 ≤ k) (v : Int32) (h : Mm) : Ok w k MX8_isSlot [.int v] h (Rv (bI (nI 0 ≤ v ∧ v ≤ nI 4)) h) := by
  show Wp w k MX8_isSlot _ 0 [some (.int v)] [] h
  refine p_run (pc' := 3) [.iload_n 0, .iconst 0, .iconst 4] mkX8_isSlot (by decide +kernel) rfl rfl ?_
  refine p_callSv (in_ok w (k := k - 1) _ _ _ _) ksX8_75 (by decide +kernel) (by omega) rfl rfl rfl rfl rfl ?_
  refine p_iret rfl bIn (by decide +kernel) ?_
  exact ⟨by simp only [oI], rfl⟩
set_option maxRecDepth 20000 in
set_option maxHeartbeats 4000000 in
theorem risDigger_ok (w : Wt) {k : Nat} (hk : 1 ≤ k) (v : Int32) (h : Mm) : Ok w k MX8_isDigger [.ref 96, .int v] h (Rv (bI (nI 0 ≤ v ∧ v ≤ h 97 1 - nI 1)) h) := by
  show Wp w k MX8_isDigger _ 0 [some (.ref 96), some (.int v)] [] h
  refine p_run (pc' := 7) [.iload_n 1, .iconst 0, .aload_n 0, .getfield 9, .iconst 1] mkX8_isDigger (by decide +kernel) rfl rfl ?_
  refine p_iald (1) (by decide +kernel) rfl rfl (by simp only [oI]) (by omega) ?_
  refine p_run (pc' := 10) [.iconst 1, .isub] mkX8_isDigger (by decide +kernel) rfl rfl ?_
  refine p_callSv (in_ok w (k := k - 1) _ _ _ _) ksX8_75 (by decide +kernel) (by omega) rfl rfl rfl rfl rfl ?_
  refine p_iret rfl bIn (by decide +kernel) ?_
  exact ⟨by simp only [oI], rfl⟩
set_option maxRecDepth 20000 in
set_option maxHeartbeats 4000000 in
theorem rwithin_ok (w : Wt) {k : Nat} (v lo hi : Int32) (h : Mm) : Ok w k MX8_within [.int v, .int lo, .int hi] h (Rv (clF v lo hi) h) := by
  show Wp w k MX8_within _ 0 [some (.int v), some (.int lo), some (.int hi)] [] h
  refine p_run (pc' := 2) [.iload_n 0, .iload_n 1] mkX8_within (by decide +kernel) rfl rfl ?_
  refine p_icmp_ge (off := 7) 9 (by decide +kernel) (by decide) (fun c2 => ?_) (fun c2 => ?_)
  · refine p_run (pc' := 11) [.iload_n 0, .iload_n 2] mkX8_within (by decide +kernel) rfl rfl ?_
    refine p_icmp_le (off := 7) 18 (by decide +kernel) (by decide) (fun c11 => ?_) (fun c11 => ?_)
    · refine p_run (pc' := 19) [.iload_n 0] mkX8_within (by decide +kernel) rfl rfl ?_
      refine p_iret rfl rfl (by decide +kernel) ?_
      exact ⟨by simp only [clF, Int32.lt_iff_toInt_lt, Int32.le_iff_toInt_le] at *; (repeat' split) <;> first | rfl | (exfalso; omega), rfl⟩
    · refine p_run (pc' := 19) [.iload_n 2, .goto 4] mkX8_within (by decide +kernel) rfl rfl ?_
      refine p_iret rfl rfl (by decide +kernel) ?_
      exact ⟨by simp only [clF, Int32.lt_iff_toInt_lt, Int32.le_iff_toInt_le] at *; (repeat' split) <;> first | rfl | (exfalso; omega), rfl⟩
  · refine p_run (pc' := 19) [.iload_n 1, .goto 13] mkX8_within (by decide +kernel) rfl rfl ?_
    refine p_iret rfl rfl (by decide +kernel) ?_
    exact ⟨by simp only [clF, Int32.lt_iff_toInt_lt, Int32.le_iff_toInt_le] at *; (repeat' split) <;> first | rfl | (exfalso; omega), rfl⟩
set_option maxRecDepth 20000 in
set_option maxHeartbeats 4000000 in
theorem rahead_ok (w : Wt) {k : Nat} (hk : 1 ≤ k) (b : Nat) (hb : b < 4) (h : Mm) : Ok w k MX8_ahead [.ref 96, .int (nI b)] h (Rv (ahF (h 97) b) h) := by
  show Wp w k MX8_ahead _ 0 [some (.ref 96), some (.int (nI b))] [] h
  refine p_run (pc' := 3) [.aload_n 0, .iload_n 1, .iconst 0] mkX8_ahead (by decide +kernel) rfl rfl ?_
  refine p_callVv (at_ok w (k := k - 1) (b) (0) _ (by omega)) kvX8_79 (by decide +kernel) (by decide) rfl (by omega) rfl rfl rfl rfl rfl ?_
  refine p_run (pc' := 9) [.aload_n 0, .iload_n 1, .iconst 2] mkX8_ahead (by decide +kernel) rfl rfl ?_
  refine p_callVv (at_ok w (k := k - 1) (b) (2) _ (by omega)) kvX8_79 (by decide +kernel) (by decide) rfl (by omega) rfl rfl rfl rfl rfl ?_
  refine p_run (pc' := 13) [.isub] mkX8_ahead (by decide +kernel) rfl rfl ?_
  refine p_iret rfl rfl (by decide +kernel) ?_
  exact ⟨rfl, rfl⟩
set_option maxRecDepth 20000 in
set_option maxHeartbeats 4000000 in
theorem swaps_ok (w : Wt) {k : Nat} (j : Nat) (hj : j < 1442) (x : Int32) (h : Mm) : Ok w k MX8_swaps [.ref 96, .int (nI j), .int x] h (fun r h' => r = some (.int (h 97 j)) ∧ h' = up h 97 j x) := by
  show Wp w k MX8_swaps _ 0 [some (.ref 96), some (.int (nI j)), some (.int x), none] [] h
  refine p_run (pc' := 5) [.aload_n 0, .getfield 9, .iload_n 1] mkX8_swaps (by decide +kernel) rfl rfl ?_
  refine p_iald (j) (by decide +kernel) rfl rfl rfl hj ?_
  refine p_run (pc' := 13) [.istore_n 3, .aload_n 0, .getfield 9, .iload_n 1, .iload_n 2] mkX8_swaps (by decide +kernel) rfl rfl ?_
  refine p_iast (j) (by decide +kernel) rfl rfl rfl hj  ?_
  refine p_run (pc' := 15) [.iload_n 3] mkX8_swaps (by decide +kernel) rfl rfl ?_
  refine p_iret rfl rfl (by decide +kernel) ?_
  exact ⟨rfl, rfl⟩
def offF (v : Int32) : Int32 := if v < 0 then -v else v
set_option maxRecDepth 20000 in
set_option maxHeartbeats 4000000 in
theorem off_ok (w : Wt) {k : Nat} (v : Int32) (h : Mm) : Ok w k MX8_off [.int v] h (Rv (offF v) h) := by
  show Wp w k MX8_off _ 0 [some (.int v)] [] h
  refine p_run (pc' := 1) [.iload_n 0] mkX8_off (by decide +kernel) rfl rfl ?_
  refine p_if_ge (off := 8) 9 (by decide +kernel) (by decide) (fun c1 => ?_) (fun c1 => ?_)
  · refine p_run (pc' := 10) [.iload_n 0] mkX8_off (by decide +kernel) rfl rfl ?_
    refine p_iret rfl rfl (by decide +kernel) ?_
    exact ⟨by simp only [offF, Int32.lt_iff_toInt_lt, Int32.le_iff_toInt_le] at *; (repeat' split) <;> first | rfl | (exfalso; omega), rfl⟩
  · refine p_run (pc' := 10) [.iload_n 0, .ineg, .goto 4] mkX8_off (by decide +kernel) rfl rfl ?_
    refine p_iret rfl rfl (by decide +kernel) ?_
    exact ⟨by simp only [offF, Int32.lt_iff_toInt_lt, Int32.le_iff_toInt_le] at *; (repeat' split) <;> first | rfl | (exfalso; omega), rfl⟩
set_option maxRecDepth 20000 in
set_option maxHeartbeats 4000000 in
theorem rdiggersIn_loop (w : Wt) {k : Nat} (hk : 1 ≤ k) (b nn : Nat) (h : Mm) (hn : h 97 1 = nI nn) (h10 : nn ≤ 10) : ∀ (m i : Nat), i + m = nn → Wp w k MX8_diggersIn (Rv (nI (setF (inB (h 97) b) nn)) h) 4 [some (.ref 96), some (.int (nI b)), some (.int (nI (setF (inB (h 97) b) i))), some (.int (nI i))] [] h := by
  intro m
  induction m with
  | zero =>
    intro i hi
    have hi : i = nn := by omega
    subst hi
    refine p_run (pc' := 10) [.iload_n 3, .aload_n 0, .getfield 9, .iconst 1] mkX8_diggersIn (by decide +kernel) rfl rfl ?_
    refine p_iald (1) (by decide +kernel) rfl rfl (by simp only [oI]) (by omega) ?_
    rw [hn]
    refine p_icmp_ge (off := 29) 40 (by decide +kernel) (by decide) (fun c11 => ?_) (fun c11 => ?_)
    · refine p_run (pc' := 41) [.iload_n 2] mkX8_diggersIn (by decide +kernel) rfl rfl ?_
      refine p_iret rfl rfl (by decide +kernel) ?_
      exact ⟨rfl, rfl⟩
    · exact absurd (nI_le (Nat.le_refl _) (by omega)) c11
  | succ m ih =>
    intro i hi
    refine p_run (pc' := 10) [.iload_n 3, .aload_n 0, .getfield 9, .iconst 1] mkX8_diggersIn (by decide +kernel) rfl rfl ?_
    refine p_iald (1) (by decide +kernel) rfl rfl (by simp only [oI]) (by omega) ?_
    rw [hn]
    refine p_icmp_ge (off := 29) 40 (by decide +kernel) (by decide) (fun c11 => ?_) (fun c11 => ?_)
    · exact absurd c11 (nI_ge (by omega) (by omega))
    · refine p_run (pc' := 18) [.iload_n 2, .aload_n 0, .iload_n 3, .iconst 3] mkX8_diggersIn (by decide +kernel) rfl rfl ?_
      refine p_callVv (of_ok w (k := k - 1) (i) (3) _ (by omega)) kvX8_83 (by decide +kernel) (by decide) rfl (by omega) rfl rfl rfl rfl rfl ?_
      refine p_run (pc' := 22) [.iload_n 1] mkX8_diggersIn (by decide +kernel) rfl rfl ?_
      refine p_icmp_ne (off := 9) 31 (by decide +kernel) (by decide) (fun c22 => ?_) (fun c22 => ?_)
      · refine p_run (pc' := 4) [.iconst 0, .ior, .istore_n 2, .iinc 3 1, .goto (-33)] mkX8_diggersIn (by decide +kernel) rfl rfl ?_
        refine Wp.eqL ?_ (ih (i + 1) (by omega))
        have e : nI i + Int32.ofInt 1 = nI (i + 1) := by simp only [oI, nI_add]
        rw [e, setF]
        first | (rw [if_pos (by simp only [inB]; simp only [decide_eq_true_eq]; simp_all [dK, nI_0])]; rw [← or_pow (setF_lt _ i), ← shl1 i (by omega)]; rfl) | (rw [if_neg (by simp only [inB]; simp only [decide_eq_true_eq]; simp_all [dK, nI_0])]; simp only [oI, or_0, Nat.add_zero])
      · refine p_run (pc' := 4) [.iconst 1, .iload_n 3, .ishl, .goto 4, .ior, .istore_n 2, .iinc 3 1, .goto (-33)] mkX8_diggersIn (by decide +kernel) rfl rfl ?_
        refine Wp.eqL ?_ (ih (i + 1) (by omega))
        have e : nI i + Int32.ofInt 1 = nI (i + 1) := by simp only [oI, nI_add]
        rw [e, setF]
        first | (rw [if_pos (by simp only [inB]; simp only [decide_eq_true_eq]; simp_all [dK, nI_0])]; rw [← or_pow (setF_lt _ i), ← shl1 i (by omega)]; rfl) | (rw [if_neg (by simp only [inB]; simp only [decide_eq_true_eq]; simp_all [dK, nI_0])]; simp only [oI, or_0, Nat.add_zero])
set_option maxRecDepth 20000 in
set_option maxHeartbeats 4000000 in
theorem rdiggersIn_ok (w : Wt) {k : Nat} (hk : 1 ≤ k) (b nn : Nat) (h : Mm) (hn : h 97 1 = nI nn) (h10 : nn ≤ 10) : Ok w k MX8_diggersIn [.ref 96, .int (nI b)] h (Rv (nI (setF (inB (h 97) b) nn)) h) := by
  show Wp w k MX8_diggersIn _ 0 [some (.ref 96), some (.int (nI b)), none, none] [] h
  refine p_run (pc' := 4) [.iconst 0, .istore_n 2, .iconst 0, .istore_n 3] mkX8_diggersIn (by decide +kernel) rfl rfl ?_
  exact rdiggersIn_loop w hk b nn h hn h10 nn 0 (by omega)
set_option maxRecDepth 20000 in
set_option maxHeartbeats 4000000 in
theorem rlitIn_loop (w : Wt) {k : Nat} (hk : 1 ≤ k) (b nn : Nat) (h : Mm) (hn : h 97 1 = nI nn) (h10 : nn ≤ 10) : ∀ (m i : Nat), i + m = nn → Wp w k MX8_litIn (Rv (nI (setF (litB (h 97) b) nn)) h) 4 [some (.ref 96), some (.int (nI b)), some (.int (nI (setF (litB (h 97) b) i))), some (.int (nI i))] [] h := by
  intro m
  induction m with
  | zero =>
    intro i hi
    have hi : i = nn := by omega
    subst hi
    refine p_run (pc' := 10) [.iload_n 3, .aload_n 0, .getfield 9, .iconst 1] mkX8_litIn (by decide +kernel) rfl rfl ?_
    refine p_iald (1) (by decide +kernel) rfl rfl (by simp only [oI]) (by omega) ?_
    rw [hn]
    refine p_icmp_ge (off := 38) 49 (by decide +kernel) (by decide) (fun c11 => ?_) (fun c11 => ?_)
    · refine p_run (pc' := 50) [.iload_n 2] mkX8_litIn (by decide +kernel) rfl rfl ?_
      refine p_iret rfl rfl (by decide +kernel) ?_
      exact ⟨rfl, rfl⟩
    · exact absurd (nI_le (Nat.le_refl _) (by omega)) c11
  | succ m ih =>
    intro i hi
    refine p_run (pc' := 10) [.iload_n 3, .aload_n 0, .getfield 9, .iconst 1] mkX8_litIn (by decide +kernel) rfl rfl ?_
    refine p_iald (1) (by decide +kernel) rfl rfl (by simp only [oI]) (by omega) ?_
    rw [hn]
    refine p_icmp_ge (off := 38) 49 (by decide +kernel) (by decide) (fun c11 => ?_) (fun c11 => ?_)
    · exact absurd c11 (nI_ge (by omega) (by omega))
    · refine p_run (pc' := 18) [.iload_n 2, .aload_n 0, .iload_n 3, .iconst 3] mkX8_litIn (by decide +kernel) rfl rfl ?_
      refine p_callVv (of_ok w (k := k - 1) (i) (3) _ (by omega)) kvX8_83 (by decide +kernel) (by decide) rfl (by omega) rfl rfl rfl rfl rfl ?_
      refine p_run (pc' := 22) [.iload_n 1] mkX8_litIn (by decide +kernel) rfl rfl ?_
      refine p_icmp_ne (off := 18) 40 (by decide +kernel) (by decide) (fun c22 => ?_) (fun c22 => ?_)
      · refine p_run (pc' := 4) [.iconst 0, .ior, .istore_n 2, .iinc 3 1, .goto (-42)] mkX8_litIn (by decide +kernel) rfl rfl ?_
        refine Wp.eqL ?_ (ih (i + 1) (by omega))
        have e : nI i + Int32.ofInt 1 = nI (i + 1) := by simp only [oI, nI_add]
        rw [e, setF]
        first | (rw [if_pos (by simp only [litB]; simp only [decide_eq_true_eq]; simp_all [dK, nI_0])]; rw [← or_pow (setF_lt _ i), ← shl1 i (by omega)]; rfl) | (rw [if_neg (by simp only [litB]; simp only [decide_eq_true_eq]; simp_all [dK, nI_0])]; simp only [oI, or_0, Nat.add_zero])
      · refine p_run (pc' := 28) [.aload_n 0, .iload_n 3, .iconst 2] mkX8_litIn (by decide +kernel) rfl rfl ?_
        refine p_callVv (of_ok w (k := k - 1) (i) (2) _ (by omega)) kvX8_83 (by decide +kernel) (by decide) rfl (by omega) rfl rfl rfl rfl rfl ?_
        refine p_if_le (off := 9) 40 (by decide +kernel) (by decide) (fun c31 => ?_) (fun c31 => ?_)
        · refine p_run (pc' := 4) [.iconst 0, .ior, .istore_n 2, .iinc 3 1, .goto (-42)] mkX8_litIn (by decide +kernel) rfl rfl ?_
          refine Wp.eqL ?_ (ih (i + 1) (by omega))
          have e : nI i + Int32.ofInt 1 = nI (i + 1) := by simp only [oI, nI_add]
          rw [e, setF]
          first | (rw [if_pos (by simp only [litB]; simp only [decide_eq_true_eq]; simp_all [dK, nI_0])]; rw [← or_pow (setF_lt _ i), ← shl1 i (by omega)]; rfl) | (rw [if_neg (by simp only [litB]; simp only [decide_eq_true_eq]; simp_all [dK, nI_0])]; simp only [oI, or_0, Nat.add_zero])
        · refine p_run (pc' := 4) [.iconst 1, .iload_n 3, .ishl, .goto 4, .ior, .istore_n 2, .iinc 3 1, .goto (-42)] mkX8_litIn (by decide +kernel) rfl rfl ?_
          refine Wp.eqL ?_ (ih (i + 1) (by omega))
          have e : nI i + Int32.ofInt 1 = nI (i + 1) := by simp only [oI, nI_add]
          rw [e, setF]
          first | (rw [if_pos (by simp only [litB]; simp only [decide_eq_true_eq]; simp_all [dK, nI_0])]; rw [← or_pow (setF_lt _ i), ← shl1 i (by omega)]; rfl) | (rw [if_neg (by simp only [litB]; simp only [decide_eq_true_eq]; simp_all [dK, nI_0])]; simp only [oI, or_0, Nat.add_zero])
set_option maxRecDepth 20000 in
set_option maxHeartbeats 4000000 in
theorem rlitIn_ok (w : Wt) {k : Nat} (hk : 1 ≤ k) (b nn : Nat) (h : Mm) (hn : h 97 1 = nI nn) (h10 : nn ≤ 10) : Ok w k MX8_litIn [.ref 96, .int (nI b)] h (Rv (nI (setF (litB (h 97) b) nn)) h) := by
  show Wp w k MX8_litIn _ 0 [some (.ref 96), some (.int (nI b)), none, none] [] h
  refine p_run (pc' := 4) [.iconst 0, .istore_n 2, .iconst 0, .istore_n 3] mkX8_litIn (by decide +kernel) rfl rfl ?_
  exact rlitIn_loop w hk b nn h hn h10 nn 0 (by omega)
end
section
/-! texts, and what holds of a row -/
def pcF (m : Nat) : Nat := cntF (fun i => m.testBit i) 10
theorem pcF_step : ∀ m, m < 1024 → m ≠ 0 → (m &&& (m - 1)) < m ∧ pcF m = pcF (m &&& (m - 1)) + 1 := by decide +kernel
theorem pcF_0 : pcF 0 = 0 := by decide +kernel
theorem and_nI (a b : Nat) : nI a &&& nI b = nI (a &&& b) := by
  unfold nI
  apply Int32.toBitVec_inj.mp
  simp [BitVec.ofNat_and]
theorem nI_eq0 {n : Nat} (h : n < 2 ^ 31) : nI n = 0 ↔ n = 0 := by rw [← nI_0]; exact nI_eq h (by omega)
theorem pcF_pow : ∀ n, n < 10 → ∀ m, m < 2 ^ n → pcF (m + 2 ^ n) = pcF m + 1 := by decide +kernel
theorem pcF_set (p : Nat → Bool) : ∀ n, n ≤ 10 → pcF (setF p n) = cntF p n
  | 0, _ => pcF_0
  | n + 1, h => by
    have ih := pcF_set p n (by omega)
    rw [setF, cntF]
    split
    · rw [pcF_pow n (by omega) _ (setF_lt p n), ih]
    · rw [Nat.add_zero, Nat.add_zero, ih]
/-- a stack in a row: the top of the list lies highest -/
def stk (f : Vc) : List Int32 → Prop
  | [] => True
  | x :: r => f r.length = x ∧ stk f r
theorem stk_upd {f : Vc} {j : Nat} {x : Int32} : ∀ {l : List Int32}, l.length ≤ j → stk f l → stk (upd f j x) l
  | [], _, _ => trivial
  | y :: r, hl, h => ⟨by
      have : r.length ≠ j := by simp at hl; omega
      simp only [upd, this, if_false]
      exact h.1, stk_upd (by simp at hl; omega) h.2⟩
def nmF (key : Nat) : Nat := if key = 0 then 4 else 2
def TX (N : Vc) (t : Nat) : Prop := In (N (70 + 2 * t)) 2999 ∧ wfC (nmF (nN (N (70 + 2 * t)) / 1000)) (fun i => N (98 + 96 * t + i)) (nN (N (70 + 2 * t)) % 1000)
def Iv (N : Vc) : Prop := In (N 1) 10 ∧ In (N 3) 99 ∧ In (N 4) 100 ∧ In (N 7) 14 ∧ (∀ b, b < 4 → In (bK N b 0) 999 ∧ In (bK N b 1) 99 ∧ In (bK N b 2) (nN (bK N b 0))) ∧ (∀ d, d < 10 → In (dK N d 0) 5 ∧ In (dK N d 1) 99 ∧ In (dK N d 2) 99 ∧ In (dK N d 3) 3 ∧ In (dK N d 4) 9999) ∧ ∀ t, t < nN (N 7) → TX N t
theorem tokS_n {fc : Nat → Int32} {s : Int32} {k : List Int32} (h : nI 0 ≤ s) : tokS fc s k = (if s < nI 10000 then s else fc (nN s - 10000)) :: k := by
  unfold tokS
  rw [if_pos h]
theorem tokS_not {fc : Nat → Int32} {a : Int32} {k : List Int32} : tokS fc (Int32.ofInt (-10)) (a :: k) = bI (a = 0) :: k := by
  unfold tokS
  rw [if_neg (by decide), if_pos rfl]
theorem tokS_two {fc : Nat → Int32} {s a b : Int32} {k : List Int32} (h : ¬ nI 0 ≤ s) (hm : ¬ s = Int32.ofInt (-10)) : tokS fc s (b :: a :: k) = two s a b :: k := by
  unfold tokS
  rw [if_neg h, if_neg hm]
theorem runT_len {fc c : Nat → Int32} {m n : Nat} (h : wfC m c n) : ∀ i, i ≤ n → (runT fc c i).length = dep c i
  | 0, _ => rfl
  | i + 1, hi => by
    have ih := runT_len (fc := fc) h i (by omega)
    rw [runT, dep]
    rcases h.1 i (by omega) with ⟨h1, -⟩ | ⟨h1, h2⟩ | ⟨h1, h2, h3⟩
    · rw [if_pos h1, tokS_n h1, List.length_cons, ih]
    · have hn : ¬ nI 0 ≤ c i := by rw [h1]; decide
      rw [if_neg hn, if_pos h1]
      cases hr : runT fc c i with
      | nil => rw [hr] at ih; simp at ih; omega
      | cons a r => rw [h1, tokS_not]; rw [hr] at ih; simpa using ih
    · have hn : ¬ nI 0 ≤ c i := by rw [nI_0] at h2 ⊢; exact Int32.not_le.mpr h2
      have hm : ¬ c i = Int32.ofInt (-10) := by intro e; rw [e] at h1; exact absurd h1 (by decide)
      rw [if_neg hn, if_neg hm]
      cases hr : runT fc c i with
      | nil => rw [hr] at ih; simp at ih; omega
      | cons a r =>
        cases r with
        | nil => rw [hr] at ih; simp at ih; omega
        | cons b r => rw [tokS_two hn hm]; rw [hr] at ih; simp at ih; simp; omega
theorem dep_le (c : Nat → Int32) : ∀ i, dep c i ≤ i
  | 0 => Nat.le_refl _
  | i + 1 => by
    have := dep_le c i
    rw [dep]
    split
    · omega
    · split <;> omega
theorem eq_of_toInt {x : Int32} {v : Int} (h : x.toInt = v) : x = Int32.ofInt v := by rw [← h, Int32.ofInt_toInt]
theorem ne_toInt {x : Int32} {v : Int} (h : ¬ x = Int32.ofInt v) : x.toInt ≠ v := fun e => h (eq_of_toInt e)
/-- a table of ways -/
theorem p_table {w : Wt} {k : Nat} {M : Mt} {Q : Option Value → Mm → Prop} {pc : Nat} {L : List (Option Value)} {st : List Value} {h : Mm} {dflt lo hi : Int} {offs : Array Int} {len : Nat} {x : Int32} (hd : decode (m_c M) pc = .ok (.tableswitch dflt lo hi offs, len)) (hz : hi = lo + offs.size - 1)
    (hin : ∀ j : Nat, j < offs.size → x = Int32.ofInt (lo + j) → ∃ (off : Int) (tgt : Nat), offs[j]? = some off ∧ (pc : Int) + off = (tgt : Int) ∧ Wp w k M Q tgt L st h)
    (hout : (x.toInt < lo ∨ hi < x.toInt) → ∃ tgt : Nat, (pc : Int) + dflt = (tgt : Int) ∧ Wp w k M Q tgt L st h) : Wp w k M Q pc L (.int x :: st) h := by
  by_cases h1 : x.toInt < lo
  · obtain ⟨tgt, e, kk⟩ := hout (Or.inl h1)
    exact p_tableOut tgt hd (Or.inl h1) e kk
  · by_cases h2 : hi < x.toInt
    · obtain ⟨tgt, e, kk⟩ := hout (Or.inr h2)
      exact p_tableOut tgt hd (Or.inr h2) e kk
    · obtain ⟨off, tgt, e1, e2, kk⟩ := hin (x.toInt - lo).toNat (by omega) (eq_of_toInt (by omega))
      exact p_tableIn tgt hd h1 h2 e1 e2 kk
end
section
/-! the reference: texts at work -/
set_option maxRecDepth 20000 in
set_option maxHeartbeats 4000000 in
theorem bits_loop (w : Wt) {k : Nat} (s0 : Option Value) (h : Mm) : ∀ (m : Nat), m < 1024 → ∀ a, Wp w k MX8_bits (Rv (nI (a + pcF m)) h) 4 [s0, some (.int (nI a)), some (.int (nI m))] [] h := by
  intro m
  induction m using Nat.strongRecOn with
  | _ m ih =>
    intro hm a
    refine p_run (pc' := 5) [.iload_n 2] mkX8_bits (by decide +kernel) rfl rfl ?_
    refine p_if_eq (off := 15) 20 (by decide +kernel) (by decide) (fun cz => ?_) (fun cz => ?_)
    · rw [nI_eq0 (by omega)] at cz
      subst cz
      refine p_run (pc' := 21) [.iload_n 1] mkX8_bits (by decide +kernel) rfl rfl ?_
      refine p_iret rfl rfl (by decide +kernel) ?_
      exact ⟨by rw [pcF_0]; rfl, rfl⟩
    · rw [nI_eq0 (by omega)] at cz
      obtain ⟨h1, h2⟩ := pcF_step m hm cz
      refine p_run (pc' := 4) [.iinc 1 1, .iload_n 2, .iload_n 2, .iconst 1, .isub, .iand, .istore_n 2, .goto (-13)] mkX8_bits (by decide +kernel) rfl rfl ?_
      rw [h2, show a + (pcF (m &&& (m - 1)) + 1) = (a + 1) + pcF (m &&& (m - 1)) by omega]
      refine Wp.eqL ?_ (ih _ h1 (by omega) (a + 1))
      rw [show nI a + Int32.ofInt 1 = nI (a + 1) by simp only [oI, nI_add], show nI m &&& (nI m - Int32.ofInt 1) = nI (m &&& (m - 1)) by rw [oI, nIs (by omega), and_nI]]
set_option maxRecDepth 20000 in
set_option maxHeartbeats 4000000 in
theorem two_ok (w : Wt) {k : Nat} (s a b : Int32) (h : Mm) : Ok w k MX8_two [.int s, .int a, .int b] h (Rv (two s a b) h) := by
  show Wp w k MX8_two _ 0 [some (.int s), some (.int a), some (.int b)] [] h
  refine p_run (pc' := 1) [.iload_n 0] mkX8_two (by decide +kernel) rfl rfl ?_
  refine p_table (dflt := 120) (lo := -8) (hi := -1) (offs := #[116, 112, 108, 97, 86, 75, 61, 47]) (len := 47) (by decide +kernel) (by decide) (fun j hj hx => ?_) (fun hx => ?_)
  · match j, hj, hx with
    | 0, _, hx =>
      have hx : s = Int32.ofInt (-8) := hx
      refine ⟨116, 117, rfl, rfl, ?_⟩
      subst hx
      refine p_run (pc' := 120) [.iload_n 1, .iload_n 2, .imul] mkX8_two (by decide +kernel) rfl rfl ?_
      refine p_iret rfl rfl (by decide +kernel) ?_
      exact ⟨by rw [two, if_neg (by decide), if_neg (by decide), if_neg (by decide), if_neg (by decide), if_neg (by decide), if_neg (by decide), if_neg (by decide), if_pos rfl], rfl⟩
    | 1, _, hx =>
      have hx : s = Int32.ofInt (-7) := hx
      refine ⟨112, 113, rfl, rfl, ?_⟩
      subst hx
      refine p_run (pc' := 116) [.iload_n 1, .iload_n 2, .isub] mkX8_two (by decide +kernel) rfl rfl ?_
      refine p_iret rfl rfl (by decide +kernel) ?_
      exact ⟨by rw [two, if_neg (by decide), if_neg (by decide), if_neg (by decide), if_neg (by decide), if_neg (by decide), if_neg (by decide), if_pos rfl], rfl⟩
    | 2, _, hx =>
      have hx : s = Int32.ofInt (-6) := hx
      refine ⟨108, 109, rfl, rfl, ?_⟩
      subst hx
      refine p_run (pc' := 112) [.iload_n 1, .iload_n 2, .iadd] mkX8_two (by decide +kernel) rfl rfl ?_
      refine p_iret rfl rfl (by decide +kernel) ?_
      exact ⟨by rw [two, if_neg (by decide), if_neg (by decide), if_neg (by decide), if_neg (by decide), if_neg (by decide), if_pos rfl], rfl⟩
    | 3, _, hx =>
      have hx : s = Int32.ofInt (-5) := hx
      refine ⟨97, 98, rfl, rfl, ?_⟩
      subst hx
      refine p_run (pc' := 100) [.iload_n 1, .iload_n 2] mkX8_two (by decide +kernel) rfl rfl ?_
      refine p_icmp_le (off := 7) 107 (by decide +kernel) (by decide) (fun c100 => ?_) (fun c100 => ?_)
      · refine p_run (pc' := 108) [.iconst 0] mkX8_two (by decide +kernel) rfl rfl ?_
        refine p_iret rfl rfl (by decide +kernel) ?_
        exact ⟨by rw [two, if_neg (by decide), if_neg (by decide), if_neg (by decide), if_neg (by decide), if_pos rfl]; first | (rw [bIt (by simpa using c100)]; rfl) | (rw [bIf (by simpa using c100)]; rfl), rfl⟩
      · refine p_run (pc' := 108) [.iconst 1, .goto 4] mkX8_two (by decide +kernel) rfl rfl ?_
        refine p_iret rfl rfl (by decide +kernel) ?_
        exact ⟨by rw [two, if_neg (by decide), if_neg (by decide), if_neg (by decide), if_neg (by decide), if_pos rfl]; first | (rw [bIt (by simpa using c100)]; rfl) | (rw [bIf (by simpa using c100)]; rfl), rfl⟩
    | 4, _, hx =>
      have hx : s = Int32.ofInt (-4) := hx
      refine ⟨86, 87, rfl, rfl, ?_⟩
      subst hx
      refine p_run (pc' := 89) [.iload_n 1, .iload_n 2] mkX8_two (by decide +kernel) rfl rfl ?_
      refine p_icmp_ne (off := 7) 96 (by decide +kernel) (by decide) (fun c89 => ?_) (fun c89 => ?_)
      · refine p_run (pc' := 97) [.iconst 0] mkX8_two (by decide +kernel) rfl rfl ?_
        refine p_iret rfl rfl (by decide +kernel) ?_
        exact ⟨by rw [two, if_neg (by decide), if_neg (by decide), if_neg (by decide), if_pos rfl]; first | (rw [bIt (by simpa using c89)]; rfl) | (rw [bIf (by simpa using c89)]; rfl), rfl⟩
      · refine p_run (pc' := 97) [.iconst 1, .goto 4] mkX8_two (by decide +kernel) rfl rfl ?_
        refine p_iret rfl rfl (by decide +kernel) ?_
        exact ⟨by rw [two, if_neg (by decide), if_neg (by decide), if_neg (by decide), if_pos rfl]; first | (rw [bIt (by simpa using c89)]; rfl) | (rw [bIf (by simpa using c89)]; rfl), rfl⟩
    | 5, _, hx =>
      have hx : s = Int32.ofInt (-3) := hx
      refine ⟨75, 76, rfl, rfl, ?_⟩
      subst hx
      refine p_run (pc' := 78) [.iload_n 1, .iload_n 2] mkX8_two (by decide +kernel) rfl rfl ?_
      refine p_icmp_ge (off := 7) 85 (by decide +kernel) (by decide) (fun c78 => ?_) (fun c78 => ?_)
      · refine p_run (pc' := 86) [.iconst 0] mkX8_two (by decide +kernel) rfl rfl ?_
        refine p_iret rfl rfl (by decide +kernel) ?_
        exact ⟨by rw [two, if_neg (by decide), if_neg (by decide), if_pos rfl]; first | (rw [bIt (by simpa using c78)]; rfl) | (rw [bIf (by simpa using c78)]; rfl), rfl⟩
      · refine p_run (pc' := 86) [.iconst 1, .goto 4] mkX8_two (by decide +kernel) rfl rfl ?_
        refine p_iret rfl rfl (by decide +kernel) ?_
        exact ⟨by rw [two, if_neg (by decide), if_neg (by decide), if_pos rfl]; first | (rw [bIt (by simpa using c78)]; rfl) | (rw [bIf (by simpa using c78)]; rfl), rfl⟩
    | 6, _, hx =>
      have hx : s = Int32.ofInt (-2) := hx
      refine ⟨61, 62, rfl, rfl, ?_⟩
      subst hx
      refine p_run (pc' := 63) [.iload_n 1] mkX8_two (by decide +kernel) rfl rfl ?_
      refine p_if_eq (off := 11) 74 (by decide +kernel) (by decide) (fun c63 => ?_) (fun c63 => ?_)
      · refine p_run (pc' := 75) [.iconst 0] mkX8_two (by decide +kernel) rfl rfl ?_
        refine p_iret rfl rfl (by decide +kernel) ?_
        exact ⟨by rw [two, if_neg (by decide), if_pos rfl]; first | (rw [bIt (by simp_all)]; rfl) | (rw [bIf (by simp_all)]; rfl), rfl⟩
      · refine p_run (pc' := 67) [.iload_n 2] mkX8_two (by decide +kernel) rfl rfl ?_
        refine p_if_eq (off := 7) 74 (by decide +kernel) (by decide) (fun c67 => ?_) (fun c67 => ?_)
        · refine p_run (pc' := 75) [.iconst 0] mkX8_two (by decide +kernel) rfl rfl ?_
          refine p_iret rfl rfl (by decide +kernel) ?_
          exact ⟨by rw [two, if_neg (by decide), if_pos rfl]; first | (rw [bIt (by simp_all)]; rfl) | (rw [bIf (by simp_all)]; rfl), rfl⟩
        · refine p_run (pc' := 75) [.iconst 1, .goto 4] mkX8_two (by decide +kernel) rfl rfl ?_
          refine p_iret rfl rfl (by decide +kernel) ?_
          exact ⟨by rw [two, if_neg (by decide), if_pos rfl]; first | (rw [bIt (by simp_all)]; rfl) | (rw [bIf (by simp_all)]; rfl), rfl⟩
    | 7, _, hx =>
      have hx : s = Int32.ofInt (-1) := hx
      refine ⟨47, 48, rfl, rfl, ?_⟩
      subst hx
      refine p_run (pc' := 49) [.iload_n 1] mkX8_two (by decide +kernel) rfl rfl ?_
      refine p_if_ne (off := 7) 56 (by decide +kernel) (by decide) (fun c49 => ?_) (fun c49 => ?_)
      · refine p_run (pc' := 61) [.iconst 1, .goto 4] mkX8_two (by decide +kernel) rfl rfl ?_
        refine p_iret rfl rfl (by decide +kernel) ?_
        exact ⟨by rw [two, if_pos rfl]; first | (rw [bIt (by simp_all)]; rfl) | (rw [bIf (by simp_all)]; rfl), rfl⟩
      · refine p_run (pc' := 53) [.iload_n 2] mkX8_two (by decide +kernel) rfl rfl ?_
        refine p_if_eq (off := 7) 60 (by decide +kernel) (by decide) (fun c53 => ?_) (fun c53 => ?_)
        · refine p_run (pc' := 61) [.iconst 0] mkX8_two (by decide +kernel) rfl rfl ?_
          refine p_iret rfl rfl (by decide +kernel) ?_
          exact ⟨by rw [two, if_pos rfl]; first | (rw [bIt (by simp_all)]; rfl) | (rw [bIf (by simp_all)]; rfl), rfl⟩
        · refine p_run (pc' := 61) [.iconst 1, .goto 4] mkX8_two (by decide +kernel) rfl rfl ?_
          refine p_iret rfl rfl (by decide +kernel) ?_
          exact ⟨by rw [two, if_pos rfl]; first | (rw [bIt (by simp_all)]; rfl) | (rw [bIf (by simp_all)]; rfl), rfl⟩
    | j + 8, hj, _ => exact absurd hj (by simp)
  · refine ⟨121, rfl, ?_⟩
    have hn1 : ¬ s = Int32.ofInt (-1) := by rintro rfl; revert hx; decide
    have hn2 : ¬ s = Int32.ofInt (-2) := by rintro rfl; revert hx; decide
    have hn3 : ¬ s = Int32.ofInt (-3) := by rintro rfl; revert hx; decide
    have hn4 : ¬ s = Int32.ofInt (-4) := by rintro rfl; revert hx; decide
    have hn5 : ¬ s = Int32.ofInt (-5) := by rintro rfl; revert hx; decide
    have hn6 : ¬ s = Int32.ofInt (-6) := by rintro rfl; revert hx; decide
    have hn7 : ¬ s = Int32.ofInt (-7) := by rintro rfl; revert hx; decide
    have hn8 : ¬ s = Int32.ofInt (-8) := by rintro rfl; revert hx; decide
    refine p_run (pc' := 122) [.iload_n 2] mkX8_two (by decide +kernel) rfl rfl ?_
    refine p_if_ne (off := 7) 129 (by decide +kernel) (by decide) (fun cz => ?_) (fun cz => ?_)
    · refine p_run (pc' := 131) [.iload_n 1, .iload_n 2] mkX8_two (by decide +kernel) rfl rfl ?_
      refine p_idiv (by decide +kernel) cz ?_
      refine p_iret rfl rfl (by decide +kernel) ?_
      exact ⟨by rw [two, if_neg hn1, if_neg hn2, if_neg hn3, if_neg hn4, if_neg hn5, if_neg hn6, if_neg hn7, if_neg hn8, if_neg cz], rfl⟩
    · refine p_run (pc' := 132) [.iconst 0, .goto 6] mkX8_two (by decide +kernel) rfl rfl ?_
      refine p_iret rfl rfl (by decide +kernel) ?_
      exact ⟨by rw [two, if_neg hn1, if_neg hn2, if_neg hn3, if_neg hn4, if_neg hn5, if_neg hn6, if_neg hn7, if_neg hn8, if_pos cz]; rfl, rfl⟩
end
section
/-! the reference: texts at work, what is dug -/
theorem jrem_nI {a d : Nat} (ha : a < 2 ^ 31) (h0 : 0 < d) (hd : d < 2 ^ 31) : jrem (nI a) (nI d) = nI (a % d) := pk_rem ha h0 hd
theorem nIdec {n : Nat} (h : 1 ≤ n) : nI n + Int32.ofInt (-1) = nI (n - 1) := by
  obtain ⟨m, rfl⟩ : ∃ m, n = m + 1 := ⟨n - 1, by omega⟩
  exact pk_m1 m
theorem nIm1 (x : Int32) : x + Int32.ofInt (-1) = x - nI 1 := by
  rw [Int32.sub_eq_add_neg]
  rfl
theorem nmF_le (x : Nat) : nmF x ≤ 4 := by unfold nmF; split <;> omega
theorem nI_lt0 {n : Nat} (h : n < 2 ^ 31) : ¬ nI n < 0 := nI_pos h
set_option maxRecDepth 20000 in
set_option maxHeartbeats 4000000 in
theorem bits_ok (w : Wt) {k : Nat} (m : Nat) (hm : m < 1024) (h : Mm) : Ok w k MX8_bits [.int (nI m)] h (Rv (nI (pcF m)) h) := by
  show Wp w k MX8_bits _ 0 [some (.int (nI m)), none, none] [] h
  refine p_run (pc' := 4) [.iconst 0, .istore_n 1, .iload_n 0, .istore_n 2] mkX8_bits (by decide +kernel) rfl rfl ?_
  have := bits_loop w (k := k) (some (.int (nI m))) h m hm 0
  rw [Nat.zero_add] at this
  exact this
noncomputable def oT (o : Option Nat) : Int32 := match o with
  | none => Int32.ofInt (-1)
  | some t => nI t
set_option maxRecDepth 20000 in
set_option maxHeartbeats 4000000 in
theorem counts_loop (w : Wt) {k : Nat} (key : Nat) (hkey : key < 1000) (h : Mm) (hT : ∀ t, t < 14 → In (h 97 (70 + 2 * t)) 9999) : ∀ (i : Nat), i ≤ 14 → Wp w k MX8_counts (Rv (oT (lastT (h 97) key i)) h) 10 [some (.ref 96), some (.int (nI key)), some (.int (nI i - nI 1))] [] h := by
  intro i
  induction i with
  | zero =>
    intro _
    refine p_run (pc' := 11) [.iload_n 2] mkX8_counts (by decide +kernel) rfl rfl ?_
    refine p_if_lt (off := 30) 41 (by decide +kernel) (by decide) (fun c => ?_) (fun c => ?_)
    · refine p_run (pc' := 42) [.iconst (-1)] mkX8_counts (by decide +kernel) rfl rfl ?_
      refine p_iret rfl rfl (by decide +kernel) ?_
      exact ⟨rfl, rfl⟩
    · exact absurd c (by decide)
  | succ i ih =>
    intro hi
    obtain ⟨e1, e2⟩ := hT i (by omega)
    rw [nIs (by omega), Nat.add_sub_cancel]
    refine p_run (pc' := 11) [.iload_n 2] mkX8_counts (by decide +kernel) rfl rfl ?_
    refine p_if_lt (off := 30) 41 (by decide +kernel) (by decide) (fun c => ?_) (fun c => ?_)
    · exact absurd c (nI_lt0 (by omega))
    · refine p_run (pc' := 24) [.aload_n 0, .getfield 9, .bipush 70, .iconst 2, .iload_n 2, .imul, .iadd] mkX8_counts (by decide +kernel) rfl rfl ?_
      refine p_iald (70 + 2 * i) (by decide +kernel) rfl rfl (by simp only [oI, nI_add, nIm]) (by omega) ?_
      rw [e1]
      refine p_run (pc' := 28) [.sipush 1000] mkX8_counts (by decide +kernel) rfl rfl ?_
      refine p_idiv (by decide +kernel) (by decide) ?_
      rw [oI, pk_div (by omega) (by omega) (by omega)]
      refine p_run (pc' := 30) [.iload_n 1] mkX8_counts (by decide +kernel) rfl rfl ?_
      refine p_icmp_ne (off := 5) 35 (by decide +kernel) (by decide) (fun c2 => ?_) (fun c2 => ?_)
      · rw [nI_eq (by have := Nat.div_le_self (nN (h 97 (70 + 2 * i))) 1000; omega) (by omega)] at c2
        refine p_run (pc' := 10) [.iinc 2 (-1), .goto (-28)] mkX8_counts (by decide +kernel) rfl rfl ?_
        rw [lastT, if_neg c2]
        refine Wp.eqL ?_ (ih (by omega))
        rw [nIm1]
      · rw [nI_eq (by have := Nat.div_le_self (nN (h 97 (70 + 2 * i))) 1000; omega) (by omega)] at c2
        refine p_run (pc' := 34) [.iload_n 2] mkX8_counts (by decide +kernel) rfl rfl ?_
        refine p_iret rfl rfl (by decide +kernel) ?_
        exact ⟨by rw [lastT, if_pos c2]; rfl, rfl⟩
set_option maxRecDepth 20000 in
set_option maxHeartbeats 4000000 in
theorem counts_ok (w : Wt) {k : Nat} (key : Nat) (hkey : key < 1000) (h : Mm) (h7 : In (h 97 7) 14) (hT : ∀ t, t < 14 → In (h 97 (70 + 2 * t)) 9999) : Ok w k MX8_counts [.ref 96, .int (nI key)] h (Rv (oT (lawT (h 97) key)) h) := by
  show Wp w k MX8_counts _ 0 [some (.ref 96), some (.int (nI key)), none] [] h
  refine p_run (pc' := 6) [.aload_n 0, .getfield 9, .bipush 7] mkX8_counts (by decide +kernel) rfl rfl ?_
  refine p_iald (7) (by decide +kernel) rfl rfl (by simp only [oI]) (by omega) ?_
  rw [h7.1]
  refine p_run (pc' := 10) [.iconst 1, .isub, .istore_n 2] mkX8_counts (by decide +kernel) rfl rfl ?_
  exact counts_loop w key hkey h hT (nN (h 97 7)) h7.2
set_option maxRecDepth 20000 in
set_option maxHeartbeats 4000000 in
theorem works_loop (w : Wt) {k : Nat} (hk : 1 ≤ k) (h0 : Mm) (t n m : Nat) (c : Nat → Int32) (hc : c = fun i => h0 97 (98 + 96 * t + i)) (ht : t < 14) (hwf : wfC m c n) (hm4 : m ≤ 4) : ∀ (d i : Nat), i + d = n → ∀ (h : Mm) (x5 : Option Value), (∀ a, a ≠ 107 → h a = h0 a) → stk (h 107) (runT (h0 108) c i) →
    Wp w k MX8_worksOut (fun r h' => r = some (.int ((runT (h0 108) c n).getLastD 0)) ∧ ∀ a, a ≠ 107 → h' a = h0 a) 21 [some (.ref 96), some (.int (nI t)), some (.int (nI (dep c i))), some (.int (nI n)), some (.int (nI i)), x5] [] h := by
  intro d
  induction d with
  | zero =>
    intro i hi h x5 hh hs
    have hi : i = n := by omega
    subst hi
    refine p_run (pc' := 24) [.iload 4, .iload_n 3] mkX8_worksOut (by decide +kernel) rfl rfl ?_
    refine p_icmp_ge (off := 131) 155 (by decide +kernel) (by decide) (fun c1 => ?_) (fun c1 => ?_)
    · refine p_run (pc' := 160) [.aload_n 0, .getfield 42, .iconst 0] mkX8_worksOut (by decide +kernel) rfl rfl ?_
      refine p_iald (0) (by decide +kernel) rfl rfl (by simp only [oI]) (by omega) ?_
      have hl := runT_len (fc := h0 108) hwf i (Nat.le_refl _)
      rw [hwf.2.1] at hl
      refine p_iret rfl rfl (by decide +kernel) ?_
      refine ⟨?_, hh⟩
      cases hr : runT (h0 108) c i with
      | nil => rw [hr] at hl; simp at hl
      | cons x r =>
        rw [hr] at hl hs
        cases r with
        | nil => rw [show h 107 0 = x from hs.1]; rfl
        | cons y r => simp at hl
    · exact absurd (nI_le (Nat.le_refl _) (by have := hwf.2.2; omega)) c1
  | succ d ih =>
    intro i hi h x5 hh hs
    have hn96 := hwf.2.2
    have hde := dep_le c i
    have hl := runT_len (fc := h0 108) hwf i (by omega)
    refine p_run (pc' := 24) [.iload 4, .iload_n 3] mkX8_worksOut (by decide +kernel) rfl rfl ?_
    refine p_icmp_ge (off := 131) 155 (by decide +kernel) (by decide) (fun c1 => ?_) (fun c1 => ?_)
    · exact absurd c1 (nI_ge (by omega) (by omega))
    · refine p_run (pc' := 41) [.aload_n 0, .getfield 9, .bipush 98, .bipush 96, .iload_n 1, .imul, .iadd, .iload 4, .iadd] mkX8_worksOut (by decide +kernel) rfl rfl ?_
      refine p_iald (98 + 96 * t + i) (by decide +kernel) rfl rfl (by simp only [oI, nI_add, nIm]) (by omega) ?_
      have ec : h 97 (98 + 96 * t + i) = c i := by rw [hh 97 (by decide), hc]
      rw [ec]
      rcases hwf.1 i (by omega) with ⟨s1, s2⟩ | ⟨s1, s2⟩ | ⟨s1, s2, s3⟩
      · have hin : In (c i) (10000 + m) := In_of (by omega) s1 (Int32.le_of_lt s2)
        have hin2 := hin.2
        refine p_run (pc' := 46) [.istore 5, .iload 5] mkX8_worksOut (by decide +kernel) rfl rfl ?_
        refine p_if_lt (off := 39) 85 (by decide +kernel) (by decide) (fun c2 => ?_) (fun c2 => ?_)
        · exact absurd c2 (by rw [← nI_0]; exact Int32.not_lt.mpr s1)
        · refine p_run (pc' := 59) [.aload_n 0, .getfield 42, .iload_n 2, .iload 5, .sipush 10000] mkX8_worksOut (by decide +kernel) rfl rfl ?_
          refine p_icmp_ge (off := 8) 67 (by decide +kernel) (by decide) (fun c3 => ?_) (fun c3 => ?_)
          · have hq : 10000 ≤ nN (c i) := by rw [oI, hin.1] at c3; exact (nI_leI (by omega) (by omega)).mp c3
            have hlt : nN (c i) < 10000 + m := by have := s2; rw [hin.1] at this; exact (nI_ltI (by omega) (by omega)).mp this
            refine p_run (pc' := 77) [.aload_n 0, .getfield 45, .iload 5, .sipush 10000, .isub] mkX8_worksOut (by decide +kernel) rfl rfl ?_
            refine p_iald (nN (c i) - 10000) (by decide +kernel) rfl rfl (by rw [oI]; conv => lhs; rw [hin.1]; rw [nIs hq]) (by omega) ?_
            refine p_iast (dep c i) (by decide +kernel) rfl rfl rfl (by omega)  ?_
            refine p_run (pc' := 21) [.iinc 2 1, .goto 67, .iinc 4 1, .goto (-131)] mkX8_worksOut (by decide +kernel) rfl rfl ?_
            refine Wp.eqL ?_ (ih (i + 1) (by omega) _ (some (.int (c i))) (fun a ha => by rw [upN ha]; exact hh a ha) ?_)
            · rw [dep, if_pos s1]; simp only [oI, nI_add]
            · rw [upS, runT, tokS_n s1]; exact ⟨by rw [hl]; simp only [upd, if_true]; rw [hh 108 (by decide), if_neg (by rw [oI] at c3; exact Int32.not_lt.mpr c3)], stk_upd (by omega) hs⟩
          · refine p_run (pc' := 78) [.iload 5, .goto 14] mkX8_worksOut (by decide +kernel) rfl rfl ?_
            refine p_iast (dep c i) (by decide +kernel) rfl rfl rfl (by omega)  ?_
            refine p_run (pc' := 21) [.iinc 2 1, .goto 67, .iinc 4 1, .goto (-131)] mkX8_worksOut (by decide +kernel) rfl rfl ?_
            refine Wp.eqL ?_ (ih (i + 1) (by omega) _ (some (.int (c i))) (fun a ha => by rw [upN ha]; exact hh a ha) ?_)
            · rw [dep, if_pos s1]; simp only [oI, nI_add]
            · rw [upS, runT, tokS_n s1]; exact ⟨by rw [hl]; simp only [upd, if_true]; rw [if_pos (by rw [oI] at c3; exact Int32.not_le.mp c3)], stk_upd (by omega) hs⟩
      · cases hr : runT (h0 108) c i with
        | nil => rw [hr] at hl; simp at hl; omega
        | cons q r =>
          rw [hr] at hl hs
          have hrl : r.length = dep c i - 1 := by simp at hl; omega
          rw [s1]
          refine p_run (pc' := 46) [.istore 5, .iload 5] mkX8_worksOut (by decide +kernel) rfl rfl ?_
          refine p_if_lt (off := 39) 85 (by decide +kernel) (by decide) (fun c2 => ?_) (fun c2 => ?_)
          · refine p_run (pc' := 89) [.iload 5, .bipush (-10)] mkX8_worksOut (by decide +kernel) rfl rfl ?_
            refine p_icmp_ne (off := 30) 119 (by decide +kernel) (by decide) (fun c3 => ?_) (fun c3 => ?_)
            · exact absurd rfl c3
            · refine p_run (pc' := 106) [.aload_n 0, .getfield 42, .iload_n 2, .iconst 1, .isub, .aload_n 0, .getfield 42, .iload_n 2, .iconst 1, .isub] mkX8_worksOut (by decide +kernel) rfl rfl ?_
              refine p_iald (dep c i - 1) (by decide +kernel) rfl rfl (by rw [oI, nIs (by omega)]) (by omega) ?_
              rw [← hrl, hs.1]
              refine p_if_ne (off := 7) 114 (by decide +kernel) (by decide) (fun c4 => ?_) (fun c4 => ?_)
              · refine p_run (pc' := 115) [.iconst 0] mkX8_worksOut (by decide +kernel) rfl rfl ?_
                refine p_iast (dep c i - 1) (by decide +kernel) rfl rfl (by rw [oI, nIs (by omega)]) (by omega)  ?_
                refine p_run (pc' := 21) [.goto 33, .iinc 4 1, .goto (-131)] mkX8_worksOut (by decide +kernel) rfl rfl ?_
                refine Wp.eqL ?_ (ih (i + 1) (by omega) _ (some (.int (Int32.ofInt (-10)))) (fun a ha => by rw [upN ha]; exact hh a ha) ?_)
                · rw [dep, if_neg (by rw [s1]; decide), if_pos s1]; simp only [oI, nI_add]
                · rw [upS, runT, hr, s1, tokS_not, ← hrl]; exact ⟨by simp only [upd, if_true]; rw [bIf c4]; rfl, stk_upd (Nat.le_refl _) hs.2⟩
              · refine p_run (pc' := 115) [.iconst 1, .goto 4] mkX8_worksOut (by decide +kernel) rfl rfl ?_
                refine p_iast (dep c i - 1) (by decide +kernel) rfl rfl (by rw [oI, nIs (by omega)]) (by omega)  ?_
                refine p_run (pc' := 21) [.goto 33, .iinc 4 1, .goto (-131)] mkX8_worksOut (by decide +kernel) rfl rfl ?_
                refine Wp.eqL ?_ (ih (i + 1) (by omega) _ (some (.int (Int32.ofInt (-10)))) (fun a ha => by rw [upN ha]; exact hh a ha) ?_)
                · rw [dep, if_neg (by rw [s1]; decide), if_pos s1]; simp only [oI, nI_add]
                · rw [upS, runT, hr, s1, tokS_not, ← hrl]; exact ⟨by simp only [upd, if_true]; rw [bIt c4]; rfl, stk_upd (Nat.le_refl _) hs.2⟩
          · exact absurd (by decide) c2
      · have hng : ¬ nI 0 ≤ c i := Int32.not_le.mpr s2
        have hnm : ¬ c i = Int32.ofInt (-10) := by intro e; rw [e] at s1; exact absurd s1 (by decide)
        cases hr : runT (h0 108) c i with
        | nil => rw [hr] at hl; simp at hl; omega
        | cons q r =>
          cases r with
          | nil => rw [hr] at hl; simp at hl; omega
          | cons q2 r =>
            rw [hr] at hl hs
            have hrl : r.length = dep c i - 2 := by simp at hl; omega
            have hrl2 : (q2 :: r).length = dep c i - 1 := by simp at hl ⊢; omega
            obtain ⟨t1, t2, t3⟩ := hs
            rw [hrl2] at t1
            rw [hrl] at t2
            refine p_run (pc' := 46) [.istore 5, .iload 5] mkX8_worksOut (by decide +kernel) rfl rfl ?_
            refine p_if_lt (off := 39) 85 (by decide +kernel) (by decide) (fun c2 => ?_) (fun c2 => ?_)
            · refine p_run (pc' := 89) [.iload 5, .bipush (-10)] mkX8_worksOut (by decide +kernel) rfl rfl ?_
              refine p_icmp_ne (off := 30) 119 (by decide +kernel) (by decide) (fun c3 => ?_) (fun c3 => ?_)
              · refine p_run (pc' := 122) [.iinc 2 (-1)] mkX8_worksOut (by decide +kernel) rfl rfl ?_
                rw [nIdec (by omega)]
                refine p_run (pc' := 138) [.aload_n 0, .getfield 42, .iload_n 2, .iconst 1, .isub, .iload 5, .aload_n 0, .getfield 42, .iload_n 2, .iconst 1, .isub] mkX8_worksOut (by decide +kernel) rfl rfl ?_
                refine p_iald (dep c i - 2) (by decide +kernel) rfl rfl (by rw [oI, nIs (by omega)]; rfl) (by omega) ?_
                refine p_run (pc' := 144) [.aload_n 0, .getfield 42, .iload_n 2] mkX8_worksOut (by decide +kernel) rfl rfl ?_
                refine p_iald (dep c i - 1) (by decide +kernel) rfl rfl rfl (by omega) ?_
                rw [t1, t2]
                refine p_callSv (two_ok w (k := k - 1) _ _ _ _) ksX8_278 (by decide +kernel) (by omega) rfl rfl rfl rfl rfl ?_
                refine p_iast (dep c i - 2) (by decide +kernel) rfl rfl (by rw [oI, nIs (by omega)]; rfl) (by omega)  ?_
                refine p_run (pc' := 21) [.iinc 4 1, .goto (-131)] mkX8_worksOut (by decide +kernel) rfl rfl ?_
                refine Wp.eqL ?_ (ih (i + 1) (by omega) _ (some (.int (c i))) (fun a ha => by rw [upN ha]; exact hh a ha) ?_)
                · rw [dep, if_neg hng, if_neg hnm]; simp only [oI, nI_add]
                · rw [upS, runT, hr, tokS_two hng hnm]; exact ⟨by rw [hrl]; simp only [upd, if_true], stk_upd (by omega) t3⟩
              · exact absurd c3 hnm
            · exact absurd (by rw [← nI_0]; exact s2) c2
set_option maxRecDepth 20000 in
set_option maxHeartbeats 4000000 in
theorem worksOut_ok (w : Wt) {k : Nat} (hk : 1 ≤ k) (t : Nat) (ht : t < 14) (h : Mm) (hX : TX (h 97) t) : Ok w k MX8_worksOut [.ref 96, .int (nI t)] h (fun r h' => r = some (.int (evF (h 97) t (h 108))) ∧ ∀ a, a ≠ 107 → h' a = h a) := by
  show Wp w k MX8_worksOut _ 0 [some (.ref 96), some (.int (nI t)), none, none, none, none] [] h
  refine p_run (pc' := 12) [.iconst 0, .istore_n 2, .aload_n 0, .getfield 9, .bipush 70, .iconst 2, .iload_n 1, .imul, .iadd] mkX8_worksOut (by decide +kernel) rfl rfl ?_
  refine p_iald (70 + 2 * t) (by decide +kernel) rfl rfl (by simp only [oI, nI_add, nIm]) (by omega) ?_
  rw [hX.1.1]
  refine p_run (pc' := 16) [.sipush 1000] mkX8_worksOut (by decide +kernel) rfl rfl ?_
  refine p_irem (by decide +kernel) (by decide) ?_
  have hX2 := hX.1.2
  simp only [oI]
  rw [jrem_nI (by omega) (by omega) (by omega)]
  refine p_run (pc' := 21) [.istore_n 3, .iconst 0, .istore 4] mkX8_worksOut (by decide +kernel) rfl rfl ?_
  exact works_loop w hk h t _ _ _ rfl ht hX.2 (nmF_le _) _ 0 (Nat.zero_add _) h none (fun _ _ => rfl) trivial
end
section
/-! what is kept outside of some cells; bits; runs of texts look only at their names -/
def Ag (S : List Nat) (h h' : Mm) : Prop := ∀ a, a ∉ S → h' a = h a
theorem Ag.rf {S : List Nat} {h : Mm} : Ag S h h := fun _ _ => rfl
theorem Ag.tr {S : List Nat} {h1 h2 h3 : Mm} (a : Ag S h1 h2) (b : Ag S h2 h3) : Ag S h1 h3 := fun x hx => (b x hx).trans (a x hx)
theorem Ag.mono {S S' : List Nat} {h h' : Mm} (a : Ag S h h') (hs : ∀ x, x ∈ S → x ∈ S') : Ag S' h h' := fun x hx => a x (fun q => hx (hs x q))
theorem Ag.up {S : List Nat} {h : Mm} {a k : Nat} {x : Int32} (ha : a ∈ S) : Ag S h (up h a k x) := fun b hb => upN (fun e => hb (e ▸ ha))
def Rs (S : List Nat) (v : Int32) (h : Mm) : Option Value → Mm → Prop := fun r h' => r = some (.int v) ∧ Ag S h h'
theorem runT_congr {fc fc' c : Nat → Int32} {m n : Nat} (h : wfC m c n) (hm : m ≤ 1000) (hf : ∀ i, i < m → fc i = fc' i) : ∀ i, i ≤ n → runT fc c i = runT fc' c i
  | 0, _ => rfl
  | i + 1, hi => by
    rw [runT, runT, runT_congr h hm hf i (by omega)]
    rcases h.1 i (by omega) with ⟨h1, h2⟩ | ⟨h1, h2⟩ | ⟨h1, h2, h3⟩
    · rw [tokS_n h1, tokS_n h1]
      congr 1
      split
      · rfl
      · rename_i hn
        have hin : In (c i) (10000 + m) := In_of (by omega) h1 (Int32.le_of_lt h2)
        have e := hin.1
        have hb := hin.2
        have h3 : nN (c i) < 10000 + m := by
          rw [e] at h2
          exact (nI_ltI (by omega) (by omega)).mp h2
        have h4 : 10000 ≤ nN (c i) := by
          rw [e] at hn
          exact Nat.not_lt.mp (fun q => hn (nI_lt q (by omega)))
        exact hf _ (by omega)
    · have hn : ¬ nI 0 ≤ c i := by rw [h1]; decide
      unfold tokS
      rw [if_neg hn, if_neg hn]
    · have hn : ¬ nI 0 ≤ c i := Int32.not_le.mpr h2
      unfold tokS
      rw [if_neg hn, if_neg hn]
theorem evF_congr {N : Vc} {t : Nat} {fc fc' : Nat → Int32} (h : TX N t) (hf : ∀ i, i < nmF (nN (N (70 + 2 * t)) / 1000) → fc i = fc' i) : evF N t fc = evF N t fc' := by
  unfold evF
  rw [runT_congr h.2 (by unfold nmF; split <;> omega) hf _ (Nat.le_refl _)]
theorem setF_div (p : Nat → Bool) (k : Nat) : ∀ n, setF p n / 2 ^ k % 2 = if k < n ∧ p k = true then 1 else 0
  | 0 => by simp [setF]
  | n + 1 => by
    have ih := setF_div p k n
    have hl := setF_lt p n
    rw [setF]
    by_cases hkn : k < n
    · have e : 2 ^ n = 2 ^ k * (2 * 2 ^ (n - k - 1)) := by
        rw [← Nat.pow_succ', ← Nat.pow_add]
        congr 1
        omega
      by_cases hp : p n = true
      · rw [if_pos hp, e, Nat.add_mul_div_left _ _ (Nat.two_pow_pos k), Nat.add_mul_mod_self_left, ih]
        simp [hkn, Nat.lt_succ_of_lt hkn]
      · rw [if_neg hp, Nat.add_zero, ih]
        simp [hkn, Nat.lt_succ_of_lt hkn]
    · have hle : 2 ^ n ≤ 2 ^ k := Nat.pow_le_pow_right (by omega) (by omega)
      by_cases hk : k = n
      · subst hk
        by_cases hp : p k = true
        · rw [if_pos hp, Nat.add_div_right _ (Nat.two_pow_pos k), Nat.div_eq_of_lt hl]
          simp [hp]
        · rw [if_neg hp, Nat.add_zero, Nat.div_eq_of_lt hl]
          simp [hp]
      · have h2 : 2 ^ (n + 1) ≤ 2 ^ k := Nat.pow_le_pow_right (by omega) (by omega)
        have h3 : setF p n + (if p n = true then 2 ^ n else 0) < 2 ^ k := by
          have := Nat.pow_succ (n := 2) (m := n)
          split <;> omega
        rw [Nat.div_eq_of_lt h3, if_neg (by omega)]
theorem shr_bit : ∀ k, k < 10 → ∀ m, m < 1024 → (nI m >>> (nI k &&& 31)) &&& nI 1 = nI (m / 2 ^ k % 2) := by decide +kernel
theorem clr_bit : ∀ d, d < 10 → ∀ m, m < 1024 → nI m &&& ((nI 1 <<< (nI d &&& 31)) ^^^ Int32.ofInt (-1)) = nI (m - m / 2 ^ d % 2 * 2 ^ d) := by decide +kernel
theorem setF_clr (p : Nat → Bool) (d : Nat) : ∀ n, setF p n - setF p n / 2 ^ d % 2 * 2 ^ d = setF (fun i => p i && decide (i ≠ d)) n
  | 0 => by simp [setF]
  | n + 1 => by
    have ih := setF_clr p d n
    have hl := setF_lt p n
    rw [setF_div] at ih ⊢
    rw [setF, setF]
    rcases Nat.lt_trichotomy d n with h | h | h
    · have hb : (if d < n ∧ p d = true then 1 else 0) * 2 ^ d ≤ setF p n := by
        have := setF_div p d n
        rw [← this]
        have h1 := Nat.div_mul_le_self (setF p n) (2 ^ d)
        have h2 := Nat.mod_le (setF p n / 2 ^ d) 2
        exact Nat.le_trans (Nat.mul_le_mul_right _ h2) h1
      rw [← ih]
      have e1 : (d < n + 1 ∧ p d = true) = (d < n ∧ p d = true) := by simp [h, Nat.lt_succ_of_lt h]
      simp only [e1, show n ≠ d by omega, ne_eq, not_false_eq_true, decide_true, Bool.and_true]
      omega
    · subst h
      rw [if_neg (by omega)] at ih
      simp only [Nat.zero_mul, Nat.sub_zero] at ih
      rw [← ih]
      by_cases hp : p d = true <;> simp [hp]
    · have e1 : (if d < n + 1 ∧ p d = true then 1 else 0) = 0 := if_neg (by omega)
      have e2 : (if d < n ∧ p d = true then 1 else 0) = 0 := if_neg (by omega)
      rw [e2, Nat.zero_mul, Nat.sub_zero] at ih
      rw [e1, Nat.zero_mul, Nat.sub_zero, ← ih]
      simp [show n ≠ d by omega]
theorem setF_1024 (p : Nat → Bool) {n : Nat} (h : n ≤ 10) : setF p n < 1024 := Nat.lt_of_lt_of_le (setF_lt p n) (Nat.pow_le_pow_right (n := 2) (by omega) h)
theorem Iv.nd {N : Vc} (h : Iv N) : N 1 = nI (nd N) ∧ nd N ≤ 10 := h.1
theorem Iv.br {N : Vc} (h : Iv N) {d : Nat} (hd : d < 10) : N (20 + 5 * d + 3) = nI (brF N d) ∧ brF N d < 4 := ⟨(h.2.2.2.2.2.1 d hd).2.2.2.1.1, Nat.lt_succ_of_le (h.2.2.2.2.2.1 d hd).2.2.2.1.2⟩
end
section
/-! the reference: what is dug, burned, worth -/
noncomputable def dgF (N : Vc) (d : Nat) : Int32 := match nN (dK N d 0) with
  | 1 => plF N d + nI 1
  | 2 => plF N d / nI 2
  | 3 => if nI 40 < ahF N (brF N d) then (plF N d + nI 1) / nI 2 else plF N d + nI 1
  | 4 => plF N d / nI 2 + nI 2 * nI (cntF (feB N d) (nd N))
  | 5 => nI 1
  | _ => plF N d
noncomputable def buF (N : Vc) (d : Nat) : Int32 := match nN (dK N d 0) with
  | 1 => nI 2
  | 2 => nI 0
  | 3 => if nI 40 < ahF N (brF N d) then nI 0 else nI 2
  | 4 => nI 3
  | 5 => nI 2
  | _ => nI 1
noncomputable def woF (N : Vc) (d : Nat) : Int32 := match nN (dK N d 0) with
  | 1 => dK N d 2 + dK N d 1
  | 2 => nI 99 - dK N d 2
  | 3 => nI 2 * (dK N d 2 + dK N d 1)
  | 4 => (nI 99 - dK N d 2) / nI 2
  | 5 => dK N d 4 / nI 10
  | _ => dK N d 2
theorem kd_case {x : Int32} {v : Nat} (hv : v < 10) (h : x = Int32.ofInt (v : Int)) : nN x = v := by
  rw [h]
  exact nI_clamp (n := v) (by omega)
theorem kd_dflt {x : Int32} (hi : In x 5) (h : x.toInt < 1 ∨ 5 < x.toInt) : nN x = 0 := by
  have h1 := hi.2
  rw [hi.1, nI_toInt (by omega)] at h
  omega
/-- the texts' rows are small -/
theorem Iv.tx {N : Vc} (h : Iv N) : In (N 7) 14 := h.2.2.2.1
def Tq (N : Vc) : Prop := ∀ t, t < 14 → In (N (70 + 2 * t)) 9999
set_option maxRecDepth 20000 in
set_option maxHeartbeats 4000000 in
theorem far_ok (w : Wt) {k : Nat} (hk : 2 ≤ k) (d : Nat) (hd : d < 10) (h : Mm) (hI : Iv (h 97)) : Ok w k MX8_isFarOff [.ref 96, .int (nI d)] h (Rv (bI (nI 40 < ahF (h 97) (brF (h 97) d))) h) := by
  show Wp w k MX8_isFarOff _ 0 [some (.ref 96), some (.int (nI d))] [] h
  refine p_run (pc' := 4) [.aload_n 0, .aload_n 0, .iload_n 1, .iconst 3] mkX8_isFarOff (by decide +kernel) rfl rfl ?_
  refine p_callVv (of_ok w (k := k - 1) d 3 h (by omega)) kvX8_83 (by decide +kernel) (by decide) rfl (by omega) rfl rfl rfl rfl rfl ?_
  rw [(hI.br hd).1]
  refine p_callVv (rahead_ok w (k := k - 1) (by omega) (brF (h 97) d) (hI.br hd).2 h) kvX8_90 (by decide +kernel) (by decide) rfl (by omega) rfl rfl rfl rfl rfl ?_
  refine p_run (pc' := 12) [.bipush 40] mkX8_isFarOff (by decide +kernel) rfl rfl ?_
  refine p_icmp_le (off := 7) 19 (by decide +kernel) (by decide) (fun c12 => ?_) (fun c12 => ?_)
  · refine p_run (pc' := 20) [.iconst 0] mkX8_isFarOff (by decide +kernel) rfl rfl ?_
    refine p_iret rfl rfl (by decide +kernel) ?_
    exact ⟨by first | (rw [bIt (by rw [oI] at c12; first | exact c12 | exact Int32.not_le.mp c12)]; rfl) | (rw [bIf (by rw [oI] at c12; first | exact c12 | exact Int32.not_lt.mpr c12)]; rfl), rfl⟩
  · refine p_run (pc' := 20) [.iconst 1, .goto 4] mkX8_isFarOff (by decide +kernel) rfl rfl ?_
    refine p_iret rfl rfl (by decide +kernel) ?_
    exact ⟨by first | (rw [bIt (by rw [oI] at c12; first | exact c12 | exact Int32.not_le.mp c12)]; rfl) | (rw [bIf (by rw [oI] at c12; first | exact c12 | exact Int32.not_lt.mpr c12)]; rfl), rfl⟩
set_option maxRecDepth 20000 in
set_option maxHeartbeats 4000000 in
theorem worthOf_ok (w : Wt) {k : Nat} (hk : 1 ≤ k) (d : Nat) (hd : d < 10) (h : Mm) (hI : Iv (h 97)) : Ok w k MX8_worthOf [.ref 96, .int (nI d)] h (Rv (woF (h 97) d) h) := by
  show Wp w k MX8_worthOf _ 0 [some (.ref 96), some (.int (nI d)), none] [] h
  refine p_run (pc' := 3) [.aload_n 0, .iload_n 1, .iconst 2] mkX8_worthOf (by decide +kernel) rfl rfl ?_
  refine p_callVv (of_ok w (k := k - 1) d 2 h (by omega)) kvX8_83 (by decide +kernel) (by decide) rfl (by omega) rfl rfl rfl rfl rfl ?_
  refine p_run (pc' := 10) [.istore_n 2, .aload_n 0, .iload_n 1, .iconst 0] mkX8_worthOf (by decide +kernel) rfl rfl ?_
  refine p_callVv (of_ok w (k := k - 1) d 0 h (by omega)) kvX8_83 (by decide +kernel) (by decide) rfl (by omega) rfl rfl rfl rfl rfl ?_
  refine p_table (dflt := 77) (lo := 1) (hi := 5) (offs := #[35, 44, 49, 60, 67]) (len := 35) (by decide +kernel) (by decide) (fun j hj hx => ?_) (fun hx => ?_)
  · match j, hj, hx with
    | 0, _, hx =>
      have hx : h 97 (20 + 5 * d + 0) = Int32.ofInt (1) := hx
      refine ⟨35, 48, rfl, rfl, ?_⟩
      have hK : nN (dK (h 97) d 0) = 1 := kd_case (by omega) hx
      refine p_run (pc' := 52) [.iload_n 2, .aload_n 0, .iload_n 1, .iconst 1] mkX8_worthOf (by decide +kernel) rfl rfl ?_
      refine p_callVv (of_ok w (k := k - 1) (d) (1) _ (by omega)) kvX8_83 (by decide +kernel) (by decide) rfl (by omega) rfl rfl rfl rfl rfl ?_
      refine p_run (pc' := 56) [.iadd] mkX8_worthOf (by decide +kernel) rfl rfl ?_
      refine p_iret rfl rfl (by decide +kernel) ?_
      exact ⟨by simp only [woF, hK, oI]; rfl, rfl⟩
    | 1, _, hx =>
      have hx : h 97 (20 + 5 * d + 0) = Int32.ofInt (2) := hx
      refine ⟨44, 57, rfl, rfl, ?_⟩
      have hK : nN (dK (h 97) d 0) = 2 := kd_case (by omega) hx
      refine p_run (pc' := 61) [.bipush 99, .iload_n 2, .isub] mkX8_worthOf (by decide +kernel) rfl rfl ?_
      refine p_iret rfl rfl (by decide +kernel) ?_
      exact ⟨by simp only [woF, hK, oI]; rfl, rfl⟩
    | 2, _, hx =>
      have hx : h 97 (20 + 5 * d + 0) = Int32.ofInt (3) := hx
      refine ⟨49, 62, rfl, rfl, ?_⟩
      have hK : nN (dK (h 97) d 0) = 3 := kd_case (by omega) hx
      refine p_run (pc' := 67) [.iconst 2, .iload_n 2, .aload_n 0, .iload_n 1, .iconst 1] mkX8_worthOf (by decide +kernel) rfl rfl ?_
      refine p_callVv (of_ok w (k := k - 1) (d) (1) _ (by omega)) kvX8_83 (by decide +kernel) (by decide) rfl (by omega) rfl rfl rfl rfl rfl ?_
      refine p_run (pc' := 72) [.iadd, .imul] mkX8_worthOf (by decide +kernel) rfl rfl ?_
      refine p_iret rfl rfl (by decide +kernel) ?_
      exact ⟨by simp only [woF, hK, oI]; rfl, rfl⟩
    | 3, _, hx =>
      have hx : h 97 (20 + 5 * d + 0) = Int32.ofInt (4) := hx
      refine ⟨60, 73, rfl, rfl, ?_⟩
      have hK : nN (dK (h 97) d 0) = 4 := kd_case (by omega) hx
      refine p_run (pc' := 78) [.bipush 99, .iload_n 2, .isub, .iconst 2] mkX8_worthOf (by decide +kernel) rfl rfl ?_
      refine p_idiv (by decide +kernel) (by decide) ?_
      refine p_iret rfl rfl (by decide +kernel) ?_
      exact ⟨by simp only [woF, hK, oI]; rfl, rfl⟩
    | 4, _, hx =>
      have hx : h 97 (20 + 5 * d + 0) = Int32.ofInt (5) := hx
      refine ⟨67, 80, rfl, rfl, ?_⟩
      have hK : nN (dK (h 97) d 0) = 5 := kd_case (by omega) hx
      refine p_run (pc' := 83) [.aload_n 0, .iload_n 1, .iconst 4] mkX8_worthOf (by decide +kernel) rfl rfl ?_
      refine p_callVv (of_ok w (k := k - 1) (d) (4) _ (by omega)) kvX8_83 (by decide +kernel) (by decide) rfl (by omega) rfl rfl rfl rfl rfl ?_
      refine p_run (pc' := 88) [.bipush 10] mkX8_worthOf (by decide +kernel) rfl rfl ?_
      refine p_idiv (by decide +kernel) (by decide) ?_
      refine p_iret rfl rfl (by decide +kernel) ?_
      exact ⟨by simp only [woF, hK, oI]; rfl, rfl⟩
    | j + 5, hj, _ => exact absurd hj (by simp)
  · refine ⟨90, rfl, ?_⟩
    have hK : nN (dK (h 97) d 0) = 0 := kd_dflt (hI.2.2.2.2.2.1 d hd).1 hx
    refine p_run (pc' := 91) [.iload_n 2] mkX8_worthOf (by decide +kernel) rfl rfl ?_
    refine p_iret rfl rfl (by decide +kernel) ?_
    exact ⟨by simp only [woF, hK, oI]; rfl, rfl⟩
set_option maxRecDepth 20000 in
set_option maxHeartbeats 4000000 in
theorem burnsOf_ok (w : Wt) {k : Nat} (hk : 3 ≤ k) (d : Nat) (hd : d < 10) (h : Mm) (hI : Iv (h 97)) : Ok w k MX8_burnsOf [.ref 96, .int (nI d)] h (Rv (buF (h 97) d) h) := by
  show Wp w k MX8_burnsOf _ 0 [some (.ref 96), some (.int (nI d))] [] h
  refine p_run (pc' := 3) [.aload_n 0, .iload_n 1, .iconst 0] mkX8_burnsOf (by decide +kernel) rfl rfl ?_
  refine p_callVv (of_ok w (k := k - 1) d 0 h (by omega)) kvX8_83 (by decide +kernel) (by decide) rfl (by omega) rfl rfl rfl rfl rfl ?_
  refine p_table (dflt := 54) (lo := 1) (hi := 5) (offs := #[34, 36, 38, 52, 34]) (len := 34) (by decide +kernel) (by decide) (fun j hj hx => ?_) (fun hx => ?_)
  · match j, hj, hx with
    | 0, _, hx =>
      have hx : h 97 (20 + 5 * d + 0) = Int32.ofInt (1) := hx
      refine ⟨34, 40, rfl, rfl, ?_⟩
      have hK : nN (dK (h 97) d 0) = 1 := kd_case (by omega) hx
      refine p_run (pc' := 41) [.iconst 2] mkX8_burnsOf (by decide +kernel) rfl rfl ?_
      refine p_iret rfl rfl (by decide +kernel) ?_
      exact ⟨by simp only [buF, hK, oI], rfl⟩
    | 1, _, hx =>
      have hx : h 97 (20 + 5 * d + 0) = Int32.ofInt (2) := hx
      refine ⟨36, 42, rfl, rfl, ?_⟩
      have hK : nN (dK (h 97) d 0) = 2 := kd_case (by omega) hx
      refine p_run (pc' := 43) [.iconst 0] mkX8_burnsOf (by decide +kernel) rfl rfl ?_
      refine p_iret rfl rfl (by decide +kernel) ?_
      exact ⟨by simp only [buF, hK, oI], rfl⟩
    | 2, _, hx =>
      have hx : h 97 (20 + 5 * d + 0) = Int32.ofInt (3) := hx
      refine ⟨38, 44, rfl, rfl, ?_⟩
      have hK : nN (dK (h 97) d 0) = 3 := kd_case (by omega) hx
      refine p_run (pc' := 46) [.aload_n 0, .iload_n 1] mkX8_burnsOf (by decide +kernel) rfl rfl ?_
      refine p_callVv (far_ok w (k := k - 1) (by omega) d hd _ hI) kvX8_109 (by decide +kernel) (by decide) rfl (by omega) rfl rfl rfl rfl rfl ?_
      refine p_if_eq (off := 7) 56 (by decide +kernel) (by decide) (fun c49 => ?_) (fun c49 => ?_)
      · refine p_run (pc' := 57) [.iconst 2] mkX8_burnsOf (by decide +kernel) rfl rfl ?_
        refine p_iret rfl rfl (by decide +kernel) ?_
        exact ⟨by simp only [buF, hK]; first | (rw [if_pos (bI1.mp c49)]; rfl) | (rw [if_neg (bI0.mp c49)]; rfl), rfl⟩
      · refine p_run (pc' := 57) [.iconst 0, .goto 4] mkX8_burnsOf (by decide +kernel) rfl rfl ?_
        refine p_iret rfl rfl (by decide +kernel) ?_
        exact ⟨by simp only [buF, hK]; first | (rw [if_pos (bI1.mp c49)]; rfl) | (rw [if_neg (bI0.mp c49)]; rfl), rfl⟩
    | 3, _, hx =>
      have hx : h 97 (20 + 5 * d + 0) = Int32.ofInt (4) := hx
      refine ⟨52, 58, rfl, rfl, ?_⟩
      have hK : nN (dK (h 97) d 0) = 4 := kd_case (by omega) hx
      refine p_run (pc' := 59) [.iconst 3] mkX8_burnsOf (by decide +kernel) rfl rfl ?_
      refine p_iret rfl rfl (by decide +kernel) ?_
      exact ⟨by simp only [buF, hK, oI], rfl⟩
    | 4, _, hx =>
      have hx : h 97 (20 + 5 * d + 0) = Int32.ofInt (5) := hx
      refine ⟨34, 40, rfl, rfl, ?_⟩
      have hK : nN (dK (h 97) d 0) = 5 := kd_case (by omega) hx
      refine p_run (pc' := 41) [.iconst 2] mkX8_burnsOf (by decide +kernel) rfl rfl ?_
      refine p_iret rfl rfl (by decide +kernel) ?_
      exact ⟨by simp only [buF, hK, oI], rfl⟩
    | j + 5, hj, _ => exact absurd hj (by simp)
  · refine ⟨60, rfl, ?_⟩
    have hK : nN (dK (h 97) d 0) = 0 := kd_dflt (hI.2.2.2.2.2.1 d hd).1 hx
    refine p_run (pc' := 61) [.iconst 1] mkX8_burnsOf (by decide +kernel) rfl rfl ?_
    refine p_iret rfl rfl (by decide +kernel) ?_
    exact ⟨by simp only [buF, hK, oI], rfl⟩
theorem lastT_in {N : Vc} {key : Nat} : ∀ {n t : Nat}, lastT N key n = some t → t < n ∧ nN (N (70 + 2 * t)) / 1000 = key
  | 0, t, h => by simp [lastT] at h
  | n + 1, t, h => by
    rw [lastT] at h
    split at h
    · rename_i hk
      cases h
      exact ⟨by omega, hk⟩
    · obtain ⟨h1, h2⟩ := lastT_in h
      exact ⟨by omega, h2⟩
theorem lastT_spec {N : Vc} {key t : Nat} (h : lawT N key = some t) (hI : Iv N) : t < 14 ∧ TX N t ∧ nN (N (70 + 2 * t)) / 1000 = key := by
  obtain ⟨h1, h2⟩ := lastT_in h
  have h3 := hI.tx.2
  exact ⟨by omega, hI.2.2.2.2.2.2 t h1, h2⟩
set_option maxRecDepth 20000 in
set_option maxHeartbeats 4000000 in
theorem plainDig_ok (w : Wt) {k : Nat} (hk : 2 ≤ k) (d : Nat) (hd : d < 10) (h : Mm) (hI : Iv (h 97)) (hT : Tq (h 97)) : Ok w k MX8_plainDig [.ref 96, .int (nI d)] h (Rs [107, 108] (plF (h 97) d) h) := by
  show Wp w k MX8_plainDig _ 0 [some (.ref 96), some (.int (nI d)), none, none] [] h
  refine p_run (pc' := 2) [.aload_n 0, .iconst 0] mkX8_plainDig (by decide +kernel) rfl rfl ?_
  refine p_callVv (counts_ok w (k := k - 1) 0 (by omega) h hI.tx hT) kvX8_86 (by decide +kernel) (by decide) rfl (by omega) rfl rfl rfl rfl rfl ?_
  refine p_run (pc' := 9) [.istore_n 2, .aload_n 0, .iload_n 1, .iconst 3] mkX8_plainDig (by decide +kernel) rfl rfl ?_
  refine p_callVv (of_ok w (k := k - 1) d 3 h (by omega)) kvX8_83 (by decide +kernel) (by decide) rfl (by omega) rfl rfl rfl rfl rfl ?_
  obtain ⟨eb, hb4⟩ := hI.br hd
  obtain ⟨en, hn10⟩ := hI.nd
  rw [eb]
  generalize hbb : brF (h 97) d = b at *
  refine p_run (pc' := 21) [.istore_n 3, .aload_n 0, .getfield 45, .iconst 0, .aload_n 0, .iload_n 1, .iconst 1] mkX8_plainDig (by decide +kernel) rfl rfl ?_
  refine p_callVv (of_ok w (k := k - 1) d 1 _ (by omega)) kvX8_83 (by decide +kernel) (by decide) rfl (by omega) rfl rfl rfl rfl rfl ?_
  refine p_iast (0) (by decide +kernel) rfl rfl (by simp only [oI]) (by omega)  ?_
  refine p_run (pc' := 33) [.aload_n 0, .getfield 45, .iconst 1, .aload_n 0, .iload_n 3, .iconst 1] mkX8_plainDig (by decide +kernel) rfl rfl ?_
  refine p_callVv (at_ok w (k := k - 1) b 1 _ (by omega)) kvX8_79 (by decide +kernel) (by decide) rfl (by omega) rfl rfl rfl rfl rfl ?_
  refine p_iast (1) (by decide +kernel) rfl rfl (by simp only [oI]) (by omega)  ?_
  simp only [upN (show (97 : Nat) ≠ 108 by decide)]
  refine p_run (pc' := 44) [.aload_n 0, .getfield 45, .iconst 2, .aload_n 0, .iload_n 3] mkX8_plainDig (by decide +kernel) rfl rfl ?_
  refine p_callVv (rahead_ok w (k := k - 1) (by omega) b hb4 _) kvX8_90 (by decide +kernel) (by decide) rfl (by omega) rfl rfl rfl rfl rfl ?_
  refine p_iast (2) (by decide +kernel) rfl rfl (by simp only [oI]) (by omega)  ?_
  simp only [upN (show (97 : Nat) ≠ 108 by decide)]
  refine p_run (pc' := 55) [.aload_n 0, .getfield 45, .iconst 3, .aload_n 0, .iload_n 3] mkX8_plainDig (by decide +kernel) rfl rfl ?_
  refine p_callVv (rlitIn_ok w (k := k - 1) (by omega) b (nd (h 97)) _ (by simp only [upN (show (97 : Nat) ≠ 108 by decide)]; exact en) hn10) kvX8_93 (by decide +kernel) (by decide) rfl (by omega) rfl rfl rfl rfl rfl ?_
  simp only [upN (show (97 : Nat) ≠ 108 by decide)]
  refine p_callSv (bits_ok w (k := k - 1) _ (setF_1024 _ hn10) _) ksX8_96 (by decide +kernel) (by omega) rfl rfl rfl rfl rfl ?_
  rw [pcF_set _ _ hn10]
  refine p_iast (3) (by decide +kernel) rfl rfl (by simp only [oI]) (by omega)  ?_
  generalize e4 : up (up (up (up h 108 0 (h 97 (20 + 5 * d + 1))) 108 1 (h 97 (8 + 3 * b + 1))) 108 2 (ahF (h 97) b)) 108 3 (nI (cntF (litB (h 97) b) (nd (h 97)))) = h4
  have e97 : h4 97 = h 97 := by rw [← e4]; simp only [upN (show (97 : Nat) ≠ 108 by decide)]
  have eA : ∀ a, a ≠ 108 → h4 a = h a := fun a ha => by rw [← e4]; simp only [upN ha]
  have e108 : ∀ i, i < 4 → h4 108 i = fc4 (h 97 (20 + 5 * d + 1)) (h 97 (8 + 3 * b + 1)) (ahF (h 97) b) (nI (cntF (litB (h 97) b) (nd (h 97)))) i := fun i hi => by
    rw [← e4]
    rcases (show i = 0 ∨ i = 1 ∨ i = 2 ∨ i = 3 by omega) with rfl | rfl | rfl | rfl <;> simp [up, fc4]
  cases hl : lawT (h 97) 0 with
  | none =>
    rw [show oT none = Int32.ofInt (-1) from rfl]
    refine p_run (pc' := 63) [.iload_n 2] mkX8_plainDig (by decide +kernel) rfl rfl ?_
    refine p_if_ge (off := 19) 82 (by decide +kernel) (by decide) (fun c1 => ?_) (fun c1 => ?_)
    · exact absurd c1 (by decide)
    · refine p_run (pc' := 69) [.aload_n 0, .iload_n 1, .iconst 1] mkX8_plainDig (by decide +kernel) rfl rfl ?_
      refine p_callVv (of_ok w (k := k - 1) d 1 _ (by omega)) kvX8_83 (by decide +kernel) (by decide) rfl (by omega) rfl rfl rfl rfl rfl ?_
      refine p_run (pc' := 75) [.aload_n 0, .iload_n 3, .iconst 1] mkX8_plainDig (by decide +kernel) rfl rfl ?_
      refine p_callVv (at_ok w (k := k - 1) b 1 _ (by omega)) kvX8_79 (by decide +kernel) (by decide) rfl (by omega) rfl rfl rfl rfl rfl ?_
      refine p_run (pc' := 90) [.isub, .goto 8, .iconst 0, .bipush 99] mkX8_plainDig (by decide +kernel) rfl rfl ?_
      refine p_callSv (rwithin_ok w (k := k - 1) _ _ _ _) ksX8_102 (by decide +kernel) (by omega) rfl rfl rfl rfl rfl ?_
      refine p_iret rfl rfl (by decide +kernel) ?_
      exact ⟨by rw [plF, hl, hbb, e97]; simp only [oI]; rfl, fun a ha => eA a (fun e => ha (by rw [e]; decide))⟩
  | some t =>
    rw [show oT (some t) = nI t from rfl]
    obtain ⟨ht, hX, hx0⟩ := lastT_spec hl hI
    refine p_run (pc' := 63) [.iload_n 2] mkX8_plainDig (by decide +kernel) rfl rfl ?_
    refine p_if_ge (off := 19) 82 (by decide +kernel) (by decide) (fun c1 => ?_) (fun c1 => ?_)
    · refine p_run (pc' := 84) [.aload_n 0, .iload_n 2] mkX8_plainDig (by decide +kernel) rfl rfl ?_
      refine p_callV (worksOut_ok w (k := k - 1) (by omega) t ht _ (by rw [e97]; exact hX)) kvX8_99 (by decide +kernel) (by decide) rfl (by omega) rfl rfl rfl rfl rfl (fun r h' hq => ?_)
      obtain ⟨rfl, hA⟩ := hq
      refine p_run (pc' := 90) [.iconst 0, .bipush 99] mkX8_plainDig (by decide +kernel) rfl rfl ?_
      refine p_callSv (rwithin_ok w (k := k - 1) _ _ _ _) ksX8_102 (by decide +kernel) (by omega) rfl rfl rfl rfl rfl ?_
      refine p_iret rfl rfl (by decide +kernel) ?_
      refine ⟨?_, fun a ha => (hA a (fun e => ha (by rw [e]; decide))).trans (eA a (fun e => ha (by rw [e]; decide)))⟩
      rw [plF, hl, hbb]
      simp only [oI]
      rw [e97, evF_congr hX (fun i hi => e108 i (by rw [hx0] at hi; exact hi))]
      rfl
    · exact absurd (by rw [← nI_0]; exact nI_le (Nat.zero_le _) (by omega)) c1
end
section
/-! a night, as a function of rows -/
noncomputable def dsF (N : Vc) (d : Nat) : Vc :=
  upd (upd (upd N (20 + 5 * d + 4) (clF (dK N d 4 + clF (N (8 + 3 * brF N d) + dgF N d) (nI 0) (nI 999) - N (8 + 3 * brF N d)) (nI 0) (nI 9999))) (20 + 5 * d + 2) (clF (dK N d 2 - buF N d) (nI 0) (nI 99))) (8 + 3 * brF N d) (clF (N (8 + 3 * brF N d) + dgF N d) (nI 0) (nI 999))
noncomputable def daF (N : Vc) : Nat → Vc
  | 0 => N
  | i + 1 => if 0 < dK (daF N i) i 2 then dsF (daF N i) i else daF N i
def flF (N : Vc) (b : Nat) : Nat → Vc
  | 0 => N
  | i + 1 => if inB N b i then upd (flF N b i) (20 + 5 * i + 3) (nI ((b + 1) % 4)) else flF N b i
def wgF (N : Vc) (b : Nat) : Vc := upd N (8 + 3 * b + 2) (clF (bK N b 2 + N 3) (nI 0) (bK N b 0))
def waF (N : Vc) (b : Nat) : Vc := if 0 < ahF (wgF N b) b ∨ setF (inB (wgF N b) b) (nd (wgF N b)) = 0 then wgF N b else flF (upd (wgF N b) 5 (wgF N b 5 + nI 1)) b (nd (wgF N b))
def dvN (z : Int32) : Nat := z.toUInt32.toNat / 256
def zF (z : Int32) : Int32 := z * Int32.ofInt 1103515245 + Int32.ofInt 12345
def drF (N : Vc) : Vc := upd N 0 (zF (N 0))
def faF (N : Vc) : Vc :=
  if nI (dvN (zF (N 0)) % 100) < N 4 then upd (upd (drF (drF (drF N))) (8 + 3 * (dvN (zF (zF (N 0))) % 4) + 1) (nI (dvN (zF (zF (zF (N 0)))) % 100))) 6 (N 6 + nI 1) else drF N
noncomputable def niF (N : Vc) : Vc := upd (faF (waF (waF (waF (waF (daF N (nd N)) 0) 1) 2) 3)) 2 (faF (waF (waF (waF (waF (daF N (nd N)) 0) 1) 2) 3) 2 + nI 1)
noncomputable def nsF (N : Vc) : Nat → Vc
  | 0 => N
  | n + 1 => niF (nsF N n)
theorem dvN_lt (z : Int32) : dvN z < 2 ^ 24 := by
  have := z.toUInt32.toNat_lt
  unfold dvN
  omega
theorem ushr8 (z : Int32) : (z.toUInt32 >>> (Int32.toUInt32 (Int32.ofInt 8) &&& Int32.toUInt32 31)).toInt32 = nI (dvN z) := by
  have e : Int32.toUInt32 (Int32.ofInt 8) &&& Int32.toUInt32 31 = 8 := by decide
  rw [e]
  have h1 : (z.toUInt32 >>> 8).toNat = dvN z := by
    rw [UInt32.toNat_shiftRight]
    simp [Nat.shiftRight_eq_div_pow, dvN]
  have h2 : z.toUInt32 >>> 8 = UInt32.ofNat (dvN z) := by
    rw [← h1, UInt32.ofNat_toNat]
  rw [h2]
  rfl
theorem upd_s {f : Vc} {k : Nat} {x : Int32} : upd f k x k = x := if_pos rfl
theorem upd_n {f : Vc} {k j : Nat} {x : Int32} (h : j ≠ k) : upd f k x j = f j := if_neg h
theorem upd_self {f : Vc} {k : Nat} : upd f k (f k) = f := by
  funext j
  by_cases h : j = k
  · rw [h, upd_s]
  · rw [upd_n h]
/-- what a clamp gives -/
theorem clF_in {v : Int32} {n : Nat} (hn : n < 2 ^ 31) : In (clF v (nI 0) (nI n)) n := by
  unfold clF
  split
  · exact In_nI (Nat.zero_le _) hn
  · split
    · exact In_nI (Nat.le_refl _) hn
    · exact In_of hn (Int32.not_lt.mp (by assumption)) (Int32.not_lt.mp (by assumption))
/-- which places of a row a night changes -/
theorem dsF_out {N : Vc} {d j : Nat} (h1 : j ≠ 20 + 5 * d + 4) (h2 : j ≠ 20 + 5 * d + 2) (h3 : j ≠ 8 + 3 * brF N d) : dsF N d j = N j := by
  unfold dsF
  rw [upd_n h3, upd_n h2, upd_n h1]
/-- a row is good where its texts, its numbers and its diggers are -/
theorem Iv.of {N N' : Vc} (h : Iv N) (h1 : N' 1 = N 1) (h3 : N' 3 = N 3) (h4 : N' 4 = N 4) (h7 : N' 7 = N 7) (hx : ∀ j, 70 ≤ j → N' j = N j)
    (hb : ∀ b, b < 4 → In (bK N' b 0) 999 ∧ In (bK N' b 1) 99 ∧ In (bK N' b 2) (nN (bK N' b 0))) (hd : ∀ d, d < 10 → In (dK N' d 0) 5 ∧ In (dK N' d 1) 99 ∧ In (dK N' d 2) 99 ∧ In (dK N' d 3) 3 ∧ In (dK N' d 4) 9999) : Iv N' := by
  obtain ⟨a1, a2, a3, a4, -, -, a7⟩ := h
  refine ⟨by rw [h1]; exact a1, by rw [h3]; exact a2, by rw [h4]; exact a3, by rw [h7]; exact a4, hb, hd, fun t ht => ?_⟩
  rw [h7] at ht
  obtain ⟨t1, t2⟩ := a7 t ht
  have e1 : N' (70 + 2 * t) = N (70 + 2 * t) := hx _ (by omega)
  have e2 : (fun i => N' (98 + 96 * t + i)) = fun i => N (98 + 96 * t + i) := by funext i; exact hx _ (by omega)
  unfold TX
  rw [e1, e2]
  exact ⟨t1, t2⟩
end
section
/-! a night keeps a row good -/
theorem clF_nI {a n : Nat} (ha : a < 2 ^ 31) (hn : n < 2 ^ 31) : clF (nI a) (nI 0) (nI n) = nI (min a n) := by
  unfold clF
  rw [if_neg (nI_nlt (Nat.zero_le _) ha)]
  split
  · rename_i h
    rw [Nat.min_eq_right (Nat.le_of_lt ((nI_ltI hn ha).mp h))]
  · rename_i h
    rw [Nat.min_eq_left (Nat.not_lt.mp fun q => h (nI_lt q ha))]
theorem plF_in (N : Vc) (d : Nat) : In (plF N d) 99 := clF_in (by omega)
theorem dgF_in {N : Vc} (hI : Iv N) (d : Nat) : In (dgF N d) 100 := by
  have hp := plF_in N d
  have h1 := hp.2
  have hc := cntF_le (feB N d) (nd N)
  have hn := hI.nd.2
  unfold dgF
  rw [hp.1]
  generalize nN (plF N d) = p at *
  split
  · rw [nI_add]; exact In_nI (by omega) (by omega)
  · rw [pk_div (by omega) (by omega) (by omega)]; exact In_nI (by omega) (by omega)
  · split
    · rw [nI_add, pk_div (by omega) (by omega) (by omega)]; exact In_nI (by omega) (by omega)
    · rw [nI_add]; exact In_nI (by omega) (by omega)
  · rw [pk_div (by omega) (by omega) (by omega), nIm, nI_add]; exact In_nI (by omega) (by omega)
  · exact In_nI (by omega) (by omega)
  · exact In_nI h1 (by omega) |>.elim (fun a b => ⟨a, by omega⟩)
theorem buF_in (N : Vc) (d : Nat) : In (buF N d) 3 := by
  unfold buF
  split
  · exact In_nI (by omega) (by omega)
  · exact In_nI (by omega) (by omega)
  · split <;> exact In_nI (by omega) (by omega)
  · exact In_nI (by omega) (by omega)
  · exact In_nI (by omega) (by omega)
  · exact In_nI (by omega) (by omega)
theorem dsF_dug {N : Vc} (hI : Iv N) {d : Nat} (hd : d < 10) : clF (N (8 + 3 * brF N d) + dgF N d) (nI 0) (nI 999) = nI (min (nN (bK N (brF N d) 0) + nN (dgF N d)) 999) := by
  have hb := (hI.br hd).2
  have h1 := (hI.2.2.2.2.1 _ hb).1
  have h2 := dgF_in hI d
  have e1 : N (8 + 3 * brF N d) = nI (nN (bK N (brF N d) 0)) := h1.1
  have b1 := h1.2
  have b2 := h2.2
  rw [e1, h2.1, nI_add, nN_nI (by omega), clF_nI (by omega) (by omega)]
theorem dsF_Iv {N : Vc} (hI : Iv N) {d : Nat} (hd : d < 10) : Iv (dsF N d) := by
  have hb4 := (hI.br hd).2
  refine hI.of (dsF_out (by omega) (by omega) (by omega)) (dsF_out (by omega) (by omega) (by omega)) (dsF_out (by omega) (by omega) (by omega)) (dsF_out (by omega) (by omega) (by omega)) (fun j hj => dsF_out (by omega) (by omega) (by omega)) (fun b hb => ?_) (fun e he => ?_)
  · obtain ⟨a1, a2, a3⟩ := hI.2.2.2.2.1 b hb
    have e1 : bK (dsF N d) b 1 = bK N b 1 := dsF_out (by omega) (by omega) (by omega)
    have e2 : bK (dsF N d) b 2 = bK N b 2 := dsF_out (by omega) (by omega) (by omega)
    rw [e1, e2]
    by_cases hbb : b = brF N d
    · have e0 : bK (dsF N d) b 0 = nI (min (nN (bK N (brF N d) 0) + nN (dgF N d)) 999) := by
        show dsF N d (8 + 3 * b + 0) = _
        rw [← dsF_dug hI hd, hbb]
        exact upd_s
      have h1 := a1.2
      rw [← hbb] at e0
      rw [e0, nN_nI (by omega)]
      exact ⟨In_nI (by omega) (by omega), a2, In_mono a3 (by omega)⟩
    · have e0 : bK (dsF N d) b 0 = bK N b 0 := dsF_out (by omega) (by omega) (by omega)
      rw [e0]
      exact ⟨a1, a2, a3⟩
  · obtain ⟨a0, a1, a2, a3, a4⟩ := hI.2.2.2.2.2.1 e he
    have e0 : dK (dsF N d) e 0 = dK N e 0 := dsF_out (by omega) (by omega) (by omega)
    have e1 : dK (dsF N d) e 1 = dK N e 1 := dsF_out (by omega) (by omega) (by omega)
    have e3 : dK (dsF N d) e 3 = dK N e 3 := dsF_out (by omega) (by omega) (by omega)
    rw [e0, e1, e3]
    refine ⟨a0, a1, ?_, a3, ?_⟩
    · by_cases hed : e = d
      · subst hed
        have : dK (dsF N e) e 2 = clF (dK N e 2 - buF N e) (nI 0) (nI 99) := by
          show dsF N e (20 + 5 * e + 2) = _
          unfold dsF
          rw [upd_n (by omega), upd_s]
        rw [this]
        exact clF_in (by omega)
      · rw [show dK (dsF N d) e 2 = dK N e 2 from dsF_out (by omega) (by omega) (by omega)]
        exact a2
    · by_cases hed : e = d
      · subst hed
        show In (dsF N e (20 + 5 * e + 4)) 9999
        unfold dsF
        rw [upd_n (by omega), upd_n (by omega), upd_s]
        exact clF_in (by omega)
      · rw [show dK (dsF N d) e 4 = dK N e 4 from dsF_out (by omega) (by omega) (by omega)]
        exact a4
theorem daF_Iv {N : Vc} (hI : Iv N) : ∀ i, i ≤ 10 → Iv (daF N i)
  | 0, _ => hI
  | i + 1, h => by
    have ih := daF_Iv hI i (by omega)
    rw [daF]
    split
    · exact dsF_Iv ih (by omega)
    · exact ih
theorem daF_out {N : Vc} (hI : Iv N) {j : Nat} (hj : j < 8 ∨ 70 ≤ j) : ∀ i, i ≤ 10 → daF N i j = N j
  | 0, _ => rfl
  | i + 1, h => by
    have ih := daF_out hI hj i (by omega)
    have hb := ((daF_Iv hI i (by omega)).br (d := i) (by omega)).2
    rw [daF]
    split
    · rw [dsF_out (by omega) (by omega) (by omega), ih]
    · exact ih
theorem flF_out {N : Vc} {b j : Nat} : ∀ (i : Nat), (∀ d, d < i → j ≠ 20 + 5 * d + 3) → flF N b i j = N j
  | 0, _ => rfl
  | i + 1, h => by
    rw [flF]
    split
    · rw [upd_n (h i (by omega))]
      exact flF_out i (fun d hd => h d (by omega))
    · exact flF_out i (fun d hd => h d (by omega))
theorem flF_br {N : Vc} {b d : Nat} : ∀ (i : Nat), dK (flF N b i) d 3 = if d < i ∧ inB N b d = true then nI ((b + 1) % 4) else dK N d 3
  | 0 => by simp [flF]
  | i + 1 => by
    have ih := flF_br (N := N) (b := b) (d := d) i
    rw [flF]
    by_cases hdi : d = i
    · subst hdi
      by_cases hp : inB N b d = true
      · rw [if_pos hp, if_pos ⟨by omega, hp⟩]
        exact upd_s
      · rw [if_neg hp, ih, if_neg (by omega), if_neg (fun q => hp q.2)]
    · have e1 : (d < i + 1 ∧ inB N b d = true) ↔ (d < i ∧ inB N b d = true) := by
        constructor
        · rintro ⟨h1, h2⟩; exact ⟨by omega, h2⟩
        · rintro ⟨h1, h2⟩; exact ⟨by omega, h2⟩
      simp only [e1]
      rw [← ih]
      by_cases hp : inB N b i = true
      · rw [if_pos hp]
        show upd _ _ _ (20 + 5 * d + 3) = _
        rw [upd_n (by omega)]
        rfl
      · rw [if_neg hp]
theorem wgF_out {N : Vc} {b j : Nat} (h : j ≠ 8 + 3 * b + 2) : wgF N b j = N j := upd_n h
theorem wgF_Iv {N : Vc} (hI : Iv N) {b : Nat} (hb : b < 4) : Iv (wgF N b) := by
  refine hI.of (wgF_out (by omega)) (wgF_out (by omega)) (wgF_out (by omega)) (wgF_out (by omega)) (fun j hj => wgF_out (by omega)) (fun c hc => ?_) (fun d hd => ?_)
  · obtain ⟨a0, a1, a2⟩ := hI.2.2.2.2.1 c hc
    have e0 : bK (wgF N b) c 0 = bK N c 0 := wgF_out (by omega)
    have e1 : bK (wgF N b) c 1 = bK N c 1 := wgF_out (by omega)
    rw [e0, e1]
    refine ⟨a0, a1, ?_⟩
    by_cases hbc : c = b
    · subst hbc
      have : bK (wgF N c) c 2 = clF (bK N c 2 + N 3) (nI 0) (bK N c 0) := upd_s
      have := a0.2
      rw [‹bK (wgF N c) c 2 = _›, a0.1, nN_nI (by omega)]
      exact clF_in (by omega)
    · rw [show bK (wgF N b) c 2 = bK N c 2 from wgF_out (by omega)]
      exact a2
  · have e : ∀ j, j < 5 → dK (wgF N b) d j = dK N d j := fun j hj => wgF_out (by omega)
    rw [e 0 (by omega), e 1 (by omega), e 2 (by omega), e 3 (by omega), e 4 (by omega)]
    exact hI.2.2.2.2.2.1 d hd
theorem up5_Iv {N : Vc} (hI : Iv N) {j : Nat} {x : Int32} (hj : j = 5 ∨ j = 0 ∨ j = 6 ∨ j = 2) : Iv (upd N j x) := by
  refine hI.of (upd_n (by omega)) (upd_n (by omega)) (upd_n (by omega)) (upd_n (by omega)) (fun i hi => upd_n (by omega)) (fun b hb => ?_) (fun d hd => ?_)
  · have e : ∀ i, i < 3 → bK (upd N j x) b i = bK N b i := fun i hi => upd_n (by omega)
    rw [e 0 (by omega), e 1 (by omega), e 2 (by omega)]
    exact hI.2.2.2.2.1 b hb
  · have e : ∀ i, i < 5 → dK (upd N j x) d i = dK N d i := fun i hi => upd_n (by omega)
    rw [e 0 (by omega), e 1 (by omega), e 2 (by omega), e 3 (by omega), e 4 (by omega)]
    exact hI.2.2.2.2.2.1 d hd
theorem flF_Iv {N : Vc} (hI : Iv N) (b : Nat) {n : Nat} (hn : n ≤ 10) : Iv (flF N b n) := by
  have o : ∀ j, (∀ d, d < 10 → j ≠ 20 + 5 * d + 3) → flF N b n j = N j := fun j h => flF_out n (fun d hd => h d (by omega))
  refine hI.of (o _ (by omega)) (o _ (by omega)) (o _ (by omega)) (o _ (by omega)) (fun j hj => ?_) (fun c hc => ?_) (fun d hd => ?_)
  · exact o _ (by omega)
  · rw [show bK (flF N b n) c 0 = bK N c 0 from o _ (by omega), show bK (flF N b n) c 1 = bK N c 1 from o _ (by omega), show bK (flF N b n) c 2 = bK N c 2 from o _ (by omega)]
    exact hI.2.2.2.2.1 c hc
  · obtain ⟨a0, a1, a2, a3, a4⟩ := hI.2.2.2.2.2.1 d hd
    rw [show dK (flF N b n) d 0 = dK N d 0 from o _ (by omega), show dK (flF N b n) d 1 = dK N d 1 from o _ (by omega), show dK (flF N b n) d 2 = dK N d 2 from o _ (by omega), show dK (flF N b n) d 4 = dK N d 4 from o _ (by omega)]
    refine ⟨a0, a1, a2, ?_, a4⟩
    rw [flF_br]
    split
    · exact In_nI (by omega) (by omega)
    · exact a3
theorem waF_Iv {N : Vc} (hI : Iv N) {b : Nat} (hb : b < 4) : Iv (waF N b) := by
  have h1 := wgF_Iv hI hb
  unfold waF
  split
  · exact h1
  · exact flF_Iv (up5_Iv h1 (Or.inl rfl)) b h1.nd.2
theorem waF_out {N : Vc} (hI : Iv N) {b j : Nat} (hb : b < 4) (hj : j < 5 ∨ j = 6 ∨ j = 7 ∨ 70 ≤ j) : waF N b j = N j := by
  have h1 := (wgF_Iv hI hb).nd.2
  unfold waF
  split
  · exact wgF_out (by omega)
  · rw [flF_out _ (fun d hd => by omega), upd_n (by omega)]
    exact wgF_out (by omega)
theorem drF_Iv {N : Vc} (hI : Iv N) : Iv (drF N) := up5_Iv hI (Or.inr (Or.inl rfl))
theorem faF_Iv {N : Vc} (hI : Iv N) : Iv (faF N) := by
  unfold faF
  split
  · refine up5_Iv ?_ (Or.inr (Or.inr (Or.inl rfl)))
    have h1 := drF_Iv (drF_Iv (drF_Iv hI))
    generalize drF (drF (drF N)) = M at h1
    have hm : dvN (zF (zF (N 0))) % 4 < 4 := Nat.mod_lt _ (by omega)
    generalize dvN (zF (zF (N 0))) % 4 = c at hm
    refine h1.of (upd_n (by omega)) (upd_n (by omega)) (upd_n (by omega)) (upd_n (by omega)) (fun i hi => upd_n (by omega)) (fun b hb => ?_) (fun d hd => ?_)
    · obtain ⟨a0, a1, a2⟩ := h1.2.2.2.2.1 b hb
      generalize hx : dvN (zF (zF (zF (N 0)))) % 100 = x
      have hx : x < 100 := by omega
      rw [show bK (upd M (8 + 3 * c + 1) (nI x)) b 0 = bK M b 0 from upd_n (by omega), show bK (upd M (8 + 3 * c + 1) (nI x)) b 2 = bK M b 2 from upd_n (by omega)]
      refine ⟨a0, ?_, a2⟩
      by_cases hbc : b = c
      · subst hbc
        rw [show bK (upd M (8 + 3 * b + 1) (nI x)) b 1 = nI x from upd_s]
        exact In_nI (by omega) (by omega)
      · rw [show bK (upd M (8 + 3 * c + 1) (nI x)) b 1 = bK M b 1 from upd_n (by omega)]
        exact a1
    · generalize nI (dvN (zF (zF (zF (N 0)))) % 100) = y
      have e : ∀ i, i < 5 → dK (upd M (8 + 3 * c + 1) y) d i = dK M d i := fun i hi => upd_n (by omega)
      rw [e 0 (by omega), e 1 (by omega), e 2 (by omega), e 3 (by omega), e 4 (by omega)]
      exact h1.2.2.2.2.2.1 d hd
  · exact drF_Iv hI
theorem faF_out {N : Vc} {j : Nat} (hj : j = 1 ∨ j = 2 ∨ j = 3 ∨ j = 4 ∨ j = 5 ∨ j = 7 ∨ 20 ≤ j) : faF N j = N j := by
  unfold faF drF
  have hm : dvN (zF (zF (N 0))) % 4 < 4 := Nat.mod_lt _ (by omega)
  split
  · rw [upd_n (by omega), upd_n (by omega), upd_n (by omega), upd_n (by omega), upd_n (by omega)]
  · exact upd_n (by omega)
theorem niF_Iv {N : Vc} (hI : Iv N) : Iv (niF N) :=
  up5_Iv (faF_Iv (waF_Iv (waF_Iv (waF_Iv (waF_Iv (daF_Iv hI _ hI.nd.2) (by omega)) (by omega)) (by omega)) (by omega))) (Or.inr (Or.inr (Or.inr rfl)))
theorem niF_out {N : Vc} (hI : Iv N) {j : Nat} (hj : j = 1 ∨ j = 3 ∨ j = 4 ∨ j = 7 ∨ 70 ≤ j) : niF N j = N j := by
  have i0 := daF_Iv hI _ hI.nd.2
  have i1 := waF_Iv i0 (b := 0) (by omega)
  have i2 := waF_Iv i1 (b := 1) (by omega)
  have i3 := waF_Iv i2 (b := 2) (by omega)
  unfold niF
  rw [upd_n (by omega), faF_out (by omega), waF_out i3 (by omega) (by omega), waF_out i2 (by omega) (by omega), waF_out i1 (by omega) (by omega), waF_out i0 (by omega) (by omega), daF_out hI (by omega) _ hI.nd.2]
theorem niF_night {N : Vc} (hI : Iv N) : niF N 2 = N 2 + nI 1 := by
  have i0 := daF_Iv hI _ hI.nd.2
  have i1 := waF_Iv i0 (b := 0) (by omega)
  have i2 := waF_Iv i1 (b := 1) (by omega)
  have i3 := waF_Iv i2 (b := 2) (by omega)
  unfold niF
  rw [upd_s, faF_out (by omega), waF_out i3 (by omega) (by omega), waF_out i2 (by omega) (by omega), waF_out i1 (by omega) (by omega), waF_out i0 (by omega) (by omega), daF_out hI (by omega) _ hI.nd.2]
theorem nsF_Iv {N : Vc} (hI : Iv N) : ∀ n, Iv (nsF N n)
  | 0 => hI
  | n + 1 => niF_Iv (nsF_Iv hI n)
theorem nsF_out {N : Vc} (hI : Iv N) {j : Nat} (hj : j = 1 ∨ j = 3 ∨ j = 4 ∨ j = 7 ∨ 70 ≤ j) : ∀ n, nsF N n j = N j
  | 0 => rfl
  | n + 1 => by rw [nsF, niF_out (nsF_Iv hI n) hj, nsF_out hI hj n]
end
section
/-! the reference: a night -/
theorem iteN {p : Prop} [Decidable p] : nI (if p then 1 else 0) = nI 1 ↔ p := by
  by_cases h : p
  · simp [h]
  · rw [if_neg h]; constructor
    · intro e; exact absurd e (by decide)
    · intro q; exact absurd q h
set_option maxRecDepth 20000 in
set_option maxHeartbeats 4000000 in
theorem fellows_loop (w : Wt) {k : Nat} (hk : 1 ≤ k) (d : Nat) (hd : d < 10) (h : Mm) (hI : Iv (h 97)) : ∀ (m i : Nat), i + m = nd (h 97) → ∀ x5 : Option Value, Wp w k MX8_fellows (Rv (nI (cntF (feB (h 97) d) (nd (h 97)))) h) 22 [some (.ref 96), some (.int (nI d)), some (.int (nI (setF (fun i => litB (h 97) (brF (h 97) d) i && decide (i ≠ d)) (nd (h 97))))), some (.int (nI (cntF (feB (h 97) d) i))), some (.int (nI i)), x5] [] h := by
  obtain ⟨en, hn10⟩ := hI.nd
  intro m
  induction m with
  | zero =>
    intro i hi x5
    have hi : i = nd (h 97) := by omega
    refine p_run (pc' := 29) [.iload 4, .aload_n 0, .getfield 9, .iconst 1] mkX8_fellows (by decide +kernel) rfl rfl ?_
    refine p_iald (1) (by decide +kernel) rfl rfl (by simp only [oI]) (by omega) ?_
    rw [en, hi]
    refine p_icmp_ge (off := 61) 91 (by decide +kernel) (by decide) (fun c1 => ?_) (fun c1 => ?_)
    · refine p_run (pc' := 92) [.iload_n 3] mkX8_fellows (by decide +kernel) rfl rfl ?_
      refine p_iret rfl rfl (by decide +kernel) ?_
      exact ⟨rfl, rfl⟩
    · exact absurd (nI_le (Nat.le_refl _) (by omega)) c1
  | succ m ih =>
    intro i hi x5
    refine p_run (pc' := 29) [.iload 4, .aload_n 0, .getfield 9, .iconst 1] mkX8_fellows (by decide +kernel) rfl rfl ?_
    refine p_iald (1) (by decide +kernel) rfl rfl (by simp only [oI]) (by omega) ?_
    rw [en]
    refine p_icmp_ge (off := 61) 91 (by decide +kernel) (by decide) (fun c1 => ?_) (fun c1 => ?_)
    · exact absurd c1 (nI_ge (by omega) (by omega))
    · refine p_run (pc' := 37) [.aload_n 0, .iload 4, .iconst 0] mkX8_fellows (by decide +kernel) rfl rfl ?_
      refine p_callVv (of_ok w (k := k - 1) (i) (0) _ (by omega)) kvX8_83 (by decide +kernel) (by decide) rfl (by omega) rfl rfl rfl rfl rfl ?_
      refine p_run (pc' := 41) [.iconst 2] mkX8_fellows (by decide +kernel) rfl rfl ?_
      refine p_icmp_eq (off := 14) 55 (by decide +kernel) (by decide) (fun c41 => ?_) (fun c41 => ?_)
      · refine p_run (pc' := 65) [.iconst 1, .goto 4, .istore 5, .iload_n 3, .iload 5] mkX8_fellows (by decide +kernel) rfl rfl ?_
        refine p_if_eq (off := 17) 82 (by decide +kernel) (by decide) (fun c65 => ?_) (fun c65 => ?_)
        · exact absurd c65 (by decide)
        · refine p_run (pc' := 75) [.iload_n 2, .iload 4, .ishr, .iconst 1, .iand, .iconst 1] mkX8_fellows (by decide +kernel) rfl rfl ?_
          simp only [oI]
          rw [shr_bit i (by omega) _ (setF_1024 _ hn10), setF_div]
          refine p_icmp_ne (off := 7) 82 (by decide +kernel) (by decide) (fun c75 => ?_) (fun c75 => ?_)
          · refine p_run (pc' := 22) [.iconst 0, .iadd, .istore_n 3, .iinc 4 1, .goto (-66)] mkX8_fellows (by decide +kernel) rfl rfl ?_
            refine Wp.eqL ?_ (ih (i + 1) (by omega) (some (.int (nI 1))))
            rw [cntF]
            simp only [oI, nI_add]
            have hfe : feB (h 97) d i = (decide (dK (h 97) i 0 = nI 2 ∨ dK (h 97) i 0 = nI 4) && (litB (h 97) (brF (h 97) d) i && decide (i ≠ d))) := by unfold feB; cases litB (h 97) (brF (h 97) d) i <;> simp
            rw [hfe]
            simp only [oI, iteN] at *
            have hin : i < nd (h 97) := by omega
            clear ih
            by_cases hL : litB (h 97) (brF (h 97) d) i = true <;> by_cases hdd : i = d <;> simp_all [dK]
          · refine p_run (pc' := 22) [.iconst 1, .goto 4, .iadd, .istore_n 3, .iinc 4 1, .goto (-66)] mkX8_fellows (by decide +kernel) rfl rfl ?_
            refine Wp.eqL ?_ (ih (i + 1) (by omega) (some (.int (nI 1))))
            rw [cntF]
            simp only [oI, nI_add]
            have hfe : feB (h 97) d i = (decide (dK (h 97) i 0 = nI 2 ∨ dK (h 97) i 0 = nI 4) && (litB (h 97) (brF (h 97) d) i && decide (i ≠ d))) := by unfold feB; cases litB (h 97) (brF (h 97) d) i <;> simp
            rw [hfe]
            simp only [oI, iteN] at *
            have hin : i < nd (h 97) := by omega
            clear ih
            by_cases hL : litB (h 97) (brF (h 97) d) i = true <;> by_cases hdd : i = d <;> simp_all [dK]
      · refine p_run (pc' := 48) [.aload_n 0, .iload 4, .iconst 0] mkX8_fellows (by decide +kernel) rfl rfl ?_
        refine p_callVv (of_ok w (k := k - 1) (i) (0) _ (by omega)) kvX8_83 (by decide +kernel) (by decide) rfl (by omega) rfl rfl rfl rfl rfl ?_
        refine p_run (pc' := 52) [.iconst 4] mkX8_fellows (by decide +kernel) rfl rfl ?_
        refine p_icmp_ne (off := 7) 59 (by decide +kernel) (by decide) (fun c52 => ?_) (fun c52 => ?_)
        · refine p_run (pc' := 65) [.iconst 0, .istore 5, .iload_n 3, .iload 5] mkX8_fellows (by decide +kernel) rfl rfl ?_
          refine p_if_eq (off := 17) 82 (by decide +kernel) (by decide) (fun c65 => ?_) (fun c65 => ?_)
          · refine p_run (pc' := 22) [.iconst 0, .iadd, .istore_n 3, .iinc 4 1, .goto (-66)] mkX8_fellows (by decide +kernel) rfl rfl ?_
            refine Wp.eqL ?_ (ih (i + 1) (by omega) (some (.int (nI 0))))
            rw [cntF]
            have hfe : feB (h 97) d i = false := by unfold feB; simp only [oI] at *; simp_all [dK]
            rw [hfe]
            simp only [oI, nI_add, Bool.false_eq_true, if_false]
          · exact absurd (by decide) c65
        · refine p_run (pc' := 65) [.iconst 1, .goto 4, .istore 5, .iload_n 3, .iload 5] mkX8_fellows (by decide +kernel) rfl rfl ?_
          refine p_if_eq (off := 17) 82 (by decide +kernel) (by decide) (fun c65 => ?_) (fun c65 => ?_)
          · exact absurd c65 (by decide)
          · refine p_run (pc' := 75) [.iload_n 2, .iload 4, .ishr, .iconst 1, .iand, .iconst 1] mkX8_fellows (by decide +kernel) rfl rfl ?_
            simp only [oI]
            rw [shr_bit i (by omega) _ (setF_1024 _ hn10), setF_div]
            refine p_icmp_ne (off := 7) 82 (by decide +kernel) (by decide) (fun c75 => ?_) (fun c75 => ?_)
            · refine p_run (pc' := 22) [.iconst 0, .iadd, .istore_n 3, .iinc 4 1, .goto (-66)] mkX8_fellows (by decide +kernel) rfl rfl ?_
              refine Wp.eqL ?_ (ih (i + 1) (by omega) (some (.int (nI 1))))
              rw [cntF]
              simp only [oI, nI_add]
              have hfe : feB (h 97) d i = (decide (dK (h 97) i 0 = nI 2 ∨ dK (h 97) i 0 = nI 4) && (litB (h 97) (brF (h 97) d) i && decide (i ≠ d))) := by unfold feB; cases litB (h 97) (brF (h 97) d) i <;> simp
              rw [hfe]
              simp only [oI, iteN] at *
              have hin : i < nd (h 97) := by omega
              clear ih
              by_cases hL : litB (h 97) (brF (h 97) d) i = true <;> by_cases hdd : i = d <;> simp_all [dK]
            · refine p_run (pc' := 22) [.iconst 1, .goto 4, .iadd, .istore_n 3, .iinc 4 1, .goto (-66)] mkX8_fellows (by decide +kernel) rfl rfl ?_
              refine Wp.eqL ?_ (ih (i + 1) (by omega) (some (.int (nI 1))))
              rw [cntF]
              simp only [oI, nI_add]
              have hfe : feB (h 97) d i = (decide (dK (h 97) i 0 = nI 2 ∨ dK (h 97) i 0 = nI 4) && (litB (h 97) (brF (h 97) d) i && decide (i ≠ d))) := by unfold feB; cases litB (h 97) (brF (h 97) d) i <;> simp
              rw [hfe]
              simp only [oI, iteN] at *
              have hin : i < nd (h 97) := by omega
              clear ih
              by_cases hL : litB (h 97) (brF (h 97) d) i = true <;> by_cases hdd : i = d <;> simp_all [dK]
set_option maxRecDepth 20000 in
set_option maxHeartbeats 4000000 in
theorem fellows_ok (w : Wt) {k : Nat} (hk : 2 ≤ k) (d : Nat) (hd : d < 10) (h : Mm) (hI : Iv (h 97)) : Ok w k MX8_fellows [.ref 96, .int (nI d)] h (Rv (nI (cntF (feB (h 97) d) (nd (h 97)))) h) := by
  show Wp w k MX8_fellows _ 0 [some (.ref 96), some (.int (nI d)), none, none, none, none] [] h
  obtain ⟨eb, hb4⟩ := hI.br hd
  obtain ⟨en, hn10⟩ := hI.nd
  refine p_run (pc' := 4) [.aload_n 0, .aload_n 0, .iload_n 1, .iconst 3] mkX8_fellows (by decide +kernel) rfl rfl ?_
  refine p_callVv (of_ok w (k := k - 1) d 3 h (by omega)) kvX8_83 (by decide +kernel) (by decide) rfl (by omega) rfl rfl rfl rfl rfl ?_
  rw [eb]
  refine p_callVv (rlitIn_ok w (k := k - 1) (by omega) (brF (h 97) d) (nd (h 97)) h en hn10) kvX8_93 (by decide +kernel) (by decide) rfl (by omega) rfl rfl rfl rfl rfl ?_
  refine p_run (pc' := 16) [.iconst 1, .iload_n 1, .ishl, .iconst (-1), .ixor, .iand] mkX8_fellows (by decide +kernel) rfl rfl ?_
  rw [oI, clr_bit d hd _ (setF_1024 _ hn10), setF_clr]
  refine p_run (pc' := 22) [.istore_n 2, .iconst 0, .istore_n 3, .iconst 0, .istore 4] mkX8_fellows (by decide +kernel) rfl rfl ?_
  exact fellows_loop w (by omega) d hd h hI (nd (h 97)) 0 (by omega) none
set_option maxRecDepth 20000 in
set_option maxHeartbeats 4000000 in
theorem digsOf_ok (w : Wt) {k : Nat} (hk : 3 ≤ k) (d : Nat) (hd : d < 10) (h : Mm) (hI : Iv (h 97)) (hT : Tq (h 97)) : Ok w k MX8_digsOf [.ref 96, .int (nI d)] h (Rs [107, 108] (dgF (h 97) d) h) := by
  show Wp w k MX8_digsOf _ 0 [some (.ref 96), some (.int (nI d)), none] [] h
  refine p_run (pc' := 2) [.aload_n 0, .iload_n 1] mkX8_digsOf (by decide +kernel) rfl rfl ?_
  refine p_callV (plainDig_ok w (k := k - 1) (by omega) d hd h hI hT) kvX8_106 (by decide +kernel) (by decide) rfl (by omega) rfl rfl rfl rfl rfl (fun r h' hq => ?_)
  obtain ⟨rfl, hA⟩ := hq
  have e97 : h' 97 = h 97 := hA 97 (by decide)
  refine p_run (pc' := 9) [.istore_n 2, .aload_n 0, .iload_n 1, .iconst 0] mkX8_digsOf (by decide +kernel) rfl rfl ?_
  refine p_callVv (of_ok w (k := k - 1) d 0 h' (by omega)) kvX8_83 (by decide +kernel) (by decide) rfl (by omega) rfl rfl rfl rfl rfl ?_
  rw [e97]
  refine p_table (dflt := 78) (lo := 1) (hi := 5) (offs := #[36, 40, 44, 64, 76]) (len := 36) (by decide +kernel) (by decide) (fun j hj hx => ?_) (fun hx => ?_)
  · match j, hj, hx with
    | 0, _, hx =>
      have hx : h 97 (20 + 5 * d + 0) = Int32.ofInt (1) := hx
      refine ⟨36, 48, rfl, rfl, ?_⟩
      have hK : nN (dK (h 97) d 0) = 1 := kd_case (by omega) hx
      refine p_run (pc' := 51) [.iload_n 2, .iconst 1, .iadd] mkX8_digsOf (by decide +kernel) rfl rfl ?_
      refine p_iret rfl rfl (by decide +kernel) ?_
      exact ⟨by simp only [dgF, hK, oI], hA⟩
    | 1, _, hx =>
      have hx : h 97 (20 + 5 * d + 0) = Int32.ofInt (2) := hx
      refine ⟨40, 52, rfl, rfl, ?_⟩
      have hK : nN (dK (h 97) d 0) = 2 := kd_case (by omega) hx
      refine p_run (pc' := 54) [.iload_n 2, .iconst 2] mkX8_digsOf (by decide +kernel) rfl rfl ?_
      refine p_idiv (by decide +kernel) (by decide) ?_
      refine p_iret rfl rfl (by decide +kernel) ?_
      exact ⟨by simp only [dgF, hK, oI], hA⟩
    | 2, _, hx =>
      have hx : h 97 (20 + 5 * d + 0) = Int32.ofInt (3) := hx
      refine ⟨44, 56, rfl, rfl, ?_⟩
      have hK : nN (dK (h 97) d 0) = 3 := kd_case (by omega) hx
      refine p_run (pc' := 58) [.aload_n 0, .iload_n 1] mkX8_digsOf (by decide +kernel) rfl rfl ?_
      refine p_callVv (far_ok w (k := k - 1) (by omega) d hd h' (by rw [e97]; exact hI)) kvX8_109 (by decide +kernel) (by decide) rfl (by omega) rfl rfl rfl rfl rfl ?_
      simp only [e97]
      refine p_if_eq (off := 11) 72 (by decide +kernel) (by decide) (fun c61 => ?_) (fun c61 => ?_)
      · refine p_run (pc' := 75) [.iload_n 2, .iconst 1, .iadd] mkX8_digsOf (by decide +kernel) rfl rfl ?_
        refine p_iret rfl rfl (by decide +kernel) ?_
        exact ⟨by simp only [dgF, hK, oI]; first | rw [if_pos (bI1.mp c61)] | rw [if_neg (bI0.mp c61)], hA⟩
      · refine p_run (pc' := 68) [.iload_n 2, .iconst 1, .iadd, .iconst 2] mkX8_digsOf (by decide +kernel) rfl rfl ?_
        refine p_idiv (by decide +kernel) (by decide) ?_
        refine p_run (pc' := 75) [.goto 6] mkX8_digsOf (by decide +kernel) rfl rfl ?_
        refine p_iret rfl rfl (by decide +kernel) ?_
        exact ⟨by simp only [dgF, hK, oI]; first | rw [if_pos (bI1.mp c61)] | rw [if_neg (bI0.mp c61)], hA⟩
    | 3, _, hx =>
      have hx : h 97 (20 + 5 * d + 0) = Int32.ofInt (4) := hx
      refine ⟨64, 76, rfl, rfl, ?_⟩
      have hK : nN (dK (h 97) d 0) = 4 := kd_case (by omega) hx
      refine p_run (pc' := 78) [.iload_n 2, .iconst 2] mkX8_digsOf (by decide +kernel) rfl rfl ?_
      refine p_idiv (by decide +kernel) (by decide) ?_
      refine p_run (pc' := 82) [.iconst 2, .aload_n 0, .iload_n 1] mkX8_digsOf (by decide +kernel) rfl rfl ?_
      refine p_callVv (fellows_ok w (k := k - 1) (by omega) d hd h' (by rw [e97]; exact hI)) kvX8_113 (by decide +kernel) (by decide) rfl (by omega) rfl rfl rfl rfl rfl ?_
      simp only [e97]
      refine p_run (pc' := 87) [.imul, .iadd] mkX8_digsOf (by decide +kernel) rfl rfl ?_
      refine p_iret rfl rfl (by decide +kernel) ?_
      exact ⟨by simp only [dgF, hK, oI], hA⟩
    | 4, _, hx =>
      have hx : h 97 (20 + 5 * d + 0) = Int32.ofInt (5) := hx
      refine ⟨76, 88, rfl, rfl, ?_⟩
      have hK : nN (dK (h 97) d 0) = 5 := kd_case (by omega) hx
      refine p_run (pc' := 89) [.iconst 1] mkX8_digsOf (by decide +kernel) rfl rfl ?_
      refine p_iret rfl rfl (by decide +kernel) ?_
      exact ⟨by simp only [dgF, hK, oI], hA⟩
    | j + 5, hj, _ => exact absurd hj (by simp)
  · refine ⟨90, rfl, ?_⟩
    have hK : nN (dK (h 97) d 0) = 0 := kd_dflt (hI.2.2.2.2.2.1 d hd).1 hx
    refine p_run (pc' := 91) [.iload_n 2] mkX8_digsOf (by decide +kernel) rfl rfl ?_
    refine p_iret rfl rfl (by decide +kernel) ?_
    exact ⟨by simp only [dgF, hK, oI], hA⟩
set_option maxRecDepth 20000 in
set_option maxHeartbeats 4000000 in
theorem draw_ok (w : Wt) {k : Nat} (h : Mm) : Ok w k MX8_draw [.ref 96] h (Rv (nI (dvN (zF (h 97 0)))) (up h 97 0 (zF (h 97 0)))) := by
  show Wp w k MX8_draw _ 0 [some (.ref 96)] [] h
  refine p_run (pc' := 10) [.aload_n 0, .getfield 9, .iconst 0, .aload_n 0, .getfield 9, .iconst 0] mkX8_draw (by decide +kernel) rfl rfl ?_
  refine p_iald (0) (by decide +kernel) rfl rfl (by simp only [oI]) (by omega) ?_
  refine p_run (pc' := 18) [.ldc 158, .imul, .sipush 12345, .iadd] mkX8_draw (by decide +kernel) rfl rfl ?_
  refine p_iast (0) (by decide +kernel) rfl rfl (by simp only [oI]) (by omega)  ?_
  refine p_run (pc' := 24) [.aload_n 0, .getfield 9, .iconst 0] mkX8_draw (by decide +kernel) rfl rfl ?_
  refine p_iald (0) (by decide +kernel) rfl rfl (by simp only [oI]) (by omega) ?_
  refine p_run (pc' := 28) [.bipush 8, .iushr] mkX8_draw (by decide +kernel) rfl rfl ?_
  rw [ushr8]
  refine p_iret rfl rfl (by decide +kernel) ?_
  exact ⟨by simp only [up, and_self, if_true]; rfl, rfl⟩
def Rn (F : Vc → Vc) (h : Mm) : Option Value → Mm → Prop := fun r h' => r = none ∧ h' 97 = F (h 97) ∧ Ag [97, 107, 108] h h'
set_option maxRecDepth 20000 in
set_option maxHeartbeats 4000000 in
theorem digs_ok (w : Wt) {k : Nat} (hk : 4 ≤ k) (d : Nat) (hd : d < 10) (h : Mm) (hI : Iv (h 97)) (hT : Tq (h 97)) : Ok w k MX8_digs [.ref 96, .int (nI d)] h (Rn (fun N => dsF N d) h) := by
  show Wp w k MX8_digs _ 0 [some (.ref 96), some (.int (nI d)), none, none, none] [] h
  obtain ⟨eb, hb4⟩ := hI.br hd
  refine p_run (pc' := 6) [.bipush 8, .iconst 3, .aload_n 0, .iload_n 1, .iconst 3] mkX8_digs (by decide +kernel) rfl rfl ?_
  refine p_callVv (of_ok w (k := k - 1) d 3 h (by omega)) kvX8_83 (by decide +kernel) (by decide) rfl (by omega) rfl rfl rfl rfl rfl ?_
  rw [eb]
  generalize hbb : brF (h 97) d = b at *
  refine p_run (pc' := 12) [.imul, .iadd, .istore_n 2] mkX8_digs (by decide +kernel) rfl rfl ?_
  rw [show Int32.ofInt 8 + Int32.ofInt 3 * nI b = nI (8 + 3 * b) by simp only [oI, nI_add, nIm]]
  refine p_run (pc' := 17) [.aload_n 0, .getfield 9, .iload_n 2] mkX8_digs (by decide +kernel) rfl rfl ?_
  refine p_iald (8 + 3 * b) (by decide +kernel) rfl rfl rfl (by omega) ?_
  refine p_run (pc' := 20) [.aload_n 0, .iload_n 1] mkX8_digs (by decide +kernel) rfl rfl ?_
  refine p_callV (digsOf_ok w (k := k - 1) (by omega) d hd h hI hT) kvX8_132 (by decide +kernel) (by decide) rfl (by omega) rfl rfl rfl rfl rfl (fun r h' hq => ?_)
  obtain ⟨rfl, hA⟩ := hq
  have e97 : h' 97 = h 97 := hA 97 (by decide)
  refine p_run (pc' := 28) [.iadd, .iconst 0, .sipush 999] mkX8_digs (by decide +kernel) rfl rfl ?_
  refine p_callSv (rwithin_ok w (k := k - 1) _ _ _ _) ksX8_102 (by decide +kernel) (by omega) rfl rfl rfl rfl rfl ?_
  refine p_run (pc' := 35) [.istore_n 3, .aload_n 0, .iload_n 1, .iconst 2] mkX8_digs (by decide +kernel) rfl rfl ?_
  refine p_callVv (of_ok w (k := k - 1) d 2 h' (by omega)) kvX8_83 (by decide +kernel) (by decide) rfl (by omega) rfl rfl rfl rfl rfl ?_
  rw [e97]
  refine p_run (pc' := 40) [.aload_n 0, .iload_n 1] mkX8_digs (by decide +kernel) rfl rfl ?_
  refine p_callVv (burnsOf_ok w (k := k - 1) (by omega) d hd h' (by rw [e97]; exact hI)) kvX8_135 (by decide +kernel) (by decide) rfl (by omega) rfl rfl rfl rfl rfl ?_
  rw [e97]
  refine p_run (pc' := 47) [.isub, .iconst 0, .bipush 99] mkX8_digs (by decide +kernel) rfl rfl ?_
  refine p_callSv (rwithin_ok w (k := k - 1) _ _ _ _) ksX8_102 (by decide +kernel) (by omega) rfl rfl rfl rfl rfl ?_
  refine p_run (pc' := 58) [.istore 4, .aload_n 0, .iload_n 1, .iconst 4, .aload_n 0, .iload_n 1, .iconst 4] mkX8_digs (by decide +kernel) rfl rfl ?_
  refine p_callVv (of_ok w (k := k - 1) d 4 h' (by omega)) kvX8_83 (by decide +kernel) (by decide) rfl (by omega) rfl rfl rfl rfl rfl ?_
  rw [e97]
  refine p_run (pc' := 68) [.iload_n 3, .iadd, .aload_n 0, .getfield 9, .iload_n 2] mkX8_digs (by decide +kernel) rfl rfl ?_
  refine p_iald (8 + 3 * b) (by decide +kernel) rfl rfl rfl (by omega) ?_
  rw [e97]
  refine p_run (pc' := 74) [.isub, .iconst 0, .sipush 9999] mkX8_digs (by decide +kernel) rfl rfl ?_
  refine p_callSv (rwithin_ok w (k := k - 1) _ _ _ _) ksX8_102 (by decide +kernel) (by omega) rfl rfl rfl rfl rfl ?_
  refine p_callVw (put_ok w (k := k - 1) d 4 _ _ (by omega)) kvX8_116 (by decide +kernel) (by decide) rfl (by omega) rfl rfl rfl rfl rfl ?_
  refine p_run (pc' := 85) [.aload_n 0, .iload_n 1, .iconst 2, .iload 4] mkX8_digs (by decide +kernel) rfl rfl ?_
  refine p_callVw (put_ok w (k := k - 1) d 2 _ _ (by omega)) kvX8_116 (by decide +kernel) (by decide) rfl (by omega) rfl rfl rfl rfl rfl ?_
  refine p_run (pc' := 94) [.aload_n 0, .getfield 9, .iload_n 2, .iload_n 3] mkX8_digs (by decide +kernel) rfl rfl ?_
  refine p_iast (8 + 3 * b) (by decide +kernel) rfl rfl rfl (by omega)  ?_
  refine p_vret rfl (by decide +kernel) ?_
  refine ⟨rfl, ?_, ((hA.mono (by decide)).tr ((Ag.up (by decide)).tr ((Ag.up (by decide)).tr (Ag.up (by decide)))))⟩
  rw [upS, upS, upS, e97]
  show _ = dsF (h 97) d
  unfold dsF
  rw [hbb]
  simp only [oI]
  rfl
end
section
/-! the reference: the warder, a night, sums -/
theorem Tq.of {N N' : Vc} (h : Tq N) (hx : ∀ j, 70 ≤ j → N' j = N j) : Tq N' := fun t ht => by rw [hx _ (by omega)]; exact h t ht
theorem inB_upd {N : Vc} {b j d : Nat} {x : Int32} (h : j < 20) : inB (upd N j x) b d = inB N b d := by
  unfold inB dK
  rw [upd_n (by omega)]
def waI (N : Vc) : Nat → Vc
  | 0 => N
  | b + 1 => waF (waI N b) b
theorem waI_Iv {N : Vc} (hI : Iv N) : ∀ b, b ≤ 4 → Iv (waI N b)
  | 0, _ => hI
  | b + 1, h => waF_Iv (waI_Iv hI b (by omega)) (by omega)
theorem waI_out {N : Vc} (hI : Iv N) {j : Nat} (hj : j < 5 ∨ j = 6 ∨ j = 7 ∨ 70 ≤ j) : ∀ b, b ≤ 4 → waI N b j = N j
  | 0, _ => rfl
  | b + 1, h => by rw [waI, waF_out (waI_Iv hI b (by omega)) (by omega) hj, waI_out hI hj b (by omega)]
set_option maxRecDepth 20000 in
set_option maxHeartbeats 4000000 in
theorem warder_loop (w : Wt) {k : Nat} (hk : 1 ≤ k) (b n : Nat) (hb : b < 4) (hn : n ≤ 10) (M : Vc) (eM : M 1 = nI n) (h0 : Mm) : ∀ (m i : Nat), i + m = n → ∀ h : Mm, h 97 = flF M b i → Ag [97] h0 h →
    Wp w k MX8_warder (fun r h' => r = none ∧ h' 97 = flF M b n ∧ Ag [97] h0 h') 67 [some (.ref 96), some (.int (nI b)), some (.int (nI (setF (inB M b) n))), some (.int (nI i))] [] h := by
  intro m
  induction m with
  | zero =>
    intro i hi h e hA
    have hi : i = n := by omega
    subst hi
    have e1 : h 97 1 = nI i := by rw [e, flF_out _ (fun d hd => by omega)]; exact eM
    refine p_run (pc' := 73) [.iload_n 3, .aload_n 0, .getfield 9, .iconst 1] mkX8_warder (by decide +kernel) rfl rfl ?_
    refine p_iald (1) (by decide +kernel) rfl rfl (by simp only [oI]) (by omega) ?_
    rw [e1]
    refine p_icmp_ge (off := 38) 112 (by decide +kernel) (by decide) (fun c1 => ?_) (fun c1 => ?_)
    · refine p_vret rfl (by decide +kernel) ?_
      exact ⟨rfl, e, hA⟩
    · exact absurd (nI_le (Nat.le_refl _) (by omega)) c1
  | succ m ih =>
    intro i hi h e hA
    have e1 : h 97 1 = nI n := by rw [e, flF_out _ (fun d hd => by omega)]; exact eM
    refine p_run (pc' := 73) [.iload_n 3, .aload_n 0, .getfield 9, .iconst 1] mkX8_warder (by decide +kernel) rfl rfl ?_
    refine p_iald (1) (by decide +kernel) rfl rfl (by simp only [oI]) (by omega) ?_
    rw [e1]
    refine p_icmp_ge (off := 38) 112 (by decide +kernel) (by decide) (fun c1 => ?_) (fun c1 => ?_)
    · exact absurd c1 (nI_ge (by omega) (by omega))
    · refine p_run (pc' := 86) [.aload_n 0, .iload_n 3, .iconst 3, .iload_n 2, .iload_n 3, .ishr, .iconst 1, .iand, .iconst 1] mkX8_warder (by decide +kernel) rfl rfl ?_
      rw [oI, shr_bit i (by omega) _ (setF_1024 _ hn), setF_div]
      refine p_icmp_ne (off := 11) 97 (by decide +kernel) (by decide) (fun c2 => ?_) (fun c2 => ?_)
      · have hp : ¬ inB M b i = true := fun q => c2 (iteN.mpr ⟨by omega, q⟩)
        refine p_run (pc' := 100) [.aload_n 0, .iload_n 3, .iconst 3] mkX8_warder (by decide +kernel) rfl rfl ?_
        refine p_callVv (of_ok w (k := k - 1) i 3 _ (by omega)) kvX8_83 (by decide +kernel) (by decide) rfl (by omega) rfl rfl rfl rfl rfl ?_
        refine p_callVw (put_ok w (k := k - 1) i 3 _ _ (by omega)) kvX8_116 (by decide +kernel) (by decide) rfl (by omega) rfl rfl rfl rfl rfl ?_
        refine p_run (pc' := 67) [.iinc 3 1, .goto (-42)] mkX8_warder (by decide +kernel) rfl rfl ?_
        refine Wp.eqL ?_ (ih (i + 1) (by omega) _ ?_ (hA.tr (Ag.up (by decide))))
        · rw [show nI i + Int32.ofInt 1 = nI (i + 1) by simp only [oI, nI_add]]
        · rw [upS, upd_self, e, flF, if_neg hp]
      · have hp : inB M b i = true := (iteN.mp c2).2
        refine p_run (pc' := 93) [.iload_n 1, .iconst 1, .iadd, .iconst 4] mkX8_warder (by decide +kernel) rfl rfl ?_
        refine p_irem (by decide +kernel) (by decide) ?_
        rw [show jrem (nI b + Int32.ofInt 1) (Int32.ofInt 4) = nI ((b + 1) % 4) by rw [oI, oI, nI_add, jrem_nI (by omega) (by omega) (by omega)]]
        refine p_run (pc' := 103) [.goto 9] mkX8_warder (by decide +kernel) rfl rfl ?_
        refine p_callVw (put_ok w (k := k - 1) i 3 _ _ (by omega)) kvX8_116 (by decide +kernel) (by decide) rfl (by omega) rfl rfl rfl rfl rfl ?_
        refine p_run (pc' := 67) [.iinc 3 1, .goto (-42)] mkX8_warder (by decide +kernel) rfl rfl ?_
        refine Wp.eqL ?_ (ih (i + 1) (by omega) _ ?_ (hA.tr (Ag.up (by decide))))
        · rw [show nI i + Int32.ofInt 1 = nI (i + 1) by simp only [oI, nI_add]]
        · rw [upS, e, flF, if_pos hp]
set_option maxRecDepth 20000 in
set_option maxHeartbeats 4000000 in
theorem warder_ok (w : Wt) {k : Nat} (hk : 2 ≤ k) (b : Nat) (hb : b < 4) (h : Mm) (hI : Iv (h 97)) : Ok w k MX8_warder [.ref 96, .int (nI b)] h (Rn (fun N => waF N b) h) := by
  show Wp w k MX8_warder _ 0 [some (.ref 96), some (.int (nI b)), none, none] [] h
  refine p_run (pc' := 15) [.aload_n 0, .getfield 9, .bipush 8, .iconst 3, .iload_n 1, .imul, .iadd, .iconst 2, .iadd, .aload_n 0, .iload_n 1, .iconst 2] mkX8_warder (by decide +kernel) rfl rfl ?_
  refine p_callVv (at_ok w (k := k - 1) b 2 _ (by omega)) kvX8_79 (by decide +kernel) (by decide) rfl (by omega) rfl rfl rfl rfl rfl ?_
  refine p_run (pc' := 23) [.aload_n 0, .getfield 9, .iconst 3] mkX8_warder (by decide +kernel) rfl rfl ?_
  refine p_iald (3) (by decide +kernel) rfl rfl (by simp only [oI]) (by omega) ?_
  refine p_run (pc' := 29) [.iadd, .iconst 0, .aload_n 0, .iload_n 1, .iconst 0] mkX8_warder (by decide +kernel) rfl rfl ?_
  refine p_callVv (at_ok w (k := k - 1) b 0 _ (by omega)) kvX8_79 (by decide +kernel) (by decide) rfl (by omega) rfl rfl rfl rfl rfl ?_
  refine p_callSv (rwithin_ok w (k := k - 1) _ _ _ _) ksX8_102 (by decide +kernel) (by omega) rfl rfl rfl rfl rfl ?_
  refine p_iast (8 + 3 * b + 2) (by decide +kernel) rfl rfl (by simp only [oI, nI_add, nIm]) (by omega)  ?_
  generalize eh : up h 97 (8 + 3 * b + 2) _ = h1
  have e1 : h1 97 = wgF (h 97) b := by rw [← eh, upS]; rfl
  have hA1 : Ag [97] h h1 := by rw [← eh]; exact Ag.up (by decide)
  have hI1 := wgF_Iv hI hb
  rw [← e1] at hI1
  obtain ⟨en, hn10⟩ := hI1.nd
  refine p_run (pc' := 38) [.aload_n 0, .iload_n 1] mkX8_warder (by decide +kernel) rfl rfl ?_
  refine p_callVv (rdiggersIn_ok w (k := k - 1) (by omega) b (nd (h1 97)) h1 en hn10) kvX8_152 (by decide +kernel) (by decide) rfl (by omega) rfl rfl rfl rfl rfl ?_
  refine p_run (pc' := 44) [.istore_n 2, .aload_n 0, .iload_n 1] mkX8_warder (by decide +kernel) rfl rfl ?_
  refine p_callVv (rahead_ok w (k := k - 1) (by omega) b hb h1) kvX8_90 (by decide +kernel) (by decide) rfl (by omega) rfl rfl rfl rfl rfl ?_
  refine p_if_gt (off := 7) 54 (by decide +kernel) (by decide) (fun c1 => ?_) (fun c1 => ?_)
  · refine p_vret rfl (by decide +kernel) ?_
    exact ⟨rfl, by rw [e1]; show _ = waF (h 97) b; unfold waF; rw [if_pos (Or.inl (by rw [← e1]; exact c1))], hA1.mono (by decide)⟩
  · refine p_run (pc' := 51) [.iload_n 2] mkX8_warder (by decide +kernel) rfl rfl ?_
    refine p_if_ne (off := 4) 55 (by decide +kernel) (by decide) (fun c2 => ?_) (fun c2 => ?_)
    · rw [nI_eq0 (by have := setF_1024 (inB (h1 97) b) hn10; omega)] at c2
      refine p_run (pc' := 61) [.aload_n 0, .getfield 9, .iconst 5, .dup2] mkX8_warder (by decide +kernel) rfl rfl ?_
      refine p_iald (5) (by decide +kernel) rfl rfl (by simp only [oI]) (by omega) ?_
      refine p_run (pc' := 64) [.iconst 1, .iadd] mkX8_warder (by decide +kernel) rfl rfl ?_
      refine p_iast (5) (by decide +kernel) rfl rfl (by simp only [oI]) (by omega)  ?_
      refine p_run (pc' := 67) [.iconst 0, .istore_n 3] mkX8_warder (by decide +kernel) rfl rfl ?_
      refine Wp.imp (fun r h' hq => ⟨hq.1, ?_, (hA1.tr ((Ag.up (by decide)).tr hq.2.2)).mono (by decide)⟩) (Wp.eqL ?_ (warder_loop w (by omega) b (nd (h1 97)) hb hn10 (upd (h1 97) 5 (h1 97 5 + Int32.ofInt 1)) (by rw [upd_n (by omega)]; exact en) _ (nd (h1 97)) 0 (by omega) _ (upS _ _ _ _) Ag.rf))
      · rw [hq.2.1]
        show _ = waF (h 97) b
        unfold waF
        rw [← e1, if_neg (fun q => q.elim c1 c2), oI]
      · rw [setF_congr (fun i _ => inB_upd (by omega)), oI]
    · rw [nI_eq0 (by have := setF_1024 (inB (h1 97) b) hn10; omega)] at c2
      refine p_vret rfl (by decide +kernel) ?_
      exact ⟨rfl, by rw [e1]; show _ = waF (h 97) b; unfold waF; rw [if_pos (Or.inr (by rw [← e1]; exact c2))], hA1.mono (by decide)⟩
set_option maxRecDepth 20000 in
set_option maxHeartbeats 4000000 in
theorem night_loop1 (w : Wt) {k : Nat} (hk : 5 ≤ k) (N : Vc) (hI : Iv N) (hT : Tq N) (h0 : Mm) (Q : Option Value → Mm → Prop) (hC : ∀ h x1, h 97 = daF N (nd N) → Ag [97, 107, 108] h0 h → Wp w k MX8_night Q 32 [some (.ref 96), x1] [] h) : ∀ (m i : Nat), i + m = nd N → ∀ h : Mm, h 97 = daF N i → Ag [97, 107, 108] h0 h →
    Wp w k MX8_night Q 2 [some (.ref 96), some (.int (nI i))] [] h := by
  obtain ⟨en, hn10⟩ := hI.nd
  intro m
  induction m with
  | zero =>
    intro i hi h e hA
    have hi : i = nd N := by omega
    have e1 : h 97 1 = nI (nd N) := by rw [e, daF_out hI (by omega) _ (by omega)]; exact en
    refine p_run (pc' := 8) [.iload_n 1, .aload_n 0, .getfield 9, .iconst 1] mkX8_night (by decide +kernel) rfl rfl ?_
    refine p_iald (1) (by decide +kernel) rfl rfl (by simp only [oI]) (by omega) ?_
    rw [e1, hi]
    refine p_icmp_ge (off := 23) 32 (by decide +kernel) (by decide) (fun c1 => ?_) (fun c1 => ?_)
    · exact hC h _ (by rw [e, hi]) hA
    · exact absurd (nI_le (Nat.le_refl _) (by omega)) c1
  | succ m ih =>
    intro i hi h e hA
    have e1 : h 97 1 = nI (nd N) := by rw [e, daF_out hI (by omega) _ (by omega)]; exact en
    refine p_run (pc' := 8) [.iload_n 1, .aload_n 0, .getfield 9, .iconst 1] mkX8_night (by decide +kernel) rfl rfl ?_
    refine p_iald (1) (by decide +kernel) rfl rfl (by simp only [oI]) (by omega) ?_
    rw [e1]
    refine p_icmp_ge (off := 23) 32 (by decide +kernel) (by decide) (fun c1 => ?_) (fun c1 => ?_)
    · exact absurd c1 (nI_ge (by omega) (by omega))
    · refine p_run (pc' := 15) [.aload_n 0, .iload_n 1, .iconst 2] mkX8_night (by decide +kernel) rfl rfl ?_
      refine p_callVv (of_ok w (k := k - 1) i 2 _ (by omega)) kvX8_83 (by decide +kernel) (by decide) rfl (by omega) rfl rfl rfl rfl rfl ?_
      refine p_if_le (off := 8) 26 (by decide +kernel) (by decide) (fun c2 => ?_) (fun c2 => ?_)
      · refine p_run (pc' := 2) [.iinc 1 1, .goto (-27)] mkX8_night (by decide +kernel) rfl rfl ?_
        refine Wp.eqL ?_ (ih (i + 1) (by omega) _ ?_ hA)
        · rw [show nI i + Int32.ofInt 1 = nI (i + 1) by simp only [oI, nI_add]]
        · rw [daF, if_neg (by rw [← e]; exact Int32.not_lt.mpr c2), e]
      · refine p_run (pc' := 23) [.aload_n 0, .iload_n 1] mkX8_night (by decide +kernel) rfl rfl ?_
        refine p_callV (digs_ok w (k := k - 1) (by omega) i (by omega) h (by rw [e]; exact daF_Iv hI i (by omega)) (by rw [e]; exact hT.of (fun j hj => daF_out hI (Or.inr hj) i (by omega)))) kvX8_163 (by decide +kernel) (by decide) rfl (by omega) rfl rfl rfl rfl rfl (fun r h' hq => ?_)
        obtain ⟨rfl, e2, hA2⟩ := hq
        refine p_run (pc' := 2) [.iinc 1 1, .goto (-27)] mkX8_night (by decide +kernel) rfl rfl ?_
        refine Wp.eqL ?_ (ih (i + 1) (by omega) _ ?_ (hA.tr hA2))
        · rw [show nI i + Int32.ofInt 1 = nI (i + 1) by simp only [oI, nI_add]]
        · rw [e2, e, daF, if_pos (by rw [← e]; exact Int32.not_le.mp c2)]
set_option maxRecDepth 20000 in
set_option maxHeartbeats 4000000 in
theorem night_loop2 (w : Wt) {k : Nat} (hk : 5 ≤ k) (N : Vc) (hI : Iv N) (h0 : Mm) (Q : Option Value → Mm → Prop) (hC : ∀ h x1, h 97 = waI N 4 → Ag [97, 107, 108] h0 h → Wp w k MX8_night Q 50 [some (.ref 96), x1] [] h) : ∀ (m i : Nat), i + m = 4 → ∀ h : Mm, h 97 = waI N i → Ag [97, 107, 108] h0 h →
    Wp w k MX8_night Q 34 [some (.ref 96), some (.int (nI i))] [] h := by
  intro m
  induction m with
  | zero =>
    intro i hi h e hA
    have hi : i = 4 := by omega
    subst hi
    refine p_run (pc' := 36) [.iload_n 1, .iconst 4] mkX8_night (by decide +kernel) rfl rfl ?_
    refine p_icmp_ge (off := 14) 50 (by decide +kernel) (by decide) (fun c1 => ?_) (fun c1 => ?_)
    · exact hC h _ e hA
    · exact absurd (by decide) c1
  | succ m ih =>
    intro i hi h e hA
    refine p_run (pc' := 36) [.iload_n 1, .iconst 4] mkX8_night (by decide +kernel) rfl rfl ?_
    refine p_icmp_ge (off := 14) 50 (by decide +kernel) (by decide) (fun c1 => ?_) (fun c1 => ?_)
    · exact absurd c1 (by rw [oI]; exact nI_ge (by omega) (by omega))
    · refine p_run (pc' := 41) [.aload_n 0, .iload_n 1] mkX8_night (by decide +kernel) rfl rfl ?_
      refine p_callV (warder_ok w (k := k - 1) (by omega) i (by omega) h (by rw [e]; exact waI_Iv hI i (by omega))) kvX8_167 (by decide +kernel) (by decide) rfl (by omega) rfl rfl rfl rfl rfl (fun r h' hq => ?_)
      obtain ⟨rfl, e2, hA2⟩ := hq
      refine p_run (pc' := 34) [.iinc 1 1, .goto (-13)] mkX8_night (by decide +kernel) rfl rfl ?_
      refine Wp.eqL ?_ (ih (i + 1) (by omega) _ ?_ (hA.tr hA2))
      · rw [show nI i + Int32.ofInt 1 = nI (i + 1) by simp only [oI, nI_add]]
      · rw [e2, e, waI]
set_option maxRecDepth 20000 in
set_option maxHeartbeats 4000000 in
theorem night_end (w : Wt) {k : Nat} (hk : 5 ≤ k) (N : Vc) (hI : Iv N) (h0 : Mm) (h : Mm) (x1 : Option Value) (e : h 97 = N) (hA : Ag [97, 107, 108] h0 h) :
    Wp w k MX8_night (fun r h' => r = none ∧ h' 97 = upd (faF N) 2 (faF N 2 + nI 1) ∧ Ag [97, 107, 108] h0 h') 50 [some (.ref 96), x1] [] h := by
  have A1 : ∀ (h : Mm) (j : Nat) (x : Int32), Ag [97, 107, 108] h (up h 97 j x) := fun h j x => Ag.up (by decide)
  have hd1 := dvN_lt (zF (N 0))
  refine p_run (pc' := 51) [.aload_n 0] mkX8_night (by decide +kernel) rfl rfl ?_
  refine p_callVv (draw_ok w (k := k - 1) h) kvX8_159 (by decide +kernel) (by decide) rfl (by omega) rfl rfl rfl rfl rfl ?_
  rw [e]
  refine p_run (pc' := 56) [.bipush 100] mkX8_night (by decide +kernel) rfl rfl ?_
  refine p_irem (by decide +kernel) (by decide) ?_
  rw [oI, jrem_nI (by omega) (by omega) (by omega)]
  refine p_run (pc' := 62) [.aload_n 0, .getfield 9, .iconst 4] mkX8_night (by decide +kernel) rfl rfl ?_
  refine p_iald (4) (by decide +kernel) rfl rfl (by simp only [oI]) (by omega) ?_
  rw [upS, e, upd_n (by omega)]
  refine p_icmp_ge (off := 41) 104 (by decide +kernel) (by decide) (fun c1 => ?_) (fun c1 => ?_)
  · refine p_run (pc' := 110) [.aload_n 0, .getfield 9, .iconst 2, .dup2] mkX8_night (by decide +kernel) rfl rfl ?_
    refine p_iald (2) (by decide +kernel) rfl rfl (by simp only [oI]) (by omega) ?_
    refine p_run (pc' := 113) [.iconst 1, .iadd] mkX8_night (by decide +kernel) rfl rfl ?_
    refine p_iast (2) (by decide +kernel) rfl rfl (by simp only [oI]) (by omega)  ?_
    refine p_vret rfl (by decide +kernel) ?_
    refine ⟨rfl, ?_, hA.tr ((A1 _ _ _).tr (A1 _ _ _))⟩
    rw [upS, upS, e, oI]
    have ef : faF N = drF N := by unfold faF; rw [if_neg (Int32.not_lt.mpr c1)]
    rw [ef]
    rfl
  · have hd2 := dvN_lt (zF (zF (N 0)))
    have hd3 := dvN_lt (zF (zF (zF (N 0))))
    refine p_run (pc' := 67) [.aload_n 0] mkX8_night (by decide +kernel) rfl rfl ?_
    refine p_callVv (draw_ok w (k := k - 1) _) kvX8_159 (by decide +kernel) (by decide) rfl (by omega) rfl rfl rfl rfl rfl ?_
    rw [upS, e, upd_s]
    refine p_run (pc' := 71) [.iconst 4] mkX8_night (by decide +kernel) rfl rfl ?_
    refine p_irem (by decide +kernel) (by decide) ?_
    rw [oI, jrem_nI (by omega) (by omega) (by omega)]
    generalize ec : dvN (zF (zF (N 0))) % 4 = cc
    have hcc : cc < 4 := by omega
    refine p_run (pc' := 86) [.istore_n 1, .aload_n 0, .getfield 9, .bipush 8, .iconst 3, .iload_n 1, .imul, .iadd, .iconst 1, .iadd, .aload_n 0] mkX8_night (by decide +kernel) rfl rfl ?_
    refine p_callVv (draw_ok w (k := k - 1) _) kvX8_159 (by decide +kernel) (by decide) rfl (by omega) rfl rfl rfl rfl rfl ?_
    rw [upS, upd_s]
    refine p_run (pc' := 91) [.bipush 100] mkX8_night (by decide +kernel) rfl rfl ?_
    refine p_irem (by decide +kernel) (by decide) ?_
    rw [oI, jrem_nI (by omega) (by omega) (by omega)]
    refine p_iast (8 + 3 * cc + 1) (by decide +kernel) rfl rfl (by simp only [oI, nI_add, nIm]) (by omega)  ?_
    refine p_run (pc' := 100) [.aload_n 0, .getfield 9, .bipush 6, .dup2] mkX8_night (by decide +kernel) rfl rfl ?_
    refine p_iald (6) (by decide +kernel) rfl rfl (by simp only [oI]) (by omega) ?_
    refine p_run (pc' := 103) [.iconst 1, .iadd] mkX8_night (by decide +kernel) rfl rfl ?_
    refine p_iast (6) (by decide +kernel) rfl rfl (by simp only [oI]) (by omega)  ?_
    refine p_run (pc' := 110) [.aload_n 0, .getfield 9, .iconst 2, .dup2] mkX8_night (by decide +kernel) rfl rfl ?_
    refine p_iald (2) (by decide +kernel) rfl rfl (by simp only [oI]) (by omega) ?_
    refine p_run (pc' := 113) [.iconst 1, .iadd] mkX8_night (by decide +kernel) rfl rfl ?_
    refine p_iast (2) (by decide +kernel) rfl rfl (by simp only [oI]) (by omega)  ?_
    refine p_vret rfl (by decide +kernel) ?_
    refine ⟨rfl, ?_, hA.tr ((A1 _ _ _).tr ((A1 _ _ _).tr ((A1 _ _ _).tr ((A1 _ _ _).tr ((A1 _ _ _).tr (A1 _ _ _))))))⟩
    simp only [upS, e, oI]
    have ef : faF N = upd (upd (drF (drF (drF N))) (8 + 3 * cc + 1) (nI (dvN (zF (zF (zF (N 0)))) % 100))) 6 (N 6 + nI 1) := by unfold faF; rw [if_pos (Int32.not_le.mp c1), ec]
    rw [ef]
    have e6 : ∀ x y z v, upd (upd (upd (upd N 0 x) 0 y) 0 z) (8 + 3 * cc + 1) v 6 = N 6 := fun x y z v => by rw [upd_n (by omega), upd_n (by omega), upd_n (by omega), upd_n (by omega)]
    rw [e6]
    simp only [drF, upd_s]
set_option maxRecDepth 20000 in
set_option maxHeartbeats 4000000 in
theorem night_ok (w : Wt) {k : Nat} (hk : 5 ≤ k) (h : Mm) (hI : Iv (h 97)) (hT : Tq (h 97)) : Ok w k MX8_night [.ref 96] h (Rn niF h) := by
  show Wp w k MX8_night _ 0 [some (.ref 96), none] [] h
  refine p_run (pc' := 2) [.iconst 0, .istore_n 1] mkX8_night (by decide +kernel) rfl rfl ?_
  refine night_loop1 w hk (h 97) hI hT h _ (fun h1 x1 e1 hA1 => ?_) (nd (h 97)) 0 (by omega) h rfl Ag.rf
  refine p_run (pc' := 34) [.iconst 0, .istore_n 1] mkX8_night (by decide +kernel) rfl rfl ?_
  refine night_loop2 w hk _ (daF_Iv hI _ hI.nd.2) h _ (fun h2 x2 e2 hA2 => ?_) 4 0 (by omega) h1 e1 hA1
  exact night_end w hk _ (waI_Iv (daF_Iv hI _ hI.nd.2) 4 (by omega)) h h2 x2 e2 hA2
end
section
/-! the reference: sums, sets, who comes -/
def inR (v : Int32) (lo hi : Nat) : Prop := nI lo ≤ v ∧ v ≤ nI hi
def isD (N : Vc) (v : Int32) : Prop := nI 0 ≤ v ∧ v ≤ N 1 - nI 1
theorem in_nI {j lo hi : Nat} (h1 : lo ≤ j) (h2 : j ≤ hi) (h3 : hi < 2 ^ 31) : inR (nI j) lo hi := ⟨nI_le h1 (by omega), nI_le h2 h3⟩
theorem inR_of {v : Int32} {lo hi : Nat} (h2 : lo < 2 ^ 31) (h3 : hi < 2 ^ 31) (h : inR v lo hi) : ∃ j, lo ≤ j ∧ j ≤ hi ∧ v = nI j := by
  obtain ⟨e, hj⟩ := In_of h3 (Int32.le_trans (nI_le (Nat.zero_le _) h2) h.1) h.2
  have h1 := h.1
  rw [e] at h1
  exact ⟨nN v, (nI_leI h2 (by omega)).mp h1, hj, e⟩
theorem isD_nI {N : Vc} {d n : Nat} (hn : N 1 = nI n) (h : d < n) (hn2 : n ≤ 10) : isD N (nI d) := by
  unfold isD
  rw [hn, nIs (by omega)]
  exact ⟨nI_le (Nat.zero_le _) (by omega), nI_le (by omega) (by omega)⟩
theorem isD_of {N : Vc} {n : Nat} {v : Int32} (hn : N 1 = nI n) (hn2 : n ≤ 10) (h : isD N v) : ∃ d, d < n ∧ v = nI d := by
  unfold isD at h
  cases n with
  | zero =>
    rw [hn] at h
    exact absurd (Int32.le_trans h.1 h.2) (by decide)
  | succ n =>
    rw [hn, nIs (by omega), Nat.add_sub_cancel] at h
    obtain ⟨e, hj⟩ := In_of (by omega) h.1 h.2
    exact ⟨_, by omega, e⟩
def sumF (f : Nat → Int32) : Nat → Int32
  | 0 => nI 0
  | n + 1 => sumF f n + f n
def addF (N : Vc) (a b c e : Int32) : Vc := upd (upd (upd (upd (upd (upd N 1 (N 1 + nI 1)) (20 + 5 * nd N + 0) a) (20 + 5 * nd N + 1) b) (20 + 5 * nd N + 2) c) (20 + 5 * nd N + 3) e) (20 + 5 * nd N + 4) (nI 0)
theorem in_t (w : Wt) {k : Nat} (v lo hi : Int32) (h : Mm) (hp : lo ≤ v ∧ v ≤ hi) : Ok w k MX8_in [.int v, .int lo, .int hi] h (Rv (nI 1) h) := (in_ok w v lo hi h).imp (fun r h' q => ⟨by rw [q.1, bIt hp]; rfl, q.2⟩)
theorem isDigger_t (w : Wt) {k : Nat} (hk : 1 ≤ k) (v : Int32) (h : Mm) (hp : isD (h 97) v) : Ok w k MX8_isDigger [.ref 96, .int v] h (Rv (nI 1) h) := (risDigger_ok w hk v h).imp (fun r h' q => ⟨by rw [q.1, bIt (p := nI 0 ≤ v ∧ v ≤ h 97 1 - nI 1) hp]; rfl, q.2⟩)
theorem isBranch_t (w : Wt) {k : Nat} (hk : 1 ≤ k) (v : Int32) (h : Mm) (hp : inR v 0 3) : Ok w k MX8_isBranch [.int v] h (Rv (nI 1) h) := (risBranch_ok w hk v h).imp (fun r h' q => ⟨by rw [q.1, bIt (p := nI 0 ≤ v ∧ v ≤ nI 3) hp]; rfl, q.2⟩)
theorem isSheet_t (w : Wt) {k : Nat} (hk : 1 ≤ k) (v : Int32) (h : Mm) (hp : inR v 0 3) : Ok w k MX8_isSheet [.int v] h (Rv (nI 1) h) := (risSheet_ok w hk v h).imp (fun r h' q => ⟨by rw [q.1, bIt (p := nI 0 ≤ v ∧ v ≤ nI 3) hp]; rfl, q.2⟩)
theorem isSlot_t (w : Wt) {k : Nat} (hk : 1 ≤ k) (v : Int32) (h : Mm) (hp : inR v 0 4) : Ok w k MX8_isSlot [.int v] h (Rv (nI 1) h) := (risSlot_ok w hk v h).imp (fun r h' q => ⟨by rw [q.1, bIt (p := nI 0 ≤ v ∧ v ≤ nI 4) hp]; rfl, q.2⟩)
set_option maxRecDepth 20000 in
set_option maxHeartbeats 4000000 in
theorem sums_loop (w : Wt) {k : Nat} (hk : 1 ≤ k) (j : Nat) (hj : j < 5) (h : Mm) (hI : Iv (h 97)) : ∀ (m i : Nat), i + m = nd (h 97) → Wp w k MX8_sums (Rv (sumF (fun d => dK (h 97) d j) (nd (h 97))) h) 4 [some (.ref 96), some (.int (nI j)), some (.int (sumF (fun d => dK (h 97) d j) i)), some (.int (nI i))] [] h := by
  obtain ⟨en, hn10⟩ := hI.nd
  intro m
  induction m with
  | zero =>
    intro i hi
    have hi : i = nd (h 97) := by omega
    refine p_run (pc' := 10) [.iload_n 3, .aload_n 0, .getfield 9, .iconst 1] mkX8_sums (by decide +kernel) rfl rfl ?_
    refine p_iald (1) (by decide +kernel) rfl rfl (by simp only [oI]) (by omega) ?_
    rw [en]
    rw [hi]
    refine p_icmp_ge (off := 18) 29 (by decide +kernel) (by decide) (fun c1 => ?_) (fun c1 => ?_)
    · refine p_run (pc' := 30) [.iload_n 2] mkX8_sums (by decide +kernel) rfl rfl ?_
      refine p_iret rfl rfl (by decide +kernel) ?_
      exact ⟨rfl, rfl⟩
    · exact absurd (by first | decide | ((try simp only [oI]); exact nI_le (Nat.le_refl _) (by omega))) c1
  | succ m ih =>
    intro i hi
    refine p_run (pc' := 10) [.iload_n 3, .aload_n 0, .getfield 9, .iconst 1] mkX8_sums (by decide +kernel) rfl rfl ?_
    refine p_iald (1) (by decide +kernel) rfl rfl (by simp only [oI]) (by omega) ?_
    rw [en]
    refine p_icmp_ge (off := 18) 29 (by decide +kernel) (by decide) (fun c1 => ?_) (fun c1 => ?_)
    · exact absurd c1 (by (try simp only [oI]); exact nI_ge (by omega) (by omega))
    · refine p_run (pc' := 18) [.iload_n 2, .aload_n 0, .iload_n 3, .iload_n 1] mkX8_sums (by decide +kernel) rfl rfl ?_
      refine p_callVv (of_ok w (k := k - 1) i j _ (by omega)) kvX8_83 (by decide +kernel) (by decide) rfl (by omega) rfl rfl rfl rfl rfl ?_
      refine p_run (pc' := 4) [.iadd, .istore_n 2, .iinc 3 1, .goto (-22)] mkX8_sums (by decide +kernel) rfl rfl ?_
      refine Wp.eqL ?_ (ih (i + 1) (by omega))
      rw [show nI i + Int32.ofInt 1 = nI (i + 1) by simp only [oI, nI_add], sumF]
      rfl
set_option maxRecDepth 20000 in
set_option maxHeartbeats 4000000 in
theorem sums_ok (w : Wt) {k : Nat} (hk : 1 ≤ k) (j : Nat) (hj : j < 5) (h : Mm) (hI : Iv (h 97)) : Ok w k MX8_sums [.ref 96, .int (nI j)] h (Rv (sumF (fun d => dK (h 97) d j) (nd (h 97))) h) := by
  show Wp w k MX8_sums _ 0 [some (.ref 96), some (.int (nI j)), none, none] [] h
  refine p_run (pc' := 4) [.iconst 0, .istore_n 2, .iconst 0, .istore_n 3] mkX8_sums (by decide +kernel) rfl rfl ?_
  exact sums_loop w hk j hj h hI (nd (h 97)) 0 (by omega)
set_option maxRecDepth 20000 in
set_option maxHeartbeats 4000000 in
theorem allDug_loop (w : Wt) {k : Nat} (hk : 1 ≤ k) (h : Mm) : ∀ (m i : Nat), i + m = 4 → Wp w k MX8_allDug (Rv (sumF (fun b => bK (h 97) b 0) 4) h) 4 [some (.ref 96), some (.int (sumF (fun b => bK (h 97) b 0) i)), some (.int (nI i))] [] h := by
  intro m
  induction m with
  | zero =>
    intro i hi
    have hi : i = 4 := by omega
    refine p_run (pc' := 6) [.iload_n 2, .iconst 4] mkX8_allDug (by decide +kernel) rfl rfl ?_
    rw [hi]
    refine p_icmp_ge (off := 18) 24 (by decide +kernel) (by decide) (fun c1 => ?_) (fun c1 => ?_)
    · refine p_run (pc' := 25) [.iload_n 1] mkX8_allDug (by decide +kernel) rfl rfl ?_
      refine p_iret rfl rfl (by decide +kernel) ?_
      exact ⟨rfl, rfl⟩
    · exact absurd (by first | decide | ((try simp only [oI]); exact nI_le (Nat.le_refl _) (by omega))) c1
  | succ m ih =>
    intro i hi
    refine p_run (pc' := 6) [.iload_n 2, .iconst 4] mkX8_allDug (by decide +kernel) rfl rfl ?_
    refine p_icmp_ge (off := 18) 24 (by decide +kernel) (by decide) (fun c1 => ?_) (fun c1 => ?_)
    · exact absurd c1 (by (try simp only [oI]); exact nI_ge (by omega) (by omega))
    · refine p_run (pc' := 13) [.iload_n 1, .aload_n 0, .iload_n 2, .iconst 0] mkX8_allDug (by decide +kernel) rfl rfl ?_
      refine p_callVv (at_ok w (k := k - 1) i 0 _ (by omega)) kvX8_79 (by decide +kernel) (by decide) rfl (by omega) rfl rfl rfl rfl rfl ?_
      refine p_run (pc' := 4) [.iadd, .istore_n 1, .iinc 2 1, .goto (-17)] mkX8_allDug (by decide +kernel) rfl rfl ?_
      refine Wp.eqL ?_ (ih (i + 1) (by omega))
      rw [show nI i + Int32.ofInt 1 = nI (i + 1) by simp only [oI, nI_add], sumF]
      rfl
set_option maxRecDepth 20000 in
set_option maxHeartbeats 4000000 in
theorem allDug_ok (w : Wt) {k : Nat} (hk : 1 ≤ k) (h : Mm) : Ok w k MX8_allDug [.ref 96] h (Rv (sumF (fun b => bK (h 97) b 0) 4) h) := by
  show Wp w k MX8_allDug _ 0 [some (.ref 96), none, none] [] h
  refine p_run (pc' := 4) [.iconst 0, .istore_n 1, .iconst 0, .istore_n 2] mkX8_allDug (by decide +kernel) rfl rfl ?_
  exact allDug_loop w hk h 4 0 (by omega)
def frF (N : Vc) : Nat → Nat
  | 0 => 0
  | i + 1 => if bK N (frF N i) 0 < bK N i 0 then i else frF N i
theorem frF_lt (N : Vc) : ∀ i, i ≤ 4 → frF N i < 4
  | 0, _ => by simp [frF]
  | i + 1, h => by
    have := frF_lt N i (by omega)
    rw [frF]
    split <;> omega
set_option maxRecDepth 20000 in
set_option maxHeartbeats 4000000 in
theorem front_loop (w : Wt) {k : Nat} (hk : 1 ≤ k) (h : Mm) : ∀ (m i : Nat), i + m = 4 → 1 ≤ i → Wp w k MX8_front (Rv (nI (frF (h 97) 4)) h) 4 [some (.ref 96), some (.int (nI (frF (h 97) i))), some (.int (nI i))] [] h := by
  intro m
  induction m with
  | zero =>
    intro i hi h1
    have hi : i = 4 := by omega
    subst hi
    refine p_run (pc' := 6) [.iload_n 2, .iconst 4] mkX8_front (by decide +kernel) rfl rfl ?_
    refine p_icmp_ge (off := 30) 36 (by decide +kernel) (by decide) (fun c1 => ?_) (fun c1 => ?_)
    · refine p_run (pc' := 37) [.iload_n 1] mkX8_front (by decide +kernel) rfl rfl ?_
      refine p_iret rfl rfl (by decide +kernel) ?_
      exact ⟨rfl, rfl⟩
    · exact absurd (by decide) c1
  | succ m ih =>
    intro i hi h1
    refine p_run (pc' := 6) [.iload_n 2, .iconst 4] mkX8_front (by decide +kernel) rfl rfl ?_
    refine p_icmp_ge (off := 30) 36 (by decide +kernel) (by decide) (fun c1 => ?_) (fun c1 => ?_)
    · exact absurd c1 (by simp only [oI]; exact nI_ge (by omega) (by omega))
    · have hf := frF_lt (h 97) i (by omega)
      refine p_run (pc' := 12) [.aload_n 0, .iload_n 2, .iconst 0] mkX8_front (by decide +kernel) rfl rfl ?_
      refine p_callVv (at_ok w (k := k - 1) i 0 _ (by omega)) kvX8_79 (by decide +kernel) (by decide) rfl (by omega) rfl rfl rfl rfl rfl ?_
      refine p_run (pc' := 18) [.aload_n 0, .iload_n 1, .iconst 0] mkX8_front (by decide +kernel) rfl rfl ?_
      refine p_callVv (at_ok w (k := k - 1) (frF (h 97) i) 0 _ (by omega)) kvX8_79 (by decide +kernel) (by decide) rfl (by omega) rfl rfl rfl rfl rfl ?_
      refine p_icmp_le (off := 7) 28 (by decide +kernel) (by decide) (fun c2 => ?_) (fun c2 => ?_)
      · refine p_run (pc' := 4) [.iload_n 1, .istore_n 1, .iinc 2 1, .goto (-29)] mkX8_front (by decide +kernel) rfl rfl ?_
        refine Wp.eqL ?_ (ih (i + 1) (by omega) (by omega))
        rw [show nI i + Int32.ofInt 1 = nI (i + 1) by simp only [oI, nI_add], frF, if_neg (show ¬ bK (h 97) (frF (h 97) i) 0 < bK (h 97) i 0 from Int32.not_lt.mpr c2)]
      · refine p_run (pc' := 4) [.iload_n 2, .goto 4, .istore_n 1, .iinc 2 1, .goto (-29)] mkX8_front (by decide +kernel) rfl rfl ?_
        refine Wp.eqL ?_ (ih (i + 1) (by omega) (by omega))
        rw [show nI i + Int32.ofInt 1 = nI (i + 1) by simp only [oI, nI_add], frF, if_pos (show bK (h 97) (frF (h 97) i) 0 < bK (h 97) i 0 from Int32.not_le.mp c2)]
set_option maxRecDepth 20000 in
set_option maxHeartbeats 4000000 in
theorem front_ok (w : Wt) {k : Nat} (hk : 1 ≤ k) (h : Mm) : Ok w k MX8_front [.ref 96] h (Rv (nI (frF (h 97) 4)) h) := by
  show Wp w k MX8_front _ 0 [some (.ref 96), none, none] [] h
  refine p_run (pc' := 4) [.iconst 0, .istore_n 1, .iconst 1, .istore_n 2] mkX8_front (by decide +kernel) rfl rfl ?_
  exact Wp.eqL (by rw [show frF (h 97) 1 = 0 by rw [frF, frF]; split <;> rfl]; rfl) (front_loop w hk h 3 1 (by omega) (by omega))
def peB (N : Vc) (b : Nat) : Bool := decide (setF (inB N b) (nd N) ≠ 0)
set_option maxRecDepth 20000 in
set_option maxHeartbeats 4000000 in
theorem peopled_loop (w : Wt) {k : Nat} (hk : 2 ≤ k) (h : Mm) (hI : Iv (h 97)) : ∀ (m i : Nat), i + m = 4 → Wp w k MX8_peopled (Rv (nI (setF (peB (h 97)) 4)) h) 4 [some (.ref 96), some (.int (nI (setF (peB (h 97)) i))), some (.int (nI i))] [] h := by
  obtain ⟨en, hn10⟩ := hI.nd
  intro m
  induction m with
  | zero =>
    intro i hi
    have hi : i = 4 := by omega
    refine p_run (pc' := 6) [.iload_n 2, .iconst 4] mkX8_peopled (by decide +kernel) rfl rfl ?_
    rw [hi]
    refine p_icmp_ge (off := 27) 33 (by decide +kernel) (by decide) (fun c1 => ?_) (fun c1 => ?_)
    · refine p_run (pc' := 34) [.iload_n 1] mkX8_peopled (by decide +kernel) rfl rfl ?_
      refine p_iret rfl rfl (by decide +kernel) ?_
      exact ⟨rfl, rfl⟩
    · exact absurd (by first | decide | ((try simp only [oI]); exact nI_le (Nat.le_refl _) (by omega))) c1
  | succ m ih =>
    intro i hi
    refine p_run (pc' := 6) [.iload_n 2, .iconst 4] mkX8_peopled (by decide +kernel) rfl rfl ?_
    refine p_icmp_ge (off := 27) 33 (by decide +kernel) (by decide) (fun c1 => ?_) (fun c1 => ?_)
    · exact absurd c1 (by (try simp only [oI]); exact nI_ge (by omega) (by omega))
    · refine p_run (pc' := 12) [.iload_n 1, .aload_n 0, .iload_n 2] mkX8_peopled (by decide +kernel) rfl rfl ?_
      refine p_callVv (rdiggersIn_ok w (k := k - 1) (by omega) i (nd (h 97)) _ en hn10) kvX8_152 (by decide +kernel) (by decide) rfl (by omega) rfl rfl rfl rfl rfl ?_
      refine p_if_eq (off := 9) 24 (by decide +kernel) (by decide) (fun c2 => ?_) (fun c2 => ?_)
      · rw [nI_eq0 (by have := setF_1024 (inB (h 97) i) hn10; omega)] at c2
        refine p_run (pc' := 4) [.iconst 0, .ior, .istore_n 1, .iinc 2 1, .goto (-26)] mkX8_peopled (by decide +kernel) rfl rfl ?_
        refine Wp.eqL ?_ (ih (i + 1) (by omega))
        rw [show nI i + Int32.ofInt 1 = nI (i + 1) by simp only [oI, nI_add], setF, if_neg (by unfold peB; simp [c2])]
        simp only [Nat.add_zero, oI, or_0]
      · rw [nI_eq0 (by have := setF_1024 (inB (h 97) i) hn10; omega)] at c2
        refine p_run (pc' := 4) [.iconst 1, .iload_n 2, .ishl, .goto 4, .ior, .istore_n 1, .iinc 2 1, .goto (-26)] mkX8_peopled (by decide +kernel) rfl rfl ?_
        refine Wp.eqL ?_ (ih (i + 1) (by omega))
        rw [show nI i + Int32.ofInt 1 = nI (i + 1) by simp only [oI, nI_add], setF, if_pos (by unfold peB; simp [c2]), ← or_pow (setF_lt _ i), ← shl1 i (by omega)]
        rfl
set_option maxRecDepth 20000 in
set_option maxHeartbeats 4000000 in
theorem peopled_ok (w : Wt) {k : Nat} (hk : 2 ≤ k) (h : Mm) (hI : Iv (h 97)) : Ok w k MX8_peopled [.ref 96] h (Rv (nI (setF (peB (h 97)) 4)) h) := by
  show Wp w k MX8_peopled _ 0 [some (.ref 96), none, none] [] h
  refine p_run (pc' := 4) [.iconst 0, .istore_n 1, .iconst 0, .istore_n 2] mkX8_peopled (by decide +kernel) rfl rfl ?_
  exact peopled_loop w hk h hI 4 0 (by omega)
set_option maxRecDepth 20000 in
set_option maxHeartbeats 4000000 in
theorem comes_ok (w : Wt) {k : Nat} (hk : 1 ≤ k) (a b c e : Int32) (h : Mm) (hI : Iv (h 97)) (hn : nd (h 97) < 10) : Ok w k MX8_comes [.ref 96, .int a, .int b, .int c, .int e] h (fun r h' => r = some (.int (nI (nd (h 97)))) ∧ h' 97 = addF (h 97) a b c e ∧ Ag [97] h h') := by
  show Wp w k MX8_comes _ 0 [some (.ref 96), some (.int a), some (.int b), some (.int c), some (.int e), none] [] h
  obtain ⟨en, hn10⟩ := hI.nd
  refine p_run (pc' := 5) [.aload_n 0, .getfield 9, .iconst 1] mkX8_comes (by decide +kernel) rfl rfl ?_
  refine p_iald (1) (by decide +kernel) rfl rfl (by simp only [oI]) (by omega) ?_
  rw [en]
  refine p_run (pc' := 14) [.istore 5, .aload_n 0, .getfield 9, .iconst 1, .dup2] mkX8_comes (by decide +kernel) rfl rfl ?_
  refine p_iald (1) (by decide +kernel) rfl rfl (by simp only [oI]) (by omega) ?_
  refine p_run (pc' := 17) [.iconst 1, .iadd] mkX8_comes (by decide +kernel) rfl rfl ?_
  refine p_iast (1) (by decide +kernel) rfl rfl (by simp only [oI]) (by omega)  ?_
  refine p_run (pc' := 23) [.aload_n 0, .iload 5, .iconst 0, .iload_n 1] mkX8_comes (by decide +kernel) rfl rfl ?_
  refine p_callVw (put_ok w (k := k - 1) (nd (h 97)) 0 _ _ (by omega)) kvX8_116 (by decide +kernel) (by decide) rfl (by omega) rfl rfl rfl rfl rfl ?_
  refine p_run (pc' := 31) [.aload_n 0, .iload 5, .iconst 1, .iload_n 2] mkX8_comes (by decide +kernel) rfl rfl ?_
  refine p_callVw (put_ok w (k := k - 1) (nd (h 97)) 1 _ _ (by omega)) kvX8_116 (by decide +kernel) (by decide) rfl (by omega) rfl rfl rfl rfl rfl ?_
  refine p_run (pc' := 39) [.aload_n 0, .iload 5, .iconst 2, .iload_n 3] mkX8_comes (by decide +kernel) rfl rfl ?_
  refine p_callVw (put_ok w (k := k - 1) (nd (h 97)) 2 _ _ (by omega)) kvX8_116 (by decide +kernel) (by decide) rfl (by omega) rfl rfl rfl rfl rfl ?_
  refine p_run (pc' := 48) [.aload_n 0, .iload 5, .iconst 3, .iload 4] mkX8_comes (by decide +kernel) rfl rfl ?_
  refine p_callVw (put_ok w (k := k - 1) (nd (h 97)) 3 _ _ (by omega)) kvX8_116 (by decide +kernel) (by decide) rfl (by omega) rfl rfl rfl rfl rfl ?_
  refine p_run (pc' := 56) [.aload_n 0, .iload 5, .iconst 4, .iconst 0] mkX8_comes (by decide +kernel) rfl rfl ?_
  refine p_callVw (put_ok w (k := k - 1) (nd (h 97)) 4 _ _ (by omega)) kvX8_116 (by decide +kernel) (by decide) rfl (by omega) rfl rfl rfl rfl rfl ?_
  refine p_run (pc' := 61) [.iload 5] mkX8_comes (by decide +kernel) rfl rfl ?_
  refine p_iret rfl rfl (by decide +kernel) ?_
  exact ⟨rfl, by simp only [upS, oI]; rfl, (Ag.up (by decide)).tr ((Ag.up (by decide)).tr ((Ag.up (by decide)).tr ((Ag.up (by decide)).tr ((Ag.up (by decide)).tr (Ag.up (by decide))))))⟩
end
section
/-! the reference: diggers, branches, rules -/
set_option maxRecDepth 20000 in
set_option maxHeartbeats 4000000 in
theorem r_digger_bad (w : Wt) {k : Nat} (hk : 2 ≤ k) (a b c e : Int32) (h : Mm)  (hb : ¬ (inR a 0 5 ∧ inR b 0 99 ∧ inR c 0 99 ∧ inR e 0 3)) : Ok w k MX8_digger [.ref 96, .int a, .int b, .int c, .int e] h (Rv BADv h) := by
  show Wp w k MX8_digger _ 0 [some (.ref 96), some (.int a), some (.int b), some (.int c), some (.int e)] [] h
  refine p_run (pc' := 3) [.iload_n 1, .iconst 0, .iconst 5] mkX8_digger (by decide +kernel) rfl rfl ?_
  refine p_callSv (in_ok w (k := k - 1) _ _ _ _) ksX8_75 (by decide +kernel) (by omega) rfl rfl rfl rfl rfl ?_
  refine p_if_eq (off := 31) 37 (by decide +kernel) (by decide) (fun c6 => ?_) (fun c6 => ?_)
  · refine p_run (pc' := 39) [.ldc 123] mkX8_digger (by decide +kernel) rfl rfl ?_
    refine p_iret rfl rfl (by decide +kernel) ?_
    exact ⟨rfl, rfl⟩
  · refine p_run (pc' := 13) [.iload_n 2, .iconst 0, .bipush 99] mkX8_digger (by decide +kernel) rfl rfl ?_
    refine p_callSv (in_ok w (k := k - 1) _ _ _ _) ksX8_75 (by decide +kernel) (by omega) rfl rfl rfl rfl rfl ?_
    refine p_if_eq (off := 21) 37 (by decide +kernel) (by decide) (fun c16 => ?_) (fun c16 => ?_)
    · refine p_run (pc' := 39) [.ldc 123] mkX8_digger (by decide +kernel) rfl rfl ?_
      refine p_iret rfl rfl (by decide +kernel) ?_
      exact ⟨rfl, rfl⟩
    · refine p_run (pc' := 23) [.iload_n 3, .iconst 0, .bipush 99] mkX8_digger (by decide +kernel) rfl rfl ?_
      refine p_callSv (in_ok w (k := k - 1) _ _ _ _) ksX8_75 (by decide +kernel) (by omega) rfl rfl rfl rfl rfl ?_
      refine p_if_eq (off := 11) 37 (by decide +kernel) (by decide) (fun c26 => ?_) (fun c26 => ?_)
      · refine p_run (pc' := 39) [.ldc 123] mkX8_digger (by decide +kernel) rfl rfl ?_
        refine p_iret rfl rfl (by decide +kernel) ?_
        exact ⟨rfl, rfl⟩
      · refine p_run (pc' := 31) [.iload 4] mkX8_digger (by decide +kernel) rfl rfl ?_
        refine p_callSv (risBranch_ok w (k := k - 1) (by omega) _ _) ksX8_120 (by decide +kernel) (by omega) rfl rfl rfl rfl rfl ?_
        refine p_if_ne (off := 6) 40 (by decide +kernel) (by decide) (fun c34 => ?_) (fun c34 => ?_)
        · exact absurd (⟨bI1.mp c6, bI1.mp c16, bI1.mp c26, bI1.mp c34⟩) hb
        · refine p_run (pc' := 39) [.ldc 123] mkX8_digger (by decide +kernel) rfl rfl ?_
          refine p_iret rfl rfl (by decide +kernel) ?_
          exact ⟨rfl, rfl⟩
set_option maxRecDepth 20000 in
set_option maxHeartbeats 4000000 in
theorem r_digger_full (w : Wt) {k : Nat} (hk : 2 ≤ k) (a b c e : Int32) (h : Mm) (hI : Iv (h 97)) (hv : inR a 0 5 ∧ inR b 0 99 ∧ inR c 0 99 ∧ inR e 0 3) (hn : nd (h 97) = 10) : Ok w k MX8_digger [.ref 96, .int a, .int b, .int c, .int e] h (Rv FULLv h) := by
  show Wp w k MX8_digger _ 0 [some (.ref 96), some (.int a), some (.int b), some (.int c), some (.int e)] [] h
  obtain ⟨en, hn10⟩ := hI.nd
  refine p_run (pc' := 3) [.iload_n 1, .iconst 0, .iconst 5] mkX8_digger (by decide +kernel) rfl rfl ?_
  refine p_callSv (in_t w (k := k - 1) _ _ _ _ (hv.1)) ksX8_75 (by decide +kernel) (by omega) rfl rfl rfl rfl rfl ?_
  refine p_if_eq (off := 31) 37 (by decide +kernel) (by decide) (fun c6 => ?_) (fun c6 => ?_)
  · exact False.elim (by revert c6; decide)
  · refine p_run (pc' := 13) [.iload_n 2, .iconst 0, .bipush 99] mkX8_digger (by decide +kernel) rfl rfl ?_
    refine p_callSv (in_t w (k := k - 1) _ _ _ _ (hv.2.1)) ksX8_75 (by decide +kernel) (by omega) rfl rfl rfl rfl rfl ?_
    refine p_if_eq (off := 21) 37 (by decide +kernel) (by decide) (fun c16 => ?_) (fun c16 => ?_)
    · exact False.elim (by revert c16; decide)
    · refine p_run (pc' := 23) [.iload_n 3, .iconst 0, .bipush 99] mkX8_digger (by decide +kernel) rfl rfl ?_
      refine p_callSv (in_t w (k := k - 1) _ _ _ _ (hv.2.2.1)) ksX8_75 (by decide +kernel) (by omega) rfl rfl rfl rfl rfl ?_
      refine p_if_eq (off := 11) 37 (by decide +kernel) (by decide) (fun c26 => ?_) (fun c26 => ?_)
      · exact False.elim (by revert c26; decide)
      · refine p_run (pc' := 31) [.iload 4] mkX8_digger (by decide +kernel) rfl rfl ?_
        refine p_callSv (isBranch_t w (k := k - 1) (by omega) _ _ (hv.2.2.2)) ksX8_120 (by decide +kernel) (by omega) rfl rfl rfl rfl rfl ?_
        refine p_if_ne (off := 6) 40 (by decide +kernel) (by decide) (fun c34 => ?_) (fun c34 => ?_)
        · refine p_run (pc' := 45) [.aload_n 0, .getfield 9, .iconst 1] mkX8_digger (by decide +kernel) rfl rfl ?_
          refine p_iald (1) (by decide +kernel) rfl rfl (by simp only [oI]) (by omega) ?_
          rw [en]
          refine p_run (pc' := 48) [.bipush 10] mkX8_digger (by decide +kernel) rfl rfl ?_
          refine p_icmp_ne (off := 8) 56 (by decide +kernel) (by decide) (fun c1 => ?_) (fun c1 => ?_)
          · exact absurd (by rw [oI, hn]) c1
          · refine p_run (pc' := 65) [.ldc 124, .goto 12] mkX8_digger (by decide +kernel) rfl rfl ?_
            refine p_iret rfl rfl (by decide +kernel) ?_
            exact ⟨rfl, rfl⟩
        · exact False.elim (by revert c34; decide)
set_option maxRecDepth 20000 in
set_option maxHeartbeats 4000000 in
theorem r_digger (w : Wt) {k : Nat} (hk : 2 ≤ k) (a b c e : Int32) (h : Mm) (hI : Iv (h 97)) (hv : inR a 0 5 ∧ inR b 0 99 ∧ inR c 0 99 ∧ inR e 0 3) (hn : nd (h 97) < 10) : Ok w k MX8_digger [.ref 96, .int a, .int b, .int c, .int e] h (fun r h' => r = some (.int (nI (nd (h 97)))) ∧ h' 97 = addF (h 97) a b c e ∧ Ag [97] h h') := by
  show Wp w k MX8_digger _ 0 [some (.ref 96), some (.int a), some (.int b), some (.int c), some (.int e)] [] h
  obtain ⟨en, hn10⟩ := hI.nd
  refine p_run (pc' := 3) [.iload_n 1, .iconst 0, .iconst 5] mkX8_digger (by decide +kernel) rfl rfl ?_
  refine p_callSv (in_t w (k := k - 1) _ _ _ _ (hv.1)) ksX8_75 (by decide +kernel) (by omega) rfl rfl rfl rfl rfl ?_
  refine p_if_eq (off := 31) 37 (by decide +kernel) (by decide) (fun c6 => ?_) (fun c6 => ?_)
  · exact False.elim (by revert c6; decide)
  · refine p_run (pc' := 13) [.iload_n 2, .iconst 0, .bipush 99] mkX8_digger (by decide +kernel) rfl rfl ?_
    refine p_callSv (in_t w (k := k - 1) _ _ _ _ (hv.2.1)) ksX8_75 (by decide +kernel) (by omega) rfl rfl rfl rfl rfl ?_
    refine p_if_eq (off := 21) 37 (by decide +kernel) (by decide) (fun c16 => ?_) (fun c16 => ?_)
    · exact False.elim (by revert c16; decide)
    · refine p_run (pc' := 23) [.iload_n 3, .iconst 0, .bipush 99] mkX8_digger (by decide +kernel) rfl rfl ?_
      refine p_callSv (in_t w (k := k - 1) _ _ _ _ (hv.2.2.1)) ksX8_75 (by decide +kernel) (by omega) rfl rfl rfl rfl rfl ?_
      refine p_if_eq (off := 11) 37 (by decide +kernel) (by decide) (fun c26 => ?_) (fun c26 => ?_)
      · exact False.elim (by revert c26; decide)
      · refine p_run (pc' := 31) [.iload 4] mkX8_digger (by decide +kernel) rfl rfl ?_
        refine p_callSv (isBranch_t w (k := k - 1) (by omega) _ _ (hv.2.2.2)) ksX8_120 (by decide +kernel) (by omega) rfl rfl rfl rfl rfl ?_
        refine p_if_ne (off := 6) 40 (by decide +kernel) (by decide) (fun c34 => ?_) (fun c34 => ?_)
        · refine p_run (pc' := 45) [.aload_n 0, .getfield 9, .iconst 1] mkX8_digger (by decide +kernel) rfl rfl ?_
          refine p_iald (1) (by decide +kernel) rfl rfl (by simp only [oI]) (by omega) ?_
          rw [en]
          refine p_run (pc' := 48) [.bipush 10] mkX8_digger (by decide +kernel) rfl rfl ?_
          refine p_icmp_ne (off := 8) 56 (by decide +kernel) (by decide) (fun c1 => ?_) (fun c1 => ?_)
          · refine p_run (pc' := 62) [.aload_n 0, .iload_n 1, .iload_n 2, .iload_n 3, .iload 4] mkX8_digger (by decide +kernel) rfl rfl ?_
            refine p_callV (comes_ok w (k := k - 1) (by omega) a b c e h hI hn) kvX8_125 (by decide +kernel) (by decide) rfl (by omega) rfl rfl rfl rfl rfl (fun r h' hq => ?_)
            obtain ⟨rfl, e2, hA⟩ := hq
            refine p_iret rfl rfl (by decide +kernel) ?_
            exact ⟨rfl, e2, hA⟩
          · rw [oI, nI_eq (by omega) (by omega)] at c1
            exact absurd c1 (by omega)
        · exact False.elim (by revert c34; decide)
noncomputable def toldF (N : Vc) (d j : Nat) : Int32 := if j < 5 then N (20 + 5 * d + j) else if j = 5 then dgF N d else if j = 6 then buF N d else woF N d
set_option maxRecDepth 20000 in
set_option maxHeartbeats 4000000 in
theorem r_told_bad (w : Wt) {k : Nat} (hk : 2 ≤ k) (a b : Int32) (h : Mm)  (hb : ¬ (isD (h 97) a ∧ inR b 0 7)) : Ok w k MX8_told [.ref 96, .int a, .int b] h (Rv BADv h) := by
  show Wp w k MX8_told _ 0 [some (.ref 96), some (.int a), some (.int b)] [] h
  refine p_run (pc' := 2) [.aload_n 0, .iload_n 1] mkX8_told (by decide +kernel) rfl rfl ?_
  refine p_callVv (risDigger_ok w (k := k - 1) (by omega) _ _) kvX8_129 (by decide +kernel) (by decide) rfl (by omega) rfl rfl rfl rfl rfl ?_
  refine p_if_eq (off := 13) 18 (by decide +kernel) (by decide) (fun c5 => ?_) (fun c5 => ?_)
  · refine p_run (pc' := 20) [.ldc 123] mkX8_told (by decide +kernel) rfl rfl ?_
    refine p_iret rfl rfl (by decide +kernel) ?_
    exact ⟨rfl, rfl⟩
  · refine p_run (pc' := 12) [.iload_n 2, .iconst 0, .bipush 7] mkX8_told (by decide +kernel) rfl rfl ?_
    refine p_callSv (in_ok w (k := k - 1) _ _ _ _) ksX8_75 (by decide +kernel) (by omega) rfl rfl rfl rfl rfl ?_
    refine p_if_ne (off := 6) 21 (by decide +kernel) (by decide) (fun c15 => ?_) (fun c15 => ?_)
    · exact absurd (⟨bI1.mp c5, bI1.mp c15⟩) hb
    · refine p_run (pc' := 20) [.ldc 123] mkX8_told (by decide +kernel) rfl rfl ?_
      refine p_iret rfl rfl (by decide +kernel) ?_
      exact ⟨rfl, rfl⟩
set_option maxRecDepth 20000 in
set_option maxHeartbeats 4000000 in
theorem r_told (w : Wt) {k : Nat} (hk : 4 ≤ k) (d j : Nat) (h : Mm) (hI : Iv (h 97)) (hT : Tq (h 97)) (hd : d < nd (h 97)) (hj : j ≤ 7) : Ok w k MX8_told [.ref 96, .int (nI d), .int (nI j)] h (Rs [107, 108] (toldF (h 97) d j) h) := by
  show Wp w k MX8_told _ 0 [some (.ref 96), some (.int (nI d)), some (.int (nI j))] [] h
  obtain ⟨en, hn10⟩ := hI.nd
  refine p_run (pc' := 2) [.aload_n 0, .iload_n 1] mkX8_told (by decide +kernel) rfl rfl ?_
  refine p_callVv (isDigger_t w (k := k - 1) (by omega) _ _ (isD_nI en hd hn10)) kvX8_129 (by decide +kernel) (by decide) rfl (by omega) rfl rfl rfl rfl rfl ?_
  refine p_if_eq (off := 13) 18 (by decide +kernel) (by decide) (fun c5 => ?_) (fun c5 => ?_)
  · exact False.elim (by revert c5; decide)
  · refine p_run (pc' := 12) [.iload_n 2, .iconst 0, .bipush 7] mkX8_told (by decide +kernel) rfl rfl ?_
    refine p_callSv (in_t w (k := k - 1) _ _ _ _ (in_nI (lo := 0) (hi := 7) (by omega) hj (by omega))) ksX8_75 (by decide +kernel) (by omega) rfl rfl rfl rfl rfl ?_
    refine p_if_ne (off := 6) 21 (by decide +kernel) (by decide) (fun c15 => ?_) (fun c15 => ?_)
    · refine p_run (pc' := 23) [.iload_n 2, .iconst 5] mkX8_told (by decide +kernel) rfl rfl ?_
      refine p_icmp_ge (off := 10) 33 (by decide +kernel) (by decide) (fun c23 => ?_) (fun c23 => ?_)
      · (try simp only [oI] at c23)
        rw [nI_leI (by omega) (by omega)] at c23
        refine p_run (pc' := 35) [.iload_n 2, .iconst 5] mkX8_told (by decide +kernel) rfl rfl ?_
        refine p_icmp_ne (off := 11) 46 (by decide +kernel) (by decide) (fun c35 => ?_) (fun c35 => ?_)
        · (try simp only [oI] at c35)
          rw [nI_eq (by omega) (by omega)] at c35
          refine p_run (pc' := 49) [.iload_n 2, .bipush 6] mkX8_told (by decide +kernel) rfl rfl ?_
          refine p_icmp_ne (off := 11) 60 (by decide +kernel) (by decide) (fun c49 => ?_) (fun c49 => ?_)
          · (try simp only [oI] at c49)
            rw [nI_eq (by omega) (by omega)] at c49
            refine p_run (pc' := 62) [.aload_n 0, .iload_n 1] mkX8_told (by decide +kernel) rfl rfl ?_
            refine p_callVv (worthOf_ok w (k := k - 1) (by omega) d (by omega) h hI) kvX8_138 (by decide +kernel) (by decide) rfl (by omega) rfl rfl rfl rfl rfl ?_
            refine p_iret rfl rfl (by decide +kernel) ?_
            exact ⟨congrArg (fun x => some (Value.int x)) (by unfold toldF; (repeat' split) <;> first | rfl | omega), by first | exact hA | exact Ag.rf⟩
          · (try simp only [oI] at c49)
            rw [nI_eq (by omega) (by omega)] at c49
            refine p_run (pc' := 54) [.aload_n 0, .iload_n 1] mkX8_told (by decide +kernel) rfl rfl ?_
            refine p_callVv (burnsOf_ok w (k := k - 1) (by omega) d (by omega) h hI) kvX8_135 (by decide +kernel) (by decide) rfl (by omega) rfl rfl rfl rfl rfl ?_
            refine p_run (pc' := 65) [.goto 8] mkX8_told (by decide +kernel) rfl rfl ?_
            refine p_iret rfl rfl (by decide +kernel) ?_
            exact ⟨congrArg (fun x => some (Value.int x)) (by unfold toldF; (repeat' split) <;> first | rfl | omega), by first | exact hA | exact Ag.rf⟩
        · (try simp only [oI] at c35)
          rw [nI_eq (by omega) (by omega)] at c35
          refine p_run (pc' := 40) [.aload_n 0, .iload_n 1] mkX8_told (by decide +kernel) rfl rfl ?_
          refine p_callV (digsOf_ok w (k := k - 1) (by omega) d (by omega) h hI hT) kvX8_132 (by decide +kernel) (by decide) rfl (by omega) rfl rfl rfl rfl rfl (fun r h' hq => ?_)
          obtain ⟨rfl, hA⟩ := hq
          refine p_run (pc' := 65) [.goto 22] mkX8_told (by decide +kernel) rfl rfl ?_
          refine p_iret rfl rfl (by decide +kernel) ?_
          exact ⟨congrArg (fun x => some (Value.int x)) (by unfold toldF; (repeat' split) <;> first | rfl | omega), by first | exact hA | exact Ag.rf⟩
      · (try simp only [oI] at c23)
        rw [nI_leI (by omega) (by omega)] at c23
        refine p_run (pc' := 29) [.aload_n 0, .iload_n 1, .iload_n 2] mkX8_told (by decide +kernel) rfl rfl ?_
        refine p_callVv (of_ok w (k := k - 1) (d) (j) _ (by omega)) kvX8_83 (by decide +kernel) (by decide) rfl (by omega) rfl rfl rfl rfl rfl ?_
        refine p_iret rfl rfl (by decide +kernel) ?_
        exact ⟨congrArg (fun x => some (Value.int x)) (by unfold toldF; (repeat' split) <;> first | rfl | omega), by first | exact hA | exact Ag.rf⟩
    · exact False.elim (by revert c15; decide)
def unP (a b : Nat) : Prop := b = 0 ∨ a = b ∨ (b = 1 ∧ a = 3) ∨ (b = 2 ∧ a = 4)
set_option maxRecDepth 20000 in
set_option maxHeartbeats 4000000 in
theorem isUnder_ok (w : Wt) {k : Nat} (a b : Nat) (ha : a ≤ 5) (hb : b ≤ 5) (h : Mm) : Ok w k MX8_isUnder [.int (nI a), .int (nI b)] h (Rv (bI (unP a b)) h) := by
  show Wp w k MX8_isUnder _ 0 [some (.int (nI a)), some (.int (nI b))] [] h
  refine p_run (pc' := 1) [.iload_n 1] mkX8_isUnder (by decide +kernel) rfl rfl ?_
  refine p_if_eq (off := 28) 29 (by decide +kernel) (by decide) (fun c1 => ?_) (fun c1 => ?_)
  · rw [nI_eq0 (by omega)] at c1
    refine p_run (pc' := 34) [.iconst 1, .goto 4] mkX8_isUnder (by decide +kernel) rfl rfl ?_
    refine p_iret rfl rfl (by decide +kernel) ?_
    exact ⟨by first | (rw [bIt (by unfold unP; omega)]; rfl) | (rw [bIf (by unfold unP; omega)]; rfl), rfl⟩
  · rw [nI_eq0 (by omega)] at c1
    refine p_run (pc' := 6) [.iload_n 0, .iload_n 1] mkX8_isUnder (by decide +kernel) rfl rfl ?_
    refine p_icmp_eq (off := 23) 29 (by decide +kernel) (by decide) (fun c6 => ?_) (fun c6 => ?_)
    · (try simp only [oI] at c6)
      rw [nI_eq (by omega) (by omega)] at c6
      refine p_run (pc' := 34) [.iconst 1, .goto 4] mkX8_isUnder (by decide +kernel) rfl rfl ?_
      refine p_iret rfl rfl (by decide +kernel) ?_
      exact ⟨by first | (rw [bIt (by unfold unP; omega)]; rfl) | (rw [bIf (by unfold unP; omega)]; rfl), rfl⟩
    · (try simp only [oI] at c6)
      rw [nI_eq (by omega) (by omega)] at c6
      refine p_run (pc' := 11) [.iload_n 1, .iconst 1] mkX8_isUnder (by decide +kernel) rfl rfl ?_
      refine p_icmp_ne (off := 8) 19 (by decide +kernel) (by decide) (fun c11 => ?_) (fun c11 => ?_)
      · (try simp only [oI] at c11)
        rw [nI_eq (by omega) (by omega)] at c11
        refine p_run (pc' := 21) [.iload_n 1, .iconst 2] mkX8_isUnder (by decide +kernel) rfl rfl ?_
        refine p_icmp_ne (off := 12) 33 (by decide +kernel) (by decide) (fun c21 => ?_) (fun c21 => ?_)
        · (try simp only [oI] at c21)
          rw [nI_eq (by omega) (by omega)] at c21
          refine p_run (pc' := 34) [.iconst 0] mkX8_isUnder (by decide +kernel) rfl rfl ?_
          refine p_iret rfl rfl (by decide +kernel) ?_
          exact ⟨by first | (rw [bIt (by unfold unP; omega)]; rfl) | (rw [bIf (by unfold unP; omega)]; rfl), rfl⟩
        · (try simp only [oI] at c21)
          rw [nI_eq (by omega) (by omega)] at c21
          refine p_run (pc' := 26) [.iload_n 0, .iconst 4] mkX8_isUnder (by decide +kernel) rfl rfl ?_
          refine p_icmp_ne (off := 7) 33 (by decide +kernel) (by decide) (fun c26 => ?_) (fun c26 => ?_)
          · (try simp only [oI] at c26)
            rw [nI_eq (by omega) (by omega)] at c26
            refine p_run (pc' := 34) [.iconst 0] mkX8_isUnder (by decide +kernel) rfl rfl ?_
            refine p_iret rfl rfl (by decide +kernel) ?_
            exact ⟨by first | (rw [bIt (by unfold unP; omega)]; rfl) | (rw [bIf (by unfold unP; omega)]; rfl), rfl⟩
          · (try simp only [oI] at c26)
            rw [nI_eq (by omega) (by omega)] at c26
            refine p_run (pc' := 34) [.iconst 1, .goto 4] mkX8_isUnder (by decide +kernel) rfl rfl ?_
            refine p_iret rfl rfl (by decide +kernel) ?_
            exact ⟨by first | (rw [bIt (by unfold unP; omega)]; rfl) | (rw [bIf (by unfold unP; omega)]; rfl), rfl⟩
      · (try simp only [oI] at c11)
        rw [nI_eq (by omega) (by omega)] at c11
        refine p_run (pc' := 16) [.iload_n 0, .iconst 3] mkX8_isUnder (by decide +kernel) rfl rfl ?_
        refine p_icmp_eq (off := 13) 29 (by decide +kernel) (by decide) (fun c16 => ?_) (fun c16 => ?_)
        · (try simp only [oI] at c16)
          rw [nI_eq (by omega) (by omega)] at c16
          refine p_run (pc' := 34) [.iconst 1, .goto 4] mkX8_isUnder (by decide +kernel) rfl rfl ?_
          refine p_iret rfl rfl (by decide +kernel) ?_
          exact ⟨by first | (rw [bIt (by unfold unP; omega)]; rfl) | (rw [bIf (by unfold unP; omega)]; rfl), rfl⟩
        · (try simp only [oI] at c16)
          rw [nI_eq (by omega) (by omega)] at c16
          refine p_run (pc' := 21) [.iload_n 1, .iconst 2] mkX8_isUnder (by decide +kernel) rfl rfl ?_
          refine p_icmp_ne (off := 12) 33 (by decide +kernel) (by decide) (fun c21 => ?_) (fun c21 => ?_)
          · (try simp only [oI] at c21)
            rw [nI_eq (by omega) (by omega)] at c21
            refine p_run (pc' := 34) [.iconst 0] mkX8_isUnder (by decide +kernel) rfl rfl ?_
            refine p_iret rfl rfl (by decide +kernel) ?_
            exact ⟨by first | (rw [bIt (by unfold unP; omega)]; rfl) | (rw [bIf (by unfold unP; omega)]; rfl), rfl⟩
          · (try simp only [oI] at c21)
            rw [nI_eq (by omega) (by omega)] at c21
            refine p_run (pc' := 26) [.iload_n 0, .iconst 4] mkX8_isUnder (by decide +kernel) rfl rfl ?_
            refine p_icmp_ne (off := 7) 33 (by decide +kernel) (by decide) (fun c26 => ?_) (fun c26 => ?_)
            · (try simp only [oI] at c26)
              rw [nI_eq (by omega) (by omega)] at c26
              refine p_run (pc' := 34) [.iconst 0] mkX8_isUnder (by decide +kernel) rfl rfl ?_
              refine p_iret rfl rfl (by decide +kernel) ?_
              exact ⟨by first | (rw [bIt (by unfold unP; omega)]; rfl) | (rw [bIf (by unfold unP; omega)]; rfl), rfl⟩
            · (try simp only [oI] at c26)
              rw [nI_eq (by omega) (by omega)] at c26
              refine p_run (pc' := 34) [.iconst 1, .goto 4] mkX8_isUnder (by decide +kernel) rfl rfl ?_
              refine p_iret rfl rfl (by decide +kernel) ?_
              exact ⟨by first | (rw [bIt (by unfold unP; omega)]; rfl) | (rw [bIf (by unfold unP; omega)]; rfl), rfl⟩
set_option maxRecDepth 20000 in
set_option maxHeartbeats 4000000 in
theorem r_as_bad (w : Wt) {k : Nat} (hk : 2 ≤ k) (a b : Int32) (h : Mm)  (hb : ¬ (isD (h 97) a ∧ inR b 0 5)) : Ok w k MX8_as [.ref 96, .int a, .int b] h (Rv BADv h) := by
  show Wp w k MX8_as _ 0 [some (.ref 96), some (.int a), some (.int b)] [] h
  refine p_run (pc' := 2) [.aload_n 0, .iload_n 1] mkX8_as (by decide +kernel) rfl rfl ?_
  refine p_callVv (risDigger_ok w (k := k - 1) (by omega) _ _) kvX8_129 (by decide +kernel) (by decide) rfl (by omega) rfl rfl rfl rfl rfl ?_
  refine p_if_eq (off := 12) 17 (by decide +kernel) (by decide) (fun c5 => ?_) (fun c5 => ?_)
  · refine p_run (pc' := 19) [.ldc 123] mkX8_as (by decide +kernel) rfl rfl ?_
    refine p_iret rfl rfl (by decide +kernel) ?_
    exact ⟨rfl, rfl⟩
  · refine p_run (pc' := 11) [.iload_n 2, .iconst 0, .iconst 5] mkX8_as (by decide +kernel) rfl rfl ?_
    refine p_callSv (in_ok w (k := k - 1) _ _ _ _) ksX8_75 (by decide +kernel) (by omega) rfl rfl rfl rfl rfl ?_
    refine p_if_ne (off := 6) 20 (by decide +kernel) (by decide) (fun c14 => ?_) (fun c14 => ?_)
    · exact absurd (⟨bI1.mp c5, bI1.mp c14⟩) hb
    · refine p_run (pc' := 19) [.ldc 123] mkX8_as (by decide +kernel) rfl rfl ?_
      refine p_iret rfl rfl (by decide +kernel) ?_
      exact ⟨rfl, rfl⟩
noncomputable def asF (N : Vc) (d j : Nat) : Int32 := @ite _ (unP (nN (dK N d 0)) j) (Classical.propDecidable _) (dK N d 1) KINDv
set_option maxRecDepth 20000 in
set_option maxHeartbeats 4000000 in
theorem r_as (w : Wt) {k : Nat} (hk : 2 ≤ k) (d j : Nat) (h : Mm) (hI : Iv (h 97)) (hd : d < nd (h 97)) (hj : j ≤ 5) : Ok w k MX8_as [.ref 96, .int (nI d), .int (nI j)] h (Rv (asF (h 97) d j) h) := by
  show Wp w k MX8_as _ 0 [some (.ref 96), some (.int (nI d)), some (.int (nI j))] [] h
  obtain ⟨en, hn10⟩ := hI.nd
  have hk5 := (hI.2.2.2.2.2.1 d (by omega)).1
  refine p_run (pc' := 2) [.aload_n 0, .iload_n 1] mkX8_as (by decide +kernel) rfl rfl ?_
  refine p_callVv (isDigger_t w (k := k - 1) (by omega) _ _ (isD_nI en hd hn10)) kvX8_129 (by decide +kernel) (by decide) rfl (by omega) rfl rfl rfl rfl rfl ?_
  refine p_if_eq (off := 12) 17 (by decide +kernel) (by decide) (fun c5 => ?_) (fun c5 => ?_)
  · exact False.elim (by revert c5; decide)
  · refine p_run (pc' := 11) [.iload_n 2, .iconst 0, .iconst 5] mkX8_as (by decide +kernel) rfl rfl ?_
    refine p_callSv (in_t w (k := k - 1) _ _ _ _ (in_nI (lo := 0) (hi := 5) (by omega) hj (by omega))) ksX8_75 (by decide +kernel) (by omega) rfl rfl rfl rfl rfl ?_
    refine p_if_ne (off := 6) 20 (by decide +kernel) (by decide) (fun c14 => ?_) (fun c14 => ?_)
    · refine p_run (pc' := 23) [.aload_n 0, .iload_n 1, .iconst 0] mkX8_as (by decide +kernel) rfl rfl ?_
      refine p_callVv (of_ok w (k := k - 1) d 0 _ (by omega)) kvX8_83 (by decide +kernel) (by decide) rfl (by omega) rfl rfl rfl rfl rfl ?_
      rw [show h 97 (20 + 5 * d + 0) = nI (nN (dK (h 97) d 0)) from hk5.1]
      refine p_run (pc' := 27) [.iload_n 2] mkX8_as (by decide +kernel) rfl rfl ?_
      refine p_callSv (isUnder_ok w (k := k - 1) (nN (dK (h 97) d 0)) j hk5.2 hj _) ksX8_141 (by decide +kernel) (by omega) rfl rfl rfl rfl rfl ?_
      refine p_if_eq (off := 12) 42 (by decide +kernel) (by decide) (fun c30 => ?_) (fun c30 => ?_)
      · refine p_run (pc' := 44) [.ldc 145] mkX8_as (by decide +kernel) rfl rfl ?_
        refine p_iret rfl rfl (by decide +kernel) ?_
        exact ⟨congrArg (fun x => some (Value.int x)) (by unfold asF; first | exact (if_pos (bI1.mp c30)).symm | exact (if_neg (bI0.mp c30)).symm), rfl⟩
      · refine p_run (pc' := 36) [.aload_n 0, .iload_n 1, .iconst 1] mkX8_as (by decide +kernel) rfl rfl ?_
        refine p_callVv (of_ok w (k := k - 1) (d) (1) _ (by omega)) kvX8_83 (by decide +kernel) (by decide) rfl (by omega) rfl rfl rfl rfl rfl ?_
        refine p_run (pc' := 44) [.goto 5] mkX8_as (by decide +kernel) rfl rfl ?_
        refine p_iret rfl rfl (by decide +kernel) ?_
        exact ⟨congrArg (fun x => some (Value.int x)) (by unfold asF; first | exact (if_pos (bI1.mp c30)).symm | exact (if_neg (bI0.mp c30)).symm), rfl⟩
    · exact False.elim (by revert c14; decide)
set_option maxRecDepth 20000 in
set_option maxHeartbeats 4000000 in
theorem r_turns_bad (w : Wt) {k : Nat} (hk : 2 ≤ k) (a b : Int32) (h : Mm)  (hb : ¬ (isD (h 97) a ∧ inR b 0 5)) : Ok w k MX8_turns [.ref 96, .int a, .int b] h (Rv BADv h) := by
  show Wp w k MX8_turns _ 0 [some (.ref 96), some (.int a), some (.int b)] [] h
  refine p_run (pc' := 2) [.aload_n 0, .iload_n 1] mkX8_turns (by decide +kernel) rfl rfl ?_
  refine p_callVv (risDigger_ok w (k := k - 1) (by omega) _ _) kvX8_129 (by decide +kernel) (by decide) rfl (by omega) rfl rfl rfl rfl rfl ?_
  refine p_if_eq (off := 26) 31 (by decide +kernel) (by decide) (fun c5 => ?_) (fun c5 => ?_)
  · refine p_run (pc' := 33) [.ldc 123] mkX8_turns (by decide +kernel) rfl rfl ?_
    refine p_iret rfl rfl (by decide +kernel) ?_
    exact ⟨rfl, rfl⟩
  · refine p_run (pc' := 11) [.iload_n 2, .iconst 0, .iconst 5] mkX8_turns (by decide +kernel) rfl rfl ?_
    refine p_callSv (in_ok w (k := k - 1) _ _ _ _) ksX8_75 (by decide +kernel) (by omega) rfl rfl rfl rfl rfl ?_
    refine p_if_eq (off := 17) 31 (by decide +kernel) (by decide) (fun c14 => ?_) (fun c14 => ?_)
    · refine p_run (pc' := 33) [.ldc 123] mkX8_turns (by decide +kernel) rfl rfl ?_
      refine p_iret rfl rfl (by decide +kernel) ?_
      exact ⟨rfl, rfl⟩
    · exact absurd (⟨bI1.mp c5, bI1.mp c14⟩) hb
set_option maxRecDepth 20000 in
set_option maxHeartbeats 4000000 in
theorem r_turns (w : Wt) {k : Nat} (hk : 2 ≤ k) (d : Nat) (b : Int32) (h : Mm) (hI : Iv (h 97)) (hd : d < nd (h 97)) (hb : inR b 0 5) : Ok w k MX8_turns [.ref 96, .int (nI d), .int b] h (fun r h' => r = some (.int (h 97 (20 + 5 * d))) ∧ h' = up h 97 (20 + 5 * d) b) := by
  show Wp w k MX8_turns _ 0 [some (.ref 96), some (.int (nI d)), some (.int b)] [] h
  obtain ⟨en, hn10⟩ := hI.nd
  refine p_run (pc' := 2) [.aload_n 0, .iload_n 1] mkX8_turns (by decide +kernel) rfl rfl ?_
  refine p_callVv (isDigger_t w (k := k - 1) (by omega) _ _ (isD_nI en hd hn10)) kvX8_129 (by decide +kernel) (by decide) rfl (by omega) rfl rfl rfl rfl rfl ?_
  refine p_if_eq (off := 26) 31 (by decide +kernel) (by decide) (fun c5 => ?_) (fun c5 => ?_)
  · exact False.elim (by revert c5; decide)
  · refine p_run (pc' := 11) [.iload_n 2, .iconst 0, .iconst 5] mkX8_turns (by decide +kernel) rfl rfl ?_
    refine p_callSv (in_t w (k := k - 1) _ _ _ _ (hb)) ksX8_75 (by decide +kernel) (by omega) rfl rfl rfl rfl rfl ?_
    refine p_if_eq (off := 17) 31 (by decide +kernel) (by decide) (fun c14 => ?_) (fun c14 => ?_)
    · exact False.elim (by revert c14; decide)
    · refine p_run (pc' := 25) [.aload_n 0, .bipush 20, .iconst 5, .iload_n 1, .imul, .iadd, .iload_n 2] mkX8_turns (by decide +kernel) rfl rfl ?_
      refine Wp.eqS (st' := [.int b, .int (nI (20 + 5 * d)), .ref 96]) (by simp only [oI, nI_add, nIm]) ?_
      refine p_callV (swaps_ok w (k := k - 1) (20 + 5 * d) (by omega) b h) kvX8_146 (by decide +kernel) (by decide) rfl (by omega) rfl rfl rfl rfl rfl (fun r h' hq => ?_)
      obtain ⟨rfl, rfl⟩ := hq
      refine p_run (pc' := 33) [.goto 5] mkX8_turns (by decide +kernel) rfl rfl ?_
      refine p_iret rfl rfl (by decide +kernel) ?_
      exact ⟨rfl, rfl⟩
set_option maxRecDepth 20000 in
set_option maxHeartbeats 4000000 in
theorem r_set_bad (w : Wt) {k : Nat} (hk : 2 ≤ k) (a b c : Int32) (h : Mm)  (hb : ¬ (isD (h 97) a ∧ inR b 1 2 ∧ inR c 0 99)) : Ok w k MX8_set [.ref 96, .int a, .int b, .int c] h (Rv BADv h) := by
  show Wp w k MX8_set _ 0 [some (.ref 96), some (.int a), some (.int b), some (.int c)] [] h
  refine p_run (pc' := 2) [.aload_n 0, .iload_n 1] mkX8_set (by decide +kernel) rfl rfl ?_
  refine p_callVv (risDigger_ok w (k := k - 1) (by omega) _ _) kvX8_129 (by decide +kernel) (by decide) rfl (by omega) rfl rfl rfl rfl rfl ?_
  refine p_if_eq (off := 38) 43 (by decide +kernel) (by decide) (fun c5 => ?_) (fun c5 => ?_)
  · refine p_run (pc' := 45) [.ldc 123] mkX8_set (by decide +kernel) rfl rfl ?_
    refine p_iret rfl rfl (by decide +kernel) ?_
    exact ⟨rfl, rfl⟩
  · refine p_run (pc' := 11) [.iload_n 2, .iconst 1, .iconst 2] mkX8_set (by decide +kernel) rfl rfl ?_
    refine p_callSv (in_ok w (k := k - 1) _ _ _ _) ksX8_75 (by decide +kernel) (by omega) rfl rfl rfl rfl rfl ?_
    refine p_if_eq (off := 29) 43 (by decide +kernel) (by decide) (fun c14 => ?_) (fun c14 => ?_)
    · refine p_run (pc' := 45) [.ldc 123] mkX8_set (by decide +kernel) rfl rfl ?_
      refine p_iret rfl rfl (by decide +kernel) ?_
      exact ⟨rfl, rfl⟩
    · refine p_run (pc' := 21) [.iload_n 3, .iconst 0, .bipush 99] mkX8_set (by decide +kernel) rfl rfl ?_
      refine p_callSv (in_ok w (k := k - 1) _ _ _ _) ksX8_75 (by decide +kernel) (by omega) rfl rfl rfl rfl rfl ?_
      refine p_if_eq (off := 19) 43 (by decide +kernel) (by decide) (fun c24 => ?_) (fun c24 => ?_)
      · refine p_run (pc' := 45) [.ldc 123] mkX8_set (by decide +kernel) rfl rfl ?_
        refine p_iret rfl rfl (by decide +kernel) ?_
        exact ⟨rfl, rfl⟩
      · exact absurd (⟨bI1.mp c5, bI1.mp c14, bI1.mp c24⟩) hb
set_option maxRecDepth 20000 in
set_option maxHeartbeats 4000000 in
theorem r_set (w : Wt) {k : Nat} (hk : 2 ≤ k) (d j : Nat) (c : Int32) (h : Mm) (hI : Iv (h 97)) (hd : d < nd (h 97)) (hj : 1 ≤ j ∧ j ≤ 2) (hc : inR c 0 99) : Ok w k MX8_set [.ref 96, .int (nI d), .int (nI j), .int c] h (fun r h' => r = some (.int (h 97 (20 + 5 * d + j))) ∧ h' = up h 97 (20 + 5 * d + j) c) := by
  show Wp w k MX8_set _ 0 [some (.ref 96), some (.int (nI d)), some (.int (nI j)), some (.int c)] [] h
  obtain ⟨en, hn10⟩ := hI.nd
  refine p_run (pc' := 2) [.aload_n 0, .iload_n 1] mkX8_set (by decide +kernel) rfl rfl ?_
  refine p_callVv (isDigger_t w (k := k - 1) (by omega) _ _ (isD_nI en hd hn10)) kvX8_129 (by decide +kernel) (by decide) rfl (by omega) rfl rfl rfl rfl rfl ?_
  refine p_if_eq (off := 38) 43 (by decide +kernel) (by decide) (fun c5 => ?_) (fun c5 => ?_)
  · exact False.elim (by revert c5; decide)
  · refine p_run (pc' := 11) [.iload_n 2, .iconst 1, .iconst 2] mkX8_set (by decide +kernel) rfl rfl ?_
    refine p_callSv (in_t w (k := k - 1) _ _ _ _ (in_nI (lo := 1) (hi := 2) hj.1 hj.2 (by omega))) ksX8_75 (by decide +kernel) (by omega) rfl rfl rfl rfl rfl ?_
    refine p_if_eq (off := 29) 43 (by decide +kernel) (by decide) (fun c14 => ?_) (fun c14 => ?_)
    · exact False.elim (by revert c14; decide)
    · refine p_run (pc' := 21) [.iload_n 3, .iconst 0, .bipush 99] mkX8_set (by decide +kernel) rfl rfl ?_
      refine p_callSv (in_t w (k := k - 1) _ _ _ _ (hc)) ksX8_75 (by decide +kernel) (by omega) rfl rfl rfl rfl rfl ?_
      refine p_if_eq (off := 19) 43 (by decide +kernel) (by decide) (fun c24 => ?_) (fun c24 => ?_)
      · exact False.elim (by revert c24; decide)
      · refine p_run (pc' := 37) [.aload_n 0, .bipush 20, .iconst 5, .iload_n 1, .imul, .iadd, .iload_n 2, .iadd, .iload_n 3] mkX8_set (by decide +kernel) rfl rfl ?_
        refine Wp.eqS (st' := [.int c, .int (nI (20 + 5 * d + j)), .ref 96]) (by simp only [oI, nI_add, nIm]) ?_
        refine p_callV (swaps_ok w (k := k - 1) (20 + 5 * d + j) (by omega) c h) kvX8_146 (by decide +kernel) (by decide) rfl (by omega) rfl rfl rfl rfl rfl (fun r h' hq => ?_)
        obtain ⟨rfl, rfl⟩ := hq
        refine p_run (pc' := 45) [.goto 5] mkX8_set (by decide +kernel) rfl rfl ?_
        refine p_iret rfl rfl (by decide +kernel) ?_
        exact ⟨rfl, rfl⟩
set_option maxRecDepth 20000 in
set_option maxHeartbeats 4000000 in
theorem r_sends_bad (w : Wt) {k : Nat} (hk : 2 ≤ k) (a b : Int32) (h : Mm)  (hb : ¬ (isD (h 97) a ∧ inR b 0 3)) : Ok w k MX8_sends [.ref 96, .int a, .int b] h (Rv BADv h) := by
  show Wp w k MX8_sends _ 0 [some (.ref 96), some (.int a), some (.int b)] [] h
  refine p_run (pc' := 2) [.aload_n 0, .iload_n 1] mkX8_sends (by decide +kernel) rfl rfl ?_
  refine p_callVv (risDigger_ok w (k := k - 1) (by omega) _ _) kvX8_129 (by decide +kernel) (by decide) rfl (by omega) rfl rfl rfl rfl rfl ?_
  refine p_if_eq (off := 26) 31 (by decide +kernel) (by decide) (fun c5 => ?_) (fun c5 => ?_)
  · refine p_run (pc' := 33) [.ldc 123] mkX8_sends (by decide +kernel) rfl rfl ?_
    refine p_iret rfl rfl (by decide +kernel) ?_
    exact ⟨rfl, rfl⟩
  · refine p_run (pc' := 9) [.iload_n 2] mkX8_sends (by decide +kernel) rfl rfl ?_
    refine p_callSv (risBranch_ok w (k := k - 1) (by omega) _ _) ksX8_120 (by decide +kernel) (by omega) rfl rfl rfl rfl rfl ?_
    refine p_if_eq (off := 19) 31 (by decide +kernel) (by decide) (fun c12 => ?_) (fun c12 => ?_)
    · refine p_run (pc' := 33) [.ldc 123] mkX8_sends (by decide +kernel) rfl rfl ?_
      refine p_iret rfl rfl (by decide +kernel) ?_
      exact ⟨rfl, rfl⟩
    · exact absurd (⟨bI1.mp c5, bI1.mp c12⟩) hb
set_option maxRecDepth 20000 in
set_option maxHeartbeats 4000000 in
theorem r_sends (w : Wt) {k : Nat} (hk : 2 ≤ k) (d : Nat) (b : Int32) (h : Mm) (hI : Iv (h 97)) (hd : d < nd (h 97)) (hb : inR b 0 3) : Ok w k MX8_sends [.ref 96, .int (nI d), .int b] h (fun r h' => r = some (.int (h 97 (20 + 5 * d + 3))) ∧ h' = up h 97 (20 + 5 * d + 3) b) := by
  show Wp w k MX8_sends _ 0 [some (.ref 96), some (.int (nI d)), some (.int b)] [] h
  obtain ⟨en, hn10⟩ := hI.nd
  refine p_run (pc' := 2) [.aload_n 0, .iload_n 1] mkX8_sends (by decide +kernel) rfl rfl ?_
  refine p_callVv (isDigger_t w (k := k - 1) (by omega) _ _ (isD_nI en hd hn10)) kvX8_129 (by decide +kernel) (by decide) rfl (by omega) rfl rfl rfl rfl rfl ?_
  refine p_if_eq (off := 26) 31 (by decide +kernel) (by decide) (fun c5 => ?_) (fun c5 => ?_)
  · exact False.elim (by revert c5; decide)
  · refine p_run (pc' := 9) [.iload_n 2] mkX8_sends (by decide +kernel) rfl rfl ?_
    refine p_callSv (isBranch_t w (k := k - 1) (by omega) _ _ (hb)) ksX8_120 (by decide +kernel) (by omega) rfl rfl rfl rfl rfl ?_
    refine p_if_eq (off := 19) 31 (by decide +kernel) (by decide) (fun c12 => ?_) (fun c12 => ?_)
    · exact False.elim (by revert c12; decide)
    · refine p_run (pc' := 25) [.aload_n 0, .bipush 20, .iconst 5, .iload_n 1, .imul, .iadd, .iconst 3, .iadd, .iload_n 2] mkX8_sends (by decide +kernel) rfl rfl ?_
      refine Wp.eqS (st' := [.int b, .int (nI (20 + 5 * d + 3)), .ref 96]) (by simp only [oI, nI_add, nIm]) ?_
      refine p_callV (swaps_ok w (k := k - 1) (20 + 5 * d + 3) (by omega) b h) kvX8_146 (by decide +kernel) (by decide) rfl (by omega) rfl rfl rfl rfl rfl (fun r h' hq => ?_)
      obtain ⟨rfl, rfl⟩ := hq
      refine p_run (pc' := 33) [.goto 5] mkX8_sends (by decide +kernel) rfl rfl ?_
      refine p_iret rfl rfl (by decide +kernel) ?_
      exact ⟨rfl, rfl⟩
set_option maxRecDepth 20000 in
set_option maxHeartbeats 4000000 in
theorem r_seed (w : Wt) {k : Nat} (hk : 1 ≤ k) (a : Int32) (h : Mm) : Ok w k MX8_seed [.ref 96, .int a] h (fun r h' => r = some (.int (h 97 0)) ∧ h' = up h 97 0 a) := by
  show Wp w k MX8_seed _ 0 [some (.ref 96), some (.int a)] [] h
  refine p_run (pc' := 3) [.aload_n 0, .iconst 0, .iload_n 1] mkX8_seed (by decide +kernel) rfl rfl ?_
  refine p_callV (swaps_ok w (k := k - 1) 0 (by omega) a h) kvX8_146 (by decide +kernel) (by decide) rfl (by omega) rfl rfl rfl rfl rfl (fun r h' hq => ?_)
  obtain ⟨rfl, rfl⟩ := hq
  refine p_iret rfl rfl (by decide +kernel) ?_
  exact ⟨rfl, rfl⟩
end
section
/-! beyond a row's end nothing counts -/
def wr (h : Mm) (a : Nat) (f : Vc) : Mm := fun b => if b = a then f else h b
theorem wrS (h : Mm) (a : Nat) (f : Vc) : wr h a f a = f := if_pos rfl
theorem wrN {h : Mm} {a b : Nat} {f : Vc} (hb : b ≠ a) : wr h a f b = h b := if_neg hb
theorem Ag.wr {S : List Nat} {h : Mm} {a : Nat} {f : Vc} (ha : a ∈ S) : Ag S h (wr h a f) := fun b hb => wrN (fun e => hb (e ▸ ha))
theorem vl_eq {h h' : Mm} {a k : Nat} (e : h a k = h' a k) : vl h a k = vl h' a k := by
  unfold vl
  rw [e]
theorem arrV_eq {c : ClassId} {n : Nat} {f g : Nat → Value} (h : ∀ k, k < n → f k = g k) : arrV c n f = arrV c n g := by
  unfold arrV
  congr 1
  apply Array.ext
  · simp
  · intro i h1 h2
    simp at h1
    simp [h i h1]
theorem Hd_junk {w : Wt} {h h' : Mm} {H : Heap} (e : ∀ a, a < 118 → ∀ k, k < (kd0 a).2 → h a k = h' a k) (hH : Hd w (mu h) H) : Hd w (mu h') H := by
  refine ⟨hH.1, hH.2.1, fun id hid => ?_⟩
  have hid' : id < 118 := hid
  have hc := hH.2.2 id hid
  refine ⟨fun ht => ⟨(hc.1 ht).1, (hc.1 ht).2.to (fun k hk => ?_)⟩, fun ht => ?_⟩
  · show cv w (vl h id k) = cv w (vl h' id k)
    rw [vl_eq (e id hid' k hk)]
  · rw [hc.2 ht]
    congr 1
    refine arrV_eq (fun k hk => ?_)
    show cv w (vl h id k) = cv w (vl h' id k)
    rw [vl_eq (e id hid' k hk)]
theorem Wp.junk {w : Wt} {k : Nat} {M : Mt} {Q : Option Value → Mm → Prop} {pc : Nat} {L : List (Option Value)} {st : List Value} {h h' : Mm} (e : ∀ a, a < 118 → ∀ k, k < (kd0 a).2 → h a k = h' a k) (hh : Wp w k M Q pc L st h') : Wp w k M Q pc L st h := by
  intro p ev R s m args below meth c cells slots Z X hc hs hZ H locs ls hH hS hL
  exact hh p ev R s m args below meth c cells slots Z X hc hs hZ H locs ls (Hd_junk e hH) hS hL
section G7
variable {w : Wt} {k : Nat} {M : Mt} {Q : Option Value → Mm → Prop} {pc : Nat} {L : List (Option Value)} {st : List Value} {h : Mm}
theorem p_callVo {M' : Mt} {k' np idx a t : Nat} {as rest : List Value} {Q' : Option Value → Mm → Prop} (hO : Ok w k' M' (.ref a :: as) h Q') (hr : ∀ r h', Q' r h' → r = none) (hw : KV (m_y M).cls idx M' t np) (hd : decode (m_c M) pc = .ok (.invokevirtual idx, 3)) (ha : a < 118) (hkd : (kd0 a).1 = t) (hk : k' + 1 ≤ k) (hst : st = as.reverse ++ .ref a :: rest) (hn : as.length = np) (hcat : as.all (fun v => Nat.beq v.category 1) = true) (hnl : Nat.ble (np + 1) (m_n M') = true) (hrest : Nat.ble (rest.map fun v => v.category).sum 8 = true) (kk : ∀ h', Q' none h' → Wp w k M Q (pc + 3) L rest h') : Wp w k M Q pc L st h :=
  p_callV hO hw hd ha hkd hk hst hn hcat hnl hrest (fun r h' q => by have e := hr r h' q; subst e; exact kk h' q)
theorem p_callVi {M' : Mt} {k' np idx a t : Nat} {v : Int32} {as rest : List Value} {Q' : Option Value → Mm → Prop} (hO : Ok w k' M' (.ref a :: as) h Q') (hr : ∀ r h', Q' r h' → r = some (.int v)) (hw : KV (m_y M).cls idx M' t np) (hd : decode (m_c M) pc = .ok (.invokevirtual idx, 3)) (ha : a < 118) (hkd : (kd0 a).1 = t) (hk : k' + 1 ≤ k) (hst : st = as.reverse ++ .ref a :: rest) (hn : as.length = np) (hcat : as.all (fun v => Nat.beq v.category 1) = true) (hnl : Nat.ble (np + 1) (m_n M') = true) (hrest : Nat.ble (rest.map fun v => v.category).sum 8 = true) (kk : ∀ h', Q' (some (.int v)) h' → Wp w k M Q (pc + 3) L (.int v :: rest) h') : Wp w k M Q pc L st h :=
  p_callV hO hw hd ha hkd hk hst hn hcat hnl hrest (fun r h' q => by have e := hr r h' q; subst e; exact kk h' q)
end G7
end
section
/-! the reference: what will be -/
def cpI (h : Mm) (src dst i : Nat) : Mm := fun b j => if b = dst ∧ j < i then h src j else h b j
set_option maxRecDepth 20000 in
set_option maxHeartbeats 4000000 in
theorem copy_loop (w : Wt) {k : Nat} (src dst : Nat) (h : Mm) (hs : src = 97 ∨ src = 98 ∨ src = 99) (hd : dst = 97 ∨ dst = 98 ∨ dst = 99) (hne : src ≠ dst) : ∀ (m i : Nat), i + m = 1442 → Wp w k MX8_copyAll (Rw (wr h dst (h src))) 2 [some (.ref src), some (.ref dst), some (.int (nI i))] [] (cpI h src dst i) := by
  have ks : kd0 src = (10, 1442) := by rcases hs with rfl | rfl | rfl <;> rfl
  have kd : kd0 dst = (10, 1442) := by rcases hd with rfl | rfl | rfl <;> rfl
  have ls : src < 118 := by omega
  have ld : dst < 118 := by omega
  intro m
  induction m with
  | zero =>
    intro i hi
    have hi : i = 1442 := by omega
    subst hi
    refine p_run (pc' := 6) [.iload_n 2, .sipush 1442] mkX8_copyAll (by decide +kernel) rfl rfl ?_
    refine p_icmp_ge (off := 15) 21 (by decide +kernel) (by decide) (fun c1 => ?_) (fun c1 => ?_)
    · refine Wp.junk (h' := wr h dst (h src)) (fun a ha k hk => ?_) ?_
      · unfold cpI wr
        by_cases e : a = dst
        · subst e
          rw [kd] at hk
          simp only [true_and, if_true]
          exact if_pos hk
        · simp [e]
      · refine p_vret rfl (by decide +kernel) ?_
        exact ⟨rfl, rfl⟩
    · exact absurd (by decide) c1
  | succ m ih =>
    intro i hi
    refine p_run (pc' := 6) [.iload_n 2, .sipush 1442] mkX8_copyAll (by decide +kernel) rfl rfl ?_
    refine p_icmp_ge (off := 15) 21 (by decide +kernel) (by decide) (fun c1 => ?_) (fun c1 => ?_)
    · exact absurd c1 (by rw [oI]; exact nI_ge (by omega) (by omega))
    · refine p_run (pc' := 13) [.aload_n 1, .iload_n 2, .aload_n 0, .iload_n 2] mkX8_copyAll (by decide +kernel) rfl rfl ?_
      refine p_iald (i) (by decide +kernel) (Nat.ble_eq_true_of_le ls) ks rfl (by omega) ?_
      refine p_iast (i) (by decide +kernel) (Nat.ble_eq_true_of_le ld) kd rfl (by omega)  ?_
      refine p_run (pc' := 2) [.iinc 2 1, .goto (-16)] mkX8_copyAll (by decide +kernel) rfl rfl ?_
      refine Wp.eqL ?_ (Wp.eqH ?_ (ih (i + 1) (by omega)))
      · rw [show nI i + Int32.ofInt 1 = nI (i + 1) by simp only [oI, nI_add]]
      · funext x j
        unfold up cpI
        by_cases ex : x = dst
        · subst ex
          by_cases ej : j = i
          · subst ej; simp [hne]
          · by_cases lj : j < i
            · simp [ej, lj, Nat.lt_succ_of_lt lj]
            · have : ¬ j < i + 1 := by omega
              simp [ej, lj, this]
        · simp [ex]
set_option maxRecDepth 20000 in
set_option maxHeartbeats 4000000 in
theorem copyAll_ok (w : Wt) {k : Nat} (src dst : Nat) (h : Mm) (hs : src = 97 ∨ src = 98 ∨ src = 99) (hd : dst = 97 ∨ dst = 98 ∨ dst = 99) (hne : src ≠ dst) : Ok w k MX8_copyAll [.ref src, .ref dst] h (Rw (wr h dst (h src))) := by
  show Wp w k MX8_copyAll _ 0 [some (.ref src), some (.ref dst), none] [] h
  refine p_run (pc' := 2) [.iconst 0, .istore_n 2] mkX8_copyAll (by decide +kernel) rfl rfl ?_
  refine Wp.eqH ?_ (copy_loop w src dst h hs hd hne 1442 0 (by omega))
  funext x j
  simp [cpI]
set_option maxRecDepth 20000 in
set_option maxHeartbeats 4000000 in
theorem thinks_ok (w : Wt) {k : Nat} (hk : 1 ≤ k) (h : Mm) : Ok w k MX8_thinks [.ref 96] h (Rw (wr h 99 (h 97))) := by
  show Wp w k MX8_thinks _ 0 [some (.ref 96)] [] h
  refine p_run (pc' := 8) [.aload_n 0, .getfield 9, .aload_n 0, .getfield 16] mkX8_thinks (by decide +kernel) rfl rfl ?_
  refine p_callSw (copyAll_ok w (k := k - 1) 97 99 h (by decide) (by decide) (by decide)) ksX8_185 (by decide +kernel) (by omega) rfl rfl rfl rfl rfl ?_
  refine p_vret rfl (by decide +kernel) ?_
  exact ⟨rfl, rfl⟩
set_option maxRecDepth 20000 in
set_option maxHeartbeats 4000000 in
theorem putsBack_ok (w : Wt) {k : Nat} (hk : 1 ≤ k) (h : Mm) : Ok w k MX8_putsBack [.ref 96] h (Rw (wr h 97 (h 99))) := by
  show Wp w k MX8_putsBack _ 0 [some (.ref 96)] [] h
  refine p_run (pc' := 8) [.aload_n 0, .getfield 16, .aload_n 0, .getfield 9] mkX8_putsBack (by decide +kernel) rfl rfl ?_
  refine p_callSw (copyAll_ok w (k := k - 1) 99 97 h (by decide) (by decide) (by decide)) ksX8_185 (by decide +kernel) (by omega) rfl rfl rfl rfl rfl ?_
  refine p_vret rfl (by decide +kernel) ?_
  exact ⟨rfl, rfl⟩
set_option maxRecDepth 20000 in
set_option maxHeartbeats 4000000 in
theorem goesOn_loop (w : Wt) {k : Nat} (hk : 6 ≤ k) (N : Vc) (hI : Iv N) (hT : Tq N) (n : Nat) (hn : n < 2 ^ 30) (h0 : Mm) : ∀ (m i : Nat), i + m = n → ∀ h : Mm, h 97 = nsF N i → Ag [97, 107, 108] h0 h → Wp w k MX8_goesOn (fun r h' => r = none ∧ h' 97 = nsF N n ∧ Ag [97, 107, 108] h0 h') 2 [some (.ref 96), some (.int (nI n)), some (.int (nI i))] [] h := by
  intro m
  induction m with
  | zero =>
    intro i hi h e hA
    have hi : i = n := by omega
    subst hi
    refine p_run (pc' := 4) [.iload_n 2, .iload_n 1] mkX8_goesOn (by decide +kernel) rfl rfl ?_
    refine p_icmp_ge (off := 13) 17 (by decide +kernel) (by decide) (fun c1 => ?_) (fun c1 => ?_)
    · refine p_vret rfl (by decide +kernel) ?_
      exact ⟨rfl, e, hA⟩
    · exact absurd (nI_le (Nat.le_refl _) (by omega)) c1
  | succ m ih =>
    intro i hi h e hA
    refine p_run (pc' := 4) [.iload_n 2, .iload_n 1] mkX8_goesOn (by decide +kernel) rfl rfl ?_
    refine p_icmp_ge (off := 13) 17 (by decide +kernel) (by decide) (fun c1 => ?_) (fun c1 => ?_)
    · exact absurd c1 (nI_ge (by omega) (by omega))
    · refine p_run (pc' := 8) [.aload_n 0] mkX8_goesOn (by decide +kernel) rfl rfl ?_
      refine p_callV (night_ok w (k := k - 1) (by omega) h (by rw [e]; exact nsF_Iv hI i) (by rw [e]; exact hT.of (fun j hj => nsF_out hI (by omega) i))) kvX8_170 (by decide +kernel) (by decide) rfl (by omega) rfl rfl rfl rfl rfl (fun r h' hq => ?_)
      obtain ⟨rfl, e2, hA2⟩ := hq
      refine p_run (pc' := 2) [.iinc 2 1, .goto (-12)] mkX8_goesOn (by decide +kernel) rfl rfl ?_
      refine Wp.eqL ?_ (ih (i + 1) (by omega) _ ?_ (hA.tr hA2))
      · rw [show nI i + Int32.ofInt 1 = nI (i + 1) by simp only [oI, nI_add]]
      · rw [e2, e, nsF]
set_option maxRecDepth 20000 in
set_option maxHeartbeats 4000000 in
theorem goesOn_ok (w : Wt) {k : Nat} (hk : 6 ≤ k) (n : Nat) (hn : n < 2 ^ 30) (h : Mm) (hI : Iv (h 97)) (hT : Tq (h 97)) : Ok w k MX8_goesOn [.ref 96, .int (nI n)] h (Rn (fun N => nsF N n) h) := by
  show Wp w k MX8_goesOn _ 0 [some (.ref 96), some (.int (nI n)), none] [] h
  refine p_run (pc' := 2) [.iconst 0, .istore_n 2] mkX8_goesOn (by decide +kernel) rfl rfl ?_
  exact goesOn_loop w hk (h 97) hI hT n hn h n 0 (by omega) h rfl Ag.rf
def hlF (N : Vc) : Int32 := sumF (fun d => dK N d 4) (nd N)
noncomputable def behF (N : Vc) (n j : Nat) : Int32 := if j < 2 then nsF N n (5 + j) else if j = 2 then hlF (nsF N n) else bK (nsF N n) (j - 3) 0
set_option maxRecDepth 20000 in
set_option maxHeartbeats 4000000 in
theorem r_behind_bad (w : Wt) {k : Nat} (hk : 2 ≤ k) (a b : Int32) (h : Mm)  (hb : ¬ (inR a 0 100 ∧ inR b 0 6)) : Ok w k MX8_behind [.ref 96, .int a, .int b] h (Rv BADv h) := by
  show Wp w k MX8_behind _ 0 [some (.ref 96), some (.int a), some (.int b), none] [] h
  refine p_run (pc' := 4) [.iload_n 1, .iconst 0, .bipush 100] mkX8_behind (by decide +kernel) rfl rfl ?_
  refine p_callSv (in_ok w (k := k - 1) _ _ _ _) ksX8_75 (by decide +kernel) (by omega) rfl rfl rfl rfl rfl ?_
  refine p_if_eq (off := 13) 20 (by decide +kernel) (by decide) (fun c7 => ?_) (fun c7 => ?_)
  · refine p_run (pc' := 22) [.ldc 123] mkX8_behind (by decide +kernel) rfl rfl ?_
    refine p_iret rfl rfl (by decide +kernel) ?_
    exact ⟨rfl, rfl⟩
  · refine p_run (pc' := 14) [.iload_n 2, .iconst 0, .bipush 6] mkX8_behind (by decide +kernel) rfl rfl ?_
    refine p_callSv (in_ok w (k := k - 1) _ _ _ _) ksX8_75 (by decide +kernel) (by omega) rfl rfl rfl rfl rfl ?_
    refine p_if_ne (off := 6) 23 (by decide +kernel) (by decide) (fun c17 => ?_) (fun c17 => ?_)
    · exact absurd (⟨bI1.mp c7, bI1.mp c17⟩) hb
    · refine p_run (pc' := 22) [.ldc 123] mkX8_behind (by decide +kernel) rfl rfl ?_
      refine p_iret rfl rfl (by decide +kernel) ?_
      exact ⟨rfl, rfl⟩
theorem back_row {h h1 h2 : Mm} (hA : Ag [97, 107, 108] (wr h 99 (h 97)) h1) : Ag [99, 107, 108] h (wr h1 97 (h1 99)) := by
  intro a ha
  by_cases e : a = 97
  · subst e
    rw [wrS, hA 99 (by decide), wrS]
  · have h1' : a ∉ [97, 107, 108] := by simp at ha ⊢; omega
    have h2' : a ≠ 99 := by simp at ha; omega
    rw [wrN e, hA a h1', wrN h2']
set_option maxRecDepth 20000 in
set_option maxHeartbeats 4000000 in
theorem r_behind (w : Wt) {k : Nat} (hk : 7 ≤ k) (n j : Nat) (h : Mm) (hI : Iv (h 97)) (hT : Tq (h 97)) (hn : n ≤ 100) (hj : j ≤ 6) : Ok w k MX8_behind [.ref 96, .int (nI n), .int (nI j)] h (Rs [99, 107, 108] (behF (h 97) n j) h) := by
  show Wp w k MX8_behind _ 0 [some (.ref 96), some (.int (nI n)), some (.int (nI j)), none] [] h
  refine p_run (pc' := 4) [.iload_n 1, .iconst 0, .bipush 100] mkX8_behind (by decide +kernel) rfl rfl ?_
  refine p_callSv (in_t w (k := k - 1) _ _ _ _ (in_nI (lo := 0) (hi := 100) (by omega) hn (by omega))) ksX8_75 (by decide +kernel) (by omega) rfl rfl rfl rfl rfl ?_
  refine p_if_eq (off := 13) 20 (by decide +kernel) (by decide) (fun c7 => ?_) (fun c7 => ?_)
  · exact False.elim (by revert c7; decide)
  · refine p_run (pc' := 14) [.iload_n 2, .iconst 0, .bipush 6] mkX8_behind (by decide +kernel) rfl rfl ?_
    refine p_callSv (in_t w (k := k - 1) _ _ _ _ (in_nI (lo := 0) (hi := 6) (by omega) hj (by omega))) ksX8_75 (by decide +kernel) (by omega) rfl rfl rfl rfl rfl ?_
    refine p_if_ne (off := 6) 23 (by decide +kernel) (by decide) (fun c17 => ?_) (fun c17 => ?_)
    · refine p_run (pc' := 24) [.aload_n 0] mkX8_behind (by decide +kernel) rfl rfl ?_
      refine p_callVw (thinks_ok w (k := k - 1) (by omega) h) kvX8_189 (by decide +kernel) (by decide) rfl (by omega) rfl rfl rfl rfl rfl ?_
      refine p_run (pc' := 29) [.aload_n 0, .iload_n 1] mkX8_behind (by decide +kernel) rfl rfl ?_
      refine p_callVo (goesOn_ok w (k := k - 1) (by omega) n (by omega) _ (by rw [wrN (by decide)]; exact hI) (by rw [wrN (by decide)]; exact hT)) (fun _ _ q => q.1) kvX8_176 (by decide +kernel) (by decide) rfl (by omega) rfl rfl rfl rfl rfl (fun h' hq => ?_)
      obtain ⟨-, e1, hA1⟩ := hq
      have e1 : h' 97 = nsF (h 97) n := by have := e1; rw [wrN (by decide)] at this; exact this
      have hI1 : Iv (h' 97) := by rw [e1]; exact nsF_Iv hI n
      refine p_run (pc' := 34) [.iload_n 2, .iconst 2] mkX8_behind (by decide +kernel) rfl rfl ?_
      refine p_icmp_ge (off := 14) 48 (by decide +kernel) (by decide) (fun c34 => ?_) (fun c34 => ?_)
      · (try simp only [oI] at c34)
        rw [nI_leI (by omega) (by omega)] at c34
        refine p_run (pc' := 50) [.iload_n 2, .iconst 2] mkX8_behind (by decide +kernel) rfl rfl ?_
        refine p_icmp_ne (off := 11) 61 (by decide +kernel) (by decide) (fun c50 => ?_) (fun c50 => ?_)
        · (try simp only [oI] at c50)
          rw [nI_eq (by omega) (by omega)] at c50
          refine p_run (pc' := 66) [.aload_n 0, .iload_n 2, .iconst 3, .isub, .iconst 0] mkX8_behind (by decide +kernel) rfl rfl ?_
          refine Wp.eqS (st' := [.int (nI 0), .int (nI (j - 3)), .ref 96]) (by rw [oI, oI, nIs (by omega)]) ?_
          refine p_callVv (at_ok w (k := k - 1) (j - 3) 0 _ (by omega)) kvX8_79 (by decide +kernel) (by decide) rfl (by omega) rfl rfl rfl rfl rfl ?_
          refine p_run (pc' := 71) [.istore_n 3, .aload_n 0] mkX8_behind (by decide +kernel) rfl rfl ?_
          refine p_callVw (putsBack_ok w (k := k - 1) (by omega) _) kvX8_192 (by decide +kernel) (by decide) rfl (by omega) rfl rfl rfl rfl rfl ?_
          refine p_run (pc' := 75) [.iload_n 3] mkX8_behind (by decide +kernel) rfl rfl ?_
          refine p_iret rfl rfl (by decide +kernel) ?_
          exact ⟨congrArg (fun x => some (Value.int x)) (by unfold behF; rw [← e1]; (repeat' split) <;> first | rfl | omega), back_row (h2 := h') hA1⟩
        · (try simp only [oI] at c50)
          rw [nI_eq (by omega) (by omega)] at c50
          refine p_run (pc' := 55) [.aload_n 0, .iconst 4] mkX8_behind (by decide +kernel) rfl rfl ?_
          refine p_callVv (sums_ok w (k := k - 1) (by omega) 4 (by omega) _ hI1) kvX8_173 (by decide +kernel) (by decide) rfl (by omega) rfl rfl rfl rfl rfl ?_
          refine p_run (pc' := 71) [.goto 11, .istore_n 3, .aload_n 0] mkX8_behind (by decide +kernel) rfl rfl ?_
          refine p_callVw (putsBack_ok w (k := k - 1) (by omega) _) kvX8_192 (by decide +kernel) (by decide) rfl (by omega) rfl rfl rfl rfl rfl ?_
          refine p_run (pc' := 75) [.iload_n 3] mkX8_behind (by decide +kernel) rfl rfl ?_
          refine p_iret rfl rfl (by decide +kernel) ?_
          exact ⟨congrArg (fun x => some (Value.int x)) (by unfold behF; rw [← e1]; (repeat' split) <;> first | rfl | omega), back_row (h2 := h') hA1⟩
      · (try simp only [oI] at c34)
        rw [nI_leI (by omega) (by omega)] at c34
        refine p_run (pc' := 44) [.aload_n 0, .getfield 9, .iconst 5, .iload_n 2, .iadd] mkX8_behind (by decide +kernel) rfl rfl ?_
        refine p_iald (5 + j) (by decide +kernel) rfl rfl (by simp only [oI, nI_add]) (by omega) ?_
        refine p_run (pc' := 71) [.goto 24, .istore_n 3, .aload_n 0] mkX8_behind (by decide +kernel) rfl rfl ?_
        refine p_callVw (putsBack_ok w (k := k - 1) (by omega) _) kvX8_192 (by decide +kernel) (by decide) rfl (by omega) rfl rfl rfl rfl rfl ?_
        refine p_run (pc' := 75) [.iload_n 3] mkX8_behind (by decide +kernel) rfl rfl ?_
        refine p_iret rfl rfl (by decide +kernel) ?_
        exact ⟨congrArg (fun x => some (Value.int x)) (by unfold behF; rw [← e1]; (repeat' split) <;> first | rfl | omega), back_row (h2 := h') hA1⟩
    · exact False.elim (by revert c17; decide)
end
section
/-! the reference: what will be, second -/
def fstF (p : Nat → Bool) : Nat → Nat → Option Nat
  | _, 0 => none
  | lo, m + 1 => if p lo = true then some lo else fstF p (lo + 1) m
def oN (o : Option Nat) : Int32 := match o with
  | none => NONEv
  | some n => nI n
def bdF (j : Nat) : Nat := if j = 0 then 5 else if j = 3 then 3 else if j = 4 then 9999 else 99
theorem Iv.dk {N : Vc} (hI : Iv N) {d j : Nat} {x : Int32} (hd : d < 10) (hj : j < 5) (hx : In x (bdF j)) : Iv (upd N (20 + 5 * d + j) x) := by
  refine hI.of (upd_n (by omega)) (upd_n (by omega)) (upd_n (by omega)) (upd_n (by omega)) (fun i hi => upd_n (by omega)) (fun b hb => ?_) (fun e he => ?_)
  · have ee : ∀ i, i < 3 → bK (upd N (20 + 5 * d + j) x) b i = bK N b i := fun i hi => upd_n (by omega)
    rw [ee 0 (by omega), ee 1 (by omega), ee 2 (by omega)]
    exact hI.2.2.2.2.1 b hb
  · have key : ∀ i, i < 5 → dK (upd N (20 + 5 * d + j) x) e i = if e = d ∧ i = j then x else dK N e i := by
      intro i hi
      by_cases q : e = d ∧ i = j
      · rw [if_pos q, q.1, q.2]
        exact upd_s
      · rw [if_neg q]
        exact upd_n (by omega)
    obtain ⟨a0, a1, a2, a3, a4⟩ := hI.2.2.2.2.2.1 e he
    rw [key 0 (by omega), key 1 (by omega), key 2 (by omega), key 3 (by omega), key 4 (by omega)]
    refine ⟨?_, ?_, ?_, ?_, ?_⟩
    · split
      · rename_i q; rw [← q.2] at hx; exact hx
      · exact a0
    · split
      · rename_i q; rw [← q.2] at hx; exact hx
      · exact a1
    · split
      · rename_i q; rw [← q.2] at hx; exact hx
      · exact a2
    · split
      · rename_i q; rw [← q.2] at hx; exact hx
      · exact a3
    · split
      · rename_i q; rw [← q.2] at hx; exact hx
      · exact a4
theorem Tq.up {N : Vc} (h : Tq N) {j : Nat} {x : Int32} (hj : j < 70) : Tq (upd N j x) := h.of (fun i hi => upd_n (by omega))
set_option maxRecDepth 20000 in
set_option maxHeartbeats 4000000 in
theorem r_reaches_bad (w : Wt) {k : Nat} (hk : 2 ≤ k) (a b : Int32) (h : Mm)  (hb : ¬ (inR a 0 3 ∧ inR b 0 999)) : Ok w k MX8_reaches [.ref 96, .int a, .int b] h (Rv BADv h) := by
  show Wp w k MX8_reaches _ 0 [some (.ref 96), some (.int a), some (.int b), none] [] h
  refine p_run (pc' := 1) [.iload_n 1] mkX8_reaches (by decide +kernel) rfl rfl ?_
  refine p_callSv (risBranch_ok w (k := k - 1) (by omega) _ _) ksX8_120 (by decide +kernel) (by omega) rfl rfl rfl rfl rfl ?_
  refine p_if_eq (off := 14) 18 (by decide +kernel) (by decide) (fun c4 => ?_) (fun c4 => ?_)
  · refine p_run (pc' := 20) [.ldc 123] mkX8_reaches (by decide +kernel) rfl rfl ?_
    refine p_iret rfl rfl (by decide +kernel) ?_
    exact ⟨rfl, rfl⟩
  · refine p_run (pc' := 12) [.iload_n 2, .iconst 0, .sipush 999] mkX8_reaches (by decide +kernel) rfl rfl ?_
    refine p_callSv (in_ok w (k := k - 1) _ _ _ _) ksX8_75 (by decide +kernel) (by omega) rfl rfl rfl rfl rfl ?_
    refine p_if_ne (off := 6) 21 (by decide +kernel) (by decide) (fun c15 => ?_) (fun c15 => ?_)
    · exact absurd (⟨bI1.mp c4, bI1.mp c15⟩) hb
    · refine p_run (pc' := 20) [.ldc 123] mkX8_reaches (by decide +kernel) rfl rfl ?_
      refine p_iret rfl rfl (by decide +kernel) ?_
      exact ⟨rfl, rfl⟩
set_option maxRecDepth 20000 in
set_option maxHeartbeats 4000000 in
theorem reaches_loop (w : Wt) {k : Nat} (hk : 6 ≤ k) (b : Nat) (hb : b < 4) (v : Int32) (h : Mm) (hI : Iv (h 97)) (hT : Tq (h 97)) : ∀ (m i : Nat), i + m = 201 → ∀ hh : Mm, hh 97 = nsF (h 97) i → Ag [97, 107, 108] (wr h 99 (h 97)) hh → Wp w k MX8_reaches (Rs [99, 107, 108] (oN (fstF (fun n => decide (v ≤ bK (nsF (h 97) n) b 0)) i m)) h) 27 [some (.ref 96), some (.int (nI b)), some (.int v), some (.int (nI i))] [] hh := by
  intro m
  induction m with
  | zero =>
    intro i hi hh e hA
    have hi : i = 201 := by omega
    subst hi
    refine p_run (pc' := 31) [.iload_n 3, .sipush 200] mkX8_reaches (by decide +kernel) rfl rfl ?_
    refine p_icmp_gt (off := 23) 54 (by decide +kernel) (by decide) (fun c1 => ?_) (fun c1 => ?_)
    · refine p_run (pc' := 55) [.aload_n 0] mkX8_reaches (by decide +kernel) rfl rfl ?_
      refine p_callVw (putsBack_ok w (k := k - 1) (by omega) _) kvX8_192 (by decide +kernel) (by decide) rfl (by omega) rfl rfl rfl rfl rfl ?_
      refine p_run (pc' := 62) [.iload_n 3, .sipush 200] mkX8_reaches (by decide +kernel) rfl rfl ?_
      refine p_icmp_le (off := 8) 70 (by decide +kernel) (by decide) (fun c2 => ?_) (fun c2 => ?_)
      · exact False.elim (by revert c2; decide)
      · refine p_run (pc' := 71) [.ldc 195, .goto 4] mkX8_reaches (by decide +kernel) rfl rfl ?_
        refine p_iret rfl rfl (by decide +kernel) ?_
        exact ⟨rfl, back_row (h2 := hh) hA⟩
    · exact False.elim (by revert c1; decide)
  | succ m ih =>
    intro i hi hh e hA
    refine p_run (pc' := 31) [.iload_n 3, .sipush 200] mkX8_reaches (by decide +kernel) rfl rfl ?_
    refine p_icmp_gt (off := 23) 54 (by decide +kernel) (by decide) (fun c1 => ?_) (fun c1 => ?_)
    · exact absurd c1 (by rw [oI]; exact nI_nlt (by omega) (by omega))
    · refine p_run (pc' := 37) [.aload_n 0, .iload_n 1, .iconst 0] mkX8_reaches (by decide +kernel) rfl rfl ?_
      refine p_callVv (at_ok w (k := k - 1) b 0 _ (by omega)) kvX8_79 (by decide +kernel) (by decide) rfl (by omega) rfl rfl rfl rfl rfl ?_
      refine p_run (pc' := 41) [.iload_n 2] mkX8_reaches (by decide +kernel) rfl rfl ?_
      refine p_icmp_ge (off := 13) 54 (by decide +kernel) (by decide) (fun c3 => ?_) (fun c3 => ?_)
      · have hp : (fun n => decide (v ≤ bK (nsF (h 97) n) b 0)) i = true := by simp only [decide_eq_true_eq]; rw [← e]; exact c3
        refine p_run (pc' := 55) [.aload_n 0] mkX8_reaches (by decide +kernel) rfl rfl ?_
        refine p_callVw (putsBack_ok w (k := k - 1) (by omega) _) kvX8_192 (by decide +kernel) (by decide) rfl (by omega) rfl rfl rfl rfl rfl ?_
        refine p_run (pc' := 62) [.iload_n 3, .sipush 200] mkX8_reaches (by decide +kernel) rfl rfl ?_
        refine p_icmp_le (off := 8) 70 (by decide +kernel) (by decide) (fun c4 => ?_) (fun c4 => ?_)
        · refine p_run (pc' := 71) [.iload_n 3] mkX8_reaches (by decide +kernel) rfl rfl ?_
          refine p_iret rfl rfl (by decide +kernel) ?_
          exact ⟨by rw [fstF, if_pos hp]; rfl, back_row (h2 := hh) hA⟩
        · exact absurd (by rw [oI]; exact nI_le (by omega) (by omega)) c4
      · have hp : ¬ (fun n => decide (v ≤ bK (nsF (h 97) n) b 0)) i = true := by simp only [decide_eq_true_eq]; rw [← e]; exact (fun q => c3 q)
        refine p_run (pc' := 45) [.aload_n 0] mkX8_reaches (by decide +kernel) rfl rfl ?_
        refine p_callVo (night_ok w (k := k - 1) (by omega) hh (by rw [e]; exact nsF_Iv hI i) (by rw [e]; exact hT.of (fun j hj => nsF_out hI (by omega) i))) (fun _ _ q => q.1) kvX8_170 (by decide +kernel) (by decide) rfl (by omega) rfl rfl rfl rfl rfl (fun h' hq => ?_)
        obtain ⟨-, e2, hA2⟩ := hq
        refine p_run (pc' := 27) [.iinc 3 1, .goto (-24)] mkX8_reaches (by decide +kernel) rfl rfl ?_
        rw [fstF, if_neg hp]
        refine Wp.eqL ?_ (ih (i + 1) (by omega) _ ?_ (hA.tr hA2))
        · rw [show nI i + Int32.ofInt 1 = nI (i + 1) by simp only [oI, nI_add]]
        · rw [e2, e, nsF]
set_option maxRecDepth 20000 in
set_option maxHeartbeats 4000000 in
theorem r_reaches (w : Wt) {k : Nat} (hk : 6 ≤ k) (b : Nat) (hb : b < 4) (v : Int32) (hv : inR v 0 999) (h : Mm) (hI : Iv (h 97)) (hT : Tq (h 97)) : Ok w k MX8_reaches [.ref 96, .int (nI b), .int v] h (Rs [99, 107, 108] (oN (fstF (fun n => decide (v ≤ bK (nsF (h 97) n) b 0)) 0 201)) h) := by
  show Wp w k MX8_reaches _ 0 [some (.ref 96), some (.int (nI b)), some (.int v), none] [] h
  refine p_run (pc' := 1) [.iload_n 1] mkX8_reaches (by decide +kernel) rfl rfl ?_
  refine p_callSv (isBranch_t w (k := k - 1) (by omega) _ _ (in_nI (lo := 0) (hi := 3) (by omega) (Nat.le_of_lt_succ hb) (by omega))) ksX8_120 (by decide +kernel) (by omega) rfl rfl rfl rfl rfl ?_
  refine p_if_eq (off := 14) 18 (by decide +kernel) (by decide) (fun c4 => ?_) (fun c4 => ?_)
  · exact False.elim (by revert c4; decide)
  · refine p_run (pc' := 12) [.iload_n 2, .iconst 0, .sipush 999] mkX8_reaches (by decide +kernel) rfl rfl ?_
    refine p_callSv (in_t w (k := k - 1) _ _ _ _ (hv)) ksX8_75 (by decide +kernel) (by omega) rfl rfl rfl rfl rfl ?_
    refine p_if_ne (off := 6) 21 (by decide +kernel) (by decide) (fun c15 => ?_) (fun c15 => ?_)
    · refine p_run (pc' := 22) [.aload_n 0] mkX8_reaches (by decide +kernel) rfl rfl ?_
      refine p_callVw (thinks_ok w (k := k - 1) (by omega) h) kvX8_189 (by decide +kernel) (by decide) rfl (by omega) rfl rfl rfl rfl rfl ?_
      refine p_run (pc' := 27) [.iconst 0, .istore_n 3] mkX8_reaches (by decide +kernel) rfl rfl ?_
      exact reaches_loop w (by omega) b hb v h hI hT 201 0 (by omega) _ (wrN (by decide)) Ag.rf
    · exact False.elim (by revert c15; decide)
set_option maxRecDepth 20000 in
set_option maxHeartbeats 4000000 in
theorem r_leaves_bad (w : Wt) {k : Nat} (hk : 2 ≤ k) (a : Int32) (h : Mm)  (hb : ¬ (isD (h 97) a)) : Ok w k MX8_leaves [.ref 96, .int a] h (Rv BADv h) := by
  show Wp w k MX8_leaves _ 0 [some (.ref 96), some (.int a), none, none] [] h
  refine p_run (pc' := 2) [.aload_n 0, .iload_n 1] mkX8_leaves (by decide +kernel) rfl rfl ?_
  refine p_callVv (risDigger_ok w (k := k - 1) (by omega) _ _) kvX8_129 (by decide +kernel) (by decide) rfl (by omega) rfl rfl rfl rfl rfl ?_
  refine p_if_ne (off := 6) 11 (by decide +kernel) (by decide) (fun c5 => ?_) (fun c5 => ?_)
  · exact absurd (bI1.mp c5) hb
  · refine p_run (pc' := 10) [.ldc 123] mkX8_leaves (by decide +kernel) rfl rfl ?_
    refine p_iret rfl rfl (by decide +kernel) ?_
    exact ⟨rfl, rfl⟩
set_option maxRecDepth 20000 in
set_option maxHeartbeats 4000000 in
theorem leaves_loop (w : Wt) {k : Nat} (hk : 6 ≤ k) (d : Nat) (hd : d < 10) (h : Mm) (hI : Iv (h 97)) (hT : Tq (h 97)) : ∀ (m i : Nat), i + m = 201 → ∀ hh : Mm, hh 97 = nsF (h 97) i → Ag [97, 107, 108] (wr h 99 (h 97)) hh → Wp w k MX8_leaves (Rs [99, 107, 108] (oN (fstF (fun n => decide (dK (nsF (h 97) n) d 3 ≠ dK (h 97) d 3)) i m)) h) 24 [some (.ref 96), some (.int (nI d)), some (.int (dK (h 97) d 3)), some (.int (nI i))] [] hh := by
  intro m
  induction m with
  | zero =>
    intro i hi hh e hA
    have hi : i = 201 := by omega
    subst hi
    refine p_run (pc' := 28) [.iload_n 3, .sipush 200] mkX8_leaves (by decide +kernel) rfl rfl ?_
    refine p_icmp_gt (off := 23) 51 (by decide +kernel) (by decide) (fun c1 => ?_) (fun c1 => ?_)
    · refine p_run (pc' := 52) [.aload_n 0] mkX8_leaves (by decide +kernel) rfl rfl ?_
      refine p_callVw (putsBack_ok w (k := k - 1) (by omega) _) kvX8_192 (by decide +kernel) (by decide) rfl (by omega) rfl rfl rfl rfl rfl ?_
      refine p_run (pc' := 59) [.iload_n 3, .sipush 200] mkX8_leaves (by decide +kernel) rfl rfl ?_
      refine p_icmp_le (off := 8) 67 (by decide +kernel) (by decide) (fun c2 => ?_) (fun c2 => ?_)
      · exact False.elim (by revert c2; decide)
      · refine p_run (pc' := 68) [.ldc 195, .goto 4] mkX8_leaves (by decide +kernel) rfl rfl ?_
        refine p_iret rfl rfl (by decide +kernel) ?_
        exact ⟨rfl, back_row (h2 := hh) hA⟩
    · exact False.elim (by revert c1; decide)
  | succ m ih =>
    intro i hi hh e hA
    refine p_run (pc' := 28) [.iload_n 3, .sipush 200] mkX8_leaves (by decide +kernel) rfl rfl ?_
    refine p_icmp_gt (off := 23) 51 (by decide +kernel) (by decide) (fun c1 => ?_) (fun c1 => ?_)
    · exact absurd c1 (by rw [oI]; exact nI_nlt (by omega) (by omega))
    · refine p_run (pc' := 34) [.aload_n 0, .iload_n 1, .iconst 3] mkX8_leaves (by decide +kernel) rfl rfl ?_
      refine p_callVv (of_ok w (k := k - 1) d 3 _ (by omega)) kvX8_83 (by decide +kernel) (by decide) rfl (by omega) rfl rfl rfl rfl rfl ?_
      refine p_run (pc' := 38) [.iload_n 2] mkX8_leaves (by decide +kernel) rfl rfl ?_
      refine p_icmp_ne (off := 13) 51 (by decide +kernel) (by decide) (fun c3 => ?_) (fun c3 => ?_)
      · have hp : (fun n => decide (dK (nsF (h 97) n) d 3 ≠ dK (h 97) d 3)) i = true := by simp only [decide_eq_true_eq]; rw [← e]; exact c3
        refine p_run (pc' := 52) [.aload_n 0] mkX8_leaves (by decide +kernel) rfl rfl ?_
        refine p_callVw (putsBack_ok w (k := k - 1) (by omega) _) kvX8_192 (by decide +kernel) (by decide) rfl (by omega) rfl rfl rfl rfl rfl ?_
        refine p_run (pc' := 59) [.iload_n 3, .sipush 200] mkX8_leaves (by decide +kernel) rfl rfl ?_
        refine p_icmp_le (off := 8) 67 (by decide +kernel) (by decide) (fun c4 => ?_) (fun c4 => ?_)
        · refine p_run (pc' := 68) [.iload_n 3] mkX8_leaves (by decide +kernel) rfl rfl ?_
          refine p_iret rfl rfl (by decide +kernel) ?_
          exact ⟨by rw [fstF, if_pos hp]; rfl, back_row (h2 := hh) hA⟩
        · exact absurd (by rw [oI]; exact nI_le (by omega) (by omega)) c4
      · have hp : ¬ (fun n => decide (dK (nsF (h 97) n) d 3 ≠ dK (h 97) d 3)) i = true := by simp only [decide_eq_true_eq]; rw [← e]; exact (fun q => q c3)
        refine p_run (pc' := 42) [.aload_n 0] mkX8_leaves (by decide +kernel) rfl rfl ?_
        refine p_callVo (night_ok w (k := k - 1) (by omega) hh (by rw [e]; exact nsF_Iv hI i) (by rw [e]; exact hT.of (fun j hj => nsF_out hI (by omega) i))) (fun _ _ q => q.1) kvX8_170 (by decide +kernel) (by decide) rfl (by omega) rfl rfl rfl rfl rfl (fun h' hq => ?_)
        obtain ⟨-, e2, hA2⟩ := hq
        refine p_run (pc' := 24) [.iinc 3 1, .goto (-24)] mkX8_leaves (by decide +kernel) rfl rfl ?_
        rw [fstF, if_neg hp]
        refine Wp.eqL ?_ (ih (i + 1) (by omega) _ ?_ (hA.tr hA2))
        · rw [show nI i + Int32.ofInt 1 = nI (i + 1) by simp only [oI, nI_add]]
        · rw [e2, e, nsF]
set_option maxRecDepth 20000 in
set_option maxHeartbeats 4000000 in
theorem r_leaves (w : Wt) {k : Nat} (hk : 6 ≤ k) (d : Nat) (h : Mm) (hI : Iv (h 97)) (hT : Tq (h 97)) (hd : d < nd (h 97)) : Ok w k MX8_leaves [.ref 96, .int (nI d)] h (Rs [99, 107, 108] (oN (fstF (fun n => decide (dK (nsF (h 97) n) d 3 ≠ dK (h 97) d 3)) 0 201)) h) := by
  show Wp w k MX8_leaves _ 0 [some (.ref 96), some (.int (nI d)), none, none] [] h
  obtain ⟨en, hn10⟩ := hI.nd
  refine p_run (pc' := 2) [.aload_n 0, .iload_n 1] mkX8_leaves (by decide +kernel) rfl rfl ?_
  refine p_callVv (isDigger_t w (k := k - 1) (by omega) _ _ (isD_nI en hd hn10)) kvX8_129 (by decide +kernel) (by decide) rfl (by omega) rfl rfl rfl rfl rfl ?_
  refine p_if_ne (off := 6) 11 (by decide +kernel) (by decide) (fun c5 => ?_) (fun c5 => ?_)
  · refine p_run (pc' := 12) [.aload_n 0] mkX8_leaves (by decide +kernel) rfl rfl ?_
    refine p_callVw (thinks_ok w (k := k - 1) (by omega) h) kvX8_189 (by decide +kernel) (by decide) rfl (by omega) rfl rfl rfl rfl rfl ?_
    refine p_run (pc' := 18) [.aload_n 0, .iload_n 1, .iconst 3] mkX8_leaves (by decide +kernel) rfl rfl ?_
    refine p_callVv (of_ok w (k := k - 1) d 3 _ (by omega)) kvX8_83 (by decide +kernel) (by decide) rfl (by omega) rfl rfl rfl rfl rfl ?_
    rw [wrN (by decide)]
    refine p_run (pc' := 24) [.istore_n 2, .iconst 0, .istore_n 3] mkX8_leaves (by decide +kernel) rfl rfl ?_
    exact leaves_loop w (by omega) d (by omega) h hI hT 201 0 (by omega) _ (wrN (by decide)) Ag.rf
  · exact False.elim (by revert c5; decide)
set_option maxRecDepth 20000 in
set_option maxHeartbeats 4000000 in
theorem r_nights_bad (w : Wt) {k : Nat} (hk : 2 ≤ k) (a : Int32) (h : Mm)  (hb : ¬ (inR a 1 100)) : Ok w k MX8_nights [.ref 96, .int a] h (Rv BADv h) := by
  show Wp w k MX8_nights _ 0 [some (.ref 96), some (.int a), none] [] h
  refine p_run (pc' := 4) [.iload_n 1, .iconst 1, .bipush 100] mkX8_nights (by decide +kernel) rfl rfl ?_
  refine p_callSv (in_ok w (k := k - 1) _ _ _ _) ksX8_75 (by decide +kernel) (by omega) rfl rfl rfl rfl rfl ?_
  refine p_if_ne (off := 6) 13 (by decide +kernel) (by decide) (fun c7 => ?_) (fun c7 => ?_)
  · exact absurd (bI1.mp c7) hb
  · refine p_run (pc' := 12) [.ldc 123] mkX8_nights (by decide +kernel) rfl rfl ?_
    refine p_iret rfl rfl (by decide +kernel) ?_
    exact ⟨rfl, rfl⟩
theorem clF_sub {a b n : Nat} (ha : b ≤ a) (ha2 : a < 2 ^ 31) (hn : n < 2 ^ 31) : clF (nI a - nI b) (nI 0) (nI n) = nI (min (a - b) n) := by rw [nIs ha, clF_nI (by omega) hn]
set_option maxRecDepth 20000 in
set_option maxHeartbeats 4000000 in
theorem r_nights (w : Wt) {k : Nat} (hk : 7 ≤ k) (n : Nat) (hn : 1 ≤ n ∧ n ≤ 100) (h : Mm) (hI : Iv (h 97)) (hT : Tq (h 97)) (hq : In (h 97 2) 9999) : Ok w k MX8_nights [.ref 96, .int (nI n)] h (fun r h' => r = some (.int (hlF (nsF (h 97) (min (9999 - nN (h 97 2)) n)) - hlF (h 97))) ∧ h' 97 = nsF (h 97) (min (9999 - nN (h 97 2)) n) ∧ Ag [97, 107, 108] h h') := by
  show Wp w k MX8_nights _ 0 [some (.ref 96), some (.int (nI n)), none] [] h
  refine p_run (pc' := 4) [.iload_n 1, .iconst 1, .bipush 100] mkX8_nights (by decide +kernel) rfl rfl ?_
  refine p_callSv (in_t w (k := k - 1) _ _ _ _ (in_nI (lo := 1) (hi := 100) hn.1 hn.2 (by omega))) ksX8_75 (by decide +kernel) (by omega) rfl rfl rfl rfl rfl ?_
  refine p_if_ne (off := 6) 13 (by decide +kernel) (by decide) (fun c7 => ?_) (fun c7 => ?_)
  · refine p_run (pc' := 15) [.aload_n 0, .iconst 4] mkX8_nights (by decide +kernel) rfl rfl ?_
    refine p_callVv (sums_ok w (k := k - 1) (by omega) 4 (by omega) h hI) kvX8_173 (by decide +kernel) (by decide) rfl (by omega) rfl rfl rfl rfl rfl ?_
    refine p_run (pc' := 28) [.istore_n 2, .aload_n 0, .sipush 9999, .aload_n 0, .getfield 9, .iconst 2] mkX8_nights (by decide +kernel) rfl rfl ?_
    refine p_iald (2) (by decide +kernel) rfl rfl (by simp only [oI]) (by omega) ?_
    have hq2 := hq.2
    refine Wp.eqS (st' := [.int (nI (nN (h 97 2))), .int (Int32.ofInt 9999), .ref 96]) (by rw [← hq.1]) ?_
    refine p_run (pc' := 32) [.isub, .iconst 0, .iload_n 1] mkX8_nights (by decide +kernel) rfl rfl ?_
    refine p_callSv (rwithin_ok w (k := k - 1) _ _ _ _) ksX8_102 (by decide +kernel) (by omega) rfl rfl rfl rfl rfl ?_
    rw [oI, oI, clF_sub (by omega) (by omega) (by omega)]
    refine p_callVo (goesOn_ok w (k := k - 1) (by omega) (min (9999 - nN (h 97 2)) n) (by omega) h hI hT) (fun _ _ q => q.1) kvX8_176 (by decide +kernel) (by decide) rfl (by omega) rfl rfl rfl rfl rfl (fun h' hq => ?_)
    obtain ⟨-, e1, hA1⟩ := hq
    have e1 : h' 97 = nsF (h 97) (min (9999 - nN (h 97 2)) n) := e1
    refine p_run (pc' := 40) [.aload_n 0, .iconst 4] mkX8_nights (by decide +kernel) rfl rfl ?_
    refine p_callVv (sums_ok w (k := k - 1) (by omega) 4 (by omega) h' (by rw [e1]; exact nsF_Iv hI _)) kvX8_173 (by decide +kernel) (by decide) rfl (by omega) rfl rfl rfl rfl rfl ?_
    refine p_run (pc' := 45) [.iload_n 2, .isub] mkX8_nights (by decide +kernel) rfl rfl ?_
    refine p_iret rfl rfl (by decide +kernel) ?_
    exact ⟨by rw [e1]; rfl, e1, hA1⟩
  · exact False.elim (by revert c7; decide)
def belF (N : Vc) (j : Nat) : Int32 := if j < 2 then N (5 + j) else if j = 2 then hlF N else if j = 3 then sumF (fun d => dK N d 2) (nd N) else if j = 4 then nI (setF (peB N) 4) else nI (frF N 4)
set_option maxRecDepth 20000 in
set_option maxHeartbeats 4000000 in
theorem r_below (w : Wt) {k : Nat} (hk : 3 ≤ k) (a : Int32) (h : Mm) (hI : Iv (h 97)) : Ok w k MX8_below [.ref 96, .int a] h (Rv (@ite _ (inR a 0 5) (Classical.propDecidable _) (belF (h 97) (nN a)) BADv) h) := by
  show Wp w k MX8_below _ 0 [some (.ref 96), some (.int a)] [] h
  refine p_run (pc' := 1) [.iload_n 1] mkX8_below (by decide +kernel) rfl rfl ?_
  refine p_table (dflt := 70) (lo := 0) (hi := 5) (offs := #[39, 39, 48, 54, 60, 65]) (len := 39) (by decide +kernel) (by decide) (fun j hj hx => ?_) (fun hx => ?_)
  · match j, hj, hx with
    | 0, _, hx =>
      have hx : a = Int32.ofInt (0) := hx
      refine ⟨39, 40, rfl, rfl, ?_⟩
      refine p_run (pc' := 47) [.aload_n 0, .getfield 9, .iconst 5, .iload_n 1, .iadd] mkX8_below (by decide +kernel) rfl rfl ?_
      refine p_iald (5 + 0) (by decide +kernel) rfl rfl (by rw [hx]; rfl) (by omega) ?_
      refine p_iret rfl rfl (by decide +kernel) ?_
      exact ⟨by rw [if_pos (by rw [hx]; exact ⟨by decide, by decide⟩), hx]; rfl, rfl⟩
    | 1, _, hx =>
      have hx : a = Int32.ofInt (1) := hx
      refine ⟨39, 40, rfl, rfl, ?_⟩
      refine p_run (pc' := 47) [.aload_n 0, .getfield 9, .iconst 5, .iload_n 1, .iadd] mkX8_below (by decide +kernel) rfl rfl ?_
      refine p_iald (5 + 1) (by decide +kernel) rfl rfl (by rw [hx]; rfl) (by omega) ?_
      refine p_iret rfl rfl (by decide +kernel) ?_
      exact ⟨by rw [if_pos (by rw [hx]; exact ⟨by decide, by decide⟩), hx]; rfl, rfl⟩
    | 2, _, hx =>
      have hx : a = Int32.ofInt (2) := hx
      refine ⟨48, 49, rfl, rfl, ?_⟩
      refine p_run (pc' := 51) [.aload_n 0, .iconst 4] mkX8_below (by decide +kernel) rfl rfl ?_
      refine p_callVv (sums_ok w (k := k - 1) (by omega) 4 (by omega) _ hI) kvX8_173 (by decide +kernel) (by decide) rfl (by omega) rfl rfl rfl rfl rfl ?_
      refine p_iret rfl rfl (by decide +kernel) ?_
      exact ⟨by rw [if_pos (by rw [hx]; exact ⟨by decide, by decide⟩), hx]; rfl, rfl⟩
    | 3, _, hx =>
      have hx : a = Int32.ofInt (3) := hx
      refine ⟨54, 55, rfl, rfl, ?_⟩
      refine p_run (pc' := 57) [.aload_n 0, .iconst 2] mkX8_below (by decide +kernel) rfl rfl ?_
      refine p_callVv (sums_ok w (k := k - 1) (by omega) 2 (by omega) _ hI) kvX8_173 (by decide +kernel) (by decide) rfl (by omega) rfl rfl rfl rfl rfl ?_
      refine p_iret rfl rfl (by decide +kernel) ?_
      exact ⟨by rw [if_pos (by rw [hx]; exact ⟨by decide, by decide⟩), hx]; rfl, rfl⟩
    | 4, _, hx =>
      have hx : a = Int32.ofInt (4) := hx
      refine ⟨60, 61, rfl, rfl, ?_⟩
      refine p_run (pc' := 62) [.aload_n 0] mkX8_below (by decide +kernel) rfl rfl ?_
      refine p_callVv (peopled_ok w (k := k - 1) (by omega) h hI) kvX8_179 (by decide +kernel) (by decide) rfl (by omega) rfl rfl rfl rfl rfl ?_
      refine p_iret rfl rfl (by decide +kernel) ?_
      exact ⟨by rw [if_pos (by rw [hx]; exact ⟨by decide, by decide⟩), hx]; rfl, rfl⟩
    | 5, _, hx =>
      have hx : a = Int32.ofInt (5) := hx
      refine ⟨65, 66, rfl, rfl, ?_⟩
      refine p_run (pc' := 67) [.aload_n 0] mkX8_below (by decide +kernel) rfl rfl ?_
      refine p_callVv (front_ok w (k := k - 1) (by omega) h) kvX8_182 (by decide +kernel) (by decide) rfl (by omega) rfl rfl rfl rfl rfl ?_
      refine p_iret rfl rfl (by decide +kernel) ?_
      exact ⟨by rw [if_pos (by rw [hx]; exact ⟨by decide, by decide⟩), hx]; rfl, rfl⟩
    | j + 6, hj, _ => exact absurd hj (by simp)
  · refine ⟨71, rfl, ?_⟩
    refine p_run (pc' := 73) [.ldc 123] mkX8_below (by decide +kernel) rfl rfl ?_
    refine p_iret rfl rfl (by decide +kernel) ?_
    exact ⟨by rw [if_neg (fun q => by have h1 := Int32.le_iff_toInt_le.mp q.1; have h2 := Int32.le_iff_toInt_le.mp q.2; rw [nI_toInt (by omega)] at h1 h2; omega)], rfl⟩
end
section
/-! the reference: whom to send, light, wax -/
def poF (N : Vc) (m : Nat) : Nat → Vc
  | 0 => N
  | i + 1 => if m / 2 ^ i % 2 = 1 then poF N m i else upd (poF N m i) (20 + 5 * i + 2) (nI 0)
theorem poF_Iv {N : Vc} (hI : Iv N) (m : Nat) : ∀ i, i ≤ 10 → Iv (poF N m i)
  | 0, _ => hI
  | i + 1, h => by
    have ih := poF_Iv hI m i (by omega)
    rw [poF]
    split
    · exact ih
    · exact ih.dk (j := 2) (by omega) (by omega) (In_nI (Nat.zero_le _) (by decide))
theorem poF_out {N : Vc} {m j : Nat} : ∀ (i : Nat), (∀ d, d < i → j ≠ 20 + 5 * d + 2) → poF N m i j = N j
  | 0, _ => rfl
  | i + 1, h => by
    have ih := poF_out (N := N) (m := m) (j := j) i (fun d hd => h d (by omega))
    rw [poF]
    split
    · exact ih
    · rw [upd_n (h i (by omega)), ih]
def liF (p : Nat → Bool) : Nat → Option Nat
  | 0 => none
  | s + 1 => match liF p s with
    | none => if p s = true then some s else none
    | some b => if pcF s < pcF b ∧ p s = true then some s else some b
theorem liF_lt {p : Nat → Bool} : ∀ {n b : Nat}, liF p n = some b → b < n
  | 0, b, h => by simp [liF] at h
  | n + 1, b, h => by
    rw [liF] at h
    cases hl : liF p n with
    | none =>
      rw [hl] at h
      simp only at h
      split at h
      · cases h; omega
      · cases h
    | some c =>
      rw [hl] at h
      simp only at h
      have := liF_lt hl
      split at h
      · cases h; omega
      · cases h; omega
noncomputable def liP (N : Vc) (n : Nat) (v : Int32) (s : Nat) : Bool := @decide (v ≤ hlF (nsF (poF N s (nd N)) n)) (Classical.propDecidable _)
def bsF (f : Nat → Int32) : Nat → Nat × Int32
  | 0 => (0, Int32.ofInt (-1))
  | i + 1 => if (bsF f i).2 < f i then (i, f i) else bsF f i
theorem nd_upd {N : Vc} {j : Nat} {x : Int32} (h : j ≠ 1) : nd (upd N j x) = nd N := by unfold nd; rw [upd_n (Ne.symm h)]
theorem bit_cases (m i : Nat) : m / 2 ^ i % 2 = 0 ∨ m / 2 ^ i % 2 = 1 := by omega
set_option maxRecDepth 20000 in
set_option maxHeartbeats 4000000 in
theorem earthOn_ok (w : Wt) {k : Nat} (hk : 7 ≤ k) (d n : Nat) (hd : d < 10) (hn : n ≤ 100) (h : Mm) (hI : Iv (h 97)) (hT : Tq (h 97)) : Ok w k MX8_earthOn [.ref 96, .int (nI d), .int (nI n)] h (fun r h' => r = some (.int (dK (nsF (h 97) n) d 4)) ∧ h' 97 = h 99 ∧ Ag [97, 107, 108] h h') := by
  show Wp w k MX8_earthOn _ 0 [some (.ref 96), some (.int (nI d)), some (.int (nI n)), none] [] h
  refine p_run (pc' := 2) [.aload_n 0, .iload_n 2] mkX8_earthOn (by decide +kernel) rfl rfl ?_
  refine p_callVo (goesOn_ok w (k := k - 1) (by omega) n (by omega) h hI hT) (fun _ _ q => q.1) kvX8_176 (by decide +kernel) (by decide) rfl (by omega) rfl rfl rfl rfl rfl (fun h' hq => ?_)
  obtain ⟨-, e1, hA1⟩ := hq
  have e1 : h' 97 = nsF (h 97) n := e1
  refine p_run (pc' := 8) [.aload_n 0, .iload_n 1, .iconst 4] mkX8_earthOn (by decide +kernel) rfl rfl ?_
  refine p_callVv (of_ok w (k := k - 1) d 4 _ (by omega)) kvX8_83 (by decide +kernel) (by decide) rfl (by omega) rfl rfl rfl rfl rfl ?_
  refine p_run (pc' := 13) [.istore_n 3, .aload_n 0] mkX8_earthOn (by decide +kernel) rfl rfl ?_
  refine p_callVw (putsBack_ok w (k := k - 1) (by omega) _) kvX8_192 (by decide +kernel) (by decide) rfl (by omega) rfl rfl rfl rfl rfl ?_
  refine p_run (pc' := 17) [.iload_n 3] mkX8_earthOn (by decide +kernel) rfl rfl ?_
  refine p_iret rfl rfl (by decide +kernel) ?_
  exact ⟨by rw [e1]; rfl, by rw [wrS, hA1 99 (by decide)], fun a ha => by rw [wrN (fun e => ha (by rw [e]; decide))]; exact hA1 a ha⟩
set_option maxRecDepth 20000 in
set_option maxHeartbeats 4000000 in
theorem r_wax_bad (w : Wt) {k : Nat} (hk : 2 ≤ k) (a b c : Int32) (h : Mm)  (hb : ¬ (isD (h 97) a ∧ inR b 0 30 ∧ inR c 0 9999)) : Ok w k MX8_wax [.ref 96, .int a, .int b, .int c] h (Rv BADv h) := by
  show Wp w k MX8_wax _ 0 [some (.ref 96), some (.int a), some (.int b), some (.int c), none] [] h
  refine p_run (pc' := 2) [.aload_n 0, .iload_n 1] mkX8_wax (by decide +kernel) rfl rfl ?_
  refine p_callVv (risDigger_ok w (k := k - 1) (by omega) _ _) kvX8_129 (by decide +kernel) (by decide) rfl (by omega) rfl rfl rfl rfl rfl ?_
  refine p_if_eq (off := 24) 29 (by decide +kernel) (by decide) (fun c5 => ?_) (fun c5 => ?_)
  · refine p_run (pc' := 31) [.ldc 123] mkX8_wax (by decide +kernel) rfl rfl ?_
    refine p_iret rfl rfl (by decide +kernel) ?_
    exact ⟨rfl, rfl⟩
  · refine p_run (pc' := 12) [.iload_n 2, .iconst 0, .bipush 30] mkX8_wax (by decide +kernel) rfl rfl ?_
    refine p_callSv (in_ok w (k := k - 1) _ _ _ _) ksX8_75 (by decide +kernel) (by omega) rfl rfl rfl rfl rfl ?_
    refine p_if_eq (off := 14) 29 (by decide +kernel) (by decide) (fun c15 => ?_) (fun c15 => ?_)
    · refine p_run (pc' := 31) [.ldc 123] mkX8_wax (by decide +kernel) rfl rfl ?_
      refine p_iret rfl rfl (by decide +kernel) ?_
      exact ⟨rfl, rfl⟩
    · refine p_run (pc' := 23) [.iload_n 3, .iconst 0, .sipush 9999] mkX8_wax (by decide +kernel) rfl rfl ?_
      refine p_callSv (in_ok w (k := k - 1) _ _ _ _) ksX8_75 (by decide +kernel) (by omega) rfl rfl rfl rfl rfl ?_
      refine p_if_ne (off := 6) 32 (by decide +kernel) (by decide) (fun c26 => ?_) (fun c26 => ?_)
      · exact absurd (⟨bI1.mp c5, bI1.mp c15, bI1.mp c26⟩) hb
      · refine p_run (pc' := 31) [.ldc 123] mkX8_wax (by decide +kernel) rfl rfl ?_
        refine p_iret rfl rfl (by decide +kernel) ?_
        exact ⟨rfl, rfl⟩
set_option maxRecDepth 20000 in
set_option maxHeartbeats 4000000 in
theorem wax_loop (w : Wt) {k : Nat} (hk : 8 ≤ k) (d n : Nat) (hd : d < 10) (hn : n ≤ 30) (v : Int32) (h : Mm) (hI : Iv (h 97)) (hT : Tq (h 97)) : ∀ (m i : Nat), i + m = 100 → ∀ hh : Mm, hh 97 = h 97 → hh 99 = h 97 → Ag [99, 107, 108] h hh → Wp w k MX8_wax (fun r h' => r = some (.int (oN (fstF (fun c => decide (v ≤ dK (nsF (upd (h 97) (20 + 5 * d + 2) (nI c)) n) d 4)) i m))) ∧ Ag [99, 107, 108] h h') 39 [some (.ref 96), some (.int (nI d)), some (.int (nI n)), some (.int v), some (.int (nI i))] [] hh := by
  intro m
  induction m with
  | zero =>
    intro i hi hh e e9 hA
    have hi : i = 100 := by omega
    subst hi
    refine p_run (pc' := 43) [.iload 4, .bipush 99] mkX8_wax (by decide +kernel) rfl rfl ?_
    refine p_icmp_gt (off := 30) 73 (by decide +kernel) (by decide) (fun c1 => ?_) (fun c1 => ?_)
    · refine p_run (pc' := 75) [.ldc 195] mkX8_wax (by decide +kernel) rfl rfl ?_
      refine p_iret rfl rfl (by decide +kernel) ?_
      exact ⟨rfl, hA⟩
    · exact False.elim (by revert c1; decide)
  | succ m ih =>
    intro i hi hh e e9 hA
    refine p_run (pc' := 43) [.iload 4, .bipush 99] mkX8_wax (by decide +kernel) rfl rfl ?_
    refine p_icmp_gt (off := 30) 73 (by decide +kernel) (by decide) (fun c1 => ?_) (fun c1 => ?_)
    · exact absurd c1 (by rw [oI]; exact nI_nlt (by omega) (by omega))
    · refine p_run (pc' := 51) [.aload_n 0, .iload_n 1, .iconst 2, .iload 4] mkX8_wax (by decide +kernel) rfl rfl ?_
      refine p_callVw (put_ok w (k := k - 1) d 2 _ _ (by omega)) kvX8_116 (by decide +kernel) (by decide) rfl (by omega) rfl rfl rfl rfl rfl ?_
      have e2 : up hh 97 (20 + 5 * d + 2) (nI i) 97 = upd (h 97) (20 + 5 * d + 2) (nI i) := by rw [upS, e]
      refine p_run (pc' := 57) [.aload_n 0, .iload_n 1, .iload_n 2] mkX8_wax (by decide +kernel) rfl rfl ?_
      refine p_callVi (earthOn_ok w (k := k - 1) (by omega) d n hd (by omega) _ (by rw [e2]; exact hI.dk (j := 2) hd (by omega) (In_nI (by show i ≤ 99; omega) (by decide))) (by rw [e2]; exact hT.up (by omega))) (fun _ _ q => q.1) kvX8_199 (by decide +kernel) (by decide) rfl (by omega) rfl rfl rfl rfl rfl (fun h' hq => ?_)
      obtain ⟨-, e3, hA3⟩ := hq
      rw [e2]
      rw [upN (by decide), e9] at e3
      have hA4 : Ag [99, 107, 108] h h' := fun a ha => by
        by_cases q : a = 97
        · rw [q, e3]
        · rw [hA3 a (by simp at ha ⊢; omega), upN q]; exact hA a ha
      have e9' : h' 99 = h 97 := by rw [hA3 99 (by decide), upN (by decide), e9]
      refine p_run (pc' := 61) [.iload_n 3] mkX8_wax (by decide +kernel) rfl rfl ?_
      refine p_icmp_lt (off := 6) 67 (by decide +kernel) (by decide) (fun c2 => ?_) (fun c2 => ?_)
      · refine p_run (pc' := 39) [.iinc 4 1, .goto (-31)] mkX8_wax (by decide +kernel) rfl rfl ?_
        rw [fstF, if_neg (by simp only [decide_eq_true_eq]; exact Int32.not_le.mpr c2)]
        refine Wp.eqL ?_ (ih (i + 1) (by omega) _ e3 e9' hA4)
        rw [show nI i + Int32.ofInt 1 = nI (i + 1) by simp only [oI, nI_add]]
      · refine p_run (pc' := 66) [.iload 4] mkX8_wax (by decide +kernel) rfl rfl ?_
        refine p_iret rfl rfl (by decide +kernel) ?_
        exact ⟨by rw [fstF, if_pos (by simp only [decide_eq_true_eq]; exact Int32.not_lt.mp c2)]; rfl, hA4⟩
set_option maxRecDepth 20000 in
set_option maxHeartbeats 4000000 in
theorem r_wax (w : Wt) {k : Nat} (hk : 8 ≤ k) (d n : Nat) (v : Int32) (h : Mm) (hI : Iv (h 97)) (hT : Tq (h 97)) (hd : d < nd (h 97)) (hn : n ≤ 30) (hv : inR v 0 9999) : Ok w k MX8_wax [.ref 96, .int (nI d), .int (nI n), .int v] h (Rs [99, 107, 108] (oN (fstF (fun c => decide (v ≤ dK (nsF (upd (h 97) (20 + 5 * d + 2) (nI c)) n) d 4)) 0 100)) h) := by
  show Wp w k MX8_wax _ 0 [some (.ref 96), some (.int (nI d)), some (.int (nI n)), some (.int v), none] [] h
  obtain ⟨en, hn10⟩ := hI.nd
  refine p_run (pc' := 2) [.aload_n 0, .iload_n 1] mkX8_wax (by decide +kernel) rfl rfl ?_
  refine p_callVv (isDigger_t w (k := k - 1) (by omega) _ _ (isD_nI en hd hn10)) kvX8_129 (by decide +kernel) (by decide) rfl (by omega) rfl rfl rfl rfl rfl ?_
  refine p_if_eq (off := 24) 29 (by decide +kernel) (by decide) (fun c5 => ?_) (fun c5 => ?_)
  · exact False.elim (by revert c5; decide)
  · refine p_run (pc' := 12) [.iload_n 2, .iconst 0, .bipush 30] mkX8_wax (by decide +kernel) rfl rfl ?_
    refine p_callSv (in_t w (k := k - 1) _ _ _ _ (in_nI (lo := 0) (hi := 30) (by omega) hn (by omega))) ksX8_75 (by decide +kernel) (by omega) rfl rfl rfl rfl rfl ?_
    refine p_if_eq (off := 14) 29 (by decide +kernel) (by decide) (fun c15 => ?_) (fun c15 => ?_)
    · exact False.elim (by revert c15; decide)
    · refine p_run (pc' := 23) [.iload_n 3, .iconst 0, .sipush 9999] mkX8_wax (by decide +kernel) rfl rfl ?_
      refine p_callSv (in_t w (k := k - 1) _ _ _ _ (hv)) ksX8_75 (by decide +kernel) (by omega) rfl rfl rfl rfl rfl ?_
      refine p_if_ne (off := 6) 32 (by decide +kernel) (by decide) (fun c26 => ?_) (fun c26 => ?_)
      · refine p_run (pc' := 33) [.aload_n 0] mkX8_wax (by decide +kernel) rfl rfl ?_
        refine p_callVw (thinks_ok w (k := k - 1) (by omega) h) kvX8_189 (by decide +kernel) (by decide) rfl (by omega) rfl rfl rfl rfl rfl ?_
        refine p_run (pc' := 39) [.iconst 0, .istore 4] mkX8_wax (by decide +kernel) rfl rfl ?_
        exact wax_loop w hk d n (by omega) hn v h hI hT 100 0 (by omega) _ (wrN (by decide)) (wrS _ _ _) (Ag.wr (by decide))
      · exact False.elim (by revert c26; decide)
set_option maxRecDepth 20000 in
set_option maxHeartbeats 4000000 in
theorem best_loop (w : Wt) {k : Nat} (hk : 8 ≤ k) (spot last d n what : Nat) (hd : d < 10) (hn : n ≤ 60) (hw : what ≤ 1) (h : Mm) (hT : Tq (h 97)) (hs : spot < 70) (hl : last ≤ 5) (hI : ∀ x, x ≤ last → Iv (upd (h 97) spot (nI x))) : ∀ (m i : Nat), i + m = last + 1 → ∀ (hh : Mm) (x9 : Option Value), hh 97 = h 97 → hh 99 = h 97 → Ag [99, 107, 108] h hh → Wp w k MX8_bestOf (fun r h' => r = some (.int (if what = 0 then nI (bsF (fun x => dK (nsF (upd (h 97) spot (nI x)) n) d 4) (last + 1)).1 else (bsF (fun x => dK (nsF (upd (h 97) spot (nI x)) n) d 4) (last + 1)).2)) ∧ Ag [99, 107, 108] h h') 13 [some (.ref 96), some (.int (nI spot)), some (.int (nI last)), some (.int (nI d)), some (.int (nI n)), some (.int (nI what)), some (.int (nI (bsF (fun x => dK (nsF (upd (h 97) spot (nI x)) n) d 4) i).1)), some (.int (bsF (fun x => dK (nsF (upd (h 97) spot (nI x)) n) d 4) i).2), some (.int (nI i)), x9] [] hh := by
  intro m
  induction m with
  | zero =>
    intro i hi hh x9 e e9 hA
    have hi : i = last + 1 := by omega
    subst hi
    refine p_run (pc' := 16) [.iload 8, .iload_n 2] mkX8_bestOf (by decide +kernel) rfl rfl ?_
    refine p_icmp_gt (off := 58) 74 (by decide +kernel) (by decide) (fun c1 => ?_) (fun c1 => ?_)
    · refine p_run (pc' := 76) [.iload 5] mkX8_bestOf (by decide +kernel) rfl rfl ?_
      refine p_if_ne (off := 8) 84 (by decide +kernel) (by decide) (fun c76 => ?_) (fun c76 => ?_)
      · rw [nI_eq0 (by omega)] at c76
        refine p_run (pc' := 86) [.iload 7] mkX8_bestOf (by decide +kernel) rfl rfl ?_
        refine p_iret rfl rfl (by decide +kernel) ?_
        exact ⟨congrArg (fun x => some (Value.int x)) (by first | exact (if_pos c76).symm | exact (if_neg c76).symm), hA⟩
      · rw [nI_eq0 (by omega)] at c76
        refine p_run (pc' := 86) [.iload 6, .goto 5] mkX8_bestOf (by decide +kernel) rfl rfl ?_
        refine p_iret rfl rfl (by decide +kernel) ?_
        exact ⟨congrArg (fun x => some (Value.int x)) (by first | exact (if_pos c76).symm | exact (if_neg c76).symm), hA⟩
    · exact absurd (nI_lt (by omega) (by omega)) c1
  | succ m ih =>
    intro i hi hh x9 e e9 hA
    refine p_run (pc' := 16) [.iload 8, .iload_n 2] mkX8_bestOf (by decide +kernel) rfl rfl ?_
    refine p_icmp_gt (off := 58) 74 (by decide +kernel) (by decide) (fun c1 => ?_) (fun c1 => ?_)
    · exact absurd c1 (nI_nlt (by omega) (by omega))
    · refine p_run (pc' := 26) [.aload_n 0, .getfield 9, .iload_n 1, .iload 8] mkX8_bestOf (by decide +kernel) rfl rfl ?_
      refine p_iast (spot) (by decide +kernel) rfl rfl rfl (by omega)  ?_
      have e2 : up hh 97 spot (nI i) 97 = upd (h 97) spot (nI i) := by rw [upS, e]
      refine p_run (pc' := 31) [.aload_n 0, .iload_n 3, .iload 4] mkX8_bestOf (by decide +kernel) rfl rfl ?_
      refine p_callVi (earthOn_ok w (k := k - 1) (by omega) d n hd (by omega) _ (by rw [e2]; exact hI i (by omega)) (by rw [e2]; exact hT.up hs)) (fun _ _ q => q.1) kvX8_199 (by decide +kernel) (by decide) rfl (by omega) rfl rfl rfl rfl rfl (fun h' hq => ?_)
      obtain ⟨-, e3, hA3⟩ := hq
      rw [e2]
      rw [upN (by decide), e9] at e3
      have hA4 : Ag [99, 107, 108] h h' := fun a ha => by
        by_cases q : a = 97
        · rw [q, e3]
        · rw [hA3 a (by simp at ha ⊢; omega), upN q]; exact hA a ha
      have e9' : h' 99 = h 97 := by rw [hA3 99 (by decide), upN (by decide), e9]
      refine p_run (pc' := 40) [.istore 9, .iload 9, .iload 7] mkX8_bestOf (by decide +kernel) rfl rfl ?_
      refine p_icmp_le (off := 8) 48 (by decide +kernel) (by decide) (fun c40 => ?_) (fun c40 => ?_)
      · refine p_run (pc' := 56) [.iload 6, .istore 6, .iload 9, .iload 7] mkX8_bestOf (by decide +kernel) rfl rfl ?_
        refine p_icmp_le (off := 8) 64 (by decide +kernel) (by decide) (fun c56 => ?_) (fun c56 => ?_)
        · refine p_run (pc' := 13) [.iload 7, .istore 7, .iinc 8 1, .goto (-58)] mkX8_bestOf (by decide +kernel) rfl rfl ?_
          refine Wp.eqL ?_ (ih (i + 1) (by omega) _ (some (.int (dK (nsF (upd (h 97) spot (nI i)) n) d 4))) e3 e9' hA4)
          rw [bsF]
          first | (rw [if_neg (Int32.not_lt.mpr c40)]; rw [show nI i + Int32.ofInt 1 = nI (i + 1) by simp only [oI, nI_add]]; done) | (rw [if_pos (Int32.not_le.mp c40)]; rw [show nI i + Int32.ofInt 1 = nI (i + 1) by simp only [oI, nI_add]]; done) | exact absurd c40 c56 | exact absurd c56 c40
        · refine p_run (pc' := 13) [.iload 9, .goto 5, .istore 7, .iinc 8 1, .goto (-58)] mkX8_bestOf (by decide +kernel) rfl rfl ?_
          refine Wp.eqL ?_ (ih (i + 1) (by omega) _ (some (.int (dK (nsF (upd (h 97) spot (nI i)) n) d 4))) e3 e9' hA4)
          rw [bsF]
          first | (rw [if_neg (Int32.not_lt.mpr c40)]; rw [show nI i + Int32.ofInt 1 = nI (i + 1) by simp only [oI, nI_add]]; done) | (rw [if_pos (Int32.not_le.mp c40)]; rw [show nI i + Int32.ofInt 1 = nI (i + 1) by simp only [oI, nI_add]]; done) | exact absurd c40 c56 | exact absurd c56 c40
      · refine p_run (pc' := 56) [.iload 8, .goto 5, .istore 6, .iload 9, .iload 7] mkX8_bestOf (by decide +kernel) rfl rfl ?_
        refine p_icmp_le (off := 8) 64 (by decide +kernel) (by decide) (fun c56 => ?_) (fun c56 => ?_)
        · refine p_run (pc' := 13) [.iload 7, .istore 7, .iinc 8 1, .goto (-58)] mkX8_bestOf (by decide +kernel) rfl rfl ?_
          refine Wp.eqL ?_ (ih (i + 1) (by omega) _ (some (.int (dK (nsF (upd (h 97) spot (nI i)) n) d 4))) e3 e9' hA4)
          rw [bsF]
          first | (rw [if_neg (Int32.not_lt.mpr c40)]; rw [show nI i + Int32.ofInt 1 = nI (i + 1) by simp only [oI, nI_add]]; done) | (rw [if_pos (Int32.not_le.mp c40)]; rw [show nI i + Int32.ofInt 1 = nI (i + 1) by simp only [oI, nI_add]]; done) | exact absurd c40 c56 | exact absurd c56 c40
        · refine p_run (pc' := 13) [.iload 9, .goto 5, .istore 7, .iinc 8 1, .goto (-58)] mkX8_bestOf (by decide +kernel) rfl rfl ?_
          refine Wp.eqL ?_ (ih (i + 1) (by omega) _ (some (.int (dK (nsF (upd (h 97) spot (nI i)) n) d 4))) e3 e9' hA4)
          rw [bsF]
          first | (rw [if_neg (Int32.not_lt.mpr c40)]; rw [show nI i + Int32.ofInt 1 = nI (i + 1) by simp only [oI, nI_add]]; done) | (rw [if_pos (Int32.not_le.mp c40)]; rw [show nI i + Int32.ofInt 1 = nI (i + 1) by simp only [oI, nI_add]]; done) | exact absurd c40 c56 | exact absurd c56 c40
set_option maxRecDepth 20000 in
set_option maxHeartbeats 4000000 in
theorem bestOf_ok (w : Wt) {k : Nat} (hk : 8 ≤ k) (spot last d n what : Nat) (hd : d < 10) (hn : n ≤ 60) (hw : what ≤ 1) (h : Mm) (hT : Tq (h 97)) (hs : spot < 70) (hl : last ≤ 5) (hI : ∀ x, x ≤ last → Iv (upd (h 97) spot (nI x))) : Ok w k MX8_bestOf [.ref 96, .int (nI spot), .int (nI last), .int (nI d), .int (nI n), .int (nI what)] h (Rs [99, 107, 108] (if what = 0 then nI (bsF (fun x => dK (nsF (upd (h 97) spot (nI x)) n) d 4) (last + 1)).1 else (bsF (fun x => dK (nsF (upd (h 97) spot (nI x)) n) d 4) (last + 1)).2) h) := by
  show Wp w k MX8_bestOf _ 0 [some (.ref 96), some (.int (nI spot)), some (.int (nI last)), some (.int (nI d)), some (.int (nI n)), some (.int (nI what)), none, none, none, none] [] h
  refine p_run (pc' := 1) [.aload_n 0] mkX8_bestOf (by decide +kernel) rfl rfl ?_
  refine p_callVw (thinks_ok w (k := k - 1) (by omega) h) kvX8_189 (by decide +kernel) (by decide) rfl (by omega) rfl rfl rfl rfl rfl ?_
  refine p_run (pc' := 13) [.iconst 0, .istore 6, .iconst (-1), .istore 7, .iconst 0, .istore 8] mkX8_bestOf (by decide +kernel) rfl rfl ?_
  exact best_loop w hk spot last d n what hd hn hw h hT hs hl hI (last + 1) 0 (by omega) _ none (wrN (by decide)) (wrS _ _ _) (Ag.wr (by decide))
set_option maxRecDepth 20000 in
set_option maxHeartbeats 4000000 in
theorem r_sent_bad (w : Wt) {k : Nat} (hk : 2 ≤ k) (a b c : Int32) (h : Mm)  (hb : ¬ (isD (h 97) a ∧ inR b 1 60 ∧ inR c 0 1)) : Ok w k MX8_sent [.ref 96, .int a, .int b, .int c] h (Rv BADv h) := by
  show Wp w k MX8_sent _ 0 [some (.ref 96), some (.int a), some (.int b), some (.int c)] [] h
  refine p_run (pc' := 2) [.aload_n 0, .iload_n 1] mkX8_sent (by decide +kernel) rfl rfl ?_
  refine p_callVv (risDigger_ok w (k := k - 1) (by omega) _ _) kvX8_129 (by decide +kernel) (by decide) rfl (by omega) rfl rfl rfl rfl rfl ?_
  refine p_if_eq (off := 41) 46 (by decide +kernel) (by decide) (fun c5 => ?_) (fun c5 => ?_)
  · refine p_run (pc' := 48) [.ldc 123] mkX8_sent (by decide +kernel) rfl rfl ?_
    refine p_iret rfl rfl (by decide +kernel) ?_
    exact ⟨rfl, rfl⟩
  · refine p_run (pc' := 12) [.iload_n 2, .iconst 1, .bipush 60] mkX8_sent (by decide +kernel) rfl rfl ?_
    refine p_callSv (in_ok w (k := k - 1) _ _ _ _) ksX8_75 (by decide +kernel) (by omega) rfl rfl rfl rfl rfl ?_
    refine p_if_eq (off := 31) 46 (by decide +kernel) (by decide) (fun c15 => ?_) (fun c15 => ?_)
    · refine p_run (pc' := 48) [.ldc 123] mkX8_sent (by decide +kernel) rfl rfl ?_
      refine p_iret rfl rfl (by decide +kernel) ?_
      exact ⟨rfl, rfl⟩
    · refine p_run (pc' := 21) [.iload_n 3, .iconst 0, .iconst 1] mkX8_sent (by decide +kernel) rfl rfl ?_
      refine p_callSv (in_ok w (k := k - 1) _ _ _ _) ksX8_75 (by decide +kernel) (by omega) rfl rfl rfl rfl rfl ?_
      refine p_if_eq (off := 22) 46 (by decide +kernel) (by decide) (fun c24 => ?_) (fun c24 => ?_)
      · refine p_run (pc' := 48) [.ldc 123] mkX8_sent (by decide +kernel) rfl rfl ?_
        refine p_iret rfl rfl (by decide +kernel) ?_
        exact ⟨rfl, rfl⟩
      · exact absurd (⟨bI1.mp c5, bI1.mp c15, bI1.mp c24⟩) hb
set_option maxRecDepth 20000 in
set_option maxHeartbeats 4000000 in
theorem r_sent (w : Wt) {k : Nat} (hk : 9 ≤ k) (d n j : Nat) (h : Mm) (hI : Iv (h 97)) (hT : Tq (h 97)) (hd : d < nd (h 97)) (hn : 1 ≤ n ∧ n ≤ 60) (hj : j ≤ 1) : Ok w k MX8_sent [.ref 96, .int (nI d), .int (nI n), .int (nI j)] h (Rs [99, 107, 108] (if j = 0 then nI (bsF (fun x => dK (nsF (upd (h 97) (20 + 5 * d + 3) (nI x)) n) d 4) 4).1 else (bsF (fun x => dK (nsF (upd (h 97) (20 + 5 * d + 3) (nI x)) n) d 4) 4).2) h) := by
  show Wp w k MX8_sent _ 0 [some (.ref 96), some (.int (nI d)), some (.int (nI n)), some (.int (nI j))] [] h
  obtain ⟨en, hn10⟩ := hI.nd
  refine p_run (pc' := 2) [.aload_n 0, .iload_n 1] mkX8_sent (by decide +kernel) rfl rfl ?_
  refine p_callVv (isDigger_t w (k := k - 1) (by omega) _ _ (isD_nI en hd hn10)) kvX8_129 (by decide +kernel) (by decide) rfl (by omega) rfl rfl rfl rfl rfl ?_
  refine p_if_eq (off := 41) 46 (by decide +kernel) (by decide) (fun c5 => ?_) (fun c5 => ?_)
  · exact False.elim (by revert c5; decide)
  · refine p_run (pc' := 12) [.iload_n 2, .iconst 1, .bipush 60] mkX8_sent (by decide +kernel) rfl rfl ?_
    refine p_callSv (in_t w (k := k - 1) _ _ _ _ (in_nI (lo := 1) (hi := 60) hn.1 hn.2 (by omega))) ksX8_75 (by decide +kernel) (by omega) rfl rfl rfl rfl rfl ?_
    refine p_if_eq (off := 31) 46 (by decide +kernel) (by decide) (fun c15 => ?_) (fun c15 => ?_)
    · exact False.elim (by revert c15; decide)
    · refine p_run (pc' := 21) [.iload_n 3, .iconst 0, .iconst 1] mkX8_sent (by decide +kernel) rfl rfl ?_
      refine p_callSv (in_t w (k := k - 1) _ _ _ _ (in_nI (lo := 0) (hi := 1) (by omega) hj (by omega))) ksX8_75 (by decide +kernel) (by omega) rfl rfl rfl rfl rfl ?_
      refine p_if_eq (off := 22) 46 (by decide +kernel) (by decide) (fun c24 => ?_) (fun c24 => ?_)
      · exact False.elim (by revert c24; decide)
      · refine p_run (pc' := 40) [.aload_n 0, .bipush 20, .iconst 5, .iload_n 1, .imul, .iadd, .iconst 3, .iadd, .iconst 3, .iload_n 1, .iload_n 2, .iload_n 3] mkX8_sent (by decide +kernel) rfl rfl ?_
        refine Wp.eqS (st' := [.int (nI j), .int (nI n), .int (nI d), .int (nI 3), .int (nI (20 + 5 * d + 3)), .ref 96]) (by simp only [oI, nI_add, nIm]) ?_
        refine p_callVi (bestOf_ok w (k := k - 1) (by omega) (20 + 5 * d + 3) 3 d n j (by omega) hn.2 hj h hT (by omega) (by omega) (fun x hx => hI.dk (j := 3) (by omega) (by omega) (In_nI (by show x ≤ 3; omega) (by decide)))) (fun _ _ q => q.1) kvX8_202 (by decide +kernel) (by decide) rfl (by omega) rfl rfl rfl rfl rfl (fun h' hq => ?_)
        obtain ⟨-, hA⟩ := hq
        refine p_run (pc' := 48) [.goto 5] mkX8_sent (by decide +kernel) rfl rfl ?_
        refine p_iret rfl rfl (by decide +kernel) ?_
        exact ⟨rfl, hA⟩
set_option maxRecDepth 20000 in
set_option maxHeartbeats 4000000 in
theorem r_becomes_bad (w : Wt) {k : Nat} (hk : 2 ≤ k) (a b c : Int32) (h : Mm)  (hb : ¬ (isD (h 97) a ∧ inR b 1 60 ∧ inR c 0 1)) : Ok w k MX8_becomes [.ref 96, .int a, .int b, .int c] h (Rv BADv h) := by
  show Wp w k MX8_becomes _ 0 [some (.ref 96), some (.int a), some (.int b), some (.int c)] [] h
  refine p_run (pc' := 2) [.aload_n 0, .iload_n 1] mkX8_becomes (by decide +kernel) rfl rfl ?_
  refine p_callVv (risDigger_ok w (k := k - 1) (by omega) _ _) kvX8_129 (by decide +kernel) (by decide) rfl (by omega) rfl rfl rfl rfl rfl ?_
  refine p_if_eq (off := 39) 44 (by decide +kernel) (by decide) (fun c5 => ?_) (fun c5 => ?_)
  · refine p_run (pc' := 46) [.ldc 123] mkX8_becomes (by decide +kernel) rfl rfl ?_
    refine p_iret rfl rfl (by decide +kernel) ?_
    exact ⟨rfl, rfl⟩
  · refine p_run (pc' := 12) [.iload_n 2, .iconst 1, .bipush 60] mkX8_becomes (by decide +kernel) rfl rfl ?_
    refine p_callSv (in_ok w (k := k - 1) _ _ _ _) ksX8_75 (by decide +kernel) (by omega) rfl rfl rfl rfl rfl ?_
    refine p_if_eq (off := 29) 44 (by decide +kernel) (by decide) (fun c15 => ?_) (fun c15 => ?_)
    · refine p_run (pc' := 46) [.ldc 123] mkX8_becomes (by decide +kernel) rfl rfl ?_
      refine p_iret rfl rfl (by decide +kernel) ?_
      exact ⟨rfl, rfl⟩
    · refine p_run (pc' := 21) [.iload_n 3, .iconst 0, .iconst 1] mkX8_becomes (by decide +kernel) rfl rfl ?_
      refine p_callSv (in_ok w (k := k - 1) _ _ _ _) ksX8_75 (by decide +kernel) (by omega) rfl rfl rfl rfl rfl ?_
      refine p_if_eq (off := 20) 44 (by decide +kernel) (by decide) (fun c24 => ?_) (fun c24 => ?_)
      · refine p_run (pc' := 46) [.ldc 123] mkX8_becomes (by decide +kernel) rfl rfl ?_
        refine p_iret rfl rfl (by decide +kernel) ?_
        exact ⟨rfl, rfl⟩
      · exact absurd (⟨bI1.mp c5, bI1.mp c15, bI1.mp c24⟩) hb
set_option maxRecDepth 20000 in
set_option maxHeartbeats 4000000 in
theorem r_becomes (w : Wt) {k : Nat} (hk : 9 ≤ k) (d n j : Nat) (h : Mm) (hI : Iv (h 97)) (hT : Tq (h 97)) (hd : d < nd (h 97)) (hn : 1 ≤ n ∧ n ≤ 60) (hj : j ≤ 1) : Ok w k MX8_becomes [.ref 96, .int (nI d), .int (nI n), .int (nI j)] h (Rs [99, 107, 108] (if j = 0 then nI (bsF (fun x => dK (nsF (upd (h 97) (20 + 5 * d) (nI x)) n) d 4) 6).1 else (bsF (fun x => dK (nsF (upd (h 97) (20 + 5 * d) (nI x)) n) d 4) 6).2) h) := by
  show Wp w k MX8_becomes _ 0 [some (.ref 96), some (.int (nI d)), some (.int (nI n)), some (.int (nI j))] [] h
  obtain ⟨en, hn10⟩ := hI.nd
  refine p_run (pc' := 2) [.aload_n 0, .iload_n 1] mkX8_becomes (by decide +kernel) rfl rfl ?_
  refine p_callVv (isDigger_t w (k := k - 1) (by omega) _ _ (isD_nI en hd hn10)) kvX8_129 (by decide +kernel) (by decide) rfl (by omega) rfl rfl rfl rfl rfl ?_
  refine p_if_eq (off := 39) 44 (by decide +kernel) (by decide) (fun c5 => ?_) (fun c5 => ?_)
  · exact False.elim (by revert c5; decide)
  · refine p_run (pc' := 12) [.iload_n 2, .iconst 1, .bipush 60] mkX8_becomes (by decide +kernel) rfl rfl ?_
    refine p_callSv (in_t w (k := k - 1) _ _ _ _ (in_nI (lo := 1) (hi := 60) hn.1 hn.2 (by omega))) ksX8_75 (by decide +kernel) (by omega) rfl rfl rfl rfl rfl ?_
    refine p_if_eq (off := 29) 44 (by decide +kernel) (by decide) (fun c15 => ?_) (fun c15 => ?_)
    · exact False.elim (by revert c15; decide)
    · refine p_run (pc' := 21) [.iload_n 3, .iconst 0, .iconst 1] mkX8_becomes (by decide +kernel) rfl rfl ?_
      refine p_callSv (in_t w (k := k - 1) _ _ _ _ (in_nI (lo := 0) (hi := 1) (by omega) hj (by omega))) ksX8_75 (by decide +kernel) (by omega) rfl rfl rfl rfl rfl ?_
      refine p_if_eq (off := 20) 44 (by decide +kernel) (by decide) (fun c24 => ?_) (fun c24 => ?_)
      · exact False.elim (by revert c24; decide)
      · refine p_run (pc' := 38) [.aload_n 0, .bipush 20, .iconst 5, .iload_n 1, .imul, .iadd, .iconst 5, .iload_n 1, .iload_n 2, .iload_n 3] mkX8_becomes (by decide +kernel) rfl rfl ?_
        refine Wp.eqS (st' := [.int (nI j), .int (nI n), .int (nI d), .int (nI 5), .int (nI (20 + 5 * d)), .ref 96]) (by simp only [oI, nI_add, nIm]) ?_
        refine p_callVi (bestOf_ok w (k := k - 1) (by omega) (20 + 5 * d) 5 d n j (by omega) hn.2 hj h hT (by omega) (by omega) (fun x hx => hI.dk (j := 0) (by omega) (by omega) (In_nI (by show x ≤ 5; omega) (by decide)))) (fun _ _ q => q.1) kvX8_202 (by decide +kernel) (by decide) rfl (by omega) rfl rfl rfl rfl rfl (fun h' hq => ?_)
        obtain ⟨-, hA⟩ := hq
        refine p_run (pc' := 46) [.goto 5] mkX8_becomes (by decide +kernel) rfl rfl ?_
        refine p_iret rfl rfl (by decide +kernel) ?_
        exact ⟨rfl, hA⟩
set_option maxRecDepth 20000 in
set_option maxHeartbeats 4000000 in
theorem high_loop (w : Wt) {k : Nat} (hk : 1 ≤ k) (m n : Nat) (hm : m < 1024) (v : Int32) (N : Vc) (hI : Iv N) (h0 : Mm) (Q : Option Value → Mm → Prop) (hC : ∀ h : Mm, h 97 = poF N m (nd N) → Ag [97] h0 h → Wp w k MX8_isHigh Q 48 [some (.ref 96), some (.int (nI m)), some (.int (nI n)), some (.int v), some (.int (nI (nd N)))] [] h) : ∀ (q i : Nat), i + q = nd N → ∀ h : Mm, h 97 = poF N m i → Ag [97] h0 h → Wp w k MX8_isHigh Q 3 [some (.ref 96), some (.int (nI m)), some (.int (nI n)), some (.int v), some (.int (nI i))] [] h := by
  obtain ⟨en, hn10⟩ := hI.nd
  intro q
  induction q with
  | zero =>
    intro i hi h e hA
    have e1 : h 97 1 = nI (nd N) := by rw [e, poF_out _ (fun d hd => by omega)]; exact en
    have hi : i = nd N := by omega
    refine p_run (pc' := 10) [.iload 4, .aload_n 0, .getfield 9, .iconst 1] mkX8_isHigh (by decide +kernel) rfl rfl ?_
    refine p_iald (1) (by decide +kernel) rfl rfl (by simp only [oI]) (by omega) ?_
    rw [e1, hi]
    refine p_icmp_ge (off := 37) 48 (by decide +kernel) (by decide) (fun c1 => ?_) (fun c1 => ?_)
    · exact hC h (by rw [e, hi]) hA
    · exact absurd (nI_le (Nat.le_refl _) (by omega)) c1
  | succ q ih =>
    intro i hi h e hA
    have e1 : h 97 1 = nI (nd N) := by rw [e, poF_out _ (fun d hd => by omega)]; exact en
    refine p_run (pc' := 10) [.iload 4, .aload_n 0, .getfield 9, .iconst 1] mkX8_isHigh (by decide +kernel) rfl rfl ?_
    refine p_iald (1) (by decide +kernel) rfl rfl (by simp only [oI]) (by omega) ?_
    rw [e1]
    refine p_icmp_ge (off := 37) 48 (by decide +kernel) (by decide) (fun c1 => ?_) (fun c1 => ?_)
    · exact absurd c1 (nI_ge (by omega) (by omega))
    · refine p_run (pc' := 25) [.aload_n 0, .iload 4, .iconst 2, .iload_n 1, .iload 4, .ishr, .iconst 1, .iand, .iconst 1] mkX8_isHigh (by decide +kernel) rfl rfl ?_
      rw [oI, shr_bit i (by omega) m hm]
      refine p_icmp_ne (off := 13) 38 (by decide +kernel) (by decide) (fun c2 => ?_) (fun c2 => ?_)
      · rw [nI_eq (by have := Nat.mod_lt (m / 2 ^ i) (y := 2) (by omega); omega) (by omega)] at c2
        refine p_run (pc' := 39) [.iconst 0] mkX8_isHigh (by decide +kernel) rfl rfl ?_
        refine p_callVw (put_ok w (k := k - 1) i 2 _ _ (by omega)) kvX8_116 (by decide +kernel) (by decide) rfl (by omega) rfl rfl rfl rfl rfl ?_
        refine p_run (pc' := 3) [.iinc 4 1, .goto (-42)] mkX8_isHigh (by decide +kernel) rfl rfl ?_
        refine Wp.eqL ?_ (ih (i + 1) (by omega) _ ?_ (hA.tr (Ag.up (by decide))))
        · rw [show nI i + Int32.ofInt 1 = nI (i + 1) by simp only [oI, nI_add]]
        · rw [upS, e, poF, if_neg c2, oI]
      · rw [nI_eq (by have := Nat.mod_lt (m / 2 ^ i) (y := 2) (by omega); omega) (by omega)] at c2
        refine p_run (pc' := 32) [.aload_n 0, .iload 4, .iconst 2] mkX8_isHigh (by decide +kernel) rfl rfl ?_
        refine p_callVv (of_ok w (k := k - 1) i 2 _ (by omega)) kvX8_83 (by decide +kernel) (by decide) rfl (by omega) rfl rfl rfl rfl rfl ?_
        refine p_run (pc' := 39) [.goto 4] mkX8_isHigh (by decide +kernel) rfl rfl ?_
        refine p_callVw (put_ok w (k := k - 1) i 2 _ _ (by omega)) kvX8_116 (by decide +kernel) (by decide) rfl (by omega) rfl rfl rfl rfl rfl ?_
        refine p_run (pc' := 3) [.iinc 4 1, .goto (-42)] mkX8_isHigh (by decide +kernel) rfl rfl ?_
        refine Wp.eqL ?_ (ih (i + 1) (by omega) _ ?_ (hA.tr (Ag.up (by decide))))
        · rw [show nI i + Int32.ofInt 1 = nI (i + 1) by simp only [oI, nI_add]]
        · rw [upS, upd_self, e, poF, if_pos c2]
set_option maxRecDepth 20000 in
set_option maxHeartbeats 4000000 in
theorem isHigh_ok (w : Wt) {k : Nat} (hk : 7 ≤ k) (m n : Nat) (hm : m < 1024) (hn : n ≤ 10) (v : Int32) (h : Mm) (hI : Iv (h 97)) (hT : Tq (h 97)) : Ok w k MX8_isHigh [.ref 96, .int (nI m), .int (nI n), .int v] h (fun r h' => r = some (.int (bI (v ≤ hlF (nsF (poF (h 97) m (nd (h 97))) n)))) ∧ h' 97 = h 99 ∧ Ag [97, 107, 108] h h') := by
  show Wp w k MX8_isHigh _ 0 [some (.ref 96), some (.int (nI m)), some (.int (nI n)), some (.int v), none] [] h
  obtain ⟨en, hn10⟩ := hI.nd
  refine p_run (pc' := 3) [.iconst 0, .istore 4] mkX8_isHigh (by decide +kernel) rfl rfl ?_
  refine high_loop w (by omega) m n hm v (h 97) hI h _ (fun h1 e1 hA1 => ?_) (nd (h 97)) 0 (by omega) h rfl Ag.rf
  refine p_run (pc' := 50) [.aload_n 0, .iload_n 2] mkX8_isHigh (by decide +kernel) rfl rfl ?_
  refine p_callVo (goesOn_ok w (k := k - 1) (by omega) n (by omega) h1 (by rw [e1]; exact poF_Iv hI m _ hn10) (by rw [e1]; exact hT.of (fun j hj => poF_out _ (fun d hd => by omega)))) (fun _ _ q => q.1) kvX8_176 (by decide +kernel) (by decide) rfl (by omega) rfl rfl rfl rfl rfl (fun h' hq => ?_)
  obtain ⟨-, e2, hA2⟩ := hq
  have e2 : h' 97 = nsF (poF (h 97) m (nd (h 97))) n := by have := e2; rw [e1] at this; exact this
  have hI2 : Iv (h' 97) := by rw [e2]; exact nsF_Iv (poF_Iv hI m _ hn10) n
  refine p_run (pc' := 55) [.aload_n 0, .iconst 4] mkX8_isHigh (by decide +kernel) rfl rfl ?_
  refine p_callVv (sums_ok w (k := k - 1) (by omega) 4 (by omega) h' hI2) kvX8_173 (by decide +kernel) (by decide) rfl (by omega) rfl rfl rfl rfl rfl ?_
  refine p_run (pc' := 59) [.iload_n 3] mkX8_isHigh (by decide +kernel) rfl rfl ?_
  rw [show sumF (fun d => dK (h' 97) d 4) (nd (h' 97)) = hlF (h' 97) from rfl, e2]
  refine p_icmp_lt (off := 7) 66 (by decide +kernel) (by decide) (fun c9 => ?_) (fun c9 => ?_)
  · refine p_run (pc' := 70) [.iconst 0, .istore 4, .aload_n 0] mkX8_isHigh (by decide +kernel) rfl rfl ?_
    refine p_callVw (putsBack_ok w (k := k - 1) (by omega) _) kvX8_192 (by decide +kernel) (by decide) rfl (by omega) rfl rfl rfl rfl rfl ?_
    refine p_run (pc' := 75) [.iload 4] mkX8_isHigh (by decide +kernel) rfl rfl ?_
    refine p_iret rfl rfl (by decide +kernel) ?_
    exact ⟨by rw [bIf (Int32.not_le.mpr c9)]; rfl, by rw [wrS, hA2 99 (by decide), hA1 99 (by decide)], fun a ha => by rw [wrN (fun e => ha (by rw [e]; decide)), hA2 a ha]; exact hA1 a (by simp at ha ⊢; omega)⟩
  · refine p_run (pc' := 70) [.iconst 1, .goto 4, .istore 4, .aload_n 0] mkX8_isHigh (by decide +kernel) rfl rfl ?_
    refine p_callVw (putsBack_ok w (k := k - 1) (by omega) _) kvX8_192 (by decide +kernel) (by decide) rfl (by omega) rfl rfl rfl rfl rfl ?_
    refine p_run (pc' := 75) [.iload 4] mkX8_isHigh (by decide +kernel) rfl rfl ?_
    refine p_iret rfl rfl (by decide +kernel) ?_
    exact ⟨by rw [bIt (Int32.not_lt.mp c9)]; rfl, by rw [wrS, hA2 99 (by decide), hA1 99 (by decide)], fun a ha => by rw [wrN (fun e => ha (by rw [e]; decide)), hA2 a ha]; exact hA1 a (by simp at ha ⊢; omega)⟩
set_option maxRecDepth 20000 in
set_option maxHeartbeats 4000000 in
theorem r_light_bad (w : Wt) {k : Nat} (hk : 2 ≤ k) (a b : Int32) (h : Mm)  (hb : ¬ (inR a 0 10 ∧ inR b 0 9999)) : Ok w k MX8_light [.ref 96, .int a, .int b] h (Rv BADv h) := by
  show Wp w k MX8_light _ 0 [some (.ref 96), some (.int a), some (.int b), none, none, none] [] h
  refine p_run (pc' := 4) [.iload_n 1, .iconst 0, .bipush 10] mkX8_light (by decide +kernel) rfl rfl ?_
  refine p_callSv (in_ok w (k := k - 1) _ _ _ _) ksX8_75 (by decide +kernel) (by omega) rfl rfl rfl rfl rfl ?_
  refine p_if_eq (off := 14) 21 (by decide +kernel) (by decide) (fun c7 => ?_) (fun c7 => ?_)
  · refine p_run (pc' := 23) [.ldc 123] mkX8_light (by decide +kernel) rfl rfl ?_
    refine p_iret rfl rfl (by decide +kernel) ?_
    exact ⟨rfl, rfl⟩
  · refine p_run (pc' := 15) [.iload_n 2, .iconst 0, .sipush 9999] mkX8_light (by decide +kernel) rfl rfl ?_
    refine p_callSv (in_ok w (k := k - 1) _ _ _ _) ksX8_75 (by decide +kernel) (by omega) rfl rfl rfl rfl rfl ?_
    refine p_if_ne (off := 6) 24 (by decide +kernel) (by decide) (fun c18 => ?_) (fun c18 => ?_)
    · exact absurd (⟨bI1.mp c7, bI1.mp c18⟩) hb
    · refine p_run (pc' := 23) [.ldc 123] mkX8_light (by decide +kernel) rfl rfl ?_
      refine p_iret rfl rfl (by decide +kernel) ?_
      exact ⟨rfl, rfl⟩
set_option maxRecDepth 20000 in
set_option maxHeartbeats 4000000 in
theorem light_loop (w : Wt) {k : Nat} (hk : 8 ≤ k) (n : Nat) (hn : n ≤ 10) (v : Int32) (h : Mm) (hI : Iv (h 97)) (hT : Tq (h 97)) : ∀ (q i : Nat), i + q = 2 ^ nd (h 97) → ∀ (hh : Mm) (x5 : Option Value), hh 97 = h 97 → hh 99 = h 97 → Ag [99, 107, 108] h hh → Wp w k MX8_light (Rs [99, 107, 108] (oN (liF (liP (h 97) n v) (2 ^ nd (h 97)))) h) 34 [some (.ref 96), some (.int (nI n)), some (.int v), some (.int (oN (liF (liP (h 97) n v) i))), some (.int (nI i)), x5] [] hh := by
  obtain ⟨en, hn10⟩ := hI.nd
  have hp10 : 2 ^ nd (h 97) ≤ 1024 := Nat.pow_le_pow_right (n := 2) (by omega) hn10
  intro q
  induction q with
  | zero =>
    intro i hi hh x5 e e9 hA
    have hi : i = 2 ^ nd (h 97) := by omega
    refine p_run (pc' := 42) [.iload 4, .iconst 1, .aload_n 0, .getfield 9, .iconst 1] mkX8_light (by decide +kernel) rfl rfl ?_
    refine p_iald (1) (by decide +kernel) rfl rfl (by simp only [oI]) (by omega) ?_
    refine p_run (pc' := 44) [.ishl] mkX8_light (by decide +kernel) rfl rfl ?_
    rw [e, en, oI, shl1 _ (by omega)]
    rw [hi]
    refine p_icmp_ge (off := 57) 101 (by decide +kernel) (by decide) (fun c1 => ?_) (fun c1 => ?_)
    · refine p_run (pc' := 102) [.iload_n 3] mkX8_light (by decide +kernel) rfl rfl ?_
      refine p_iret rfl rfl (by decide +kernel) ?_
      exact ⟨rfl, hA⟩
    · exact absurd (nI_le (Nat.le_refl _) (by omega)) c1
  | succ q ih =>
    intro i hi hh x5 e e9 hA
    refine p_run (pc' := 42) [.iload 4, .iconst 1, .aload_n 0, .getfield 9, .iconst 1] mkX8_light (by decide +kernel) rfl rfl ?_
    refine p_iald (1) (by decide +kernel) rfl rfl (by simp only [oI]) (by omega) ?_
    refine p_run (pc' := 44) [.ishl] mkX8_light (by decide +kernel) rfl rfl ?_
    rw [e, en, oI, shl1 _ (by omega)]
    refine p_icmp_ge (off := 57) 101 (by decide +kernel) (by decide) (fun c1 => ?_) (fun c1 => ?_)
    · exact absurd c1 (nI_ge (by omega) (by omega))
    · cases hl : liF (liP (h 97) n v) i with
      | none =>
        rw [show oN none = Int32.ofInt (-1000000005) from rfl]
        refine p_run (pc' := 50) [.iload_n 3, .ldc 195] mkX8_light (by decide +kernel) rfl rfl ?_
        refine p_icmp_eq (off := 15) 65 (by decide +kernel) (by decide) (fun c2 => ?_) (fun c2 => ?_)
        · refine p_run (pc' := 74) [.iconst 1, .goto 4, .istore 5, .iload 5] mkX8_light (by decide +kernel) rfl rfl ?_
          refine p_if_eq (off := 19) 93 (by decide +kernel) (by decide) (fun c5 => ?_) (fun c5 => ?_)
          · exact False.elim (by revert c5; decide)
          · refine p_run (pc' := 82) [.aload_n 0, .iload 4, .iload_n 1, .iload_n 2] mkX8_light (by decide +kernel) rfl rfl ?_
            refine p_callVi (isHigh_ok w (k := k - 1) (by omega) i n (by omega) hn v hh (by rw [e]; exact hI) (by rw [e]; exact hT)) (fun _ _ q => q.1) kvX8_196 (by decide +kernel) (by decide) rfl (by omega) rfl rfl rfl rfl rfl (fun h' hq => ?_)
            obtain ⟨-, e3, hA3⟩ := hq
            rw [e]
            rw [e9] at e3
            have hA4 : Ag [99, 107, 108] h h' := fun a ha => by
              by_cases q : a = 97
              · rw [q, e3]
              · rw [hA3 a (by simp at ha ⊢; omega)]; exact hA a ha
            have e9' : h' 99 = h 97 := by rw [hA3 99 (by decide), e9]
            refine p_if_eq (off := 8) 93 (by decide +kernel) (by decide) (fun c8 => ?_) (fun c8 => ?_)
            · have hq : ¬ liP (h 97) n v i = true := by unfold liP; simpa using bI0.mp c8
              refine p_run (pc' := 34) [.iload_n 3, .istore_n 3, .iinc 4 1, .goto (-64)] mkX8_light (by decide +kernel) rfl rfl ?_
              refine Wp.eqL ?_ (ih (i + 1) (by omega) _ (some (.int (nI 1))) e3 e9' hA4)
              rw [show liF (liP (h 97) n v) (i + 1) = none by rw [liF, hl]; simp only; rw [if_neg hq], show oN none = Int32.ofInt (-1000000005) from rfl]
              rw [show nI i + Int32.ofInt 1 = nI (i + 1) by simp only [oI, nI_add]]
              rfl
            · have hq : liP (h 97) n v i = true := by unfold liP; simpa using bI1.mp c8
              refine p_run (pc' := 34) [.iload 4, .goto 4, .istore_n 3, .iinc 4 1, .goto (-64)] mkX8_light (by decide +kernel) rfl rfl ?_
              refine Wp.eqL ?_ (ih (i + 1) (by omega) _ (some (.int (nI 1))) e3 e9' hA4)
              rw [show liF (liP (h 97) n v) (i + 1) = some i by rw [liF, hl]; simp only; rw [if_pos hq], show oN (some i) = nI i from rfl]
              rw [show nI i + Int32.ofInt 1 = nI (i + 1) by simp only [oI, nI_add]]
              rfl
        · exact absurd rfl c2
      | some bb =>
        have hbb := liF_lt hl
        rw [show oN (some bb) = nI bb from rfl]
        refine p_run (pc' := 50) [.iload_n 3, .ldc 195] mkX8_light (by decide +kernel) rfl rfl ?_
        refine p_icmp_eq (off := 15) 65 (by decide +kernel) (by decide) (fun c2 => ?_) (fun c2 => ?_)
        · exact absurd (show (nI bb).toInt = _ from congrArg Int32.toInt c2) (by rw [nI_toInt (by omega)]; show ((bb : Nat) : Int) ≠ -1000000005; omega)
        · refine p_run (pc' := 55) [.iload 4] mkX8_light (by decide +kernel) rfl rfl ?_
          refine p_callSv (bits_ok w (k := k - 1) i (by omega) _) ksX8_96 (by decide +kernel) (by omega) rfl rfl rfl rfl rfl ?_
          refine p_run (pc' := 59) [.iload_n 3] mkX8_light (by decide +kernel) rfl rfl ?_
          refine p_callSv (bits_ok w (k := k - 1) bb (by omega) _) ksX8_96 (by decide +kernel) (by omega) rfl rfl rfl rfl rfl ?_
          refine p_icmp_ge (off := 7) 69 (by decide +kernel) (by decide) (fun c3 => ?_) (fun c3 => ?_)
          · have hpc : ¬ pcF i < pcF bb := fun q => c3 |> Int32.not_lt.mpr |> (fun r => r (nI_lt q (by have := cntF_le (fun j => bb.testBit j) 10; unfold pcF at *; omega)))
            refine p_run (pc' := 74) [.iconst 0, .istore 5, .iload 5] mkX8_light (by decide +kernel) rfl rfl ?_
            refine p_if_eq (off := 19) 93 (by decide +kernel) (by decide) (fun c5 => ?_) (fun c5 => ?_)
            · refine p_run (pc' := 34) [.iload_n 3, .istore_n 3, .iinc 4 1, .goto (-64)] mkX8_light (by decide +kernel) rfl rfl ?_
              refine Wp.eqL ?_ (ih (i + 1) (by omega) _ (some (.int (nI 0))) e e9 hA)
              rw [show liF (liP (h 97) n v) (i + 1) = some bb by rw [liF, hl]; simp only; rw [if_neg (fun q => hpc q.1)], show oN (some bb) = nI bb from rfl]
              rw [show nI i + Int32.ofInt 1 = nI (i + 1) by simp only [oI, nI_add]]
              rfl
            · exact False.elim (by revert c5; decide)
          · have hpc : pcF i < pcF bb := (nI_ltI (by have := cntF_le (fun j => i.testBit j) 10; unfold pcF; omega) (by have := cntF_le (fun j => bb.testBit j) 10; unfold pcF; omega)).mp (Int32.not_le.mp c3)
            refine p_run (pc' := 74) [.iconst 1, .goto 4, .istore 5, .iload 5] mkX8_light (by decide +kernel) rfl rfl ?_
            refine p_if_eq (off := 19) 93 (by decide +kernel) (by decide) (fun c5 => ?_) (fun c5 => ?_)
            · exact False.elim (by revert c5; decide)
            · refine p_run (pc' := 82) [.aload_n 0, .iload 4, .iload_n 1, .iload_n 2] mkX8_light (by decide +kernel) rfl rfl ?_
              refine p_callVi (isHigh_ok w (k := k - 1) (by omega) i n (by omega) hn v hh (by rw [e]; exact hI) (by rw [e]; exact hT)) (fun _ _ q => q.1) kvX8_196 (by decide +kernel) (by decide) rfl (by omega) rfl rfl rfl rfl rfl (fun h' hq => ?_)
              obtain ⟨-, e3, hA3⟩ := hq
              rw [e]
              rw [e9] at e3
              have hA4 : Ag [99, 107, 108] h h' := fun a ha => by
                by_cases q : a = 97
                · rw [q, e3]
                · rw [hA3 a (by simp at ha ⊢; omega)]; exact hA a ha
              have e9' : h' 99 = h 97 := by rw [hA3 99 (by decide), e9]
              refine p_if_eq (off := 8) 93 (by decide +kernel) (by decide) (fun c8 => ?_) (fun c8 => ?_)
              · have hq : ¬ liP (h 97) n v i = true := by unfold liP; simpa using bI0.mp c8
                refine p_run (pc' := 34) [.iload_n 3, .istore_n 3, .iinc 4 1, .goto (-64)] mkX8_light (by decide +kernel) rfl rfl ?_
                refine Wp.eqL ?_ (ih (i + 1) (by omega) _ (some (.int (nI 1))) e3 e9' hA4)
                rw [show liF (liP (h 97) n v) (i + 1) = some bb by rw [liF, hl]; simp only; rw [if_neg (fun q => hq q.2)], show oN (some bb) = nI bb from rfl]
                rw [show nI i + Int32.ofInt 1 = nI (i + 1) by simp only [oI, nI_add]]
                rfl
              · have hq : liP (h 97) n v i = true := by unfold liP; simpa using bI1.mp c8
                refine p_run (pc' := 34) [.iload 4, .goto 4, .istore_n 3, .iinc 4 1, .goto (-64)] mkX8_light (by decide +kernel) rfl rfl ?_
                refine Wp.eqL ?_ (ih (i + 1) (by omega) _ (some (.int (nI 1))) e3 e9' hA4)
                rw [show liF (liP (h 97) n v) (i + 1) = some i by rw [liF, hl]; simp only; rw [if_pos ⟨hpc, hq⟩], show oN (some i) = nI i from rfl]
                rw [show nI i + Int32.ofInt 1 = nI (i + 1) by simp only [oI, nI_add]]
                rfl
set_option maxRecDepth 20000 in
set_option maxHeartbeats 4000000 in
theorem r_light (w : Wt) {k : Nat} (hk : 8 ≤ k) (n : Nat) (hn : n ≤ 10) (v : Int32) (hv : inR v 0 9999) (h : Mm) (hI : Iv (h 97)) (hT : Tq (h 97)) : Ok w k MX8_light [.ref 96, .int (nI n), .int v] h (Rs [99, 107, 108] (oN (liF (liP (h 97) n v) (2 ^ nd (h 97)))) h) := by
  show Wp w k MX8_light _ 0 [some (.ref 96), some (.int (nI n)), some (.int v), none, none, none] [] h
  refine p_run (pc' := 4) [.iload_n 1, .iconst 0, .bipush 10] mkX8_light (by decide +kernel) rfl rfl ?_
  refine p_callSv (in_t w (k := k - 1) _ _ _ _ (in_nI (lo := 0) (hi := 10) (by omega) hn (by omega))) ksX8_75 (by decide +kernel) (by omega) rfl rfl rfl rfl rfl ?_
  refine p_if_eq (off := 14) 21 (by decide +kernel) (by decide) (fun c7 => ?_) (fun c7 => ?_)
  · exact False.elim (by revert c7; decide)
  · refine p_run (pc' := 15) [.iload_n 2, .iconst 0, .sipush 9999] mkX8_light (by decide +kernel) rfl rfl ?_
    refine p_callSv (in_t w (k := k - 1) _ _ _ _ (hv)) ksX8_75 (by decide +kernel) (by omega) rfl rfl rfl rfl rfl ?_
    refine p_if_ne (off := 6) 24 (by decide +kernel) (by decide) (fun c18 => ?_) (fun c18 => ?_)
    · refine p_run (pc' := 25) [.aload_n 0] mkX8_light (by decide +kernel) rfl rfl ?_
      refine p_callVw (thinks_ok w (k := k - 1) (by omega) h) kvX8_189 (by decide +kernel) (by decide) rfl (by omega) rfl rfl rfl rfl rfl ?_
      refine p_run (pc' := 34) [.ldc 195, .istore_n 3, .iconst 0, .istore 4] mkX8_light (by decide +kernel) rfl rfl ?_
      exact light_loop w (by omega) n hn v h hI hT (2 ^ nd (h 97)) 0 (by omega) _ none (wrN (by decide)) (wrS _ _ _) (Ag.wr (by decide))
    · exact False.elim (by revert c18; decide)
end
section
/-! the reference: branches, rules, deals -/
def mbP (N : Vc) (b : Nat) (a v : Int32) : Prop := (a = nI 0 ∧ bK N b 2 ≤ v ∧ v ≤ nI 999) ∨ (a = nI 1 ∧ inR v 0 99) ∨ (a = nI 2 ∧ nI 0 ≤ v ∧ v ≤ bK N b 0)
theorem mbP0 {N : Vc} {b : Nat} {v : Int32} : mbP N b (nI 0) v ↔ (bK N b 2 ≤ v ∧ v ≤ nI 999) := by
  unfold mbP
  constructor
  · rintro (⟨-, h⟩ | ⟨h, -⟩ | ⟨h, -⟩)
    · exact h
    · exact absurd h (by decide)
    · exact absurd h (by decide)
  · exact fun h => Or.inl ⟨rfl, h⟩
theorem mbP1 {N : Vc} {b : Nat} {v : Int32} : mbP N b (nI 1) v ↔ inR v 0 99 := by
  unfold mbP
  constructor
  · rintro (⟨h, -⟩ | ⟨-, h⟩ | ⟨h, -⟩)
    · exact absurd h (by decide)
    · exact h
    · exact absurd h (by decide)
  · exact fun h => Or.inr (Or.inl ⟨rfl, h⟩)
theorem mbP2 {N : Vc} {b : Nat} {v : Int32} : mbP N b (nI 2) v ↔ (nI 0 ≤ v ∧ v ≤ bK N b 0) := by
  unfold mbP
  constructor
  · rintro (⟨h, -⟩ | ⟨h, -⟩ | ⟨-, h⟩)
    · exact absurd h (by decide)
    · exact absurd h (by decide)
    · exact h
  · exact fun h => Or.inr (Or.inr ⟨rfl, h⟩)
theorem bIc {p q : Prop} (h : p ↔ q) : bI p = bI q := by rw [propext h]
set_option maxRecDepth 20000 in
set_option maxHeartbeats 4000000 in
theorem mayBe_ok (w : Wt) {k : Nat} (hk : 1 ≤ k) (b : Nat) (hb : b < 4) (a v : Int32) (h : Mm) : Ok w k MX8_mayBe [.ref 96, .int (nI b), .int a, .int v] h (Rv (bI (mbP (h 97) b a v)) h) := by
  show Wp w k MX8_mayBe _ 0 [some (.ref 96), some (.int (nI b)), some (.int a), some (.int v)] [] h
  refine p_run (pc' := 1) [.iload_n 2] mkX8_mayBe (by decide +kernel) rfl rfl ?_
  refine p_table (dflt := 61) (lo := 0) (hi := 2) (offs := #[27, 41, 49]) (len := 27) (by decide +kernel) (by decide) (fun j hj hx => ?_) (fun hx => ?_)
  · match j, hj, hx with
    | 0, _, hx =>
      have hx : a = Int32.ofInt (0) := hx
      refine ⟨27, 28, rfl, rfl, ?_⟩
      have hx : a = nI 0 := hx
      subst hx
      refine p_run (pc' := 32) [.iload_n 3, .aload_n 0, .iload_n 1, .iconst 2] mkX8_mayBe (by decide +kernel) rfl rfl ?_
      refine p_callVv (at_ok w (k := k - 1) b 2 _ (by omega)) kvX8_79 (by decide +kernel) (by decide) rfl (by omega) rfl rfl rfl rfl rfl ?_
      refine p_run (pc' := 38) [.sipush 999] mkX8_mayBe (by decide +kernel) rfl rfl ?_
      refine p_callSv (in_ok w (k := k - 1) _ _ _ _) ksX8_75 (by decide +kernel) (by omega) rfl rfl rfl rfl rfl ?_
      refine p_iret rfl bIn (by decide +kernel) ?_
      exact ⟨by rw [bIc mbP0]; rfl, rfl⟩
    | 1, _, hx =>
      have hx : a = Int32.ofInt (1) := hx
      refine ⟨41, 42, rfl, rfl, ?_⟩
      have hx : a = nI 1 := hx
      subst hx
      refine p_run (pc' := 46) [.iload_n 3, .iconst 0, .bipush 99] mkX8_mayBe (by decide +kernel) rfl rfl ?_
      refine p_callSv (in_ok w (k := k - 1) _ _ _ _) ksX8_75 (by decide +kernel) (by omega) rfl rfl rfl rfl rfl ?_
      refine p_iret rfl bIn (by decide +kernel) ?_
      exact ⟨by rw [bIc mbP1]; rfl, rfl⟩
    | 2, _, hx =>
      have hx : a = Int32.ofInt (2) := hx
      refine ⟨49, 50, rfl, rfl, ?_⟩
      have hx : a = nI 2 := hx
      subst hx
      refine p_run (pc' := 55) [.iload_n 3, .iconst 0, .aload_n 0, .iload_n 1, .iconst 0] mkX8_mayBe (by decide +kernel) rfl rfl ?_
      refine p_callVv (at_ok w (k := k - 1) b 0 _ (by omega)) kvX8_79 (by decide +kernel) (by decide) rfl (by omega) rfl rfl rfl rfl rfl ?_
      refine p_callSv (in_ok w (k := k - 1) _ _ _ _) ksX8_75 (by decide +kernel) (by omega) rfl rfl rfl rfl rfl ?_
      refine p_iret rfl bIn (by decide +kernel) ?_
      exact ⟨by rw [bIc mbP2]; rfl, rfl⟩
    | j + 3, hj, _ => exact absurd hj (by simp)
  · refine ⟨62, rfl, ?_⟩
    have hno : ¬ mbP (h 97) b a v := by
      rintro (⟨e, -⟩ | ⟨e, -⟩ | ⟨e, -⟩) <;> (rw [e] at hx; revert hx; decide)
    refine p_run (pc' := 63) [.iconst 0] mkX8_mayBe (by decide +kernel) rfl rfl ?_
    refine p_iret rfl rfl (by decide +kernel) ?_
    exact ⟨by rw [bIf hno]; rfl, rfl⟩
set_option maxRecDepth 20000 in
set_option maxHeartbeats 4000000 in
theorem r_branch_bad (w : Wt) {k : Nat} (hk : 2 ≤ k) (x a v : Int32) (h : Mm) (hb : ¬ (inR x 0 3 ∧ mbP (h 97) (nN x) a v)) : Ok w k MX8_branch [.ref 96, .int x, .int a, .int v] h (Rv BADv h) := by
  show Wp w k MX8_branch _ 0 [some (.ref 96), some (.int x), some (.int a), some (.int v)] [] h
  refine p_run (pc' := 1) [.iload_n 1] mkX8_branch (by decide +kernel) rfl rfl ?_
  refine p_callSv (risBranch_ok w (k := k - 1) (by omega) _ _) ksX8_120 (by decide +kernel) (by omega) rfl rfl rfl rfl rfl ?_
  refine p_if_eq (off := 29) 33 (by decide +kernel) (by decide) (fun c4 => ?_) (fun c4 => ?_)
  · refine p_run (pc' := 35) [.ldc 123] mkX8_branch (by decide +kernel) rfl rfl ?_
    refine p_iret rfl rfl (by decide +kernel) ?_
    exact ⟨rfl, rfl⟩
  · obtain ⟨b, -, hb4, rfl⟩ := inR_of (lo := 0) (hi := 3) (by omega) (by omega) (bI1.mp c4)
    refine p_run (pc' := 11) [.aload_n 0, .iload_n 1, .iload_n 2, .iload_n 3] mkX8_branch (by decide +kernel) rfl rfl ?_
    refine p_callVv (mayBe_ok w (k := k - 1) (by omega) b (by omega) _ _ _) kvX8_149 (by decide +kernel) (by decide) rfl (by omega) rfl rfl rfl rfl rfl ?_
    refine p_if_eq (off := 19) 33 (by decide +kernel) (by decide) (fun c14 => ?_) (fun c14 => ?_)
    · refine p_run (pc' := 35) [.ldc 123] mkX8_branch (by decide +kernel) rfl rfl ?_
      refine p_iret rfl rfl (by decide +kernel) ?_
      exact ⟨rfl, rfl⟩
    · exact absurd ⟨bI1.mp c4, by rw [nN_nI (by omega)]; exact bI1.mp c14⟩ hb
set_option maxRecDepth 20000 in
set_option maxHeartbeats 4000000 in
theorem r_branch (w : Wt) {k : Nat} (hk : 2 ≤ k) (b j : Nat) (hb : b < 4) (hj : j ≤ 2) (v : Int32) (h : Mm) (hm : mbP (h 97) b (nI j) v) : Ok w k MX8_branch [.ref 96, .int (nI b), .int (nI j), .int v] h (fun r h' => r = some (.int (h 97 (8 + 3 * b + j))) ∧ h' = up h 97 (8 + 3 * b + j) v) := by
  show Wp w k MX8_branch _ 0 [some (.ref 96), some (.int (nI b)), some (.int (nI j)), some (.int v)] [] h
  refine p_run (pc' := 1) [.iload_n 1] mkX8_branch (by decide +kernel) rfl rfl ?_
  refine p_callSv (isBranch_t w (k := k - 1) (by omega) _ _ (in_nI (lo := 0) (hi := 3) (by omega) (Nat.le_of_lt_succ hb) (by omega))) ksX8_120 (by decide +kernel) (by omega) rfl rfl rfl rfl rfl ?_
  refine p_if_eq (off := 29) 33 (by decide +kernel) (by decide) (fun c4 => ?_) (fun c4 => ?_)
  · exact False.elim (by revert c4; decide)
  · refine p_run (pc' := 11) [.aload_n 0, .iload_n 1, .iload_n 2, .iload_n 3] mkX8_branch (by decide +kernel) rfl rfl ?_
    refine p_callVv (mayBe_ok w (k := k - 1) (by omega) b hb _ _ _) kvX8_149 (by decide +kernel) (by decide) rfl (by omega) rfl rfl rfl rfl rfl ?_
    rw [bIt hm]
    refine p_if_eq (off := 19) 33 (by decide +kernel) (by decide) (fun c1 => ?_) (fun c1 => ?_)
    · exact False.elim (by revert c1; decide)
    · refine p_run (pc' := 27) [.aload_n 0, .bipush 8, .iconst 3, .iload_n 1, .imul, .iadd, .iload_n 2, .iadd, .iload_n 3] mkX8_branch (by decide +kernel) rfl rfl ?_
      refine Wp.eqS (st' := [.int v, .int (nI (8 + 3 * b + j)), .ref 96]) (by simp only [oI, nI_add, nIm]) ?_
      refine p_callV (swaps_ok w (k := k - 1) (8 + 3 * b + j) (by omega) v h) kvX8_146 (by decide +kernel) (by decide) rfl (by omega) rfl rfl rfl rfl rfl (fun r h' hq => ?_)
      obtain ⟨rfl, rfl⟩ := hq
      refine p_run (pc' := 35) [.goto 5] mkX8_branch (by decide +kernel) rfl rfl ?_
      refine p_iret rfl rfl (by decide +kernel) ?_
      exact ⟨rfl, rfl⟩
set_option maxRecDepth 20000 in
set_option maxHeartbeats 4000000 in
theorem allDigs_loop (w : Wt) {k : Nat} (hk : 4 ≤ k) (b : Nat) (h : Mm) (hI : Iv (h 97)) (hT : Tq (h 97)) : ∀ (m i : Nat), i + m = nd (h 97) → ∀ hh : Mm, Ag [107, 108] h hh → Wp w k MX8_allDigs (Rs [107, 108] (sumF (fun i => if litB (h 97) b i = true then dgF (h 97) i else nI 0) (nd (h 97))) h) 11 [some (.ref 96), some (.int (nI b)), some (.int (nI (setF (litB (h 97) b) (nd (h 97))))), some (.int (sumF (fun i => if litB (h 97) b i = true then dgF (h 97) i else nI 0) i)), some (.int (nI i))] [] hh := by
  obtain ⟨en, hn10⟩ := hI.nd
  intro m
  induction m with
  | zero =>
    intro i hi hh hA
    have e := hA 97 (by decide)
    have hi : i = nd (h 97) := by omega
    refine p_run (pc' := 18) [.iload 4, .aload_n 0, .getfield 9, .iconst 1] mkX8_allDigs (by decide +kernel) rfl rfl ?_
    refine p_iald (1) (by decide +kernel) rfl rfl (by simp only [oI]) (by omega) ?_
    rw [e, en, hi]
    refine p_icmp_ge (off := 32) 51 (by decide +kernel) (by decide) (fun c1 => ?_) (fun c1 => ?_)
    · refine p_run (pc' := 52) [.iload_n 3] mkX8_allDigs (by decide +kernel) rfl rfl ?_
      refine p_iret rfl rfl (by decide +kernel) ?_
      exact ⟨rfl, hA⟩
    · exact absurd (nI_le (Nat.le_refl _) (by omega)) c1
  | succ m ih =>
    intro i hi hh hA
    have e := hA 97 (by decide)
    refine p_run (pc' := 18) [.iload 4, .aload_n 0, .getfield 9, .iconst 1] mkX8_allDigs (by decide +kernel) rfl rfl ?_
    refine p_iald (1) (by decide +kernel) rfl rfl (by simp only [oI]) (by omega) ?_
    rw [e, en]
    refine p_icmp_ge (off := 32) 51 (by decide +kernel) (by decide) (fun c1 => ?_) (fun c1 => ?_)
    · exact absurd c1 (nI_ge (by omega) (by omega))
    · refine p_run (pc' := 30) [.iload_n 3, .iload_n 2, .iload 4, .ishr, .iconst 1, .iand, .iconst 1] mkX8_allDigs (by decide +kernel) rfl rfl ?_
      rw [oI, shr_bit i (by omega) _ (setF_1024 _ hn10), setF_div]
      refine p_icmp_ne (off := 12) 42 (by decide +kernel) (by decide) (fun c2 => ?_) (fun c2 => ?_)
      · have hp : ¬ litB (h 97) b i = true := fun q => c2 (iteN.mpr ⟨by omega, q⟩)
        refine p_run (pc' := 11) [.iconst 0, .iadd, .istore_n 3, .iinc 4 1, .goto (-37)] mkX8_allDigs (by decide +kernel) rfl rfl ?_
        refine Wp.eqL ?_ (ih (i + 1) (by omega) _ hA)
        rw [sumF, if_neg hp]
        rw [show nI i + Int32.ofInt 1 = nI (i + 1) by simp only [oI, nI_add]]
        rfl
      · have hp : litB (h 97) b i = true := (iteN.mp c2).2
        refine p_run (pc' := 36) [.aload_n 0, .iload 4] mkX8_allDigs (by decide +kernel) rfl rfl ?_
        refine p_callVi (digsOf_ok w (k := k - 1) (by omega) i (by omega) hh (by rw [e]; exact hI) (by rw [e]; exact hT)) (fun _ _ q => q.1) kvX8_132 (by decide +kernel) (by decide) rfl (by omega) rfl rfl rfl rfl rfl (fun h' hq => ?_)
        obtain ⟨-, hA2⟩ := hq
        refine p_run (pc' := 11) [.goto 4, .iadd, .istore_n 3, .iinc 4 1, .goto (-37)] mkX8_allDigs (by decide +kernel) rfl rfl ?_
        refine Wp.eqL ?_ (ih (i + 1) (by omega) _ (hA.tr hA2))
        rw [sumF, if_pos hp, e]
        rw [show nI i + Int32.ofInt 1 = nI (i + 1) by simp only [oI, nI_add]]
set_option maxRecDepth 20000 in
set_option maxHeartbeats 4000000 in
theorem allDigs_ok (w : Wt) {k : Nat} (hk : 4 ≤ k) (b : Nat) (h : Mm) (hI : Iv (h 97)) (hT : Tq (h 97)) : Ok w k MX8_allDigs [.ref 96, .int (nI b)] h (Rs [107, 108] (sumF (fun i => if litB (h 97) b i = true then dgF (h 97) i else nI 0) (nd (h 97))) h) := by
  show Wp w k MX8_allDigs _ 0 [some (.ref 96), some (.int (nI b)), none, none, none] [] h
  obtain ⟨en, hn10⟩ := hI.nd
  refine p_run (pc' := 2) [.aload_n 0, .iload_n 1] mkX8_allDigs (by decide +kernel) rfl rfl ?_
  refine p_callVv (rlitIn_ok w (k := k - 1) (by omega) b (nd (h 97)) h en hn10) kvX8_93 (by decide +kernel) (by decide) rfl (by omega) rfl rfl rfl rfl rfl ?_
  refine p_run (pc' := 11) [.istore_n 2, .iconst 0, .istore_n 3, .iconst 0, .istore 4] mkX8_allDigs (by decide +kernel) rfl rfl ?_
  exact allDigs_loop w hk b h hI hT (nd (h 97)) 0 (by omega) h Ag.rf
set_option maxRecDepth 20000 in
set_option maxHeartbeats 4000000 in
theorem r_branchOf_bad (w : Wt) {k : Nat} (hk : 2 ≤ k) (a b : Int32) (h : Mm)  (hb : ¬ (inR a 0 3 ∧ inR b 0 5)) : Ok w k MX8_branchOf [.ref 96, .int a, .int b] h (Rv BADv h) := by
  show Wp w k MX8_branchOf _ 0 [some (.ref 96), some (.int a), some (.int b)] [] h
  refine p_run (pc' := 1) [.iload_n 1] mkX8_branchOf (by decide +kernel) rfl rfl ?_
  refine p_callSv (risBranch_ok w (k := k - 1) (by omega) _ _) ksX8_120 (by decide +kernel) (by omega) rfl rfl rfl rfl rfl ?_
  refine p_if_eq (off := 12) 16 (by decide +kernel) (by decide) (fun c4 => ?_) (fun c4 => ?_)
  · refine p_run (pc' := 18) [.ldc 123] mkX8_branchOf (by decide +kernel) rfl rfl ?_
    refine p_iret rfl rfl (by decide +kernel) ?_
    exact ⟨rfl, rfl⟩
  · refine p_run (pc' := 10) [.iload_n 2, .iconst 0, .iconst 5] mkX8_branchOf (by decide +kernel) rfl rfl ?_
    refine p_callSv (in_ok w (k := k - 1) _ _ _ _) ksX8_75 (by decide +kernel) (by omega) rfl rfl rfl rfl rfl ?_
    refine p_if_ne (off := 6) 19 (by decide +kernel) (by decide) (fun c13 => ?_) (fun c13 => ?_)
    · exact absurd (⟨bI1.mp c4, bI1.mp c13⟩) hb
    · refine p_run (pc' := 18) [.ldc 123] mkX8_branchOf (by decide +kernel) rfl rfl ?_
      refine p_iret rfl rfl (by decide +kernel) ?_
      exact ⟨rfl, rfl⟩
noncomputable def boF (N : Vc) (b j : Nat) : Int32 := if j < 3 then N (8 + 3 * b + j) else if j = 3 then ahF N b else if j = 4 then nI (setF (inB N b) (nd N)) else sumF (fun i => if litB N b i = true then dgF N i else nI 0) (nd N)
set_option maxRecDepth 20000 in
set_option maxHeartbeats 4000000 in
theorem r_branchOf (w : Wt) {k : Nat} (hk : 5 ≤ k) (b j : Nat) (hb : b < 4) (hj : j ≤ 5) (h : Mm) (hI : Iv (h 97)) (hT : Tq (h 97)) : Ok w k MX8_branchOf [.ref 96, .int (nI b), .int (nI j)] h (Rs [107, 108] (boF (h 97) b j) h) := by
  show Wp w k MX8_branchOf _ 0 [some (.ref 96), some (.int (nI b)), some (.int (nI j))] [] h
  obtain ⟨en, hn10⟩ := hI.nd
  refine p_run (pc' := 1) [.iload_n 1] mkX8_branchOf (by decide +kernel) rfl rfl ?_
  refine p_callSv (isBranch_t w (k := k - 1) (by omega) _ _ (in_nI (lo := 0) (hi := 3) (by omega) (Nat.le_of_lt_succ hb) (by omega))) ksX8_120 (by decide +kernel) (by omega) rfl rfl rfl rfl rfl ?_
  refine p_if_eq (off := 12) 16 (by decide +kernel) (by decide) (fun c4 => ?_) (fun c4 => ?_)
  · exact False.elim (by revert c4; decide)
  · refine p_run (pc' := 10) [.iload_n 2, .iconst 0, .iconst 5] mkX8_branchOf (by decide +kernel) rfl rfl ?_
    refine p_callSv (in_t w (k := k - 1) _ _ _ _ (in_nI (lo := 0) (hi := 5) (by omega) hj (by omega))) ksX8_75 (by decide +kernel) (by omega) rfl rfl rfl rfl rfl ?_
    refine p_if_ne (off := 6) 19 (by decide +kernel) (by decide) (fun c13 => ?_) (fun c13 => ?_)
    · refine p_run (pc' := 21) [.iload_n 2, .iconst 3] mkX8_branchOf (by decide +kernel) rfl rfl ?_
      refine p_icmp_ge (off := 10) 31 (by decide +kernel) (by decide) (fun c21 => ?_) (fun c21 => ?_)
      · (try simp only [oI] at c21)
        rw [nI_leI (by omega) (by omega)] at c21
        refine p_run (pc' := 33) [.iload_n 2, .iconst 3] mkX8_branchOf (by decide +kernel) rfl rfl ?_
        refine p_icmp_ne (off := 11) 44 (by decide +kernel) (by decide) (fun c33 => ?_) (fun c33 => ?_)
        · (try simp only [oI] at c33)
          rw [nI_eq (by omega) (by omega)] at c33
          refine p_run (pc' := 46) [.iload_n 2, .iconst 4] mkX8_branchOf (by decide +kernel) rfl rfl ?_
          refine p_icmp_ne (off := 11) 57 (by decide +kernel) (by decide) (fun c46 => ?_) (fun c46 => ?_)
          · (try simp only [oI] at c46)
            rw [nI_eq (by omega) (by omega)] at c46
            refine p_run (pc' := 59) [.aload_n 0, .iload_n 1] mkX8_branchOf (by decide +kernel) rfl rfl ?_
            refine p_callVi (allDigs_ok w (k := k - 1) (by omega) b h hI hT) (fun _ _ q => q.1) kvX8_155 (by decide +kernel) (by decide) rfl (by omega) rfl rfl rfl rfl rfl (fun h' hq => ?_)
            obtain ⟨-, hA⟩ := hq
            refine p_iret rfl rfl (by decide +kernel) ?_
            exact ⟨congrArg (fun x => some (Value.int x)) (by unfold boF; (repeat' split) <;> first | rfl | omega), by first | exact hA | exact Ag.rf⟩
          · (try simp only [oI] at c46)
            rw [nI_eq (by omega) (by omega)] at c46
            refine p_run (pc' := 51) [.aload_n 0, .iload_n 1] mkX8_branchOf (by decide +kernel) rfl rfl ?_
            refine p_callVv (rdiggersIn_ok w (k := k - 1) (by omega) b (nd (h 97)) h en hn10) kvX8_152 (by decide +kernel) (by decide) rfl (by omega) rfl rfl rfl rfl rfl ?_
            refine p_run (pc' := 62) [.goto 8] mkX8_branchOf (by decide +kernel) rfl rfl ?_
            refine p_iret rfl rfl (by decide +kernel) ?_
            exact ⟨congrArg (fun x => some (Value.int x)) (by unfold boF; (repeat' split) <;> first | rfl | omega), by first | exact hA | exact Ag.rf⟩
        · (try simp only [oI] at c33)
          rw [nI_eq (by omega) (by omega)] at c33
          refine p_run (pc' := 38) [.aload_n 0, .iload_n 1] mkX8_branchOf (by decide +kernel) rfl rfl ?_
          refine p_callVv (rahead_ok w (k := k - 1) (by omega) b hb _) kvX8_90 (by decide +kernel) (by decide) rfl (by omega) rfl rfl rfl rfl rfl ?_
          refine p_run (pc' := 62) [.goto 21] mkX8_branchOf (by decide +kernel) rfl rfl ?_
          refine p_iret rfl rfl (by decide +kernel) ?_
          exact ⟨congrArg (fun x => some (Value.int x)) (by unfold boF; (repeat' split) <;> first | rfl | omega), by first | exact hA | exact Ag.rf⟩
      · (try simp only [oI] at c21)
        rw [nI_leI (by omega) (by omega)] at c21
        refine p_run (pc' := 27) [.aload_n 0, .iload_n 1, .iload_n 2] mkX8_branchOf (by decide +kernel) rfl rfl ?_
        refine p_callVv (at_ok w (k := k - 1) (b) (j) _ (by omega)) kvX8_79 (by decide +kernel) (by decide) rfl (by omega) rfl rfl rfl rfl rfl ?_
        refine p_iret rfl rfl (by decide +kernel) ?_
        exact ⟨congrArg (fun x => some (Value.int x)) (by unfold boF; (repeat' split) <;> first | rfl | omega), by first | exact hA | exact Ag.rf⟩
    · exact False.elim (by revert c13; decide)
def rlP (a v : Int32) : Prop := (a = nI 0 ∧ inR v 0 99) ∨ (a = nI 1 ∧ inR v 0 100)
set_option maxRecDepth 20000 in
set_option maxHeartbeats 4000000 in
theorem r_rule_bad (w : Wt) {k : Nat} (hk : 2 ≤ k) (a v : Int32) (h : Mm) (hb : ¬ rlP a v) : Ok w k MX8_rule [.ref 96, .int a, .int v] h (Rv BADv h) := by
  show Wp w k MX8_rule _ 0 [some (.ref 96), some (.int a), some (.int v)] [] h
  refine p_run (pc' := 3) [.iload_n 1, .iconst 0, .iconst 1] mkX8_rule (by decide +kernel) rfl rfl ?_
  refine p_callSv (in_ok w (k := k - 1) _ _ _ _) ksX8_75 (by decide +kernel) (by omega) rfl rfl rfl rfl rfl ?_
  refine p_if_eq (off := 33) 39 (by decide +kernel) (by decide) (fun c6 => ?_) (fun c6 => ?_)
  · refine p_run (pc' := 41) [.ldc 123] mkX8_rule (by decide +kernel) rfl rfl ?_
    refine p_iret rfl rfl (by decide +kernel) ?_
    exact ⟨rfl, rfl⟩
  · refine p_run (pc' := 12) [.iload_n 2, .iconst 0, .iload_n 1] mkX8_rule (by decide +kernel) rfl rfl ?_
    refine p_if_ne (off := 8) 20 (by decide +kernel) (by decide) (fun c12 => ?_) (fun c12 => ?_)
    · refine p_run (pc' := 22) [.bipush 100] mkX8_rule (by decide +kernel) rfl rfl ?_
      refine p_callSv (in_ok w (k := k - 1) _ _ _ _) ksX8_75 (by decide +kernel) (by omega) rfl rfl rfl rfl rfl ?_
      refine p_if_eq (off := 14) 39 (by decide +kernel) (by decide) (fun c25 => ?_) (fun c25 => ?_)
      · refine p_run (pc' := 41) [.ldc 123] mkX8_rule (by decide +kernel) rfl rfl ?_
        refine p_iret rfl rfl (by decide +kernel) ?_
        exact ⟨rfl, rfl⟩
      · exact absurd (by first | exact Or.inl ⟨c12, bI1.mp c25⟩ | (refine Or.inr ⟨?_, bI1.mp c25⟩; obtain ⟨j, -, hj, rfl⟩ := inR_of (lo := 0) (hi := 1) (by omega) (by omega) (bI1.mp c6); rw [nI_eq0 (by omega)] at c12; exact congrArg nI (by omega))) hb
    · refine p_run (pc' := 22) [.bipush 99, .goto 5] mkX8_rule (by decide +kernel) rfl rfl ?_
      refine p_callSv (in_ok w (k := k - 1) _ _ _ _) ksX8_75 (by decide +kernel) (by omega) rfl rfl rfl rfl rfl ?_
      refine p_if_eq (off := 14) 39 (by decide +kernel) (by decide) (fun c25 => ?_) (fun c25 => ?_)
      · refine p_run (pc' := 41) [.ldc 123] mkX8_rule (by decide +kernel) rfl rfl ?_
        refine p_iret rfl rfl (by decide +kernel) ?_
        exact ⟨rfl, rfl⟩
      · exact absurd (by first | exact Or.inl ⟨c12, bI1.mp c25⟩ | (refine Or.inr ⟨?_, bI1.mp c25⟩; obtain ⟨j, -, hj, rfl⟩ := inR_of (lo := 0) (hi := 1) (by omega) (by omega) (bI1.mp c6); rw [nI_eq0 (by omega)] at c12; exact congrArg nI (by omega))) hb
set_option maxRecDepth 20000 in
set_option maxHeartbeats 4000000 in
theorem r_rule0 (w : Wt) {k : Nat} (hk : 2 ≤ k) (v : Int32) (h : Mm) (hv : inR v 0 99) : Ok w k MX8_rule [.ref 96, .int (nI 0), .int v] h (fun r h' => r = some (.int (h 97 3)) ∧ h' = up h 97 3 v) := by
  show Wp w k MX8_rule _ 0 [some (.ref 96), some (.int (nI 0)), some (.int v)] [] h
  refine p_run (pc' := 3) [.iload_n 1, .iconst 0, .iconst 1] mkX8_rule (by decide +kernel) rfl rfl ?_
  refine p_callSv (in_t w (k := k - 1) _ _ _ _ (in_nI (j := 0) (lo := 0) (hi := 1) (by omega) (by omega) (by omega))) ksX8_75 (by decide +kernel) (by omega) rfl rfl rfl rfl rfl ?_
  refine p_if_eq (off := 33) 39 (by decide +kernel) (by decide) (fun c6 => ?_) (fun c6 => ?_)
  · exact False.elim (by revert c6; decide)
  · refine p_run (pc' := 12) [.iload_n 2, .iconst 0, .iload_n 1] mkX8_rule (by decide +kernel) rfl rfl ?_
    refine p_if_ne (off := 8) 20 (by decide +kernel) (by decide) (fun c12 => ?_) (fun c12 => ?_)
    · exact False.elim (by revert c12; decide)
    · refine p_run (pc' := 22) [.bipush 99, .goto 5] mkX8_rule (by decide +kernel) rfl rfl ?_
      refine p_callSv (in_t w (k := k - 1) _ _ _ _ (hv)) ksX8_75 (by decide +kernel) (by omega) rfl rfl rfl rfl rfl ?_
      refine p_if_eq (off := 14) 39 (by decide +kernel) (by decide) (fun c25 => ?_) (fun c25 => ?_)
      · exact False.elim (by revert c25; decide)
      · refine p_run (pc' := 33) [.aload_n 0, .iconst 3, .iload_n 1, .iadd, .iload_n 2] mkX8_rule (by decide +kernel) rfl rfl ?_
        refine Wp.eqS (st' := [.int v, .int (nI 3), .ref 96]) rfl ?_
        refine p_callV (swaps_ok w (k := k - 1) 3 (by omega) v h) kvX8_146 (by decide +kernel) (by decide) rfl (by omega) rfl rfl rfl rfl rfl (fun r h' hq => ?_)
        obtain ⟨rfl, rfl⟩ := hq
        refine p_run (pc' := 41) [.goto 5] mkX8_rule (by decide +kernel) rfl rfl ?_
        refine p_iret rfl rfl (by decide +kernel) ?_
        exact ⟨rfl, rfl⟩
set_option maxRecDepth 20000 in
set_option maxHeartbeats 4000000 in
theorem r_rule1 (w : Wt) {k : Nat} (hk : 2 ≤ k) (v : Int32) (h : Mm) (hv : inR v 0 100) : Ok w k MX8_rule [.ref 96, .int (nI 1), .int v] h (fun r h' => r = some (.int (h 97 4)) ∧ h' = up h 97 4 v) := by
  show Wp w k MX8_rule _ 0 [some (.ref 96), some (.int (nI 1)), some (.int v)] [] h
  refine p_run (pc' := 3) [.iload_n 1, .iconst 0, .iconst 1] mkX8_rule (by decide +kernel) rfl rfl ?_
  refine p_callSv (in_t w (k := k - 1) _ _ _ _ (in_nI (j := 1) (lo := 0) (hi := 1) (by omega) (by omega) (by omega))) ksX8_75 (by decide +kernel) (by omega) rfl rfl rfl rfl rfl ?_
  refine p_if_eq (off := 33) 39 (by decide +kernel) (by decide) (fun c6 => ?_) (fun c6 => ?_)
  · exact False.elim (by revert c6; decide)
  · refine p_run (pc' := 12) [.iload_n 2, .iconst 0, .iload_n 1] mkX8_rule (by decide +kernel) rfl rfl ?_
    refine p_if_ne (off := 8) 20 (by decide +kernel) (by decide) (fun c12 => ?_) (fun c12 => ?_)
    · refine p_run (pc' := 22) [.bipush 100] mkX8_rule (by decide +kernel) rfl rfl ?_
      refine p_callSv (in_t w (k := k - 1) _ _ _ _ (hv)) ksX8_75 (by decide +kernel) (by omega) rfl rfl rfl rfl rfl ?_
      refine p_if_eq (off := 14) 39 (by decide +kernel) (by decide) (fun c25 => ?_) (fun c25 => ?_)
      · exact False.elim (by revert c25; decide)
      · refine p_run (pc' := 33) [.aload_n 0, .iconst 3, .iload_n 1, .iadd, .iload_n 2] mkX8_rule (by decide +kernel) rfl rfl ?_
        refine Wp.eqS (st' := [.int v, .int (nI 4), .ref 96]) rfl ?_
        refine p_callV (swaps_ok w (k := k - 1) 4 (by omega) v h) kvX8_146 (by decide +kernel) (by decide) rfl (by omega) rfl rfl rfl rfl rfl (fun r h' hq => ?_)
        obtain ⟨rfl, rfl⟩ := hq
        refine p_run (pc' := 41) [.goto 5] mkX8_rule (by decide +kernel) rfl rfl ?_
        refine p_iret rfl rfl (by decide +kernel) ?_
        exact ⟨rfl, rfl⟩
    · exact False.elim (by revert c12; decide)
def dlF (N : Vc) : Vc := addF (drF (drF (drF (drF N)))) (nI (dvN (zF (N 0)) % 6)) (nI (dvN (zF (zF (N 0))) % 40 + 10)) (nI (dvN (zF (zF (zF (N 0)))) % 60 + 5)) (nI (dvN (zF (zF (zF (zF (N 0))))) % 4))
def dlI (N : Vc) : Nat → Vc
  | 0 => N
  | n + 1 => dlF (dlI N n)
theorem nd_dr (N : Vc) : nd (drF N) = nd N := nd_upd (by omega)
theorem addF_Iv {N : Vc} (hI : Iv N) (hn : nd N < 10) {a b c e : Int32} (ha : In a 5) (hb : In b 99) (hc : In c 99) (he : In e 3) : Iv (addF N a b c e) := by
  have h1 : Iv (upd (upd (upd (upd (upd N (20 + 5 * nd N + 0) a) (20 + 5 * nd N + 1) b) (20 + 5 * nd N + 2) c) (20 + 5 * nd N + 3) e) (20 + 5 * nd N + 4) (nI 0)) :=
    ((((hI.dk (j := 0) hn (by omega) ha).dk (j := 1) hn (by omega) hb).dk (j := 2) hn (by omega) hc).dk (j := 3) hn (by omega) he).dk (j := 4) hn (by omega) (In_nI (Nat.zero_le _) (by decide))
  have e1 : addF N a b c e = upd (upd (upd (upd (upd (upd N (20 + 5 * nd N + 0) a) (20 + 5 * nd N + 1) b) (20 + 5 * nd N + 2) c) (20 + 5 * nd N + 3) e) (20 + 5 * nd N + 4) (nI 0)) 1 (N 1 + nI 1) := by
    funext j
    unfold addF
    by_cases q : j = 1
    · subst q
      rw [upd_s, upd_n (by omega), upd_n (by omega), upd_n (by omega), upd_n (by omega), upd_n (by omega), upd_s]
    · rw [upd_n q]
      simp only [upd, q, if_false]
  obtain ⟨a1, a2, a3, a4, a5, a6, a7⟩ := h1
  rw [e1]
  generalize upd (upd (upd (upd (upd N (20 + 5 * nd N + 0) a) (20 + 5 * nd N + 1) b) (20 + 5 * nd N + 2) c) (20 + 5 * nd N + 3) e) (20 + 5 * nd N + 4) (nI 0) = M at *
  have en := hI.nd.1
  refine ⟨?_, by rw [upd_n (by omega)]; exact a2, by rw [upd_n (by omega)]; exact a3, by rw [upd_n (by omega)]; exact a4, fun b hb => ?_, fun d hd => ?_, fun t ht => ?_⟩
  · rw [upd_s, en, nI_add]
    exact In_nI (by omega) (by omega)
  · have e : ∀ i, i < 3 → bK (upd M 1 (N 1 + nI 1)) b i = bK M b i := fun i hi => upd_n (by omega)
    rw [e 0 (by omega), e 1 (by omega), e 2 (by omega)]
    exact a5 b hb
  · have e : ∀ i, i < 5 → dK (upd M 1 (N 1 + nI 1)) d i = dK M d i := fun i hi => upd_n (by omega)
    rw [e 0 (by omega), e 1 (by omega), e 2 (by omega), e 3 (by omega), e 4 (by omega)]
    exact a6 d hd
  · rw [upd_n (by omega)] at ht
    have := a7 t ht
    unfold TX at this ⊢
    rw [upd_n (by omega)]
    have e2 : (fun i => upd M 1 (N 1 + nI 1) (98 + 96 * t + i)) = fun i => M (98 + 96 * t + i) := by funext i; exact upd_n (by omega)
    rw [e2]
    exact this
theorem addF_nd {N : Vc} (hI : Iv N) (a b c e : Int32) : nd (addF N a b c e) = nd N + 1 := by
  have en := hI.nd
  unfold nd
  show nN (addF N a b c e 1) = nN (N 1) + 1
  unfold addF
  rw [upd_n (by omega), upd_n (by omega), upd_n (by omega), upd_n (by omega), upd_n (by omega), upd_s, en.1, nI_add, nN_nI (by omega), nN_nI (by omega)]
theorem addF_out {N : Vc} {j : Nat} {a b c e : Int32} (hn : nd N < 10) (hj : j = 0 ∨ (2 ≤ j ∧ j < 20) ∨ 70 ≤ j) : addF N a b c e j = N j := by
  unfold addF
  rw [upd_n (by omega), upd_n (by omega), upd_n (by omega), upd_n (by omega), upd_n (by omega), upd_n (by omega)]
theorem dr4_Iv {N : Vc} (hI : Iv N) : Iv (drF (drF (drF (drF N)))) := drF_Iv (drF_Iv (drF_Iv (drF_Iv hI)))
theorem dr4_nd (N : Vc) : nd (drF (drF (drF (drF N)))) = nd N := by rw [nd_dr, nd_dr, nd_dr, nd_dr]
theorem dlF_Iv {N : Vc} (hI : Iv N) (hn : nd N < 10) : Iv (dlF N) :=
  addF_Iv (dr4_Iv hI) (by rw [dr4_nd]; exact hn) (In_nI (by omega) (by omega)) (In_nI (by omega) (by omega)) (In_nI (by omega) (by omega)) (In_nI (by omega) (by omega))
theorem dlF_nd {N : Vc} (hI : Iv N) : nd (dlF N) = nd N + 1 := by
  unfold dlF
  rw [addF_nd (dr4_Iv hI), dr4_nd]
theorem dlI_ok {N : Vc} (hI : Iv N) : ∀ n, nd N + n ≤ 10 → Iv (dlI N n) ∧ nd (dlI N n) = nd N + n
  | 0, _ => ⟨hI, rfl⟩
  | n + 1, h => by
    obtain ⟨h1, h2⟩ := dlI_ok hI n (by omega)
    rw [dlI]
    exact ⟨dlF_Iv h1 (by omega), by rw [dlF_nd h1, h2]; omega⟩
set_option maxRecDepth 20000 in
set_option maxHeartbeats 4000000 in
theorem r_deal_bad (w : Wt) {k : Nat} (hk : 2 ≤ k) (a : Int32) (h : Mm)  (hb : ¬ (inR a 1 10)) : Ok w k MX8_deal [.ref 96, .int a] h (Rv BADv h) := by
  show Wp w k MX8_deal _ 0 [some (.ref 96), some (.int a), none, none, none, none, none] [] h
  refine p_run (pc' := 4) [.iload_n 1, .iconst 1, .bipush 10] mkX8_deal (by decide +kernel) rfl rfl ?_
  refine p_callSv (in_ok w (k := k - 1) _ _ _ _) ksX8_75 (by decide +kernel) (by omega) rfl rfl rfl rfl rfl ?_
  refine p_if_ne (off := 6) 13 (by decide +kernel) (by decide) (fun c7 => ?_) (fun c7 => ?_)
  · exact absurd (bI1.mp c7) hb
  · refine p_run (pc' := 12) [.ldc 123] mkX8_deal (by decide +kernel) rfl rfl ?_
    refine p_iret rfl rfl (by decide +kernel) ?_
    exact ⟨rfl, rfl⟩
set_option maxRecDepth 20000 in
set_option maxHeartbeats 4000000 in
theorem deal_loop (w : Wt) {k : Nat} (hk : 2 ≤ k) (n : Nat) (hn : 1 ≤ n ∧ n ≤ 10) (h : Mm) (hI : Iv (h 97)) : ∀ (m i : Nat), i + m = min n (10 - nd (h 97)) → ∀ (hh : Mm) (x3 x4 x5 x6 : Option Value), hh 97 = dlI (h 97) i → Ag [97] h hh → Wp w k MX8_deal (fun r h' => r = some (.int (nI (min n (10 - nd (h 97))))) ∧ h' 97 = dlI (h 97) (min n (10 - nd (h 97))) ∧ Ag [97] h h') 15 [some (.ref 96), some (.int (nI n)), some (.int (nI i)), x3, x4, x5, x6] [] hh := by
  have hn10 := hI.nd.2
  intro m
  induction m with
  | zero =>
    intro i hi hh x3 x4 x5 x6 e hA
    have hi : i = min n (10 - nd (h 97)) := by omega
    obtain ⟨hI2, hn2⟩ := dlI_ok hI i (by omega)
    refine p_run (pc' := 17) [.iload_n 2, .iload_n 1] mkX8_deal (by decide +kernel) rfl rfl ?_
    refine p_icmp_ge (off := 68) 85 (by decide +kernel) (by decide) (fun c1 => ?_) (fun c1 => ?_)
    · refine p_run (pc' := 86) [.iload_n 2] mkX8_deal (by decide +kernel) rfl rfl ?_
      refine p_iret rfl rfl (by decide +kernel) ?_
      exact ⟨by rw [← hi], by rw [← hi]; exact e, hA⟩
    · have hlt : i < n := Nat.not_le.mp (fun q => c1 (nI_le q (by omega)))
      refine p_run (pc' := 25) [.aload_n 0, .getfield 9, .iconst 1] mkX8_deal (by decide +kernel) rfl rfl ?_
      refine p_iald (1) (by decide +kernel) rfl rfl (by simp only [oI]) (by omega) ?_
      rw [e, hI2.nd.1, hn2]
      refine p_run (pc' := 28) [.bipush 10] mkX8_deal (by decide +kernel) rfl rfl ?_
      refine p_icmp_ge (off := 57) 85 (by decide +kernel) (by decide) (fun c2 => ?_) (fun c2 => ?_)
      · refine p_run (pc' := 86) [.iload_n 2] mkX8_deal (by decide +kernel) rfl rfl ?_
        refine p_iret rfl rfl (by decide +kernel) ?_
        exact ⟨by rw [← hi], by rw [← hi]; exact e, hA⟩
      · exact absurd (by rw [oI]; exact nI_le (by omega) (by omega)) c2
  | succ m ih =>
    intro i hi hh x3 x4 x5 x6 e hA
    obtain ⟨hI2, hn2⟩ := dlI_ok hI i (by omega)
    refine p_run (pc' := 17) [.iload_n 2, .iload_n 1] mkX8_deal (by decide +kernel) rfl rfl ?_
    refine p_icmp_ge (off := 68) 85 (by decide +kernel) (by decide) (fun c1 => ?_) (fun c1 => ?_)
    · exact absurd c1 (nI_ge (by omega) (by omega))
    · refine p_run (pc' := 25) [.aload_n 0, .getfield 9, .iconst 1] mkX8_deal (by decide +kernel) rfl rfl ?_
      refine p_iald (1) (by decide +kernel) rfl rfl (by simp only [oI]) (by omega) ?_
      rw [e, hI2.nd.1, hn2]
      refine p_run (pc' := 28) [.bipush 10] mkX8_deal (by decide +kernel) rfl rfl ?_
      refine p_icmp_ge (off := 57) 85 (by decide +kernel) (by decide) (fun c2 => ?_) (fun c2 => ?_)
      · exact absurd c2 (by rw [oI]; exact nI_ge (by omega) (by omega))
      · generalize eN : dlI (h 97) i = N at *
        have hd1 := dvN_lt (zF (N 0))
        have hd2 := dvN_lt (zF (zF (N 0)))
        have hd3 := dvN_lt (zF (zF (zF (N 0))))
        have hd4 := dvN_lt (zF (zF (zF (zF (N 0)))))
        refine p_run (pc' := 32) [.aload_n 0] mkX8_deal (by decide +kernel) rfl rfl ?_
        refine p_callVv (draw_ok w (k := k - 1) _) kvX8_159 (by decide +kernel) (by decide) rfl (by omega) rfl rfl rfl rfl rfl ?_
        simp only [upS, e, upd_s]
        refine p_run (pc' := 37) [.bipush 6] mkX8_deal (by decide +kernel) rfl rfl ?_
        refine p_irem (by decide +kernel) (by decide) ?_
        simp only [oI]
        rw [jrem_nI (by omega) (by omega) (by omega)]
        refine p_run (pc' := 40) [.istore_n 3, .aload_n 0] mkX8_deal (by decide +kernel) rfl rfl ?_
        refine p_callVv (draw_ok w (k := k - 1) _) kvX8_159 (by decide +kernel) (by decide) rfl (by omega) rfl rfl rfl rfl rfl ?_
        simp only [upS, e, upd_s]
        refine p_run (pc' := 45) [.bipush 40] mkX8_deal (by decide +kernel) rfl rfl ?_
        refine p_irem (by decide +kernel) (by decide) ?_
        simp only [oI]
        rw [jrem_nI (by omega) (by omega) (by omega)]
        refine p_run (pc' := 52) [.bipush 10, .iadd, .istore 4, .aload_n 0] mkX8_deal (by decide +kernel) rfl rfl ?_
        refine p_callVv (draw_ok w (k := k - 1) _) kvX8_159 (by decide +kernel) (by decide) rfl (by omega) rfl rfl rfl rfl rfl ?_
        simp only [upS, e, upd_s]
        refine p_run (pc' := 57) [.bipush 60] mkX8_deal (by decide +kernel) rfl rfl ?_
        refine p_irem (by decide +kernel) (by decide) ?_
        simp only [oI]
        rw [jrem_nI (by omega) (by omega) (by omega)]
        refine p_run (pc' := 69) [.iconst 5, .iadd, .istore 5, .aload_n 0, .iload_n 3, .iload 4, .iload 5, .aload_n 0] mkX8_deal (by decide +kernel) rfl rfl ?_
        refine p_callVv (draw_ok w (k := k - 1) _) kvX8_159 (by decide +kernel) (by decide) rfl (by omega) rfl rfl rfl rfl rfl ?_
        simp only [upS, e, upd_s]
        refine p_run (pc' := 73) [.iconst 4] mkX8_deal (by decide +kernel) rfl rfl ?_
        refine p_irem (by decide +kernel) (by decide) ?_
        simp only [oI]
        rw [jrem_nI (by omega) (by omega) (by omega)]
        simp only [nI_add]
        generalize e5 : up (up (up (up hh 97 0 _) 97 0 _) 97 0 _) 97 0 _ = h5
        have e97 : h5 97 = drF (drF (drF (drF N))) := by rw [← e5]; simp only [upS, e, drF, upd_s]
        have hA5 : Ag [97] hh h5 := by rw [← e5]; exact (Ag.up (by decide)).tr ((Ag.up (by decide)).tr ((Ag.up (by decide)).tr (Ag.up (by decide))))
        refine p_callVi (comes_ok w (k := k - 1) (by omega) _ _ _ _ h5 (by rw [e97]; exact dr4_Iv hI2) (by rw [e97, dr4_nd]; omega)) (fun _ _ q => q.1) kvX8_125 (by decide +kernel) (by decide) rfl (by omega) rfl rfl rfl rfl rfl (fun h' hq => ?_)
        obtain ⟨-, e6, hA6⟩ := hq
        refine p_run (pc' := 15) [.istore 6, .iinc 2 1, .goto (-67)] mkX8_deal (by decide +kernel) rfl rfl ?_
        refine Wp.eqL ?_ (ih (i + 1) (by omega) _ (some (.int (nI (dvN (zF (N 0)) % 6)))) (some (.int (nI (dvN (zF (zF (N 0))) % 40 + 10)))) (some (.int (nI (dvN (zF (zF (zF (N 0)))) % 60 + 5)))) (some (.int (nI (nd (h5 97))))) ?_ (hA.tr (hA5.tr hA6)))
        · simp only [oI, nI_add]
        · rw [e6, e97, dlI, eN]; rfl
set_option maxRecDepth 20000 in
set_option maxHeartbeats 4000000 in
theorem r_deal (w : Wt) {k : Nat} (hk : 2 ≤ k) (n : Nat) (hn : 1 ≤ n ∧ n ≤ 10) (h : Mm) (hI : Iv (h 97)) : Ok w k MX8_deal [.ref 96, .int (nI n)] h (fun r h' => r = some (.int (nI (min n (10 - nd (h 97))))) ∧ h' 97 = dlI (h 97) (min n (10 - nd (h 97))) ∧ Ag [97] h h') := by
  show Wp w k MX8_deal _ 0 [some (.ref 96), some (.int (nI n)), none, none, none, none, none] [] h
  refine p_run (pc' := 4) [.iload_n 1, .iconst 1, .bipush 10] mkX8_deal (by decide +kernel) rfl rfl ?_
  refine p_callSv (in_t w (k := k - 1) _ _ _ _ (in_nI (lo := 1) (hi := 10) hn.1 hn.2 (by omega))) ksX8_75 (by decide +kernel) (by omega) rfl rfl rfl rfl rfl ?_
  refine p_if_ne (off := 6) 13 (by decide +kernel) (by decide) (fun c7 => ?_) (fun c7 => ?_)
  · refine p_run (pc' := 15) [.iconst 0, .istore_n 2] mkX8_deal (by decide +kernel) rfl rfl ?_
    exact deal_loop w (by omega) n hn h hI (min n (10 - nd (h 97))) 0 (by omega) h none none none none rfl Ag.rf
  · exact False.elim (by revert c7; decide)
end
section
/-! the reference: fee, fine, rows kept -/
noncomputable def feF (N : Vc) : Int32 := match lawT N 1 with
  | none => N 5
  | some t => evF N t (fc4 (N 5) (hlF N) (nI 0) (nI 0))
noncomputable def fiF (N : Vc) (d : Nat) : Int32 := match lawT N 2 with
  | none => dK N d 2
  | some t => evF N t (fc4 (dK N d 1) (dK N d 2) (nI 0) (nI 0))
set_option maxRecDepth 20000 in
set_option maxHeartbeats 4000000 in
theorem r_fee (w : Wt) {k : Nat} (hk : 3 ≤ k) (h : Mm) (hI : Iv (h 97)) (hT : Tq (h 97)) : Ok w k MX8_fee [.ref 96] h (Rs [107, 108] (feF (h 97)) h) := by
  show Wp w k MX8_fee _ 0 [some (.ref 96), none] [] h
  refine p_run (pc' := 2) [.aload_n 0, .iconst 1] mkX8_fee (by decide +kernel) rfl rfl ?_
  refine p_callVv (counts_ok w (k := k - 1) 1 (by omega) h hI.tx hT) kvX8_86 (by decide +kernel) (by decide) rfl (by omega) rfl rfl rfl rfl rfl ?_
  refine p_run (pc' := 16) [.istore_n 1, .aload_n 0, .getfield 45, .iconst 0, .aload_n 0, .getfield 9, .iconst 5] mkX8_fee (by decide +kernel) rfl rfl ?_
  refine p_iald (5) (by decide +kernel) rfl rfl (by simp only [oI]) (by omega) ?_
  refine p_iast (0) (by decide +kernel) rfl rfl (by simp only [oI]) (by omega)  ?_
  refine p_run (pc' := 25) [.aload_n 0, .getfield 45, .iconst 1, .aload_n 0, .iconst 4] mkX8_fee (by decide +kernel) rfl rfl ?_
  refine p_callVv (sums_ok w (k := k - 1) (by omega) 4 (by omega) _ (by simp only [upN (show (97 : Nat) ≠ 108 by decide)]; exact hI)) kvX8_173 (by decide +kernel) (by decide) rfl (by omega) rfl rfl rfl rfl rfl ?_
  simp only [upN (show (97 : Nat) ≠ 108 by decide)]
  refine p_iast (1) (by decide +kernel) rfl rfl (by simp only [oI]) (by omega)  ?_
  generalize e4 : up (up h 108 0 _) 108 1 _ = h4
  have e97 : h4 97 = h 97 := by rw [← e4]; simp only [upN (show (97 : Nat) ≠ 108 by decide)]
  have eA : ∀ a, a ≠ 108 → h4 a = h a := fun a ha => by rw [← e4]; simp only [upN ha]
  have e108 : ∀ i, i < 2 → h4 108 i = fc4 (h 97 5) (hlF (h 97)) (nI 0) (nI 0) i := fun i hi => by
    rw [← e4]
    rcases (show i = 0 ∨ i = 1 by omega) with rfl | rfl
    · simp [up, fc4]; (try rfl)
    · simp [up, fc4]; (try rfl)
  cases hl : lawT (h 97) 1 with
  | none =>
    rw [show oT none = Int32.ofInt (-1) from rfl]
    refine p_run (pc' := 30) [.iload_n 1] mkX8_fee (by decide +kernel) rfl rfl ?_
    refine p_if_ge (off := 12) 42 (by decide +kernel) (by decide) (fun c1 => ?_) (fun c1 => ?_)
    · exact False.elim (by revert c1; decide)
    · refine p_run (pc' := 38) [.aload_n 0, .getfield 9, .iconst 5] mkX8_fee (by decide +kernel) rfl rfl ?_
      refine p_iald (5) (by decide +kernel) rfl rfl (by first | rfl | simp only [oI]) (by omega) ?_
      refine p_run (pc' := 47) [.goto 8] mkX8_fee (by decide +kernel) rfl rfl ?_
      refine p_iret rfl rfl (by decide +kernel) ?_
      exact ⟨by rw [feF, hl, e97]; (try rfl), fun a ha => eA a (fun e => ha (by rw [e]; decide))⟩
  | some t =>
    rw [show oT (some t) = nI t from rfl]
    obtain ⟨ht, hX, hx0⟩ := lastT_spec hl hI
    refine p_run (pc' := 30) [.iload_n 1] mkX8_fee (by decide +kernel) rfl rfl ?_
    refine p_if_ge (off := 12) 42 (by decide +kernel) (by decide) (fun c1 => ?_) (fun c1 => ?_)
    · refine p_run (pc' := 44) [.aload_n 0, .iload_n 1] mkX8_fee (by decide +kernel) rfl rfl ?_
      refine p_callVi (worksOut_ok w (k := k - 1) (by omega) t ht _ (by rw [e97]; exact hX)) (fun _ _ q => q.1) kvX8_99 (by decide +kernel) (by decide) rfl (by omega) rfl rfl rfl rfl rfl (fun h' hq => ?_)
      obtain ⟨-, hA⟩ := hq
      refine p_iret rfl rfl (by decide +kernel) ?_
      refine ⟨?_, fun a ha => (hA a (fun e => ha (by rw [e]; decide))).trans (eA a (fun e => ha (by rw [e]; decide)))⟩
      rw [feF, hl, e97, evF_congr hX (fun i hi => e108 i (by rw [hx0] at hi; exact hi))]
    · exact absurd (by rw [← nI_0]; exact nI_le (Nat.zero_le _) (by omega)) c1
set_option maxRecDepth 20000 in
set_option maxHeartbeats 4000000 in
theorem r_fine_bad (w : Wt) {k : Nat} (hk : 2 ≤ k) (a : Int32) (h : Mm)  (hb : ¬ (isD (h 97) a)) : Ok w k MX8_fine [.ref 96, .int a] h (Rv BADv h) := by
  show Wp w k MX8_fine _ 0 [some (.ref 96), some (.int a), none] [] h
  refine p_run (pc' := 2) [.aload_n 0, .iload_n 1] mkX8_fine (by decide +kernel) rfl rfl ?_
  refine p_callVv (risDigger_ok w (k := k - 1) (by omega) _ _) kvX8_129 (by decide +kernel) (by decide) rfl (by omega) rfl rfl rfl rfl rfl ?_
  refine p_if_ne (off := 6) 11 (by decide +kernel) (by decide) (fun c5 => ?_) (fun c5 => ?_)
  · exact absurd (bI1.mp c5) hb
  · refine p_run (pc' := 10) [.ldc 123] mkX8_fine (by decide +kernel) rfl rfl ?_
    refine p_iret rfl rfl (by decide +kernel) ?_
    exact ⟨rfl, rfl⟩
set_option maxRecDepth 20000 in
set_option maxHeartbeats 4000000 in
theorem r_fine (w : Wt) {k : Nat} (hk : 3 ≤ k) (d : Nat) (h : Mm) (hI : Iv (h 97)) (hT : Tq (h 97)) (hd : d < nd (h 97)) : Ok w k MX8_fine [.ref 96, .int (nI d)] h (Rs [107, 108] (fiF (h 97) d) h) := by
  show Wp w k MX8_fine _ 0 [some (.ref 96), some (.int (nI d)), none] [] h
  obtain ⟨en, hn10⟩ := hI.nd
  refine p_run (pc' := 2) [.aload_n 0, .iload_n 1] mkX8_fine (by decide +kernel) rfl rfl ?_
  refine p_callVv (isDigger_t w (k := k - 1) (by omega) _ _ (isD_nI en hd hn10)) kvX8_129 (by decide +kernel) (by decide) rfl (by omega) rfl rfl rfl rfl rfl ?_
  refine p_if_ne (off := 6) 11 (by decide +kernel) (by decide) (fun c5 => ?_) (fun c5 => ?_)
  · refine p_run (pc' := 13) [.aload_n 0, .iconst 2] mkX8_fine (by decide +kernel) rfl rfl ?_
    refine p_callVv (counts_ok w (k := k - 1) 2 (by omega) h hI.tx hT) kvX8_86 (by decide +kernel) (by decide) rfl (by omega) rfl rfl rfl rfl rfl ?_
    refine p_run (pc' := 25) [.istore_n 2, .aload_n 0, .getfield 45, .iconst 0, .aload_n 0, .iload_n 1, .iconst 1] mkX8_fine (by decide +kernel) rfl rfl ?_
    refine p_callVv (of_ok w (k := k - 1) d 1 _ (by omega)) kvX8_83 (by decide +kernel) (by decide) rfl (by omega) rfl rfl rfl rfl rfl ?_
    refine p_iast (0) (by decide +kernel) rfl rfl (by simp only [oI]) (by omega)  ?_
    refine p_run (pc' := 37) [.aload_n 0, .getfield 45, .iconst 1, .aload_n 0, .iload_n 1, .iconst 2] mkX8_fine (by decide +kernel) rfl rfl ?_
    refine p_callVv (of_ok w (k := k - 1) d 2 _ (by omega)) kvX8_83 (by decide +kernel) (by decide) rfl (by omega) rfl rfl rfl rfl rfl ?_
    simp only [upN (show (97 : Nat) ≠ 108 by decide)]
    refine p_iast (1) (by decide +kernel) rfl rfl (by simp only [oI]) (by omega)  ?_
    generalize e4 : up (up h 108 0 _) 108 1 _ = h4
    have e97 : h4 97 = h 97 := by rw [← e4]; simp only [upN (show (97 : Nat) ≠ 108 by decide)]
    have eA : ∀ a, a ≠ 108 → h4 a = h a := fun a ha => by rw [← e4]; simp only [upN ha]
    have e108 : ∀ i, i < 2 → h4 108 i = fc4 (dK (h 97) d 1) (dK (h 97) d 2) (nI 0) (nI 0) i := fun i hi => by
      rw [← e4]
      rcases (show i = 0 ∨ i = 1 by omega) with rfl | rfl
      · simp [up, fc4]; (try rfl)
      · simp [up, fc4]; (try rfl)
    cases hl : lawT (h 97) 2 with
    | none =>
      rw [show oT none = Int32.ofInt (-1) from rfl]
      refine p_run (pc' := 42) [.iload_n 2] mkX8_fine (by decide +kernel) rfl rfl ?_
      refine p_if_ge (off := 12) 54 (by decide +kernel) (by decide) (fun c1 => ?_) (fun c1 => ?_)
      · exact False.elim (by revert c1; decide)
      · refine p_run (pc' := 48) [.aload_n 0, .iload_n 1, .iconst 2] mkX8_fine (by decide +kernel) rfl rfl ?_
        refine p_callVv (of_ok w (k := k - 1) (d) (2) _ (by omega)) kvX8_83 (by decide +kernel) (by decide) rfl (by omega) rfl rfl rfl rfl rfl ?_
        refine p_run (pc' := 59) [.goto 8] mkX8_fine (by decide +kernel) rfl rfl ?_
        refine p_iret rfl rfl (by decide +kernel) ?_
        exact ⟨by rw [fiF, hl, e97]; (try rfl), fun a ha => eA a (fun e => ha (by rw [e]; decide))⟩
    | some t =>
      rw [show oT (some t) = nI t from rfl]
      obtain ⟨ht, hX, hx0⟩ := lastT_spec hl hI
      refine p_run (pc' := 42) [.iload_n 2] mkX8_fine (by decide +kernel) rfl rfl ?_
      refine p_if_ge (off := 12) 54 (by decide +kernel) (by decide) (fun c1 => ?_) (fun c1 => ?_)
      · refine p_run (pc' := 56) [.aload_n 0, .iload_n 2] mkX8_fine (by decide +kernel) rfl rfl ?_
        refine p_callVi (worksOut_ok w (k := k - 1) (by omega) t ht _ (by rw [e97]; exact hX)) (fun _ _ q => q.1) kvX8_99 (by decide +kernel) (by decide) rfl (by omega) rfl rfl rfl rfl rfl (fun h' hq => ?_)
        obtain ⟨-, hA⟩ := hq
        refine p_iret rfl rfl (by decide +kernel) ?_
        refine ⟨?_, fun a ha => (hA a (fun e => ha (by rw [e]; decide))).trans (eA a (fun e => ha (by rw [e]; decide)))⟩
        rw [fiF, hl, e97, evF_congr hX (fun i hi => e108 i (by rw [hx0] at hi; exact hi))]
      · exact absurd (by rw [← nI_0]; exact nI_le (Nat.zero_le _) (by omega)) c1
  · exact False.elim (by revert c5; decide)
theorem zF8 : ∀ C T N, vwCl[8]? = some (C, T, N) → (T 3).2.2.2 = false ∧ parseFieldDescriptor (T 3).2.2.1 = some .boolean := by
  intro C T N h
  cases h
  exact ⟨by decide +kernel, by decide +kernel⟩
set_option maxRecDepth 20000 in
set_option maxHeartbeats 4000000 in
theorem r_keep (w : Wt) {k : Nat} (hk : 1 ≤ k) (h : Mm) : Ok w k MX8_keep [.ref 96] h (Rv (h 97 1) (up (wr h 98 (h 97)) 96 3 (Int32.ofInt 1))) := by
  show Wp w k MX8_keep _ 0 [some (.ref 96)] [] h
  refine p_run (pc' := 8) [.aload_n 0, .getfield 9, .aload_n 0, .getfield 13] mkX8_keep (by decide +kernel) rfl rfl ?_
  refine p_callSw (copyAll_ok w (k := k - 1) 97 98 h (by decide) (by decide) (by decide)) ksX8_185 (by decide +kernel) (by omega) rfl rfl rfl rfl rfl ?_
  refine p_run (pc' := 13) [.aload_n 0, .iconst 1] mkX8_keep (by decide +kernel) rfl rfl ?_
  refine p_putZ (by decide +kernel) fo8_292 (by decide) rfl zF8 rfl (Or.inr rfl) ?_
  refine p_run (pc' := 21) [.aload_n 0, .getfield 9, .iconst 1] mkX8_keep (by decide +kernel) rfl rfl ?_
  refine p_iald (1) (by decide +kernel) rfl rfl (by simp only [oI]) (by omega) ?_
  rw [upN (by decide), wrN (by decide)]
  refine p_iret rfl rfl (by decide +kernel) ?_
  exact ⟨rfl, rfl⟩
set_option maxRecDepth 20000 in
set_option maxHeartbeats 4000000 in
theorem r_back (w : Wt) {k : Nat} (hk : 1 ≤ k) (h : Mm) : Ok w k MX8_back [.ref 96] h (Rv (if h 96 3 = 0 then NOv else h 98 1) (if h 96 3 = 0 then h else wr h 97 (h 98))) := by
  show Wp w k MX8_back _ 0 [some (.ref 96)] [] h
  refine p_run (pc' := 4) [.aload_n 0, .getfield 292] mkX8_back (by decide +kernel) rfl rfl ?_
  refine p_if_ne (off := 7) 11 (by decide +kernel) (by decide) (fun c1 => ?_) (fun c1 => ?_)
  · refine p_run (pc' := 19) [.aload_n 0, .getfield 13, .aload_n 0, .getfield 9] mkX8_back (by decide +kernel) rfl rfl ?_
    refine p_callSw (copyAll_ok w (k := k - 1) 98 97 h (by decide) (by decide) (by decide)) ksX8_185 (by decide +kernel) (by omega) rfl rfl rfl rfl rfl ?_
    refine p_run (pc' := 27) [.aload_n 0, .getfield 9, .iconst 1] mkX8_back (by decide +kernel) rfl rfl ?_
    refine p_iald (1) (by decide +kernel) rfl rfl (by simp only [oI]) (by omega) ?_
    rw [wrS]
    refine p_iret rfl rfl (by decide +kernel) ?_
    exact ⟨by rw [if_neg c1], by rw [if_neg c1]⟩
  · refine p_run (pc' := 10) [.ldc_w 288] mkX8_back (by decide +kernel) rfl rfl ?_
    refine p_iret rfl rfl (by decide +kernel) ?_
    exact ⟨by rw [if_pos c1]; (try rfl), by rw [if_pos c1]⟩
def coF (h : Mm) (j : Nat) : Int32 := if j < 6 then h 97 (1 + j) else if j = 6 then h 97 7 else if j = 7 then h 96 32 else if j = 8 then h 96 6 else h 97 0
set_option maxRecDepth 20000 in
set_option maxHeartbeats 4000000 in
theorem r_count (w : Wt) {k : Nat} (a : Int32) (h : Mm) : Ok w k MX8_count [.ref 96, .int a] h (Rv (@ite _ (inR a 0 9) (Classical.propDecidable _) (coF h (nN a)) BADv) h) := by
  show Wp w k MX8_count _ 0 [some (.ref 96), some (.int a)] [] h
  refine p_run (pc' := 1) [.iload_n 1] mkX8_count (by decide +kernel) rfl rfl ?_
  refine p_table (dflt := 89) (lo := 0) (hi := 9) (offs := #[55, 55, 55, 55, 55, 55, 64, 72, 77, 82]) (len := 55) (by decide +kernel) (by decide) (fun j hj hx => ?_) (fun hx => ?_)
  · match j, hj, hx with
    | 0, _, hx =>
      have hx : a = Int32.ofInt (0) := hx
      refine ⟨55, 56, rfl, rfl, ?_⟩
      refine p_run (pc' := 63) [.aload_n 0, .getfield 9, .iconst 1, .iload_n 1, .iadd] mkX8_count (by decide +kernel) rfl rfl ?_
      refine p_iald (1 + 0) (by decide +kernel) rfl rfl (by rw [hx]; rfl) (by omega) ?_
      refine p_iret rfl rfl (by decide +kernel) ?_
      exact ⟨by rw [if_pos (by rw [hx]; exact ⟨by decide, by decide⟩), hx]; rfl, rfl⟩
    | 1, _, hx =>
      have hx : a = Int32.ofInt (1) := hx
      refine ⟨55, 56, rfl, rfl, ?_⟩
      refine p_run (pc' := 63) [.aload_n 0, .getfield 9, .iconst 1, .iload_n 1, .iadd] mkX8_count (by decide +kernel) rfl rfl ?_
      refine p_iald (1 + 1) (by decide +kernel) rfl rfl (by rw [hx]; rfl) (by omega) ?_
      refine p_iret rfl rfl (by decide +kernel) ?_
      exact ⟨by rw [if_pos (by rw [hx]; exact ⟨by decide, by decide⟩), hx]; rfl, rfl⟩
    | 2, _, hx =>
      have hx : a = Int32.ofInt (2) := hx
      refine ⟨55, 56, rfl, rfl, ?_⟩
      refine p_run (pc' := 63) [.aload_n 0, .getfield 9, .iconst 1, .iload_n 1, .iadd] mkX8_count (by decide +kernel) rfl rfl ?_
      refine p_iald (1 + 2) (by decide +kernel) rfl rfl (by rw [hx]; rfl) (by omega) ?_
      refine p_iret rfl rfl (by decide +kernel) ?_
      exact ⟨by rw [if_pos (by rw [hx]; exact ⟨by decide, by decide⟩), hx]; rfl, rfl⟩
    | 3, _, hx =>
      have hx : a = Int32.ofInt (3) := hx
      refine ⟨55, 56, rfl, rfl, ?_⟩
      refine p_run (pc' := 63) [.aload_n 0, .getfield 9, .iconst 1, .iload_n 1, .iadd] mkX8_count (by decide +kernel) rfl rfl ?_
      refine p_iald (1 + 3) (by decide +kernel) rfl rfl (by rw [hx]; rfl) (by omega) ?_
      refine p_iret rfl rfl (by decide +kernel) ?_
      exact ⟨by rw [if_pos (by rw [hx]; exact ⟨by decide, by decide⟩), hx]; rfl, rfl⟩
    | 4, _, hx =>
      have hx : a = Int32.ofInt (4) := hx
      refine ⟨55, 56, rfl, rfl, ?_⟩
      refine p_run (pc' := 63) [.aload_n 0, .getfield 9, .iconst 1, .iload_n 1, .iadd] mkX8_count (by decide +kernel) rfl rfl ?_
      refine p_iald (1 + 4) (by decide +kernel) rfl rfl (by rw [hx]; rfl) (by omega) ?_
      refine p_iret rfl rfl (by decide +kernel) ?_
      exact ⟨by rw [if_pos (by rw [hx]; exact ⟨by decide, by decide⟩), hx]; rfl, rfl⟩
    | 5, _, hx =>
      have hx : a = Int32.ofInt (5) := hx
      refine ⟨55, 56, rfl, rfl, ?_⟩
      refine p_run (pc' := 63) [.aload_n 0, .getfield 9, .iconst 1, .iload_n 1, .iadd] mkX8_count (by decide +kernel) rfl rfl ?_
      refine p_iald (1 + 5) (by decide +kernel) rfl rfl (by rw [hx]; rfl) (by omega) ?_
      refine p_iret rfl rfl (by decide +kernel) ?_
      exact ⟨by rw [if_pos (by rw [hx]; exact ⟨by decide, by decide⟩), hx]; rfl, rfl⟩
    | 6, _, hx =>
      have hx : a = Int32.ofInt (6) := hx
      refine ⟨64, 65, rfl, rfl, ?_⟩
      refine p_run (pc' := 71) [.aload_n 0, .getfield 9, .bipush 7] mkX8_count (by decide +kernel) rfl rfl ?_
      refine p_iald (7) (by decide +kernel) rfl rfl (by first | rfl | simp only [oI]) (by omega) ?_
      refine p_iret rfl rfl (by decide +kernel) ?_
      exact ⟨by rw [if_pos (by rw [hx]; exact ⟨by decide, by decide⟩), hx]; rfl, rfl⟩
    | 7, _, hx =>
      have hx : a = Int32.ofInt (7) := hx
      refine ⟨72, 73, rfl, rfl, ?_⟩
      refine p_run (pc' := 77) [.aload_n 0, .getfield 289] mkX8_count (by decide +kernel) rfl rfl ?_
      refine p_iret rfl rfl (by decide +kernel) ?_
      exact ⟨by rw [if_pos (by rw [hx]; exact ⟨by decide, by decide⟩), hx]; rfl, rfl⟩
    | 8, _, hx =>
      have hx : a = Int32.ofInt (8) := hx
      refine ⟨77, 78, rfl, rfl, ?_⟩
      refine p_run (pc' := 82) [.aload_n 0, .getfield 213] mkX8_count (by decide +kernel) rfl rfl ?_
      refine p_iret rfl rfl (by decide +kernel) ?_
      exact ⟨by rw [if_pos (by rw [hx]; exact ⟨by decide, by decide⟩), hx]; rfl, rfl⟩
    | 9, _, hx =>
      have hx : a = Int32.ofInt (9) := hx
      refine ⟨82, 83, rfl, rfl, ?_⟩
      refine p_run (pc' := 88) [.aload_n 0, .getfield 9, .iconst 0] mkX8_count (by decide +kernel) rfl rfl ?_
      refine p_iald (0) (by decide +kernel) rfl rfl (by first | rfl | simp only [oI]) (by omega) ?_
      refine p_iret rfl rfl (by decide +kernel) ?_
      exact ⟨by rw [if_pos (by rw [hx]; exact ⟨by decide, by decide⟩), hx]; rfl, rfl⟩
    | j + 10, hj, _ => exact absurd hj (by simp)
  · refine ⟨90, rfl, ?_⟩
    refine p_run (pc' := 92) [.ldc 123] mkX8_count (by decide +kernel) rfl rfl ?_
    refine p_iret rfl rfl (by decide +kernel) ?_
    exact ⟨by rw [if_neg (fun q => by have h1 := Int32.le_iff_toInt_le.mp q.1; have h2 := Int32.le_iff_toInt_le.mp q.2; rw [nI_toInt (by omega)] at h1 h2; omega)], rfl⟩
set_option maxRecDepth 20000 in
set_option maxHeartbeats 4000000 in
theorem r_tell_full (w : Wt) {k : Nat} (a : Int32) (h : Mm) (hq : In (h 96 32) 60) (hf : nN (h 96 32) = 60) : Ok w k MX8_tell [.ref 96, .int a] h (Rv FULLv h) := by
  show Wp w k MX8_tell _ 0 [some (.ref 96), some (.int a)] [] h
  refine p_run (pc' := 6) [.aload_n 0, .getfield 289, .bipush 60] mkX8_tell (by decide +kernel) rfl rfl ?_
  have hq2 := hq.2
  refine Wp.eqS (st' := [.int (Int32.ofInt 60), .int (nI (nN (h 96 32)))]) (by rw [← hq.1]) ?_
  refine p_icmp_ne (off := 6) 12 (by decide +kernel) (by decide) (fun c1 => ?_) (fun c1 => ?_)
  · exact absurd (by rw [hf, oI]) c1
  · refine p_run (pc' := 11) [.ldc 124] mkX8_tell (by decide +kernel) rfl rfl ?_
    refine p_iret rfl rfl (by decide +kernel) ?_
    exact ⟨rfl, rfl⟩
set_option maxRecDepth 20000 in
set_option maxHeartbeats 4000000 in
theorem r_tell (w : Wt) {k : Nat} (a : Int32) (h : Mm) (hq : In (h 96 32) 60) (hf : nN (h 96 32) < 60) : Ok w k MX8_tell [.ref 96, .int a] h (Rv (nI (nN (h 96 32) + 1)) (up (up h 117 (nN (h 96 32)) a) 96 32 (nI (nN (h 96 32) + 1)))) := by
  show Wp w k MX8_tell _ 0 [some (.ref 96), some (.int a)] [] h
  refine p_run (pc' := 6) [.aload_n 0, .getfield 289, .bipush 60] mkX8_tell (by decide +kernel) rfl rfl ?_
  have hq2 := hq.2
  refine Wp.eqS (st' := [.int (Int32.ofInt 60), .int (nI (nN (h 96 32)))]) (by rw [← hq.1]) ?_
  refine p_icmp_ne (off := 6) 12 (by decide +kernel) (by decide) (fun c1 => ?_) (fun c1 => ?_)
  · refine p_run (pc' := 21) [.aload_n 0, .getfield 72, .aload_n 0, .getfield 289, .iload_n 1] mkX8_tell (by decide +kernel) rfl rfl ?_
    refine p_iast (nN (h 96 32)) (by decide +kernel) rfl rfl hq.1 (by omega)  ?_
    refine p_run (pc' := 36) [.aload_n 0, .dup, .getfield 289, .iconst 1, .iadd, .putfield 289, .aload_n 0, .getfield 289] mkX8_tell (by decide +kernel) rfl rfl ?_
    refine p_iret rfl rfl (by decide +kernel) ?_
    refine ⟨?_, ?_⟩
    · simp only [up, show ¬ (96 : Nat) = 117 by decide, false_and, if_false, and_self, if_true]; rw [hq.1, nN_nI (by omega), oI, nI_add]
    · simp only [up, show ¬ (96 : Nat) = 117 by decide, false_and, if_false]; rw [hq.1, oI, nI_add, nN_nI (by omega)]
  · rw [oI, nI_eq (by omega) (by omega)] at c1
    exact absurd c1 (by omega)
set_option maxRecDepth 20000 in
set_option maxHeartbeats 4000000 in
theorem r_textTold_bad (w : Wt) {k : Nat} (hk : 1 ≤ k) (a b : Int32) (h : Mm) (hb : ¬ ((nI 0 ≤ a ∧ a ≤ h 97 7 - nI 1) ∧ inR b 0 1)) : Ok w k MX8_textTold [.ref 96, .int a, .int b] h (Rv BADv h) := by
  show Wp w k MX8_textTold _ 0 [some (.ref 96), some (.int a), some (.int b)] [] h
  refine p_run (pc' := 8) [.iload_n 1, .iconst 0, .aload_n 0, .getfield 9, .bipush 7] mkX8_textTold (by decide +kernel) rfl rfl ?_
  refine p_iald (7) (by decide +kernel) rfl rfl (by first | rfl | simp only [oI]) (by omega) ?_
  refine p_run (pc' := 11) [.iconst 1, .isub] mkX8_textTold (by decide +kernel) rfl rfl ?_
  refine p_callSv (in_ok w (k := k - 1) _ _ _ _) ksX8_75 (by decide +kernel) (by omega) rfl rfl rfl rfl rfl ?_
  refine p_if_eq (off := 12) 26 (by decide +kernel) (by decide) (fun c14 => ?_) (fun c14 => ?_)
  · refine p_run (pc' := 28) [.ldc 123] mkX8_textTold (by decide +kernel) rfl rfl ?_
    refine p_iret rfl rfl (by decide +kernel) ?_
    exact ⟨rfl, rfl⟩
  · refine p_run (pc' := 20) [.iload_n 2, .iconst 0, .iconst 1] mkX8_textTold (by decide +kernel) rfl rfl ?_
    refine p_callSv (in_ok w (k := k - 1) _ _ _ _) ksX8_75 (by decide +kernel) (by omega) rfl rfl rfl rfl rfl ?_
    refine p_if_ne (off := 6) 29 (by decide +kernel) (by decide) (fun c23 => ?_) (fun c23 => ?_)
    · exact absurd ⟨bI1.mp c14, bI1.mp c23⟩ hb
    · refine p_run (pc' := 28) [.ldc 123] mkX8_textTold (by decide +kernel) rfl rfl ?_
      refine p_iret rfl rfl (by decide +kernel) ?_
      exact ⟨rfl, rfl⟩
set_option maxRecDepth 20000 in
set_option maxHeartbeats 4000000 in
theorem r_textTold (w : Wt) {k : Nat} (hk : 1 ≤ k) (t j : Nat) (h : Mm) (h7 : In (h 97 7) 14) (hT : Tq (h 97)) (ht : t < nN (h 97 7)) (hj : j ≤ 1) : Ok w k MX8_textTold [.ref 96, .int (nI t), .int (nI j)] h (Rv (if j = 0 then nI (nN (h 97 (70 + 2 * t)) / 1000) else h 97 (70 + 2 * t + 1)) h) := by
  show Wp w k MX8_textTold _ 0 [some (.ref 96), some (.int (nI t)), some (.int (nI j))] [] h
  have h72 := h7.2
  have hX := hT t (by omega)
  have hX2 := hX.2
  refine p_run (pc' := 8) [.iload_n 1, .iconst 0, .aload_n 0, .getfield 9, .bipush 7] mkX8_textTold (by decide +kernel) rfl rfl ?_
  refine p_iald (7) (by decide +kernel) rfl rfl (by first | rfl | simp only [oI]) (by omega) ?_
  refine p_run (pc' := 11) [.iconst 1, .isub] mkX8_textTold (by decide +kernel) rfl rfl ?_
  refine p_callSv (in_t w (k := k - 1) _ _ _ _ ((show nI 0 ≤ nI t ∧ nI t ≤ h 97 7 - nI 1 by rw [h7.1, nIs (by omega)]; exact ⟨nI_le (by omega) (by omega), nI_le (by omega) (by omega)⟩))) ksX8_75 (by decide +kernel) (by omega) rfl rfl rfl rfl rfl ?_
  refine p_if_eq (off := 12) 26 (by decide +kernel) (by decide) (fun c14 => ?_) (fun c14 => ?_)
  · exact False.elim (by revert c14; decide)
  · refine p_run (pc' := 20) [.iload_n 2, .iconst 0, .iconst 1] mkX8_textTold (by decide +kernel) rfl rfl ?_
    refine p_callSv (in_t w (k := k - 1) _ _ _ _ (in_nI (lo := 0) (hi := 1) (by omega) hj (by omega))) ksX8_75 (by decide +kernel) (by omega) rfl rfl rfl rfl rfl ?_
    refine p_if_ne (off := 6) 29 (by decide +kernel) (by decide) (fun c23 => ?_) (fun c23 => ?_)
    · refine p_run (pc' := 30) [.iload_n 2] mkX8_textTold (by decide +kernel) rfl rfl ?_
      refine p_if_ne (off := 21) 51 (by decide +kernel) (by decide) (fun c30 => ?_) (fun c30 => ?_)
      · rw [nI_eq0 (by omega)] at c30
        refine p_run (pc' := 63) [.aload_n 0, .getfield 9, .bipush 70, .iconst 2, .iload_n 1, .imul, .iadd, .iconst 1, .iadd] mkX8_textTold (by decide +kernel) rfl rfl ?_
        refine p_iald (70 + 2 * t + 1) (by decide +kernel) rfl rfl (by simp only [oI, nI_add, nIm]) (by omega) ?_
        refine p_iret rfl rfl (by decide +kernel) ?_
        exact ⟨congrArg (fun x => some (Value.int x)) (by first | (rw [if_pos c30, oI, pk_div (by omega) (by omega) (by omega), nN_nI (by omega)]; done) | (rw [if_neg c30]; done)), rfl⟩
      · rw [nI_eq0 (by omega)] at c30
        refine p_run (pc' := 43) [.aload_n 0, .getfield 9, .bipush 70, .iconst 2, .iload_n 1, .imul, .iadd] mkX8_textTold (by decide +kernel) rfl rfl ?_
        refine p_iald (70 + 2 * t) (by decide +kernel) rfl rfl (by simp only [oI, nI_add, nIm]) (by omega) ?_
        rw [hX.1]
        refine p_run (pc' := 47) [.sipush 1000] mkX8_textTold (by decide +kernel) rfl rfl ?_
        refine p_idiv (by decide +kernel) (by decide) ?_
        refine p_run (pc' := 64) [.goto 16] mkX8_textTold (by decide +kernel) rfl rfl ?_
        refine p_iret rfl rfl (by decide +kernel) ?_
        exact ⟨congrArg (fun x => some (Value.int x)) (by first | (rw [if_pos c30, oI, pk_div (by omega) (by omega) (by omega), nN_nI (by omega)]; done) | (rw [if_neg c30]; done)), rfl⟩
    · exact False.elim (by revert c23; decide)
set_option maxRecDepth 20000 in
set_option maxHeartbeats 4000000 in
theorem r_why_bad (w : Wt) {k : Nat} (hk : 2 ≤ k) (a : Int32) (h : Mm)  (hb : ¬ (inR a 0 2)) : Ok w k MX8_why [.ref 96, .int a] h (Rv BADv h) := by
  show Wp w k MX8_why _ 0 [some (.ref 96), some (.int a), none] [] h
  refine p_run (pc' := 3) [.iload_n 1, .iconst 0, .iconst 2] mkX8_why (by decide +kernel) rfl rfl ?_
  refine p_callSv (in_ok w (k := k - 1) _ _ _ _) ksX8_75 (by decide +kernel) (by omega) rfl rfl rfl rfl rfl ?_
  refine p_if_ne (off := 6) 12 (by decide +kernel) (by decide) (fun c6 => ?_) (fun c6 => ?_)
  · exact absurd (bI1.mp c6) hb
  · refine p_run (pc' := 11) [.ldc 123] mkX8_why (by decide +kernel) rfl rfl ?_
    refine p_iret rfl rfl (by decide +kernel) ?_
    exact ⟨rfl, rfl⟩
set_option maxRecDepth 20000 in
set_option maxHeartbeats 4000000 in
theorem r_why (w : Wt) {k : Nat} (hk : 2 ≤ k) (j : Nat) (h : Mm) (hI : Iv (h 97)) (hT : Tq (h 97)) (hj : j ≤ 2) : Ok w k MX8_why [.ref 96, .int (nI j)] h (Rv (oN (lawT (h 97) j)) h) := by
  show Wp w k MX8_why _ 0 [some (.ref 96), some (.int (nI j)), none] [] h
  refine p_run (pc' := 3) [.iload_n 1, .iconst 0, .iconst 2] mkX8_why (by decide +kernel) rfl rfl ?_
  refine p_callSv (in_t w (k := k - 1) _ _ _ _ (in_nI (lo := 0) (hi := 2) (by omega) hj (by omega))) ksX8_75 (by decide +kernel) (by omega) rfl rfl rfl rfl rfl ?_
  refine p_if_ne (off := 6) 12 (by decide +kernel) (by decide) (fun c6 => ?_) (fun c6 => ?_)
  · refine p_run (pc' := 14) [.aload_n 0, .iload_n 1] mkX8_why (by decide +kernel) rfl rfl ?_
    refine p_callVv (counts_ok w (k := k - 1) j (by omega) h hI.tx hT) kvX8_86 (by decide +kernel) (by decide) rfl (by omega) rfl rfl rfl rfl rfl ?_
    cases hl : lawT (h 97) j with
    | none =>
      rw [show oT none = Int32.ofInt (-1) from rfl]
      refine p_run (pc' := 19) [.istore_n 2, .iload_n 2] mkX8_why (by decide +kernel) rfl rfl ?_
      refine p_if_ge (off := 8) 27 (by decide +kernel) (by decide) (fun c1 => ?_) (fun c1 => ?_)
      · exact False.elim (by revert c1; decide)
      · refine p_run (pc' := 28) [.ldc 195, .goto 4] mkX8_why (by decide +kernel) rfl rfl ?_
        refine p_iret rfl rfl (by decide +kernel) ?_
        exact ⟨by (try rw [hl]); rfl, rfl⟩
    | some t =>
      rw [show oT (some t) = nI t from rfl]
      obtain ⟨ht, -, -⟩ := lastT_spec hl hI
      refine p_run (pc' := 19) [.istore_n 2, .iload_n 2] mkX8_why (by decide +kernel) rfl rfl ?_
      refine p_if_ge (off := 8) 27 (by decide +kernel) (by decide) (fun c1 => ?_) (fun c1 => ?_)
      · refine p_run (pc' := 28) [.iload_n 2] mkX8_why (by decide +kernel) rfl rfl ?_
        refine p_iret rfl rfl (by decide +kernel) ?_
        exact ⟨by (try rw [hl]); rfl, rfl⟩
      · exact absurd (by rw [← nI_0]; exact nI_le (Nat.zero_le _) (by omega)) c1
  · exact False.elim (by revert c6; decide)
end
section
/-! the reference: check, like -/
def ckF (o1 o2 : Nat → Bool) : Nat → Nat → Nat
  | 0, k => 2 * k
  | m + 1, k => if o1 k = true then (if o2 k = true then ckF o1 o2 m (k + 1) else 2 * k + 1) else 2 * k
noncomputable def ck1 (I t : Vc) (many : Nat) (k : Nat) : Bool := @decide (2 * k < many ∧ t (2 * k) = nsF I (k + 1) 5) (Classical.propDecidable _)
noncomputable def ck2 (I t : Vc) (many : Nat) (k : Nat) : Bool := @decide (2 * k + 1 < many ∧ t (2 * k + 1) = sumF (fun b => bK (nsF I (k + 1)) b 0) 4) (Classical.propDecidable _)
theorem ck1_iff {I t : Vc} {many k : Nat} : ck1 I t many k = true ↔ (2 * k < many ∧ t (2 * k) = nsF I (k + 1) 5) := by unfold ck1; simp
theorem ck2_iff {I t : Vc} {many k : Nat} : ck2 I t many k = true ↔ (2 * k + 1 < many ∧ t (2 * k + 1) = sumF (fun b => bK (nsF I (k + 1)) b 0) 4) := by unfold ck2; simp
noncomputable def ckA (I t : Vc) (many nn : Nat) : Int32 := if ckF (ck1 I t many) (ck2 I t many) nn 0 = many ∧ many = 2 * nn then nI 0 else nI (1 + ckF (ck1 I t many) (ck2 I t many) nn 0)
theorem ckF_le (o1 o2 : Nat → Bool) : ∀ m k, ckF o1 o2 m k ≤ 2 * (k + m)
  | 0, k => by simp [ckF]
  | m + 1, k => by
    rw [ckF]
    have := ckF_le o1 o2 m (k + 1)
    split
    · split <;> omega
    · omega
set_option maxRecDepth 20000 in
set_option maxHeartbeats 4000000 in
theorem check_end (w : Wt) {k : Nat} (hk : 1 ≤ k) (x1 : Option Value) (q nn r : Nat) (hq : q ≤ 60) (hnn : nn ≤ 30) (hr : r ≤ 60) (x5 : Option Value) (hh : Mm) (Q : Option Value → Mm → Prop) (hC : Q (some (.int (if r = q ∧ q = 2 * nn then nI 0 else nI (1 + r)))) (wr hh 97 (hh 99))) : Wp w k MX8_check Q 180 [some (.ref 96), x1, some (.int (nI q)), some (.int (nI (2 * nn))), some (.int (nI r)), x5] [] hh := by
  refine p_run (pc' := 188) [.aload_n 0, .getfield 16, .aload_n 0, .getfield 9] mkX8_check (by decide +kernel) rfl rfl ?_
  refine p_callSw (copyAll_ok w (k := k - 1) 99 97 hh (by decide) (by decide) (by decide)) ksX8_185 (by decide +kernel) (by omega) rfl rfl rfl rfl rfl ?_
  refine p_run (pc' := 194) [.iload 4, .iload_n 2] mkX8_check (by decide +kernel) rfl rfl ?_
  refine p_icmp_ne (off := 13) 207 (by decide +kernel) (by decide) (fun c194 => ?_) (fun c194 => ?_)
  · (try simp only [oI] at c194)
    rw [nI_eq (by omega) (by omega)] at c194
    refine p_run (pc' := 211) [.iconst 1, .iload 4, .iadd] mkX8_check (by decide +kernel) rfl rfl ?_
    refine p_iret rfl rfl (by decide +kernel) ?_
    first | (rw [if_pos ⟨c194, by omega⟩] at hC; exact hC) | (rw [if_neg (fun z => c194 z.1)] at hC; simp only [oI, nI_add]; exact hC) | (rw [if_neg (fun z => c200 (by omega))] at hC; simp only [oI, nI_add]; exact hC)
  · (try simp only [oI] at c194)
    rw [nI_eq (by omega) (by omega)] at c194
    refine p_run (pc' := 200) [.iload 4, .iload_n 3] mkX8_check (by decide +kernel) rfl rfl ?_
    refine p_icmp_ne (off := 7) 207 (by decide +kernel) (by decide) (fun c200 => ?_) (fun c200 => ?_)
    · (try simp only [oI] at c200)
      rw [nI_eq (by omega) (by omega)] at c200
      refine p_run (pc' := 211) [.iconst 1, .iload 4, .iadd] mkX8_check (by decide +kernel) rfl rfl ?_
      refine p_iret rfl rfl (by decide +kernel) ?_
      first | (rw [if_pos ⟨c194, by omega⟩] at hC; exact hC) | (rw [if_neg (fun z => c194 z.1)] at hC; simp only [oI, nI_add]; exact hC) | (rw [if_neg (fun z => c200 (by omega))] at hC; simp only [oI, nI_add]; exact hC)
    · (try simp only [oI] at c200)
      rw [nI_eq (by omega) (by omega)] at c200
      refine p_run (pc' := 211) [.iconst 0, .goto 7] mkX8_check (by decide +kernel) rfl rfl ?_
      refine p_iret rfl rfl (by decide +kernel) ?_
      first | (rw [if_pos ⟨c194, by omega⟩] at hC; exact hC) | (rw [if_neg (fun z => c194 z.1)] at hC; simp only [oI, nI_add]; exact hC) | (rw [if_neg (fun z => c200 (by omega))] at hC; simp only [oI, nI_add]; exact hC)
set_option maxRecDepth 20000 in
set_option maxHeartbeats 4000000 in
theorem check_loop (w : Wt) {k : Nat} (hk : 6 ≤ k) (x1 : Option Value) (q nn : Nat) (hq : q ≤ 60) (hnn : nn ≤ 30) (h : Mm) (hI : Iv (h 98)) (hT : Tq (h 98)) : ∀ (m i : Nat), i + m = nn → ∀ hh : Mm, hh 97 = nsF (h 98) i → hh 99 = h 97 → Ag [97, 99, 107, 108] (up h 96 32 (nI 0)) hh →
    Wp w k MX8_check (fun r h' => r = some (.int (if ckF (ck1 (h 98) (h 117) q) (ck2 (h 98) (h 117) q) m i = q ∧ q = 2 * nn then nI 0 else nI (1 + ckF (ck1 (h 98) (h 117) q) (ck2 (h 98) (h 117) q) m i))) ∧ Ag [99, 107, 108] (up h 96 32 (nI 0)) h') 80 [some (.ref 96), x1, some (.int (nI q)), some (.int (nI (2 * nn))), some (.int (nI (2 * i))), some (.int (nI i))] [] hh := by
  intro m
  induction m with
  | zero =>
    intro i hi hh e e9 hA
    have hi : i = nn := by omega
    subst hi
    refine p_run (pc' := 85) [.iconst 2, .iload 5, .imul, .iload_n 3] mkX8_check (by decide +kernel) rfl rfl ?_
    rw [show Int32.ofInt 2 * nI i = nI (2 * i) by rw [oI, nIm]]
    refine p_icmp_ge (off := 95) 180 (by decide +kernel) (by decide) (fun c1 => ?_) (fun c1 => ?_)
    · have hF : Ag [99, 107, 108] (up h 96 32 (nI 0)) (wr hh 97 (hh 99)) := fun a ha => by
        by_cases z : a = 97
        · rw [z, wrS, e9, upN (by decide)]
        · rw [wrN z]; exact hA a (by simp at ha ⊢; omega)
      exact check_end w (by omega) x1 q i (2 * i) hq hnn (by omega) _ hh _ ⟨rfl, hF⟩
    · exact absurd (nI_le (Nat.le_refl _) (by omega)) c1
  | succ m ih =>
    intro i hi hh e e9 hA
    refine p_run (pc' := 85) [.iconst 2, .iload 5, .imul, .iload_n 3] mkX8_check (by decide +kernel) rfl rfl ?_
    rw [show Int32.ofInt 2 * nI i = nI (2 * i) by rw [oI, nIm]]
    refine p_icmp_ge (off := 95) 180 (by decide +kernel) (by decide) (fun c1 => ?_) (fun c1 => ?_)
    · exact absurd c1 (nI_ge (by omega) (by omega))
    · refine p_run (pc' := 94) [.iload 4, .iconst 2, .iload 5, .imul] mkX8_check (by decide +kernel) rfl rfl ?_
      rw [show Int32.ofInt 2 * nI i = nI (2 * i) by rw [oI, nIm]]
      refine p_icmp_ne (off := 86) 180 (by decide +kernel) (by decide) (fun c2 => ?_) (fun c2 => ?_)
      · exact absurd rfl c2
      · refine p_run (pc' := 98) [.aload_n 0] mkX8_check (by decide +kernel) rfl rfl ?_
        refine p_callVo (night_ok w (k := k - 1) (by omega) hh (by rw [e]; exact nsF_Iv hI i) (by rw [e]; exact hT.of (fun j hj => nsF_out hI (by omega) i))) (fun _ _ q => q.1) kvX8_170 (by decide +kernel) (by decide) rfl (by omega) rfl rfl rfl rfl rfl (fun h' hq => ?_)
        obtain ⟨-, e2, hA2⟩ := hq
        have e2 : h' 97 = nsF (h 98) (i + 1) := by rw [e2, e, nsF]
        have e9' : h' 99 = h 97 := by rw [hA2 99 (by decide), e9]
        have hA' : Ag [97, 99, 107, 108] (up h 96 32 (nI 0)) h' := hA.tr (hA2.mono (by decide))
        have e117 : h' 117 = h 117 := by rw [hA' 117 (by decide), upN (by decide)]
        refine p_run (pc' := 106) [.iload 4, .iload 4, .iload_n 2] mkX8_check (by decide +kernel) rfl rfl ?_
        refine p_icmp_ge (off := 23) 129 (by decide +kernel) (by decide) (fun c3 => ?_) (fun c3 => ?_)
        · rw [nI_leI (by omega) (by omega)] at c3
          have hno : ¬ ck1 (h 98) (h 117) q i = true := fun z => (fun z => by omega) (ck1_iff.mp z)
          refine p_run (pc' := 133) [.iconst 0, .iadd, .istore 4] mkX8_check (by decide +kernel) rfl rfl ?_
          rw [show nI (2 * i) + Int32.ofInt 0 = nI (2 * i) by rw [oI, nI_add, Nat.add_zero]]
          refine p_run (pc' := 143) [.iload 4, .iload 4, .iconst 2, .iload 5, .imul, .iconst 1, .iadd] mkX8_check (by decide +kernel) rfl rfl ?_
          rw [show Int32.ofInt 2 * nI i + Int32.ofInt 1 = nI (2 * i + 1) by simp only [oI, nIm, nI_add]]
          refine p_icmp_ne (off := 27) 170 (by decide +kernel) (by decide) (fun c6 => ?_) (fun c6 => ?_)
          · refine p_run (pc' := 80) [.iconst 0, .iadd, .istore 4, .iinc 5 1, .goto (-97)] mkX8_check (by decide +kernel) rfl rfl ?_
            rw [show nI (2 * i) + Int32.ofInt 0 = nI (2 * i) by rw [oI, nI_add, Nat.add_zero]]
            rw [ckF, if_neg hno]
            have hF : Ag [99, 107, 108] (up h 96 32 (nI 0)) (wr h' 97 (h' 99)) := fun a ha => by
              by_cases z : a = 97
              · rw [z, wrS, e9', upN (by decide)]
              · rw [wrN z]; exact hA' a (by simp at ha ⊢; omega)
            refine p_run (pc' := 85) [.iconst 2, .iload 5, .imul, .iload_n 3] mkX8_check (by decide +kernel) rfl rfl ?_
            rw [show Int32.ofInt 2 * (nI i + Int32.ofInt 1) = nI (2 * (i + 1)) by simp only [oI, nIm, nI_add]]
            refine p_icmp_ge (off := 95) 180 (by decide +kernel) (by decide) (fun c7 => ?_) (fun c7 => ?_)
            · exact check_end w (by omega) x1 q nn (2 * i) hq hnn (by omega) _ h' _ ⟨rfl, hF⟩
            · refine p_run (pc' := 94) [.iload 4, .iconst 2, .iload 5, .imul] mkX8_check (by decide +kernel) rfl rfl ?_
              rw [show Int32.ofInt 2 * (nI i + Int32.ofInt 1) = nI (2 * (i + 1)) by simp only [oI, nIm, nI_add]]
              refine p_icmp_ne (off := 86) 180 (by decide +kernel) (by decide) (fun c8 => ?_) (fun c8 => ?_)
              · exact check_end w (by omega) x1 q nn (2 * i) hq hnn (by omega) _ h' _ ⟨rfl, hF⟩
              · rw [nI_eq (by omega) (by omega)] at c8
                exact absurd c8 (by omega)
          · rw [nI_eq (by omega) (by omega)] at c6
            exact absurd c6 (by omega)
        · rw [nI_leI (by omega) (by omega)] at c3
          refine p_run (pc' := 115) [.aload_n 0, .getfield 72, .iload 4] mkX8_check (by decide +kernel) rfl rfl ?_
          refine p_iald (2 * i) (by decide +kernel) rfl rfl rfl (by omega) ?_
          refine p_run (pc' := 121) [.aload_n 0, .getfield 9, .iconst 5] mkX8_check (by decide +kernel) rfl rfl ?_
          refine p_iald (5) (by decide +kernel) rfl rfl (by simp only [oI]) (by omega) ?_
          rw [e2, e117]
          refine p_icmp_ne (off := 7) 129 (by decide +kernel) (by decide) (fun c4 => ?_) (fun c4 => ?_)
          · have hno : ¬ ck1 (h 98) (h 117) q i = true := fun z => (fun z => c4 z.2) (ck1_iff.mp z)
            refine p_run (pc' := 133) [.iconst 0, .iadd, .istore 4] mkX8_check (by decide +kernel) rfl rfl ?_
            rw [show nI (2 * i) + Int32.ofInt 0 = nI (2 * i) by rw [oI, nI_add, Nat.add_zero]]
            refine p_run (pc' := 143) [.iload 4, .iload 4, .iconst 2, .iload 5, .imul, .iconst 1, .iadd] mkX8_check (by decide +kernel) rfl rfl ?_
            rw [show Int32.ofInt 2 * nI i + Int32.ofInt 1 = nI (2 * i + 1) by simp only [oI, nIm, nI_add]]
            refine p_icmp_ne (off := 27) 170 (by decide +kernel) (by decide) (fun c6 => ?_) (fun c6 => ?_)
            · refine p_run (pc' := 80) [.iconst 0, .iadd, .istore 4, .iinc 5 1, .goto (-97)] mkX8_check (by decide +kernel) rfl rfl ?_
              rw [show nI (2 * i) + Int32.ofInt 0 = nI (2 * i) by rw [oI, nI_add, Nat.add_zero]]
              rw [ckF, if_neg hno]
              have hF : Ag [99, 107, 108] (up h 96 32 (nI 0)) (wr h' 97 (h' 99)) := fun a ha => by
                by_cases z : a = 97
                · rw [z, wrS, e9', upN (by decide)]
                · rw [wrN z]; exact hA' a (by simp at ha ⊢; omega)
              refine p_run (pc' := 85) [.iconst 2, .iload 5, .imul, .iload_n 3] mkX8_check (by decide +kernel) rfl rfl ?_
              rw [show Int32.ofInt 2 * (nI i + Int32.ofInt 1) = nI (2 * (i + 1)) by simp only [oI, nIm, nI_add]]
              refine p_icmp_ge (off := 95) 180 (by decide +kernel) (by decide) (fun c7 => ?_) (fun c7 => ?_)
              · exact check_end w (by omega) x1 q nn (2 * i) hq hnn (by omega) _ h' _ ⟨rfl, hF⟩
              · refine p_run (pc' := 94) [.iload 4, .iconst 2, .iload 5, .imul] mkX8_check (by decide +kernel) rfl rfl ?_
                rw [show Int32.ofInt 2 * (nI i + Int32.ofInt 1) = nI (2 * (i + 1)) by simp only [oI, nIm, nI_add]]
                refine p_icmp_ne (off := 86) 180 (by decide +kernel) (by decide) (fun c8 => ?_) (fun c8 => ?_)
                · exact check_end w (by omega) x1 q nn (2 * i) hq hnn (by omega) _ h' _ ⟨rfl, hF⟩
                · rw [nI_eq (by omega) (by omega)] at c8
                  exact absurd c8 (by omega)
            · rw [nI_eq (by omega) (by omega)] at c6
              exact absurd c6 (by omega)
          · have ho1 : ck1 (h 98) (h 117) q i = true := ck1_iff.mpr ⟨by omega, c4⟩
            refine p_run (pc' := 133) [.iconst 1, .goto 4, .iadd, .istore 4] mkX8_check (by decide +kernel) rfl rfl ?_
            rw [show nI (2 * i) + Int32.ofInt 1 = nI (2 * i + 1) by rw [oI, nI_add]]
            refine p_run (pc' := 143) [.iload 4, .iload 4, .iconst 2, .iload 5, .imul, .iconst 1, .iadd] mkX8_check (by decide +kernel) rfl rfl ?_
            rw [show Int32.ofInt 2 * nI i + Int32.ofInt 1 = nI (2 * i + 1) by simp only [oI, nIm, nI_add]]
            refine p_icmp_ne (off := 27) 170 (by decide +kernel) (by decide) (fun c6 => ?_) (fun c6 => ?_)
            · exact absurd rfl c6
            · refine p_run (pc' := 149) [.iload 4, .iload_n 2] mkX8_check (by decide +kernel) rfl rfl ?_
              refine p_icmp_ge (off := 21) 170 (by decide +kernel) (by decide) (fun c7 => ?_) (fun c7 => ?_)
              · rw [nI_leI (by omega) (by omega)] at c7
                have hno : ¬ ck2 (h 98) (h 117) q i = true := fun z => (fun z => by omega) (ck2_iff.mp z)
                refine p_run (pc' := 80) [.iconst 0, .iadd, .istore 4, .iinc 5 1, .goto (-97)] mkX8_check (by decide +kernel) rfl rfl ?_
                rw [show nI (2 * i + 1) + Int32.ofInt 0 = nI (2 * i + 1) by rw [oI, nI_add, Nat.add_zero]]
                rw [ckF, if_pos ho1, if_neg hno]
                have hF : Ag [99, 107, 108] (up h 96 32 (nI 0)) (wr h' 97 (h' 99)) := fun a ha => by
                  by_cases z : a = 97
                  · rw [z, wrS, e9', upN (by decide)]
                  · rw [wrN z]; exact hA' a (by simp at ha ⊢; omega)
                refine p_run (pc' := 85) [.iconst 2, .iload 5, .imul, .iload_n 3] mkX8_check (by decide +kernel) rfl rfl ?_
                rw [show Int32.ofInt 2 * (nI i + Int32.ofInt 1) = nI (2 * (i + 1)) by simp only [oI, nIm, nI_add]]
                refine p_icmp_ge (off := 95) 180 (by decide +kernel) (by decide) (fun c9 => ?_) (fun c9 => ?_)
                · exact check_end w (by omega) x1 q nn (2 * i + 1) hq hnn (by omega) _ h' _ ⟨rfl, hF⟩
                · refine p_run (pc' := 94) [.iload 4, .iconst 2, .iload 5, .imul] mkX8_check (by decide +kernel) rfl rfl ?_
                  rw [show Int32.ofInt 2 * (nI i + Int32.ofInt 1) = nI (2 * (i + 1)) by simp only [oI, nIm, nI_add]]
                  refine p_icmp_ne (off := 86) 180 (by decide +kernel) (by decide) (fun c10 => ?_) (fun c10 => ?_)
                  · exact check_end w (by omega) x1 q nn (2 * i + 1) hq hnn (by omega) _ h' _ ⟨rfl, hF⟩
                  · rw [nI_eq (by omega) (by omega)] at c10
                    exact absurd c10 (by omega)
              · rw [nI_leI (by omega) (by omega)] at c7
                refine p_run (pc' := 158) [.aload_n 0, .getfield 72, .iload 4] mkX8_check (by decide +kernel) rfl rfl ?_
                refine p_iald (2 * i + 1) (by decide +kernel) rfl rfl rfl (by omega) ?_
                refine p_run (pc' := 160) [.aload_n 0] mkX8_check (by decide +kernel) rfl rfl ?_
                refine p_callVv (allDug_ok w (k := k - 1) (by omega) h') kvX8_296 (by decide +kernel) (by decide) rfl (by omega) rfl rfl rfl rfl rfl ?_
                rw [e2, e117]
                refine p_icmp_ne (off := 7) 170 (by decide +kernel) (by decide) (fun c8 => ?_) (fun c8 => ?_)
                · have hno : ¬ ck2 (h 98) (h 117) q i = true := fun z => (fun z => c8 z.2) (ck2_iff.mp z)
                  refine p_run (pc' := 80) [.iconst 0, .iadd, .istore 4, .iinc 5 1, .goto (-97)] mkX8_check (by decide +kernel) rfl rfl ?_
                  rw [show nI (2 * i + 1) + Int32.ofInt 0 = nI (2 * i + 1) by rw [oI, nI_add, Nat.add_zero]]
                  rw [ckF, if_pos ho1, if_neg hno]
                  have hF : Ag [99, 107, 108] (up h 96 32 (nI 0)) (wr h' 97 (h' 99)) := fun a ha => by
                    by_cases z : a = 97
                    · rw [z, wrS, e9', upN (by decide)]
                    · rw [wrN z]; exact hA' a (by simp at ha ⊢; omega)
                  refine p_run (pc' := 85) [.iconst 2, .iload 5, .imul, .iload_n 3] mkX8_check (by decide +kernel) rfl rfl ?_
                  rw [show Int32.ofInt 2 * (nI i + Int32.ofInt 1) = nI (2 * (i + 1)) by simp only [oI, nIm, nI_add]]
                  refine p_icmp_ge (off := 95) 180 (by decide +kernel) (by decide) (fun c9 => ?_) (fun c9 => ?_)
                  · exact check_end w (by omega) x1 q nn (2 * i + 1) hq hnn (by omega) _ h' _ ⟨rfl, hF⟩
                  · refine p_run (pc' := 94) [.iload 4, .iconst 2, .iload 5, .imul] mkX8_check (by decide +kernel) rfl rfl ?_
                    rw [show Int32.ofInt 2 * (nI i + Int32.ofInt 1) = nI (2 * (i + 1)) by simp only [oI, nIm, nI_add]]
                    refine p_icmp_ne (off := 86) 180 (by decide +kernel) (by decide) (fun c10 => ?_) (fun c10 => ?_)
                    · exact check_end w (by omega) x1 q nn (2 * i + 1) hq hnn (by omega) _ h' _ ⟨rfl, hF⟩
                    · rw [nI_eq (by omega) (by omega)] at c10
                      exact absurd c10 (by omega)
                · have ho2 : ck2 (h 98) (h 117) q i = true := ck2_iff.mpr ⟨by omega, c8⟩
                  refine p_run (pc' := 80) [.iconst 1, .goto 4, .iadd, .istore 4, .iinc 5 1, .goto (-97)] mkX8_check (by decide +kernel) rfl rfl ?_
                  rw [ckF, if_pos ho1, if_pos ho2]
                  refine Wp.eqL ?_ (ih (i + 1) (by omega) h' e2 e9' hA')
                  rw [show nI (2 * i + 1) + Int32.ofInt 1 = nI (2 * (i + 1)) by rw [oI, nI_add]; rfl]
                  rw [show nI i + Int32.ofInt 1 = nI (i + 1) by simp only [oI, nI_add]]
set_option maxRecDepth 20000 in
set_option maxHeartbeats 4000000 in
theorem r_check_bad (w : Wt) {k : Nat} (hk : 7 ≤ k) (a : Int32) (h : Mm) (hb : ¬ inR a 1 30) : Ok w k MX8_check [.ref 96, .int a] h (Rv BADv (up h 96 32 (nI 0))) := by
  show Wp w k MX8_check _ 0 [some (.ref 96), some (.int a), none, none, none, none] [] h
  refine p_run (pc' := 14) [.aload_n 0, .getfield 289, .istore_n 2, .aload_n 0, .iconst 0, .putfield 289, .iload_n 1, .iconst 1, .bipush 30] mkX8_check (by decide +kernel) rfl rfl ?_
  refine p_callSv (in_ok w (k := k - 1) _ _ _ _) ksX8_75 (by decide +kernel) (by omega) rfl rfl rfl rfl rfl ?_
  refine p_if_ne (off := 6) 23 (by decide +kernel) (by decide) (fun c17 => ?_) (fun c17 => ?_)
  · exact absurd (bI1.mp c17) hb
  · refine p_run (pc' := 22) [.ldc 123] mkX8_check (by decide +kernel) rfl rfl ?_
    refine p_iret rfl rfl (by decide +kernel) ?_
    exact ⟨rfl, by rw [oI]⟩
set_option maxRecDepth 20000 in
set_option maxHeartbeats 4000000 in
theorem r_check_no (w : Wt) {k : Nat} (hk : 7 ≤ k) (n : Nat) (hn : 1 ≤ n ∧ n ≤ 30) (h : Mm) (hno : h 96 3 = 0) : Ok w k MX8_check [.ref 96, .int (nI n)] h (Rv NOv (up h 96 32 (nI 0))) := by
  show Wp w k MX8_check _ 0 [some (.ref 96), some (.int (nI n)), none, none, none, none] [] h
  refine p_run (pc' := 14) [.aload_n 0, .getfield 289, .istore_n 2, .aload_n 0, .iconst 0, .putfield 289, .iload_n 1, .iconst 1, .bipush 30] mkX8_check (by decide +kernel) rfl rfl ?_
  refine p_callSv (in_t w (k := k - 1) _ _ _ _ (in_nI (lo := 1) (hi := 30) hn.1 hn.2 (by omega))) ksX8_75 (by decide +kernel) (by omega) rfl rfl rfl rfl rfl ?_
  refine p_if_ne (off := 6) 23 (by decide +kernel) (by decide) (fun c17 => ?_) (fun c17 => ?_)
  · refine p_run (pc' := 27) [.aload_n 0, .getfield 292] mkX8_check (by decide +kernel) rfl rfl ?_
    refine Wp.eqS (st' := [.int 0]) (by simp only [up]; rw [if_neg (by decide), hno]) ?_
    refine p_if_ne (off := 7) 34 (by decide +kernel) (by decide) (fun c1 => ?_) (fun c1 => ?_)
    · exact absurd rfl c1
    · refine p_run (pc' := 33) [.ldc_w 288] mkX8_check (by decide +kernel) rfl rfl ?_
      refine p_iret rfl rfl (by decide +kernel) ?_
      exact ⟨rfl, by rw [oI]⟩
  · exact False.elim (by revert c17; decide)
set_option maxRecDepth 20000 in
set_option maxHeartbeats 4000000 in
theorem r_check (w : Wt) {k : Nat} (hk : 7 ≤ k) (n : Nat) (hn : 1 ≤ n ∧ n ≤ 30) (h : Mm) (hI : Iv (h 98)) (hT : Tq (h 98)) (hq : In (h 98 2) 9999) (hw : In (h 96 32) 60) (hy : ¬ h 96 3 = 0) : Ok w k MX8_check [.ref 96, .int (nI n)] h (Rs [99, 107, 108] (ckA (h 98) (h 117) (nN (h 96 32)) (min (9999 - nN (h 98 2)) n)) (up h 96 32 (nI 0))) := by
  show Wp w k MX8_check _ 0 [some (.ref 96), some (.int (nI n)), none, none, none, none] [] h
  refine p_run (pc' := 14) [.aload_n 0, .getfield 289, .istore_n 2, .aload_n 0, .iconst 0, .putfield 289, .iload_n 1, .iconst 1, .bipush 30] mkX8_check (by decide +kernel) rfl rfl ?_
  refine p_callSv (in_t w (k := k - 1) _ _ _ _ (in_nI (lo := 1) (hi := 30) hn.1 hn.2 (by omega))) ksX8_75 (by decide +kernel) (by omega) rfl rfl rfl rfl rfl ?_
  refine p_if_ne (off := 6) 23 (by decide +kernel) (by decide) (fun c17 => ?_) (fun c17 => ?_)
  · refine p_run (pc' := 27) [.aload_n 0, .getfield 292] mkX8_check (by decide +kernel) rfl rfl ?_
    refine Wp.eqS (st' := [.int (h 96 3)]) (by simp only [up]; rw [if_neg (by decide)]) ?_
    refine p_if_ne (off := 7) 34 (by decide +kernel) (by decide) (fun c1 => ?_) (fun c1 => ?_)
    · refine p_run (pc' := 42) [.aload_n 0, .getfield 9, .aload_n 0, .getfield 16] mkX8_check (by decide +kernel) rfl rfl ?_
      refine p_callSw (copyAll_ok w (k := k - 1) 97 99 _ (by decide) (by decide) (by decide)) ksX8_185 (by decide +kernel) (by omega) rfl rfl rfl rfl rfl ?_
      refine p_run (pc' := 53) [.aload_n 0, .getfield 13, .aload_n 0, .getfield 9] mkX8_check (by decide +kernel) rfl rfl ?_
      refine p_callSw (copyAll_ok w (k := k - 1) 98 97 _ (by decide) (by decide) (by decide)) ksX8_185 (by decide +kernel) (by omega) rfl rfl rfl rfl rfl ?_
      generalize e5 : wr (wr (up h 96 32 (Int32.ofInt 0)) 99 _) 97 _ = h5
      have e97 : h5 97 = h 98 := by rw [← e5, wrS, wrN (by decide), upN (by decide)]
      have e99 : h5 99 = h 97 := by rw [← e5, wrN (by decide), wrS, upN (by decide)]
      have hA5 : Ag [97, 99, 107, 108] (up h 96 32 (nI 0)) h5 := by rw [← e5]; exact (Ag.wr (by decide)).tr (Ag.wr (by decide))
      refine p_run (pc' := 65) [.iconst 2, .sipush 9999, .aload_n 0, .getfield 9, .iconst 2] mkX8_check (by decide +kernel) rfl rfl ?_
      refine p_iald (2) (by decide +kernel) rfl rfl (by simp only [oI]) (by omega) ?_
      have hq2 := hq.2
      have hw2 := hw.2
      refine Wp.eqS (st' := [.int (nI (nN (h 98 2))), .int (Int32.ofInt 9999), .int (Int32.ofInt 2)]) (by rw [← hq.1, e97]) ?_
      refine p_run (pc' := 69) [.isub, .iconst 0, .iload_n 1] mkX8_check (by decide +kernel) rfl rfl ?_
      refine p_callSv (rwithin_ok w (k := k - 1) _ _ _ _) ksX8_102 (by decide +kernel) (by omega) rfl rfl rfl rfl rfl ?_
      rw [show clF (Int32.ofInt 9999 - nI (nN (h 98 2))) (Int32.ofInt 0) (nI n) = nI (min (9999 - nN (h 98 2)) n) by rw [oI, oI, clF_sub (by omega) (by omega) (by omega)]]
      refine p_run (pc' := 73) [.imul] mkX8_check (by decide +kernel) rfl rfl ?_
      rw [show Int32.ofInt 2 * nI (min (9999 - nN (h 98 2)) n) = nI (2 * min (9999 - nN (h 98 2)) n) by rw [oI, nIm]]
      refine p_run (pc' := 80) [.istore_n 3, .iconst 0, .istore 4, .iconst 0, .istore 5] mkX8_check (by decide +kernel) rfl rfl ?_
      refine Wp.eqL ?_ (check_loop w (by omega) (some (.int (nI n))) (nN (h 96 32)) (min (9999 - nN (h 98 2)) n) hw2 (by omega) h hI hT (min (9999 - nN (h 98 2)) n) 0 (by omega) h5 e97 e99 hA5)
      rw [← hw.1]
      rfl
    · exact absurd c1 hy
  · exact False.elim (by revert c17; decide)
end
section
/-! loops; the reference: like -/
theorem Wp.for {w : Wt} {k : Nat} {M : Mt} {Q : Option Value → Mm → Prop} {pc : Nat} (n : Nat) (J : Nat → List (Option Value) → Mm → Prop)
    (hs : ∀ i L hh, i < n → J i L hh → (∀ L' h', J (i + 1) L' h' → Wp w k M Q pc L' [] h') → Wp w k M Q pc L [] hh)
    (hf : ∀ L hh, J n L hh → Wp w k M Q pc L [] hh) : ∀ i, i ≤ n → ∀ L hh, J i L hh → Wp w k M Q pc L [] hh := by
  intro i hi
  obtain ⟨m, hm⟩ : ∃ m, i + m = n := ⟨n - i, by omega⟩
  induction m generalizing i with
  | zero => intro L hh hJ; have : i = n := by omega
            subst this; exact hf L hh hJ
  | succ m ih => intro L hh hJ; exact hs i L hh (by omega) hJ (fun L' h' hJ' => ih (i + 1) (by omega) (by omega) L' h' hJ')
noncomputable def lkS (N : Vc) (c : Nat → Int32) (b : Nat) : Nat → Int32 := sumF (fun k => if c k = NONEv then nI 0 else offF (c k - bK (nsF N k) b 0))
def amF (U : Nat → Int32) : Nat → Nat
  | 0 => 0
  | n + 1 => if U (n + 1) < U (amF U n) then n + 1 else amF U n
theorem amF_le (U : Nat → Int32) : ∀ n, amF U n ≤ n
  | 0 => Nat.le_refl _
  | n + 1 => by
    have := amF_le U n
    rw [amF]
    split <;> omega
noncomputable def lkF (N : Vc) (c : Nat → Int32) (sz j : Nat) : Int32 := if j = 0 then nI (amF (fun b => lkS N c b sz) 3) else lkS N c (amF (fun b => lkS N c b sz) 3) sz
theorem add0 (x : Int32) : x + nI 0 = x := by rw [nI_0, Int32.add_zero]
set_option maxRecDepth 20000 in
set_option maxHeartbeats 4000000 in
theorem r_like_bad (w : Wt) {k : Nat} (hk : 2 ≤ k) (a b : Int32) (h : Mm)  (hb : ¬ (inR a 0 3 ∧ inR b 0 1)) : Ok w k MX8_like [.ref 96, .int a, .int b] h (Rv BADv h) := by
  show Wp w k MX8_like _ 0 [some (.ref 96), some (.int a), some (.int b), none, none, none] [] h
  refine p_run (pc' := 1) [.iload_n 1] mkX8_like (by decide +kernel) rfl rfl ?_
  refine p_callSv (risSheet_ok w (k := k - 1) (by omega) _ _) ksX8_206 (by decide +kernel) (by omega) rfl rfl rfl rfl rfl ?_
  refine p_if_eq (off := 12) 16 (by decide +kernel) (by decide) (fun c4 => ?_) (fun c4 => ?_)
  · refine p_run (pc' := 18) [.ldc 123] mkX8_like (by decide +kernel) rfl rfl ?_
    refine p_iret rfl rfl (by decide +kernel) ?_
    exact ⟨rfl, rfl⟩
  · refine p_run (pc' := 10) [.iload_n 2, .iconst 0, .iconst 1] mkX8_like (by decide +kernel) rfl rfl ?_
    refine p_callSv (in_ok w (k := k - 1) _ _ _ _) ksX8_75 (by decide +kernel) (by omega) rfl rfl rfl rfl rfl ?_
    refine p_if_ne (off := 6) 19 (by decide +kernel) (by decide) (fun c13 => ?_) (fun c13 => ?_)
    · exact absurd (⟨bI1.mp c4, bI1.mp c13⟩) hb
    · refine p_run (pc' := 18) [.ldc 123] mkX8_like (by decide +kernel) rfl rfl ?_
      refine p_iret rfl rfl (by decide +kernel) ?_
      exact ⟨rfl, rfl⟩
set_option maxRecDepth 20000 in
set_option maxHeartbeats 4000000 in
theorem r_like_no (w : Wt) {k : Nat} (hk : 2 ≤ k) (s j : Nat) (hs : s < 4) (hj : j ≤ 1) (h : Mm) (hno : h 109 s < 0) : Ok w k MX8_like [.ref 96, .int (nI s), .int (nI j)] h (Rv NOTHINGv h) := by
  show Wp w k MX8_like _ 0 [some (.ref 96), some (.int (nI s)), some (.int (nI j)), none, none, none] [] h
  refine p_run (pc' := 1) [.iload_n 1] mkX8_like (by decide +kernel) rfl rfl ?_
  refine p_callSv (isSheet_t w (k := k - 1) (by omega) _ _ (in_nI (lo := 0) (hi := 3) (by omega) (Nat.le_of_lt_succ hs) (by omega))) ksX8_206 (by decide +kernel) (by omega) rfl rfl rfl rfl rfl ?_
  refine p_if_eq (off := 12) 16 (by decide +kernel) (by decide) (fun c4 => ?_) (fun c4 => ?_)
  · exact False.elim (by revert c4; decide)
  · refine p_run (pc' := 10) [.iload_n 2, .iconst 0, .iconst 1] mkX8_like (by decide +kernel) rfl rfl ?_
    refine p_callSv (in_t w (k := k - 1) _ _ _ _ (in_nI (lo := 0) (hi := 1) (by omega) hj (by omega))) ksX8_75 (by decide +kernel) (by omega) rfl rfl rfl rfl rfl ?_
    refine p_if_ne (off := 6) 19 (by decide +kernel) (by decide) (fun c13 => ?_) (fun c13 => ?_)
    · refine p_run (pc' := 24) [.aload_n 0, .getfield 48, .iload_n 1] mkX8_like (by decide +kernel) rfl rfl ?_
      refine p_iald (s) (by decide +kernel) rfl rfl rfl hs ?_
      refine p_if_ge (off := 6) 31 (by decide +kernel) (by decide) (fun c1 => ?_) (fun c1 => ?_)
      · exact absurd c1 (Int32.not_le.mpr hno)
      · refine p_run (pc' := 30) [.ldc 209] mkX8_like (by decide +kernel) rfl rfl ?_
        refine p_iret rfl rfl (by decide +kernel) ?_
        exact ⟨rfl, rfl⟩
    · exact False.elim (by revert c13; decide)
set_option maxRecDepth 20000 in
set_option maxHeartbeats 4000000 in
theorem r_like (w : Wt) {k : Nat} (hk : 6 ≤ k) (s j sz : Nat) (hs : s < 4) (hj : j ≤ 1) (hz : sz ≤ 24) (h : Mm) (hsz : h 110 s = nI sz) (hI : Iv (h 97)) (hT : Tq (h 97)) (hy : ¬ h 109 s < 0) : Ok w k MX8_like [.ref 96, .int (nI s), .int (nI j)] h (Rs [99, 100, 107, 108] (lkF (h 97) (fun k => h 111 (24 * s + k)) sz j) h) := by
  show Wp w k MX8_like _ 0 [some (.ref 96), some (.int (nI s)), some (.int (nI j)), none, none, none] [] h
  refine p_run (pc' := 1) [.iload_n 1] mkX8_like (by decide +kernel) rfl rfl ?_
  refine p_callSv (isSheet_t w (k := k - 1) (by omega) _ _ (in_nI (lo := 0) (hi := 3) (by omega) (Nat.le_of_lt_succ hs) (by omega))) ksX8_206 (by decide +kernel) (by omega) rfl rfl rfl rfl rfl ?_
  refine p_if_eq (off := 12) 16 (by decide +kernel) (by decide) (fun c4 => ?_) (fun c4 => ?_)
  · exact False.elim (by revert c4; decide)
  · refine p_run (pc' := 10) [.iload_n 2, .iconst 0, .iconst 1] mkX8_like (by decide +kernel) rfl rfl ?_
    refine p_callSv (in_t w (k := k - 1) _ _ _ _ (in_nI (lo := 0) (hi := 1) (by omega) hj (by omega))) ksX8_75 (by decide +kernel) (by omega) rfl rfl rfl rfl rfl ?_
    refine p_if_ne (off := 6) 19 (by decide +kernel) (by decide) (fun c13 => ?_) (fun c13 => ?_)
    · refine p_run (pc' := 24) [.aload_n 0, .getfield 48, .iload_n 1] mkX8_like (by decide +kernel) rfl rfl ?_
      refine p_iald (s) (by decide +kernel) rfl rfl rfl hs ?_
      refine p_if_ge (off := 6) 31 (by decide +kernel) (by decide) (fun c1 => ?_) (fun c1 => ?_)
      · refine p_run (pc' := 32) [.aload_n 0] mkX8_like (by decide +kernel) rfl rfl ?_
        refine p_callVw (thinks_ok w (k := k - 1) (by omega) _) kvX8_189 (by decide +kernel) (by decide) rfl (by omega) rfl rfl rfl rfl rfl ?_
        refine p_run (pc' := 37) [.iconst 0, .istore_n 3] mkX8_like (by decide +kernel) rfl rfl ?_
        refine p_run (pc' := 39) [.iload_n 3, .iconst 4] mkX8_like (by decide +kernel) rfl rfl ?_
        refine p_icmp_ge (off := 16) 55 (by decide +kernel) (by decide) (fun d0 => ?_) (fun d0 => ?_)
        · exact False.elim (by revert d0; decide)
        ·
          refine p_run (pc' := 48) [.aload_n 0, .getfield 19, .iload_n 3, .iconst 0] mkX8_like (by decide +kernel) rfl rfl ?_
          refine p_iast (0) (by decide +kernel) rfl rfl rfl (by omega)  ?_
          refine p_run (pc' := 37) [.iinc 3 1, .goto (-15)] mkX8_like (by decide +kernel) rfl rfl ?_
          refine p_run (pc' := 39) [.iload_n 3, .iconst 4] mkX8_like (by decide +kernel) rfl rfl ?_
          refine p_icmp_ge (off := 16) 55 (by decide +kernel) (by decide) (fun d1 => ?_) (fun d1 => ?_)
          · exact False.elim (by revert d1; decide)
          ·
            refine p_run (pc' := 48) [.aload_n 0, .getfield 19, .iload_n 3, .iconst 0] mkX8_like (by decide +kernel) rfl rfl ?_
            refine p_iast (1) (by decide +kernel) rfl rfl rfl (by omega)  ?_
            refine p_run (pc' := 37) [.iinc 3 1, .goto (-15)] mkX8_like (by decide +kernel) rfl rfl ?_
            refine p_run (pc' := 39) [.iload_n 3, .iconst 4] mkX8_like (by decide +kernel) rfl rfl ?_
            refine p_icmp_ge (off := 16) 55 (by decide +kernel) (by decide) (fun d2 => ?_) (fun d2 => ?_)
            · exact False.elim (by revert d2; decide)
            ·
              refine p_run (pc' := 48) [.aload_n 0, .getfield 19, .iload_n 3, .iconst 0] mkX8_like (by decide +kernel) rfl rfl ?_
              refine p_iast (2) (by decide +kernel) rfl rfl rfl (by omega)  ?_
              refine p_run (pc' := 37) [.iinc 3 1, .goto (-15)] mkX8_like (by decide +kernel) rfl rfl ?_
              refine p_run (pc' := 39) [.iload_n 3, .iconst 4] mkX8_like (by decide +kernel) rfl rfl ?_
              refine p_icmp_ge (off := 16) 55 (by decide +kernel) (by decide) (fun d3 => ?_) (fun d3 => ?_)
              · exact False.elim (by revert d3; decide)
              ·
                refine p_run (pc' := 48) [.aload_n 0, .getfield 19, .iload_n 3, .iconst 0] mkX8_like (by decide +kernel) rfl rfl ?_
                refine p_iast (3) (by decide +kernel) rfl rfl rfl (by omega)  ?_
                refine p_run (pc' := 37) [.iinc 3 1, .goto (-15)] mkX8_like (by decide +kernel) rfl rfl ?_
                refine p_run (pc' := 39) [.iload_n 3, .iconst 4] mkX8_like (by decide +kernel) rfl rfl ?_
                refine p_icmp_ge (off := 16) 55 (by decide +kernel) (by decide) (fun d4 => ?_) (fun d4 => ?_)
                · generalize eh : up (up (up (up _ 100 0 _) 100 1 _) 100 2 _) 100 3 _ = h1
                  have hU : ∀ b, b < 4 → h1 100 b = lkS (h 97) (fun k => h 111 (24 * s + k)) b 0 := by
                    intro b hb
                    rw [← eh]
                    match b, hb with
                    | 0, _ => rfl
                    | 1, _ => rfl
                    | 2, _ => rfl
                    | 3, _ => rfl
                  have hA1 : Ag [99, 100] h h1 := by
                    rw [← eh]
                    exact (((((Ag.wr (by decide)).tr (Ag.up (by decide))).tr (Ag.up (by decide))).tr (Ag.up (by decide))).tr (Ag.up (by decide)))
                  have e99 : h1 99 = h 97 := by rw [← eh]; rfl
                  have e97 : h1 97 = h 97 := hA1 97 (by decide)
                  clear eh
                  refine p_run (pc' := 57) [.iconst 0, .istore_n 3] mkX8_like (by decide +kernel) rfl rfl ?_
                  refine Wp.for (sz) (fun i L hh => ∃ (x4 x5 : Option Value), L = [some (.ref 96), some (.int (nI s)), some (.int (nI j)), some (.int (nI i)), x4, x5] ∧ ((∀ b, b < 4 → hh 100 b = lkS (h 97) (fun k => h 111 (24 * s + k)) b i) ∧ hh 97 = nsF (h 97) i ∧ hh 99 = h 97 ∧ Ag [97, 99, 100, 107, 108] h hh)) ?_ ?_ (0) (by omega) _ _ ?_
                  · rintro i L hh hi ⟨x4, x5, rfl, hJ⟩ ih
                    obtain ⟨hU, e97, e99, hA⟩ := hJ
                    have e110 : hh 110 s = nI sz := by rw [hA 110 (by decide), hsz]
                    have e111 : hh 111 = h 111 := hA 111 (by decide)
                    refine p_run (pc' := 63) [.iload_n 3, .aload_n 0, .getfield 51, .iload_n 1] mkX8_like (by decide +kernel) rfl rfl ?_
                    refine p_iald (s) (by decide +kernel) rfl rfl rfl hs ?_
                    rw [e110]
                    refine p_icmp_ge (off := 71) 135 (by decide +kernel) (by decide) (fun c2 => ?_) (fun c2 => ?_)
                    · exact absurd c2 (nI_ge (by omega) (by omega))
                    · refine p_run (pc' := 77) [.aload_n 0, .getfield 54, .bipush 24, .iload_n 1, .imul, .iload_n 3, .iadd] mkX8_like (by decide +kernel) rfl rfl ?_
                      refine p_iald (24 * s + i) (by decide +kernel) rfl rfl (by simp only [oI, nI_add, nIm]) (by omega) ?_
                      rw [e111]
                      refine p_run (pc' := 83) [.istore 4, .iconst 0, .istore 5] mkX8_like (by decide +kernel) rfl rfl ?_
                      have hfin : ∀ (x5 : Option Value) (h2 : Mm), (∀ b, b < 4 → h2 100 b = lkS (h 97) (fun k => h 111 (24 * s + k)) b (i + 1)) → Ag [100] hh h2 → Wp w k MX8_like (Rs [99, 100, 107, 108] (lkF (h 97) (fun k => h 111 (24 * s + k)) sz j) h) 125 [some (.ref 96), some (.int (nI s)), some (.int (nI j)), some (.int (nI i)), some (.int (h 111 (24 * s + i))), x5] [] h2 := by
                        intro x5 h2 hU2 hA2
                        have e2 : h2 97 = nsF (h 97) i := by rw [hA2 97 (by decide), e97]
                        refine p_run (pc' := 126) [.aload_n 0] mkX8_like (by decide +kernel) rfl rfl ?_
                        refine p_callVo (night_ok w (k := k - 1) (by omega) h2 (by rw [e2]; exact nsF_Iv hI i) (by rw [e2]; exact hT.of (fun j hj => nsF_out hI (by omega) i))) (fun _ _ q => q.1) kvX8_170 (by decide +kernel) (by decide) rfl (by omega) rfl rfl rfl rfl rfl (fun h' hq => ?_)
                        obtain ⟨-, e3, hA3⟩ := hq
                        refine p_run (pc' := 57) [.iinc 3 1, .goto (-75)] mkX8_like (by decide +kernel) rfl rfl ?_
                        exact ih _ _ ⟨_, _, by rw [show nI i + Int32.ofInt 1 = nI (i + 1) by simp only [oI, nI_add]], fun b hb => by rw [hA3 100 (by decide), hU2 b hb], by rw [e3, e2, nsF], by rw [hA3 99 (by decide), hA2 99 (by decide), e99], (hA.tr (hA2.mono (by decide))).tr (hA3.mono (by decide))⟩
                      by_cases hv : h 111 (24 * s + i) = NONEv
                      · have hz : ∀ b, lkS (h 97) (fun k => h 111 (24 * s + k)) b (i + 1) = lkS (h 97) (fun k => h 111 (24 * s + k)) b i := fun b => by
                          show lkS (h 97) (fun k => h 111 (24 * s + k)) b i + (if h 111 (24 * s + i) = NONEv then nI 0 else _) = _
                          rw [if_pos hv, add0]
                        refine p_run (pc' := 86) [.iload 5, .iconst 4] mkX8_like (by decide +kernel) rfl rfl ?_
                        refine p_icmp_ge (off := 39) 125 (by decide +kernel) (by decide) (fun c3 => ?_) (fun c3 => ?_)
                        · exact False.elim (by revert c3; decide)
                        · refine p_run (pc' := 93) [.iload 4, .ldc 195] mkX8_like (by decide +kernel) rfl rfl ?_
                          refine p_icmp_eq (off := 32) 125 (by decide +kernel) (by decide) (fun c4 => ?_) (fun c4 => ?_)
                          · exact hfin _ _ (fun b hb => by rw [hz, hU b hb]) Ag.rf
                          · exact absurd hv c4
                      · have hz : ∀ b, lkS (h 97) (fun k => h 111 (24 * s + k)) b (i + 1) = lkS (h 97) (fun k => h 111 (24 * s + k)) b i + offF (h 111 (24 * s + i) - bK (nsF (h 97) i) b 0) := fun b => by
                          show lkS (h 97) (fun k => h 111 (24 * s + k)) b i + (if h 111 (24 * s + i) = NONEv then nI 0 else _) = _
                          rw [if_neg hv]
                        have hJ0 := hU
                        generalize eq : h 111 (24 * s + i) = q at *
                        refine Wp.for 4 (fun b L h2 => L = [some (.ref 96), some (.int (nI s)), some (.int (nI j)), some (.int (nI i)), some (.int q), some (.int (nI b))] ∧ (∀ c, c < b → h2 100 c = lkS (h 97) (fun k => h 111 (24 * s + k)) c (i + 1)) ∧ (∀ c, b ≤ c → c < 4 → h2 100 c = lkS (h 97) (fun k => h 111 (24 * s + k)) c i) ∧ Ag [100] hh h2) ?_ ?_ 0 (by omega) _ _ ⟨rfl, fun c hc => absurd hc (by omega), fun c _ hc => hU c hc, Ag.rf⟩
                        · rintro b L h2 hb ⟨rfl, hL, hG, hA2⟩ ih2
                          refine p_run (pc' := 86) [.iload 5, .iconst 4] mkX8_like (by decide +kernel) rfl rfl ?_
                          refine p_icmp_ge (off := 39) 125 (by decide +kernel) (by decide) (fun c3 => ?_) (fun c3 => ?_)
                          · exact False.elim (by rw [oI, nI_leI (by omega) (by omega)] at c3; omega)
                          · refine p_run (pc' := 93) [.iload 4, .ldc 195] mkX8_like (by decide +kernel) rfl rfl ?_
                            refine p_icmp_eq (off := 32) 125 (by decide +kernel) (by decide) (fun c4 => ?_) (fun c4 => ?_)
                            · exact absurd c4 hv
                            · refine p_run (pc' := 103) [.aload_n 0, .getfield 19, .iload 5, .dup2] mkX8_like (by decide +kernel) rfl rfl ?_
                              refine p_iald (b) (by decide +kernel) rfl rfl rfl hb ?_
                              refine p_run (pc' := 110) [.iload 4, .aload_n 0, .iload 5, .iconst 0] mkX8_like (by decide +kernel) rfl rfl ?_
                              refine p_callVv (at_ok w (k := k - 1) b 0 _ (by omega)) kvX8_79 (by decide +kernel) (by decide) rfl (by omega) rfl rfl rfl rfl rfl ?_
                              refine p_run (pc' := 114) [.isub] mkX8_like (by decide +kernel) rfl rfl ?_
                              refine p_callSv (off_ok w (k := k - 1) _ _) ksX8_210 (by decide +kernel) (by omega) rfl rfl rfl rfl rfl ?_
                              refine p_run (pc' := 118) [.iadd] mkX8_like (by decide +kernel) rfl rfl ?_
                              refine p_iast (b) (by decide +kernel) rfl rfl rfl hb  ?_
                              refine p_run (pc' := 83) [.iinc 5 1, .goto (-39)] mkX8_like (by decide +kernel) rfl rfl ?_
                              refine ih2 _ _ ⟨by rw [show nI b + Int32.ofInt 1 = nI (b + 1) by simp only [oI, nI_add]], fun c hc => ?_, fun c h1 h2 => ?_, hA2.tr (Ag.up (by decide))⟩
                              · rw [upS]
                                by_cases hcb : c = b
                                · rw [hcb, upd_s, hz, hG b (Nat.le_refl _) hb, hA2 97 (by decide), e97]; rfl
                                · rw [upd_n hcb]; exact hL c (by omega)
                              · rw [upS, upd_n (by omega)]; exact hG c (by omega) h2
                        · rintro L h2 ⟨rfl, hL, hG, hA2⟩
                          refine p_run (pc' := 86) [.iload 5, .iconst 4] mkX8_like (by decide +kernel) rfl rfl ?_
                          refine p_icmp_ge (off := 39) 125 (by decide +kernel) (by decide) (fun c3 => ?_) (fun c3 => ?_)
                          · exact hfin _ _ hL hA2
                          · exact False.elim (by revert c3; decide)
                  · rintro L hh ⟨x4, x5, rfl, hJ⟩
                    obtain ⟨hU, e97, e99, hA⟩ := hJ
                    have e110 : hh 110 s = nI sz := by rw [hA 110 (by decide), hsz]
                    refine p_run (pc' := 63) [.iload_n 3, .aload_n 0, .getfield 51, .iload_n 1] mkX8_like (by decide +kernel) rfl rfl ?_
                    refine p_iald (s) (by decide +kernel) rfl rfl rfl hs ?_
                    rw [e110]
                    refine p_icmp_ge (off := 71) 135 (by decide +kernel) (by decide) (fun c2 => ?_) (fun c2 => ?_)
                    · refine p_run (pc' := 136) [.aload_n 0] mkX8_like (by decide +kernel) rfl rfl ?_
                      refine p_callVw (putsBack_ok w (k := k - 1) (by omega) _) kvX8_192 (by decide +kernel) (by decide) rfl (by omega) rfl rfl rfl rfl rfl ?_
                      have hAf : Ag [99, 100, 107, 108] h (wr hh 97 (hh 99)) := fun a ha => by
                        by_cases z : a = 97
                        · rw [z, wrS, e99]
                        · rw [wrN z]; exact hA a (by simp at ha ⊢; omega)
                      have hU' : ∀ b, b < 4 → wr hh 97 (hh 99) 100 b = lkS (h 97) (fun k => h 111 (24 * s + k)) b sz := fun b hb => by rw [wrN (by decide)]; exact hU b hb
                      generalize wr hh 97 (hh 99) = h3 at hAf hU' ⊢
                      generalize eU : (fun b => lkS (h 97) (fun k => h 111 (24 * s + k)) b sz) = U
                      have hU3 : ∀ b, b < 4 → h3 100 b = U b := fun b hb => by rw [← eU]; exact hU' b hb
                      have hgoal : lkF (h 97) (fun k => h 111 (24 * s + k)) sz j = if j = 0 then nI (amF U 3) else U (amF U 3) := by unfold lkF; rw [eU]; rw [← eU]
                      rw [hgoal]
                      clear hgoal eU hU'
                      refine p_run (pc' := 144) [.iconst 0, .istore_n 3, .iconst 1, .istore 4] mkX8_like (by decide +kernel) rfl rfl ?_
                      refine Wp.for 3 (fun i L hh => L = [some (.ref 96), some (.int (nI s)), some (.int (nI j)), some (.int (nI (amF U i))), some (.int (nI (i + 1))), x5] ∧ hh = h3) ?_ ?_ 0 (by omega) _ _ ⟨rfl, rfl⟩
                      · rintro i L _ hi ⟨rfl, rfl⟩ ih
                        have hle := amF_le U i
                        refine p_run (pc' := 147) [.iload 4, .iconst 4] mkX8_like (by decide +kernel) rfl rfl ?_
                        refine p_icmp_ge (off := 32) 179 (by decide +kernel) (by decide) (fun c3 => ?_) (fun c3 => ?_)
                        · exact False.elim (by rw [oI, nI_leI (by omega) (by omega)] at c3; omega)
                        · refine p_run (pc' := 156) [.aload_n 0, .getfield 19, .iload 4] mkX8_like (by decide +kernel) rfl rfl ?_
                          refine p_iald (i + 1) (by decide +kernel) rfl rfl rfl (by omega) ?_
                          refine p_run (pc' := 162) [.aload_n 0, .getfield 19, .iload_n 3] mkX8_like (by decide +kernel) rfl rfl ?_
                          refine p_iald (amF U i) (by decide +kernel) rfl rfl rfl (by omega) ?_
                          rw [hU3 _ (by omega), hU3 _ (by omega)]
                          refine p_icmp_ge (off := 8) 171 (by decide +kernel) (by decide) (fun c4 => ?_) (fun c4 => ?_)
                          · refine p_run (pc' := 144) [.iload_n 3, .istore_n 3, .iinc 4 1, .goto (-32)] mkX8_like (by decide +kernel) rfl rfl ?_
                            exact ih _ _ ⟨by rw [amF, if_neg (Int32.not_lt.mpr c4), show nI (i + 1) + Int32.ofInt 1 = nI (i + 1 + 1) by simp only [oI, nI_add]], rfl⟩
                          · refine p_run (pc' := 144) [.iload 4, .goto 4, .istore_n 3, .iinc 4 1, .goto (-32)] mkX8_like (by decide +kernel) rfl rfl ?_
                            exact ih _ _ ⟨by rw [amF, if_pos (Int32.not_le.mp c4), show nI (i + 1) + Int32.ofInt 1 = nI (i + 1 + 1) by simp only [oI, nI_add]], rfl⟩
                      · rintro L _ ⟨rfl, rfl⟩
                        have hle := amF_le U 3
                        refine p_run (pc' := 147) [.iload 4, .iconst 4] mkX8_like (by decide +kernel) rfl rfl ?_
                        refine p_icmp_ge (off := 32) 179 (by decide +kernel) (by decide) (fun c3 => ?_) (fun c3 => ?_)
                        · refine p_run (pc' := 180) [.iload_n 2] mkX8_like (by decide +kernel) rfl rfl ?_
                          refine p_if_ne (off := 7) 187 (by decide +kernel) (by decide) (fun c4 => ?_) (fun c4 => ?_)
                          · rw [nI_eq0 (by omega)] at c4
                            refine p_run (pc' := 192) [.aload_n 0, .getfield 19, .iload_n 3] mkX8_like (by decide +kernel) rfl rfl ?_
                            refine p_iald (amF U 3) (by decide +kernel) rfl rfl rfl (by omega) ?_
                            refine p_iret rfl rfl (by decide +kernel) ?_
                            exact ⟨by rw [if_neg c4, hU3 _ (by omega)], hAf⟩
                          · rw [nI_eq0 (by omega)] at c4
                            refine p_run (pc' := 193) [.iload_n 3, .goto 9] mkX8_like (by decide +kernel) rfl rfl ?_
                            refine p_iret rfl rfl (by decide +kernel) ?_
                            exact ⟨by rw [if_pos c4], hAf⟩
                        · exact False.elim (by revert c3; decide)
                    · exact absurd (nI_le (Nat.le_refl _) (by omega)) c2
                  · exact ⟨_, _, rfl, hU, e97, e99, hA1.mono (by decide)⟩
                · exact False.elim (by revert d4; decide)
      · exact absurd (Int32.not_lt.mp hy) c1
    · exact False.elim (by revert c13; decide)
end
section
/-! the reference: feed, trim, sheet, mark, pour, reads -/
theorem iT {c : Prop} [Decidable c] {P Q : Option Value → Mm → Prop} {r : Option Value} {h : Mm} (hc : c) (hp : P r h) : (if c then P else Q) r h := by rw [if_pos hc]; exact hp
theorem iF {c : Prop} [Decidable c] {P Q : Option Value → Mm → Prop} {r : Option Value} {h : Mm} (hc : ¬ c) (hp : Q r h) : (if c then P else Q) r h := by rw [if_neg hc]; exact hp
def byF (a b c : Int32) (i : Nat) : Int32 := ((if i < 4 then a else if i < 8 then b else c) >>> (nI (24 - 8 * (i % 4)) &&& 31)) &&& nI 255
def spl (f : Vc) (t n : Nat) (g : Nat → Int32) : Vc := fun k => if t ≤ k ∧ k < t + n then g (k - t) else f k
theorem spl0 {f : Vc} {t : Nat} {g : Nat → Int32} : spl f t 0 g = f := by
  funext k
  unfold spl
  rw [if_neg (by omega)]
theorem splS {f : Vc} {t n : Nat} {g : Nat → Int32} : upd (spl f t n g) (t + n) (g n) = spl f t (n + 1) g := by
  funext k
  unfold upd spl
  by_cases h : k = t + n
  · rw [if_pos h, if_pos (by omega), h, Nat.add_sub_cancel_left]
  · rw [if_neg h]
    by_cases h2 : t ≤ k ∧ k < t + n
    · rw [if_pos h2, if_pos (by omega)]
    · rw [if_neg h2, if_neg (by omega)]
theorem up_up97 {h : Mm} {a k : Nat} {x : Int32} : up h a k x = wr h a (upd (h a) k x) := by
  funext b
  by_cases hb : b = a
  · rw [hb, upS, wrS]
  · rw [upN hb, wrN hb]
theorem wr_wr {h : Mm} {a : Nat} {f g : Vc} : wr (wr h a f) a g = wr h a g := by
  funext b
  by_cases hb : b = a
  · rw [hb, wrS, wrS]
  · rw [wrN hb, wrN hb, wrN hb]
theorem wr_self {h : Mm} {a : Nat} : wr h a (h a) = h := by
  funext b
  by_cases hb : b = a
  · rw [hb, wrS]
  · rw [wrN hb]
set_option maxRecDepth 20000 in
set_option maxHeartbeats 4000000 in
theorem r_feed (w : Wt) {k : Nat} (t : Nat) (ht : t + 12 ≤ 96) (a b c : Int32) (h : Mm) (e : h 96 6 = nI t) : Ok w k MX8_feed [.ref 96, .int a, .int b, .int c] h (Rv (nI (t + 12)) (up (wr h 101 (spl (h 101) t 12 (byF a b c))) 96 6 (nI (t + 12)))) := by
  show Wp w k MX8_feed _ 0 [some (.ref 96), some (.int a), some (.int b), some (.int c), none, none] [] h
  refine p_run (pc' := 9) [.aload_n 0, .getfield 213, .bipush 12, .iadd, .bipush 96] mkX8_feed (by decide +kernel) rfl rfl ?_
  refine Wp.eqS (st' := [.int (nI 96), .int (nI (t + 12))]) (by rw [e, oI, oI, nI_add]) ?_
  refine p_icmp_le (off := 6) 15 (by decide +kernel) (by decide) (fun c1 => ?_) (fun c1 => ?_)
  · refine p_run (pc' := 18) [.iconst 0, .istore 4] mkX8_feed (by decide +kernel) rfl rfl ?_
    refine Wp.for (12) (fun i L hh => ∃ (x5 : Option Value), L = [some (.ref 96), some (.int a), some (.int b), some (.int c), some (.int (nI i)), x5] ∧ hh = wr h 101 (spl (h 101) t i (byF a b c))) ?_ ?_ (0) (by omega) _ _ ?_
    · rintro i L hh hi ⟨x5, rfl, hJ⟩ ih
      rw [hJ]
      have e6 : wr h 101 (spl (h 101) t i (byF a b c)) 96 6 = nI t := by rw [wrN (by decide), e]
      refine p_run (pc' := 22) [.iload 4, .bipush 12] mkX8_feed (by decide +kernel) rfl rfl ?_
      refine p_icmp_ge (off := 62) 84 (by decide +kernel) (by decide) (fun c2 => ?_) (fun c2 => ?_)
      · exact False.elim (by rw [oI, nI_leI (by omega) (by omega)] at c2; omega)
      · refine p_run (pc' := 28) [.iload 4, .iconst 4] mkX8_feed (by decide +kernel) rfl rfl ?_
        refine p_icmp_ge (off := 7) 35 (by decide +kernel) (by decide) (fun c3 => ?_) (fun c3 => ?_)
        · rw [oI, nI_leI (by omega) (by omega)] at c3
          refine p_run (pc' := 39) [.iload 4, .bipush 8] mkX8_feed (by decide +kernel) rfl rfl ?_
          refine p_icmp_ge (off := 7) 46 (by decide +kernel) (by decide) (fun c4 => ?_) (fun c4 => ?_)
          · rw [oI, nI_leI (by omega) (by omega)] at c4
            refine p_run (pc' := 47) [.iload_n 3] mkX8_feed (by decide +kernel) rfl rfl ?_
            refine p_run (pc' := 69) [.istore 5, .aload_n 0, .getfield 22, .aload_n 0, .getfield 213, .iload 4, .iadd, .iload 5, .bipush 24, .bipush 8, .iload 4, .iconst 4] mkX8_feed (by decide +kernel) rfl rfl ?_
            refine p_irem (by decide +kernel) (by decide) ?_
            refine p_run (pc' := 77) [.imul, .isub, .ishr, .sipush 255, .iand] mkX8_feed (by decide +kernel) rfl rfl ?_
            refine p_iast (t + i) (by decide +kernel) rfl rfl (by rw [e6, nI_add]) (by omega)  ?_
            refine p_run (pc' := 18) [.iinc 4 1, .goto (-63)] mkX8_feed (by decide +kernel) rfl rfl ?_
            exact ih _ _ ⟨_, by rw [show nI i + Int32.ofInt 1 = nI (i + 1) by simp only [oI, nI_add]], by rw [up_up97, wr_wr, wrS, ← splS]; congr 2; simp only [oI]; rw [jrem_nI (by omega) (by omega) (by omega), nIm, nIs (by omega)]; unfold byF; rw [if_neg (by omega), if_neg (by omega)]⟩
          · rw [oI, nI_leI (by omega) (by omega)] at c4
            refine p_run (pc' := 47) [.iload_n 2, .goto 4] mkX8_feed (by decide +kernel) rfl rfl ?_
            refine p_run (pc' := 69) [.istore 5, .aload_n 0, .getfield 22, .aload_n 0, .getfield 213, .iload 4, .iadd, .iload 5, .bipush 24, .bipush 8, .iload 4, .iconst 4] mkX8_feed (by decide +kernel) rfl rfl ?_
            refine p_irem (by decide +kernel) (by decide) ?_
            refine p_run (pc' := 77) [.imul, .isub, .ishr, .sipush 255, .iand] mkX8_feed (by decide +kernel) rfl rfl ?_
            refine p_iast (t + i) (by decide +kernel) rfl rfl (by rw [e6, nI_add]) (by omega)  ?_
            refine p_run (pc' := 18) [.iinc 4 1, .goto (-63)] mkX8_feed (by decide +kernel) rfl rfl ?_
            exact ih _ _ ⟨_, by rw [show nI i + Int32.ofInt 1 = nI (i + 1) by simp only [oI, nI_add]], by rw [up_up97, wr_wr, wrS, ← splS]; congr 2; simp only [oI]; rw [jrem_nI (by omega) (by omega) (by omega), nIm, nIs (by omega)]; unfold byF; rw [if_neg (by omega), if_pos (by omega)]⟩
        · rw [oI, nI_leI (by omega) (by omega)] at c3
          refine p_run (pc' := 47) [.iload_n 1, .goto 15] mkX8_feed (by decide +kernel) rfl rfl ?_
          refine p_run (pc' := 69) [.istore 5, .aload_n 0, .getfield 22, .aload_n 0, .getfield 213, .iload 4, .iadd, .iload 5, .bipush 24, .bipush 8, .iload 4, .iconst 4] mkX8_feed (by decide +kernel) rfl rfl ?_
          refine p_irem (by decide +kernel) (by decide) ?_
          refine p_run (pc' := 77) [.imul, .isub, .ishr, .sipush 255, .iand] mkX8_feed (by decide +kernel) rfl rfl ?_
          refine p_iast (t + i) (by decide +kernel) rfl rfl (by rw [e6, nI_add]) (by omega)  ?_
          refine p_run (pc' := 18) [.iinc 4 1, .goto (-63)] mkX8_feed (by decide +kernel) rfl rfl ?_
          exact ih _ _ ⟨_, by rw [show nI i + Int32.ofInt 1 = nI (i + 1) by simp only [oI, nI_add]], by rw [up_up97, wr_wr, wrS, ← splS]; congr 2; simp only [oI]; rw [jrem_nI (by omega) (by omega) (by omega), nIm, nIs (by omega)]; unfold byF; rw [if_pos (by omega)]⟩
    · rintro L hh ⟨x5, rfl, hJ⟩
      rw [hJ]
      refine p_run (pc' := 22) [.iload 4, .bipush 12] mkX8_feed (by decide +kernel) rfl rfl ?_
      refine p_icmp_ge (off := 62) 84 (by decide +kernel) (by decide) (fun c2 => ?_) (fun c2 => ?_)
      · have e6 : wr h 101 (spl (h 101) t 12 (byF a b c)) 96 6 = nI t := by rw [wrN (by decide), e]
        refine p_run (pc' := 99) [.aload_n 0, .dup, .getfield 213, .bipush 12, .iadd, .putfield 213, .aload_n 0, .getfield 213] mkX8_feed (by decide +kernel) rfl rfl ?_
        refine p_iret rfl rfl (by decide +kernel) ?_
        rw [e6, oI, nI_add]; exact ⟨by rw [upS, upd_s], rfl⟩
      · exact False.elim (by revert c2; decide)
    · exact ⟨_, rfl, by rw [spl0, wr_self]⟩
  · exact absurd (nI_le (by omega) (by omega)) c1
set_option maxRecDepth 20000 in
set_option maxHeartbeats 4000000 in
theorem r_feed_full (w : Wt) {k : Nat} (t : Nat) (ht : ¬ t + 12 ≤ 96) (ht2 : t ≤ 96) (a b c : Int32) (h : Mm) (e : h 96 6 = nI t) : Ok w k MX8_feed [.ref 96, .int a, .int b, .int c] h (Rv FULLv h) := by
  show Wp w k MX8_feed _ 0 [some (.ref 96), some (.int a), some (.int b), some (.int c), none, none] [] h
  refine p_run (pc' := 9) [.aload_n 0, .getfield 213, .bipush 12, .iadd, .bipush 96] mkX8_feed (by decide +kernel) rfl rfl ?_
  refine Wp.eqS (st' := [.int (nI 96), .int (nI (t + 12))]) (by rw [e, oI, oI, nI_add]) ?_
  refine p_icmp_le (off := 6) 15 (by decide +kernel) (by decide) (fun c1 => ?_) (fun c1 => ?_)
  · exact False.elim (by rw [nI_leI (by omega) (by omega)] at c1; omega)
  · refine p_run (pc' := 14) [.ldc 124] mkX8_feed (by decide +kernel) rfl rfl ?_
    refine p_iret rfl rfl (by decide +kernel) ?_
    exact ⟨rfl, rfl⟩
set_option maxRecDepth 20000 in
set_option maxHeartbeats 4000000 in
theorem r_trim (w : Wt) {k : Nat} (hk : 1 ≤ k) (a : Int32) (h : Mm) : Ok w k MX8_trim [.ref 96, .int a] h (if nI 0 ≤ a ∧ a ≤ h 96 6 then Rv a (up h 96 6 a) else Rv BADv h) := by
  show Wp w k MX8_trim _ 0 [some (.ref 96), some (.int a)] [] h
  refine p_run (pc' := 6) [.iload_n 1, .iconst 0, .aload_n 0, .getfield 213] mkX8_trim (by decide +kernel) rfl rfl ?_
  refine p_callSv (in_ok w (k := k - 1) _ _ _ _) ksX8_75 (by decide +kernel) (by omega) rfl rfl rfl rfl rfl ?_
  refine p_if_ne (off := 6) 15 (by decide +kernel) (by decide) (fun c9 => ?_) (fun c9 => ?_)
  · have c9 := bI1.mp c9
    refine p_run (pc' := 21) [.aload_n 0, .iload_n 1, .putfield 213, .iload_n 1] mkX8_trim (by decide +kernel) rfl rfl ?_
    refine p_iret rfl rfl (by decide +kernel) ?_
    first | exact iT c9 ⟨rfl, rfl⟩ | exact iF c9 ⟨rfl, rfl⟩
  · have c9 := bI0.mp c9
    refine p_run (pc' := 14) [.ldc 123] mkX8_trim (by decide +kernel) rfl rfl ?_
    refine p_iret rfl rfl (by decide +kernel) ?_
    first | exact iT c9 ⟨rfl, rfl⟩ | exact iF c9 ⟨rfl, rfl⟩
def shP (a b n : Int32) : Prop := inR a 0 3 ∧ (Int32.ofInt (-1) ≤ b ∧ b ≤ nI 1) ∧ (b < 0 ∨ n ≤ nI 24)

set_option maxRecDepth 20000 in
set_option maxHeartbeats 4000000 in
theorem r_sheet_bad (w : Wt) {k : Nat} (hk : 2 ≤ k) (a b n : Int32) (h : Mm) (hb : ¬ shP a b n) : Ok w k MX8_sheet [.ref 96, .int a, .int b, .int n] h (Rv BADv h) := by
  show Wp w k MX8_sheet _ 0 [some (.ref 96), some (.int a), some (.int b), some (.int n), none] [] h
  refine p_run (pc' := 1) [.iload_n 1] mkX8_sheet (by decide +kernel) rfl rfl ?_
  refine p_callSv (risSheet_ok w (k := k - 1) (by omega) _ _) ksX8_206 (by decide +kernel) (by omega) rfl rfl rfl rfl rfl ?_
  refine p_if_eq (off := 22) 26 (by decide +kernel) (by decide) (fun c4 => ?_) (fun c4 => ?_)
  · have c4 := bI0.mp c4
    refine p_run (pc' := 28) [.ldc 123] mkX8_sheet (by decide +kernel) rfl rfl ?_
    refine p_iret rfl rfl (by decide +kernel) ?_
    exact ⟨rfl, rfl⟩
  · have c4 := bI1.mp c4
    refine p_run (pc' := 10) [.iload_n 2, .iconst (-1), .iconst 1] mkX8_sheet (by decide +kernel) rfl rfl ?_
    refine p_callSv (in_ok w (k := k - 1) _ _ _ _) ksX8_75 (by decide +kernel) (by omega) rfl rfl rfl rfl rfl ?_
    refine p_if_eq (off := 13) 26 (by decide +kernel) (by decide) (fun c13 => ?_) (fun c13 => ?_)
    · have c13 := bI0.mp c13
      refine p_run (pc' := 28) [.ldc 123] mkX8_sheet (by decide +kernel) rfl rfl ?_
      refine p_iret rfl rfl (by decide +kernel) ?_
      exact ⟨rfl, rfl⟩
    · have c13 := bI1.mp c13
      refine p_run (pc' := 17) [.iload_n 2] mkX8_sheet (by decide +kernel) rfl rfl ?_
      refine p_if_lt (off := 12) 29 (by decide +kernel) (by decide) (fun c17 => ?_) (fun c17 => ?_)
      · exact absurd ⟨c4, c13, Or.inl c17⟩ hb
      · refine p_run (pc' := 23) [.iload_n 3, .bipush 24] mkX8_sheet (by decide +kernel) rfl rfl ?_
        refine p_icmp_le (off := 6) 29 (by decide +kernel) (by decide) (fun c23 => ?_) (fun c23 => ?_)
        · exact absurd ⟨c4, c13, Or.inr c23⟩ hb
        · refine p_run (pc' := 28) [.ldc 123] mkX8_sheet (by decide +kernel) rfl rfl ?_
          refine p_iret rfl rfl (by decide +kernel) ?_
          exact ⟨rfl, rfl⟩
set_option maxRecDepth 20000 in
set_option maxHeartbeats 4000000 in
theorem r_sheet_size (w : Wt) {k : Nat} (hk : 2 ≤ k) (a b n : Int32) (h : Mm) (hb : shP a b n) (h0 : 0 ≤ b) (hn : n < 0) : Ok w k MX8_sheet [.ref 96, .int a, .int b, .int n] h (Rv SIZEv h) := by
  show Wp w k MX8_sheet _ 0 [some (.ref 96), some (.int a), some (.int b), some (.int n), none] [] h
  refine p_run (pc' := 1) [.iload_n 1] mkX8_sheet (by decide +kernel) rfl rfl ?_
  refine p_callSv (risSheet_ok w (k := k - 1) (by omega) _ _) ksX8_206 (by decide +kernel) (by omega) rfl rfl rfl rfl rfl ?_
  refine p_if_eq (off := 22) 26 (by decide +kernel) (by decide) (fun c4 => ?_) (fun c4 => ?_)
  · have c4 := bI0.mp c4
    exact absurd hb.1 c4
  · have c4 := bI1.mp c4
    refine p_run (pc' := 10) [.iload_n 2, .iconst (-1), .iconst 1] mkX8_sheet (by decide +kernel) rfl rfl ?_
    refine p_callSv (in_ok w (k := k - 1) _ _ _ _) ksX8_75 (by decide +kernel) (by omega) rfl rfl rfl rfl rfl ?_
    refine p_if_eq (off := 13) 26 (by decide +kernel) (by decide) (fun c13 => ?_) (fun c13 => ?_)
    · have c13 := bI0.mp c13
      exact absurd hb.2.1 c13
    · have c13 := bI1.mp c13
      refine p_run (pc' := 17) [.iload_n 2] mkX8_sheet (by decide +kernel) rfl rfl ?_
      refine p_if_lt (off := 12) 29 (by decide +kernel) (by decide) (fun c17 => ?_) (fun c17 => ?_)
      · exact absurd c17 (Int32.not_lt.mpr h0)
      · refine p_run (pc' := 23) [.iload_n 3, .bipush 24] mkX8_sheet (by decide +kernel) rfl rfl ?_
        refine p_icmp_le (off := 6) 29 (by decide +kernel) (by decide) (fun c23 => ?_) (fun c23 => ?_)
        · refine p_run (pc' := 30) [.iload_n 2] mkX8_sheet (by decide +kernel) rfl rfl ?_
          refine p_if_lt (off := 11) 41 (by decide +kernel) (by decide) (fun c30 => ?_) (fun c30 => ?_)
          · exact absurd c30 (Int32.not_lt.mpr h0)
          · refine p_run (pc' := 34) [.iload_n 3] mkX8_sheet (by decide +kernel) rfl rfl ?_
            refine p_if_ge (off := 7) 41 (by decide +kernel) (by decide) (fun c34 => ?_) (fun c34 => ?_)
            · exact absurd c34 (Int32.not_le.mpr hn)
            · refine p_run (pc' := 40) [.ldc_w 281] mkX8_sheet (by decide +kernel) rfl rfl ?_
              refine p_iret rfl rfl (by decide +kernel) ?_
              exact ⟨rfl, rfl⟩
        · exact absurd (hb.2.2.resolve_left c17) c23
set_option maxRecDepth 20000 in
set_option maxHeartbeats 4000000 in
theorem r_sheet (w : Wt) {k : Nat} (hk : 2 ≤ k) (s : Nat) (hs : s < 4) (b n : Int32) (h : Mm) (hb : shP (nI s) b n) (hn : ¬ (0 ≤ b ∧ n < 0)) : Ok w k MX8_sheet [.ref 96, .int (nI s), .int b, .int n] h (Rv (if b < 0 then nI 0 else n) (wr (up (up h 109 s b) 110 s (if b < 0 then nI 0 else n)) 111 (spl (h 111) (24 * s) 24 (fun _ => nI 0)))) := by
  show Wp w k MX8_sheet _ 0 [some (.ref 96), some (.int (nI s)), some (.int b), some (.int n), none] [] h
  refine p_run (pc' := 1) [.iload_n 1] mkX8_sheet (by decide +kernel) rfl rfl ?_
  refine p_callSv (risSheet_ok w (k := k - 1) (by omega) _ _) ksX8_206 (by decide +kernel) (by omega) rfl rfl rfl rfl rfl ?_
  refine p_if_eq (off := 22) 26 (by decide +kernel) (by decide) (fun c4 => ?_) (fun c4 => ?_)
  · have c4 := bI0.mp c4
    exact absurd hb.1 c4
  · have c4 := bI1.mp c4
    refine p_run (pc' := 10) [.iload_n 2, .iconst (-1), .iconst 1] mkX8_sheet (by decide +kernel) rfl rfl ?_
    refine p_callSv (in_ok w (k := k - 1) _ _ _ _) ksX8_75 (by decide +kernel) (by omega) rfl rfl rfl rfl rfl ?_
    refine p_if_eq (off := 13) 26 (by decide +kernel) (by decide) (fun c13 => ?_) (fun c13 => ?_)
    · have c13 := bI0.mp c13
      exact absurd hb.2.1 c13
    · have c13 := bI1.mp c13
      refine p_run (pc' := 17) [.iload_n 2] mkX8_sheet (by decide +kernel) rfl rfl ?_
      refine p_if_lt (off := 12) 29 (by decide +kernel) (by decide) (fun c17 => ?_) (fun c17 => ?_)
      · refine p_run (pc' := 30) [.iload_n 2] mkX8_sheet (by decide +kernel) rfl rfl ?_
        refine p_if_lt (off := 11) 41 (by decide +kernel) (by decide) (fun c30 => ?_) (fun c30 => ?_)
        · refine p_run (pc' := 47) [.aload_n 0, .getfield 48, .iload_n 1, .iload_n 2] mkX8_sheet (by decide +kernel) rfl rfl ?_
          refine p_iast (s) (by decide +kernel) rfl rfl rfl (by omega)  ?_
          refine p_run (pc' := 54) [.aload_n 0, .getfield 51, .iload_n 1, .iload_n 2] mkX8_sheet (by decide +kernel) rfl rfl ?_
          refine p_if_ge (off := 7) 61 (by decide +kernel) (by decide) (fun c54 => ?_) (fun c54 => ?_)
          · refine p_run (pc' := 62) [.iload_n 3] mkX8_sheet (by decide +kernel) rfl rfl ?_
            refine Wp.eqS (st' := [.int (if b < 0 then nI 0 else n), .int (nI s), .ref 110]) (by first | rw [if_pos (Int32.not_le.mp c54)]; rfl | rw [if_neg (Int32.not_lt.mpr c54)]) ?_
            refine p_iast (s) (by decide +kernel) rfl rfl rfl (by omega)  ?_
            refine p_run (pc' := 66) [.iconst 0, .istore 4] mkX8_sheet (by decide +kernel) rfl rfl ?_
            generalize e2 : up (up h 109 s b) 110 s _ = h2
            refine Wp.for (24) (fun i L hh => L = [some (.ref 96), some (.int (nI s)), some (.int b), some (.int n), some (.int (nI i))] ∧ hh = wr h2 111 (spl (h2 111) (24 * s) i (fun _ => nI 0))) ?_ ?_ (0) (by omega) _ _ ?_
            · rintro i L hh hi ⟨rfl, hJ⟩ ih
              rw [hJ]
              refine p_run (pc' := 70) [.iload 4, .bipush 24] mkX8_sheet (by decide +kernel) rfl rfl ?_
              refine p_icmp_ge (off := 22) 92 (by decide +kernel) (by decide) (fun c2 => ?_) (fun c2 => ?_)
              · exact False.elim (by rw [oI, nI_leI (by omega) (by omega)] at c2; omega)
              · refine p_run (pc' := 85) [.aload_n 0, .getfield 54, .bipush 24, .iload_n 1, .imul, .iload 4, .iadd, .iconst 0] mkX8_sheet (by decide +kernel) rfl rfl ?_
                refine p_iast (24 * s + i) (by decide +kernel) rfl rfl (by simp only [oI, nIm, nI_add]) (by omega)  ?_
                refine p_run (pc' := 66) [.iinc 4 1, .goto (-23)] mkX8_sheet (by decide +kernel) rfl rfl ?_
                exact ih _ _ ⟨by rw [show nI i + Int32.ofInt 1 = nI (i + 1) by simp only [oI, nI_add]], by rw [up_up97, wr_wr, wrS, ← splS, oI]⟩
            · rintro L hh ⟨rfl, hJ⟩
              rw [hJ]
              refine p_run (pc' := 70) [.iload 4, .bipush 24] mkX8_sheet (by decide +kernel) rfl rfl ?_
              refine p_icmp_ge (off := 22) 92 (by decide +kernel) (by decide) (fun c2 => ?_) (fun c2 => ?_)
              · refine p_run (pc' := 97) [.aload_n 0, .getfield 51, .iload_n 1] mkX8_sheet (by decide +kernel) rfl rfl ?_
                refine p_iald (s) (by decide +kernel) rfl rfl rfl (by omega) ?_
                refine p_iret rfl rfl (by decide +kernel) ?_
                exact ⟨by rw [wrN (by decide), ← e2, upS, upd_s], by rw [← e2, upN (by decide), upN (by decide)]⟩
              · exact False.elim (by revert c2; decide)
            · exact ⟨rfl, by rw [spl0, wr_self]⟩
          · refine p_run (pc' := 62) [.iconst 0, .goto 4] mkX8_sheet (by decide +kernel) rfl rfl ?_
            refine Wp.eqS (st' := [.int (if b < 0 then nI 0 else n), .int (nI s), .ref 110]) (by first | rw [if_pos (Int32.not_le.mp c54)]; rfl | rw [if_neg (Int32.not_lt.mpr c54)]) ?_
            refine p_iast (s) (by decide +kernel) rfl rfl rfl (by omega)  ?_
            refine p_run (pc' := 66) [.iconst 0, .istore 4] mkX8_sheet (by decide +kernel) rfl rfl ?_
            generalize e2 : up (up h 109 s b) 110 s _ = h2
            refine Wp.for (24) (fun i L hh => L = [some (.ref 96), some (.int (nI s)), some (.int b), some (.int n), some (.int (nI i))] ∧ hh = wr h2 111 (spl (h2 111) (24 * s) i (fun _ => nI 0))) ?_ ?_ (0) (by omega) _ _ ?_
            · rintro i L hh hi ⟨rfl, hJ⟩ ih
              rw [hJ]
              refine p_run (pc' := 70) [.iload 4, .bipush 24] mkX8_sheet (by decide +kernel) rfl rfl ?_
              refine p_icmp_ge (off := 22) 92 (by decide +kernel) (by decide) (fun c2 => ?_) (fun c2 => ?_)
              · exact False.elim (by rw [oI, nI_leI (by omega) (by omega)] at c2; omega)
              · refine p_run (pc' := 85) [.aload_n 0, .getfield 54, .bipush 24, .iload_n 1, .imul, .iload 4, .iadd, .iconst 0] mkX8_sheet (by decide +kernel) rfl rfl ?_
                refine p_iast (24 * s + i) (by decide +kernel) rfl rfl (by simp only [oI, nIm, nI_add]) (by omega)  ?_
                refine p_run (pc' := 66) [.iinc 4 1, .goto (-23)] mkX8_sheet (by decide +kernel) rfl rfl ?_
                exact ih _ _ ⟨by rw [show nI i + Int32.ofInt 1 = nI (i + 1) by simp only [oI, nI_add]], by rw [up_up97, wr_wr, wrS, ← splS, oI]⟩
            · rintro L hh ⟨rfl, hJ⟩
              rw [hJ]
              refine p_run (pc' := 70) [.iload 4, .bipush 24] mkX8_sheet (by decide +kernel) rfl rfl ?_
              refine p_icmp_ge (off := 22) 92 (by decide +kernel) (by decide) (fun c2 => ?_) (fun c2 => ?_)
              · refine p_run (pc' := 97) [.aload_n 0, .getfield 51, .iload_n 1] mkX8_sheet (by decide +kernel) rfl rfl ?_
                refine p_iald (s) (by decide +kernel) rfl rfl rfl (by omega) ?_
                refine p_iret rfl rfl (by decide +kernel) ?_
                exact ⟨by rw [wrN (by decide), ← e2, upS, upd_s], by rw [← e2, upN (by decide), upN (by decide)]⟩
              · exact False.elim (by revert c2; decide)
            · exact ⟨rfl, by rw [spl0, wr_self]⟩
        · refine p_run (pc' := 34) [.iload_n 3] mkX8_sheet (by decide +kernel) rfl rfl ?_
          refine p_if_ge (off := 7) 41 (by decide +kernel) (by decide) (fun c34 => ?_) (fun c34 => ?_)
          · refine p_run (pc' := 47) [.aload_n 0, .getfield 48, .iload_n 1, .iload_n 2] mkX8_sheet (by decide +kernel) rfl rfl ?_
            refine p_iast (s) (by decide +kernel) rfl rfl rfl (by omega)  ?_
            refine p_run (pc' := 54) [.aload_n 0, .getfield 51, .iload_n 1, .iload_n 2] mkX8_sheet (by decide +kernel) rfl rfl ?_
            refine p_if_ge (off := 7) 61 (by decide +kernel) (by decide) (fun c54 => ?_) (fun c54 => ?_)
            · refine p_run (pc' := 62) [.iload_n 3] mkX8_sheet (by decide +kernel) rfl rfl ?_
              refine Wp.eqS (st' := [.int (if b < 0 then nI 0 else n), .int (nI s), .ref 110]) (by first | rw [if_pos (Int32.not_le.mp c54)]; rfl | rw [if_neg (Int32.not_lt.mpr c54)]) ?_
              refine p_iast (s) (by decide +kernel) rfl rfl rfl (by omega)  ?_
              refine p_run (pc' := 66) [.iconst 0, .istore 4] mkX8_sheet (by decide +kernel) rfl rfl ?_
              generalize e2 : up (up h 109 s b) 110 s _ = h2
              refine Wp.for (24) (fun i L hh => L = [some (.ref 96), some (.int (nI s)), some (.int b), some (.int n), some (.int (nI i))] ∧ hh = wr h2 111 (spl (h2 111) (24 * s) i (fun _ => nI 0))) ?_ ?_ (0) (by omega) _ _ ?_
              · rintro i L hh hi ⟨rfl, hJ⟩ ih
                rw [hJ]
                refine p_run (pc' := 70) [.iload 4, .bipush 24] mkX8_sheet (by decide +kernel) rfl rfl ?_
                refine p_icmp_ge (off := 22) 92 (by decide +kernel) (by decide) (fun c2 => ?_) (fun c2 => ?_)
                · exact False.elim (by rw [oI, nI_leI (by omega) (by omega)] at c2; omega)
                · refine p_run (pc' := 85) [.aload_n 0, .getfield 54, .bipush 24, .iload_n 1, .imul, .iload 4, .iadd, .iconst 0] mkX8_sheet (by decide +kernel) rfl rfl ?_
                  refine p_iast (24 * s + i) (by decide +kernel) rfl rfl (by simp only [oI, nIm, nI_add]) (by omega)  ?_
                  refine p_run (pc' := 66) [.iinc 4 1, .goto (-23)] mkX8_sheet (by decide +kernel) rfl rfl ?_
                  exact ih _ _ ⟨by rw [show nI i + Int32.ofInt 1 = nI (i + 1) by simp only [oI, nI_add]], by rw [up_up97, wr_wr, wrS, ← splS, oI]⟩
              · rintro L hh ⟨rfl, hJ⟩
                rw [hJ]
                refine p_run (pc' := 70) [.iload 4, .bipush 24] mkX8_sheet (by decide +kernel) rfl rfl ?_
                refine p_icmp_ge (off := 22) 92 (by decide +kernel) (by decide) (fun c2 => ?_) (fun c2 => ?_)
                · refine p_run (pc' := 97) [.aload_n 0, .getfield 51, .iload_n 1] mkX8_sheet (by decide +kernel) rfl rfl ?_
                  refine p_iald (s) (by decide +kernel) rfl rfl rfl (by omega) ?_
                  refine p_iret rfl rfl (by decide +kernel) ?_
                  exact ⟨by rw [wrN (by decide), ← e2, upS, upd_s], by rw [← e2, upN (by decide), upN (by decide)]⟩
                · exact False.elim (by revert c2; decide)
              · exact ⟨rfl, by rw [spl0, wr_self]⟩
            · refine p_run (pc' := 62) [.iconst 0, .goto 4] mkX8_sheet (by decide +kernel) rfl rfl ?_
              refine Wp.eqS (st' := [.int (if b < 0 then nI 0 else n), .int (nI s), .ref 110]) (by first | rw [if_pos (Int32.not_le.mp c54)]; rfl | rw [if_neg (Int32.not_lt.mpr c54)]) ?_
              refine p_iast (s) (by decide +kernel) rfl rfl rfl (by omega)  ?_
              refine p_run (pc' := 66) [.iconst 0, .istore 4] mkX8_sheet (by decide +kernel) rfl rfl ?_
              generalize e2 : up (up h 109 s b) 110 s _ = h2
              refine Wp.for (24) (fun i L hh => L = [some (.ref 96), some (.int (nI s)), some (.int b), some (.int n), some (.int (nI i))] ∧ hh = wr h2 111 (spl (h2 111) (24 * s) i (fun _ => nI 0))) ?_ ?_ (0) (by omega) _ _ ?_
              · rintro i L hh hi ⟨rfl, hJ⟩ ih
                rw [hJ]
                refine p_run (pc' := 70) [.iload 4, .bipush 24] mkX8_sheet (by decide +kernel) rfl rfl ?_
                refine p_icmp_ge (off := 22) 92 (by decide +kernel) (by decide) (fun c2 => ?_) (fun c2 => ?_)
                · exact False.elim (by rw [oI, nI_leI (by omega) (by omega)] at c2; omega)
                · refine p_run (pc' := 85) [.aload_n 0, .getfield 54, .bipush 24, .iload_n 1, .imul, .iload 4, .iadd, .iconst 0] mkX8_sheet (by decide +kernel) rfl rfl ?_
                  refine p_iast (24 * s + i) (by decide +kernel) rfl rfl (by simp only [oI, nIm, nI_add]) (by omega)  ?_
                  refine p_run (pc' := 66) [.iinc 4 1, .goto (-23)] mkX8_sheet (by decide +kernel) rfl rfl ?_
                  exact ih _ _ ⟨by rw [show nI i + Int32.ofInt 1 = nI (i + 1) by simp only [oI, nI_add]], by rw [up_up97, wr_wr, wrS, ← splS, oI]⟩
              · rintro L hh ⟨rfl, hJ⟩
                rw [hJ]
                refine p_run (pc' := 70) [.iload 4, .bipush 24] mkX8_sheet (by decide +kernel) rfl rfl ?_
                refine p_icmp_ge (off := 22) 92 (by decide +kernel) (by decide) (fun c2 => ?_) (fun c2 => ?_)
                · refine p_run (pc' := 97) [.aload_n 0, .getfield 51, .iload_n 1] mkX8_sheet (by decide +kernel) rfl rfl ?_
                  refine p_iald (s) (by decide +kernel) rfl rfl rfl (by omega) ?_
                  refine p_iret rfl rfl (by decide +kernel) ?_
                  exact ⟨by rw [wrN (by decide), ← e2, upS, upd_s], by rw [← e2, upN (by decide), upN (by decide)]⟩
                · exact False.elim (by revert c2; decide)
              · exact ⟨rfl, by rw [spl0, wr_self]⟩
          · exact absurd (Int32.not_lt.mp (fun q => hn ⟨Int32.not_lt.mp c30, q⟩)) c34
      · refine p_run (pc' := 23) [.iload_n 3, .bipush 24] mkX8_sheet (by decide +kernel) rfl rfl ?_
        refine p_icmp_le (off := 6) 29 (by decide +kernel) (by decide) (fun c23 => ?_) (fun c23 => ?_)
        · refine p_run (pc' := 30) [.iload_n 2] mkX8_sheet (by decide +kernel) rfl rfl ?_
          refine p_if_lt (off := 11) 41 (by decide +kernel) (by decide) (fun c30 => ?_) (fun c30 => ?_)
          · refine p_run (pc' := 47) [.aload_n 0, .getfield 48, .iload_n 1, .iload_n 2] mkX8_sheet (by decide +kernel) rfl rfl ?_
            refine p_iast (s) (by decide +kernel) rfl rfl rfl (by omega)  ?_
            refine p_run (pc' := 54) [.aload_n 0, .getfield 51, .iload_n 1, .iload_n 2] mkX8_sheet (by decide +kernel) rfl rfl ?_
            refine p_if_ge (off := 7) 61 (by decide +kernel) (by decide) (fun c54 => ?_) (fun c54 => ?_)
            · refine p_run (pc' := 62) [.iload_n 3] mkX8_sheet (by decide +kernel) rfl rfl ?_
              refine Wp.eqS (st' := [.int (if b < 0 then nI 0 else n), .int (nI s), .ref 110]) (by first | rw [if_pos (Int32.not_le.mp c54)]; rfl | rw [if_neg (Int32.not_lt.mpr c54)]) ?_
              refine p_iast (s) (by decide +kernel) rfl rfl rfl (by omega)  ?_
              refine p_run (pc' := 66) [.iconst 0, .istore 4] mkX8_sheet (by decide +kernel) rfl rfl ?_
              generalize e2 : up (up h 109 s b) 110 s _ = h2
              refine Wp.for (24) (fun i L hh => L = [some (.ref 96), some (.int (nI s)), some (.int b), some (.int n), some (.int (nI i))] ∧ hh = wr h2 111 (spl (h2 111) (24 * s) i (fun _ => nI 0))) ?_ ?_ (0) (by omega) _ _ ?_
              · rintro i L hh hi ⟨rfl, hJ⟩ ih
                rw [hJ]
                refine p_run (pc' := 70) [.iload 4, .bipush 24] mkX8_sheet (by decide +kernel) rfl rfl ?_
                refine p_icmp_ge (off := 22) 92 (by decide +kernel) (by decide) (fun c2 => ?_) (fun c2 => ?_)
                · exact False.elim (by rw [oI, nI_leI (by omega) (by omega)] at c2; omega)
                · refine p_run (pc' := 85) [.aload_n 0, .getfield 54, .bipush 24, .iload_n 1, .imul, .iload 4, .iadd, .iconst 0] mkX8_sheet (by decide +kernel) rfl rfl ?_
                  refine p_iast (24 * s + i) (by decide +kernel) rfl rfl (by simp only [oI, nIm, nI_add]) (by omega)  ?_
                  refine p_run (pc' := 66) [.iinc 4 1, .goto (-23)] mkX8_sheet (by decide +kernel) rfl rfl ?_
                  exact ih _ _ ⟨by rw [show nI i + Int32.ofInt 1 = nI (i + 1) by simp only [oI, nI_add]], by rw [up_up97, wr_wr, wrS, ← splS, oI]⟩
              · rintro L hh ⟨rfl, hJ⟩
                rw [hJ]
                refine p_run (pc' := 70) [.iload 4, .bipush 24] mkX8_sheet (by decide +kernel) rfl rfl ?_
                refine p_icmp_ge (off := 22) 92 (by decide +kernel) (by decide) (fun c2 => ?_) (fun c2 => ?_)
                · refine p_run (pc' := 97) [.aload_n 0, .getfield 51, .iload_n 1] mkX8_sheet (by decide +kernel) rfl rfl ?_
                  refine p_iald (s) (by decide +kernel) rfl rfl rfl (by omega) ?_
                  refine p_iret rfl rfl (by decide +kernel) ?_
                  exact ⟨by rw [wrN (by decide), ← e2, upS, upd_s], by rw [← e2, upN (by decide), upN (by decide)]⟩
                · exact False.elim (by revert c2; decide)
              · exact ⟨rfl, by rw [spl0, wr_self]⟩
            · refine p_run (pc' := 62) [.iconst 0, .goto 4] mkX8_sheet (by decide +kernel) rfl rfl ?_
              refine Wp.eqS (st' := [.int (if b < 0 then nI 0 else n), .int (nI s), .ref 110]) (by first | rw [if_pos (Int32.not_le.mp c54)]; rfl | rw [if_neg (Int32.not_lt.mpr c54)]) ?_
              refine p_iast (s) (by decide +kernel) rfl rfl rfl (by omega)  ?_
              refine p_run (pc' := 66) [.iconst 0, .istore 4] mkX8_sheet (by decide +kernel) rfl rfl ?_
              generalize e2 : up (up h 109 s b) 110 s _ = h2
              refine Wp.for (24) (fun i L hh => L = [some (.ref 96), some (.int (nI s)), some (.int b), some (.int n), some (.int (nI i))] ∧ hh = wr h2 111 (spl (h2 111) (24 * s) i (fun _ => nI 0))) ?_ ?_ (0) (by omega) _ _ ?_
              · rintro i L hh hi ⟨rfl, hJ⟩ ih
                rw [hJ]
                refine p_run (pc' := 70) [.iload 4, .bipush 24] mkX8_sheet (by decide +kernel) rfl rfl ?_
                refine p_icmp_ge (off := 22) 92 (by decide +kernel) (by decide) (fun c2 => ?_) (fun c2 => ?_)
                · exact False.elim (by rw [oI, nI_leI (by omega) (by omega)] at c2; omega)
                · refine p_run (pc' := 85) [.aload_n 0, .getfield 54, .bipush 24, .iload_n 1, .imul, .iload 4, .iadd, .iconst 0] mkX8_sheet (by decide +kernel) rfl rfl ?_
                  refine p_iast (24 * s + i) (by decide +kernel) rfl rfl (by simp only [oI, nIm, nI_add]) (by omega)  ?_
                  refine p_run (pc' := 66) [.iinc 4 1, .goto (-23)] mkX8_sheet (by decide +kernel) rfl rfl ?_
                  exact ih _ _ ⟨by rw [show nI i + Int32.ofInt 1 = nI (i + 1) by simp only [oI, nI_add]], by rw [up_up97, wr_wr, wrS, ← splS, oI]⟩
              · rintro L hh ⟨rfl, hJ⟩
                rw [hJ]
                refine p_run (pc' := 70) [.iload 4, .bipush 24] mkX8_sheet (by decide +kernel) rfl rfl ?_
                refine p_icmp_ge (off := 22) 92 (by decide +kernel) (by decide) (fun c2 => ?_) (fun c2 => ?_)
                · refine p_run (pc' := 97) [.aload_n 0, .getfield 51, .iload_n 1] mkX8_sheet (by decide +kernel) rfl rfl ?_
                  refine p_iald (s) (by decide +kernel) rfl rfl rfl (by omega) ?_
                  refine p_iret rfl rfl (by decide +kernel) ?_
                  exact ⟨by rw [wrN (by decide), ← e2, upS, upd_s], by rw [← e2, upN (by decide), upN (by decide)]⟩
                · exact False.elim (by revert c2; decide)
              · exact ⟨rfl, by rw [spl0, wr_self]⟩
          · refine p_run (pc' := 34) [.iload_n 3] mkX8_sheet (by decide +kernel) rfl rfl ?_
            refine p_if_ge (off := 7) 41 (by decide +kernel) (by decide) (fun c34 => ?_) (fun c34 => ?_)
            · refine p_run (pc' := 47) [.aload_n 0, .getfield 48, .iload_n 1, .iload_n 2] mkX8_sheet (by decide +kernel) rfl rfl ?_
              refine p_iast (s) (by decide +kernel) rfl rfl rfl (by omega)  ?_
              refine p_run (pc' := 54) [.aload_n 0, .getfield 51, .iload_n 1, .iload_n 2] mkX8_sheet (by decide +kernel) rfl rfl ?_
              refine p_if_ge (off := 7) 61 (by decide +kernel) (by decide) (fun c54 => ?_) (fun c54 => ?_)
              · refine p_run (pc' := 62) [.iload_n 3] mkX8_sheet (by decide +kernel) rfl rfl ?_
                refine Wp.eqS (st' := [.int (if b < 0 then nI 0 else n), .int (nI s), .ref 110]) (by first | rw [if_pos (Int32.not_le.mp c54)]; rfl | rw [if_neg (Int32.not_lt.mpr c54)]) ?_
                refine p_iast (s) (by decide +kernel) rfl rfl rfl (by omega)  ?_
                refine p_run (pc' := 66) [.iconst 0, .istore 4] mkX8_sheet (by decide +kernel) rfl rfl ?_
                generalize e2 : up (up h 109 s b) 110 s _ = h2
                refine Wp.for (24) (fun i L hh => L = [some (.ref 96), some (.int (nI s)), some (.int b), some (.int n), some (.int (nI i))] ∧ hh = wr h2 111 (spl (h2 111) (24 * s) i (fun _ => nI 0))) ?_ ?_ (0) (by omega) _ _ ?_
                · rintro i L hh hi ⟨rfl, hJ⟩ ih
                  rw [hJ]
                  refine p_run (pc' := 70) [.iload 4, .bipush 24] mkX8_sheet (by decide +kernel) rfl rfl ?_
                  refine p_icmp_ge (off := 22) 92 (by decide +kernel) (by decide) (fun c2 => ?_) (fun c2 => ?_)
                  · exact False.elim (by rw [oI, nI_leI (by omega) (by omega)] at c2; omega)
                  · refine p_run (pc' := 85) [.aload_n 0, .getfield 54, .bipush 24, .iload_n 1, .imul, .iload 4, .iadd, .iconst 0] mkX8_sheet (by decide +kernel) rfl rfl ?_
                    refine p_iast (24 * s + i) (by decide +kernel) rfl rfl (by simp only [oI, nIm, nI_add]) (by omega)  ?_
                    refine p_run (pc' := 66) [.iinc 4 1, .goto (-23)] mkX8_sheet (by decide +kernel) rfl rfl ?_
                    exact ih _ _ ⟨by rw [show nI i + Int32.ofInt 1 = nI (i + 1) by simp only [oI, nI_add]], by rw [up_up97, wr_wr, wrS, ← splS, oI]⟩
                · rintro L hh ⟨rfl, hJ⟩
                  rw [hJ]
                  refine p_run (pc' := 70) [.iload 4, .bipush 24] mkX8_sheet (by decide +kernel) rfl rfl ?_
                  refine p_icmp_ge (off := 22) 92 (by decide +kernel) (by decide) (fun c2 => ?_) (fun c2 => ?_)
                  · refine p_run (pc' := 97) [.aload_n 0, .getfield 51, .iload_n 1] mkX8_sheet (by decide +kernel) rfl rfl ?_
                    refine p_iald (s) (by decide +kernel) rfl rfl rfl (by omega) ?_
                    refine p_iret rfl rfl (by decide +kernel) ?_
                    exact ⟨by rw [wrN (by decide), ← e2, upS, upd_s], by rw [← e2, upN (by decide), upN (by decide)]⟩
                  · exact False.elim (by revert c2; decide)
                · exact ⟨rfl, by rw [spl0, wr_self]⟩
              · refine p_run (pc' := 62) [.iconst 0, .goto 4] mkX8_sheet (by decide +kernel) rfl rfl ?_
                refine Wp.eqS (st' := [.int (if b < 0 then nI 0 else n), .int (nI s), .ref 110]) (by first | rw [if_pos (Int32.not_le.mp c54)]; rfl | rw [if_neg (Int32.not_lt.mpr c54)]) ?_
                refine p_iast (s) (by decide +kernel) rfl rfl rfl (by omega)  ?_
                refine p_run (pc' := 66) [.iconst 0, .istore 4] mkX8_sheet (by decide +kernel) rfl rfl ?_
                generalize e2 : up (up h 109 s b) 110 s _ = h2
                refine Wp.for (24) (fun i L hh => L = [some (.ref 96), some (.int (nI s)), some (.int b), some (.int n), some (.int (nI i))] ∧ hh = wr h2 111 (spl (h2 111) (24 * s) i (fun _ => nI 0))) ?_ ?_ (0) (by omega) _ _ ?_
                · rintro i L hh hi ⟨rfl, hJ⟩ ih
                  rw [hJ]
                  refine p_run (pc' := 70) [.iload 4, .bipush 24] mkX8_sheet (by decide +kernel) rfl rfl ?_
                  refine p_icmp_ge (off := 22) 92 (by decide +kernel) (by decide) (fun c2 => ?_) (fun c2 => ?_)
                  · exact False.elim (by rw [oI, nI_leI (by omega) (by omega)] at c2; omega)
                  · refine p_run (pc' := 85) [.aload_n 0, .getfield 54, .bipush 24, .iload_n 1, .imul, .iload 4, .iadd, .iconst 0] mkX8_sheet (by decide +kernel) rfl rfl ?_
                    refine p_iast (24 * s + i) (by decide +kernel) rfl rfl (by simp only [oI, nIm, nI_add]) (by omega)  ?_
                    refine p_run (pc' := 66) [.iinc 4 1, .goto (-23)] mkX8_sheet (by decide +kernel) rfl rfl ?_
                    exact ih _ _ ⟨by rw [show nI i + Int32.ofInt 1 = nI (i + 1) by simp only [oI, nI_add]], by rw [up_up97, wr_wr, wrS, ← splS, oI]⟩
                · rintro L hh ⟨rfl, hJ⟩
                  rw [hJ]
                  refine p_run (pc' := 70) [.iload 4, .bipush 24] mkX8_sheet (by decide +kernel) rfl rfl ?_
                  refine p_icmp_ge (off := 22) 92 (by decide +kernel) (by decide) (fun c2 => ?_) (fun c2 => ?_)
                  · refine p_run (pc' := 97) [.aload_n 0, .getfield 51, .iload_n 1] mkX8_sheet (by decide +kernel) rfl rfl ?_
                    refine p_iald (s) (by decide +kernel) rfl rfl rfl (by omega) ?_
                    refine p_iret rfl rfl (by decide +kernel) ?_
                    exact ⟨by rw [wrN (by decide), ← e2, upS, upd_s], by rw [← e2, upN (by decide), upN (by decide)]⟩
                  · exact False.elim (by revert c2; decide)
                · exact ⟨rfl, by rw [spl0, wr_self]⟩
            · exact absurd (Int32.not_lt.mp (fun q => hn ⟨Int32.not_lt.mp c30, q⟩)) c34
        · exact absurd (hb.2.2.resolve_left c17) c23
set_option maxRecDepth 20000 in
set_option maxHeartbeats 4000000 in
theorem r_mark_bad (w : Wt) {k : Nat} (hk : 2 ≤ k) (a b c : Int32) (h : Mm) (hb : ¬ inR a 0 3) : Ok w k MX8_mark [.ref 96, .int a, .int b, .int c] h (Rv BADv h) := by
  show Wp w k MX8_mark _ 0 [some (.ref 96), some (.int a), some (.int b), some (.int c)] [] h
  refine p_run (pc' := 1) [.iload_n 1] mkX8_mark (by decide +kernel) rfl rfl ?_
  refine p_callSv (risSheet_ok w (k := k - 1) (by omega) _ _) ksX8_206 (by decide +kernel) (by omega) rfl rfl rfl rfl rfl ?_
  refine p_if_ne (off := 6) 10 (by decide +kernel) (by decide) (fun c4 => ?_) (fun c4 => ?_)
  · have c4 := bI1.mp c4
    exact absurd c4 hb
  · have c4 := bI0.mp c4
    refine p_run (pc' := 9) [.ldc 123] mkX8_mark (by decide +kernel) rfl rfl ?_
    refine p_iret rfl rfl (by decide +kernel) ?_
    exact ⟨rfl, rfl⟩
def mkQ (h : Mm) (s : Nat) (pl v : Int32) : Option Value → Mm → Prop :=
  if h 109 s < 0 then Rv NOTHINGv h else if nI 0 ≤ pl ∧ pl ≤ h 110 s - nI 1 then
    (if h 109 s = 0 then (if v = NONEv then Rv KINDv h else Rv (nI 1) (up h 111 (24 * s + nN pl) (v.toInt16.toInt32)))
     else (if v = NONEv then Rv (nI 1) (up h 111 (24 * s + nN pl) v) else if Int32.ofInt (-99999) ≤ v ∧ v ≤ nI 99999 then Rv (nI 1) (up h 111 (24 * s + nN pl) v) else Rv BADv h))
  else Rv INDEXv h
theorem pl_of {x sz : Int32} (hz : In sz 24) (h : nI 0 ≤ x ∧ x ≤ sz - nI 1) : ∃ j, j < nN sz ∧ x = nI j := by
  have h2 := hz.2
  rcases Nat.eq_zero_or_pos (nN sz) with h0 | h0
  · rw [hz.1, h0] at h
    have h3 : nI 0 ≤ nI 0 - nI 1 := Int32.le_trans h.1 h.2
    exact absurd h3 (by decide)
  · have h3 : x ≤ nI (nN sz - 1) := by
      have := h.2
      rw [hz.1, nIs (by omega)] at this
      exact this
    obtain ⟨j, -, hj, rfl⟩ := inR_of (lo := 0) (hi := nN sz - 1) (by omega) (by omega) ⟨h.1, h3⟩
    exact ⟨j, by omega, rfl⟩
set_option maxRecDepth 20000 in
set_option maxHeartbeats 4000000 in
theorem r_mark (w : Wt) {k : Nat} (hk : 2 ≤ k) (s : Nat) (hs : s < 4) (pl v : Int32) (h : Mm) (hz : In (h 110 s) 24) (ho : h 109 s = Int32.ofInt (-1) ∨ h 109 s = nI 0 ∨ h 109 s = nI 1) : Ok w k MX8_mark [.ref 96, .int (nI s), .int pl, .int v] h (mkQ h s pl v) := by
  show Wp w k MX8_mark _ 0 [some (.ref 96), some (.int (nI s)), some (.int pl), some (.int v)] [] h
  refine p_run (pc' := 1) [.iload_n 1] mkX8_mark (by decide +kernel) rfl rfl ?_
  refine p_callSv (isSheet_t w (k := k - 1) (by omega) _ _ (in_nI (lo := 0) (hi := 3) (by omega) (Nat.le_of_lt_succ hs) (by omega))) ksX8_206 (by decide +kernel) (by omega) rfl rfl rfl rfl rfl ?_
  refine p_if_ne (off := 6) 10 (by decide +kernel) (by decide) (fun c4 => ?_) (fun c4 => ?_)
  · refine p_run (pc' := 15) [.aload_n 0, .getfield 48, .iload_n 1] mkX8_mark (by decide +kernel) rfl rfl ?_
    refine p_iald (s) (by decide +kernel) rfl rfl (by first | rfl | simp only [oI]) (by omega) ?_
    refine p_if_ge (off := 6) 22 (by decide +kernel) (by decide) (fun c16 => ?_) (fun c16 => ?_)
    · refine p_run (pc' := 29) [.iload_n 2, .iconst 0, .aload_n 0, .getfield 51, .iload_n 1] mkX8_mark (by decide +kernel) rfl rfl ?_
      refine p_iald (s) (by decide +kernel) rfl rfl (by first | rfl | simp only [oI]) (by omega) ?_
      refine p_run (pc' := 32) [.iconst 1, .isub] mkX8_mark (by decide +kernel) rfl rfl ?_
      refine p_callSv (in_ok w (k := k - 1) _ _ _ _) ksX8_75 (by decide +kernel) (by omega) rfl rfl rfl rfl rfl ?_
      refine p_if_ne (off := 7) 42 (by decide +kernel) (by decide) (fun c35 => ?_) (fun c35 => ?_)
      · have c35 := bI1.mp c35
        refine p_run (pc' := 47) [.aload_n 0, .getfield 48, .iload_n 1] mkX8_mark (by decide +kernel) rfl rfl ?_
        refine p_iald (s) (by decide +kernel) rfl rfl (by first | rfl | simp only [oI]) (by omega) ?_
        refine p_if_ne (off := 12) 60 (by decide +kernel) (by decide) (fun c48 => ?_) (fun c48 => ?_)
        · refine p_run (pc' := 65) [.aload_n 0, .getfield 48, .iload_n 1] mkX8_mark (by decide +kernel) rfl rfl ?_
          refine p_iald (s) (by decide +kernel) rfl rfl (by first | rfl | simp only [oI]) (by omega) ?_
          refine p_run (pc' := 67) [.iconst 1] mkX8_mark (by decide +kernel) rfl rfl ?_
          refine p_icmp_ne (off := 25) 92 (by decide +kernel) (by decide) (fun c67 => ?_) (fun c67 => ?_)
          · exact absurd ((ho.resolve_left (fun q => absurd c16 (by rw [q]; decide))).resolve_left c48) c67
          · refine p_run (pc' := 73) [.iload_n 3, .ldc 195] mkX8_mark (by decide +kernel) rfl rfl ?_
            refine p_icmp_eq (off := 19) 92 (by decide +kernel) (by decide) (fun c73 => ?_) (fun c73 => ?_)
            · refine p_run (pc' := 107) [.aload_n 0, .getfield 54, .bipush 24, .iload_n 1, .imul, .iload_n 2, .iadd, .aload_n 0, .getfield 48, .iload_n 1] mkX8_mark (by decide +kernel) rfl rfl ?_
              refine p_iald (s) (by decide +kernel) rfl rfl (by first | rfl | simp only [oI]) (by omega) ?_
              refine p_if_ne (off := 8) 116 (by decide +kernel) (by decide) (fun c108 => ?_) (fun c108 => ?_)
              · refine p_run (pc' := 117) [.iload_n 3] mkX8_mark (by decide +kernel) rfl rfl ?_
                obtain ⟨j, hj, hj2⟩ := pl_of hz c35
                have hz2 := hz.2
                subst hj2
                refine p_iast (24 * s + j) (by decide +kernel) rfl rfl (by simp only [oI, nIm, nI_add]) (by omega)  ?_
                refine p_run (pc' := 119) [.iconst 1] mkX8_mark (by decide +kernel) rfl rfl ?_
                refine p_iret rfl rfl (by decide +kernel) ?_
                unfold mkQ; exact iF (Int32.not_lt.mpr c16) (iT c35 (iF c48 (iT c73 (⟨rfl, by rw [nN_nI (by omega)]⟩))))
              · exact absurd c108 c48
            · refine p_run (pc' := 83) [.iload_n 3, .ldc_w 283, .ldc_w 284] mkX8_mark (by decide +kernel) rfl rfl ?_
              refine p_callSv (in_ok w (k := k - 1) _ _ _ _) ksX8_75 (by decide +kernel) (by omega) rfl rfl rfl rfl rfl ?_
              refine p_if_ne (off := 6) 92 (by decide +kernel) (by decide) (fun c86 => ?_) (fun c86 => ?_)
              · have c86 := bI1.mp c86
                refine p_run (pc' := 107) [.aload_n 0, .getfield 54, .bipush 24, .iload_n 1, .imul, .iload_n 2, .iadd, .aload_n 0, .getfield 48, .iload_n 1] mkX8_mark (by decide +kernel) rfl rfl ?_
                refine p_iald (s) (by decide +kernel) rfl rfl (by first | rfl | simp only [oI]) (by omega) ?_
                refine p_if_ne (off := 8) 116 (by decide +kernel) (by decide) (fun c108 => ?_) (fun c108 => ?_)
                · refine p_run (pc' := 117) [.iload_n 3] mkX8_mark (by decide +kernel) rfl rfl ?_
                  obtain ⟨j, hj, hj2⟩ := pl_of hz c35
                  have hz2 := hz.2
                  subst hj2
                  refine p_iast (24 * s + j) (by decide +kernel) rfl rfl (by simp only [oI, nIm, nI_add]) (by omega)  ?_
                  refine p_run (pc' := 119) [.iconst 1] mkX8_mark (by decide +kernel) rfl rfl ?_
                  refine p_iret rfl rfl (by decide +kernel) ?_
                  unfold mkQ; exact iF (Int32.not_lt.mpr c16) (iT c35 (iF c48 (iF c73 (iT c86 (⟨rfl, by rw [nN_nI (by omega)]⟩)))))
                · exact absurd c108 c48
              · have c86 := bI0.mp c86
                refine p_run (pc' := 91) [.ldc 123] mkX8_mark (by decide +kernel) rfl rfl ?_
                refine p_iret rfl rfl (by decide +kernel) ?_
                unfold mkQ; exact iF (Int32.not_lt.mpr c16) (iT c35 (iF c48 (iF c73 (iF c86 (⟨rfl, rfl⟩)))))
        · refine p_run (pc' := 54) [.iload_n 3, .ldc 195] mkX8_mark (by decide +kernel) rfl rfl ?_
          refine p_icmp_ne (off := 6) 60 (by decide +kernel) (by decide) (fun c54 => ?_) (fun c54 => ?_)
          · refine p_run (pc' := 65) [.aload_n 0, .getfield 48, .iload_n 1] mkX8_mark (by decide +kernel) rfl rfl ?_
            refine p_iald (s) (by decide +kernel) rfl rfl (by first | rfl | simp only [oI]) (by omega) ?_
            refine p_run (pc' := 67) [.iconst 1] mkX8_mark (by decide +kernel) rfl rfl ?_
            refine p_icmp_ne (off := 25) 92 (by decide +kernel) (by decide) (fun c67 => ?_) (fun c67 => ?_)
            · refine p_run (pc' := 107) [.aload_n 0, .getfield 54, .bipush 24, .iload_n 1, .imul, .iload_n 2, .iadd, .aload_n 0, .getfield 48, .iload_n 1] mkX8_mark (by decide +kernel) rfl rfl ?_
              refine p_iald (s) (by decide +kernel) rfl rfl (by first | rfl | simp only [oI]) (by omega) ?_
              refine p_if_ne (off := 8) 116 (by decide +kernel) (by decide) (fun c108 => ?_) (fun c108 => ?_)
              · exact absurd c48 c108
              · refine p_run (pc' := 117) [.iload_n 3, .i2s, .goto 4] mkX8_mark (by decide +kernel) rfl rfl ?_
                obtain ⟨j, hj, hj2⟩ := pl_of hz c35
                have hz2 := hz.2
                subst hj2
                refine p_iast (24 * s + j) (by decide +kernel) rfl rfl (by simp only [oI, nIm, nI_add]) (by omega)  ?_
                refine p_run (pc' := 119) [.iconst 1] mkX8_mark (by decide +kernel) rfl rfl ?_
                refine p_iret rfl rfl (by decide +kernel) ?_
                unfold mkQ; exact iF (Int32.not_lt.mpr c16) (iT c35 (iT c48 (iF c54 (⟨rfl, by rw [nN_nI (by omega)]⟩))))
            · exact absurd (c48.symm.trans c67) (by decide)
          · refine p_run (pc' := 59) [.ldc 145] mkX8_mark (by decide +kernel) rfl rfl ?_
            refine p_iret rfl rfl (by decide +kernel) ?_
            unfold mkQ; exact iF (Int32.not_lt.mpr c16) (iT c35 (iT c48 (iT c54 (⟨rfl, rfl⟩))))
      · have c35 := bI0.mp c35
        refine p_run (pc' := 41) [.ldc_w 282] mkX8_mark (by decide +kernel) rfl rfl ?_
        refine p_iret rfl rfl (by decide +kernel) ?_
        unfold mkQ; exact iF (Int32.not_lt.mpr c16) (iF c35 (⟨rfl, rfl⟩))
    · refine p_run (pc' := 21) [.ldc 209] mkX8_mark (by decide +kernel) rfl rfl ?_
      refine p_iret rfl rfl (by decide +kernel) ?_
      unfold mkQ; exact iT (Int32.not_le.mp c16) (⟨rfl, rfl⟩)
  · exact False.elim (by revert c4; decide)
end
section
/-! the reference: pour, reads, copy, lay, ask, item, rest -/
def tpF (N : Vc) (c : Nat → Int32) (i : Nat) : Int32 := if c i = NONEv then dK N i 2 else clF (c i) (nI 0) (nI 99)
def poN (N : Vc) (c : Nat → Int32) : Nat → Vc
  | 0 => N
  | i + 1 => upd (poN N c i) (20 + 5 * i + 2) (tpF N c i)
theorem poN_out {N : Vc} {c : Nat → Int32} {j : Nat} : ∀ (i : Nat), (∀ d, d < i → j ≠ 20 + 5 * d + 2) → poN N c i j = N j
  | 0, _ => rfl
  | i + 1, h => by rw [poN, upd_n (h i (by omega)), poN_out i (fun d hd => h d (by omega))]
def pcB (N : Vc) (c : Nat → Int32) (i : Nat) : Bool := decide (¬ dK N i 2 = tpF N c i)
theorem pcB_iff {N : Vc} {c : Nat → Int32} {i : Nat} : pcB N c i = true ↔ ¬ dK N i 2 = tpF N c i := by unfold pcB; simp
def rdB (N : Vc) (c : Nat → Int32) (i : Nat) : Bool := decide (¬ c i = NONEv ∧ (¬ i < nd N ∨ ¬ c i = dK N i 3))
theorem rdB_iff {N : Vc} {c : Nat → Int32} {i : Nat} : rdB N c i = true ↔ (¬ c i = NONEv ∧ (¬ i < nd N ∨ ¬ c i = dK N i 3)) := by unfold rdB; exact decide_eq_true_iff
theorem isD_lt {N : Vc} {n i : Nat} (hn : N 1 = nI n) (hn2 : n ≤ 10) (hi : i < 100) : (nI 0 ≤ nI i ∧ nI i ≤ N 1 - nI 1) ↔ i < n := by
  constructor
  · intro h
    obtain ⟨d, hd, e⟩ := isD_of hn hn2 h
    have : i = d := (nI_eq (by omega) (by omega)).mp e
    omega
  · exact fun h => isD_nI hn h hn2
set_option maxRecDepth 20000 in
set_option maxHeartbeats 4000000 in
theorem r_pour_bad (w : Wt) {k : Nat} (hk : 2 ≤ k) (a : Int32) (h : Mm) (hb : ¬ inR a 0 3) : Ok w k MX8_pour [.ref 96, .int a] h (Rv BADv h) := by
  show Wp w k MX8_pour _ 0 [some (.ref 96), some (.int a), none, none, none, none] [] h
  refine p_run (pc' := 1) [.iload_n 1] mkX8_pour (by decide +kernel) rfl rfl ?_
  refine p_callSv (risSheet_ok w (k := k - 1) (by omega) _ _) ksX8_206 (by decide +kernel) (by omega) rfl rfl rfl rfl rfl ?_
  refine p_if_ne (off := 6) 10 (by decide +kernel) (by decide) (fun cq4 => ?_) (fun cq4 => ?_)
  · have cq4 := bI1.mp cq4
    exact absurd cq4 hb
  · have cq4 := bI0.mp cq4
    refine p_run (pc' := 9) [.ldc 123] mkX8_pour (by decide +kernel) rfl rfl ?_
    refine p_iret rfl rfl (by decide +kernel) ?_
    exact ⟨rfl, rfl⟩
set_option maxRecDepth 20000 in
set_option maxHeartbeats 4000000 in
theorem r_pour_no (w : Wt) {k : Nat} (hk : 2 ≤ k) (s : Nat) (hs : s < 4) (h : Mm) (hno : h 109 s < 0) : Ok w k MX8_pour [.ref 96, .int (nI s)] h (Rv NOTHINGv h) := by
  show Wp w k MX8_pour _ 0 [some (.ref 96), some (.int (nI s)), none, none, none, none] [] h
  refine p_run (pc' := 1) [.iload_n 1] mkX8_pour (by decide +kernel) rfl rfl ?_
  refine p_callSv (isSheet_t w (k := k - 1) (by omega) _ _ (in_nI (lo := 0) (hi := 3) (by omega) (Nat.le_of_lt_succ hs) (by omega))) ksX8_206 (by decide +kernel) (by omega) rfl rfl rfl rfl rfl ?_
  refine p_if_ne (off := 6) 10 (by decide +kernel) (by decide) (fun cq4 => ?_) (fun cq4 => ?_)
  · refine p_run (pc' := 15) [.aload_n 0, .getfield 48, .iload_n 1] mkX8_pour (by decide +kernel) rfl rfl ?_
    refine p_iald (s) (by decide +kernel) rfl rfl (by first | rfl | simp only [oI]) (by omega) ?_
    refine p_if_ge (off := 6) 22 (by decide +kernel) (by decide) (fun cq16 => ?_) (fun cq16 => ?_)
    · exact absurd cq16 (Int32.not_le.mpr hno)
    · refine p_run (pc' := 21) [.ldc 209] mkX8_pour (by decide +kernel) rfl rfl ?_
      refine p_iret rfl rfl (by decide +kernel) ?_
      exact ⟨rfl, rfl⟩
  · exact False.elim (by revert cq4; decide)
set_option maxRecDepth 20000 in
set_option maxHeartbeats 4000000 in
theorem r_reads_bad (w : Wt) {k : Nat} (hk : 2 ≤ k) (a : Int32) (h : Mm) (hb : ¬ inR a 0 3) : Ok w k MX8_reads [.ref 96, .int a] h (Rv BADv h) := by
  show Wp w k MX8_reads _ 0 [some (.ref 96), some (.int a), none, none] [] h
  refine p_run (pc' := 1) [.iload_n 1] mkX8_reads (by decide +kernel) rfl rfl ?_
  refine p_callSv (risSheet_ok w (k := k - 1) (by omega) _ _) ksX8_206 (by decide +kernel) (by omega) rfl rfl rfl rfl rfl ?_
  refine p_if_ne (off := 6) 10 (by decide +kernel) (by decide) (fun cq4 => ?_) (fun cq4 => ?_)
  · have cq4 := bI1.mp cq4
    exact absurd cq4 hb
  · have cq4 := bI0.mp cq4
    refine p_run (pc' := 9) [.ldc 123] mkX8_reads (by decide +kernel) rfl rfl ?_
    refine p_iret rfl rfl (by decide +kernel) ?_
    exact ⟨rfl, rfl⟩
set_option maxRecDepth 20000 in
set_option maxHeartbeats 4000000 in
theorem r_reads_no (w : Wt) {k : Nat} (hk : 2 ≤ k) (s : Nat) (hs : s < 4) (h : Mm) (hno : h 109 s < 0) : Ok w k MX8_reads [.ref 96, .int (nI s)] h (Rv NOTHINGv h) := by
  show Wp w k MX8_reads _ 0 [some (.ref 96), some (.int (nI s)), none, none] [] h
  refine p_run (pc' := 1) [.iload_n 1] mkX8_reads (by decide +kernel) rfl rfl ?_
  refine p_callSv (isSheet_t w (k := k - 1) (by omega) _ _ (in_nI (lo := 0) (hi := 3) (by omega) (Nat.le_of_lt_succ hs) (by omega))) ksX8_206 (by decide +kernel) (by omega) rfl rfl rfl rfl rfl ?_
  refine p_if_ne (off := 6) 10 (by decide +kernel) (by decide) (fun cq4 => ?_) (fun cq4 => ?_)
  · refine p_run (pc' := 15) [.aload_n 0, .getfield 48, .iload_n 1] mkX8_reads (by decide +kernel) rfl rfl ?_
    refine p_iald (s) (by decide +kernel) rfl rfl (by first | rfl | simp only [oI]) (by omega) ?_
    refine p_if_ge (off := 6) 22 (by decide +kernel) (by decide) (fun cq16 => ?_) (fun cq16 => ?_)
    · exact absurd cq16 (Int32.not_le.mpr hno)
    · refine p_run (pc' := 21) [.ldc 209] mkX8_reads (by decide +kernel) rfl rfl ?_
      refine p_iret rfl rfl (by decide +kernel) ?_
      exact ⟨rfl, rfl⟩
  · exact False.elim (by revert cq4; decide)
set_option maxRecDepth 20000 in
set_option maxHeartbeats 4000000 in
theorem r_pour (w : Wt) {k : Nat} (hk : 2 ≤ k) (s sz : Nat) (hs : s < 4) (hz : sz ≤ 24) (h : Mm) (hsz : h 110 s = nI sz) (hI : Iv (h 97)) (hy : ¬ h 109 s < 0) : Ok w k MX8_pour [.ref 96, .int (nI s)] h (fun r h' => r = some (.int (nI (cntF (pcB (h 97) (fun k => h 111 (24 * s + k))) (min sz (nd (h 97)))))) ∧ h' 97 = poN (h 97) (fun k => h 111 (24 * s + k)) (min sz (nd (h 97))) ∧ Ag [97] h h') := by
  show Wp w k MX8_pour _ 0 [some (.ref 96), some (.int (nI s)), none, none, none, none] [] h
  refine p_run (pc' := 1) [.iload_n 1] mkX8_pour (by decide +kernel) rfl rfl ?_
  refine p_callSv (isSheet_t w (k := k - 1) (by omega) _ _ (in_nI (lo := 0) (hi := 3) (by omega) (Nat.le_of_lt_succ hs) (by omega))) ksX8_206 (by decide +kernel) (by omega) rfl rfl rfl rfl rfl ?_
  refine p_if_ne (off := 6) 10 (by decide +kernel) (by decide) (fun cq4 => ?_) (fun cq4 => ?_)
  · refine p_run (pc' := 15) [.aload_n 0, .getfield 48, .iload_n 1] mkX8_pour (by decide +kernel) rfl rfl ?_
    refine p_iald (s) (by decide +kernel) rfl rfl (by first | rfl | simp only [oI]) (by omega) ?_
    refine p_if_ge (off := 6) 22 (by decide +kernel) (by decide) (fun cq16 => ?_) (fun cq16 => ?_)
    · have hn10 := hI.nd.2
      refine p_run (pc' := 26) [.iconst 0, .istore_n 2, .iconst 0, .istore_n 3] mkX8_pour (by decide +kernel) rfl rfl ?_
      refine Wp.for (min sz (nd (h 97))) (fun i L hh => ∃ (x4 x5 : Option Value), L = [some (.ref 96), some (.int (nI s)), some (.int (nI (cntF (pcB (h 97) (fun k => h 111 (24 * s + k))) i))), some (.int (nI i)), x4, x5] ∧ (hh 97 = poN (h 97) (fun k => h 111 (24 * s + k)) i ∧ Ag [97] h hh)) ?_ ?_ (0) (by omega) _ _ ?_
      · rintro i L hh hi ⟨x4, x5, rfl, hJ⟩ ih
        obtain ⟨e97, hA⟩ := hJ
        have e110 : hh 110 s = nI sz := by rw [hA 110 (by decide), hsz]
        have e111 : hh 111 = h 111 := hA 111 (by decide)
        have e1 : hh 97 1 = nI (nd (h 97)) := by rw [e97, poN_out _ (fun d hd => by omega)]; exact hI.nd.1
        have hn10 := hI.nd.2
        refine p_run (pc' := 32) [.iload_n 3, .aload_n 0, .getfield 51, .iload_n 1] mkX8_pour (by decide +kernel) rfl rfl ?_
        refine p_iald (s) (by decide +kernel) rfl rfl rfl hs ?_
        rw [e110]
        refine p_icmp_ge (off := 85) 118 (by decide +kernel) (by decide) (fun cq1 => ?_) (fun cq1 => ?_)
        · exact absurd cq1 (nI_ge (by omega) (by omega))
        · refine p_run (pc' := 42) [.iload_n 3, .aload_n 0, .getfield 9, .iconst 1] mkX8_pour (by decide +kernel) rfl rfl ?_
          refine p_iald (1) (by decide +kernel) rfl rfl (by simp only [oI]) (by omega) ?_
          rw [e1]
          refine p_icmp_ge (off := 75) 118 (by decide +kernel) (by decide) (fun cq2 => ?_) (fun cq2 => ?_)
          · exact absurd cq2 (nI_ge (by omega) (by omega))
          · refine p_run (pc' := 56) [.aload_n 0, .getfield 54, .bipush 24, .iload_n 1, .imul, .iload_n 3, .iadd] mkX8_pour (by decide +kernel) rfl rfl ?_
            refine p_iald (24 * s + i) (by decide +kernel) rfl rfl (by simp only [oI, nIm, nI_add]) (by omega) ?_
            rw [e111]
            refine p_run (pc' := 63) [.istore 4, .iload 4, .ldc 195] mkX8_pour (by decide +kernel) rfl rfl ?_
            refine p_icmp_ne (off := 12) 75 (by decide +kernel) (by decide) (fun cq3 => ?_) (fun cq3 => ?_)
            · have eto : tpF (h 97) (fun k => h 111 (24 * s + k)) i = clF (h 111 (24 * s + i)) (nI 0) (nI 99) := by
                unfold tpF; rw [if_neg cq3]
              have eold : hh 97 (20 + 5 * i + 2) = dK (h 97) i 2 := by rw [e97, poN_out _ (fun d hd => by omega)]; rfl
              refine p_run (pc' := 80) [.iload 4, .iconst 0, .bipush 99] mkX8_pour (by decide +kernel) rfl rfl ?_
              refine p_callSv (rwithin_ok w (k := k - 1) _ _ _ _) ksX8_102 (by decide +kernel) (by omega) rfl rfl rfl rfl rfl ?_
              refine p_run (pc' := 85) [.istore 5] mkX8_pour (by decide +kernel) rfl rfl ?_
              refine Wp.eqL (L' := [some (.ref 96), some (.int (nI s)), some (.int (nI (cntF (pcB (h 97) (fun k => h 111 (24 * s + k))) i))), some (.int (nI i)), some (.int (h 111 (24 * s + i))), some (.int (tpF (h 97) (fun k => h 111 (24 * s + k)) i))]) (by rw [eto]; rfl) ?_
              refine p_run (pc' := 97) [.iload_n 2, .aload_n 0, .bipush 20, .iconst 5, .iload_n 3, .imul, .iadd, .iconst 2, .iadd, .iload 5] mkX8_pour (by decide +kernel) rfl rfl ?_
              refine Wp.eqS (st' := [.int (tpF (h 97) (fun k => h 111 (24 * s + k)) i), .int (nI (20 + 5 * i + 2)), .ref 96, .int (nI (cntF (pcB (h 97) (fun k => h 111 (24 * s + k))) i))]) (by simp only [oI, nIm, nI_add]) ?_
              refine p_callV (swaps_ok w (k := k - 1) (20 + 5 * i + 2) (by omega) _ hh) kvX8_146 (by decide +kernel) (by decide) rfl (by omega) rfl rfl rfl rfl rfl (fun r h' hq => ?_)
              obtain ⟨rfl, rfl⟩ := hq
              refine p_run (pc' := 102) [.iload 5] mkX8_pour (by decide +kernel) rfl rfl ?_
              rw [eold]
              refine p_icmp_ne (off := 7) 109 (by decide +kernel) (by decide) (fun cq4 => ?_) (fun cq4 => ?_)
              · refine p_run (pc' := 26) [.iconst 1, .iadd, .istore_n 2, .iinc 3 1, .goto (-89)] mkX8_pour (by decide +kernel) rfl rfl ?_
                exact ih _ _ ⟨_, _, by rw [show nI i + Int32.ofInt 1 = nI (i + 1) by simp only [oI, nI_add], oI, nI_add, cntF, if_pos (pcB_iff.mpr cq4)], by rw [upS, e97]; rfl, hA.tr (Ag.up (by decide))⟩
              · refine p_run (pc' := 26) [.iconst 0, .goto 4, .iadd, .istore_n 2, .iinc 3 1, .goto (-89)] mkX8_pour (by decide +kernel) rfl rfl ?_
                exact ih _ _ ⟨_, _, by rw [show nI i + Int32.ofInt 1 = nI (i + 1) by simp only [oI, nI_add], oI, nI_add, cntF, if_neg (fun q => pcB_iff.mp q cq4)], by rw [upS, e97]; rfl, hA.tr (Ag.up (by decide))⟩
            · have eto : tpF (h 97) (fun k => h 111 (24 * s + k)) i = dK (h 97) i 2 := by
                unfold tpF; rw [if_pos cq3]
              have eold : hh 97 (20 + 5 * i + 2) = dK (h 97) i 2 := by rw [e97, poN_out _ (fun d hd => by omega)]; rfl
              refine p_run (pc' := 69) [.aload_n 0, .iload_n 3, .iconst 2] mkX8_pour (by decide +kernel) rfl rfl ?_
              refine p_callVv (of_ok w (k := k - 1) i 2 _ (by omega)) kvX8_83 (by decide +kernel) (by decide) rfl (by omega) rfl rfl rfl rfl rfl ?_
              refine p_run (pc' := 85) [.goto 11, .istore 5] mkX8_pour (by decide +kernel) rfl rfl ?_
              refine Wp.eqL (L' := [some (.ref 96), some (.int (nI s)), some (.int (nI (cntF (pcB (h 97) (fun k => h 111 (24 * s + k))) i))), some (.int (nI i)), some (.int (h 111 (24 * s + i))), some (.int (tpF (h 97) (fun k => h 111 (24 * s + k)) i))]) (by rw [eto, eold]) ?_
              refine p_run (pc' := 97) [.iload_n 2, .aload_n 0, .bipush 20, .iconst 5, .iload_n 3, .imul, .iadd, .iconst 2, .iadd, .iload 5] mkX8_pour (by decide +kernel) rfl rfl ?_
              refine Wp.eqS (st' := [.int (tpF (h 97) (fun k => h 111 (24 * s + k)) i), .int (nI (20 + 5 * i + 2)), .ref 96, .int (nI (cntF (pcB (h 97) (fun k => h 111 (24 * s + k))) i))]) (by simp only [oI, nIm, nI_add]) ?_
              refine p_callV (swaps_ok w (k := k - 1) (20 + 5 * i + 2) (by omega) _ hh) kvX8_146 (by decide +kernel) (by decide) rfl (by omega) rfl rfl rfl rfl rfl (fun r h' hq => ?_)
              obtain ⟨rfl, rfl⟩ := hq
              refine p_run (pc' := 102) [.iload 5] mkX8_pour (by decide +kernel) rfl rfl ?_
              rw [eold]
              refine p_icmp_ne (off := 7) 109 (by decide +kernel) (by decide) (fun cq4 => ?_) (fun cq4 => ?_)
              · refine p_run (pc' := 26) [.iconst 1, .iadd, .istore_n 2, .iinc 3 1, .goto (-89)] mkX8_pour (by decide +kernel) rfl rfl ?_
                exact ih _ _ ⟨_, _, by rw [show nI i + Int32.ofInt 1 = nI (i + 1) by simp only [oI, nI_add], oI, nI_add, cntF, if_pos (pcB_iff.mpr cq4)], by rw [upS, e97]; rfl, hA.tr (Ag.up (by decide))⟩
              · refine p_run (pc' := 26) [.iconst 0, .goto 4, .iadd, .istore_n 2, .iinc 3 1, .goto (-89)] mkX8_pour (by decide +kernel) rfl rfl ?_
                exact ih _ _ ⟨_, _, by rw [show nI i + Int32.ofInt 1 = nI (i + 1) by simp only [oI, nI_add], oI, nI_add, cntF, if_neg (fun q => pcB_iff.mp q cq4)], by rw [upS, e97]; rfl, hA.tr (Ag.up (by decide))⟩
      · rintro L hh ⟨x4, x5, rfl, hJ⟩
        obtain ⟨e97, hA⟩ := hJ
        have e110 : hh 110 s = nI sz := by rw [hA 110 (by decide), hsz]
        have e111 : hh 111 = h 111 := hA 111 (by decide)
        have e1 : hh 97 1 = nI (nd (h 97)) := by rw [e97, poN_out _ (fun d hd => by omega)]; exact hI.nd.1
        have hn10 := hI.nd.2
        refine p_run (pc' := 32) [.iload_n 3, .aload_n 0, .getfield 51, .iload_n 1] mkX8_pour (by decide +kernel) rfl rfl ?_
        refine p_iald (s) (by decide +kernel) rfl rfl rfl hs ?_
        rw [e110]
        refine p_icmp_ge (off := 85) 118 (by decide +kernel) (by decide) (fun cq1 => ?_) (fun cq1 => ?_)
        · refine p_run (pc' := 119) [.iload_n 2] mkX8_pour (by decide +kernel) rfl rfl ?_
          refine p_iret rfl rfl (by decide +kernel) ?_
          exact ⟨rfl, e97, hA⟩
        · rw [nI_leI (by omega) (by omega)] at cq1
          refine p_run (pc' := 42) [.iload_n 3, .aload_n 0, .getfield 9, .iconst 1] mkX8_pour (by decide +kernel) rfl rfl ?_
          refine p_iald (1) (by decide +kernel) rfl rfl (by simp only [oI]) (by omega) ?_
          rw [e1]
          refine p_icmp_ge (off := 75) 118 (by decide +kernel) (by decide) (fun cq2 => ?_) (fun cq2 => ?_)
          · refine p_run (pc' := 119) [.iload_n 2] mkX8_pour (by decide +kernel) rfl rfl ?_
            refine p_iret rfl rfl (by decide +kernel) ?_
            exact ⟨rfl, e97, hA⟩
          · exact False.elim (by rw [nI_leI (by omega) (by omega)] at cq2; omega)
      · exact ⟨_, _, rfl, rfl, Ag.rf⟩
    · exact absurd (Int32.not_lt.mp hy) cq16
  · exact False.elim (by revert cq4; decide)
set_option maxRecDepth 20000 in
set_option maxHeartbeats 4000000 in
theorem r_reads (w : Wt) {k : Nat} (hk : 2 ≤ k) (s sz : Nat) (hs : s < 4) (hz : sz ≤ 24) (h : Mm) (hsz : h 110 s = nI sz) (hI : Iv (h 97)) (hy : ¬ h 109 s < 0) : Ok w k MX8_reads [.ref 96, .int (nI s)] h (Rv (oN (fstF (rdB (h 97) (fun k => h 111 (24 * s + k))) 0 sz)) h) := by
  show Wp w k MX8_reads _ 0 [some (.ref 96), some (.int (nI s)), none, none] [] h
  refine p_run (pc' := 1) [.iload_n 1] mkX8_reads (by decide +kernel) rfl rfl ?_
  refine p_callSv (isSheet_t w (k := k - 1) (by omega) _ _ (in_nI (lo := 0) (hi := 3) (by omega) (Nat.le_of_lt_succ hs) (by omega))) ksX8_206 (by decide +kernel) (by omega) rfl rfl rfl rfl rfl ?_
  refine p_if_ne (off := 6) 10 (by decide +kernel) (by decide) (fun cq4 => ?_) (fun cq4 => ?_)
  · refine p_run (pc' := 15) [.aload_n 0, .getfield 48, .iload_n 1] mkX8_reads (by decide +kernel) rfl rfl ?_
    refine p_iald (s) (by decide +kernel) rfl rfl (by first | rfl | simp only [oI]) (by omega) ?_
    refine p_if_ge (off := 6) 22 (by decide +kernel) (by decide) (fun cq16 => ?_) (fun cq16 => ?_)
    · refine p_run (pc' := 24) [.iconst 0, .istore_n 2] mkX8_reads (by decide +kernel) rfl rfl ?_
      refine Wp.for (sz) (fun i L hh => ∃ (x3 : Option Value), L = [some (.ref 96), some (.int (nI s)), some (.int (nI i)), x3] ∧ (hh = h ∧ fstF (rdB (h 97) (fun k => h 111 (24 * s + k))) i (sz - i) = fstF (rdB (h 97) (fun k => h 111 (24 * s + k))) 0 sz)) ?_ ?_ (0) (by omega) _ _ ?_
      · rintro i L hh hi ⟨x3, rfl, hJ⟩ ih
        obtain ⟨rfl, hq⟩ := hJ
        have hn := hI.nd
        have hn10 := hn.2
        refine p_run (pc' := 30) [.iload_n 2, .aload_n 0, .getfield 51, .iload_n 1] mkX8_reads (by decide +kernel) rfl rfl ?_
        refine p_iald (s) (by decide +kernel) rfl rfl rfl hs ?_
        rw [hsz]
        refine p_icmp_ge (off := 47) 78 (by decide +kernel) (by decide) (fun cq1 => ?_) (fun cq1 => ?_)
        · exact absurd cq1 (nI_ge (by omega) (by omega))
        · obtain ⟨q, hqq⟩ : ∃ q, sz - i = q + 1 := ⟨sz - i - 1, by omega⟩
          refine p_run (pc' := 44) [.aload_n 0, .getfield 54, .bipush 24, .iload_n 1, .imul, .iload_n 2, .iadd] mkX8_reads (by decide +kernel) rfl rfl ?_
          refine p_iald (24 * s + i) (by decide +kernel) rfl rfl (by simp only [oI, nIm, nI_add]) (by omega) ?_
          refine p_run (pc' := 49) [.istore_n 3, .iload_n 3, .ldc 195] mkX8_reads (by decide +kernel) rfl rfl ?_
          refine p_icmp_eq (off := 23) 72 (by decide +kernel) (by decide) (fun cq49 => ?_) (fun cq49 => ?_)
          · refine p_run (pc' := 24) [.iinc 2 1, .goto (-51)] mkX8_reads (by decide +kernel) rfl rfl ?_
            exact ih _ _ ⟨_, by rw [show nI i + Int32.ofInt 1 = nI (i + 1) by simp only [oI, nI_add]], rfl, by rw [← hq, hqq, fstF, if_neg (fun z => ((rdB_iff (N := hh 97) (c := fun k => hh 111 (24 * s + k)) (i := i)).mp z).1 cq49), show sz - (i + 1) = q by omega]⟩
          · refine p_run (pc' := 54) [.aload_n 0, .iload_n 2] mkX8_reads (by decide +kernel) rfl rfl ?_
            refine p_callVv (risDigger_ok w (k := k - 1) (by omega) _ _) kvX8_129 (by decide +kernel) (by decide) rfl (by omega) rfl rfl rfl rfl rfl ?_
            refine p_if_eq (off := 13) 70 (by decide +kernel) (by decide) (fun cq57 => ?_) (fun cq57 => ?_)
            · have cq57 := bI0.mp cq57
              refine p_run (pc' := 71) [.iload_n 2] mkX8_reads (by decide +kernel) rfl rfl ?_
              refine p_iret rfl rfl (by decide +kernel) ?_
              rw [← hq, hqq, fstF, if_pos ((rdB_iff (N := hh 97) (c := fun k => hh 111 (24 * s + k)) (i := i)).mpr ⟨cq49, Or.inl (fun q => cq57 ((isD_lt hn.1 hn10 (by omega)).mpr q))⟩)]; exact ⟨rfl, rfl⟩
            · have cq57 := bI1.mp cq57
              refine p_run (pc' := 64) [.iload_n 3, .aload_n 0, .iload_n 2, .iconst 3] mkX8_reads (by decide +kernel) rfl rfl ?_
              refine p_callVv (of_ok w (k := k - 1) i 3 _ (by omega)) kvX8_83 (by decide +kernel) (by decide) rfl (by omega) rfl rfl rfl rfl rfl ?_
              refine p_icmp_eq (off := 5) 72 (by decide +kernel) (by decide) (fun cq67 => ?_) (fun cq67 => ?_)
              · refine p_run (pc' := 24) [.iinc 2 1, .goto (-51)] mkX8_reads (by decide +kernel) rfl rfl ?_
                exact ih _ _ ⟨_, by rw [show nI i + Int32.ofInt 1 = nI (i + 1) by simp only [oI, nI_add]], rfl, by rw [← hq, hqq, fstF, if_neg (fun z => (((rdB_iff (N := hh 97) (c := fun k => hh 111 (24 * s + k)) (i := i)).mp z).2.resolve_left (fun n => n ((isD_lt hn.1 hn10 (by omega)).mp cq57))) cq67), show sz - (i + 1) = q by omega]⟩
              · refine p_run (pc' := 71) [.iload_n 2] mkX8_reads (by decide +kernel) rfl rfl ?_
                refine p_iret rfl rfl (by decide +kernel) ?_
                rw [← hq, hqq, fstF, if_pos ((rdB_iff (N := hh 97) (c := fun k => hh 111 (24 * s + k)) (i := i)).mpr ⟨cq49, Or.inr cq67⟩)]; exact ⟨rfl, rfl⟩
      · rintro L hh ⟨x3, rfl, hJ⟩
        obtain ⟨rfl, hq⟩ := hJ
        rw [← hq, Nat.sub_self]
        refine p_run (pc' := 30) [.iload_n 2, .aload_n 0, .getfield 51, .iload_n 1] mkX8_reads (by decide +kernel) rfl rfl ?_
        refine p_iald (s) (by decide +kernel) rfl rfl rfl hs ?_
        rw [hsz]
        refine p_icmp_ge (off := 47) 78 (by decide +kernel) (by decide) (fun cq1 => ?_) (fun cq1 => ?_)
        · refine p_run (pc' := 80) [.ldc 195] mkX8_reads (by decide +kernel) rfl rfl ?_
          refine p_iret rfl rfl (by decide +kernel) ?_
          exact ⟨rfl, rfl⟩
        · exact absurd (nI_le (Nat.le_refl _) (by omega)) cq1
      · exact ⟨_, rfl, rfl, rfl⟩
    · exact absurd (Int32.not_lt.mp hy) cq16
  · exact False.elim (by revert cq4; decide)
end
section
/-! the reference: copy, lay, ask, item, rest -/
set_option maxRecDepth 20000 in
set_option maxHeartbeats 4000000 in
theorem r_copy_bad (w : Wt) {k : Nat} (hk : 2 ≤ k) (a b c e m : Int32) (h : Mm) (hb : ¬ (inR a 0 3 ∧ inR c 0 3)) : Ok w k MX8_copy [.ref 96, .int a, .int b, .int c, .int e, .int m] h (Rv BADv h) := by
  show Wp w k MX8_copy _ 0 [some (.ref 96), some (.int a), some (.int b), some (.int c), some (.int e), some (.int m), none] [] h
  refine p_run (pc' := 1) [.iload_n 1] mkX8_copy (by decide +kernel) rfl rfl ?_
  refine p_callSv (risSheet_ok w (k := k - 1) (by omega) _ _) ksX8_206 (by decide +kernel) (by omega) rfl rfl rfl rfl rfl ?_
  refine p_if_eq (off := 10) 14 (by decide +kernel) (by decide) (fun cq4 => ?_) (fun cq4 => ?_)
  · have cq4 := bI0.mp cq4
    refine p_run (pc' := 16) [.ldc 123] mkX8_copy (by decide +kernel) rfl rfl ?_
    refine p_iret rfl rfl (by decide +kernel) ?_
    exact ⟨rfl, rfl⟩
  · have cq4 := bI1.mp cq4
    refine p_run (pc' := 8) [.iload_n 3] mkX8_copy (by decide +kernel) rfl rfl ?_
    refine p_callSv (risSheet_ok w (k := k - 1) (by omega) _ _) ksX8_206 (by decide +kernel) (by omega) rfl rfl rfl rfl rfl ?_
    refine p_if_ne (off := 6) 17 (by decide +kernel) (by decide) (fun cq11 => ?_) (fun cq11 => ?_)
    · have cq11 := bI1.mp cq11
      exact absurd ⟨cq4, cq11⟩ hb
    · have cq11 := bI0.mp cq11
      refine p_run (pc' := 16) [.ldc 123] mkX8_copy (by decide +kernel) rfl rfl ?_
      refine p_iret rfl rfl (by decide +kernel) ?_
      exact ⟨rfl, rfl⟩
set_option maxRecDepth 20000 in
set_option maxHeartbeats 4000000 in
theorem r_copy_no (w : Wt) {k : Nat} (hk : 2 ≤ k) (s t : Nat) (hs : s < 4) (ht : t < 4) (b e m : Int32) (h : Mm) (hno : h 109 s < 0 ∨ h 109 t < 0) : Ok w k MX8_copy [.ref 96, .int (nI s), .int b, .int (nI t), .int e, .int m] h (Rv NOTHINGv h) := by
  show Wp w k MX8_copy _ 0 [some (.ref 96), some (.int (nI s)), some (.int b), some (.int (nI t)), some (.int e), some (.int m), none] [] h
  refine p_run (pc' := 1) [.iload_n 1] mkX8_copy (by decide +kernel) rfl rfl ?_
  refine p_callSv (isSheet_t w (k := k - 1) (by omega) _ _ (in_nI (lo := 0) (hi := 3) (by omega) (Nat.le_of_lt_succ hs) (by omega))) ksX8_206 (by decide +kernel) (by omega) rfl rfl rfl rfl rfl ?_
  refine p_if_eq (off := 10) 14 (by decide +kernel) (by decide) (fun cq4 => ?_) (fun cq4 => ?_)
  · exact False.elim (by revert cq4; decide)
  · refine p_run (pc' := 8) [.iload_n 3] mkX8_copy (by decide +kernel) rfl rfl ?_
    refine p_callSv (isSheet_t w (k := k - 1) (by omega) _ _ (in_nI (lo := 0) (hi := 3) (by omega) (Nat.le_of_lt_succ ht) (by omega))) ksX8_206 (by decide +kernel) (by omega) rfl rfl rfl rfl rfl ?_
    refine p_if_ne (off := 6) 17 (by decide +kernel) (by decide) (fun cq11 => ?_) (fun cq11 => ?_)
    · refine p_run (pc' := 22) [.aload_n 0, .getfield 48, .iload_n 1] mkX8_copy (by decide +kernel) rfl rfl ?_
      refine p_iald (s) (by decide +kernel) rfl rfl (by first | rfl | simp only [oI]) (by omega) ?_
      refine p_if_lt (off := 12) 35 (by decide +kernel) (by decide) (fun cq23 => ?_) (fun cq23 => ?_)
      · refine p_run (pc' := 37) [.ldc 209] mkX8_copy (by decide +kernel) rfl rfl ?_
        refine p_iret rfl rfl (by decide +kernel) ?_
        exact ⟨rfl, rfl⟩
      · refine p_run (pc' := 31) [.aload_n 0, .getfield 48, .iload_n 3] mkX8_copy (by decide +kernel) rfl rfl ?_
        refine p_iald (t) (by decide +kernel) rfl rfl (by first | rfl | simp only [oI]) (by omega) ?_
        refine p_if_ge (off := 6) 38 (by decide +kernel) (by decide) (fun cq32 => ?_) (fun cq32 => ?_)
        · exact absurd hno (by rintro (q | q); exact cq23 q; exact absurd cq32 (Int32.not_le.mpr q))
        · refine p_run (pc' := 37) [.ldc 209] mkX8_copy (by decide +kernel) rfl rfl ?_
          refine p_iret rfl rfl (by decide +kernel) ?_
          exact ⟨rfl, rfl⟩
    · exact False.elim (by revert cq11; decide)
set_option maxRecDepth 20000 in
set_option maxHeartbeats 4000000 in
theorem r_copy_kind (w : Wt) {k : Nat} (hk : 2 ≤ k) (s t : Nat) (hs : s < 4) (ht : t < 4) (b e m : Int32) (h : Mm) (hy : ¬ h 109 s < 0 ∧ ¬ h 109 t < 0) (hne : ¬ h 109 s = h 109 t) : Ok w k MX8_copy [.ref 96, .int (nI s), .int b, .int (nI t), .int e, .int m] h (Rv KINDv h) := by
  show Wp w k MX8_copy _ 0 [some (.ref 96), some (.int (nI s)), some (.int b), some (.int (nI t)), some (.int e), some (.int m), none] [] h
  refine p_run (pc' := 1) [.iload_n 1] mkX8_copy (by decide +kernel) rfl rfl ?_
  refine p_callSv (isSheet_t w (k := k - 1) (by omega) _ _ (in_nI (lo := 0) (hi := 3) (by omega) (Nat.le_of_lt_succ hs) (by omega))) ksX8_206 (by decide +kernel) (by omega) rfl rfl rfl rfl rfl ?_
  refine p_if_eq (off := 10) 14 (by decide +kernel) (by decide) (fun cq4 => ?_) (fun cq4 => ?_)
  · exact False.elim (by revert cq4; decide)
  · refine p_run (pc' := 8) [.iload_n 3] mkX8_copy (by decide +kernel) rfl rfl ?_
    refine p_callSv (isSheet_t w (k := k - 1) (by omega) _ _ (in_nI (lo := 0) (hi := 3) (by omega) (Nat.le_of_lt_succ ht) (by omega))) ksX8_206 (by decide +kernel) (by omega) rfl rfl rfl rfl rfl ?_
    refine p_if_ne (off := 6) 17 (by decide +kernel) (by decide) (fun cq11 => ?_) (fun cq11 => ?_)
    · refine p_run (pc' := 22) [.aload_n 0, .getfield 48, .iload_n 1] mkX8_copy (by decide +kernel) rfl rfl ?_
      refine p_iald (s) (by decide +kernel) rfl rfl (by first | rfl | simp only [oI]) (by omega) ?_
      refine p_if_lt (off := 12) 35 (by decide +kernel) (by decide) (fun cq23 => ?_) (fun cq23 => ?_)
      · exact absurd cq23 hy.1
      · refine p_run (pc' := 31) [.aload_n 0, .getfield 48, .iload_n 3] mkX8_copy (by decide +kernel) rfl rfl ?_
        refine p_iald (t) (by decide +kernel) rfl rfl (by first | rfl | simp only [oI]) (by omega) ?_
        refine p_if_ge (off := 6) 38 (by decide +kernel) (by decide) (fun cq32 => ?_) (fun cq32 => ?_)
        · refine p_run (pc' := 43) [.aload_n 0, .getfield 48, .iload_n 1] mkX8_copy (by decide +kernel) rfl rfl ?_
          refine p_iald (s) (by decide +kernel) rfl rfl (by first | rfl | simp only [oI]) (by omega) ?_
          refine p_run (pc' := 49) [.aload_n 0, .getfield 48, .iload_n 3] mkX8_copy (by decide +kernel) rfl rfl ?_
          refine p_iald (t) (by decide +kernel) rfl rfl (by first | rfl | simp only [oI]) (by omega) ?_
          refine p_icmp_eq (off := 6) 56 (by decide +kernel) (by decide) (fun cq50 => ?_) (fun cq50 => ?_)
          · exact absurd cq50 hne
          · refine p_run (pc' := 55) [.ldc 145] mkX8_copy (by decide +kernel) rfl rfl ?_
            refine p_iret rfl rfl (by decide +kernel) ?_
            exact ⟨rfl, rfl⟩
        · exact absurd (Int32.not_lt.mp hy.2) cq32
    · exact False.elim (by revert cq11; decide)
def cpP (h : Mm) (s t : Nat) (b e m : Int32) : Prop := ¬ b < 0 ∧ ¬ e < 0 ∧ ¬ m < 0 ∧ ¬ h 110 s - m < b ∧ e ≤ h 110 t - m
set_option maxRecDepth 20000 in
set_option maxHeartbeats 4000000 in
theorem r_copy_ix (w : Wt) {k : Nat} (hk : 2 ≤ k) (s t : Nat) (hs : s < 4) (ht : t < 4) (b e m : Int32) (h : Mm) (hy : ¬ h 109 s < 0 ∧ ¬ h 109 t < 0) (he : h 109 s = h 109 t) (hx : ¬ cpP h s t b e m) : Ok w k MX8_copy [.ref 96, .int (nI s), .int b, .int (nI t), .int e, .int m] h (Rv INDEXv h) := by
  show Wp w k MX8_copy _ 0 [some (.ref 96), some (.int (nI s)), some (.int b), some (.int (nI t)), some (.int e), some (.int m), none] [] h
  refine p_run (pc' := 1) [.iload_n 1] mkX8_copy (by decide +kernel) rfl rfl ?_
  refine p_callSv (isSheet_t w (k := k - 1) (by omega) _ _ (in_nI (lo := 0) (hi := 3) (by omega) (Nat.le_of_lt_succ hs) (by omega))) ksX8_206 (by decide +kernel) (by omega) rfl rfl rfl rfl rfl ?_
  refine p_if_eq (off := 10) 14 (by decide +kernel) (by decide) (fun cq4 => ?_) (fun cq4 => ?_)
  · exact False.elim (by revert cq4; decide)
  · refine p_run (pc' := 8) [.iload_n 3] mkX8_copy (by decide +kernel) rfl rfl ?_
    refine p_callSv (isSheet_t w (k := k - 1) (by omega) _ _ (in_nI (lo := 0) (hi := 3) (by omega) (Nat.le_of_lt_succ ht) (by omega))) ksX8_206 (by decide +kernel) (by omega) rfl rfl rfl rfl rfl ?_
    refine p_if_ne (off := 6) 17 (by decide +kernel) (by decide) (fun cq11 => ?_) (fun cq11 => ?_)
    · refine p_run (pc' := 22) [.aload_n 0, .getfield 48, .iload_n 1] mkX8_copy (by decide +kernel) rfl rfl ?_
      refine p_iald (s) (by decide +kernel) rfl rfl (by first | rfl | simp only [oI]) (by omega) ?_
      refine p_if_lt (off := 12) 35 (by decide +kernel) (by decide) (fun cq23 => ?_) (fun cq23 => ?_)
      · exact absurd cq23 hy.1
      · refine p_run (pc' := 31) [.aload_n 0, .getfield 48, .iload_n 3] mkX8_copy (by decide +kernel) rfl rfl ?_
        refine p_iald (t) (by decide +kernel) rfl rfl (by first | rfl | simp only [oI]) (by omega) ?_
        refine p_if_ge (off := 6) 38 (by decide +kernel) (by decide) (fun cq32 => ?_) (fun cq32 => ?_)
        · refine p_run (pc' := 43) [.aload_n 0, .getfield 48, .iload_n 1] mkX8_copy (by decide +kernel) rfl rfl ?_
          refine p_iald (s) (by decide +kernel) rfl rfl (by first | rfl | simp only [oI]) (by omega) ?_
          refine p_run (pc' := 49) [.aload_n 0, .getfield 48, .iload_n 3] mkX8_copy (by decide +kernel) rfl rfl ?_
          refine p_iald (t) (by decide +kernel) rfl rfl (by first | rfl | simp only [oI]) (by omega) ?_
          refine p_icmp_eq (off := 6) 56 (by decide +kernel) (by decide) (fun cq50 => ?_) (fun cq50 => ?_)
          · refine p_run (pc' := 57) [.iload_n 2] mkX8_copy (by decide +kernel) rfl rfl ?_
            refine p_if_lt (off := 40) 97 (by decide +kernel) (by decide) (fun cq57 => ?_) (fun cq57 => ?_)
            · refine p_run (pc' := 100) [.ldc_w 282] mkX8_copy (by decide +kernel) rfl rfl ?_
              refine p_iret rfl rfl (by decide +kernel) ?_
              exact ⟨rfl, rfl⟩
            · refine p_run (pc' := 62) [.iload 4] mkX8_copy (by decide +kernel) rfl rfl ?_
              refine p_if_lt (off := 35) 97 (by decide +kernel) (by decide) (fun cq62 => ?_) (fun cq62 => ?_)
              · refine p_run (pc' := 100) [.ldc_w 282] mkX8_copy (by decide +kernel) rfl rfl ?_
                refine p_iret rfl rfl (by decide +kernel) ?_
                exact ⟨rfl, rfl⟩
              · refine p_run (pc' := 67) [.iload 5] mkX8_copy (by decide +kernel) rfl rfl ?_
                refine p_if_lt (off := 30) 97 (by decide +kernel) (by decide) (fun cq67 => ?_) (fun cq67 => ?_)
                · refine p_run (pc' := 100) [.ldc_w 282] mkX8_copy (by decide +kernel) rfl rfl ?_
                  refine p_iret rfl rfl (by decide +kernel) ?_
                  exact ⟨rfl, rfl⟩
                · refine p_run (pc' := 76) [.iload_n 2, .aload_n 0, .getfield 51, .iload_n 1] mkX8_copy (by decide +kernel) rfl rfl ?_
                  refine p_iald (s) (by decide +kernel) rfl rfl (by first | rfl | simp only [oI]) (by omega) ?_
                  refine p_run (pc' := 80) [.iload 5, .isub] mkX8_copy (by decide +kernel) rfl rfl ?_
                  refine p_icmp_gt (off := 17) 97 (by decide +kernel) (by decide) (fun cq80 => ?_) (fun cq80 => ?_)
                  · refine p_run (pc' := 100) [.ldc_w 282] mkX8_copy (by decide +kernel) rfl rfl ?_
                    refine p_iret rfl rfl (by decide +kernel) ?_
                    exact ⟨rfl, rfl⟩
                  · refine p_run (pc' := 90) [.iload 4, .aload_n 0, .getfield 51, .iload_n 3] mkX8_copy (by decide +kernel) rfl rfl ?_
                    refine p_iald (t) (by decide +kernel) rfl rfl (by first | rfl | simp only [oI]) (by omega) ?_
                    refine p_run (pc' := 94) [.iload 5, .isub] mkX8_copy (by decide +kernel) rfl rfl ?_
                    refine p_icmp_le (off := 7) 101 (by decide +kernel) (by decide) (fun cq94 => ?_) (fun cq94 => ?_)
                    · exact absurd ⟨cq57, cq62, cq67, cq80, cq94⟩ hx
                    · refine p_run (pc' := 100) [.ldc_w 282] mkX8_copy (by decide +kernel) rfl rfl ?_
                      refine p_iret rfl rfl (by decide +kernel) ?_
                      exact ⟨rfl, rfl⟩
          · exact absurd he cq50
        · exact absurd (Int32.not_lt.mp hy.2) cq32
    · exact False.elim (by revert cq11; decide)
set_option maxRecDepth 20000 in
set_option maxHeartbeats 4000000 in
theorem r_copy (w : Wt) {k : Nat} (hk : 2 ≤ k) (s t b e m sz tz : Nat) (hs : s < 4) (ht : t < 4) (h : Mm) (hsz : h 110 s = nI sz) (htz : h 110 t = nI tz) (hz1 : sz ≤ 24) (hz2 : tz ≤ 24) (hbm : b + m ≤ sz) (hem : e + m ≤ tz) (hy : ¬ h 109 s < 0 ∧ ¬ h 109 t < 0) (he : h 109 s = h 109 t) : Ok w k MX8_copy [.ref 96, .int (nI s), .int (nI b), .int (nI t), .int (nI e), .int (nI m)] h (fun r h' => r = some (.int (nI m)) ∧ h' 111 = spl (h 111) (24 * t + e) m (fun k => h 111 (24 * s + b + k)) ∧ Ag [111, 116] h h') := by
  show Wp w k MX8_copy _ 0 [some (.ref 96), some (.int (nI s)), some (.int (nI b)), some (.int (nI t)), some (.int (nI e)), some (.int (nI m)), none] [] h
  refine p_run (pc' := 1) [.iload_n 1] mkX8_copy (by decide +kernel) rfl rfl ?_
  refine p_callSv (isSheet_t w (k := k - 1) (by omega) _ _ (in_nI (lo := 0) (hi := 3) (by omega) (Nat.le_of_lt_succ hs) (by omega))) ksX8_206 (by decide +kernel) (by omega) rfl rfl rfl rfl rfl ?_
  refine p_if_eq (off := 10) 14 (by decide +kernel) (by decide) (fun cq4 => ?_) (fun cq4 => ?_)
  · exact False.elim (by revert cq4; decide)
  · refine p_run (pc' := 8) [.iload_n 3] mkX8_copy (by decide +kernel) rfl rfl ?_
    refine p_callSv (isSheet_t w (k := k - 1) (by omega) _ _ (in_nI (lo := 0) (hi := 3) (by omega) (Nat.le_of_lt_succ ht) (by omega))) ksX8_206 (by decide +kernel) (by omega) rfl rfl rfl rfl rfl ?_
    refine p_if_ne (off := 6) 17 (by decide +kernel) (by decide) (fun cq11 => ?_) (fun cq11 => ?_)
    · refine p_run (pc' := 22) [.aload_n 0, .getfield 48, .iload_n 1] mkX8_copy (by decide +kernel) rfl rfl ?_
      refine p_iald (s) (by decide +kernel) rfl rfl (by first | rfl | simp only [oI]) (by omega) ?_
      refine p_if_lt (off := 12) 35 (by decide +kernel) (by decide) (fun cq23 => ?_) (fun cq23 => ?_)
      · exact absurd cq23 hy.1
      · refine p_run (pc' := 31) [.aload_n 0, .getfield 48, .iload_n 3] mkX8_copy (by decide +kernel) rfl rfl ?_
        refine p_iald (t) (by decide +kernel) rfl rfl (by first | rfl | simp only [oI]) (by omega) ?_
        refine p_if_ge (off := 6) 38 (by decide +kernel) (by decide) (fun cq32 => ?_) (fun cq32 => ?_)
        · refine p_run (pc' := 43) [.aload_n 0, .getfield 48, .iload_n 1] mkX8_copy (by decide +kernel) rfl rfl ?_
          refine p_iald (s) (by decide +kernel) rfl rfl (by first | rfl | simp only [oI]) (by omega) ?_
          refine p_run (pc' := 49) [.aload_n 0, .getfield 48, .iload_n 3] mkX8_copy (by decide +kernel) rfl rfl ?_
          refine p_iald (t) (by decide +kernel) rfl rfl (by first | rfl | simp only [oI]) (by omega) ?_
          refine p_icmp_eq (off := 6) 56 (by decide +kernel) (by decide) (fun cq50 => ?_) (fun cq50 => ?_)
          · refine p_run (pc' := 57) [.iload_n 2] mkX8_copy (by decide +kernel) rfl rfl ?_
            refine p_if_lt (off := 40) 97 (by decide +kernel) (by decide) (fun cq57 => ?_) (fun cq57 => ?_)
            · exact absurd cq57 (nI_lt0 (by omega))
            · refine p_run (pc' := 62) [.iload 4] mkX8_copy (by decide +kernel) rfl rfl ?_
              refine p_if_lt (off := 35) 97 (by decide +kernel) (by decide) (fun cq62 => ?_) (fun cq62 => ?_)
              · exact absurd cq62 (nI_lt0 (by omega))
              · refine p_run (pc' := 67) [.iload 5] mkX8_copy (by decide +kernel) rfl rfl ?_
                refine p_if_lt (off := 30) 97 (by decide +kernel) (by decide) (fun cq67 => ?_) (fun cq67 => ?_)
                · exact absurd cq67 (nI_lt0 (by omega))
                · refine p_run (pc' := 76) [.iload_n 2, .aload_n 0, .getfield 51, .iload_n 1] mkX8_copy (by decide +kernel) rfl rfl ?_
                  refine p_iald (s) (by decide +kernel) rfl rfl (by first | rfl | simp only [oI]) (by omega) ?_
                  refine p_run (pc' := 80) [.iload 5, .isub] mkX8_copy (by decide +kernel) rfl rfl ?_
                  refine p_icmp_gt (off := 17) 97 (by decide +kernel) (by decide) (fun cq80 => ?_) (fun cq80 => ?_)
                  · exact absurd cq80 (Int32.not_lt.mpr (by rw [hsz, nIs (by omega)]; exact nI_le (by omega) (by omega)))
                  · refine p_run (pc' := 90) [.iload 4, .aload_n 0, .getfield 51, .iload_n 3] mkX8_copy (by decide +kernel) rfl rfl ?_
                    refine p_iald (t) (by decide +kernel) rfl rfl (by first | rfl | simp only [oI]) (by omega) ?_
                    refine p_run (pc' := 94) [.iload 5, .isub] mkX8_copy (by decide +kernel) rfl rfl ?_
                    refine p_icmp_le (off := 7) 101 (by decide +kernel) (by decide) (fun cq94 => ?_) (fun cq94 => ?_)
                    · have hz1 := hz1
                      refine p_run (pc' := 104) [.iconst 0, .istore 6] mkX8_copy (by decide +kernel) rfl rfl ?_
                      refine Wp.for (m) (fun i L hh => L = [some (.ref 96), some (.int (nI s)), some (.int (nI b)), some (.int (nI t)), some (.int (nI e)), some (.int (nI m)), some (.int (nI i))] ∧ hh = wr h 116 (spl (h 116) 0 i (fun k => h 111 (24 * s + b + k)))) ?_ ?_ (0) (by omega) _ _ ?_
                      · rintro i L hh hi ⟨rfl, hJ⟩ ih
                        subst hJ
                        refine p_run (pc' := 108) [.iload 6, .iload 5] mkX8_copy (by decide +kernel) rfl rfl ?_
                        refine p_icmp_ge (off := 30) 138 (by decide +kernel) (by decide) (fun cq1 => ?_) (fun cq1 => ?_)
                        · exact absurd cq1 (nI_ge (by omega) (by omega))
                        · refine p_run (pc' := 130) [.aload_n 0, .getfield 69, .iload 6, .aload_n 0, .getfield 54, .bipush 24, .iload_n 1, .imul, .iload_n 2, .iadd, .iload 6, .iadd] mkX8_copy (by decide +kernel) rfl rfl ?_
                          refine p_iald (24 * s + b + i) (by decide +kernel) rfl rfl (by simp only [oI, nIm, nI_add]) (by omega) ?_
                          rw [wrN (by decide)]
                          refine p_iast (i) (by decide +kernel) rfl rfl rfl (by omega)  ?_
                          refine p_run (pc' := 104) [.iinc 6 1, .goto (-31)] mkX8_copy (by decide +kernel) rfl rfl ?_
                          exact ih _ _ ⟨by rw [show nI i + Int32.ofInt 1 = nI (i + 1) by simp only [oI, nI_add]], by rw [up_up97, wr_wr, wrS, ← splS, Nat.zero_add]⟩
                      · rintro L hh ⟨rfl, hJ⟩
                        subst hJ
                        refine p_run (pc' := 108) [.iload 6, .iload 5] mkX8_copy (by decide +kernel) rfl rfl ?_
                        refine p_icmp_ge (off := 30) 138 (by decide +kernel) (by decide) (fun cq1 => ?_) (fun cq1 => ?_)
                        · refine p_run (pc' := 141) [.iconst 0, .istore 6] mkX8_copy (by decide +kernel) rfl rfl ?_
                          generalize e3 : wr h 116 (spl (h 116) 0 m (fun k => h 111 (24 * s + b + k))) = h3
                          have e111 : h3 111 = h 111 := by rw [← e3, wrN (by decide)]
                          have e116 : ∀ i, i < m → h3 116 i = h 111 (24 * s + b + i) := fun i hi => by rw [← e3, wrS]; unfold spl; rw [if_pos (by omega), Nat.sub_zero]
                          have hA3 : Ag [111, 116] h h3 := by rw [← e3]; exact Ag.wr (by decide)
                          clear e3
                          refine Wp.for (m) (fun i L hh => L = [some (.ref 96), some (.int (nI s)), some (.int (nI b)), some (.int (nI t)), some (.int (nI e)), some (.int (nI m)), some (.int (nI i))] ∧ hh = wr h3 111 (spl (h 111) (24 * t + e) i (fun k => h 111 (24 * s + b + k)))) ?_ ?_ (0) (by omega) _ _ ?_
                          · rintro i L hh hi ⟨rfl, hJ⟩ ih
                            subst hJ
                            refine p_run (pc' := 145) [.iload 6, .iload 5] mkX8_copy (by decide +kernel) rfl rfl ?_
                            refine p_icmp_ge (off := 31) 176 (by decide +kernel) (by decide) (fun cq1 => ?_) (fun cq1 => ?_)
                            · exact absurd cq1 (nI_ge (by omega) (by omega))
                            · refine p_run (pc' := 168) [.aload_n 0, .getfield 54, .bipush 24, .iload_n 3, .imul, .iload 4, .iadd, .iload 6, .iadd, .aload_n 0, .getfield 69, .iload 6] mkX8_copy (by decide +kernel) rfl rfl ?_
                              refine p_iald (i) (by decide +kernel) rfl rfl rfl (by omega) ?_
                              rw [wrN (by decide), e116 i hi]
                              refine p_iast (24 * t + e + i) (by decide +kernel) rfl rfl (by simp only [oI, nIm, nI_add]) (by omega)  ?_
                              refine p_run (pc' := 141) [.iinc 6 1, .goto (-32)] mkX8_copy (by decide +kernel) rfl rfl ?_
                              exact ih _ _ ⟨by rw [show nI i + Int32.ofInt 1 = nI (i + 1) by simp only [oI, nI_add]], by rw [up_up97, wr_wr, wrS, ← splS]⟩
                          · rintro L hh ⟨rfl, hJ⟩
                            subst hJ
                            refine p_run (pc' := 145) [.iload 6, .iload 5] mkX8_copy (by decide +kernel) rfl rfl ?_
                            refine p_icmp_ge (off := 31) 176 (by decide +kernel) (by decide) (fun cq1 => ?_) (fun cq1 => ?_)
                            · refine p_run (pc' := 178) [.iload 5] mkX8_copy (by decide +kernel) rfl rfl ?_
                              refine p_iret rfl rfl (by decide +kernel) ?_
                              exact ⟨rfl, by rw [wrS], hA3.tr (Ag.wr (by decide))⟩
                            · exact absurd (nI_le (Nat.le_refl _) (by omega)) cq1
                          · exact ⟨rfl, by rw [spl0, ← e111, wr_self]⟩
                        · exact absurd (nI_le (Nat.le_refl _) (by omega)) cq1
                      · exact ⟨rfl, by rw [spl0, wr_self]⟩
                    · exact absurd (by rw [htz, nIs (by omega)]; exact nI_le (by omega) (by omega)) cq94
          · exact absurd he cq50
        · exact absurd (Int32.not_lt.mp hy.2) cq32
    · exact False.elim (by revert cq11; decide)
def laP (N : Vc) (a th x : Int32) : Prop := inR a 0 4 ∧ inR th 0 3 ∧ (th = nI 1 → isD N x) ∧ (th = nI 2 → inR x 0 3)
set_option maxRecDepth 20000 in
set_option maxHeartbeats 4000000 in
theorem r_lay_bad (w : Wt) {k : Nat} (hk : 2 ≤ k) (a b c : Int32) (h : Mm) (hb : ¬ laP (h 97) a b c) : Ok w k MX8_lay [.ref 96, .int a, .int b, .int c] h (Rv BADv h) := by
  show Wp w k MX8_lay _ 0 [some (.ref 96), some (.int a), some (.int b), some (.int c), none, none] [] h
  refine p_run (pc' := 1) [.iload_n 1] mkX8_lay (by decide +kernel) rfl rfl ?_
  refine p_callSv (risSlot_ok w (k := k - 1) (by omega) _ _) ksX8_285 (by decide +kernel) (by omega) rfl rfl rfl rfl rfl ?_
  refine p_if_eq (off := 37) 41 (by decide +kernel) (by decide) (fun cq4 => ?_) (fun cq4 => ?_)
  · have cq4 := bI0.mp cq4
    refine p_run (pc' := 43) [.ldc 123] mkX8_lay (by decide +kernel) rfl rfl ?_
    refine p_iret rfl rfl (by decide +kernel) ?_
    exact ⟨rfl, rfl⟩
  · have cq4 := bI1.mp cq4
    refine p_run (pc' := 10) [.iload_n 2, .iconst 0, .iconst 3] mkX8_lay (by decide +kernel) rfl rfl ?_
    refine p_callSv (in_ok w (k := k - 1) _ _ _ _) ksX8_75 (by decide +kernel) (by omega) rfl rfl rfl rfl rfl ?_
    refine p_if_eq (off := 28) 41 (by decide +kernel) (by decide) (fun cq13 => ?_) (fun cq13 => ?_)
    · have cq13 := bI0.mp cq13
      refine p_run (pc' := 43) [.ldc 123] mkX8_lay (by decide +kernel) rfl rfl ?_
      refine p_iret rfl rfl (by decide +kernel) ?_
      exact ⟨rfl, rfl⟩
    · have cq13 := bI1.mp cq13
      refine p_run (pc' := 18) [.iload_n 2, .iconst 1] mkX8_lay (by decide +kernel) rfl rfl ?_
      refine p_icmp_ne (off := 11) 29 (by decide +kernel) (by decide) (fun cq18 => ?_) (fun cq18 => ?_)
      · refine p_run (pc' := 31) [.iload_n 2, .iconst 2] mkX8_lay (by decide +kernel) rfl rfl ?_
        refine p_icmp_ne (off := 13) 44 (by decide +kernel) (by decide) (fun cq31 => ?_) (fun cq31 => ?_)
        · exact absurd ⟨cq4, cq13, fun z => absurd z cq18, fun z => absurd z cq31⟩ hb
        · refine p_run (pc' := 35) [.iload_n 3] mkX8_lay (by decide +kernel) rfl rfl ?_
          refine p_callSv (risSheet_ok w (k := k - 1) (by omega) _ _) ksX8_206 (by decide +kernel) (by omega) rfl rfl rfl rfl rfl ?_
          refine p_if_ne (off := 6) 44 (by decide +kernel) (by decide) (fun cq38 => ?_) (fun cq38 => ?_)
          · have cq38 := bI1.mp cq38
            exact absurd ⟨cq4, cq13, fun z => absurd z cq18, fun _ => cq38⟩ hb
          · have cq38 := bI0.mp cq38
            refine p_run (pc' := 43) [.ldc 123] mkX8_lay (by decide +kernel) rfl rfl ?_
            refine p_iret rfl rfl (by decide +kernel) ?_
            exact ⟨rfl, rfl⟩
      · refine p_run (pc' := 23) [.aload_n 0, .iload_n 3] mkX8_lay (by decide +kernel) rfl rfl ?_
        refine p_callVv (risDigger_ok w (k := k - 1) (by omega) _ _) kvX8_129 (by decide +kernel) (by decide) rfl (by omega) rfl rfl rfl rfl rfl ?_
        refine p_if_eq (off := 15) 41 (by decide +kernel) (by decide) (fun cq26 => ?_) (fun cq26 => ?_)
        · have cq26 := bI0.mp cq26
          refine p_run (pc' := 43) [.ldc 123] mkX8_lay (by decide +kernel) rfl rfl ?_
          refine p_iret rfl rfl (by decide +kernel) ?_
          exact ⟨rfl, rfl⟩
        · have cq26 := bI1.mp cq26
          refine p_run (pc' := 31) [.iload_n 2, .iconst 2] mkX8_lay (by decide +kernel) rfl rfl ?_
          refine p_icmp_ne (off := 13) 44 (by decide +kernel) (by decide) (fun cq31 => ?_) (fun cq31 => ?_)
          · exact absurd ⟨cq4, cq13, fun _ => cq26, fun z => absurd z cq31⟩ hb
          · refine p_run (pc' := 35) [.iload_n 3] mkX8_lay (by decide +kernel) rfl rfl ?_
            refine p_callSv (risSheet_ok w (k := k - 1) (by omega) _ _) ksX8_206 (by decide +kernel) (by omega) rfl rfl rfl rfl rfl ?_
            refine p_if_ne (off := 6) 44 (by decide +kernel) (by decide) (fun cq38 => ?_) (fun cq38 => ?_)
            · have cq38 := bI1.mp cq38
              exact absurd ⟨cq4, cq13, fun _ => cq26, fun _ => cq38⟩ hb
            · have cq38 := bI0.mp cq38
              refine p_run (pc' := 43) [.ldc 123] mkX8_lay (by decide +kernel) rfl rfl ?_
              refine p_iret rfl rfl (by decide +kernel) ?_
              exact ⟨rfl, rfl⟩
set_option maxRecDepth 20000 in
set_option maxHeartbeats 4000000 in
theorem r_lay_no (w : Wt) {k : Nat} (hk : 2 ≤ k) (s q : Nat) (hs : s < 5) (hq : q < 4) (h : Mm) (hno : h 109 q < 0) : Ok w k MX8_lay [.ref 96, .int (nI s), .int (nI 2), .int (nI q)] h (Rv NOTHINGv h) := by
  show Wp w k MX8_lay _ 0 [some (.ref 96), some (.int (nI s)), some (.int (nI 2)), some (.int (nI q)), none, none] [] h
  refine p_run (pc' := 1) [.iload_n 1] mkX8_lay (by decide +kernel) rfl rfl ?_
  refine p_callSv (isSlot_t w (k := k - 1) (by omega) _ _ (in_nI (lo := 0) (hi := 4) (by omega) (Nat.le_of_lt_succ hs) (by omega))) ksX8_285 (by decide +kernel) (by omega) rfl rfl rfl rfl rfl ?_
  refine p_if_eq (off := 37) 41 (by decide +kernel) (by decide) (fun cq4 => ?_) (fun cq4 => ?_)
  · exact False.elim (by revert cq4; decide)
  · refine p_run (pc' := 10) [.iload_n 2, .iconst 0, .iconst 3] mkX8_lay (by decide +kernel) rfl rfl ?_
    refine p_callSv (in_t w (k := k - 1) _ _ _ _ (by exact in_nI (lo := 0) (hi := 3) (by omega) (by omega) (by omega))) ksX8_75 (by decide +kernel) (by omega) rfl rfl rfl rfl rfl ?_
    refine p_if_eq (off := 28) 41 (by decide +kernel) (by decide) (fun cq13 => ?_) (fun cq13 => ?_)
    · exact False.elim (by revert cq13; decide)
    · refine p_run (pc' := 18) [.iload_n 2, .iconst 1] mkX8_lay (by decide +kernel) rfl rfl ?_
      refine p_icmp_ne (off := 11) 29 (by decide +kernel) (by decide) (fun cq18 => ?_) (fun cq18 => ?_)
      · refine p_run (pc' := 31) [.iload_n 2, .iconst 2] mkX8_lay (by decide +kernel) rfl rfl ?_
        refine p_icmp_ne (off := 13) 44 (by decide +kernel) (by decide) (fun cq31 => ?_) (fun cq31 => ?_)
        · exact False.elim (by revert cq31; decide)
        · refine p_run (pc' := 35) [.iload_n 3] mkX8_lay (by decide +kernel) rfl rfl ?_
          refine p_callSv (isSheet_t w (k := k - 1) (by omega) _ _ (in_nI (lo := 0) (hi := 3) (by omega) (by omega) (by omega))) ksX8_206 (by decide +kernel) (by omega) rfl rfl rfl rfl rfl ?_
          refine p_if_ne (off := 6) 44 (by decide +kernel) (by decide) (fun cq38 => ?_) (fun cq38 => ?_)
          · refine p_run (pc' := 46) [.iload_n 2, .iconst 2] mkX8_lay (by decide +kernel) rfl rfl ?_
            refine p_icmp_ne (off := 15) 61 (by decide +kernel) (by decide) (fun cq46 => ?_) (fun cq46 => ?_)
            · exact False.elim (by revert cq46; decide)
            · refine p_run (pc' := 54) [.aload_n 0, .getfield 48, .iload_n 3] mkX8_lay (by decide +kernel) rfl rfl ?_
              refine p_iald (q) (by decide +kernel) rfl rfl (by first | rfl | simp only [oI]) (by omega) ?_
              refine p_if_ge (off := 6) 61 (by decide +kernel) (by decide) (fun cq55 => ?_) (fun cq55 => ?_)
              · exact absurd cq55 (Int32.not_le.mpr hno)
              · refine p_run (pc' := 60) [.ldc 209] mkX8_lay (by decide +kernel) rfl rfl ?_
                refine p_iret rfl rfl (by decide +kernel) ?_
                exact ⟨rfl, rfl⟩
          · exact False.elim (by revert cq38; decide)
      · exact False.elim (by revert cq18; decide)
set_option maxRecDepth 20000 in
set_option maxHeartbeats 4000000 in
theorem r_lay0 (w : Wt) {k : Nat} (hk : 4 ≤ k) (s : Nat) (hs : s < 5) (x : Int32) (h : Mm) : Ok w k MX8_lay [.ref 96, .int (nI s), .int (nI 0), .int x] h (Rv (h 112 s) (up (up (up h 112 s (nI 0)) 113 s x) 114 s (nI 0))) := by
  show Wp w k MX8_lay _ 0 [some (.ref 96), some (.int (nI s)), some (.int (nI 0)), some (.int x), none, none] [] h
  refine p_run (pc' := 1) [.iload_n 1] mkX8_lay (by decide +kernel) rfl rfl ?_
  refine p_callSv (isSlot_t w (k := k - 1) (by omega) _ _ (in_nI (lo := 0) (hi := 4) (by omega) (Nat.le_of_lt_succ hs) (by omega))) ksX8_285 (by decide +kernel) (by omega) rfl rfl rfl rfl rfl ?_
  refine p_if_eq (off := 37) 41 (by decide +kernel) (by decide) (fun cq4 => ?_) (fun cq4 => ?_)
  · exact False.elim (by revert cq4; decide)
  · refine p_run (pc' := 10) [.iload_n 2, .iconst 0, .iconst 3] mkX8_lay (by decide +kernel) rfl rfl ?_
    refine p_callSv (in_t w (k := k - 1) _ _ _ _ (by exact in_nI (lo := 0) (hi := 3) (by omega) (by omega) (by omega))) ksX8_75 (by decide +kernel) (by omega) rfl rfl rfl rfl rfl ?_
    refine p_if_eq (off := 28) 41 (by decide +kernel) (by decide) (fun cq13 => ?_) (fun cq13 => ?_)
    · exact False.elim (by revert cq13; decide)
    · refine p_run (pc' := 18) [.iload_n 2, .iconst 1] mkX8_lay (by decide +kernel) rfl rfl ?_
      refine p_icmp_ne (off := 11) 29 (by decide +kernel) (by decide) (fun cq18 => ?_) (fun cq18 => ?_)
      · refine p_run (pc' := 31) [.iload_n 2, .iconst 2] mkX8_lay (by decide +kernel) rfl rfl ?_
        refine p_icmp_ne (off := 13) 44 (by decide +kernel) (by decide) (fun cq31 => ?_) (fun cq31 => ?_)
        · refine p_run (pc' := 46) [.iload_n 2, .iconst 2] mkX8_lay (by decide +kernel) rfl rfl ?_
          refine p_icmp_ne (off := 15) 61 (by decide +kernel) (by decide) (fun cq46 => ?_) (fun cq46 => ?_)
          · refine p_run (pc' := 66) [.aload_n 0, .getfield 57, .iload_n 1] mkX8_lay (by decide +kernel) rfl rfl ?_
            refine p_iald (s) (by decide +kernel) rfl rfl (by first | rfl | simp only [oI]) (by omega) ?_
            refine p_run (pc' := 75) [.istore 4, .aload_n 0, .getfield 57, .iload_n 1, .iload_n 2] mkX8_lay (by decide +kernel) rfl rfl ?_
            refine p_iast (s) (by decide +kernel) rfl rfl (by first | rfl | simp only [oI]) (by omega)  ?_
            refine p_run (pc' := 83) [.aload_n 0, .getfield 60, .iload_n 1, .iload_n 2, .iconst 1] mkX8_lay (by decide +kernel) rfl rfl ?_
            refine p_icmp_ne (off := 12) 95 (by decide +kernel) (by decide) (fun cq83 => ?_) (fun cq83 => ?_)
            · refine p_run (pc' := 97) [.iload_n 2, .iconst 2] mkX8_lay (by decide +kernel) rfl rfl ?_
              refine p_icmp_ne (off := 12) 109 (by decide +kernel) (by decide) (fun cq97 => ?_) (fun cq97 => ?_)
              · refine p_run (pc' := 110) [.iload_n 3] mkX8_lay (by decide +kernel) rfl rfl ?_
                refine p_iast (s) (by decide +kernel) rfl rfl (by first | rfl | simp only [oI]) (by omega)  ?_
                refine p_run (pc' := 118) [.aload_n 0, .getfield 63, .iload_n 1, .iload_n 2, .iconst 1] mkX8_lay (by decide +kernel) rfl rfl ?_
                refine p_icmp_ne (off := 11) 129 (by decide +kernel) (by decide) (fun cq118 => ?_) (fun cq118 => ?_)
                · refine p_run (pc' := 130) [.iconst 0] mkX8_lay (by decide +kernel) rfl rfl ?_
                  refine p_iast (s) (by decide +kernel) rfl rfl (by first | rfl | simp only [oI]) (by omega)  ?_
                  refine p_run (pc' := 134) [.iconst 0, .istore 5] mkX8_lay (by decide +kernel) rfl rfl ?_
                  refine p_run (pc' := 138) [.iload 5, .bipush 24] mkX8_lay (by decide +kernel) rfl rfl ?_
                  refine p_icmp_ge (off := 38) 176 (by decide +kernel) (by decide) (fun cqa => ?_) (fun cqa => ?_)
                  · exact False.elim (by revert cqa; decide)
                  · refine p_run (pc' := 143) [.iload_n 2, .iconst 2] mkX8_lay (by decide +kernel) rfl rfl ?_
                    refine p_icmp_ne (off := 33) 176 (by decide +kernel) (by decide) (fun cqb => ?_) (fun cqb => ?_)
                    · refine p_run (pc' := 178) [.iload 4] mkX8_lay (by decide +kernel) rfl rfl ?_
                      refine p_iret rfl rfl (by decide +kernel) ?_
                      exact ⟨rfl, rfl⟩
                    · exact False.elim (by revert cqb; decide)
                · exact False.elim (by revert cq118; decide)
              · exact False.elim (by revert cq97; decide)
            · exact False.elim (by revert cq83; decide)
          · exact False.elim (by revert cq46; decide)
        · exact False.elim (by revert cq31; decide)
      · exact False.elim (by revert cq18; decide)
set_option maxRecDepth 20000 in
set_option maxHeartbeats 4000000 in
theorem r_lay3 (w : Wt) {k : Nat} (hk : 4 ≤ k) (s : Nat) (hs : s < 5) (x : Int32) (h : Mm) : Ok w k MX8_lay [.ref 96, .int (nI s), .int (nI 3), .int x] h (Rv (h 112 s) (up (up (up h 112 s (nI 3)) 113 s x) 114 s (nI 0))) := by
  show Wp w k MX8_lay _ 0 [some (.ref 96), some (.int (nI s)), some (.int (nI 3)), some (.int x), none, none] [] h
  refine p_run (pc' := 1) [.iload_n 1] mkX8_lay (by decide +kernel) rfl rfl ?_
  refine p_callSv (isSlot_t w (k := k - 1) (by omega) _ _ (in_nI (lo := 0) (hi := 4) (by omega) (Nat.le_of_lt_succ hs) (by omega))) ksX8_285 (by decide +kernel) (by omega) rfl rfl rfl rfl rfl ?_
  refine p_if_eq (off := 37) 41 (by decide +kernel) (by decide) (fun cq4 => ?_) (fun cq4 => ?_)
  · exact False.elim (by revert cq4; decide)
  · refine p_run (pc' := 10) [.iload_n 2, .iconst 0, .iconst 3] mkX8_lay (by decide +kernel) rfl rfl ?_
    refine p_callSv (in_t w (k := k - 1) _ _ _ _ (by exact in_nI (lo := 0) (hi := 3) (by omega) (by omega) (by omega))) ksX8_75 (by decide +kernel) (by omega) rfl rfl rfl rfl rfl ?_
    refine p_if_eq (off := 28) 41 (by decide +kernel) (by decide) (fun cq13 => ?_) (fun cq13 => ?_)
    · exact False.elim (by revert cq13; decide)
    · refine p_run (pc' := 18) [.iload_n 2, .iconst 1] mkX8_lay (by decide +kernel) rfl rfl ?_
      refine p_icmp_ne (off := 11) 29 (by decide +kernel) (by decide) (fun cq18 => ?_) (fun cq18 => ?_)
      · refine p_run (pc' := 31) [.iload_n 2, .iconst 2] mkX8_lay (by decide +kernel) rfl rfl ?_
        refine p_icmp_ne (off := 13) 44 (by decide +kernel) (by decide) (fun cq31 => ?_) (fun cq31 => ?_)
        · refine p_run (pc' := 46) [.iload_n 2, .iconst 2] mkX8_lay (by decide +kernel) rfl rfl ?_
          refine p_icmp_ne (off := 15) 61 (by decide +kernel) (by decide) (fun cq46 => ?_) (fun cq46 => ?_)
          · refine p_run (pc' := 66) [.aload_n 0, .getfield 57, .iload_n 1] mkX8_lay (by decide +kernel) rfl rfl ?_
            refine p_iald (s) (by decide +kernel) rfl rfl (by first | rfl | simp only [oI]) (by omega) ?_
            refine p_run (pc' := 75) [.istore 4, .aload_n 0, .getfield 57, .iload_n 1, .iload_n 2] mkX8_lay (by decide +kernel) rfl rfl ?_
            refine p_iast (s) (by decide +kernel) rfl rfl (by first | rfl | simp only [oI]) (by omega)  ?_
            refine p_run (pc' := 83) [.aload_n 0, .getfield 60, .iload_n 1, .iload_n 2, .iconst 1] mkX8_lay (by decide +kernel) rfl rfl ?_
            refine p_icmp_ne (off := 12) 95 (by decide +kernel) (by decide) (fun cq83 => ?_) (fun cq83 => ?_)
            · refine p_run (pc' := 97) [.iload_n 2, .iconst 2] mkX8_lay (by decide +kernel) rfl rfl ?_
              refine p_icmp_ne (off := 12) 109 (by decide +kernel) (by decide) (fun cq97 => ?_) (fun cq97 => ?_)
              · refine p_run (pc' := 110) [.iload_n 3] mkX8_lay (by decide +kernel) rfl rfl ?_
                refine p_iast (s) (by decide +kernel) rfl rfl (by first | rfl | simp only [oI]) (by omega)  ?_
                refine p_run (pc' := 118) [.aload_n 0, .getfield 63, .iload_n 1, .iload_n 2, .iconst 1] mkX8_lay (by decide +kernel) rfl rfl ?_
                refine p_icmp_ne (off := 11) 129 (by decide +kernel) (by decide) (fun cq118 => ?_) (fun cq118 => ?_)
                · refine p_run (pc' := 130) [.iconst 0] mkX8_lay (by decide +kernel) rfl rfl ?_
                  refine p_iast (s) (by decide +kernel) rfl rfl (by first | rfl | simp only [oI]) (by omega)  ?_
                  refine p_run (pc' := 134) [.iconst 0, .istore 5] mkX8_lay (by decide +kernel) rfl rfl ?_
                  refine p_run (pc' := 138) [.iload 5, .bipush 24] mkX8_lay (by decide +kernel) rfl rfl ?_
                  refine p_icmp_ge (off := 38) 176 (by decide +kernel) (by decide) (fun cqa => ?_) (fun cqa => ?_)
                  · exact False.elim (by revert cqa; decide)
                  · refine p_run (pc' := 143) [.iload_n 2, .iconst 2] mkX8_lay (by decide +kernel) rfl rfl ?_
                    refine p_icmp_ne (off := 33) 176 (by decide +kernel) (by decide) (fun cqb => ?_) (fun cqb => ?_)
                    · refine p_run (pc' := 178) [.iload 4] mkX8_lay (by decide +kernel) rfl rfl ?_
                      refine p_iret rfl rfl (by decide +kernel) ?_
                      exact ⟨rfl, rfl⟩
                    · exact False.elim (by revert cqb; decide)
                · exact False.elim (by revert cq118; decide)
              · exact False.elim (by revert cq97; decide)
            · exact False.elim (by revert cq83; decide)
          · exact False.elim (by revert cq46; decide)
        · exact False.elim (by revert cq31; decide)
      · exact False.elim (by revert cq18; decide)
set_option maxRecDepth 20000 in
set_option maxHeartbeats 4000000 in
theorem r_lay1 (w : Wt) {k : Nat} (hk : 4 ≤ k) (s q : Nat) (hs : s < 5) (h : Mm) (hI : Iv (h 97)) (hq : q < nd (h 97)) : Ok w k MX8_lay [.ref 96, .int (nI s), .int (nI 1), .int (nI q)] h (Rv (h 112 s) (up (up (up h 112 s (nI 1)) 113 s (dK (h 97) q 0)) 114 s (woF (h 97) q))) := by
  show Wp w k MX8_lay _ 0 [some (.ref 96), some (.int (nI s)), some (.int (nI 1)), some (.int (nI q)), none, none] [] h
  have hn10 := hI.nd.2
  refine p_run (pc' := 1) [.iload_n 1] mkX8_lay (by decide +kernel) rfl rfl ?_
  refine p_callSv (isSlot_t w (k := k - 1) (by omega) _ _ (in_nI (lo := 0) (hi := 4) (by omega) (Nat.le_of_lt_succ hs) (by omega))) ksX8_285 (by decide +kernel) (by omega) rfl rfl rfl rfl rfl ?_
  refine p_if_eq (off := 37) 41 (by decide +kernel) (by decide) (fun cq4 => ?_) (fun cq4 => ?_)
  · exact False.elim (by revert cq4; decide)
  · refine p_run (pc' := 10) [.iload_n 2, .iconst 0, .iconst 3] mkX8_lay (by decide +kernel) rfl rfl ?_
    refine p_callSv (in_t w (k := k - 1) _ _ _ _ (by exact in_nI (lo := 0) (hi := 3) (by omega) (by omega) (by omega))) ksX8_75 (by decide +kernel) (by omega) rfl rfl rfl rfl rfl ?_
    refine p_if_eq (off := 28) 41 (by decide +kernel) (by decide) (fun cq13 => ?_) (fun cq13 => ?_)
    · exact False.elim (by revert cq13; decide)
    · refine p_run (pc' := 18) [.iload_n 2, .iconst 1] mkX8_lay (by decide +kernel) rfl rfl ?_
      refine p_icmp_ne (off := 11) 29 (by decide +kernel) (by decide) (fun cq18 => ?_) (fun cq18 => ?_)
      · exact False.elim (by revert cq18; decide)
      · refine p_run (pc' := 23) [.aload_n 0, .iload_n 3] mkX8_lay (by decide +kernel) rfl rfl ?_
        refine p_callVv (isDigger_t w (k := k - 1) (by omega) _ _ (isD_nI hI.nd.1 hq hI.nd.2)) kvX8_129 (by decide +kernel) (by decide) rfl (by omega) rfl rfl rfl rfl rfl ?_
        refine p_if_eq (off := 15) 41 (by decide +kernel) (by decide) (fun cq26 => ?_) (fun cq26 => ?_)
        · exact False.elim (by revert cq26; decide)
        · refine p_run (pc' := 31) [.iload_n 2, .iconst 2] mkX8_lay (by decide +kernel) rfl rfl ?_
          refine p_icmp_ne (off := 13) 44 (by decide +kernel) (by decide) (fun cq31 => ?_) (fun cq31 => ?_)
          · refine p_run (pc' := 46) [.iload_n 2, .iconst 2] mkX8_lay (by decide +kernel) rfl rfl ?_
            refine p_icmp_ne (off := 15) 61 (by decide +kernel) (by decide) (fun cq46 => ?_) (fun cq46 => ?_)
            · refine p_run (pc' := 66) [.aload_n 0, .getfield 57, .iload_n 1] mkX8_lay (by decide +kernel) rfl rfl ?_
              refine p_iald (s) (by decide +kernel) rfl rfl (by first | rfl | simp only [oI]) (by omega) ?_
              refine p_run (pc' := 75) [.istore 4, .aload_n 0, .getfield 57, .iload_n 1, .iload_n 2] mkX8_lay (by decide +kernel) rfl rfl ?_
              refine p_iast (s) (by decide +kernel) rfl rfl (by first | rfl | simp only [oI]) (by omega)  ?_
              refine p_run (pc' := 83) [.aload_n 0, .getfield 60, .iload_n 1, .iload_n 2, .iconst 1] mkX8_lay (by decide +kernel) rfl rfl ?_
              refine p_icmp_ne (off := 12) 95 (by decide +kernel) (by decide) (fun cq83 => ?_) (fun cq83 => ?_)
              · exact False.elim (by revert cq83; decide)
              · refine p_run (pc' := 89) [.aload_n 0, .iload_n 3, .iconst 0] mkX8_lay (by decide +kernel) rfl rfl ?_
                refine p_callVv (of_ok w (k := k - 1) q 0 _ (by omega)) kvX8_83 (by decide +kernel) (by decide) rfl (by omega) rfl rfl rfl rfl rfl ?_
                refine p_run (pc' := 110) [.goto 18] mkX8_lay (by decide +kernel) rfl rfl ?_
                refine p_iast (s) (by decide +kernel) rfl rfl (by first | rfl | simp only [oI]) (by omega)  ?_
                refine p_run (pc' := 118) [.aload_n 0, .getfield 63, .iload_n 1, .iload_n 2, .iconst 1] mkX8_lay (by decide +kernel) rfl rfl ?_
                refine p_icmp_ne (off := 11) 129 (by decide +kernel) (by decide) (fun cq118 => ?_) (fun cq118 => ?_)
                · exact False.elim (by revert cq118; decide)
                · refine p_run (pc' := 123) [.aload_n 0, .iload_n 3] mkX8_lay (by decide +kernel) rfl rfl ?_
                  refine p_callVv (worthOf_ok w (k := k - 1) (by omega) q (by omega) _ (by exact hI)) kvX8_138 (by decide +kernel) (by decide) rfl (by omega) rfl rfl rfl rfl rfl ?_
                  refine p_run (pc' := 130) [.goto 4] mkX8_lay (by decide +kernel) rfl rfl ?_
                  refine p_iast (s) (by decide +kernel) rfl rfl (by first | rfl | simp only [oI]) (by omega)  ?_
                  refine p_run (pc' := 134) [.iconst 0, .istore 5] mkX8_lay (by decide +kernel) rfl rfl ?_
                  refine p_run (pc' := 138) [.iload 5, .bipush 24] mkX8_lay (by decide +kernel) rfl rfl ?_
                  refine p_icmp_ge (off := 38) 176 (by decide +kernel) (by decide) (fun cqa => ?_) (fun cqa => ?_)
                  · exact False.elim (by revert cqa; decide)
                  · refine p_run (pc' := 143) [.iload_n 2, .iconst 2] mkX8_lay (by decide +kernel) rfl rfl ?_
                    refine p_icmp_ne (off := 33) 176 (by decide +kernel) (by decide) (fun cqb => ?_) (fun cqb => ?_)
                    · refine p_run (pc' := 178) [.iload 4] mkX8_lay (by decide +kernel) rfl rfl ?_
                      refine p_iret rfl rfl (by decide +kernel) ?_
                      exact ⟨rfl, rfl⟩
                    · exact False.elim (by revert cqb; decide)
            · exact False.elim (by revert cq46; decide)
          · exact False.elim (by revert cq31; decide)
set_option maxRecDepth 20000 in
set_option maxHeartbeats 4000000 in
theorem r_lay2 (w : Wt) {k : Nat} (hk : 4 ≤ k) (s q : Nat) (hs : s < 5) (hq : q < 4) (h : Mm) (hy : ¬ h 109 q < 0) : Ok w k MX8_lay [.ref 96, .int (nI s), .int (nI 2), .int (nI q)] h (Rv (h 112 s) (wr (up (up (up h 112 s (nI 2)) 113 s (h 110 q)) 114 s (nI 0)) 115 (spl (h 115) (24 * s) 24 (fun k => h 111 (24 * q + k))))) := by
  show Wp w k MX8_lay _ 0 [some (.ref 96), some (.int (nI s)), some (.int (nI 2)), some (.int (nI q)), none, none] [] h
  refine p_run (pc' := 1) [.iload_n 1] mkX8_lay (by decide +kernel) rfl rfl ?_
  refine p_callSv (isSlot_t w (k := k - 1) (by omega) _ _ (in_nI (lo := 0) (hi := 4) (by omega) (Nat.le_of_lt_succ hs) (by omega))) ksX8_285 (by decide +kernel) (by omega) rfl rfl rfl rfl rfl ?_
  refine p_if_eq (off := 37) 41 (by decide +kernel) (by decide) (fun cq4 => ?_) (fun cq4 => ?_)
  · exact False.elim (by revert cq4; decide)
  · refine p_run (pc' := 10) [.iload_n 2, .iconst 0, .iconst 3] mkX8_lay (by decide +kernel) rfl rfl ?_
    refine p_callSv (in_t w (k := k - 1) _ _ _ _ (by exact in_nI (lo := 0) (hi := 3) (by omega) (by omega) (by omega))) ksX8_75 (by decide +kernel) (by omega) rfl rfl rfl rfl rfl ?_
    refine p_if_eq (off := 28) 41 (by decide +kernel) (by decide) (fun cq13 => ?_) (fun cq13 => ?_)
    · exact False.elim (by revert cq13; decide)
    · refine p_run (pc' := 18) [.iload_n 2, .iconst 1] mkX8_lay (by decide +kernel) rfl rfl ?_
      refine p_icmp_ne (off := 11) 29 (by decide +kernel) (by decide) (fun cq18 => ?_) (fun cq18 => ?_)
      · refine p_run (pc' := 31) [.iload_n 2, .iconst 2] mkX8_lay (by decide +kernel) rfl rfl ?_
        refine p_icmp_ne (off := 13) 44 (by decide +kernel) (by decide) (fun cq31 => ?_) (fun cq31 => ?_)
        · exact False.elim (by revert cq31; decide)
        · refine p_run (pc' := 35) [.iload_n 3] mkX8_lay (by decide +kernel) rfl rfl ?_
          refine p_callSv (isSheet_t w (k := k - 1) (by omega) _ _ (in_nI (lo := 0) (hi := 3) (by omega) (by omega) (by omega))) ksX8_206 (by decide +kernel) (by omega) rfl rfl rfl rfl rfl ?_
          refine p_if_ne (off := 6) 44 (by decide +kernel) (by decide) (fun cq38 => ?_) (fun cq38 => ?_)
          · refine p_run (pc' := 46) [.iload_n 2, .iconst 2] mkX8_lay (by decide +kernel) rfl rfl ?_
            refine p_icmp_ne (off := 15) 61 (by decide +kernel) (by decide) (fun cq46 => ?_) (fun cq46 => ?_)
            · exact False.elim (by revert cq46; decide)
            · refine p_run (pc' := 54) [.aload_n 0, .getfield 48, .iload_n 3] mkX8_lay (by decide +kernel) rfl rfl ?_
              refine p_iald (q) (by decide +kernel) rfl rfl (by first | rfl | simp only [oI]) (by omega) ?_
              refine p_if_ge (off := 6) 61 (by decide +kernel) (by decide) (fun cq55 => ?_) (fun cq55 => ?_)
              · refine p_run (pc' := 66) [.aload_n 0, .getfield 57, .iload_n 1] mkX8_lay (by decide +kernel) rfl rfl ?_
                refine p_iald (s) (by decide +kernel) rfl rfl (by first | rfl | simp only [oI]) (by omega) ?_
                refine p_run (pc' := 75) [.istore 4, .aload_n 0, .getfield 57, .iload_n 1, .iload_n 2] mkX8_lay (by decide +kernel) rfl rfl ?_
                refine p_iast (s) (by decide +kernel) rfl rfl (by first | rfl | simp only [oI]) (by omega)  ?_
                refine p_run (pc' := 83) [.aload_n 0, .getfield 60, .iload_n 1, .iload_n 2, .iconst 1] mkX8_lay (by decide +kernel) rfl rfl ?_
                refine p_icmp_ne (off := 12) 95 (by decide +kernel) (by decide) (fun cq83 => ?_) (fun cq83 => ?_)
                · refine p_run (pc' := 97) [.iload_n 2, .iconst 2] mkX8_lay (by decide +kernel) rfl rfl ?_
                  refine p_icmp_ne (off := 12) 109 (by decide +kernel) (by decide) (fun cq97 => ?_) (fun cq97 => ?_)
                  · exact False.elim (by revert cq97; decide)
                  · refine p_run (pc' := 105) [.aload_n 0, .getfield 51, .iload_n 3] mkX8_lay (by decide +kernel) rfl rfl ?_
                    refine p_iald (q) (by decide +kernel) rfl rfl rfl hq ?_
                    refine p_run (pc' := 110) [.goto 4] mkX8_lay (by decide +kernel) rfl rfl ?_
                    refine p_iast (s) (by decide +kernel) rfl rfl (by first | rfl | simp only [oI]) (by omega)  ?_
                    refine p_run (pc' := 118) [.aload_n 0, .getfield 63, .iload_n 1, .iload_n 2, .iconst 1] mkX8_lay (by decide +kernel) rfl rfl ?_
                    refine p_icmp_ne (off := 11) 129 (by decide +kernel) (by decide) (fun cq118 => ?_) (fun cq118 => ?_)
                    · refine p_run (pc' := 130) [.iconst 0] mkX8_lay (by decide +kernel) rfl rfl ?_
                      refine p_iast (s) (by decide +kernel) rfl rfl (by first | rfl | simp only [oI]) (by omega)  ?_
                      refine p_run (pc' := 134) [.iconst 0, .istore 5] mkX8_lay (by decide +kernel) rfl rfl ?_
                      generalize e3 : up (up (up h 112 s _) 113 s _) 114 s _ = h3
                      have e111 : h3 111 = h 111 := by rw [← e3, upN (by decide), upN (by decide), upN (by decide)]
                      refine Wp.for (24) (fun i L hh => L = [some (.ref 96), some (.int (nI s)), some (.int (nI 2)), some (.int (nI q)), some (.int (h 112 s)), some (.int (nI i))] ∧ hh = wr h3 115 (spl (h3 115) (24 * s) i (fun k => h 111 (24 * q + k)))) ?_ ?_ (0) (by omega) _ _ ?_
                      · rintro i L hh hi ⟨rfl, hJ⟩ ih
                        subst hJ
                        refine p_run (pc' := 138) [.iload 5, .bipush 24] mkX8_lay (by decide +kernel) rfl rfl ?_
                        refine p_icmp_ge (off := 38) 176 (by decide +kernel) (by decide) (fun cq1 => ?_) (fun cq1 => ?_)
                        · exact False.elim (by rw [oI, nI_leI (by omega) (by omega)] at cq1; omega)
                        · refine p_run (pc' := 143) [.iload_n 2, .iconst 2] mkX8_lay (by decide +kernel) rfl rfl ?_
                          refine p_icmp_ne (off := 33) 176 (by decide +kernel) (by decide) (fun cq2 => ?_) (fun cq2 => ?_)
                          · exact False.elim (by revert cq2; decide)
                          · refine p_run (pc' := 168) [.aload_n 0, .getfield 66, .bipush 24, .iload_n 1, .imul, .iload 5, .iadd, .aload_n 0, .getfield 54, .bipush 24, .iload_n 3, .imul, .iload 5, .iadd] mkX8_lay (by decide +kernel) rfl rfl ?_
                            refine p_iald (24 * q + i) (by decide +kernel) rfl rfl (by simp only [oI, nIm, nI_add]) (by omega) ?_
                            rw [wrN (by decide), e111]
                            refine p_iast (24 * s + i) (by decide +kernel) rfl rfl (by simp only [oI, nIm, nI_add]) (by omega)  ?_
                            refine p_run (pc' := 134) [.iinc 5 1, .goto (-39)] mkX8_lay (by decide +kernel) rfl rfl ?_
                            exact ih _ _ ⟨by rw [show nI i + Int32.ofInt 1 = nI (i + 1) by simp only [oI, nI_add]], by rw [up_up97, wr_wr, wrS, ← splS]⟩
                      · rintro L hh ⟨rfl, hJ⟩
                        subst hJ
                        refine p_run (pc' := 138) [.iload 5, .bipush 24] mkX8_lay (by decide +kernel) rfl rfl ?_
                        refine p_icmp_ge (off := 38) 176 (by decide +kernel) (by decide) (fun cq1 => ?_) (fun cq1 => ?_)
                        · refine p_run (pc' := 178) [.iload 4] mkX8_lay (by decide +kernel) rfl rfl ?_
                          refine p_iret rfl rfl (by decide +kernel) ?_
                          exact ⟨rfl, by rw [← e3, upN (by decide), upN (by decide), upN (by decide)]⟩
                        · exact False.elim (by revert cq1; decide)
                      · exact ⟨rfl, by rw [spl0, wr_self, ← e3]; rfl⟩
                    · exact False.elim (by revert cq118; decide)
                · exact False.elim (by revert cq83; decide)
              · exact absurd (Int32.not_lt.mp hy) cq55
          · exact False.elim (by revert cq38; decide)
      · exact False.elim (by revert cq18; decide)
set_option maxRecDepth 20000 in
set_option maxHeartbeats 4000000 in
theorem r_ask_bad (w : Wt) {k : Nat} (hk : 2 ≤ k) (a b : Int32) (h : Mm) (hb : ¬ (inR a 0 4 ∧ inR b 0 5)) : Ok w k MX8_ask [.ref 96, .int a, .int b] h (Rv BADv h) := by
  show Wp w k MX8_ask _ 0 [some (.ref 96), some (.int a), some (.int b)] [] h
  refine p_run (pc' := 1) [.iload_n 1] mkX8_ask (by decide +kernel) rfl rfl ?_
  refine p_callSv (risSlot_ok w (k := k - 1) (by omega) _ _) ksX8_285 (by decide +kernel) (by omega) rfl rfl rfl rfl rfl ?_
  refine p_if_eq (off := 12) 16 (by decide +kernel) (by decide) (fun cq4 => ?_) (fun cq4 => ?_)
  · have cq4 := bI0.mp cq4
    refine p_run (pc' := 18) [.ldc 123] mkX8_ask (by decide +kernel) rfl rfl ?_
    refine p_iret rfl rfl (by decide +kernel) ?_
    exact ⟨rfl, rfl⟩
  · have cq4 := bI1.mp cq4
    refine p_run (pc' := 10) [.iload_n 2, .iconst 0, .iconst 5] mkX8_ask (by decide +kernel) rfl rfl ?_
    refine p_callSv (in_ok w (k := k - 1) _ _ _ _) ksX8_75 (by decide +kernel) (by omega) rfl rfl rfl rfl rfl ?_
    refine p_if_ne (off := 6) 19 (by decide +kernel) (by decide) (fun cq13 => ?_) (fun cq13 => ?_)
    · have cq13 := bI1.mp cq13
      exact absurd ⟨cq4, cq13⟩ hb
    · have cq13 := bI0.mp cq13
      refine p_run (pc' := 18) [.ldc 123] mkX8_ask (by decide +kernel) rfl rfl ?_
      refine p_iret rfl rfl (by decide +kernel) ?_
      exact ⟨rfl, rfl⟩
set_option maxRecDepth 20000 in
set_option maxHeartbeats 4000000 in
theorem r_ask (w : Wt) {k : Nat} (hk : 2 ≤ k) (s j : Nat) (hs : s < 5) (hj : j ≤ 5) (h : Mm) (hA : h 112 s = nI 1 → In (h 113 s) 5) : Ok w k MX8_ask [.ref 96, .int (nI s), .int (nI j)] h (if h 112 s = 0 then Rv NOTHINGv h else if h 112 s = nI 1 then @ite _ (unP (nN (h 113 s)) j) (Classical.propDecidable _) (Rv (h 114 s) h) (Rv KINDv h) else Rv KINDv h) := by
  show Wp w k MX8_ask _ 0 [some (.ref 96), some (.int (nI s)), some (.int (nI j))] [] h
  refine p_run (pc' := 1) [.iload_n 1] mkX8_ask (by decide +kernel) rfl rfl ?_
  refine p_callSv (isSlot_t w (k := k - 1) (by omega) _ _ (in_nI (lo := 0) (hi := 4) (by omega) (Nat.le_of_lt_succ hs) (by omega))) ksX8_285 (by decide +kernel) (by omega) rfl rfl rfl rfl rfl ?_
  refine p_if_eq (off := 12) 16 (by decide +kernel) (by decide) (fun cq4 => ?_) (fun cq4 => ?_)
  · exact False.elim (by revert cq4; decide)
  · refine p_run (pc' := 10) [.iload_n 2, .iconst 0, .iconst 5] mkX8_ask (by decide +kernel) rfl rfl ?_
    refine p_callSv (in_t w (k := k - 1) _ _ _ _ (by exact in_nI (lo := 0) (hi := 5) (by omega) (by omega) (by omega))) ksX8_75 (by decide +kernel) (by omega) rfl rfl rfl rfl rfl ?_
    refine p_if_ne (off := 6) 19 (by decide +kernel) (by decide) (fun cq13 => ?_) (fun cq13 => ?_)
    · refine p_run (pc' := 24) [.aload_n 0, .getfield 57, .iload_n 1] mkX8_ask (by decide +kernel) rfl rfl ?_
      refine p_iald (s) (by decide +kernel) rfl rfl (by first | rfl | simp only [oI]) (by omega) ?_
      refine p_if_ne (off := 6) 31 (by decide +kernel) (by decide) (fun cq25 => ?_) (fun cq25 => ?_)
      · refine p_run (pc' := 36) [.aload_n 0, .getfield 57, .iload_n 1] mkX8_ask (by decide +kernel) rfl rfl ?_
        refine p_iald (s) (by decide +kernel) rfl rfl (by first | rfl | simp only [oI]) (by omega) ?_
        refine p_run (pc' := 38) [.iconst 1] mkX8_ask (by decide +kernel) rfl rfl ?_
        refine p_icmp_ne (off := 25) 63 (by decide +kernel) (by decide) (fun cq38 => ?_) (fun cq38 => ?_)
        · refine p_run (pc' := 65) [.ldc 145] mkX8_ask (by decide +kernel) rfl rfl ?_
          refine p_iret rfl rfl (by decide +kernel) ?_
          exact iF cq25 (iF cq38 (⟨rfl, rfl⟩))
        · refine p_run (pc' := 46) [.aload_n 0, .getfield 60, .iload_n 1] mkX8_ask (by decide +kernel) rfl rfl ?_
          refine p_iald (s) (by decide +kernel) rfl rfl rfl hs ?_
          refine Wp.eqS (st' := [.int (nI (nN (h 113 s)))]) (by rw [← (hA cq38).1]) ?_
          refine p_run (pc' := 48) [.iload_n 2] mkX8_ask (by decide +kernel) rfl rfl ?_
          refine p_callSv (isUnder_ok w (k := k - 1) (nN (h 113 s)) j (hA cq38).2 hj _) ksX8_141 (by decide +kernel) (by omega) rfl rfl rfl rfl rfl ?_
          refine p_if_eq (off := 12) 63 (by decide +kernel) (by decide) (fun cq51 => ?_) (fun cq51 => ?_)
          · have cq51 := bI0.mp cq51
            refine p_run (pc' := 65) [.ldc 145] mkX8_ask (by decide +kernel) rfl rfl ?_
            refine p_iret rfl rfl (by decide +kernel) ?_
            exact iF cq25 (iT cq38 (@iF _ (Classical.propDecidable _) _ _ _ _ cq51 (⟨rfl, rfl⟩)))
          · have cq51 := bI1.mp cq51
            refine p_run (pc' := 59) [.aload_n 0, .getfield 63, .iload_n 1] mkX8_ask (by decide +kernel) rfl rfl ?_
            refine p_iald (s) (by decide +kernel) rfl rfl (by first | rfl | simp only [oI]) (by omega) ?_
            refine p_run (pc' := 65) [.goto 5] mkX8_ask (by decide +kernel) rfl rfl ?_
            refine p_iret rfl rfl (by decide +kernel) ?_
            exact iF cq25 (iT cq38 (@iT _ (Classical.propDecidable _) _ _ _ _ cq51 (⟨rfl, rfl⟩)))
      · refine p_run (pc' := 30) [.ldc 209] mkX8_ask (by decide +kernel) rfl rfl ?_
        refine p_iret rfl rfl (by decide +kernel) ?_
        exact iT cq25 (⟨rfl, rfl⟩)
    · exact False.elim (by revert cq13; decide)
set_option maxRecDepth 20000 in
set_option maxHeartbeats 4000000 in
theorem r_item_bad (w : Wt) {k : Nat} (hk : 2 ≤ k) (a b : Int32) (h : Mm) (hb : ¬ inR a 0 4) : Ok w k MX8_item [.ref 96, .int a, .int b] h (Rv BADv h) := by
  show Wp w k MX8_item _ 0 [some (.ref 96), some (.int a), some (.int b), none] [] h
  refine p_run (pc' := 1) [.iload_n 1] mkX8_item (by decide +kernel) rfl rfl ?_
  refine p_callSv (risSlot_ok w (k := k - 1) (by omega) _ _) ksX8_285 (by decide +kernel) (by omega) rfl rfl rfl rfl rfl ?_
  refine p_if_ne (off := 6) 10 (by decide +kernel) (by decide) (fun cq4 => ?_) (fun cq4 => ?_)
  · have cq4 := bI1.mp cq4
    exact absurd cq4 hb
  · have cq4 := bI0.mp cq4
    refine p_run (pc' := 9) [.ldc 123] mkX8_item (by decide +kernel) rfl rfl ?_
    refine p_iret rfl rfl (by decide +kernel) ?_
    exact ⟨rfl, rfl⟩
set_option maxRecDepth 20000 in
set_option maxHeartbeats 4000000 in
theorem r_rest_bad (w : Wt) {k : Nat} (hk : 2 ≤ k) (a b : Int32) (h : Mm) (hb : ¬ inR a 0 4) : Ok w k MX8_rest [.ref 96, .int a, .int b] h (Rv BADv h) := by
  show Wp w k MX8_rest _ 0 [some (.ref 96), some (.int a), some (.int b)] [] h
  refine p_run (pc' := 1) [.iload_n 1] mkX8_rest (by decide +kernel) rfl rfl ?_
  refine p_callSv (risSlot_ok w (k := k - 1) (by omega) _ _) ksX8_285 (by decide +kernel) (by omega) rfl rfl rfl rfl rfl ?_
  refine p_if_ne (off := 6) 10 (by decide +kernel) (by decide) (fun cq4 => ?_) (fun cq4 => ?_)
  · have cq4 := bI1.mp cq4
    exact absurd cq4 hb
  · have cq4 := bI0.mp cq4
    refine p_run (pc' := 9) [.ldc 123] mkX8_rest (by decide +kernel) rfl rfl ?_
    refine p_iret rfl rfl (by decide +kernel) ?_
    exact ⟨rfl, rfl⟩
set_option maxRecDepth 20000 in
set_option maxHeartbeats 4000000 in
theorem r_item (w : Wt) {k : Nat} (hk : 2 ≤ k) (s : Nat) (hs : s < 5) (b : Int32) (h : Mm) (hA : h 112 s = nI 2 → In (h 113 s) 24) : Ok w k MX8_item [.ref 96, .int (nI s), .int b] h (if h 112 s = 0 then Rv NOTHINGv h else if h 112 s = nI 2 then (if nI 0 ≤ b ∧ b ≤ h 113 s - nI 1 then (if h 115 (24 * s + nN b) = NONEv then Rv KINDv h else Rv (h 115 (24 * s + nN b)) h) else Rv INDEXv h) else Rv KINDv h) := by
  show Wp w k MX8_item _ 0 [some (.ref 96), some (.int (nI s)), some (.int b), none] [] h
  refine p_run (pc' := 1) [.iload_n 1] mkX8_item (by decide +kernel) rfl rfl ?_
  refine p_callSv (isSlot_t w (k := k - 1) (by omega) _ _ (in_nI (lo := 0) (hi := 4) (by omega) (Nat.le_of_lt_succ hs) (by omega))) ksX8_285 (by decide +kernel) (by omega) rfl rfl rfl rfl rfl ?_
  refine p_if_ne (off := 6) 10 (by decide +kernel) (by decide) (fun cq4 => ?_) (fun cq4 => ?_)
  · refine p_run (pc' := 15) [.aload_n 0, .getfield 57, .iload_n 1] mkX8_item (by decide +kernel) rfl rfl ?_
    refine p_iald (s) (by decide +kernel) rfl rfl (by first | rfl | simp only [oI]) (by omega) ?_
    refine p_if_ne (off := 6) 22 (by decide +kernel) (by decide) (fun cq16 => ?_) (fun cq16 => ?_)
    · refine p_run (pc' := 27) [.aload_n 0, .getfield 57, .iload_n 1] mkX8_item (by decide +kernel) rfl rfl ?_
      refine p_iald (s) (by decide +kernel) rfl rfl (by first | rfl | simp only [oI]) (by omega) ?_
      refine p_run (pc' := 29) [.iconst 2] mkX8_item (by decide +kernel) rfl rfl ?_
      refine p_icmp_eq (off := 6) 35 (by decide +kernel) (by decide) (fun cq29 => ?_) (fun cq29 => ?_)
      · refine p_run (pc' := 42) [.iload_n 2, .iconst 0, .aload_n 0, .getfield 60, .iload_n 1] mkX8_item (by decide +kernel) rfl rfl ?_
        refine p_iald (s) (by decide +kernel) rfl rfl (by first | rfl | simp only [oI]) (by omega) ?_
        refine p_run (pc' := 45) [.iconst 1, .isub] mkX8_item (by decide +kernel) rfl rfl ?_
        refine p_callSv (in_ok w (k := k - 1) _ _ _ _) ksX8_75 (by decide +kernel) (by omega) rfl rfl rfl rfl rfl ?_
        refine p_if_ne (off := 7) 55 (by decide +kernel) (by decide) (fun cq48 => ?_) (fun cq48 => ?_)
        · have cq48 := bI1.mp cq48
          refine p_run (pc' := 65) [.aload_n 0, .getfield 66, .bipush 24, .iload_n 1, .imul, .iload_n 2, .iadd] mkX8_item (by decide +kernel) rfl rfl ?_
          obtain ⟨j, hj, hj2⟩ := pl_of (hA cq29) cq48
          have hz2 := (hA cq29).2
          subst hj2
          refine p_iald (24 * s + j) (by decide +kernel) rfl rfl (by simp only [oI, nIm, nI_add]) (by omega) ?_
          refine p_run (pc' := 70) [.istore_n 3, .iload_n 3, .ldc 195] mkX8_item (by decide +kernel) rfl rfl ?_
          refine p_icmp_ne (off := 8) 78 (by decide +kernel) (by decide) (fun cq70 => ?_) (fun cq70 => ?_)
          · refine p_run (pc' := 79) [.iload_n 3] mkX8_item (by decide +kernel) rfl rfl ?_
            refine p_iret rfl rfl (by decide +kernel) ?_
            exact iF cq16 (iT cq29 (iT cq48 (iF (by rw [nN_nI (by omega)]; exact cq70) (⟨by rw [nN_nI (by omega)], rfl⟩))))
          · refine p_run (pc' := 79) [.ldc 145, .goto 4] mkX8_item (by decide +kernel) rfl rfl ?_
            refine p_iret rfl rfl (by decide +kernel) ?_
            exact iF cq16 (iT cq29 (iT cq48 (iT (by rw [nN_nI (by omega)]; exact cq70) (⟨rfl, rfl⟩))))
        · have cq48 := bI0.mp cq48
          refine p_run (pc' := 54) [.ldc_w 282] mkX8_item (by decide +kernel) rfl rfl ?_
          refine p_iret rfl rfl (by decide +kernel) ?_
          exact iF cq16 (iT cq29 (iF cq48 (⟨rfl, rfl⟩)))
      · refine p_run (pc' := 34) [.ldc 145] mkX8_item (by decide +kernel) rfl rfl ?_
        refine p_iret rfl rfl (by decide +kernel) ?_
        exact iF cq16 (iF cq29 (⟨rfl, rfl⟩))
    · refine p_run (pc' := 21) [.ldc 209] mkX8_item (by decide +kernel) rfl rfl ?_
      refine p_iret rfl rfl (by decide +kernel) ?_
      exact iT cq16 (⟨rfl, rfl⟩)
  · exact False.elim (by revert cq4; decide)
set_option maxRecDepth 20000 in
set_option maxHeartbeats 4000000 in
theorem r_rest (w : Wt) {k : Nat} (hk : 2 ≤ k) (s : Nat) (hs : s < 5) (b : Int32) (h : Mm) : Ok w k MX8_rest [.ref 96, .int (nI s), .int b] h (if h 112 s = 0 then Rv NOTHINGv h else if h 112 s = nI 3 then (if b = 0 then Rv NOv h else if b = Int32.ofInt (-1) then Rv (nI 0) h else Rv (jrem (h 113 s) b) h) else Rv KINDv h) := by
  show Wp w k MX8_rest _ 0 [some (.ref 96), some (.int (nI s)), some (.int b)] [] h
  refine p_run (pc' := 1) [.iload_n 1] mkX8_rest (by decide +kernel) rfl rfl ?_
  refine p_callSv (isSlot_t w (k := k - 1) (by omega) _ _ (in_nI (lo := 0) (hi := 4) (by omega) (Nat.le_of_lt_succ hs) (by omega))) ksX8_285 (by decide +kernel) (by omega) rfl rfl rfl rfl rfl ?_
  refine p_if_ne (off := 6) 10 (by decide +kernel) (by decide) (fun cq4 => ?_) (fun cq4 => ?_)
  · refine p_run (pc' := 15) [.aload_n 0, .getfield 57, .iload_n 1] mkX8_rest (by decide +kernel) rfl rfl ?_
    refine p_iald (s) (by decide +kernel) rfl rfl (by first | rfl | simp only [oI]) (by omega) ?_
    refine p_if_ne (off := 6) 22 (by decide +kernel) (by decide) (fun cq16 => ?_) (fun cq16 => ?_)
    · refine p_run (pc' := 27) [.aload_n 0, .getfield 57, .iload_n 1] mkX8_rest (by decide +kernel) rfl rfl ?_
      refine p_iald (s) (by decide +kernel) rfl rfl (by first | rfl | simp only [oI]) (by omega) ?_
      refine p_run (pc' := 29) [.iconst 3] mkX8_rest (by decide +kernel) rfl rfl ?_
      refine p_icmp_eq (off := 6) 35 (by decide +kernel) (by decide) (fun cq29 => ?_) (fun cq29 => ?_)
      · refine p_run (pc' := 36) [.iload_n 2] mkX8_rest (by decide +kernel) rfl rfl ?_
        refine p_if_ne (off := 9) 45 (by decide +kernel) (by decide) (fun cq36 => ?_) (fun cq36 => ?_)
        · refine p_run (pc' := 47) [.iload_n 2, .iconst (-1)] mkX8_rest (by decide +kernel) rfl rfl ?_
          refine p_icmp_ne (off := 7) 54 (by decide +kernel) (by decide) (fun cq47 => ?_) (fun cq47 => ?_)
          · refine p_run (pc' := 59) [.aload_n 0, .getfield 60, .iload_n 1] mkX8_rest (by decide +kernel) rfl rfl ?_
            refine p_iald (s) (by decide +kernel) rfl rfl (by first | rfl | simp only [oI]) (by omega) ?_
            refine p_run (pc' := 61) [.iload_n 2] mkX8_rest (by decide +kernel) rfl rfl ?_
            refine p_irem (by decide +kernel) cq36 ?_
            refine p_iret rfl rfl (by decide +kernel) ?_
            exact iF cq16 (iT cq29 (iF cq36 (iF cq47 (⟨rfl, rfl⟩))))
          · refine p_run (pc' := 62) [.iconst 0, .goto 11] mkX8_rest (by decide +kernel) rfl rfl ?_
            refine p_iret rfl rfl (by decide +kernel) ?_
            exact iF cq16 (iT cq29 (iF cq36 (iT cq47 (⟨rfl, rfl⟩))))
        · refine p_run (pc' := 62) [.ldc_w 288, .goto 20] mkX8_rest (by decide +kernel) rfl rfl ?_
          refine p_iret rfl rfl (by decide +kernel) ?_
          exact iF cq16 (iT cq29 (iT cq36 (⟨rfl, rfl⟩)))
      · refine p_run (pc' := 34) [.ldc 145] mkX8_rest (by decide +kernel) rfl rfl ?_
        refine p_iret rfl rfl (by decide +kernel) ?_
        exact iF cq16 (iF cq29 (⟨rfl, rfl⟩))
    · refine p_run (pc' := 21) [.ldc 209] mkX8_rest (by decide +kernel) rfl rfl ?_
      refine p_iret rfl rfl (by decide +kernel) ?_
      exact iT cq16 (⟨rfl, rfl⟩)
  · exact False.elim (by revert cq4; decide)
end
section
/-! words and signs of the tape; the reference's go -/
def fw (p : Nat → Bool) : Nat → Nat → Nat
  | 0, i => i
  | m + 1, i => if p i = true then fw p m (i + 1) else i
theorem fw_le (p : Nat → Bool) : ∀ m i, i ≤ fw p m i ∧ fw p m i ≤ i + m
  | 0, i => by simp [fw]
  | m + 1, i => by
    have := fw_le p m (i + 1)
    rw [fw]
    split <;> omega
theorem fw_in {p : Nat → Bool} : ∀ m i j, i ≤ j → j < fw p m i → p j = true
  | 0, i, j, h1, h2 => by simp [fw] at h2; omega
  | m + 1, i, j, h1, h2 => by
    rw [fw] at h2
    by_cases h : p i = true
    · rw [if_pos h] at h2
      by_cases e : j = i
      · rw [e]; exact h
      · exact fw_in m (i + 1) j (by omega) h2
    · rw [if_neg h] at h2
      omega
theorem fw_stop {p : Nat → Bool} : ∀ m i, fw p m i < i + m → ¬ p (fw p m i) = true
  | 0, i, h => by simp [fw] at h
  | m + 1, i, h => by
    rw [fw] at h ⊢
    by_cases hp : p i = true
    · rw [if_pos hp] at h ⊢
      exact fw_stop m (i + 1) (by omega)
    · rw [if_neg hp] at h ⊢
      exact hp
def spB (n : Nat) (T : Vc) (i : Nat) : Bool := decide (i < n ∧ T i = nI 32)
def ltB (n : Nat) (T : Vc) (i : Nat) : Bool := decide (i < n ∧ nI 97 ≤ T i ∧ T i ≤ nI 122)
def fgB (n : Nat) (T : Vc) (i : Nat) : Bool := decide (i < n ∧ nI 48 ≤ T i ∧ T i ≤ nI 57)
theorem spB_iff {n : Nat} {T : Vc} {i : Nat} : spB n T i = true ↔ (i < n ∧ T i = nI 32) := decide_eq_true_iff
theorem ltB_iff {n : Nat} {T : Vc} {i : Nat} : ltB n T i = true ↔ (i < n ∧ nI 97 ≤ T i ∧ T i ≤ nI 122) := decide_eq_true_iff
theorem fgB_iff {n : Nat} {T : Vc} {i : Nat} : fgB n T i = true ↔ (i < n ∧ nI 48 ≤ T i ∧ T i ≤ nI 57) := decide_eq_true_iff
abbrev Lx : Type := Nat × Nat × Nat × Bool
abbrev Lx.s (l : Lx) : Nat := l.1
abbrev Lx.e (l : Lx) : Nat := l.2.1
abbrev Lx.k (l : Lx) : Nat := l.2.2.1
abbrev Lx.t (l : Lx) : Bool := l.2.2.2
def srt (n : Nat) (T : Vc) (i : Nat) : Nat := if n ≤ i then 0 else if ltB n T i = true then 1 else if fgB n T i = true then 2 else 3
def isW (k : Nat) : Bool := decide (k = 1 ∨ k = 2)
def skF (n : Nat) (T : Vc) (i : Nat) : Nat := fw (spB n T) (n - i) i
def enF (n : Nat) (T : Vc) (i : Nat) : Nat := if srt n T i = 0 then i else if srt n T i = 1 then fw (ltB n T) (n - i) i else if srt n T i = 2 then fw (fgB n T) (n - i) i else i + 1
def lxB (n : Nat) (T : Vc) (s : Nat) (c : Bool) : Lx := ⟨s, enF n T s, srt n T s, c && isW (srt n T s)⟩
def lxN (n : Nat) (T : Vc) (l : Lx) : Lx := lxB n T (skF n T l.e) (decide (skF n T l.e = l.e) && isW l.k)
def tkF (l : Lx) : Nat := if l.k = 0 then 0 else if l.k = 1 then (if l.t = true then 4 else 1) else if l.k = 2 then (if l.t = true ∨ 4 < l.e - l.s then 4 else 2) else 3
theorem tkF_1 {s e : Nat} {c : Bool} : tkF (s, e, 1, c) = (if c = true then 4 else 1) := rfl
theorem tkF_2 {s e : Nat} {c : Bool} : tkF (s, e, 2, c) = (if c = true ∨ 4 < e - s then 4 else 2) := rfl
def nuF (T : Vc) (s : Nat) : Nat → Int32
  | 0 => nI 0
  | m + 1 => nI 10 * nuF T s m + T (s + m) - nI 48
def vaF (T : Vc) (l : Lx) : Int32 := if l.k = 2 then nuF T l.s (min (l.e - l.s) 4) else T l.s
def Ge (x : Int32) (l : Lx) : Prop := (isW l.k = true → x = nI l.e) ∧ (isW l.k = false → ∀ j, l.e ≤ j → j ≤ 96 → ¬ x = nI j)
def Gs (n : Nat) (T : Vc) (R : Vc) (l : Lx) : Prop := R 6 = nI n ∧ R 7 = nI l.e ∧ R 8 = nI l.s ∧ R 9 = nI (tkF l) ∧ (l.k ≠ 0 → R 10 = vaF T l ∧ Ge (R 11) l)
/-- all but some fields of the reference's object stay -/
def Fr (S : List Nat) (h hh : Mm) : Prop := Ag [96] h hh ∧ ∀ j, j ∉ S → hh 96 j = h 96 j
theorem Fr.rf {S : List Nat} {h : Mm} : Fr S h h := ⟨Ag.rf, fun _ _ => rfl⟩
theorem Fr.tr {S : List Nat} {a b c : Mm} (x : Fr S a b) (y : Fr S b c) : Fr S a c := ⟨x.1.tr y.1, fun j hj => (y.2 j hj).trans (x.2 j hj)⟩
theorem Fr.up {S : List Nat} {h : Mm} {k : Nat} {x : Int32} (hk : k ∈ S) : Fr S h (up h 96 k x) := ⟨Ag.up (by simp), fun j hj => by rw [upS]; exact upd_n (fun e => hj (e ▸ hk))⟩
theorem Fr.mono {S S' : List Nat} {h h' : Mm} (a : Fr S h h') (hs : ∀ x, x ∈ S → x ∈ S') : Fr S' h h' := ⟨a.1, fun j hj => a.2 j (fun q => hj (hs j q))⟩
theorem uF {h : Mm} {a k : Nat} {x : Int32} : up h a k x a k = x := by rw [upS, upd_s]
theorem uN {h : Mm} {a k j : Nat} {x : Int32} (hj : j ≠ k) : up h a k x a j = h a j := by rw [upS, upd_n hj]
set_option maxRecDepth 20000 in
set_option maxHeartbeats 4000000 in
theorem isLetter_ok (w : Wt) {k : Nat} (n j : Nat) (hn : n ≤ 96) (hj : j ≤ 96) (h : Mm) (e6 : h 96 6 = nI n) : Ok w k MX8_isLetter [.ref 96, .int (nI j)] h (Rv (bI (ltB n (h 101) j = true)) h) := by
  show Wp w k MX8_isLetter _ 0 [some (.ref 96), some (.int (nI j))] [] h
  refine p_run (pc' := 5) [.iload_n 1, .aload_n 0, .getfield 213] mkX8_isLetter (by decide +kernel) rfl rfl ?_
  rw [e6]
  refine p_icmp_ge (off := 29) 34 (by decide +kernel) (by decide) (fun cq1 => ?_) (fun cq1 => ?_)
  · rw [nI_leI (by omega) (by omega)] at cq1
    refine p_run (pc' := 35) [.iconst 0] mkX8_isLetter (by decide +kernel) rfl rfl ?_
    refine p_iret rfl rfl (by decide +kernel) ?_
    exact ⟨by rw [bIf (fun q => by have := (ltB_iff.mp q).1; omega)]; rfl, rfl⟩
  · rw [nI_leI (by omega) (by omega)] at cq1
    refine p_run (pc' := 13) [.aload_n 0, .getfield 22, .iload_n 1] mkX8_isLetter (by decide +kernel) rfl rfl ?_
    refine p_iald (j) (by decide +kernel) rfl rfl rfl (by omega) ?_
    refine p_run (pc' := 16) [.bipush 97] mkX8_isLetter (by decide +kernel) rfl rfl ?_
    refine p_icmp_lt (off := 18) 34 (by decide +kernel) (by decide) (fun cq2 => ?_) (fun cq2 => ?_)
    · refine p_run (pc' := 35) [.iconst 0] mkX8_isLetter (by decide +kernel) rfl rfl ?_
      refine p_iret rfl rfl (by decide +kernel) ?_
      exact ⟨by rw [bIf (fun q => absurd (ltB_iff.mp q).2.1 (Int32.not_le.mpr cq2))]; rfl, rfl⟩
    · refine p_run (pc' := 24) [.aload_n 0, .getfield 22, .iload_n 1] mkX8_isLetter (by decide +kernel) rfl rfl ?_
      refine p_iald (j) (by decide +kernel) rfl rfl rfl (by omega) ?_
      refine p_run (pc' := 27) [.bipush 122] mkX8_isLetter (by decide +kernel) rfl rfl ?_
      refine p_icmp_gt (off := 7) 34 (by decide +kernel) (by decide) (fun cq3 => ?_) (fun cq3 => ?_)
      · refine p_run (pc' := 35) [.iconst 0] mkX8_isLetter (by decide +kernel) rfl rfl ?_
        refine p_iret rfl rfl (by decide +kernel) ?_
        exact ⟨by rw [bIf (fun q => absurd (ltB_iff.mp q).2.2 (Int32.not_le.mpr cq3))]; rfl, rfl⟩
      · refine p_run (pc' := 35) [.iconst 1, .goto 4] mkX8_isLetter (by decide +kernel) rfl rfl ?_
        refine p_iret rfl rfl (by decide +kernel) ?_
        exact ⟨by rw [bIt (ltB_iff.mpr ⟨by omega, Int32.not_lt.mp cq2, Int32.not_lt.mp cq3⟩)]; rfl, rfl⟩
set_option maxRecDepth 20000 in
set_option maxHeartbeats 4000000 in
theorem isFigure_ok (w : Wt) {k : Nat} (n j : Nat) (hn : n ≤ 96) (hj : j ≤ 96) (h : Mm) (e6 : h 96 6 = nI n) : Ok w k MX8_isFigure [.ref 96, .int (nI j)] h (Rv (bI (fgB n (h 101) j = true)) h) := by
  show Wp w k MX8_isFigure _ 0 [some (.ref 96), some (.int (nI j))] [] h
  refine p_run (pc' := 5) [.iload_n 1, .aload_n 0, .getfield 213] mkX8_isFigure (by decide +kernel) rfl rfl ?_
  rw [e6]
  refine p_icmp_ge (off := 29) 34 (by decide +kernel) (by decide) (fun cq1 => ?_) (fun cq1 => ?_)
  · rw [nI_leI (by omega) (by omega)] at cq1
    refine p_run (pc' := 35) [.iconst 0] mkX8_isFigure (by decide +kernel) rfl rfl ?_
    refine p_iret rfl rfl (by decide +kernel) ?_
    exact ⟨by rw [bIf (fun q => by have := (fgB_iff.mp q).1; omega)]; rfl, rfl⟩
  · rw [nI_leI (by omega) (by omega)] at cq1
    refine p_run (pc' := 13) [.aload_n 0, .getfield 22, .iload_n 1] mkX8_isFigure (by decide +kernel) rfl rfl ?_
    refine p_iald (j) (by decide +kernel) rfl rfl rfl (by omega) ?_
    refine p_run (pc' := 16) [.bipush 48] mkX8_isFigure (by decide +kernel) rfl rfl ?_
    refine p_icmp_lt (off := 18) 34 (by decide +kernel) (by decide) (fun cq2 => ?_) (fun cq2 => ?_)
    · refine p_run (pc' := 35) [.iconst 0] mkX8_isFigure (by decide +kernel) rfl rfl ?_
      refine p_iret rfl rfl (by decide +kernel) ?_
      exact ⟨by rw [bIf (fun q => absurd (fgB_iff.mp q).2.1 (Int32.not_le.mpr cq2))]; rfl, rfl⟩
    · refine p_run (pc' := 24) [.aload_n 0, .getfield 22, .iload_n 1] mkX8_isFigure (by decide +kernel) rfl rfl ?_
      refine p_iald (j) (by decide +kernel) rfl rfl rfl (by omega) ?_
      refine p_run (pc' := 27) [.bipush 57] mkX8_isFigure (by decide +kernel) rfl rfl ?_
      refine p_icmp_gt (off := 7) 34 (by decide +kernel) (by decide) (fun cq3 => ?_) (fun cq3 => ?_)
      · refine p_run (pc' := 35) [.iconst 0] mkX8_isFigure (by decide +kernel) rfl rfl ?_
        refine p_iret rfl rfl (by decide +kernel) ?_
        exact ⟨by rw [bIf (fun q => absurd (fgB_iff.mp q).2.2 (Int32.not_le.mpr cq3))]; rfl, rfl⟩
      · refine p_run (pc' := 35) [.iconst 1, .goto 4] mkX8_isFigure (by decide +kernel) rfl rfl ?_
        refine p_iret rfl rfl (by decide +kernel) ?_
        exact ⟨by rw [bIt (fgB_iff.mpr ⟨by omega, Int32.not_lt.mp cq2, Int32.not_lt.mp cq3⟩)]; rfl, rfl⟩
theorem srt_le {n : Nat} {T : Vc} {s : Nat} (h : n ≤ s) : srt n T s = 0 := by unfold srt; rw [if_pos h]
theorem srt_lt {n : Nat} {T : Vc} {s : Nat} (h : ltB n T s = true) : srt n T s = 1 := by
  have := (ltB_iff.mp h).1
  unfold srt; rw [if_neg (by omega), if_pos h]
theorem srt_fg {n : Nat} {T : Vc} {s : Nat} (h1 : ¬ ltB n T s = true) (h : fgB n T s = true) : srt n T s = 2 := by
  have := (fgB_iff.mp h).1
  unfold srt; rw [if_neg (by omega), if_neg h1, if_pos h]
theorem srt_sg {n : Nat} {T : Vc} {s : Nat} (hs : s < n) (h1 : ¬ ltB n T s = true) (h2 : ¬ fgB n T s = true) : srt n T s = 3 := by
  unfold srt; rw [if_neg (by omega), if_neg h1, if_neg h2]
theorem lxB_0 {n : Nat} {T : Vc} {s : Nat} {c : Bool} (h : n ≤ s) : lxB n T s c = ⟨s, s, 0, false⟩ := by
  unfold lxB enF; rw [srt_le h]; simp [isW]
theorem lxB_1 {n : Nat} {T : Vc} {s : Nat} {c : Bool} (h : ltB n T s = true) : lxB n T s c = ⟨s, fw (ltB n T) (n - s) s, 1, c⟩ := by
  unfold lxB enF; rw [srt_lt h]; simp [isW]
theorem lxB_2 {n : Nat} {T : Vc} {s : Nat} {c : Bool} (h1 : ¬ ltB n T s = true) (h : fgB n T s = true) : lxB n T s c = ⟨s, fw (fgB n T) (n - s) s, 2, c⟩ := by
  unfold lxB enF; rw [srt_fg h1 h]; simp [isW]
theorem lxB_3 {n : Nat} {T : Vc} {s : Nat} {c : Bool} (hs : s < n) (h1 : ¬ ltB n T s = true) (h2 : ¬ fgB n T s = true) : lxB n T s c = ⟨s, s + 1, 3, false⟩ := by
  unfold lxB enF; rw [srt_sg hs h1 h2]; simp [isW]
theorem fw_ge {p : Nat → Bool} {n s : Nat} (hp : ∀ i, p i = true → i < n) (hs : s ≤ n) : fw p (n - s) s ≤ n ∧ ¬ p (fw p (n - s) s) = true := by
  have h := fw_le p (n - s) s
  refine ⟨by omega, fun q => ?_⟩
  have h2 := hp _ q
  exact fw_stop (n - s) s (by omega) q
set_option maxRecDepth 20000 in
set_option maxHeartbeats 4000000 in
theorem go_sg (w : Wt) {k : Nat} (hk : 1 ≤ k) (n s : Nat) (hn : n ≤ 96) (hs : s ≤ n) (c : Bool) (h0 hh : Mm) (hF : Fr [7, 8, 9, 10, 11] h0 hh) (e6 : hh 96 6 = nI n) (e7 : hh 96 7 = nI s) (e8 : hh 96 8 = nI s) (hlt : s < n) (h1 : ¬ ltB n (h0 101) s = true) (h2 : ¬ fgB n (h0 101) s = true) (he2 : ∀ j, s < j → j ≤ 96 → ¬ hh 96 11 = nI j) : Wp w k MX8_go (fun r h' => r = none ∧ Gs n (h0 101) (h' 96) (lxB n (h0 101) s c) ∧ Fr [7, 8, 9, 10, 11] h0 h') 275 [some (.ref 96), some (.int (if c = true then nI 1 else nI 0))] [] hh := by
  have e101 : hh 101 = h0 101 := hF.1 101 (by decide)
  refine p_run (pc' := 289) [.aload_n 0, .iconst 3, .putfield 226, .aload_n 0, .aload_n 0, .getfield 22, .aload_n 0, .getfield 220] mkX8_go (by decide +kernel) rfl rfl ?_
  refine p_iald (s) (by decide +kernel) rfl rfl (by rw [uN (by decide), e8]) (by omega) ?_
  refine p_run (pc' := 303) [.putfield 232, .aload_n 0, .dup, .getfield 217, .iconst 1, .iadd, .putfield 217] mkX8_go (by decide +kernel) rfl rfl ?_
  refine p_vret rfl (by decide +kernel) ?_
  refine ⟨rfl, ?_, ((hF.tr (Fr.up (by decide))).tr (Fr.up (by decide))).tr (Fr.up (by decide))⟩
  rw [lxB_3 hlt h1 h2]
  refine ⟨?_, ?_, ?_, ?_, fun _ => ⟨?_, fun q => absurd q (show ¬ isW 3 = true by decide), fun _ j (hj1 : s + 1 ≤ j) hj2 => ?_⟩⟩
  · rw [uN (by decide), uN (by decide), uN (by decide), e6]
  · rw [uF, uN (by decide), uN (by decide), e7, oI, nI_add]
  · rw [uN (by decide), uN (by decide), uN (by decide), e8]
  · rw [uN (by decide), uN (by decide), uF]; rfl
  · rw [uN (by decide), uF, upN (by decide), e101]; rfl
  · rw [uN (by decide), uN (by decide), uN (by decide)]; exact he2 j (by omega) hj2
set_option maxRecDepth 20000 in
set_option maxHeartbeats 4000000 in
theorem go_lt (w : Wt) {k : Nat} (hk : 1 ≤ k) (n s : Nat) (hn : n ≤ 96) (hs : s ≤ n) (c : Bool) (h0 hh : Mm) (hF : Fr [7, 8, 9, 10, 11] h0 hh) (e6 : hh 96 6 = nI n) (e7 : hh 96 7 = nI s) (e8 : hh 96 8 = nI s) (hl : ltB n (h0 101) s = true) : Wp w k MX8_go (fun r h' => r = none ∧ Gs n (h0 101) (h' 96) (lxB n (h0 101) s c) ∧ Fr [7, 8, 9, 10, 11] h0 h') 93 [some (.ref 96), some (.int (if c = true then nI 1 else nI 0))] [] hh := by
  have e101 : hh 101 = h0 101 := hF.1 101 (by decide)
  have hsn := (ltB_iff.mp hl).1
  have hb := fw_le (ltB n (h0 101)) (n - s) s
  have hend := fw_ge (p := ltB n (h0 101)) (n := n) (s := s) (fun i q => (ltB_iff.mp q).1) (by omega)
  have hin := fw_in (p := ltB n (h0 101)) (n - s) s
  rw [lxB_1 hl]
  generalize eE : fw (ltB n (h0 101)) (n - s) s = E at *
  refine Wp.for (E - s) (fun i L hh => L = [some (.ref 96), some (.int (if c = true then nI 1 else nI 0))] ∧ (hh 96 7 = nI (s + i) ∧ hh 96 8 = nI s ∧ Fr [7, 8, 9, 10, 11] h0 hh)) ?_ ?_ (0) (by omega) _ _ ?_
  · rintro i L hh hi ⟨rfl, hJ⟩ ih
    obtain ⟨f7, f8, hG⟩ := hJ
    have f6 : hh 96 6 = nI n := by rw [hG.2 6 (by decide), ← hF.2 6 (by decide)]; exact e6
    have f101 : hh 101 = h0 101 := hG.1 101 (by decide)
    have hp : ltB n (hh 101) (s + i) = true := by rw [f101]; exact hin (s + i) (by omega) (by omega)
    refine p_run (pc' := 98) [.aload_n 0, .aload_n 0, .getfield 217] mkX8_go (by decide +kernel) rfl rfl ?_
    rw [f7]
    refine p_callVv (isLetter_ok w (k := k - 1) n (s + i) hn (by omega) _ f6) kvX8_229 (by decide +kernel) (by decide) rfl (by omega) rfl rfl rfl rfl rfl ?_
    rw [bIt hp]
    refine p_if_eq (off := 16) 117 (by decide +kernel) (by decide) (fun cq1 => ?_) (fun cq1 => ?_)
    · exact False.elim (by revert cq1; decide)
    · refine p_run (pc' := 93) [.aload_n 0, .dup, .getfield 217, .iconst 1, .iadd, .putfield 217, .goto (-21)] mkX8_go (by decide +kernel) rfl rfl ?_
      exact ih _ _ ⟨rfl, by rw [uF, f7, oI, nI_add]; rfl, by rw [uN (by decide), f8], hG.tr (Fr.up (by decide))⟩
  · rintro L hh ⟨rfl, hJ⟩
    obtain ⟨f7, f8, hG⟩ := hJ
    rw [show s + (E - s) = E by omega] at f7
    have f6 : hh 96 6 = nI n := by rw [hG.2 6 (by decide), ← hF.2 6 (by decide)]; exact e6
    have f101 : hh 101 = h0 101 := hG.1 101 (by decide)
    have hp : ¬ ltB n (hh 101) E = true := by rw [f101]; exact hend.2
    refine p_run (pc' := 98) [.aload_n 0, .aload_n 0, .getfield 217] mkX8_go (by decide +kernel) rfl rfl ?_
    rw [f7]
    refine p_callVv (isLetter_ok w (k := k - 1) n E hn (by omega) _ f6) kvX8_229 (by decide +kernel) (by decide) rfl (by omega) rfl rfl rfl rfl rfl ?_
    rw [bIf hp]
    refine p_if_eq (off := 16) 117 (by decide +kernel) (by decide) (fun cq1 => ?_) (fun cq1 => ?_)
    · refine p_run (pc' := 119) [.aload_n 0, .iload_n 1] mkX8_go (by decide +kernel) rfl rfl ?_
      refine p_if_eq (off := 7) 126 (by decide +kernel) (by decide) (fun cq2 => ?_) (fun cq2 => ?_)
      · have hc : ¬ c = true := fun q => by rw [if_pos q] at cq2; exact absurd cq2 (by decide)
        refine p_run (pc' := 139) [.iconst 1, .putfield 226, .aload_n 0, .aload_n 0, .getfield 22, .aload_n 0, .getfield 220] mkX8_go (by decide +kernel) rfl rfl ?_
        refine p_iald (s) (by decide +kernel) rfl rfl (by rw [uN (by decide), f8]) (by omega) ?_
        refine p_run (pc' := 303) [.putfield 232, .aload_n 0, .aload_n 0, .getfield 217, .putfield 223, .goto 152] mkX8_go (by decide +kernel) rfl rfl ?_
        refine p_vret rfl (by decide +kernel) ?_
        refine ⟨rfl, ?_, ((hG.tr (Fr.up (by decide))).tr (Fr.up (by decide))).tr (Fr.up (by decide))⟩
        refine ⟨?_, ?_, ?_, ?_, fun _ => ⟨?_, fun _ => ?_, fun q => absurd q (show ¬ isW 1 = false by decide)⟩⟩
        · rw [uN (by decide), uN (by decide), uN (by decide), f6]
        · rw [uN (by decide), uN (by decide), uN (by decide), f7]
        · rw [uN (by decide), uN (by decide), uN (by decide), f8]
        · rw [uN (by decide), uN (by decide), uF]; rw [tkF_1, if_neg hc]; rfl
        · rw [uN (by decide), uF, upN (by decide), f101]; rfl
        · rw [uF, uN (by decide), uN (by decide), f7]
      · have hc : c = true := Classical.byContradiction (fun q => by rw [if_neg q] at cq2; exact absurd rfl cq2)
        refine p_run (pc' := 139) [.iconst 4, .goto 4, .putfield 226, .aload_n 0, .aload_n 0, .getfield 22, .aload_n 0, .getfield 220] mkX8_go (by decide +kernel) rfl rfl ?_
        refine p_iald (s) (by decide +kernel) rfl rfl (by rw [uN (by decide), f8]) (by omega) ?_
        refine p_run (pc' := 303) [.putfield 232, .aload_n 0, .aload_n 0, .getfield 217, .putfield 223, .goto 152] mkX8_go (by decide +kernel) rfl rfl ?_
        refine p_vret rfl (by decide +kernel) ?_
        refine ⟨rfl, ?_, ((hG.tr (Fr.up (by decide))).tr (Fr.up (by decide))).tr (Fr.up (by decide))⟩
        refine ⟨?_, ?_, ?_, ?_, fun _ => ⟨?_, fun _ => ?_, fun q => absurd q (show ¬ isW 1 = false by decide)⟩⟩
        · rw [uN (by decide), uN (by decide), uN (by decide), f6]
        · rw [uN (by decide), uN (by decide), uN (by decide), f7]
        · rw [uN (by decide), uN (by decide), uN (by decide), f8]
        · rw [uN (by decide), uN (by decide), uF]; rw [tkF_1, if_pos hc]; rfl
        · rw [uN (by decide), uF, upN (by decide), f101]; rfl
        · rw [uF, uN (by decide), uN (by decide), f7]
    · exact absurd rfl cq1
  · exact ⟨rfl, by rw [e7]; rfl, e8, hF⟩
set_option maxRecDepth 20000 in
set_option maxHeartbeats 4000000 in
theorem go_fg (w : Wt) {k : Nat} (hk : 1 ≤ k) (n s : Nat) (hn : n ≤ 96) (hs : s ≤ n) (c : Bool) (h0 hh : Mm) (hF : Fr [7, 8, 9, 10, 11] h0 hh) (e6 : hh 96 6 = nI n) (e7 : hh 96 7 = nI s) (e8 : hh 96 8 = nI s) (h1 : ¬ ltB n (h0 101) s = true) (hl : fgB n (h0 101) s = true) : Wp w k MX8_go (fun r h' => r = none ∧ Gs n (h0 101) (h' 96) (lxB n (h0 101) s c) ∧ Fr [7, 8, 9, 10, 11] h0 h') 165 [some (.ref 96), some (.int (if c = true then nI 1 else nI 0))] [] hh := by
  have e101 : hh 101 = h0 101 := hF.1 101 (by decide)
  have hsn := (fgB_iff.mp hl).1
  have hb := fw_le (fgB n (h0 101)) (n - s) s
  have hend := fw_ge (p := fgB n (h0 101)) (n := n) (s := s) (fun i q => (fgB_iff.mp q).1) (by omega)
  have hin := fw_in (p := fgB n (h0 101)) (n - s) s
  rw [lxB_2 h1 hl]
  generalize eE : fw (fgB n (h0 101)) (n - s) s = E at *
  refine p_run (pc' := 170) [.aload_n 0, .iconst 0, .putfield 232] mkX8_go (by decide +kernel) rfl rfl ?_
  refine Wp.for (E - s) (fun i L hh => L = [some (.ref 96), some (.int (if c = true then nI 1 else nI 0))] ∧ (hh 96 7 = nI (s + i) ∧ hh 96 8 = nI s ∧ hh 96 10 = nuF (h0 101) s (min i 4) ∧ Fr [7, 8, 9, 10, 11] h0 hh)) ?_ ?_ (0) (by omega) _ _ ?_
  · rintro i L hh hi ⟨rfl, hJ⟩ ih
    obtain ⟨f7, f8, f10, hG⟩ := hJ
    have f6 : hh 96 6 = nI n := by rw [hG.2 6 (by decide), ← hF.2 6 (by decide)]; exact e6
    have f101 : hh 101 = h0 101 := hG.1 101 (by decide)
    have hp : fgB n (hh 101) (s + i) = true := by rw [f101]; exact hin (s + i) (by omega) (by omega)
    refine p_run (pc' := 175) [.aload_n 0, .aload_n 0, .getfield 217] mkX8_go (by decide +kernel) rfl rfl ?_
    rw [f7]
    refine p_callVv (isFigure_ok w (k := k - 1) n (s + i) hn (by omega) _ f6) kvX8_235 (by decide +kernel) (by decide) rfl (by omega) rfl rfl rfl rfl rfl ?_
    rw [bIt hp]
    refine p_if_eq (off := 60) 238 (by decide +kernel) (by decide) (fun cq1 => ?_) (fun cq1 => ?_)
    · exact False.elim (by revert cq1; decide)
    · refine p_run (pc' := 192) [.aload_n 0, .aload_n 0, .getfield 217, .aload_n 0, .getfield 220, .isub, .iconst 4] mkX8_go (by decide +kernel) rfl rfl ?_
      rw [f7, f8, nIs (by omega), show s + i - s = i by omega, oI]
      refine p_icmp_ge (off := 26) 218 (by decide +kernel) (by decide) (fun cq2 => ?_) (fun cq2 => ?_)
      · rw [nI_leI (by omega) (by omega)] at cq2
        refine p_run (pc' := 170) [.aload_n 0, .getfield 232, .putfield 232, .aload_n 0, .dup, .getfield 217, .iconst 1, .iadd, .putfield 217, .goto (-65)] mkX8_go (by decide +kernel) rfl rfl ?_
        exact ih _ _ ⟨rfl, by rw [uF, uN (by decide), f7, oI, nI_add]; rfl, by rw [uN (by decide), uN (by decide), f8], by rw [uN (by decide), uF, f10, show min (i + 1) 4 = min i 4 by omega], (hG.tr (Fr.up (by decide))).tr (Fr.up (by decide))⟩
      · rw [nI_leI (by omega) (by omega)] at cq2
        refine p_run (pc' := 210) [.bipush 10, .aload_n 0, .getfield 232, .imul, .aload_n 0, .getfield 22, .aload_n 0, .getfield 217] mkX8_go (by decide +kernel) rfl rfl ?_
        refine p_iald (s + i) (by decide +kernel) rfl rfl (by rw [f7]) (by omega) ?_
        refine p_run (pc' := 170) [.iadd, .bipush 48, .isub, .goto 7, .putfield 232, .aload_n 0, .dup, .getfield 217, .iconst 1, .iadd, .putfield 217, .goto (-65)] mkX8_go (by decide +kernel) rfl rfl ?_
        exact ih _ _ ⟨rfl, by rw [uF, uN (by decide), f7, oI, nI_add]; rfl, by rw [uN (by decide), uN (by decide), f8], by rw [uN (by decide), uF, f10, show min (i + 1) 4 = i + 1 by omega, show min i 4 = i by omega, f101]; rfl, (hG.tr (Fr.up (by decide))).tr (Fr.up (by decide))⟩
  · rintro L hh ⟨rfl, hJ⟩
    obtain ⟨f7, f8, f10, hG⟩ := hJ
    have f6 : hh 96 6 = nI n := by rw [hG.2 6 (by decide), ← hF.2 6 (by decide)]; exact e6
    have f101 : hh 101 = h0 101 := hG.1 101 (by decide)
    rw [show s + (E - s) = E by omega] at f7
    have hp : ¬ fgB n (hh 101) E = true := by rw [f101]; exact hend.2
    refine p_run (pc' := 175) [.aload_n 0, .aload_n 0, .getfield 217] mkX8_go (by decide +kernel) rfl rfl ?_
    rw [f7]
    refine p_callVv (isFigure_ok w (k := k - 1) n E hn (by omega) _ f6) kvX8_235 (by decide +kernel) (by decide) rfl (by omega) rfl rfl rfl rfl rfl ?_
    rw [bIf hp]
    refine p_if_eq (off := 60) 238 (by decide +kernel) (by decide) (fun cq1 => ?_) (fun cq1 => ?_)
    · refine p_run (pc' := 240) [.aload_n 0, .iload_n 1] mkX8_go (by decide +kernel) rfl rfl ?_
      refine p_if_ne (off := 16) 256 (by decide +kernel) (by decide) (fun cq2 => ?_) (fun cq2 => ?_)
      · have hc : c = true := Classical.byContradiction (fun q => by rw [if_neg q] at cq2; exact absurd rfl cq2)
        refine p_run (pc' := 303) [.iconst 4, .goto 4, .putfield 226, .aload_n 0, .aload_n 0, .getfield 217, .putfield 223, .goto 31] mkX8_go (by decide +kernel) rfl rfl ?_
        refine p_vret rfl (by decide +kernel) ?_
        refine ⟨rfl, ?_, (hG.tr (Fr.up (by decide))).tr (Fr.up (by decide))⟩
        refine ⟨?_, ?_, ?_, ?_, fun _ => ⟨?_, fun _ => ?_, fun q => absurd q (show ¬ isW 2 = false by decide)⟩⟩
        · rw [uN (by decide), uN (by decide), f6]
        · rw [uN (by decide), uN (by decide), f7]
        · rw [uN (by decide), uN (by decide), f8]
        · rw [uN (by decide), uF]; rw [tkF_2, if_pos (Or.inl hc)]; rfl
        · rw [uN (by decide), uN (by decide), f10]; rfl
        · rw [uF, uN (by decide), f7]
      · have hc : ¬ c = true := fun q => by rw [if_pos q] at cq2; exact absurd cq2 (by decide)
        refine p_run (pc' := 253) [.aload_n 0, .getfield 217, .aload_n 0, .getfield 220, .isub, .iconst 4] mkX8_go (by decide +kernel) rfl rfl ?_
        rw [f7, f8, nIs (by omega), oI]
        refine p_icmp_le (off := 7) 260 (by decide +kernel) (by decide) (fun cq3 => ?_) (fun cq3 => ?_)
        · rw [nI_leI (by omega) (by omega)] at cq3
          refine p_run (pc' := 303) [.iconst 2, .putfield 226, .aload_n 0, .aload_n 0, .getfield 217, .putfield 223, .goto 31] mkX8_go (by decide +kernel) rfl rfl ?_
          refine p_vret rfl (by decide +kernel) ?_
          refine ⟨rfl, ?_, (hG.tr (Fr.up (by decide))).tr (Fr.up (by decide))⟩
          refine ⟨?_, ?_, ?_, ?_, fun _ => ⟨?_, fun _ => ?_, fun q => absurd q (show ¬ isW 2 = false by decide)⟩⟩
          · rw [uN (by decide), uN (by decide), f6]
          · rw [uN (by decide), uN (by decide), f7]
          · rw [uN (by decide), uN (by decide), f8]
          · rw [uN (by decide), uF]; rw [tkF_2, if_neg (fun q => q.elim hc (fun z => by omega))]; rfl
          · rw [uN (by decide), uN (by decide), f10]; rfl
          · rw [uF, uN (by decide), f7]
        · rw [nI_leI (by omega) (by omega)] at cq3
          refine p_run (pc' := 303) [.iconst 4, .goto 4, .putfield 226, .aload_n 0, .aload_n 0, .getfield 217, .putfield 223, .goto 31] mkX8_go (by decide +kernel) rfl rfl ?_
          refine p_vret rfl (by decide +kernel) ?_
          refine ⟨rfl, ?_, (hG.tr (Fr.up (by decide))).tr (Fr.up (by decide))⟩
          refine ⟨?_, ?_, ?_, ?_, fun _ => ⟨?_, fun _ => ?_, fun q => absurd q (show ¬ isW 2 = false by decide)⟩⟩
          · rw [uN (by decide), uN (by decide), f6]
          · rw [uN (by decide), uN (by decide), f7]
          · rw [uN (by decide), uN (by decide), f8]
          · rw [uN (by decide), uF]; rw [tkF_2, if_pos (Or.inr (by omega))]; rfl
          · rw [uN (by decide), uN (by decide), f10]; rfl
          · rw [uF, uN (by decide), f7]
    · exact absurd rfl cq1
  · exact ⟨rfl, by rw [uN (by decide), e7]; rfl, by rw [uN (by decide), e8], by rw [uF]; rfl, hF.tr (Fr.up (by decide))⟩
set_option maxRecDepth 20000 in
set_option maxHeartbeats 4000000 in
theorem go_b (w : Wt) {k : Nat} (hk : 1 ≤ k) (n s : Nat) (hn : n ≤ 96) (hs : s ≤ n) (c : Bool) (h0 hh : Mm) (hF : Fr [7, 8, 9, 10, 11] h0 hh) (e6 : hh 96 6 = nI n) (e7 : hh 96 7 = nI s) (e8 : hh 96 8 = nI s) (he2 : ∀ j, s < j → j ≤ 96 → ¬ hh 96 11 = nI j) : Wp w k MX8_go (fun r h' => r = none ∧ Gs n (h0 101) (h' 96) (lxB n (h0 101) s c) ∧ Fr [7, 8, 9, 10, 11] h0 h') 63 [some (.ref 96), some (.int (if c = true then nI 1 else nI 0))] [] hh := by
  have e101 : hh 101 = h0 101 := hF.1 101 (by decide)
  refine p_run (pc' := 71) [.aload_n 0, .getfield 220, .aload_n 0, .getfield 213] mkX8_go (by decide +kernel) rfl rfl ?_
  rw [e8, e6]
  refine p_icmp_ne (off := 11) 82 (by decide +kernel) (by decide) (fun cq1 => ?_) (fun cq1 => ?_)
  · rw [nI_eq (by omega) (by omega)] at cq1
    refine p_run (pc' := 87) [.aload_n 0, .aload_n 0, .getfield 220] mkX8_go (by decide +kernel) rfl rfl ?_
    rw [e8]
    refine p_callVv (isLetter_ok w (k := k - 1) n s hn (by omega) _ e6) kvX8_229 (by decide +kernel) (by decide) rfl (by omega) rfl rfl rfl rfl rfl ?_
    rw [e101]
    refine p_if_eq (off := 64) 154 (by decide +kernel) (by decide) (fun cq2 => ?_) (fun cq2 => ?_)
    · have cq2 := bI0.mp cq2
      refine p_run (pc' := 159) [.aload_n 0, .aload_n 0, .getfield 220] mkX8_go (by decide +kernel) rfl rfl ?_
      rw [e8]
      refine p_callVv (isFigure_ok w (k := k - 1) n s hn (by omega) _ e6) kvX8_235 (by decide +kernel) (by decide) rfl (by omega) rfl rfl rfl rfl rfl ?_
      rw [e101]
      refine p_if_eq (off := 113) 275 (by decide +kernel) (by decide) (fun cq3 => ?_) (fun cq3 => ?_)
      · exact go_sg w hk n s hn hs c h0 hh hF e6 e7 e8 (by omega) cq2 (bI0.mp cq3) he2
      · exact go_fg w hk n s hn hs c h0 hh hF e6 e7 e8 cq2 (bI1.mp cq3)
    · exact go_lt w hk n s hn hs c h0 hh hF e6 e7 e8 (bI1.mp cq2)
  · rw [nI_eq (by omega) (by omega)] at cq1
    refine p_run (pc' := 303) [.aload_n 0, .iconst 0, .putfield 226, .goto 224] mkX8_go (by decide +kernel) rfl rfl ?_
    refine p_vret rfl (by decide +kernel) ?_
    refine ⟨rfl, ?_, hF.tr (Fr.up (by decide))⟩
    rw [lxB_0 (by omega)]
    exact ⟨by rw [uN (by decide), e6], by rw [uN (by decide), e7], by rw [uN (by decide), e8], by rw [uF]; rfl, fun q => absurd rfl q⟩
set_option maxRecDepth 20000 in
set_option maxHeartbeats 4000000 in
theorem go_ok (w : Wt) {k : Nat} (hk : 1 ≤ k) (n : Nat) (hn : n ≤ 96) (l : Lx) (hl : l.e ≤ n) (h : Mm) (e6 : h 96 6 = nI n) (e7 : h 96 7 = nI l.e) (hg : Ge (h 96 11) l) : Ok w k MX8_go [.ref 96] h (fun r h' => r = none ∧ Gs n (h 101) (h' 96) (lxN n (h 101) l) ∧ Fr [7, 8, 9, 10, 11] h h') := by
  show Wp w k MX8_go _ 0 [some (.ref 96), none] [] h
  have hb := fw_le (spB n (h 101)) (n - l.e) l.e
  have hend := fw_ge (p := spB n (h 101)) (n := n) (s := l.e) (fun i q => (spB_iff.mp q).1) hl
  have hin := fw_in (p := spB n (h 101)) (n - l.e) l.e
  unfold lxN skF
  generalize eS : fw (spB n (h 101)) (n - l.e) l.e = s at *
  refine Wp.for (s - l.e) (fun i L hh => L = [some (.ref 96), none] ∧ (hh 96 7 = nI (l.e + i) ∧ hh 96 11 = h 96 11 ∧ Fr [7, 8, 9, 10, 11] h hh)) ?_ ?_ (0) (by omega) _ _ ?_
  · rintro i L hh hi ⟨rfl, hJ⟩ ih
    obtain ⟨f7, f11, hG⟩ := hJ
    have f6 : hh 96 6 = nI n := by rw [hG.2 6 (by decide)]; exact e6
    have f101 : hh 101 = h 101 := hG.1 101 (by decide)
    have hp := spB_iff.mp (hin (l.e + i) (by omega) (by omega))
    refine p_run (pc' := 8) [.aload_n 0, .getfield 217, .aload_n 0, .getfield 213] mkX8_go (by decide +kernel) rfl rfl ?_
    rw [f6, f7]
    refine p_icmp_ge (off := 30) 38 (by decide +kernel) (by decide) (fun cq1 => ?_) (fun cq1 => ?_)
    · exact absurd cq1 (nI_ge (by omega) (by omega))
    · refine p_run (pc' := 19) [.aload_n 0, .getfield 22, .aload_n 0, .getfield 217] mkX8_go (by decide +kernel) rfl rfl ?_
      refine p_iald (l.e + i) (by decide +kernel) rfl rfl (by rw [f7]) (by omega) ?_
      refine p_run (pc' := 22) [.bipush 32] mkX8_go (by decide +kernel) rfl rfl ?_
      rw [f101]
      refine p_icmp_ne (off := 16) 38 (by decide +kernel) (by decide) (fun cq2 => ?_) (fun cq2 => ?_)
      · exact absurd hp.2 cq2
      · refine p_run (pc' := 0) [.aload_n 0, .dup, .getfield 217, .iconst 1, .iadd, .putfield 217, .goto (-35)] mkX8_go (by decide +kernel) rfl rfl ?_
        exact ih _ _ ⟨rfl, by rw [uF, f7, oI, nI_add]; rfl, by rw [uN (by decide), f11], hG.tr (Fr.up (by decide))⟩
  · rintro L hh ⟨rfl, hJ⟩
    obtain ⟨f7, f11, hG⟩ := hJ
    have f6 : hh 96 6 = nI n := by rw [hG.2 6 (by decide)]; exact e6
    have f101 : hh 101 = h 101 := hG.1 101 (by decide)
    rw [show l.e + (s - l.e) = s by omega] at f7
    have hC : Wp w k MX8_go (fun r h' => r = none ∧ Gs n (h 101) (h' 96) (lxB n (h 101) s (decide (s = l.e) && isW l.k)) ∧ Fr [7, 8, 9, 10, 11] h h') 38 [some (.ref 96), none] [] hh := by
      refine p_run (pc' := 54) [.aload_n 0, .aload_n 0, .getfield 217, .putfield 220, .aload_n 0, .getfield 220, .aload_n 0, .getfield 223] mkX8_go (by decide +kernel) rfl rfl ?_
      rw [uF, uN (by decide), f7, f11]
      refine p_icmp_ne (off := 7) 61 (by decide +kernel) (by decide) (fun cq3 => ?_) (fun cq3 => ?_)
      · refine p_run (pc' := 63) [.iconst 0, .istore_n 1] mkX8_go (by decide +kernel) rfl rfl ?_
        have hcc : (decide (s = l.e) && isW l.k) = false := by
          cases hw : isW l.k with
          | true => rw [hg.1 hw] at cq3; rw [Bool.and_true, decide_eq_false_iff_not]; exact fun q => cq3 (by rw [q])
          | false => rw [Bool.and_false]
        rw [hcc]
        have he2 : ∀ j, s < j → j ≤ 96 → ¬ up hh 96 8 (nI s) 96 11 = nI j := by
          intro j hj1 hj2 q
          rw [uN (by decide), f11] at q
          cases hw : isW l.k with
          | true => rw [hg.1 hw, nI_eq (by omega) (by omega)] at q; omega
          | false => exact hg.2 hw j (by omega) hj2 q
        exact go_b w hk n s hn (by omega) false h _ (hG.tr (Fr.up (by decide))) (by rw [uN (by decide), f6]) (by rw [uN (by decide), f7]) (by rw [uF]) he2
      · refine p_run (pc' := 63) [.iconst 1, .goto 4, .istore_n 1] mkX8_go (by decide +kernel) rfl rfl ?_
        have hcc : (decide (s = l.e) && isW l.k) = true := by
          cases hw : isW l.k with
          | true => rw [hg.1 hw, nI_eq (by omega) (by omega)] at cq3; rw [Bool.and_true, decide_eq_true_iff]; exact cq3
          | false => exact absurd cq3.symm (hg.2 hw s (by omega) (by omega))
        rw [hcc]
        have he2 : ∀ j, s < j → j ≤ 96 → ¬ up hh 96 8 (nI s) 96 11 = nI j := by
          intro j hj1 hj2 q
          rw [uN (by decide), f11] at q
          cases hw : isW l.k with
          | true => rw [hg.1 hw, nI_eq (by omega) (by omega)] at q; omega
          | false => exact hg.2 hw j (by omega) hj2 q
        exact go_b w hk n s hn (by omega) true h _ (hG.tr (Fr.up (by decide))) (by rw [uN (by decide), f6]) (by rw [uN (by decide), f7]) (by rw [uF]) he2
    refine p_run (pc' := 8) [.aload_n 0, .getfield 217, .aload_n 0, .getfield 213] mkX8_go (by decide +kernel) rfl rfl ?_
    rw [f6, f7]
    refine p_icmp_ge (off := 30) 38 (by decide +kernel) (by decide) (fun cq1 => ?_) (fun cq1 => ?_)
    · exact hC
    · rw [nI_leI (by omega) (by omega)] at cq1
      refine p_run (pc' := 19) [.aload_n 0, .getfield 22, .aload_n 0, .getfield 217] mkX8_go (by decide +kernel) rfl rfl ?_
      refine p_iald (s) (by decide +kernel) rfl rfl (by rw [f7]) (by omega) ?_
      refine p_run (pc' := 22) [.bipush 32] mkX8_go (by decide +kernel) rfl rfl ?_
      rw [f101]
      refine p_icmp_ne (off := 16) 38 (by decide +kernel) (by decide) (fun cq2 => ?_) (fun cq2 => ?_)
      · exact hC
      · exact absurd (spB_iff.mpr ⟨by omega, cq2⟩) hend.2
  · exact ⟨rfl, by rw [e7]; rfl, rfl, Fr.rf⟩
end
section
/-! keys, names, signs, ranks; the machine that the reference reads texts with -/
theorem tI_ne {x : Int32} {v : Int} (hv : (Int32.ofInt v).toInt = v) (h : ¬ x = Int32.ofInt v) : ¬ v = x.toInt := fun e => h (by rw [e, Int32.ofInt_toInt])
def kyC : Nat → Nat
  | 0 => 100
  | 1 => 105
  | 2 => 103
  | 3 => 102
  | 4 => 101
  | 5 => 101
  | 6 => 102
  | 7 => 105
  | 8 => 110
  | _ => 101
def kln (w : Nat) : Nat := if w = 2 then 4 else 3
def kmP (T : Vc) (l : Lx) (w : Nat) : Prop := l.e - l.s = kln w ∧ ∀ k, k < kln w → T (l.s + k) = nI (kyC (3 * w + k))
noncomputable def kmB (T : Vc) (l : Lx) (w : Nat) : Bool := @decide (kmP T l w) (Classical.propDecidable _)
theorem kmB_iff {T : Vc} {l : Lx} {w : Nat} : kmB T l w = true ↔ kmP T l w := by unfold kmB; simp
noncomputable def keF (T : Vc) (l : Lx) : Option Nat := if tkF l = 1 then (if kmB T l 0 = true then some 0 else if kmB T l 1 = true then some 1 else if kmB T l 2 = true then some 2 else none) else none
def KR (h : Mm) : Prop := (∀ i, i < 10 → h 102 i = nI (kyC i)) ∧ h 103 0 = nI 0 ∧ h 103 1 = nI 3 ∧ h 103 2 = nI 6 ∧ h 103 3 = nI 10
def nmI (key : Nat) (x : Int32) : Int32 :=
  if key = 0 then (if x = nI 102 then nI 0 else if x = nI 114 then nI 1 else if x = nI 97 then nI 2 else if x = nI 110 then nI 3 else Int32.ofInt (-1))
  else if key = 1 then (if x = nI 109 then nI 0 else if x = nI 104 then nI 1 else Int32.ofInt (-1))
  else (if x = nI 102 then nI 0 else if x = nI 99 then nI 1 else Int32.ofInt (-1))
abbrev NOTv : Int32 := Int32.ofInt (-10)
abbrev OPENv : Int32 := Int32.ofInt (-11)
def rkF (x : Int32) : Nat := if x = Int32.ofInt (-1) then 1 else if x = Int32.ofInt (-2) then 2 else if Int32.ofInt (-5) ≤ x then 3 else if Int32.ofInt (-7) ≤ x then 4 else if Int32.ofInt (-9) ≤ x then 5 else 6
def stF (m : Nat) : List Int32 → List Int32 → List Int32 × List Int32
  | [], C => ([], C)
  | x :: W, C => if ¬ x = OPENv ∧ m ≤ rkF x then stF m W (x :: C) else (x :: W, C)
def sgV (x : Int32) : Int32 := if x = nI 38 then Int32.ofInt (-2) else if x = nI 42 then Int32.ofInt (-8) else if x = nI 43 then Int32.ofInt (-6) else if x = nI 45 then Int32.ofInt (-7) else if x = nI 47 then Int32.ofInt (-9) else if x = nI 60 then Int32.ofInt (-3) else if x = nI 61 then Int32.ofInt (-4) else if x = nI 62 then Int32.ofInt (-5) else if x = nI 124 then Int32.ofInt (-1) else nI 0
def sgF (T : Vc) (l : Lx) : Int32 := if tkF l = 3 then sgV (T l.s) else nI 0
def lfF (T : Vc) (key : Nat) (l : Lx) : Option Int32 := if tkF l = 2 then some (vaF T l) else if tkF l = 1 ∧ l.e - l.s = 1 ∧ nI 0 ≤ nmI key (T l.s) then some (nI 10000 + nmI key (T l.s)) else none
def cnN : List Int32 → Nat
  | [] => 0
  | x :: r => (if x = NOTv then 1 else 0) + cnN r
def cnO : List Int32 → Nat
  | [] => 0
  | x :: r => (if x = OPENv then 1 else 0) + cnO r
theorem cnN_le : ∀ W, cnN W ≤ W.length
  | [] => Nat.le_refl _
  | x :: r => by have := cnN_le r; unfold cnN; simp only [List.length_cons]; split <;> omega
theorem stF_len (m : Nat) : ∀ W C, (stF m W C).1.length + (stF m W C).2.length = W.length + C.length
  | [], C => rfl
  | x :: W, C => by
    rw [stF]
    split
    · rw [stF_len m W (x :: C)]; simp only [List.length_cons]; omega
    · rfl
theorem stF_open (m : Nat) : ∀ W C, cnO (stF m W C).1 = cnO W
  | [], C => rfl
  | x :: W, C => by
    rw [stF]
    split
    · rename_i h
      rw [stF_open m W (x :: C), cnO, if_neg h.1, Nat.zero_add]
    · rfl
theorem stF_not (m : Nat) : ∀ W C, cnN (stF m W C).1 ≤ cnN W
  | [], C => Nat.le_refl _
  | x :: W, C => by
    rw [stF]
    split
    · have := stF_not m W (x :: C)
      rw [cnN]; omega
    · exact Nat.le_refl _
theorem stF_le (m : Nat) : ∀ W C, (stF m W C).1.length ≤ W.length
  | [], C => Nat.le_refl _
  | x :: W, C => by
    rw [stF]
    split
    · have := stF_le m W (x :: C)
      simp only [List.length_cons]; omega
    · exact Nat.le_refl _
abbrev Mc : Type := Lx × List Int32 × Nat × List Int32 × (Nat → Bool) × Nat × Bool
abbrev Mc.l (m : Mc) : Lx := m.1
abbrev Mc.C (m : Mc) : List Int32 := m.2.1
abbrev Mc.at (m : Mc) : Nat := m.2.2.1
abbrev Mc.W (m : Mc) : List Int32 := m.2.2.2.1
abbrev Mc.ts (m : Mc) : Nat → Bool := m.2.2.2.2.1
abbrev Mc.pa (m : Mc) : Nat := m.2.2.2.2.2.1
abbrev Mc.wa (m : Mc) : Bool := m.2.2.2.2.2.2
def ubF (f : Nat → Bool) (j : Nat) (b : Bool) : Nat → Bool := fun i => if i = j then b else f i
def tsF (s : Int32) (b : Bool) : Bool := decide (rkF s = 3) || (decide (3 < rkF s) && b)
def msF (n : Nat) (T : Vc) (key : Nat) (m : Mc) : Sum Mc (Bool × Mc) :=
  if m.wa = true then
    (if tkF m.l = 3 ∧ T m.l.s = nI 33 ∧ cnN m.W < 8 then .inl (lxN n T m.l, m.C, m.at, NOTv :: m.W, m.ts, m.pa, true)
     else if tkF m.l = 3 ∧ T m.l.s = nI 40 ∧ m.pa < 8 then .inl (lxN n T m.l, m.C, m.at, OPENv :: m.W, ubF m.ts (m.pa + 1) false, m.pa + 1, true)
     else match lfF T key m.l with
      | some x => .inl (lxN n T m.l, (stF 6 m.W (x :: m.C)).2, m.at + 1, (stF 6 m.W (x :: m.C)).1, m.ts, m.pa, false)
      | none => .inr (false, m))
  else if tkF m.l = 0 then .inr (decide (m.pa = 0), (m.l, (stF 0 m.W m.C).2, m.at, (stF 0 m.W m.C).1, m.ts, m.pa, false))
  else if tkF m.l = 3 ∧ T m.l.s = nI 41 ∧ 0 < m.pa then
    .inl (lxN n T m.l, (stF 6 (stF 0 m.W m.C).1.tail (stF 0 m.W m.C).2).2, m.at, (stF 6 (stF 0 m.W m.C).1.tail (stF 0 m.W m.C).2).1, m.ts, m.pa - 1, false)
  else if sgF T m.l = 0 ∨ (rkF (sgF T m.l) = 3 ∧ m.ts m.pa = true) then .inr (false, m)
  else .inl (lxN n T m.l, (stF (rkF (sgF T m.l)) m.W m.C).2, m.at, sgF T m.l :: (stF (rkF (sgF T m.l)) m.W m.C).1, ubF m.ts m.pa (tsF (sgF T m.l) (m.ts m.pa)), m.pa, true)
def stq (n : Nat) (T : Vc) (key : Nat) : Nat → Mc → Mc → Prop
  | 0, m, m' => m = m'
  | c + 1, m, m' => ∃ m1, msF n T key m = .inl m1 ∧ stq n T key c m1 m'
def Mend (n : Nat) (T : Vc) (key : Nat) (m : Mc) (b : Bool) (m' : Mc) : Prop := ∃ c m1, stq n T key c m m1 ∧ msF n T key m1 = .inr (b, m')
theorem Mend.step {n : Nat} {T : Vc} {key : Nat} {m m1 m' : Mc} {b : Bool} (e : msF n T key m = .inl m1) (h : Mend n T key m1 b m') : Mend n T key m b m' := by
  obtain ⟨c, m2, h1, h2⟩ := h
  exact ⟨c + 1, m2, ⟨m1, e, h1⟩, h2⟩
theorem Mend.now {n : Nat} {T : Vc} {key : Nat} {m m' : Mc} {b : Bool} (e : msF n T key m = .inr (b, m')) : Mend n T key m b m' := ⟨0, m, rfl, e⟩
theorem Mend.det {n : Nat} {T : Vc} {key : Nat} : ∀ {m m1 m2 : Mc} {b1 b2 : Bool}, Mend n T key m b1 m1 → Mend n T key m b2 m2 → b1 = b2 ∧ m1 = m2 := by
  intro m m1 m2 b1 b2 ⟨c, x, h1, h2⟩ ⟨c', y, h3, h4⟩
  induction c generalizing m c' with
  | zero =>
    cases h1
    cases c' with
    | zero => cases h3; rw [h2] at h4; cases h4; exact ⟨rfl, rfl⟩
    | succ c' => obtain ⟨z, e, -⟩ := h3; rw [h2] at e; cases e
  | succ c ih =>
    obtain ⟨z, e, h1⟩ := h1
    cases c' with
    | zero => cases h3; rw [e] at h4; cases h4
    | succ c' => obtain ⟨z', e', h3⟩ := h3; rw [e] at e'; cases e'; exact ih h1 c' h3
/-- a word's place -/
def Lg (n : Nat) (l : Lx) : Prop := l.s ≤ n ∧ l.s ≤ l.e ∧ l.e ≤ n ∧ (l.k = 0 ↔ l.s = n) ∧ (l.k ≠ 0 → l.s < l.e) ∧ l.k ≤ 3
theorem lxB_Lg {n : Nat} {T : Vc} {s : Nat} {c : Bool} (hs : s ≤ n) : Lg n (lxB n T s c) := by
  by_cases h0 : n ≤ s
  · rw [lxB_0 h0]
    exact ⟨hs, Nat.le_refl _, hs, ⟨fun _ => Nat.le_antisymm hs h0, fun _ => rfl⟩, fun q => absurd rfl q, show 0 ≤ 3 by decide⟩
  · by_cases h1 : ltB n T s = true
    · have hb := fw_le (ltB n T) (n - s) s
      have hend := fw_ge (p := ltB n T) (n := n) (s := s) (fun i q => (ltB_iff.mp q).1) hs
      have h3 : s < fw (ltB n T) (n - s) s := by
        rcases Nat.lt_or_ge s (fw (ltB n T) (n - s) s) with q | q
        · exact q
        · have e : fw (ltB n T) (n - s) s = s := by omega
          rw [e] at hend
          exact absurd h1 hend.2
      rw [lxB_1 h1]
      exact ⟨hs, hb.1, hend.1, ⟨fun q => absurd q (show ¬ 1 = 0 by decide), fun (q : s = n) => absurd q (by omega)⟩, fun _ => h3, show 1 ≤ 3 by decide⟩
    · by_cases h2 : fgB n T s = true
      · have hb := fw_le (fgB n T) (n - s) s
        have hend := fw_ge (p := fgB n T) (n := n) (s := s) (fun i q => (fgB_iff.mp q).1) hs
        have h3 : s < fw (fgB n T) (n - s) s := by
          rcases Nat.lt_or_ge s (fw (fgB n T) (n - s) s) with q | q
          · exact q
          · have e : fw (fgB n T) (n - s) s = s := by omega
            rw [e] at hend
            exact absurd h2 hend.2
        rw [lxB_2 h1 h2]
        exact ⟨hs, hb.1, hend.1, ⟨fun q => absurd q (show ¬ 2 = 0 by decide), fun (q : s = n) => absurd q (by omega)⟩, fun _ => h3, show 2 ≤ 3 by decide⟩
      · rw [lxB_3 (by omega) h1 h2]
        exact ⟨hs, Nat.le_succ _, show s + 1 ≤ n by omega, ⟨fun q => absurd q (show ¬ 3 = 0 by decide), fun (q : s = n) => absurd q (by omega)⟩, fun _ => Nat.lt_succ_self _, show 3 ≤ 3 by decide⟩
theorem lxN_Lg {n : Nat} {T : Vc} {l : Lx} (hl : l.e ≤ n) : Lg n (lxN n T l) ∧ l.e ≤ (lxN n T l).s := by
  have hb := fw_le (spB n T) (n - l.e) l.e
  have hend := fw_ge (p := spB n T) (n := n) (s := l.e) (fun i q => (spB_iff.mp q).1) hl
  exact ⟨lxB_Lg hend.1, hb.1⟩
theorem tk0 {n : Nat} {l : Lx} (h : Lg n l) : tkF l = 0 ↔ l.k = 0 := by
  unfold tkF
  by_cases h0 : l.k = 0
  · simp [h0]
  · rw [if_neg h0]
    constructor
    · intro q
      split at q
      · split at q <;> omega
      · split at q
        · split at q <;> omega
        · omega
    · exact fun q => absurd q h0
set_option maxRecDepth 20000 in
set_option maxHeartbeats 4000000 in
theorem rank_ok (w : Wt) {k : Nat} (x : Int32) (h : Mm) : Ok w k MX8_rank [.int x] h (Rv (nI (rkF x)) h) := by
  show Wp w k MX8_rank _ 0 [some (.int x)] [] h
  refine p_run (pc' := 2) [.iload_n 0, .iconst (-1)] mkX8_rank (by decide +kernel) rfl rfl ?_
  refine p_icmp_ne (off := 7) 9 (by decide +kernel) (by decide) (fun cq2 => ?_) (fun cq2 => ?_)
  · refine p_run (pc' := 12) [.iload_n 0, .bipush (-2)] mkX8_rank (by decide +kernel) rfl rfl ?_
    refine p_icmp_ne (off := 7) 19 (by decide +kernel) (by decide) (fun cq12 => ?_) (fun cq12 => ?_)
    · refine p_run (pc' := 22) [.iload_n 0, .bipush (-5)] mkX8_rank (by decide +kernel) rfl rfl ?_
      refine p_icmp_lt (off := 7) 29 (by decide +kernel) (by decide) (fun cq22 => ?_) (fun cq22 => ?_)
      · refine p_run (pc' := 32) [.iload_n 0, .bipush (-7)] mkX8_rank (by decide +kernel) rfl rfl ?_
        refine p_icmp_lt (off := 7) 39 (by decide +kernel) (by decide) (fun cq32 => ?_) (fun cq32 => ?_)
        · refine p_run (pc' := 42) [.iload_n 0, .bipush (-9)] mkX8_rank (by decide +kernel) rfl rfl ?_
          refine p_icmp_lt (off := 7) 49 (by decide +kernel) (by decide) (fun cq42 => ?_) (fun cq42 => ?_)
          · refine p_run (pc' := 51) [.bipush 6] mkX8_rank (by decide +kernel) rfl rfl ?_
            refine p_iret rfl rfl (by decide +kernel) ?_
            exact ⟨by unfold rkF; rw [if_neg cq2, if_neg cq12, if_neg (Int32.not_le.mpr cq22), if_neg (Int32.not_le.mpr cq32), if_neg (Int32.not_le.mpr cq42)]; rfl, rfl⟩
          · refine p_run (pc' := 51) [.iconst 5, .goto 5] mkX8_rank (by decide +kernel) rfl rfl ?_
            refine p_iret rfl rfl (by decide +kernel) ?_
            exact ⟨by unfold rkF; rw [if_neg cq2, if_neg cq12, if_neg (Int32.not_le.mpr cq22), if_neg (Int32.not_le.mpr cq32), if_pos (Int32.not_lt.mp cq42)]; rfl, rfl⟩
        · refine p_run (pc' := 51) [.iconst 4, .goto 15] mkX8_rank (by decide +kernel) rfl rfl ?_
          refine p_iret rfl rfl (by decide +kernel) ?_
          exact ⟨by unfold rkF; rw [if_neg cq2, if_neg cq12, if_neg (Int32.not_le.mpr cq22), if_pos (Int32.not_lt.mp cq32)]; rfl, rfl⟩
      · refine p_run (pc' := 51) [.iconst 3, .goto 25] mkX8_rank (by decide +kernel) rfl rfl ?_
        refine p_iret rfl rfl (by decide +kernel) ?_
        exact ⟨by unfold rkF; rw [if_neg cq2, if_neg cq12, if_pos (Int32.not_lt.mp cq22)]; rfl, rfl⟩
    · refine p_run (pc' := 51) [.iconst 2, .goto 35] mkX8_rank (by decide +kernel) rfl rfl ?_
      refine p_iret rfl rfl (by decide +kernel) ?_
      exact ⟨by unfold rkF; rw [if_neg cq2, if_pos cq12]; rfl, rfl⟩
  · refine p_run (pc' := 51) [.iconst 1, .goto 45] mkX8_rank (by decide +kernel) rfl rfl ?_
    refine p_iret rfl rfl (by decide +kernel) ?_
    exact ⟨by unfold rkF; rw [if_pos cq2]; rfl, rfl⟩
theorem oIq (n : Nat) : nI (OfNat.ofNat n : Nat) = Int32.ofInt (no_index (OfNat.ofNat n : Int)) := rfl
set_option maxRecDepth 20000 in
set_option maxHeartbeats 4000000 in
theorem nameOf_ok (w : Wt) {k : Nat} (key : Nat) (hkey : key ≤ 2) (x : Int32) (h : Mm) (ek : h 96 12 = nI key) : Ok w k MX8_nameOf [.ref 96, .int x] h (Rv (nmI key x) h) := by
  show Wp w k MX8_nameOf _ 0 [some (.ref 96), some (.int x)] [] h
  refine p_run (pc' := 4) [.aload_n 0, .getfield 238] mkX8_nameOf (by decide +kernel) rfl rfl ?_
  rw [ek]
  by_cases zq0 : nI key = Int32.ofInt (0)
  · refine p_lookup (dflt := 92) (ps := #[(0, 28), (1, 70)]) (len := 28) (off := 28) 32 (by decide +kernel) (by decide) (by rw [zq0]; rfl) (by decide) ?_
    have hk0 : key = 0 := (nI_eq (by omega) (by omega)).mp zq0
    refine p_run (pc' := 35) [.iload_n 1, .bipush 102] mkX8_nameOf (by decide +kernel) rfl rfl ?_
    refine p_icmp_ne (off := 7) 42 (by decide +kernel) (by decide) (fun cq35 => ?_) (fun cq35 => ?_)
    · refine p_run (pc' := 45) [.iload_n 1, .bipush 114] mkX8_nameOf (by decide +kernel) rfl rfl ?_
      refine p_icmp_ne (off := 7) 52 (by decide +kernel) (by decide) (fun cq45 => ?_) (fun cq45 => ?_)
      · refine p_run (pc' := 55) [.iload_n 1, .bipush 97] mkX8_nameOf (by decide +kernel) rfl rfl ?_
        refine p_icmp_ne (off := 7) 62 (by decide +kernel) (by decide) (fun cq55 => ?_) (fun cq55 => ?_)
        · refine p_run (pc' := 65) [.iload_n 1, .bipush 110] mkX8_nameOf (by decide +kernel) rfl rfl ?_
          refine p_icmp_ne (off := 7) 72 (by decide +kernel) (by decide) (fun cq65 => ?_) (fun cq65 => ?_)
          · refine p_run (pc' := 73) [.iconst (-1)] mkX8_nameOf (by decide +kernel) rfl rfl ?_
            refine p_iret rfl rfl (by decide +kernel) ?_
            exact ⟨by unfold nmI; rw [if_pos hk0, if_neg (c := x = nI 102) cq35, if_neg (c := x = nI 114) cq45, if_neg (c := x = nI 97) cq55, if_neg (c := x = nI 110) cq65] <;> rfl, rfl⟩
          · refine p_run (pc' := 73) [.iconst 3, .goto 4] mkX8_nameOf (by decide +kernel) rfl rfl ?_
            refine p_iret rfl rfl (by decide +kernel) ?_
            exact ⟨by unfold nmI; rw [if_pos hk0, if_neg (c := x = nI 102) cq35, if_neg (c := x = nI 114) cq45, if_neg (c := x = nI 97) cq55, if_pos (c := x = nI 110) cq65] <;> rfl, rfl⟩
        · refine p_run (pc' := 73) [.iconst 2, .goto 14] mkX8_nameOf (by decide +kernel) rfl rfl ?_
          refine p_iret rfl rfl (by decide +kernel) ?_
          exact ⟨by unfold nmI; rw [if_pos hk0, if_neg (c := x = nI 102) cq35, if_neg (c := x = nI 114) cq45, if_pos (c := x = nI 97) cq55] <;> rfl, rfl⟩
      · refine p_run (pc' := 73) [.iconst 1, .goto 24] mkX8_nameOf (by decide +kernel) rfl rfl ?_
        refine p_iret rfl rfl (by decide +kernel) ?_
        exact ⟨by unfold nmI; rw [if_pos hk0, if_neg (c := x = nI 102) cq35, if_pos (c := x = nI 114) cq45] <;> rfl, rfl⟩
    · refine p_run (pc' := 73) [.iconst 0, .goto 34] mkX8_nameOf (by decide +kernel) rfl rfl ?_
      refine p_iret rfl rfl (by decide +kernel) ?_
      exact ⟨by unfold nmI; rw [if_pos hk0, if_pos (c := x = nI 102) cq35] <;> rfl, rfl⟩
  · by_cases zq1 : nI key = Int32.ofInt (1)
    · refine p_lookup (dflt := 92) (ps := #[(0, 28), (1, 70)]) (len := 28) (off := 70) 74 (by decide +kernel) (by decide) (by rw [zq1]; rfl) (by decide) ?_
      have hk0 : key = 1 := (nI_eq (by omega) (by omega)).mp zq1
      have hk1 := hk0
      have hk0 : ¬ key = 0 := by omega
      refine p_run (pc' := 77) [.iload_n 1, .bipush 109] mkX8_nameOf (by decide +kernel) rfl rfl ?_
      refine p_icmp_ne (off := 7) 84 (by decide +kernel) (by decide) (fun cq77 => ?_) (fun cq77 => ?_)
      · refine p_run (pc' := 87) [.iload_n 1, .bipush 104] mkX8_nameOf (by decide +kernel) rfl rfl ?_
        refine p_icmp_ne (off := 7) 94 (by decide +kernel) (by decide) (fun cq87 => ?_) (fun cq87 => ?_)
        · refine p_run (pc' := 95) [.iconst (-1)] mkX8_nameOf (by decide +kernel) rfl rfl ?_
          refine p_iret rfl rfl (by decide +kernel) ?_
          exact ⟨by unfold nmI; rw [if_neg hk0, if_pos hk1, if_neg (c := x = nI 109) cq77, if_neg (c := x = nI 104) cq87] <;> rfl, rfl⟩
        · refine p_run (pc' := 95) [.iconst 1, .goto 4] mkX8_nameOf (by decide +kernel) rfl rfl ?_
          refine p_iret rfl rfl (by decide +kernel) ?_
          exact ⟨by unfold nmI; rw [if_neg hk0, if_pos hk1, if_neg (c := x = nI 109) cq77, if_pos (c := x = nI 104) cq87] <;> rfl, rfl⟩
      · refine p_run (pc' := 95) [.iconst 0, .goto 14] mkX8_nameOf (by decide +kernel) rfl rfl ?_
        refine p_iret rfl rfl (by decide +kernel) ?_
        exact ⟨by unfold nmI; rw [if_neg hk0, if_pos hk1, if_pos (c := x = nI 109) cq77] <;> rfl, rfl⟩
    · refine p_lookup (dflt := 92) (ps := #[(0, 28), (1, 70)]) (len := 28) (off := 92) 96 (by decide +kernel) (by decide) (by show Op.lookupswitch.offset [(0, 28), (1, 70)] _ _ = _; rw [Op.lookupswitch.offset_cons, if_neg (tI_ne rfl zq0), Op.lookupswitch.offset_cons, if_neg (tI_ne rfl zq1), Op.lookupswitch.offset_nil]) (by decide) ?_
      have hk0 : ¬ key = 0 := fun q => zq0 (by rw [q]; rfl)
      have hk1 : ¬ key = 1 := fun q => zq1 (by rw [q]; rfl)
      refine p_run (pc' := 99) [.iload_n 1, .bipush 102] mkX8_nameOf (by decide +kernel) rfl rfl ?_
      refine p_icmp_ne (off := 7) 106 (by decide +kernel) (by decide) (fun cq99 => ?_) (fun cq99 => ?_)
      · refine p_run (pc' := 109) [.iload_n 1, .bipush 99] mkX8_nameOf (by decide +kernel) rfl rfl ?_
        refine p_icmp_ne (off := 7) 116 (by decide +kernel) (by decide) (fun cq109 => ?_) (fun cq109 => ?_)
        · refine p_run (pc' := 117) [.iconst (-1)] mkX8_nameOf (by decide +kernel) rfl rfl ?_
          refine p_iret rfl rfl (by decide +kernel) ?_
          exact ⟨by unfold nmI; rw [if_neg hk0, if_neg hk1, if_neg (c := x = nI 102) cq99, if_neg (c := x = nI 99) cq109] <;> rfl, rfl⟩
        · refine p_run (pc' := 117) [.iconst 1, .goto 4] mkX8_nameOf (by decide +kernel) rfl rfl ?_
          refine p_iret rfl rfl (by decide +kernel) ?_
          exact ⟨by unfold nmI; rw [if_neg hk0, if_neg hk1, if_neg (c := x = nI 102) cq99, if_pos (c := x = nI 99) cq109] <;> rfl, rfl⟩
      · refine p_run (pc' := 117) [.iconst 0, .goto 14] mkX8_nameOf (by decide +kernel) rfl rfl ?_
        refine p_iret rfl rfl (by decide +kernel) ?_
        exact ⟨by unfold nmI; rw [if_neg hk0, if_neg hk1, if_pos (c := x = nI 102) cq99] <;> rfl, rfl⟩
theorem tk4 (l : Lx) : tkF l ≤ 4 := by unfold tkF; repeat' split
                                       all_goals omega
theorem tk3 {l : Lx} (h : tkF l = 3) : l.k ≠ 0 ∧ l.k ≠ 1 ∧ l.k ≠ 2 := by
  refine ⟨fun q => ?_, fun q => ?_, fun q => ?_⟩
  · rw [tkF, if_pos q] at h; exact absurd h (by decide)
  · rw [tkF, if_neg (by omega), if_pos q] at h; split at h <;> omega
  · rw [tkF, if_neg (by omega), if_neg (by omega), if_pos q] at h; split at h <;> omega
theorem va3 {T : Vc} {l : Lx} (h : tkF l = 3) : vaF T l = T l.s := by unfold vaF; rw [if_neg (tk3 h).2.2]
set_option maxRecDepth 20000 in
set_option maxHeartbeats 4000000 in
theorem signHere_ok (w : Wt) {k : Nat} (l : Lx) (h : Mm) (e9 : h 96 9 = nI (tkF l)) (e10 : tkF l = 3 → h 96 10 = vaF (h 101) l) : Ok w k MX8_signHere [.ref 96] h (Rv (sgF (h 101) l) h) := by
  show Wp w k MX8_signHere _ 0 [some (.ref 96)] [] h
  refine p_run (pc' := 5) [.aload_n 0, .getfield 226, .iconst 3] mkX8_signHere (by decide +kernel) rfl rfl ?_
  rw [e9]
  refine p_icmp_eq (off := 5) 10 (by decide +kernel) (by decide) (fun cq1 => ?_) (fun cq1 => ?_)
  · have h3 : tkF l = 3 := (nI_eq (by have := tk4 l; omega) (by omega)).mp cq1
    have hva : vaF (h 101) l = h 101 l.s := va3 h3
    refine p_run (pc' := 14) [.aload_n 0, .getfield 232] mkX8_signHere (by decide +kernel) rfl rfl ?_
    rw [e10 h3, hva]
    by_cases zq0 : h 101 l.s = Int32.ofInt (38)
    · refine p_lookup (dflt := 108) (ps := #[(38, 84), (42, 102), (43, 96), (45, 99), (47, 105), (60, 87), (61, 90), (62, 93), (124, 82)]) (len := 82) (off := 84) 98 (by decide +kernel) (by decide) (by rw [zq0]; rfl) (by decide) ?_
      refine p_run (pc' := 100) [.bipush (-2)] mkX8_signHere (by decide +kernel) rfl rfl ?_
      refine p_iret rfl rfl (by decide +kernel) ?_
      exact ⟨by unfold sgF sgV; rw [if_pos h3, if_pos (c := h 101 l.s = nI 38) zq0] <;> rfl, rfl⟩
    · by_cases zq1 : h 101 l.s = Int32.ofInt (42)
      · refine p_lookup (dflt := 108) (ps := #[(38, 84), (42, 102), (43, 96), (45, 99), (47, 105), (60, 87), (61, 90), (62, 93), (124, 82)]) (len := 82) (off := 102) 116 (by decide +kernel) (by decide) (by rw [zq1]; rfl) (by decide) ?_
        refine p_run (pc' := 118) [.bipush (-8)] mkX8_signHere (by decide +kernel) rfl rfl ?_
        refine p_iret rfl rfl (by decide +kernel) ?_
        exact ⟨by unfold sgF sgV; rw [if_pos h3, if_neg (c := h 101 l.s = nI 38) zq0, if_pos (c := h 101 l.s = nI 42) zq1] <;> rfl, rfl⟩
      · by_cases zq2 : h 101 l.s = Int32.ofInt (43)
        · refine p_lookup (dflt := 108) (ps := #[(38, 84), (42, 102), (43, 96), (45, 99), (47, 105), (60, 87), (61, 90), (62, 93), (124, 82)]) (len := 82) (off := 96) 110 (by decide +kernel) (by decide) (by rw [zq2]; rfl) (by decide) ?_
          refine p_run (pc' := 112) [.bipush (-6)] mkX8_signHere (by decide +kernel) rfl rfl ?_
          refine p_iret rfl rfl (by decide +kernel) ?_
          exact ⟨by unfold sgF sgV; rw [if_pos h3, if_neg (c := h 101 l.s = nI 38) zq0, if_neg (c := h 101 l.s = nI 42) zq1, if_pos (c := h 101 l.s = nI 43) zq2] <;> rfl, rfl⟩
        · by_cases zq3 : h 101 l.s = Int32.ofInt (45)
          · refine p_lookup (dflt := 108) (ps := #[(38, 84), (42, 102), (43, 96), (45, 99), (47, 105), (60, 87), (61, 90), (62, 93), (124, 82)]) (len := 82) (off := 99) 113 (by decide +kernel) (by decide) (by rw [zq3]; rfl) (by decide) ?_
            refine p_run (pc' := 115) [.bipush (-7)] mkX8_signHere (by decide +kernel) rfl rfl ?_
            refine p_iret rfl rfl (by decide +kernel) ?_
            exact ⟨by unfold sgF sgV; rw [if_pos h3, if_neg (c := h 101 l.s = nI 38) zq0, if_neg (c := h 101 l.s = nI 42) zq1, if_neg (c := h 101 l.s = nI 43) zq2, if_pos (c := h 101 l.s = nI 45) zq3] <;> rfl, rfl⟩
          · by_cases zq4 : h 101 l.s = Int32.ofInt (47)
            · refine p_lookup (dflt := 108) (ps := #[(38, 84), (42, 102), (43, 96), (45, 99), (47, 105), (60, 87), (61, 90), (62, 93), (124, 82)]) (len := 82) (off := 105) 119 (by decide +kernel) (by decide) (by rw [zq4]; rfl) (by decide) ?_
              refine p_run (pc' := 121) [.bipush (-9)] mkX8_signHere (by decide +kernel) rfl rfl ?_
              refine p_iret rfl rfl (by decide +kernel) ?_
              exact ⟨by unfold sgF sgV; rw [if_pos h3, if_neg (c := h 101 l.s = nI 38) zq0, if_neg (c := h 101 l.s = nI 42) zq1, if_neg (c := h 101 l.s = nI 43) zq2, if_neg (c := h 101 l.s = nI 45) zq3, if_pos (c := h 101 l.s = nI 47) zq4] <;> rfl, rfl⟩
            · by_cases zq5 : h 101 l.s = Int32.ofInt (60)
              · refine p_lookup (dflt := 108) (ps := #[(38, 84), (42, 102), (43, 96), (45, 99), (47, 105), (60, 87), (61, 90), (62, 93), (124, 82)]) (len := 82) (off := 87) 101 (by decide +kernel) (by decide) (by rw [zq5]; rfl) (by decide) ?_
                refine p_run (pc' := 103) [.bipush (-3)] mkX8_signHere (by decide +kernel) rfl rfl ?_
                refine p_iret rfl rfl (by decide +kernel) ?_
                exact ⟨by unfold sgF sgV; rw [if_pos h3, if_neg (c := h 101 l.s = nI 38) zq0, if_neg (c := h 101 l.s = nI 42) zq1, if_neg (c := h 101 l.s = nI 43) zq2, if_neg (c := h 101 l.s = nI 45) zq3, if_neg (c := h 101 l.s = nI 47) zq4, if_pos (c := h 101 l.s = nI 60) zq5] <;> rfl, rfl⟩
              · by_cases zq6 : h 101 l.s = Int32.ofInt (61)
                · refine p_lookup (dflt := 108) (ps := #[(38, 84), (42, 102), (43, 96), (45, 99), (47, 105), (60, 87), (61, 90), (62, 93), (124, 82)]) (len := 82) (off := 90) 104 (by decide +kernel) (by decide) (by rw [zq6]; rfl) (by decide) ?_
                  refine p_run (pc' := 106) [.bipush (-4)] mkX8_signHere (by decide +kernel) rfl rfl ?_
                  refine p_iret rfl rfl (by decide +kernel) ?_
                  exact ⟨by unfold sgF sgV; rw [if_pos h3, if_neg (c := h 101 l.s = nI 38) zq0, if_neg (c := h 101 l.s = nI 42) zq1, if_neg (c := h 101 l.s = nI 43) zq2, if_neg (c := h 101 l.s = nI 45) zq3, if_neg (c := h 101 l.s = nI 47) zq4, if_neg (c := h 101 l.s = nI 60) zq5, if_pos (c := h 101 l.s = nI 61) zq6] <;> rfl, rfl⟩
                · by_cases zq7 : h 101 l.s = Int32.ofInt (62)
                  · refine p_lookup (dflt := 108) (ps := #[(38, 84), (42, 102), (43, 96), (45, 99), (47, 105), (60, 87), (61, 90), (62, 93), (124, 82)]) (len := 82) (off := 93) 107 (by decide +kernel) (by decide) (by rw [zq7]; rfl) (by decide) ?_
                    refine p_run (pc' := 109) [.bipush (-5)] mkX8_signHere (by decide +kernel) rfl rfl ?_
                    refine p_iret rfl rfl (by decide +kernel) ?_
                    exact ⟨by unfold sgF sgV; rw [if_pos h3, if_neg (c := h 101 l.s = nI 38) zq0, if_neg (c := h 101 l.s = nI 42) zq1, if_neg (c := h 101 l.s = nI 43) zq2, if_neg (c := h 101 l.s = nI 45) zq3, if_neg (c := h 101 l.s = nI 47) zq4, if_neg (c := h 101 l.s = nI 60) zq5, if_neg (c := h 101 l.s = nI 61) zq6, if_pos (c := h 101 l.s = nI 62) zq7] <;> rfl, rfl⟩
                  · by_cases zq8 : h 101 l.s = Int32.ofInt (124)
                    · refine p_lookup (dflt := 108) (ps := #[(38, 84), (42, 102), (43, 96), (45, 99), (47, 105), (60, 87), (61, 90), (62, 93), (124, 82)]) (len := 82) (off := 82) 96 (by decide +kernel) (by decide) (by rw [zq8]; rfl) (by decide) ?_
                      refine p_run (pc' := 97) [.iconst (-1)] mkX8_signHere (by decide +kernel) rfl rfl ?_
                      refine p_iret rfl rfl (by decide +kernel) ?_
                      exact ⟨by unfold sgF sgV; rw [if_pos h3, if_neg (c := h 101 l.s = nI 38) zq0, if_neg (c := h 101 l.s = nI 42) zq1, if_neg (c := h 101 l.s = nI 43) zq2, if_neg (c := h 101 l.s = nI 45) zq3, if_neg (c := h 101 l.s = nI 47) zq4, if_neg (c := h 101 l.s = nI 60) zq5, if_neg (c := h 101 l.s = nI 61) zq6, if_neg (c := h 101 l.s = nI 62) zq7, if_pos (c := h 101 l.s = nI 124) zq8] <;> rfl, rfl⟩
                    · refine p_lookup (dflt := 108) (ps := #[(38, 84), (42, 102), (43, 96), (45, 99), (47, 105), (60, 87), (61, 90), (62, 93), (124, 82)]) (len := 82) (off := 108) 122 (by decide +kernel) (by decide) (by show Op.lookupswitch.offset [(38, 84), (42, 102), (43, 96), (45, 99), (47, 105), (60, 87), (61, 90), (62, 93), (124, 82)] _ _ = _; rw [Op.lookupswitch.offset_cons, if_neg (tI_ne rfl zq0), Op.lookupswitch.offset_cons, if_neg (tI_ne rfl zq1), Op.lookupswitch.offset_cons, if_neg (tI_ne rfl zq2), Op.lookupswitch.offset_cons, if_neg (tI_ne rfl zq3), Op.lookupswitch.offset_cons, if_neg (tI_ne rfl zq4), Op.lookupswitch.offset_cons, if_neg (tI_ne rfl zq5), Op.lookupswitch.offset_cons, if_neg (tI_ne rfl zq6), Op.lookupswitch.offset_cons, if_neg (tI_ne rfl zq7), Op.lookupswitch.offset_cons, if_neg (tI_ne rfl zq8), Op.lookupswitch.offset_nil]) (by decide) ?_
                      refine p_run (pc' := 123) [.iconst 0] mkX8_signHere (by decide +kernel) rfl rfl ?_
                      refine p_iret rfl rfl (by decide +kernel) ?_
                      exact ⟨by unfold sgF sgV; rw [if_pos h3, if_neg (c := h 101 l.s = nI 38) zq0, if_neg (c := h 101 l.s = nI 42) zq1, if_neg (c := h 101 l.s = nI 43) zq2, if_neg (c := h 101 l.s = nI 45) zq3, if_neg (c := h 101 l.s = nI 47) zq4, if_neg (c := h 101 l.s = nI 60) zq5, if_neg (c := h 101 l.s = nI 61) zq6, if_neg (c := h 101 l.s = nI 62) zq7, if_neg (c := h 101 l.s = nI 124) zq8] <;> rfl, rfl⟩
  · refine p_run (pc' := 9) [.iconst 0] mkX8_signHere (by decide +kernel) rfl rfl ?_
    refine p_iret rfl rfl (by decide +kernel) ?_
    exact ⟨by unfold sgF; rw [if_neg (fun q => cq1 (by rw [q]; rfl))]; rfl, rfl⟩
end
section
/-! the reference: notsOpen, settle, takesKey, takesPart -/
theorem stk_not {f : Vc} : ∀ {W : List Int32}, stk f W → cntF (fun i => decide (f i = NOTv)) W.length = cnN W
  | [], _ => rfl
  | x :: r, h => by
    rw [List.length_cons, cntF, stk_not h.2, cnN]
    have e : f r.length = x := h.1
    rw [e, Nat.add_comm]
    congr 1
    by_cases hx : x = NOTv
    · rw [if_pos hx, if_pos (decide_eq_true hx)]
    · rw [if_neg hx, if_neg (fun q => hx (of_decide_eq_true q))]
def SS (h : Mm) (W C : List Int32) : Prop := h 96 19 = nI W.length ∧ h 96 16 = nI C.length ∧ stk (h 105) W ∧ stk (h 104) C
def Fa (A S : List Nat) (h hh : Mm) : Prop := Ag A h hh ∧ ∀ j, j ∉ S → hh 96 j = h 96 j
theorem Fa.rf {A S : List Nat} {h : Mm} : Fa A S h h := ⟨Ag.rf, fun _ _ => rfl⟩
theorem Fa.tr {A S : List Nat} {a b c : Mm} (x : Fa A S a b) (y : Fa A S b c) : Fa A S a c := ⟨x.1.tr y.1, fun j hj => (y.2 j hj).trans (x.2 j hj)⟩
theorem Fa.u1 {A S : List Nat} {h : Mm} {k : Nat} {x : Int32} (ha : 96 ∈ A) (hk : k ∈ S) : Fa A S h (up h 96 k x) := ⟨Ag.up ha, fun j hj => by rw [upS]; exact upd_n (fun e => hj (e ▸ hk))⟩
theorem Fa.ar {A S : List Nat} {h : Mm} {a k : Nat} {x : Int32} (ha : a ∈ A) (h96 : a ≠ 96) : Fa A S h (up h a k x) := ⟨Ag.up ha, fun j _ => by rw [upN (Ne.symm h96)]⟩
theorem Fa.mono {A A' S S' : List Nat} {h h' : Mm} (a : Fa A S h h') (ha : ∀ x, x ∈ A → x ∈ A') (hs : ∀ x, x ∈ S → x ∈ S') : Fa A' S' h h' := ⟨a.1.mono ha, fun j hj => a.2 j (fun q => hj (hs j q))⟩
theorem Fr.fa {A S : List Nat} {h h' : Mm} (ha : 96 ∈ A) (a : Fr S h h') : Fa A S h h' := ⟨a.1.mono (fun x hx => by simp at hx; rw [hx]; exact ha), a.2⟩
theorem rk6 (x : Int32) : rkF x ≤ 6 := by unfold rkF; (repeat' split) <;> omega
set_option maxRecDepth 20000 in
set_option maxHeartbeats 4000000 in
theorem notsOpen_ok (w : Wt) {k : Nat} (W : List Int32) (h : Mm) (e19 : h 96 19 = nI W.length) (hW : stk (h 105) W) (hl : W.length ≤ 96) : Ok w k MX8_notsOpen [.ref 96] h (Rv (nI (cnN W)) h) := by
  show Wp w k MX8_notsOpen _ 0 [some (.ref 96), none, none] [] h
  have hc := stk_not hW
  refine p_run (pc' := 4) [.iconst 0, .istore_n 1, .iconst 0, .istore_n 2] mkX8_notsOpen (by decide +kernel) rfl rfl ?_
  refine Wp.for (W.length) (fun i L hh => L = [some (.ref 96), some (.int (nI (cntF (fun i => decide (h 105 i = NOTv)) i))), some (.int (nI i))] ∧ h = hh) ?_ ?_ (0) (by omega) _ _ ?_
  · rintro i L hh hi ⟨rfl, hJ⟩ ih
    subst hJ
    refine p_run (pc' := 9) [.iload_n 2, .aload_n 0, .getfield 244] mkX8_notsOpen (by decide +kernel) rfl rfl ?_
    rw [e19]
    refine p_icmp_ge (off := 28) 37 (by decide +kernel) (by decide) (fun cq1 => ?_) (fun cq1 => ?_)
    · exact absurd cq1 (nI_ge (by omega) (by omega))
    · refine p_run (pc' := 18) [.iload_n 1, .aload_n 0, .getfield 35, .iload_n 2] mkX8_notsOpen (by decide +kernel) rfl rfl ?_
      refine p_iald (i) (by decide +kernel) rfl rfl rfl (by omega) ?_
      refine p_run (pc' := 21) [.bipush (-10)] mkX8_notsOpen (by decide +kernel) rfl rfl ?_
      refine p_icmp_ne (off := 7) 28 (by decide +kernel) (by decide) (fun cq2 => ?_) (fun cq2 => ?_)
      · refine p_run (pc' := 4) [.iconst 0, .iadd, .istore_n 1, .iinc 2 1, .goto (-30)] mkX8_notsOpen (by decide +kernel) rfl rfl ?_
        exact ih _ _ ⟨by rw [show nI i + Int32.ofInt 1 = nI (i + 1) by simp only [oI, nI_add], oI, nI_add, cntF, if_neg (fun q => cq2 (of_decide_eq_true q))], rfl⟩
      · refine p_run (pc' := 4) [.iconst 1, .goto 4, .iadd, .istore_n 1, .iinc 2 1, .goto (-30)] mkX8_notsOpen (by decide +kernel) rfl rfl ?_
        exact ih _ _ ⟨by rw [show nI i + Int32.ofInt 1 = nI (i + 1) by simp only [oI, nI_add], oI, nI_add, cntF, if_pos (decide_eq_true cq2)], rfl⟩
  · rintro L hh ⟨rfl, hJ⟩
    subst hJ
    refine p_run (pc' := 9) [.iload_n 2, .aload_n 0, .getfield 244] mkX8_notsOpen (by decide +kernel) rfl rfl ?_
    rw [e19]
    refine p_icmp_ge (off := 28) 37 (by decide +kernel) (by decide) (fun cq1 => ?_) (fun cq1 => ?_)
    · refine p_run (pc' := 38) [.iload_n 1] mkX8_notsOpen (by decide +kernel) rfl rfl ?_
      refine p_iret rfl rfl (by decide +kernel) ?_
      exact ⟨by rw [hc], rfl⟩
    · exact absurd (nI_le (Nat.le_refl _) (by omega)) cq1
  · exact ⟨rfl, rfl⟩
set_option maxRecDepth 20000 in
set_option maxHeartbeats 4000000 in
theorem settle_loop (w : Wt) {k : Nat} (hk : 1 ≤ k) (m : Nat) (hm : m ≤ 6) : ∀ (W C : List Int32) (h : Mm), W.length + C.length ≤ 96 → SS h W C → Wp w k MX8_settle (fun r h' => r = none ∧ SS h' (stF m W C).1 (stF m W C).2 ∧ Fa [96, 104] [16, 19] h h') 0 [some (.ref 96), some (.int (nI m))] [] h := by
  intro W
  induction W with
  | nil =>
    intro C h hl ⟨e19, e16, hW, hC⟩
    refine p_run (pc' := 4) [.aload_n 0, .getfield 244] mkX8_settle (by decide +kernel) rfl rfl ?_
    rw [e19]
    refine p_if_le (off := 78) 82 (by decide +kernel) (by decide) (fun cq1 => ?_) (fun cq1 => ?_)
    · refine p_vret rfl (by decide +kernel) ?_
      exact ⟨rfl, ⟨e19, e16, hW, hC⟩, Fa.rf⟩
    · exact absurd (show nI 0 ≤ 0 by decide) cq1
  | cons x W ih =>
    intro C h hl ⟨e19, e16, hW, hC⟩
    simp only [List.length_cons] at hl e19
    have ex : h 105 W.length = x := hW.1
    refine p_run (pc' := 4) [.aload_n 0, .getfield 244] mkX8_settle (by decide +kernel) rfl rfl ?_
    refine p_if_le (off := 78) 82 (by decide +kernel) (by decide) (fun cq1 => ?_) (fun cq1 => ?_)
    · exact False.elim (by rw [e19, show (0 : Int32) = nI 0 from rfl, nI_leI (by omega) (by omega)] at cq1; omega)
    · refine p_run (pc' := 17) [.aload_n 0, .getfield 35, .aload_n 0, .getfield 244, .iconst 1, .isub] mkX8_settle (by decide +kernel) rfl rfl ?_
      refine p_iald (W.length) (by decide +kernel) rfl rfl (by rw [e19, oI, nIs (by omega), Nat.add_sub_cancel]) (by omega) ?_
      rw [ex]
      refine p_run (pc' := 20) [.bipush (-11)] mkX8_settle (by decide +kernel) rfl rfl ?_
      refine p_icmp_eq (off := 62) 82 (by decide +kernel) (by decide) (fun cq2 => ?_) (fun cq2 => ?_)
      · refine p_vret rfl (by decide +kernel) ?_
        exact ⟨rfl, by rw [stF, if_neg (fun q => q.1 cq2)]; exact ⟨e19, e16, hW, hC⟩, Fa.rf⟩
      · refine p_run (pc' := 33) [.aload_n 0, .getfield 35, .aload_n 0, .getfield 244, .iconst 1, .isub] mkX8_settle (by decide +kernel) rfl rfl ?_
        refine p_iald (W.length) (by decide +kernel) rfl rfl (by rw [e19, oI, nIs (by omega), Nat.add_sub_cancel]) (by omega) ?_
        rw [ex]
        refine p_callSv (rank_ok w (k := k - 1) x _) ksX8_247 (by decide +kernel) (by omega) rfl rfl rfl rfl rfl ?_
        refine p_run (pc' := 38) [.iload_n 1] mkX8_settle (by decide +kernel) rfl rfl ?_
        refine p_icmp_lt (off := 44) 82 (by decide +kernel) (by decide) (fun cq3 => ?_) (fun cq3 => ?_)
        · rw [nI_ltI (by have := rk6 x; omega) (by omega)] at cq3
          refine p_vret rfl (by decide +kernel) ?_
          exact ⟨rfl, by rw [stF, if_neg (fun q => absurd q.2 (by omega))]; exact ⟨e19, e16, hW, hC⟩, Fa.rf⟩
        · rw [nI_ltI (by have := rk6 x; omega) (by omega)] at cq3
          refine p_run (pc' := 67) [.aload_n 0, .dup, .getfield 244, .iconst 1, .isub, .putfield 244, .aload_n 0, .getfield 32, .aload_n 0, .getfield 250, .aload_n 0, .getfield 35, .aload_n 0, .getfield 244] mkX8_settle (by decide +kernel) rfl rfl ?_
          have e19' : h 96 19 - Int32.ofInt 1 = nI W.length := by rw [e19, oI, nIs (by omega), Nat.add_sub_cancel]
          rw [e19']
          refine p_iald (W.length) (by decide +kernel) rfl rfl (by rw [uF]) (by omega) ?_
          rw [upN (by decide), ex]
          refine p_iast (C.length) (by decide +kernel) rfl rfl (by rw [uN (by decide), e16]) (by omega)  ?_
          refine p_run (pc' := 0) [.aload_n 0, .dup, .getfield 250, .iconst 1, .iadd, .putfield 250, .goto (-79)] mkX8_settle (by decide +kernel) rfl rfl ?_
          rw [stF, if_pos ⟨cq2, by omega⟩]
          refine Wp.imp (fun r h' q => ⟨q.1, q.2.1, Fa.tr ?_ q.2.2⟩) (ih (x :: C) _ (by simp only [List.length_cons]; omega) ⟨?_, ?_, ?_, ?_⟩)
          · exact (Fa.tr (Fa.tr (Fa.u1 (by decide) (by decide)) (Fa.ar (by decide) (by decide))) (Fa.u1 (by decide) (by decide)))
          · rw [uN (by decide), upN (by decide), uF]
          · rw [uF, upN (by decide), uN (by decide), e16, oI, nI_add]; rfl
          · rw [upN (by decide), upN (by decide), upN (by decide)]; exact hW.2
          · rw [upN (by decide), upS, upN (by decide)]; exact ⟨upd_s, stk_upd (Nat.le_refl _) hC⟩
theorem settle_ok (w : Wt) {k : Nat} (hk : 1 ≤ k) (m : Nat) (hm : m ≤ 6) (W C : List Int32) (h : Mm) (hl : W.length + C.length ≤ 96) (hS : SS h W C) : Ok w k MX8_settle [.ref 96, .int (nI m)] h (fun r h' => r = none ∧ SS h' (stF m W C).1 (stF m W C).2 ∧ Fa [96, 104] [16, 19] h h') := settle_loop w hk m hm W C h hl hS
end
section
/-! the reference: takesPart, takesKey -/
theorem tk1 {l : Lx} (h : tkF l = 1) : l.k = 1 := by
  unfold tkF at h
  by_cases h0 : l.k = 0
  · rw [if_pos h0] at h; omega
  · rw [if_neg h0] at h
    by_cases h1 : l.k = 1
    · exact h1
    · rw [if_neg h1] at h
      split at h
      · split at h <;> omega
      · omega
theorem tk2 {l : Lx} (h : tkF l = 2) : l.k = 2 := by
  unfold tkF at h
  by_cases h0 : l.k = 0
  · rw [if_pos h0] at h; omega
  · rw [if_neg h0] at h
    by_cases h1 : l.k = 1
    · rw [if_pos h1] at h
      split at h <;> omega
    · rw [if_neg h1] at h
      by_cases h2 : l.k = 2
      · exact h2
      · rw [if_neg h2] at h; omega
theorem Gs.of {n : Nat} {T R R' : Vc} {l : Lx} (h : Gs n T R l) (e : ∀ j, 6 ≤ j → j ≤ 11 → R' j = R j) : Gs n T R' l := by
  obtain ⟨a, b, c, d, f⟩ := h
  exact ⟨by rw [e 6 (by decide) (by decide), a], by rw [e 7 (by decide) (by decide), b], by rw [e 8 (by decide) (by decide), c], by rw [e 9 (by decide) (by decide), d], fun q => by rw [e 10 (by decide) (by decide), e 11 (by decide) (by decide)]; exact f q⟩
theorem lf2 {T : Vc} {key : Nat} {l : Lx} (h : tkF l = 2) : lfF T key l = some (vaF T l) := by unfold lfF; rw [if_pos h]
theorem lf1 {T : Vc} {key : Nat} {l : Lx} (h : tkF l = 1) (h1 : l.e - l.s = 1) (h2 : nI 0 ≤ nmI key (T l.s)) : lfF T key l = some (nI 10000 + nmI key (T l.s)) := by unfold lfF; rw [if_neg (by omega), if_pos ⟨h, h1, h2⟩]
theorem lf0 {T : Vc} {key : Nat} {l : Lx} (h : ¬ tkF l = 2) (h1 : ¬ (tkF l = 1 ∧ l.e - l.s = 1 ∧ nI 0 ≤ nmI key (T l.s))) : lfF T key l = none := by unfold lfF; rw [if_neg h, if_neg h1]
set_option maxRecDepth 20000 in
set_option maxHeartbeats 4000000 in
theorem part_b (w : Wt) {k : Nat} (hk : 2 ≤ k) (n key : Nat) (hn : n ≤ 96) (hkey : key ≤ 2) (l : Lx) (hl : Lg n l) (W C : List Int32) (h : Mm) (hg : Gs n (h 101) (h 96) l) (ek : h 96 12 = nI key) (hS : SS h W C) (hlen : W.length + C.length < 96) (x1 : Option Value) (x : Int32) (hx : lfF (h 101) key l = some x) : Wp w k MX8_takesPart (fun r h' => match lfF (h 101) key l with
    | none => r = some (.int (nI 0)) ∧ h' = h
    | some x => r = some (.int (nI 1)) ∧ Gs n (h 101) (h' 96) (lxN n (h 101) l) ∧ SS h' (stF 6 W (x :: C)).1 (stF 6 W (x :: C)).2 ∧ h' 96 17 = h 96 17 + nI 1 ∧ Fa [96, 104] [7, 8, 9, 10, 11, 16, 17, 19] h h') 52 [some (.ref 96), x1] [] h := by
  obtain ⟨e6, e7, e8, e9, e10⟩ := hg
  rw [hx]
  have hk0 : l.k ≠ 0 := by
    intro q
    have : tkF l = 0 := (tk0 hl).mpr q
    rw [lf0 (by omega) (fun z => by omega)] at hx
    cases hx
  obtain ⟨e10, eE⟩ := e10 hk0
  obtain ⟨s1, s2, s3, s4⟩ := hS
  refine p_run (pc' := 65) [.aload_n 0, .getfield 32, .aload_n 0, .getfield 250, .aload_n 0, .getfield 226, .iconst 2] mkX8_takesPart (by decide +kernel) rfl rfl ?_
  rw [e9]
  refine p_icmp_ne (off := 10) 75 (by decide +kernel) (by decide) (fun cq1 => ?_) (fun cq1 => ?_)
  · have hn2 : ¬ tkF l = 2 := fun q => cq1 (by rw [q]; rfl)
    have hnm : tkF l = 1 ∧ l.e - l.s = 1 ∧ nI 0 ≤ nmI key (h 101 l.s) := Classical.byContradiction (fun q => by rw [lf0 hn2 q] at hx; cases hx)
    have hva : vaF (h 101) l = h 101 l.s := by unfold vaF; rw [if_neg (by have := tk1 hnm.1; omega)]
    refine p_run (pc' := 83) [.sipush 10000, .aload_n 0, .aload_n 0, .getfield 232] mkX8_takesPart (by decide +kernel) rfl rfl ?_
    refine p_callVv (nameOf_ok w (k := k - 1) key hkey _ h ek) kvX8_253 (by decide +kernel) (by decide) rfl (by omega) rfl rfl rfl rfl rfl ?_
    refine p_run (pc' := 87) [.iadd] mkX8_takesPart (by decide +kernel) rfl rfl ?_
    rw [lf1 hnm.1 hnm.2.1 hnm.2.2] at hx
    have hx : nI 10000 + nmI key (h 101 l.s) = x := Option.some.inj hx
    rw [e10, hva, oI, hx]
    refine p_iast (C.length) (by decide +kernel) rfl rfl (by rw [s2]) (by omega)  ?_
    refine p_run (pc' := 111) [.aload_n 0, .dup, .getfield 250, .iconst 1, .iadd, .putfield 250, .aload_n 0, .dup, .getfield 256, .iconst 1, .iadd, .putfield 256, .aload_n 0, .bipush 6] mkX8_takesPart (by decide +kernel) rfl rfl ?_
    refine Wp.eqH (h' := up (up (up h 104 C.length x) 96 16 (nI (C.length + 1))) 96 17 (h 96 17 + nI 1)) (by rw [upN (show 96 ≠ 104 by decide), s2, uN (show 17 ≠ 16 by decide), upN (show 96 ≠ 104 by decide), oI, nI_add]) ?_
    generalize eh : up (up (up h 104 C.length x) 96 16 (nI (C.length + 1))) 96 17 (h 96 17 + nI 1) = h1
    have hF1 : Fa [96, 104] [7, 8, 9, 10, 11, 16, 17, 19] h h1 := by rw [← eh]; exact (Fa.tr (Fa.tr (Fa.ar (by decide) (by decide)) (Fa.u1 (by decide) (by decide))) (Fa.u1 (by decide) (by decide)))
    have hS1 : SS h1 W (x :: C) := by
      rw [← eh]
      exact ⟨by rw [uN (by decide), uN (by decide), upN (by decide)]; exact s1, by rw [uN (by decide), uF]; rfl, by rw [upN (by decide), upN (by decide), upN (by decide)]; exact s3, by rw [upN (by decide), upN (by decide), upS]; exact ⟨upd_s, stk_upd (Nat.le_refl _) s4⟩⟩
    have f6 : h1 96 6 = nI n := by rw [← eh, uN (by decide), uN (by decide), upN (by decide)]; exact e6
    have f7 : h1 96 7 = nI l.e := by rw [← eh, uN (by decide), uN (by decide), upN (by decide)]; exact e7
    have f11 : h1 96 11 = h 96 11 := by rw [← eh, uN (by decide), uN (by decide), upN (by decide)]
    have f17 : h1 96 17 = h 96 17 + nI 1 := by rw [← eh, uF]
    refine p_callVo (settle_ok w (k := k - 1) (by omega) 6 (by omega) W (x :: C) h1 (by simp only [List.length_cons]; omega) hS1) (fun _ _ q => q.1) kvX8_259 (by decide +kernel) (by decide) rfl (by omega) rfl rfl rfl rfl rfl (fun h' hq => ?_)
    obtain ⟨-, hS2, hF2⟩ := hq
    refine p_run (pc' := 115) [.aload_n 0] mkX8_takesPart (by decide +kernel) rfl rfl ?_
    have t101 : h' 101 = h 101 := by rw [hF2.1 101 (by decide), hF1.1 101 (by decide)]
    refine p_callVo (go_ok w (k := k - 1) (by omega) n hn l hl.2.2.1 h' (by rw [hF2.2 6 (by decide), f6]) (by rw [hF2.2 7 (by decide), f7]) (by rw [hF2.2 11 (by decide), f11]; exact eE)) (fun _ _ q => q.1) kvX8_241 (by decide +kernel) (by decide) rfl (by omega) rfl rfl rfl rfl rfl (fun h' hq => ?_)
    obtain ⟨-, hg3, hF3⟩ := hq
    refine p_run (pc' := 119) [.iconst 1] mkX8_takesPart (by decide +kernel) rfl rfl ?_
    refine p_iret rfl rfl (by decide +kernel) ?_
    refine ⟨rfl, ?_, ⟨?_, ?_, ?_, ?_⟩, ?_, ?_⟩
    · rw [t101] at hg3; exact hg3
    · rw [hF3.2 19 (by decide)]; exact hS2.1
    · rw [hF3.2 16 (by decide)]; exact hS2.2.1
    · rw [hF3.1 105 (by decide)]; exact hS2.2.2.1
    · rw [hF3.1 104 (by decide)]; exact hS2.2.2.2
    · rw [hF3.2 17 (by decide), hF2.2 17 (by decide), f17]
    · exact (hF1.tr (hF2.mono (by decide) (by decide))).tr ((Fr.fa (A := [96, 104]) (by decide) hF3).mono (by decide) (by decide))
  · have hn2 : tkF l = 2 := (nI_eq (by have := tk4 l; omega) (by omega)).mp cq1
    refine p_run (pc' := 87) [.aload_n 0, .getfield 232, .goto 15] mkX8_takesPart (by decide +kernel) rfl rfl ?_
    rw [lf2 hn2] at hx
    have hx : vaF (h 101) l = x := Option.some.inj hx
    rw [e10, hx]
    refine p_iast (C.length) (by decide +kernel) rfl rfl (by rw [s2]) (by omega)  ?_
    refine p_run (pc' := 111) [.aload_n 0, .dup, .getfield 250, .iconst 1, .iadd, .putfield 250, .aload_n 0, .dup, .getfield 256, .iconst 1, .iadd, .putfield 256, .aload_n 0, .bipush 6] mkX8_takesPart (by decide +kernel) rfl rfl ?_
    refine Wp.eqH (h' := up (up (up h 104 C.length x) 96 16 (nI (C.length + 1))) 96 17 (h 96 17 + nI 1)) (by rw [upN (show 96 ≠ 104 by decide), s2, uN (show 17 ≠ 16 by decide), upN (show 96 ≠ 104 by decide), oI, nI_add]) ?_
    generalize eh : up (up (up h 104 C.length x) 96 16 (nI (C.length + 1))) 96 17 (h 96 17 + nI 1) = h1
    have hF1 : Fa [96, 104] [7, 8, 9, 10, 11, 16, 17, 19] h h1 := by rw [← eh]; exact (Fa.tr (Fa.tr (Fa.ar (by decide) (by decide)) (Fa.u1 (by decide) (by decide))) (Fa.u1 (by decide) (by decide)))
    have hS1 : SS h1 W (x :: C) := by
      rw [← eh]
      exact ⟨by rw [uN (by decide), uN (by decide), upN (by decide)]; exact s1, by rw [uN (by decide), uF]; rfl, by rw [upN (by decide), upN (by decide), upN (by decide)]; exact s3, by rw [upN (by decide), upN (by decide), upS]; exact ⟨upd_s, stk_upd (Nat.le_refl _) s4⟩⟩
    have f6 : h1 96 6 = nI n := by rw [← eh, uN (by decide), uN (by decide), upN (by decide)]; exact e6
    have f7 : h1 96 7 = nI l.e := by rw [← eh, uN (by decide), uN (by decide), upN (by decide)]; exact e7
    have f11 : h1 96 11 = h 96 11 := by rw [← eh, uN (by decide), uN (by decide), upN (by decide)]
    have f17 : h1 96 17 = h 96 17 + nI 1 := by rw [← eh, uF]
    refine p_callVo (settle_ok w (k := k - 1) (by omega) 6 (by omega) W (x :: C) h1 (by simp only [List.length_cons]; omega) hS1) (fun _ _ q => q.1) kvX8_259 (by decide +kernel) (by decide) rfl (by omega) rfl rfl rfl rfl rfl (fun h' hq => ?_)
    obtain ⟨-, hS2, hF2⟩ := hq
    refine p_run (pc' := 115) [.aload_n 0] mkX8_takesPart (by decide +kernel) rfl rfl ?_
    have t101 : h' 101 = h 101 := by rw [hF2.1 101 (by decide), hF1.1 101 (by decide)]
    refine p_callVo (go_ok w (k := k - 1) (by omega) n hn l hl.2.2.1 h' (by rw [hF2.2 6 (by decide), f6]) (by rw [hF2.2 7 (by decide), f7]) (by rw [hF2.2 11 (by decide), f11]; exact eE)) (fun _ _ q => q.1) kvX8_241 (by decide +kernel) (by decide) rfl (by omega) rfl rfl rfl rfl rfl (fun h' hq => ?_)
    obtain ⟨-, hg3, hF3⟩ := hq
    refine p_run (pc' := 119) [.iconst 1] mkX8_takesPart (by decide +kernel) rfl rfl ?_
    refine p_iret rfl rfl (by decide +kernel) ?_
    refine ⟨rfl, ?_, ⟨?_, ?_, ?_, ?_⟩, ?_, ?_⟩
    · rw [t101] at hg3; exact hg3
    · rw [hF3.2 19 (by decide)]; exact hS2.1
    · rw [hF3.2 16 (by decide)]; exact hS2.2.1
    · rw [hF3.1 105 (by decide)]; exact hS2.2.2.1
    · rw [hF3.1 104 (by decide)]; exact hS2.2.2.2
    · rw [hF3.2 17 (by decide), hF2.2 17 (by decide), f17]
    · exact (hF1.tr (hF2.mono (by decide) (by decide))).tr ((Fr.fa (A := [96, 104]) (by decide) hF3).mono (by decide) (by decide))
set_option maxRecDepth 20000 in
set_option maxHeartbeats 4000000 in
theorem part_t (w : Wt) {k : Nat} (hk : 2 ≤ k) (n key : Nat) (hn : n ≤ 96) (hkey : key ≤ 2) (l : Lx) (hl : Lg n l) (W C : List Int32) (h : Mm) (hg : Gs n (h 101) (h 96) l) (ek : h 96 12 = nI key) (hS : SS h W C) (hlen : W.length + C.length < 96) (hnm : (tkF l = 1 ∧ l.e - l.s = 1 ∧ nI 0 ≤ nmI key (h 101 l.s))) : Wp w k MX8_takesPart (fun r h' => match lfF (h 101) key l with
    | none => r = some (.int (nI 0)) ∧ h' = h
    | some x => r = some (.int (nI 1)) ∧ Gs n (h 101) (h' 96) (lxN n (h 101) l) ∧ SS h' (stF 6 W (x :: C)).1 (stF 6 W (x :: C)).2 ∧ h' 96 17 = h 96 17 + nI 1 ∧ Fa [96, 104] [7, 8, 9, 10, 11, 16, 17, 19] h h') 38 [some (.ref 96), some (.int (nI 1))] [] h := by
  obtain ⟨e6, e7, e8, e9, e10⟩ := hg
  have hg : Gs n (h 101) (h 96) l := ⟨e6, e7, e8, e9, e10⟩
  refine p_run (pc' := 43) [.aload_n 0, .getfield 226, .iconst 2] mkX8_takesPart (by decide +kernel) rfl rfl ?_
  rw [e9]
  refine p_icmp_eq (off := 9) 52 (by decide +kernel) (by decide) (fun cq1 => ?_) (fun cq1 => ?_)
  · exact part_b w hk n key hn hkey l hl W C h hg ek hS hlen _ _ (lf2 ((nI_eq (by have := tk4 l; omega) (by omega)).mp cq1))
  · refine p_run (pc' := 47) [.iload_n 1] mkX8_takesPart (by decide +kernel) rfl rfl ?_
    refine p_if_ne (off := 5) 52 (by decide +kernel) (by decide) (fun cq2 => ?_) (fun cq2 => ?_)
    · exact part_b w hk n key hn hkey l hl W C h hg ek hS hlen _ _ (lf1 hnm.1 hnm.2.1 hnm.2.2)
    · exact False.elim (by revert cq2; decide)
set_option maxRecDepth 20000 in
set_option maxHeartbeats 4000000 in
theorem part_f (w : Wt) {k : Nat} (hk : 2 ≤ k) (n key : Nat) (hn : n ≤ 96) (hkey : key ≤ 2) (l : Lx) (hl : Lg n l) (W C : List Int32) (h : Mm) (hg : Gs n (h 101) (h 96) l) (ek : h 96 12 = nI key) (hS : SS h W C) (hlen : W.length + C.length < 96) (hnm : ¬ (tkF l = 1 ∧ l.e - l.s = 1 ∧ nI 0 ≤ nmI key (h 101 l.s))) : Wp w k MX8_takesPart (fun r h' => match lfF (h 101) key l with
    | none => r = some (.int (nI 0)) ∧ h' = h
    | some x => r = some (.int (nI 1)) ∧ Gs n (h 101) (h' 96) (lxN n (h 101) l) ∧ SS h' (stF 6 W (x :: C)).1 (stF 6 W (x :: C)).2 ∧ h' 96 17 = h 96 17 + nI 1 ∧ Fa [96, 104] [7, 8, 9, 10, 11, 16, 17, 19] h h') 38 [some (.ref 96), some (.int (nI 0))] [] h := by
  obtain ⟨e6, e7, e8, e9, e10⟩ := hg
  have hg : Gs n (h 101) (h 96) l := ⟨e6, e7, e8, e9, e10⟩
  refine p_run (pc' := 43) [.aload_n 0, .getfield 226, .iconst 2] mkX8_takesPart (by decide +kernel) rfl rfl ?_
  rw [e9]
  refine p_icmp_eq (off := 9) 52 (by decide +kernel) (by decide) (fun cq1 => ?_) (fun cq1 => ?_)
  · exact part_b w hk n key hn hkey l hl W C h hg ek hS hlen _ _ (lf2 ((nI_eq (by have := tk4 l; omega) (by omega)).mp cq1))
  · refine p_run (pc' := 47) [.iload_n 1] mkX8_takesPart (by decide +kernel) rfl rfl ?_
    refine p_if_ne (off := 5) 52 (by decide +kernel) (by decide) (fun cq2 => ?_) (fun cq2 => ?_)
    · exact absurd rfl cq2
    · refine p_run (pc' := 51) [.iconst 0] mkX8_takesPart (by decide +kernel) rfl rfl ?_
      refine p_iret rfl rfl (by decide +kernel) ?_
      rw [lf0 (fun q => cq1 (by rw [q]; rfl)) hnm]; exact ⟨rfl, rfl⟩
set_option maxRecDepth 20000 in
set_option maxHeartbeats 4000000 in
theorem takesPart_ok (w : Wt) {k : Nat} (hk : 2 ≤ k) (n key : Nat) (hn : n ≤ 96) (hkey : key ≤ 2) (l : Lx) (hl : Lg n l) (W C : List Int32) (h : Mm) (hg : Gs n (h 101) (h 96) l) (ek : h 96 12 = nI key) (hS : SS h W C) (hlen : W.length + C.length < 96) : Ok w k MX8_takesPart [.ref 96] h ((fun r h' => match lfF (h 101) key l with
    | none => r = some (.int (nI 0)) ∧ h' = h
    | some x => r = some (.int (nI 1)) ∧ Gs n (h 101) (h' 96) (lxN n (h 101) l) ∧ SS h' (stF 6 W (x :: C)).1 (stF 6 W (x :: C)).2 ∧ h' 96 17 = h 96 17 + nI 1 ∧ Fa [96, 104] [7, 8, 9, 10, 11, 16, 17, 19] h h')) := by
  show Wp w k MX8_takesPart _ 0 [some (.ref 96), none] [] h
  obtain ⟨e6, e7, e8, e9, e10⟩ := hg
  have hg : Gs n (h 101) (h 96) l := ⟨e6, e7, e8, e9, e10⟩
  have hle := hl.2.1
  have hln := hl.2.2.1
  refine p_run (pc' := 5) [.aload_n 0, .getfield 226, .iconst 1] mkX8_takesPart (by decide +kernel) rfl rfl ?_
  rw [e9]
  refine p_icmp_ne (off := 31) 36 (by decide +kernel) (by decide) (fun cq1 => ?_) (fun cq1 => ?_)
  · refine p_run (pc' := 38) [.iconst 0, .istore_n 1] mkX8_takesPart (by decide +kernel) rfl rfl ?_
    exact part_f w hk n key hn hkey l hl W C h hg ek hS hlen (fun q => cq1 (by rw [q.1]; rfl))
  · have h1 : tkF l = 1 := (nI_eq (by have := tk4 l; omega) (by omega)).mp cq1
    have hk1 := tk1 h1
    have hva : vaF (h 101) l = h 101 l.s := by unfold vaF; rw [if_neg (by omega)]
    refine p_run (pc' := 18) [.aload_n 0, .getfield 217, .aload_n 0, .getfield 220, .isub, .iconst 1] mkX8_takesPart (by decide +kernel) rfl rfl ?_
    rw [e7, e8, nIs (by omega), oI]
    refine p_icmp_ne (off := 18) 36 (by decide +kernel) (by decide) (fun cq2 => ?_) (fun cq2 => ?_)
    · refine p_run (pc' := 38) [.iconst 0, .istore_n 1] mkX8_takesPart (by decide +kernel) rfl rfl ?_
      exact part_f w hk n key hn hkey l hl W C h hg ek hS hlen (fun q => cq2 (by rw [q.2.1]))
    · have h2 : l.e - l.s = 1 := (nI_eq (by omega) (by omega)).mp cq2
      refine p_run (pc' := 26) [.aload_n 0, .aload_n 0, .getfield 232] mkX8_takesPart (by decide +kernel) rfl rfl ?_
      rw [(e10 (by omega)).1, hva]
      refine p_callVv (nameOf_ok w (k := k - 1) key hkey _ h ek) kvX8_253 (by decide +kernel) (by decide) rfl (by omega) rfl rfl rfl rfl rfl ?_
      refine p_if_lt (off := 7) 36 (by decide +kernel) (by decide) (fun cq3 => ?_) (fun cq3 => ?_)
      · refine p_run (pc' := 38) [.iconst 0, .istore_n 1] mkX8_takesPart (by decide +kernel) rfl rfl ?_
        exact part_f w hk n key hn hkey l hl W C h hg ek hS hlen (fun q => absurd q.2.2 (Int32.not_le.mpr cq3))
      · refine p_run (pc' := 38) [.iconst 1, .goto 4, .istore_n 1] mkX8_takesPart (by decide +kernel) rfl rfl ?_
        exact part_t w hk n key hn hkey l hl W C h hg ek hS hlen ⟨h1, h2, Int32.not_lt.mp cq3⟩
set_option maxRecDepth 20000 in
set_option maxHeartbeats 4000000 in
theorem key_0 (w : Wt) {k : Nat} (l : Lx) (Q : Option Value → Mm → Prop) (h : Mm) (hK : KR h) (hs : l.s ≤ l.e) (he : l.e ≤ 96) (e7 : h 96 7 = nI l.e) (e8 : h 96 8 = nI l.s) (hno : ¬ kmP (h 101) l 0 → ∀ x2 x3 x4, Wp w k MX8_takesKey Q 12 [some (.ref 96), some (.int (nI 1)), x2, x3, x4] [] h) (hyes : kmP (h 101) l 0 → ∀ x2 x3 x4, Wp w k MX8_takesKey Q 110 [some (.ref 96), some (.int (nI 0)), x2, x3, x4] [] h) (x2 x3 x4 : Option Value) : Wp w k MX8_takesKey Q 12 [some (.ref 96), some (.int (nI 0)), x2, x3, x4] [] h := by
  obtain ⟨hC, k0, k1, k2, k3⟩ := hK
  refine p_run (pc' := 14) [.iload_n 1, .iconst 3] mkX8_takesKey (by decide +kernel) rfl rfl ?_
  refine p_icmp_ge (off := 113) 127 (by decide +kernel) (by decide) (fun cq1 => ?_) (fun cq1 => ?_)
  · exact False.elim (by revert cq1; decide)
  · refine p_run (pc' := 24) [.aload_n 0, .getfield 29, .iload_n 1, .iconst 1, .iadd] mkX8_takesKey (by decide +kernel) rfl rfl ?_
    refine p_iald (1) (by decide +kernel) rfl rfl rfl (by decide) ?_
    refine p_run (pc' := 30) [.aload_n 0, .getfield 29, .iload_n 1] mkX8_takesKey (by decide +kernel) rfl rfl ?_
    refine p_iald (0) (by decide +kernel) rfl rfl rfl (by decide) ?_
    rw [k1, k0]
    refine p_run (pc' := 43) [.isub, .istore_n 2, .iload_n 2, .aload_n 0, .getfield 217, .aload_n 0, .getfield 220, .isub] mkX8_takesKey (by decide +kernel) rfl rfl ?_
    rw [e7, e8, show nI 3 - nI 0 = nI 3 from rfl, nIs (by omega)]
    refine p_icmp_ne (off := 7) 50 (by decide +kernel) (by decide) (fun cq2 => ?_) (fun cq2 => ?_)
    · rw [nI_eq (by omega) (by omega)] at cq2
      refine p_run (pc' := 58) [.iconst 0, .istore_n 3, .iconst 0, .istore 4, .iload 4, .iload_n 2] mkX8_takesKey (by decide +kernel) rfl rfl ?_
      refine p_icmp_ge (off := 48) 106 (by decide +kernel) (by decide) (fun cq3 => ?_) (fun cq3 => ?_)
      · exact False.elim (by revert cq3; decide)
      · refine p_run (pc' := 62) [.iload_n 3] mkX8_takesKey (by decide +kernel) rfl rfl ?_
        refine p_if_eq (off := 44) 106 (by decide +kernel) (by decide) (fun cq4 => ?_) (fun cq4 => ?_)
        · refine p_run (pc' := 107) [.iload_n 3] mkX8_takesKey (by decide +kernel) rfl rfl ?_
          refine p_if_eq (off := 14) 121 (by decide +kernel) (by decide) (fun cq5 => ?_) (fun cq5 => ?_)
          · refine p_run (pc' := 12) [.iinc 1 1, .goto (-112)] mkX8_takesKey (by decide +kernel) rfl rfl ?_
            exact hno (fun q => cq2 (by have := q.1; unfold kln at this; simp at this; omega)) _ _ _
          · exact absurd rfl cq5
        · exact absurd rfl cq4
    · rw [nI_eq (by omega) (by omega)] at cq2
      refine p_run (pc' := 55) [.iconst 1, .goto 4, .istore_n 3, .iconst 0, .istore 4] mkX8_takesKey (by decide +kernel) rfl rfl ?_
      refine p_run (pc' := 58) [.iload 4, .iload_n 2] mkX8_takesKey (by decide +kernel) rfl rfl ?_
      refine p_icmp_ge (off := 48) 106 (by decide +kernel) (by decide) (fun cqi0 => ?_) (fun cqi0 => ?_)
      · exact False.elim (by revert cqi0; decide)
      · refine p_run (pc' := 62) [.iload_n 3] mkX8_takesKey (by decide +kernel) rfl rfl ?_
        refine p_if_eq (off := 44) 106 (by decide +kernel) (by decide) (fun cqs0 => ?_) (fun cqs0 => ?_)
        · exact False.elim (by revert cqs0; decide)
        · refine p_run (pc' := 76) [.aload_n 0, .getfield 22, .aload_n 0, .getfield 220, .iload 4, .iadd] mkX8_takesKey (by decide +kernel) rfl rfl ?_
          refine p_iald (l.s + 0) (by decide +kernel) rfl rfl (by rw [e8, ← nI_add]; rfl) (by omega) ?_
          refine p_run (pc' := 86) [.aload_n 0, .getfield 25, .aload_n 0, .getfield 29, .iload_n 1] mkX8_takesKey (by decide +kernel) rfl rfl ?_
          refine p_iald (0) (by decide +kernel) rfl rfl rfl (by decide) ?_
          rw [k0]
          refine p_run (pc' := 90) [.iload 4, .iadd] mkX8_takesKey (by decide +kernel) rfl rfl ?_
          refine p_cald 0 (by decide +kernel) rfl rfl rfl (by decide) ?_
          rw [hC 0 (by decide)]
          refine p_icmp_ne (off := 7) 98 (by decide +kernel) (by decide) (fun cqe0 => ?_) (fun cqe0 => ?_)
          · refine p_run (pc' := 58) [.iconst 0, .istore_n 3, .iinc 4 1, .goto (-48), .iload 4, .iload_n 2] mkX8_takesKey (by decide +kernel) rfl rfl ?_
            skip
            refine p_icmp_ge (off := 48) 106 (by decide +kernel) (by decide) (fun cqj0 => ?_) (fun cqj0 => ?_)
            · exact False.elim (by revert cqj0; decide)
            · refine p_run (pc' := 62) [.iload_n 3] mkX8_takesKey (by decide +kernel) rfl rfl ?_
              refine p_if_eq (off := 44) 106 (by decide +kernel) (by decide) (fun cql0 => ?_) (fun cql0 => ?_)
              · refine p_run (pc' := 107) [.iload_n 3] mkX8_takesKey (by decide +kernel) rfl rfl ?_
                refine p_if_eq (off := 14) 121 (by decide +kernel) (by decide) (fun cqk0 => ?_) (fun cqk0 => ?_)
                · refine p_run (pc' := 12) [.iinc 1 1, .goto (-112)] mkX8_takesKey (by decide +kernel) rfl rfl ?_
                  exact hno (fun q => cqe0 (q.2 0 (by decide))) _ _ _
                · exact absurd rfl cqk0
              · exact absurd rfl cql0
          · refine p_run (pc' := 55) [.iconst 1, .goto 4, .istore_n 3, .iinc 4 1, .goto (-48)] mkX8_takesKey (by decide +kernel) rfl rfl ?_
            refine p_run (pc' := 58) [.iload 4, .iload_n 2] mkX8_takesKey (by decide +kernel) rfl rfl ?_
            refine p_icmp_ge (off := 48) 106 (by decide +kernel) (by decide) (fun cqi1 => ?_) (fun cqi1 => ?_)
            · exact False.elim (by revert cqi1; decide)
            · refine p_run (pc' := 62) [.iload_n 3] mkX8_takesKey (by decide +kernel) rfl rfl ?_
              refine p_if_eq (off := 44) 106 (by decide +kernel) (by decide) (fun cqs1 => ?_) (fun cqs1 => ?_)
              · exact False.elim (by revert cqs1; decide)
              · refine p_run (pc' := 76) [.aload_n 0, .getfield 22, .aload_n 0, .getfield 220, .iload 4, .iadd] mkX8_takesKey (by decide +kernel) rfl rfl ?_
                refine p_iald (l.s + 1) (by decide +kernel) rfl rfl (by rw [e8, ← nI_add]; rfl) (by omega) ?_
                refine p_run (pc' := 86) [.aload_n 0, .getfield 25, .aload_n 0, .getfield 29, .iload_n 1] mkX8_takesKey (by decide +kernel) rfl rfl ?_
                refine p_iald (0) (by decide +kernel) rfl rfl rfl (by decide) ?_
                rw [k0]
                refine p_run (pc' := 90) [.iload 4, .iadd] mkX8_takesKey (by decide +kernel) rfl rfl ?_
                refine p_cald 1 (by decide +kernel) rfl rfl rfl (by decide) ?_
                rw [hC 1 (by decide)]
                refine p_icmp_ne (off := 7) 98 (by decide +kernel) (by decide) (fun cqe1 => ?_) (fun cqe1 => ?_)
                · refine p_run (pc' := 58) [.iconst 0, .istore_n 3, .iinc 4 1, .goto (-48), .iload 4, .iload_n 2] mkX8_takesKey (by decide +kernel) rfl rfl ?_
                  skip
                  refine p_icmp_ge (off := 48) 106 (by decide +kernel) (by decide) (fun cqj1 => ?_) (fun cqj1 => ?_)
                  · exact False.elim (by revert cqj1; decide)
                  · refine p_run (pc' := 62) [.iload_n 3] mkX8_takesKey (by decide +kernel) rfl rfl ?_
                    refine p_if_eq (off := 44) 106 (by decide +kernel) (by decide) (fun cql1 => ?_) (fun cql1 => ?_)
                    · refine p_run (pc' := 107) [.iload_n 3] mkX8_takesKey (by decide +kernel) rfl rfl ?_
                      refine p_if_eq (off := 14) 121 (by decide +kernel) (by decide) (fun cqk1 => ?_) (fun cqk1 => ?_)
                      · refine p_run (pc' := 12) [.iinc 1 1, .goto (-112)] mkX8_takesKey (by decide +kernel) rfl rfl ?_
                        exact hno (fun q => cqe1 (q.2 1 (by decide))) _ _ _
                      · exact absurd rfl cqk1
                    · exact absurd rfl cql1
                · refine p_run (pc' := 55) [.iconst 1, .goto 4, .istore_n 3, .iinc 4 1, .goto (-48)] mkX8_takesKey (by decide +kernel) rfl rfl ?_
                  refine p_run (pc' := 58) [.iload 4, .iload_n 2] mkX8_takesKey (by decide +kernel) rfl rfl ?_
                  refine p_icmp_ge (off := 48) 106 (by decide +kernel) (by decide) (fun cqi2 => ?_) (fun cqi2 => ?_)
                  · exact False.elim (by revert cqi2; decide)
                  · refine p_run (pc' := 62) [.iload_n 3] mkX8_takesKey (by decide +kernel) rfl rfl ?_
                    refine p_if_eq (off := 44) 106 (by decide +kernel) (by decide) (fun cqs2 => ?_) (fun cqs2 => ?_)
                    · exact False.elim (by revert cqs2; decide)
                    · refine p_run (pc' := 76) [.aload_n 0, .getfield 22, .aload_n 0, .getfield 220, .iload 4, .iadd] mkX8_takesKey (by decide +kernel) rfl rfl ?_
                      refine p_iald (l.s + 2) (by decide +kernel) rfl rfl (by rw [e8, ← nI_add]; rfl) (by omega) ?_
                      refine p_run (pc' := 86) [.aload_n 0, .getfield 25, .aload_n 0, .getfield 29, .iload_n 1] mkX8_takesKey (by decide +kernel) rfl rfl ?_
                      refine p_iald (0) (by decide +kernel) rfl rfl rfl (by decide) ?_
                      rw [k0]
                      refine p_run (pc' := 90) [.iload 4, .iadd] mkX8_takesKey (by decide +kernel) rfl rfl ?_
                      refine p_cald 2 (by decide +kernel) rfl rfl rfl (by decide) ?_
                      rw [hC 2 (by decide)]
                      refine p_icmp_ne (off := 7) 98 (by decide +kernel) (by decide) (fun cqe2 => ?_) (fun cqe2 => ?_)
                      · refine p_run (pc' := 58) [.iconst 0, .istore_n 3, .iinc 4 1, .goto (-48), .iload 4, .iload_n 2] mkX8_takesKey (by decide +kernel) rfl rfl ?_
                        skip
                        refine p_icmp_ge (off := 48) 106 (by decide +kernel) (by decide) (fun cqj2 => ?_) (fun cqj2 => ?_)
                        · refine p_run (pc' := 107) [.iload_n 3] mkX8_takesKey (by decide +kernel) rfl rfl ?_
                          refine p_if_eq (off := 14) 121 (by decide +kernel) (by decide) (fun cqk2 => ?_) (fun cqk2 => ?_)
                          · refine p_run (pc' := 12) [.iinc 1 1, .goto (-112)] mkX8_takesKey (by decide +kernel) rfl rfl ?_
                            exact hno (fun q => cqe2 (q.2 2 (by decide))) _ _ _
                          · exact absurd rfl cqk2
                        · exact False.elim (by revert cqj2; decide)
                      · refine p_run (pc' := 55) [.iconst 1, .goto 4, .istore_n 3, .iinc 4 1, .goto (-48)] mkX8_takesKey (by decide +kernel) rfl rfl ?_
                        refine p_run (pc' := 58) [.iload 4, .iload_n 2] mkX8_takesKey (by decide +kernel) rfl rfl ?_
                        refine p_icmp_ge (off := 48) 106 (by decide +kernel) (by decide) (fun cqi3 => ?_) (fun cqi3 => ?_)
                        · refine p_run (pc' := 107) [.iload_n 3] mkX8_takesKey (by decide +kernel) rfl rfl ?_
                          refine p_if_eq (off := 14) 121 (by decide +kernel) (by decide) (fun cqz => ?_) (fun cqz => ?_)
                          · exact False.elim (by revert cqz; decide)
                          · refine hyes ⟨by unfold kln; simp; omega, fun k hk => ?_⟩ _ _ _
                            match k, (show k < 3 from hk) with
                            | 0, _ => exact cqe0
                            | 1, _ => exact cqe1
                            | 2, _ => exact cqe2
                        · exact False.elim (by revert cqi3; decide)
set_option maxRecDepth 20000 in
set_option maxHeartbeats 4000000 in
theorem key_1 (w : Wt) {k : Nat} (l : Lx) (Q : Option Value → Mm → Prop) (h : Mm) (hK : KR h) (hs : l.s ≤ l.e) (he : l.e ≤ 96) (e7 : h 96 7 = nI l.e) (e8 : h 96 8 = nI l.s) (hno : ¬ kmP (h 101) l 1 → ∀ x2 x3 x4, Wp w k MX8_takesKey Q 12 [some (.ref 96), some (.int (nI 2)), x2, x3, x4] [] h) (hyes : kmP (h 101) l 1 → ∀ x2 x3 x4, Wp w k MX8_takesKey Q 110 [some (.ref 96), some (.int (nI 1)), x2, x3, x4] [] h) (x2 x3 x4 : Option Value) : Wp w k MX8_takesKey Q 12 [some (.ref 96), some (.int (nI 1)), x2, x3, x4] [] h := by
  obtain ⟨hC, k0, k1, k2, k3⟩ := hK
  refine p_run (pc' := 14) [.iload_n 1, .iconst 3] mkX8_takesKey (by decide +kernel) rfl rfl ?_
  refine p_icmp_ge (off := 113) 127 (by decide +kernel) (by decide) (fun cq1 => ?_) (fun cq1 => ?_)
  · exact False.elim (by revert cq1; decide)
  · refine p_run (pc' := 24) [.aload_n 0, .getfield 29, .iload_n 1, .iconst 1, .iadd] mkX8_takesKey (by decide +kernel) rfl rfl ?_
    refine p_iald (2) (by decide +kernel) rfl rfl rfl (by decide) ?_
    refine p_run (pc' := 30) [.aload_n 0, .getfield 29, .iload_n 1] mkX8_takesKey (by decide +kernel) rfl rfl ?_
    refine p_iald (1) (by decide +kernel) rfl rfl rfl (by decide) ?_
    rw [k2, k1]
    refine p_run (pc' := 43) [.isub, .istore_n 2, .iload_n 2, .aload_n 0, .getfield 217, .aload_n 0, .getfield 220, .isub] mkX8_takesKey (by decide +kernel) rfl rfl ?_
    rw [e7, e8, show nI 6 - nI 3 = nI 3 from rfl, nIs (by omega)]
    refine p_icmp_ne (off := 7) 50 (by decide +kernel) (by decide) (fun cq2 => ?_) (fun cq2 => ?_)
    · rw [nI_eq (by omega) (by omega)] at cq2
      refine p_run (pc' := 58) [.iconst 0, .istore_n 3, .iconst 0, .istore 4, .iload 4, .iload_n 2] mkX8_takesKey (by decide +kernel) rfl rfl ?_
      refine p_icmp_ge (off := 48) 106 (by decide +kernel) (by decide) (fun cq3 => ?_) (fun cq3 => ?_)
      · exact False.elim (by revert cq3; decide)
      · refine p_run (pc' := 62) [.iload_n 3] mkX8_takesKey (by decide +kernel) rfl rfl ?_
        refine p_if_eq (off := 44) 106 (by decide +kernel) (by decide) (fun cq4 => ?_) (fun cq4 => ?_)
        · refine p_run (pc' := 107) [.iload_n 3] mkX8_takesKey (by decide +kernel) rfl rfl ?_
          refine p_if_eq (off := 14) 121 (by decide +kernel) (by decide) (fun cq5 => ?_) (fun cq5 => ?_)
          · refine p_run (pc' := 12) [.iinc 1 1, .goto (-112)] mkX8_takesKey (by decide +kernel) rfl rfl ?_
            exact hno (fun q => cq2 (by have := q.1; unfold kln at this; simp at this; omega)) _ _ _
          · exact absurd rfl cq5
        · exact absurd rfl cq4
    · rw [nI_eq (by omega) (by omega)] at cq2
      refine p_run (pc' := 55) [.iconst 1, .goto 4, .istore_n 3, .iconst 0, .istore 4] mkX8_takesKey (by decide +kernel) rfl rfl ?_
      refine p_run (pc' := 58) [.iload 4, .iload_n 2] mkX8_takesKey (by decide +kernel) rfl rfl ?_
      refine p_icmp_ge (off := 48) 106 (by decide +kernel) (by decide) (fun cqi0 => ?_) (fun cqi0 => ?_)
      · exact False.elim (by revert cqi0; decide)
      · refine p_run (pc' := 62) [.iload_n 3] mkX8_takesKey (by decide +kernel) rfl rfl ?_
        refine p_if_eq (off := 44) 106 (by decide +kernel) (by decide) (fun cqs0 => ?_) (fun cqs0 => ?_)
        · exact False.elim (by revert cqs0; decide)
        · refine p_run (pc' := 76) [.aload_n 0, .getfield 22, .aload_n 0, .getfield 220, .iload 4, .iadd] mkX8_takesKey (by decide +kernel) rfl rfl ?_
          refine p_iald (l.s + 0) (by decide +kernel) rfl rfl (by rw [e8, ← nI_add]; rfl) (by omega) ?_
          refine p_run (pc' := 86) [.aload_n 0, .getfield 25, .aload_n 0, .getfield 29, .iload_n 1] mkX8_takesKey (by decide +kernel) rfl rfl ?_
          refine p_iald (1) (by decide +kernel) rfl rfl rfl (by decide) ?_
          rw [k1]
          refine p_run (pc' := 90) [.iload 4, .iadd] mkX8_takesKey (by decide +kernel) rfl rfl ?_
          refine p_cald 3 (by decide +kernel) rfl rfl rfl (by decide) ?_
          rw [hC 3 (by decide)]
          refine p_icmp_ne (off := 7) 98 (by decide +kernel) (by decide) (fun cqe0 => ?_) (fun cqe0 => ?_)
          · refine p_run (pc' := 58) [.iconst 0, .istore_n 3, .iinc 4 1, .goto (-48), .iload 4, .iload_n 2] mkX8_takesKey (by decide +kernel) rfl rfl ?_
            skip
            refine p_icmp_ge (off := 48) 106 (by decide +kernel) (by decide) (fun cqj0 => ?_) (fun cqj0 => ?_)
            · exact False.elim (by revert cqj0; decide)
            · refine p_run (pc' := 62) [.iload_n 3] mkX8_takesKey (by decide +kernel) rfl rfl ?_
              refine p_if_eq (off := 44) 106 (by decide +kernel) (by decide) (fun cql0 => ?_) (fun cql0 => ?_)
              · refine p_run (pc' := 107) [.iload_n 3] mkX8_takesKey (by decide +kernel) rfl rfl ?_
                refine p_if_eq (off := 14) 121 (by decide +kernel) (by decide) (fun cqk0 => ?_) (fun cqk0 => ?_)
                · refine p_run (pc' := 12) [.iinc 1 1, .goto (-112)] mkX8_takesKey (by decide +kernel) rfl rfl ?_
                  exact hno (fun q => cqe0 (q.2 0 (by decide))) _ _ _
                · exact absurd rfl cqk0
              · exact absurd rfl cql0
          · refine p_run (pc' := 55) [.iconst 1, .goto 4, .istore_n 3, .iinc 4 1, .goto (-48)] mkX8_takesKey (by decide +kernel) rfl rfl ?_
            refine p_run (pc' := 58) [.iload 4, .iload_n 2] mkX8_takesKey (by decide +kernel) rfl rfl ?_
            refine p_icmp_ge (off := 48) 106 (by decide +kernel) (by decide) (fun cqi1 => ?_) (fun cqi1 => ?_)
            · exact False.elim (by revert cqi1; decide)
            · refine p_run (pc' := 62) [.iload_n 3] mkX8_takesKey (by decide +kernel) rfl rfl ?_
              refine p_if_eq (off := 44) 106 (by decide +kernel) (by decide) (fun cqs1 => ?_) (fun cqs1 => ?_)
              · exact False.elim (by revert cqs1; decide)
              · refine p_run (pc' := 76) [.aload_n 0, .getfield 22, .aload_n 0, .getfield 220, .iload 4, .iadd] mkX8_takesKey (by decide +kernel) rfl rfl ?_
                refine p_iald (l.s + 1) (by decide +kernel) rfl rfl (by rw [e8, ← nI_add]; rfl) (by omega) ?_
                refine p_run (pc' := 86) [.aload_n 0, .getfield 25, .aload_n 0, .getfield 29, .iload_n 1] mkX8_takesKey (by decide +kernel) rfl rfl ?_
                refine p_iald (1) (by decide +kernel) rfl rfl rfl (by decide) ?_
                rw [k1]
                refine p_run (pc' := 90) [.iload 4, .iadd] mkX8_takesKey (by decide +kernel) rfl rfl ?_
                refine p_cald 4 (by decide +kernel) rfl rfl rfl (by decide) ?_
                rw [hC 4 (by decide)]
                refine p_icmp_ne (off := 7) 98 (by decide +kernel) (by decide) (fun cqe1 => ?_) (fun cqe1 => ?_)
                · refine p_run (pc' := 58) [.iconst 0, .istore_n 3, .iinc 4 1, .goto (-48), .iload 4, .iload_n 2] mkX8_takesKey (by decide +kernel) rfl rfl ?_
                  skip
                  refine p_icmp_ge (off := 48) 106 (by decide +kernel) (by decide) (fun cqj1 => ?_) (fun cqj1 => ?_)
                  · exact False.elim (by revert cqj1; decide)
                  · refine p_run (pc' := 62) [.iload_n 3] mkX8_takesKey (by decide +kernel) rfl rfl ?_
                    refine p_if_eq (off := 44) 106 (by decide +kernel) (by decide) (fun cql1 => ?_) (fun cql1 => ?_)
                    · refine p_run (pc' := 107) [.iload_n 3] mkX8_takesKey (by decide +kernel) rfl rfl ?_
                      refine p_if_eq (off := 14) 121 (by decide +kernel) (by decide) (fun cqk1 => ?_) (fun cqk1 => ?_)
                      · refine p_run (pc' := 12) [.iinc 1 1, .goto (-112)] mkX8_takesKey (by decide +kernel) rfl rfl ?_
                        exact hno (fun q => cqe1 (q.2 1 (by decide))) _ _ _
                      · exact absurd rfl cqk1
                    · exact absurd rfl cql1
                · refine p_run (pc' := 55) [.iconst 1, .goto 4, .istore_n 3, .iinc 4 1, .goto (-48)] mkX8_takesKey (by decide +kernel) rfl rfl ?_
                  refine p_run (pc' := 58) [.iload 4, .iload_n 2] mkX8_takesKey (by decide +kernel) rfl rfl ?_
                  refine p_icmp_ge (off := 48) 106 (by decide +kernel) (by decide) (fun cqi2 => ?_) (fun cqi2 => ?_)
                  · exact False.elim (by revert cqi2; decide)
                  · refine p_run (pc' := 62) [.iload_n 3] mkX8_takesKey (by decide +kernel) rfl rfl ?_
                    refine p_if_eq (off := 44) 106 (by decide +kernel) (by decide) (fun cqs2 => ?_) (fun cqs2 => ?_)
                    · exact False.elim (by revert cqs2; decide)
                    · refine p_run (pc' := 76) [.aload_n 0, .getfield 22, .aload_n 0, .getfield 220, .iload 4, .iadd] mkX8_takesKey (by decide +kernel) rfl rfl ?_
                      refine p_iald (l.s + 2) (by decide +kernel) rfl rfl (by rw [e8, ← nI_add]; rfl) (by omega) ?_
                      refine p_run (pc' := 86) [.aload_n 0, .getfield 25, .aload_n 0, .getfield 29, .iload_n 1] mkX8_takesKey (by decide +kernel) rfl rfl ?_
                      refine p_iald (1) (by decide +kernel) rfl rfl rfl (by decide) ?_
                      rw [k1]
                      refine p_run (pc' := 90) [.iload 4, .iadd] mkX8_takesKey (by decide +kernel) rfl rfl ?_
                      refine p_cald 5 (by decide +kernel) rfl rfl rfl (by decide) ?_
                      rw [hC 5 (by decide)]
                      refine p_icmp_ne (off := 7) 98 (by decide +kernel) (by decide) (fun cqe2 => ?_) (fun cqe2 => ?_)
                      · refine p_run (pc' := 58) [.iconst 0, .istore_n 3, .iinc 4 1, .goto (-48), .iload 4, .iload_n 2] mkX8_takesKey (by decide +kernel) rfl rfl ?_
                        skip
                        refine p_icmp_ge (off := 48) 106 (by decide +kernel) (by decide) (fun cqj2 => ?_) (fun cqj2 => ?_)
                        · refine p_run (pc' := 107) [.iload_n 3] mkX8_takesKey (by decide +kernel) rfl rfl ?_
                          refine p_if_eq (off := 14) 121 (by decide +kernel) (by decide) (fun cqk2 => ?_) (fun cqk2 => ?_)
                          · refine p_run (pc' := 12) [.iinc 1 1, .goto (-112)] mkX8_takesKey (by decide +kernel) rfl rfl ?_
                            exact hno (fun q => cqe2 (q.2 2 (by decide))) _ _ _
                          · exact absurd rfl cqk2
                        · exact False.elim (by revert cqj2; decide)
                      · refine p_run (pc' := 55) [.iconst 1, .goto 4, .istore_n 3, .iinc 4 1, .goto (-48)] mkX8_takesKey (by decide +kernel) rfl rfl ?_
                        refine p_run (pc' := 58) [.iload 4, .iload_n 2] mkX8_takesKey (by decide +kernel) rfl rfl ?_
                        refine p_icmp_ge (off := 48) 106 (by decide +kernel) (by decide) (fun cqi3 => ?_) (fun cqi3 => ?_)
                        · refine p_run (pc' := 107) [.iload_n 3] mkX8_takesKey (by decide +kernel) rfl rfl ?_
                          refine p_if_eq (off := 14) 121 (by decide +kernel) (by decide) (fun cqz => ?_) (fun cqz => ?_)
                          · exact False.elim (by revert cqz; decide)
                          · refine hyes ⟨by unfold kln; simp; omega, fun k hk => ?_⟩ _ _ _
                            match k, (show k < 3 from hk) with
                            | 0, _ => exact cqe0
                            | 1, _ => exact cqe1
                            | 2, _ => exact cqe2
                        · exact False.elim (by revert cqi3; decide)
set_option maxRecDepth 20000 in
set_option maxHeartbeats 4000000 in
theorem key_2 (w : Wt) {k : Nat} (l : Lx) (Q : Option Value → Mm → Prop) (h : Mm) (hK : KR h) (hs : l.s ≤ l.e) (he : l.e ≤ 96) (e7 : h 96 7 = nI l.e) (e8 : h 96 8 = nI l.s) (hno : ¬ kmP (h 101) l 2 → ∀ x2 x3 x4, Wp w k MX8_takesKey Q 12 [some (.ref 96), some (.int (nI 3)), x2, x3, x4] [] h) (hyes : kmP (h 101) l 2 → ∀ x2 x3 x4, Wp w k MX8_takesKey Q 110 [some (.ref 96), some (.int (nI 2)), x2, x3, x4] [] h) (x2 x3 x4 : Option Value) : Wp w k MX8_takesKey Q 12 [some (.ref 96), some (.int (nI 2)), x2, x3, x4] [] h := by
  obtain ⟨hC, k0, k1, k2, k3⟩ := hK
  refine p_run (pc' := 14) [.iload_n 1, .iconst 3] mkX8_takesKey (by decide +kernel) rfl rfl ?_
  refine p_icmp_ge (off := 113) 127 (by decide +kernel) (by decide) (fun cq1 => ?_) (fun cq1 => ?_)
  · exact False.elim (by revert cq1; decide)
  · refine p_run (pc' := 24) [.aload_n 0, .getfield 29, .iload_n 1, .iconst 1, .iadd] mkX8_takesKey (by decide +kernel) rfl rfl ?_
    refine p_iald (3) (by decide +kernel) rfl rfl rfl (by decide) ?_
    refine p_run (pc' := 30) [.aload_n 0, .getfield 29, .iload_n 1] mkX8_takesKey (by decide +kernel) rfl rfl ?_
    refine p_iald (2) (by decide +kernel) rfl rfl rfl (by decide) ?_
    rw [k3, k2]
    refine p_run (pc' := 43) [.isub, .istore_n 2, .iload_n 2, .aload_n 0, .getfield 217, .aload_n 0, .getfield 220, .isub] mkX8_takesKey (by decide +kernel) rfl rfl ?_
    rw [e7, e8, show nI 10 - nI 6 = nI 4 from rfl, nIs (by omega)]
    refine p_icmp_ne (off := 7) 50 (by decide +kernel) (by decide) (fun cq2 => ?_) (fun cq2 => ?_)
    · rw [nI_eq (by omega) (by omega)] at cq2
      refine p_run (pc' := 58) [.iconst 0, .istore_n 3, .iconst 0, .istore 4, .iload 4, .iload_n 2] mkX8_takesKey (by decide +kernel) rfl rfl ?_
      refine p_icmp_ge (off := 48) 106 (by decide +kernel) (by decide) (fun cq3 => ?_) (fun cq3 => ?_)
      · exact False.elim (by revert cq3; decide)
      · refine p_run (pc' := 62) [.iload_n 3] mkX8_takesKey (by decide +kernel) rfl rfl ?_
        refine p_if_eq (off := 44) 106 (by decide +kernel) (by decide) (fun cq4 => ?_) (fun cq4 => ?_)
        · refine p_run (pc' := 107) [.iload_n 3] mkX8_takesKey (by decide +kernel) rfl rfl ?_
          refine p_if_eq (off := 14) 121 (by decide +kernel) (by decide) (fun cq5 => ?_) (fun cq5 => ?_)
          · refine p_run (pc' := 12) [.iinc 1 1, .goto (-112)] mkX8_takesKey (by decide +kernel) rfl rfl ?_
            exact hno (fun q => cq2 (by have := q.1; unfold kln at this; simp at this; omega)) _ _ _
          · exact absurd rfl cq5
        · exact absurd rfl cq4
    · rw [nI_eq (by omega) (by omega)] at cq2
      refine p_run (pc' := 55) [.iconst 1, .goto 4, .istore_n 3, .iconst 0, .istore 4] mkX8_takesKey (by decide +kernel) rfl rfl ?_
      refine p_run (pc' := 58) [.iload 4, .iload_n 2] mkX8_takesKey (by decide +kernel) rfl rfl ?_
      refine p_icmp_ge (off := 48) 106 (by decide +kernel) (by decide) (fun cqi0 => ?_) (fun cqi0 => ?_)
      · exact False.elim (by revert cqi0; decide)
      · refine p_run (pc' := 62) [.iload_n 3] mkX8_takesKey (by decide +kernel) rfl rfl ?_
        refine p_if_eq (off := 44) 106 (by decide +kernel) (by decide) (fun cqs0 => ?_) (fun cqs0 => ?_)
        · exact False.elim (by revert cqs0; decide)
        · refine p_run (pc' := 76) [.aload_n 0, .getfield 22, .aload_n 0, .getfield 220, .iload 4, .iadd] mkX8_takesKey (by decide +kernel) rfl rfl ?_
          refine p_iald (l.s + 0) (by decide +kernel) rfl rfl (by rw [e8, ← nI_add]; rfl) (by omega) ?_
          refine p_run (pc' := 86) [.aload_n 0, .getfield 25, .aload_n 0, .getfield 29, .iload_n 1] mkX8_takesKey (by decide +kernel) rfl rfl ?_
          refine p_iald (2) (by decide +kernel) rfl rfl rfl (by decide) ?_
          rw [k2]
          refine p_run (pc' := 90) [.iload 4, .iadd] mkX8_takesKey (by decide +kernel) rfl rfl ?_
          refine p_cald 6 (by decide +kernel) rfl rfl rfl (by decide) ?_
          rw [hC 6 (by decide)]
          refine p_icmp_ne (off := 7) 98 (by decide +kernel) (by decide) (fun cqe0 => ?_) (fun cqe0 => ?_)
          · refine p_run (pc' := 58) [.iconst 0, .istore_n 3, .iinc 4 1, .goto (-48), .iload 4, .iload_n 2] mkX8_takesKey (by decide +kernel) rfl rfl ?_
            skip
            refine p_icmp_ge (off := 48) 106 (by decide +kernel) (by decide) (fun cqj0 => ?_) (fun cqj0 => ?_)
            · exact False.elim (by revert cqj0; decide)
            · refine p_run (pc' := 62) [.iload_n 3] mkX8_takesKey (by decide +kernel) rfl rfl ?_
              refine p_if_eq (off := 44) 106 (by decide +kernel) (by decide) (fun cql0 => ?_) (fun cql0 => ?_)
              · refine p_run (pc' := 107) [.iload_n 3] mkX8_takesKey (by decide +kernel) rfl rfl ?_
                refine p_if_eq (off := 14) 121 (by decide +kernel) (by decide) (fun cqk0 => ?_) (fun cqk0 => ?_)
                · refine p_run (pc' := 12) [.iinc 1 1, .goto (-112)] mkX8_takesKey (by decide +kernel) rfl rfl ?_
                  exact hno (fun q => cqe0 (q.2 0 (by decide))) _ _ _
                · exact absurd rfl cqk0
              · exact absurd rfl cql0
          · refine p_run (pc' := 55) [.iconst 1, .goto 4, .istore_n 3, .iinc 4 1, .goto (-48)] mkX8_takesKey (by decide +kernel) rfl rfl ?_
            refine p_run (pc' := 58) [.iload 4, .iload_n 2] mkX8_takesKey (by decide +kernel) rfl rfl ?_
            refine p_icmp_ge (off := 48) 106 (by decide +kernel) (by decide) (fun cqi1 => ?_) (fun cqi1 => ?_)
            · exact False.elim (by revert cqi1; decide)
            · refine p_run (pc' := 62) [.iload_n 3] mkX8_takesKey (by decide +kernel) rfl rfl ?_
              refine p_if_eq (off := 44) 106 (by decide +kernel) (by decide) (fun cqs1 => ?_) (fun cqs1 => ?_)
              · exact False.elim (by revert cqs1; decide)
              · refine p_run (pc' := 76) [.aload_n 0, .getfield 22, .aload_n 0, .getfield 220, .iload 4, .iadd] mkX8_takesKey (by decide +kernel) rfl rfl ?_
                refine p_iald (l.s + 1) (by decide +kernel) rfl rfl (by rw [e8, ← nI_add]; rfl) (by omega) ?_
                refine p_run (pc' := 86) [.aload_n 0, .getfield 25, .aload_n 0, .getfield 29, .iload_n 1] mkX8_takesKey (by decide +kernel) rfl rfl ?_
                refine p_iald (2) (by decide +kernel) rfl rfl rfl (by decide) ?_
                rw [k2]
                refine p_run (pc' := 90) [.iload 4, .iadd] mkX8_takesKey (by decide +kernel) rfl rfl ?_
                refine p_cald 7 (by decide +kernel) rfl rfl rfl (by decide) ?_
                rw [hC 7 (by decide)]
                refine p_icmp_ne (off := 7) 98 (by decide +kernel) (by decide) (fun cqe1 => ?_) (fun cqe1 => ?_)
                · refine p_run (pc' := 58) [.iconst 0, .istore_n 3, .iinc 4 1, .goto (-48), .iload 4, .iload_n 2] mkX8_takesKey (by decide +kernel) rfl rfl ?_
                  skip
                  refine p_icmp_ge (off := 48) 106 (by decide +kernel) (by decide) (fun cqj1 => ?_) (fun cqj1 => ?_)
                  · exact False.elim (by revert cqj1; decide)
                  · refine p_run (pc' := 62) [.iload_n 3] mkX8_takesKey (by decide +kernel) rfl rfl ?_
                    refine p_if_eq (off := 44) 106 (by decide +kernel) (by decide) (fun cql1 => ?_) (fun cql1 => ?_)
                    · refine p_run (pc' := 107) [.iload_n 3] mkX8_takesKey (by decide +kernel) rfl rfl ?_
                      refine p_if_eq (off := 14) 121 (by decide +kernel) (by decide) (fun cqk1 => ?_) (fun cqk1 => ?_)
                      · refine p_run (pc' := 12) [.iinc 1 1, .goto (-112)] mkX8_takesKey (by decide +kernel) rfl rfl ?_
                        exact hno (fun q => cqe1 (q.2 1 (by decide))) _ _ _
                      · exact absurd rfl cqk1
                    · exact absurd rfl cql1
                · refine p_run (pc' := 55) [.iconst 1, .goto 4, .istore_n 3, .iinc 4 1, .goto (-48)] mkX8_takesKey (by decide +kernel) rfl rfl ?_
                  refine p_run (pc' := 58) [.iload 4, .iload_n 2] mkX8_takesKey (by decide +kernel) rfl rfl ?_
                  refine p_icmp_ge (off := 48) 106 (by decide +kernel) (by decide) (fun cqi2 => ?_) (fun cqi2 => ?_)
                  · exact False.elim (by revert cqi2; decide)
                  · refine p_run (pc' := 62) [.iload_n 3] mkX8_takesKey (by decide +kernel) rfl rfl ?_
                    refine p_if_eq (off := 44) 106 (by decide +kernel) (by decide) (fun cqs2 => ?_) (fun cqs2 => ?_)
                    · exact False.elim (by revert cqs2; decide)
                    · refine p_run (pc' := 76) [.aload_n 0, .getfield 22, .aload_n 0, .getfield 220, .iload 4, .iadd] mkX8_takesKey (by decide +kernel) rfl rfl ?_
                      refine p_iald (l.s + 2) (by decide +kernel) rfl rfl (by rw [e8, ← nI_add]; rfl) (by omega) ?_
                      refine p_run (pc' := 86) [.aload_n 0, .getfield 25, .aload_n 0, .getfield 29, .iload_n 1] mkX8_takesKey (by decide +kernel) rfl rfl ?_
                      refine p_iald (2) (by decide +kernel) rfl rfl rfl (by decide) ?_
                      rw [k2]
                      refine p_run (pc' := 90) [.iload 4, .iadd] mkX8_takesKey (by decide +kernel) rfl rfl ?_
                      refine p_cald 8 (by decide +kernel) rfl rfl rfl (by decide) ?_
                      rw [hC 8 (by decide)]
                      refine p_icmp_ne (off := 7) 98 (by decide +kernel) (by decide) (fun cqe2 => ?_) (fun cqe2 => ?_)
                      · refine p_run (pc' := 58) [.iconst 0, .istore_n 3, .iinc 4 1, .goto (-48), .iload 4, .iload_n 2] mkX8_takesKey (by decide +kernel) rfl rfl ?_
                        skip
                        refine p_icmp_ge (off := 48) 106 (by decide +kernel) (by decide) (fun cqj2 => ?_) (fun cqj2 => ?_)
                        · exact False.elim (by revert cqj2; decide)
                        · refine p_run (pc' := 62) [.iload_n 3] mkX8_takesKey (by decide +kernel) rfl rfl ?_
                          refine p_if_eq (off := 44) 106 (by decide +kernel) (by decide) (fun cql2 => ?_) (fun cql2 => ?_)
                          · refine p_run (pc' := 107) [.iload_n 3] mkX8_takesKey (by decide +kernel) rfl rfl ?_
                            refine p_if_eq (off := 14) 121 (by decide +kernel) (by decide) (fun cqk2 => ?_) (fun cqk2 => ?_)
                            · refine p_run (pc' := 12) [.iinc 1 1, .goto (-112)] mkX8_takesKey (by decide +kernel) rfl rfl ?_
                              exact hno (fun q => cqe2 (q.2 2 (by decide))) _ _ _
                            · exact absurd rfl cqk2
                          · exact absurd rfl cql2
                      · refine p_run (pc' := 55) [.iconst 1, .goto 4, .istore_n 3, .iinc 4 1, .goto (-48)] mkX8_takesKey (by decide +kernel) rfl rfl ?_
                        refine p_run (pc' := 58) [.iload 4, .iload_n 2] mkX8_takesKey (by decide +kernel) rfl rfl ?_
                        refine p_icmp_ge (off := 48) 106 (by decide +kernel) (by decide) (fun cqi3 => ?_) (fun cqi3 => ?_)
                        · exact False.elim (by revert cqi3; decide)
                        · refine p_run (pc' := 62) [.iload_n 3] mkX8_takesKey (by decide +kernel) rfl rfl ?_
                          refine p_if_eq (off := 44) 106 (by decide +kernel) (by decide) (fun cqs3 => ?_) (fun cqs3 => ?_)
                          · exact False.elim (by revert cqs3; decide)
                          · refine p_run (pc' := 76) [.aload_n 0, .getfield 22, .aload_n 0, .getfield 220, .iload 4, .iadd] mkX8_takesKey (by decide +kernel) rfl rfl ?_
                            refine p_iald (l.s + 3) (by decide +kernel) rfl rfl (by rw [e8, ← nI_add]; rfl) (by omega) ?_
                            refine p_run (pc' := 86) [.aload_n 0, .getfield 25, .aload_n 0, .getfield 29, .iload_n 1] mkX8_takesKey (by decide +kernel) rfl rfl ?_
                            refine p_iald (2) (by decide +kernel) rfl rfl rfl (by decide) ?_
                            rw [k2]
                            refine p_run (pc' := 90) [.iload 4, .iadd] mkX8_takesKey (by decide +kernel) rfl rfl ?_
                            refine p_cald 9 (by decide +kernel) rfl rfl rfl (by decide) ?_
                            rw [hC 9 (by decide)]
                            refine p_icmp_ne (off := 7) 98 (by decide +kernel) (by decide) (fun cqe3 => ?_) (fun cqe3 => ?_)
                            · refine p_run (pc' := 58) [.iconst 0, .istore_n 3, .iinc 4 1, .goto (-48), .iload 4, .iload_n 2] mkX8_takesKey (by decide +kernel) rfl rfl ?_
                              skip
                              refine p_icmp_ge (off := 48) 106 (by decide +kernel) (by decide) (fun cqj3 => ?_) (fun cqj3 => ?_)
                              · refine p_run (pc' := 107) [.iload_n 3] mkX8_takesKey (by decide +kernel) rfl rfl ?_
                                refine p_if_eq (off := 14) 121 (by decide +kernel) (by decide) (fun cqk3 => ?_) (fun cqk3 => ?_)
                                · refine p_run (pc' := 12) [.iinc 1 1, .goto (-112)] mkX8_takesKey (by decide +kernel) rfl rfl ?_
                                  exact hno (fun q => cqe3 (q.2 3 (by decide))) _ _ _
                                · exact absurd rfl cqk3
                              · exact False.elim (by revert cqj3; decide)
                            · refine p_run (pc' := 55) [.iconst 1, .goto 4, .istore_n 3, .iinc 4 1, .goto (-48)] mkX8_takesKey (by decide +kernel) rfl rfl ?_
                              refine p_run (pc' := 58) [.iload 4, .iload_n 2] mkX8_takesKey (by decide +kernel) rfl rfl ?_
                              refine p_icmp_ge (off := 48) 106 (by decide +kernel) (by decide) (fun cqi4 => ?_) (fun cqi4 => ?_)
                              · refine p_run (pc' := 107) [.iload_n 3] mkX8_takesKey (by decide +kernel) rfl rfl ?_
                                refine p_if_eq (off := 14) 121 (by decide +kernel) (by decide) (fun cqz => ?_) (fun cqz => ?_)
                                · exact False.elim (by revert cqz; decide)
                                · refine hyes ⟨by unfold kln; simp; omega, fun k hk => ?_⟩ _ _ _
                                  match k, (show k < 4 from hk) with
                                  | 0, _ => exact cqe0
                                  | 1, _ => exact cqe1
                                  | 2, _ => exact cqe2
                                  | 3, _ => exact cqe3
                              · exact False.elim (by revert cqi4; decide)
theorem ke0 {T : Vc} {l : Lx} (h : ¬ tkF l = 1) : keF T l = none := by unfold keF; rw [if_neg h]
theorem ke1 {T : Vc} {l : Lx} (h : tkF l = 1) (h0 : kmP T l 0) : keF T l = some 0 := by unfold keF; rw [if_pos h, if_pos (kmB_iff.mpr h0)]
theorem ke2 {T : Vc} {l : Lx} (h : tkF l = 1) (h0 : ¬ kmP T l 0) (h1 : kmP T l 1) : keF T l = some 1 := by unfold keF; rw [if_pos h, if_neg (fun q => h0 (kmB_iff.mp q)), if_pos (kmB_iff.mpr h1)]
theorem ke3 {T : Vc} {l : Lx} (h : tkF l = 1) (h0 : ¬ kmP T l 0) (h1 : ¬ kmP T l 1) (h2 : kmP T l 2) : keF T l = some 2 := by unfold keF; rw [if_pos h, if_neg (fun q => h0 (kmB_iff.mp q)), if_neg (fun q => h1 (kmB_iff.mp q)), if_pos (kmB_iff.mpr h2)]
theorem ke4 {T : Vc} {l : Lx} (h : tkF l = 1) (h0 : ¬ kmP T l 0) (h1 : ¬ kmP T l 1) (h2 : ¬ kmP T l 2) : keF T l = none := by unfold keF; rw [if_pos h, if_neg (fun q => h0 (kmB_iff.mp q)), if_neg (fun q => h1 (kmB_iff.mp q)), if_neg (fun q => h2 (kmB_iff.mp q))]
set_option maxRecDepth 20000 in
set_option maxHeartbeats 4000000 in
theorem key_y (w : Wt) {k : Nat} (hk : 2 ≤ k) (n v : Nat) (hn : n ≤ 96) (l : Lx) (hl : Lg n l) (h : Mm) (hg : Gs n (h 101) (h 96) l) (hk1 : l.k ≠ 0) (hv : keF (h 101) l = some v) (x2 x3 x4 : Option Value) : Wp w k MX8_takesKey (fun r h' => match keF (h 101) l with
    | none => r = some (.int (nI 0)) ∧ h' = h
    | some w => r = some (.int (nI 1)) ∧ Gs n (h 101) (h' 96) (lxN n (h 101) l) ∧ h' 96 12 = nI w ∧ Fr [7, 8, 9, 10, 11, 12] h h') 110 [some (.ref 96), some (.int (nI v)), x2, x3, x4] [] h := by
  obtain ⟨e6, e7, e8, e9, e10⟩ := hg
  rw [hv]
  refine p_run (pc' := 116) [.aload_n 0, .iload_n 1, .putfield 238, .aload_n 0] mkX8_takesKey (by decide +kernel) rfl rfl ?_
  refine p_callVo (go_ok w (k := k - 1) (by omega) n hn l hl.2.2.1 _ (by rw [uN (by decide), e6]) (by rw [uN (by decide), e7]) (by rw [uN (by decide)]; exact (e10 hk1).2)) (fun _ _ q => q.1) kvX8_241 (by decide +kernel) (by decide) rfl (by omega) rfl rfl rfl rfl rfl (fun h' hq => ?_)
  obtain ⟨-, hg3, hF3⟩ := hq
  refine p_run (pc' := 120) [.iconst 1] mkX8_takesKey (by decide +kernel) rfl rfl ?_
  refine p_iret rfl rfl (by decide +kernel) ?_
  exact ⟨rfl, by rw [upN (by decide)] at hg3; exact hg3, by rw [hF3.2 12 (by decide), uF], (Fr.up (by decide)).tr (hF3.mono (by decide))⟩
set_option maxRecDepth 20000 in
set_option maxHeartbeats 4000000 in
theorem takesKey_ok (w : Wt) {k : Nat} (hk : 2 ≤ k) (n : Nat) (hn : n ≤ 96) (l : Lx) (hl : Lg n l) (h : Mm) (hg : Gs n (h 101) (h 96) l) (hK : KR h) : Ok w k MX8_takesKey [.ref 96] h ((fun r h' => match keF (h 101) l with
    | none => r = some (.int (nI 0)) ∧ h' = h
    | some w => r = some (.int (nI 1)) ∧ Gs n (h 101) (h' 96) (lxN n (h 101) l) ∧ h' 96 12 = nI w ∧ Fr [7, 8, 9, 10, 11, 12] h h')) := by
  show Wp w k MX8_takesKey _ 0 [some (.ref 96), none, none, none, none] [] h
  have hle := hl.2.1
  have hln := hl.2.2.1
  have e9 := hg.2.2.2.1
  refine p_run (pc' := 5) [.aload_n 0, .getfield 226, .iconst 1] mkX8_takesKey (by decide +kernel) rfl rfl ?_
  rw [e9]
  refine p_icmp_eq (off := 5) 10 (by decide +kernel) (by decide) (fun cq1 => ?_) (fun cq1 => ?_)
  · have h1 : tkF l = 1 := (nI_eq (by have := tk4 l; omega) (by omega)).mp cq1
    have hk1 : l.k ≠ 0 := by have := tk1 h1; omega
    refine p_run (pc' := 12) [.iconst 0, .istore_n 1] mkX8_takesKey (by decide +kernel) rfl rfl ?_
    refine key_0 w l _ h hK hle (by omega) hg.2.1 hg.2.2.1 (fun n0 x2 x3 x4 => ?_) (fun y0 => key_y w hk n _ hn l hl h hg hk1 (ke1 h1 y0)) _ _ _
    refine key_1 w l _ h hK hle (by omega) hg.2.1 hg.2.2.1 (fun n1 x2 x3 x4 => ?_) (fun y1 => key_y w hk n _ hn l hl h hg hk1 (ke2 h1 n0 y1)) _ _ _
    refine key_2 w l _ h hK hle (by omega) hg.2.1 hg.2.2.1 (fun n2 x2 x3 x4 => ?_) (fun y2 => key_y w hk n _ hn l hl h hg hk1 (ke3 h1 n0 n1 y2)) _ _ _
    refine p_run (pc' := 14) [.iload_n 1, .iconst 3] mkX8_takesKey (by decide +kernel) rfl rfl ?_
    refine p_icmp_ge (off := 113) 127 (by decide +kernel) (by decide) (fun cq2 => ?_) (fun cq2 => ?_)
    · refine p_run (pc' := 128) [.iconst 0] mkX8_takesKey (by decide +kernel) rfl rfl ?_
      refine p_iret rfl rfl (by decide +kernel) ?_
      rw [ke4 h1 n0 n1 n2]; exact ⟨rfl, rfl⟩
    · exact False.elim (by revert cq2; decide)
  · refine p_run (pc' := 9) [.iconst 0] mkX8_takesKey (by decide +kernel) rfl rfl ?_
    refine p_iret rfl rfl (by decide +kernel) ?_
    rw [ke0 (fun q => cq1 (by rw [q]; rfl))]; exact ⟨rfl, rfl⟩
end
