section
-- ===== PART A: goes FIRST, ahead of the names: the tables' words, and 'selects' of the private methods out of them =====
/-- a private method of a class that the tables say can be made, by its rows of tables_1 -/
def lw_okq (q : MethodName × Nat) : Prop := (q.1.cls ≠ "java/lang/invoke/MethodHandle" ∧ q.1.cls ≠ "java/lang/invoke/VarHandle") ∧ Cond.instantiable q.1.cls q.2 ∈ tables_1 ∧ Cond.privateMethod q.1 ∈ tables_1 ∧ Cond.instanceMethod q.1 ∈ tables_1
theorem lw_p0 : lw_okq (⟨"SpoonPassage", "isDigger", "(I)Z"⟩, 10) := ⟨⟨by decide +kernel, by decide +kernel⟩, List.mem_of_getElem? (i := 19) (by decide +kernel), List.mem_of_getElem? (i := 316) (by decide +kernel), List.mem_of_getElem? (i := 317) (by decide +kernel)⟩
theorem lw_p1 : lw_okq (⟨"SpoonPassage", "differences", "(LSpoonPassage$Sheet;I)I"⟩, 10) := ⟨⟨by decide +kernel, by decide +kernel⟩, List.mem_of_getElem? (i := 19) (by decide +kernel), List.mem_of_getElem? (i := 563) (by decide +kernel), List.mem_of_getElem? (i := 564) (by decide +kernel)⟩
theorem lw_p2 : lw_okq (⟨"SpoonPassage$Reader", "part", "(I)Z"⟩, 12) := ⟨⟨by decide +kernel, by decide +kernel⟩, List.mem_of_getElem? (i := 55) (by decide +kernel), List.mem_of_getElem? (i := 694) (by decide +kernel), List.mem_of_getElem? (i := 695) (by decide +kernel)⟩
theorem lw_p3 : lw_okq (⟨"SpoonPassage$Reader", "piece", "()Z"⟩, 12) := ⟨⟨by decide +kernel, by decide +kernel⟩, List.mem_of_getElem? (i := 55) (by decide +kernel), List.mem_of_getElem? (i := 698) (by decide +kernel), List.mem_of_getElem? (i := 699) (by decide +kernel)⟩
theorem lw_p4 : lw_okq (⟨"SpoonPassage$Reader", "not", "()Z"⟩, 12) := ⟨⟨by decide +kernel, by decide +kernel⟩, List.mem_of_getElem? (i := 55) (by decide +kernel), List.mem_of_getElem? (i := 779) (by decide +kernel), List.mem_of_getElem? (i := 780) (by decide +kernel)⟩
theorem lw_p5 : lw_okq (⟨"SpoonPassage$Reader", "bracket", "()Z"⟩, 12) := ⟨⟨by decide +kernel, by decide +kernel⟩, List.mem_of_getElem? (i := 55) (by decide +kernel), List.mem_of_getElem? (i := 783) (by decide +kernel), List.mem_of_getElem? (i := 784) (by decide +kernel)⟩
theorem lw_p6 : lw_okq (⟨"SpoonPassage", "isTold", "(III)Z"⟩, 10) := ⟨⟨by decide +kernel, by decide +kernel⟩, List.mem_of_getElem? (i := 19) (by decide +kernel), List.mem_of_getElem? (i := 888) (by decide +kernel), List.mem_of_getElem? (i := 889) (by decide +kernel)⟩
theorem lw_p7 : lw_okq (⟨"SpoonPassageModel", "comes", "(IIII)I"⟩, 33) := ⟨⟨by decide +kernel, by decide +kernel⟩, List.mem_of_getElem? (i := 905) (by decide +kernel), List.mem_of_getElem? (i := 1025) (by decide +kernel), List.mem_of_getElem? (i := 1026) (by decide +kernel)⟩
theorem lw_p8 : lw_okq (⟨"SpoonPassageModel", "put", "(III)V"⟩, 33) := ⟨⟨by decide +kernel, by decide +kernel⟩, List.mem_of_getElem? (i := 905) (by decide +kernel), List.mem_of_getElem? (i := 1029) (by decide +kernel), List.mem_of_getElem? (i := 1030) (by decide +kernel)⟩
theorem lw_p9 : lw_okq (⟨"SpoonPassageModel", "isDigger", "(I)Z"⟩, 33) := ⟨⟨by decide +kernel, by decide +kernel⟩, List.mem_of_getElem? (i := 905) (by decide +kernel), List.mem_of_getElem? (i := 1037) (by decide +kernel), List.mem_of_getElem? (i := 1038) (by decide +kernel)⟩
theorem lw_p10 : lw_okq (⟨"SpoonPassageModel", "of", "(II)I"⟩, 33) := ⟨⟨by decide +kernel, by decide +kernel⟩, List.mem_of_getElem? (i := 905) (by decide +kernel), List.mem_of_getElem? (i := 1041) (by decide +kernel), List.mem_of_getElem? (i := 1042) (by decide +kernel)⟩
theorem lw_p11 : lw_okq (⟨"SpoonPassageModel", "digsOf", "(I)I"⟩, 33) := ⟨⟨by decide +kernel, by decide +kernel⟩, List.mem_of_getElem? (i := 905) (by decide +kernel), List.mem_of_getElem? (i := 1045) (by decide +kernel), List.mem_of_getElem? (i := 1046) (by decide +kernel)⟩
theorem lw_p12 : lw_okq (⟨"SpoonPassageModel", "plainDig", "(I)I"⟩, 33) := ⟨⟨by decide +kernel, by decide +kernel⟩, List.mem_of_getElem? (i := 905) (by decide +kernel), List.mem_of_getElem? (i := 1049) (by decide +kernel), List.mem_of_getElem? (i := 1050) (by decide +kernel)⟩
theorem lw_p13 : lw_okq (⟨"SpoonPassageModel", "counts", "(I)I"⟩, 33) := ⟨⟨by decide +kernel, by decide +kernel⟩, List.mem_of_getElem? (i := 905) (by decide +kernel), List.mem_of_getElem? (i := 1053) (by decide +kernel), List.mem_of_getElem? (i := 1054) (by decide +kernel)⟩
theorem lw_p14 : lw_okq (⟨"SpoonPassageModel", "at", "(II)I"⟩, 33) := ⟨⟨by decide +kernel, by decide +kernel⟩, List.mem_of_getElem? (i := 905) (by decide +kernel), List.mem_of_getElem? (i := 1057) (by decide +kernel), List.mem_of_getElem? (i := 1058) (by decide +kernel)⟩
theorem lw_p15 : lw_okq (⟨"SpoonPassageModel", "ahead", "(I)I"⟩, 33) := ⟨⟨by decide +kernel, by decide +kernel⟩, List.mem_of_getElem? (i := 905) (by decide +kernel), List.mem_of_getElem? (i := 1061) (by decide +kernel), List.mem_of_getElem? (i := 1062) (by decide +kernel)⟩
def lw_privs_1 : List (MethodName × Nat) := [(⟨"SpoonPassage", "isDigger", "(I)Z"⟩, 10), (⟨"SpoonPassage", "differences", "(LSpoonPassage$Sheet;I)I"⟩, 10), (⟨"SpoonPassage$Reader", "part", "(I)Z"⟩, 12), (⟨"SpoonPassage$Reader", "piece", "()Z"⟩, 12), (⟨"SpoonPassage$Reader", "not", "()Z"⟩, 12), (⟨"SpoonPassage$Reader", "bracket", "()Z"⟩, 12), (⟨"SpoonPassage", "isTold", "(III)Z"⟩, 10), (⟨"SpoonPassageModel", "comes", "(IIII)I"⟩, 33), (⟨"SpoonPassageModel", "put", "(III)V"⟩, 33), (⟨"SpoonPassageModel", "isDigger", "(I)Z"⟩, 33), (⟨"SpoonPassageModel", "of", "(II)I"⟩, 33), (⟨"SpoonPassageModel", "digsOf", "(I)I"⟩, 33), (⟨"SpoonPassageModel", "plainDig", "(I)I"⟩, 33), (⟨"SpoonPassageModel", "counts", "(I)I"⟩, 33), (⟨"SpoonPassageModel", "at", "(II)I"⟩, 33), (⟨"SpoonPassageModel", "ahead", "(I)I"⟩, 33)]
theorem lw_r1 : ∀ q ∈ lw_privs_1, lw_okq q := List.forall_mem_cons.mpr ⟨lw_p0, List.forall_mem_cons.mpr ⟨lw_p1, List.forall_mem_cons.mpr ⟨lw_p2, List.forall_mem_cons.mpr ⟨lw_p3, List.forall_mem_cons.mpr ⟨lw_p4, List.forall_mem_cons.mpr ⟨lw_p5, List.forall_mem_cons.mpr ⟨lw_p6, List.forall_mem_cons.mpr ⟨lw_p7, List.forall_mem_cons.mpr ⟨lw_p8, List.forall_mem_cons.mpr ⟨lw_p9, List.forall_mem_cons.mpr ⟨lw_p10, List.forall_mem_cons.mpr ⟨lw_p11, List.forall_mem_cons.mpr ⟨lw_p12, List.forall_mem_cons.mpr ⟨lw_p13, List.forall_mem_cons.mpr ⟨lw_p14, List.forall_mem_cons.mpr ⟨lw_p15, fun _ h => absurd h List.not_mem_nil⟩⟩⟩⟩⟩⟩⟩⟩⟩⟩⟩⟩⟩⟩⟩⟩
theorem lw_p16 : lw_okq (⟨"SpoonPassageModel", "litIn", "(I)I"⟩, 33) := ⟨⟨by decide +kernel, by decide +kernel⟩, List.mem_of_getElem? (i := 905) (by decide +kernel), List.mem_of_getElem? (i := 1065) (by decide +kernel), List.mem_of_getElem? (i := 1066) (by decide +kernel)⟩
theorem lw_p17 : lw_okq (⟨"SpoonPassageModel", "worksOut", "(I)I"⟩, 33) := ⟨⟨by decide +kernel, by decide +kernel⟩, List.mem_of_getElem? (i := 905) (by decide +kernel), List.mem_of_getElem? (i := 1072) (by decide +kernel), List.mem_of_getElem? (i := 1073) (by decide +kernel)⟩
theorem lw_p18 : lw_okq (⟨"SpoonPassageModel", "isFarOff", "(I)Z"⟩, 33) := ⟨⟨by decide +kernel, by decide +kernel⟩, List.mem_of_getElem? (i := 905) (by decide +kernel), List.mem_of_getElem? (i := 1082) (by decide +kernel), List.mem_of_getElem? (i := 1083) (by decide +kernel)⟩
theorem lw_p19 : lw_okq (⟨"SpoonPassageModel", "fellows", "(I)I"⟩, 33) := ⟨⟨by decide +kernel, by decide +kernel⟩, List.mem_of_getElem? (i := 905) (by decide +kernel), List.mem_of_getElem? (i := 1086) (by decide +kernel), List.mem_of_getElem? (i := 1087) (by decide +kernel)⟩
theorem lw_p20 : lw_okq (⟨"SpoonPassageModel", "burnsOf", "(I)I"⟩, 33) := ⟨⟨by decide +kernel, by decide +kernel⟩, List.mem_of_getElem? (i := 905) (by decide +kernel), List.mem_of_getElem? (i := 1090) (by decide +kernel), List.mem_of_getElem? (i := 1091) (by decide +kernel)⟩
theorem lw_p21 : lw_okq (⟨"SpoonPassageModel", "worthOf", "(I)I"⟩, 33) := ⟨⟨by decide +kernel, by decide +kernel⟩, List.mem_of_getElem? (i := 905) (by decide +kernel), List.mem_of_getElem? (i := 1094) (by decide +kernel), List.mem_of_getElem? (i := 1095) (by decide +kernel)⟩
theorem lw_p22 : lw_okq (⟨"SpoonPassageModel", "swaps", "(II)I"⟩, 33) := ⟨⟨by decide +kernel, by decide +kernel⟩, List.mem_of_getElem? (i := 905) (by decide +kernel), List.mem_of_getElem? (i := 1110) (by decide +kernel), List.mem_of_getElem? (i := 1111) (by decide +kernel)⟩
theorem lw_p23 : lw_okq (⟨"SpoonPassageModel", "mayBe", "(III)Z"⟩, 33) := ⟨⟨by decide +kernel, by decide +kernel⟩, List.mem_of_getElem? (i := 905) (by decide +kernel), List.mem_of_getElem? (i := 1126) (by decide +kernel), List.mem_of_getElem? (i := 1127) (by decide +kernel)⟩
theorem lw_p24 : lw_okq (⟨"SpoonPassageModel", "diggersIn", "(I)I"⟩, 33) := ⟨⟨by decide +kernel, by decide +kernel⟩, List.mem_of_getElem? (i := 905) (by decide +kernel), List.mem_of_getElem? (i := 1134) (by decide +kernel), List.mem_of_getElem? (i := 1135) (by decide +kernel)⟩
theorem lw_p25 : lw_okq (⟨"SpoonPassageModel", "allDigs", "(I)I"⟩, 33) := ⟨⟨by decide +kernel, by decide +kernel⟩, List.mem_of_getElem? (i := 905) (by decide +kernel), List.mem_of_getElem? (i := 1138) (by decide +kernel), List.mem_of_getElem? (i := 1139) (by decide +kernel)⟩
theorem lw_p26 : lw_okq (⟨"SpoonPassageModel", "draw", "()I"⟩, 33) := ⟨⟨by decide +kernel, by decide +kernel⟩, List.mem_of_getElem? (i := 905) (by decide +kernel), List.mem_of_getElem? (i := 1150) (by decide +kernel), List.mem_of_getElem? (i := 1151) (by decide +kernel)⟩
theorem lw_p27 : lw_okq (⟨"SpoonPassageModel", "sums", "(I)I"⟩, 33) := ⟨⟨by decide +kernel, by decide +kernel⟩, List.mem_of_getElem? (i := 905) (by decide +kernel), List.mem_of_getElem? (i := 1163) (by decide +kernel), List.mem_of_getElem? (i := 1164) (by decide +kernel)⟩
theorem lw_p28 : lw_okq (⟨"SpoonPassageModel", "goesOn", "(I)V"⟩, 33) := ⟨⟨by decide +kernel, by decide +kernel⟩, List.mem_of_getElem? (i := 905) (by decide +kernel), List.mem_of_getElem? (i := 1167) (by decide +kernel), List.mem_of_getElem? (i := 1168) (by decide +kernel)⟩
theorem lw_p29 : lw_okq (⟨"SpoonPassageModel", "night", "()V"⟩, 33) := ⟨⟨by decide +kernel, by decide +kernel⟩, List.mem_of_getElem? (i := 905) (by decide +kernel), List.mem_of_getElem? (i := 1171) (by decide +kernel), List.mem_of_getElem? (i := 1172) (by decide +kernel)⟩
theorem lw_p30 : lw_okq (⟨"SpoonPassageModel", "digs", "(I)V"⟩, 33) := ⟨⟨by decide +kernel, by decide +kernel⟩, List.mem_of_getElem? (i := 905) (by decide +kernel), List.mem_of_getElem? (i := 1175) (by decide +kernel), List.mem_of_getElem? (i := 1176) (by decide +kernel)⟩
theorem lw_p31 : lw_okq (⟨"SpoonPassageModel", "warder", "(I)V"⟩, 33) := ⟨⟨by decide +kernel, by decide +kernel⟩, List.mem_of_getElem? (i := 905) (by decide +kernel), List.mem_of_getElem? (i := 1179) (by decide +kernel), List.mem_of_getElem? (i := 1180) (by decide +kernel)⟩
def lw_privs_2 : List (MethodName × Nat) := [(⟨"SpoonPassageModel", "litIn", "(I)I"⟩, 33), (⟨"SpoonPassageModel", "worksOut", "(I)I"⟩, 33), (⟨"SpoonPassageModel", "isFarOff", "(I)Z"⟩, 33), (⟨"SpoonPassageModel", "fellows", "(I)I"⟩, 33), (⟨"SpoonPassageModel", "burnsOf", "(I)I"⟩, 33), (⟨"SpoonPassageModel", "worthOf", "(I)I"⟩, 33), (⟨"SpoonPassageModel", "swaps", "(II)I"⟩, 33), (⟨"SpoonPassageModel", "mayBe", "(III)Z"⟩, 33), (⟨"SpoonPassageModel", "diggersIn", "(I)I"⟩, 33), (⟨"SpoonPassageModel", "allDigs", "(I)I"⟩, 33), (⟨"SpoonPassageModel", "draw", "()I"⟩, 33), (⟨"SpoonPassageModel", "sums", "(I)I"⟩, 33), (⟨"SpoonPassageModel", "goesOn", "(I)V"⟩, 33), (⟨"SpoonPassageModel", "night", "()V"⟩, 33), (⟨"SpoonPassageModel", "digs", "(I)V"⟩, 33), (⟨"SpoonPassageModel", "warder", "(I)V"⟩, 33)]
theorem lw_r2 : ∀ q ∈ lw_privs_2, lw_okq q := List.forall_mem_cons.mpr ⟨lw_p16, List.forall_mem_cons.mpr ⟨lw_p17, List.forall_mem_cons.mpr ⟨lw_p18, List.forall_mem_cons.mpr ⟨lw_p19, List.forall_mem_cons.mpr ⟨lw_p20, List.forall_mem_cons.mpr ⟨lw_p21, List.forall_mem_cons.mpr ⟨lw_p22, List.forall_mem_cons.mpr ⟨lw_p23, List.forall_mem_cons.mpr ⟨lw_p24, List.forall_mem_cons.mpr ⟨lw_p25, List.forall_mem_cons.mpr ⟨lw_p26, List.forall_mem_cons.mpr ⟨lw_p27, List.forall_mem_cons.mpr ⟨lw_p28, List.forall_mem_cons.mpr ⟨lw_p29, List.forall_mem_cons.mpr ⟨lw_p30, List.forall_mem_cons.mpr ⟨lw_p31, fun _ h => absurd h List.not_mem_nil⟩⟩⟩⟩⟩⟩⟩⟩⟩⟩⟩⟩⟩⟩⟩⟩
theorem lw_p32 : lw_okq (⟨"SpoonPassageModel", "peopled", "()I"⟩, 33) := ⟨⟨by decide +kernel, by decide +kernel⟩, List.mem_of_getElem? (i := 905) (by decide +kernel), List.mem_of_getElem? (i := 1187) (by decide +kernel), List.mem_of_getElem? (i := 1188) (by decide +kernel)⟩
theorem lw_p33 : lw_okq (⟨"SpoonPassageModel", "front", "()I"⟩, 33) := ⟨⟨by decide +kernel, by decide +kernel⟩, List.mem_of_getElem? (i := 905) (by decide +kernel), List.mem_of_getElem? (i := 1191) (by decide +kernel), List.mem_of_getElem? (i := 1192) (by decide +kernel)⟩
theorem lw_p34 : lw_okq (⟨"SpoonPassageModel", "thinks", "()V"⟩, 33) := ⟨⟨by decide +kernel, by decide +kernel⟩, List.mem_of_getElem? (i := 905) (by decide +kernel), List.mem_of_getElem? (i := 1199) (by decide +kernel), List.mem_of_getElem? (i := 1200) (by decide +kernel)⟩
theorem lw_p35 : lw_okq (⟨"SpoonPassageModel", "putsBack", "()V"⟩, 33) := ⟨⟨by decide +kernel, by decide +kernel⟩, List.mem_of_getElem? (i := 905) (by decide +kernel), List.mem_of_getElem? (i := 1206) (by decide +kernel), List.mem_of_getElem? (i := 1207) (by decide +kernel)⟩
theorem lw_p36 : lw_okq (⟨"SpoonPassageModel", "isHigh", "(III)Z"⟩, 33) := ⟨⟨by decide +kernel, by decide +kernel⟩, List.mem_of_getElem? (i := 905) (by decide +kernel), List.mem_of_getElem? (i := 1223) (by decide +kernel), List.mem_of_getElem? (i := 1224) (by decide +kernel)⟩
theorem lw_p37 : lw_okq (⟨"SpoonPassageModel", "earthOn", "(II)I"⟩, 33) := ⟨⟨by decide +kernel, by decide +kernel⟩, List.mem_of_getElem? (i := 905) (by decide +kernel), List.mem_of_getElem? (i := 1231) (by decide +kernel), List.mem_of_getElem? (i := 1232) (by decide +kernel)⟩
theorem lw_p38 : lw_okq (⟨"SpoonPassageModel", "bestOf", "(IIIII)I"⟩, 33) := ⟨⟨by decide +kernel, by decide +kernel⟩, List.mem_of_getElem? (i := 905) (by decide +kernel), List.mem_of_getElem? (i := 1239) (by decide +kernel), List.mem_of_getElem? (i := 1240) (by decide +kernel)⟩
theorem lw_p39 : lw_okq (⟨"SpoonPassageModel", "go", "()V"⟩, 33) := ⟨⟨by decide +kernel, by decide +kernel⟩, List.mem_of_getElem? (i := 905) (by decide +kernel), List.mem_of_getElem? (i := 1278) (by decide +kernel), List.mem_of_getElem? (i := 1279) (by decide +kernel)⟩
theorem lw_p40 : lw_okq (⟨"SpoonPassageModel", "isLetter", "(I)Z"⟩, 33) := ⟨⟨by decide +kernel, by decide +kernel⟩, List.mem_of_getElem? (i := 905) (by decide +kernel), List.mem_of_getElem? (i := 1282) (by decide +kernel), List.mem_of_getElem? (i := 1283) (by decide +kernel)⟩
theorem lw_p41 : lw_okq (⟨"SpoonPassageModel", "isFigure", "(I)Z"⟩, 33) := ⟨⟨by decide +kernel, by decide +kernel⟩, List.mem_of_getElem? (i := 905) (by decide +kernel), List.mem_of_getElem? (i := 1286) (by decide +kernel), List.mem_of_getElem? (i := 1287) (by decide +kernel)⟩
theorem lw_p42 : lw_okq (⟨"SpoonPassageModel", "takesKey", "()Z"⟩, 33) := ⟨⟨by decide +kernel, by decide +kernel⟩, List.mem_of_getElem? (i := 905) (by decide +kernel), List.mem_of_getElem? (i := 1290) (by decide +kernel), List.mem_of_getElem? (i := 1291) (by decide +kernel)⟩
theorem lw_p43 : lw_okq (⟨"SpoonPassageModel", "takesE", "()Z"⟩, 33) := ⟨⟨by decide +kernel, by decide +kernel⟩, List.mem_of_getElem? (i := 905) (by decide +kernel), List.mem_of_getElem? (i := 1294) (by decide +kernel), List.mem_of_getElem? (i := 1295) (by decide +kernel)⟩
theorem lw_p44 : lw_okq (⟨"SpoonPassageModel", "takesPart", "()Z"⟩, 33) := ⟨⟨by decide +kernel, by decide +kernel⟩, List.mem_of_getElem? (i := 905) (by decide +kernel), List.mem_of_getElem? (i := 1298) (by decide +kernel), List.mem_of_getElem? (i := 1299) (by decide +kernel)⟩
theorem lw_p45 : lw_okq (⟨"SpoonPassageModel", "nameOf", "(I)I"⟩, 33) := ⟨⟨by decide +kernel, by decide +kernel⟩, List.mem_of_getElem? (i := 905) (by decide +kernel), List.mem_of_getElem? (i := 1302) (by decide +kernel), List.mem_of_getElem? (i := 1303) (by decide +kernel)⟩
theorem lw_p46 : lw_okq (⟨"SpoonPassageModel", "settle", "(I)V"⟩, 33) := ⟨⟨by decide +kernel, by decide +kernel⟩, List.mem_of_getElem? (i := 905) (by decide +kernel), List.mem_of_getElem? (i := 1306) (by decide +kernel), List.mem_of_getElem? (i := 1307) (by decide +kernel)⟩
theorem lw_p47 : lw_okq (⟨"SpoonPassageModel", "notsOpen", "()I"⟩, 33) := ⟨⟨by decide +kernel, by decide +kernel⟩, List.mem_of_getElem? (i := 905) (by decide +kernel), List.mem_of_getElem? (i := 1313) (by decide +kernel), List.mem_of_getElem? (i := 1314) (by decide +kernel)⟩
def lw_privs_3 : List (MethodName × Nat) := [(⟨"SpoonPassageModel", "peopled", "()I"⟩, 33), (⟨"SpoonPassageModel", "front", "()I"⟩, 33), (⟨"SpoonPassageModel", "thinks", "()V"⟩, 33), (⟨"SpoonPassageModel", "putsBack", "()V"⟩, 33), (⟨"SpoonPassageModel", "isHigh", "(III)Z"⟩, 33), (⟨"SpoonPassageModel", "earthOn", "(II)I"⟩, 33), (⟨"SpoonPassageModel", "bestOf", "(IIIII)I"⟩, 33), (⟨"SpoonPassageModel", "go", "()V"⟩, 33), (⟨"SpoonPassageModel", "isLetter", "(I)Z"⟩, 33), (⟨"SpoonPassageModel", "isFigure", "(I)Z"⟩, 33), (⟨"SpoonPassageModel", "takesKey", "()Z"⟩, 33), (⟨"SpoonPassageModel", "takesE", "()Z"⟩, 33), (⟨"SpoonPassageModel", "takesPart", "()Z"⟩, 33), (⟨"SpoonPassageModel", "nameOf", "(I)I"⟩, 33), (⟨"SpoonPassageModel", "settle", "(I)V"⟩, 33), (⟨"SpoonPassageModel", "notsOpen", "()I"⟩, 33)]
theorem lw_r3 : ∀ q ∈ lw_privs_3, lw_okq q := List.forall_mem_cons.mpr ⟨lw_p32, List.forall_mem_cons.mpr ⟨lw_p33, List.forall_mem_cons.mpr ⟨lw_p34, List.forall_mem_cons.mpr ⟨lw_p35, List.forall_mem_cons.mpr ⟨lw_p36, List.forall_mem_cons.mpr ⟨lw_p37, List.forall_mem_cons.mpr ⟨lw_p38, List.forall_mem_cons.mpr ⟨lw_p39, List.forall_mem_cons.mpr ⟨lw_p40, List.forall_mem_cons.mpr ⟨lw_p41, List.forall_mem_cons.mpr ⟨lw_p42, List.forall_mem_cons.mpr ⟨lw_p43, List.forall_mem_cons.mpr ⟨lw_p44, List.forall_mem_cons.mpr ⟨lw_p45, List.forall_mem_cons.mpr ⟨lw_p46, List.forall_mem_cons.mpr ⟨lw_p47, fun _ h => absurd h List.not_mem_nil⟩⟩⟩⟩⟩⟩⟩⟩⟩⟩⟩⟩⟩⟩⟩⟩
theorem lw_p48 : lw_okq (⟨"SpoonPassageModel", "signHere", "()I"⟩, 33) := ⟨⟨by decide +kernel, by decide +kernel⟩, List.mem_of_getElem? (i := 905) (by decide +kernel), List.mem_of_getElem? (i := 1317) (by decide +kernel), List.mem_of_getElem? (i := 1318) (by decide +kernel)⟩
theorem lw_p49 : lw_okq (⟨"SpoonPassageModel", "allDug", "()I"⟩, 33) := ⟨⟨by decide +kernel, by decide +kernel⟩, List.mem_of_getElem? (i := 905) (by decide +kernel), List.mem_of_getElem? (i := 1381) (by decide +kernel), List.mem_of_getElem? (i := 1382) (by decide +kernel)⟩
def lw_privs_4 : List (MethodName × Nat) := [(⟨"SpoonPassageModel", "signHere", "()I"⟩, 33), (⟨"SpoonPassageModel", "allDug", "()I"⟩, 33)]
theorem lw_r4 : ∀ q ∈ lw_privs_4, lw_okq q := List.forall_mem_cons.mpr ⟨lw_p48, List.forall_mem_cons.mpr ⟨lw_p49, fun _ h => absurd h List.not_mem_nil⟩⟩
def lw_privs : List (MethodName × Nat) := lw_privs_1 ++ (lw_privs_2 ++ (lw_privs_3 ++ (lw_privs_4)))
def lw_tbl : List Cond := k2_sels lw_privs ++ tables_1
theorem lw_privs_ok : ∀ q ∈ lw_privs, lw_okq q := by
  show ∀ q ∈ lw_privs_1 ++ (lw_privs_2 ++ (lw_privs_3 ++ (lw_privs_4))), lw_okq q
  exact List.forall_mem_append.mpr ⟨lw_r1, List.forall_mem_append.mpr ⟨lw_r2, List.forall_mem_append.mpr ⟨lw_r3, lw_r4⟩⟩⟩
def RX0 : String := "SpoonPassage$Branch"
def TX0 : u_T := fun k => match k with
  | 0 => ("SpoonPassage$Branch", "dug", "I", false)
  | 1 => ("SpoonPassage$Branch", "rock", "I", false)
  | _ => ("SpoonPassage$Branch", "warder", "I", false)
def tyX0 : Nat → FieldType := fun k => match k with
  | 0 => .int
  | 1 => .int
  | _ => .int
abbrev wsX00 : List Cond := u_ws RX0 TX0 3
theorem nmX0 : ∀ a, a < 3 → ∀ b, b < 3 → a ≠ b → (TX0 a).2.1 ≠ (TX0 b).2.1 := by decide +kernel
theorem tyX0_ok : ∀ k, k < 3 → parseFieldDescriptor (TX0 k).2.2.1 = some (tyX0 k) := by decide +kernel
abbrev cX0_init : ByteArray := prog_2_method_1_code
def yX0_init : MethodName := ⟨RX0, "<init>", "()V"⟩
abbrev cX0_becomeAs : ByteArray := prog_2_method_2_code
def yX0_becomeAs : MethodName := ⟨RX0, "becomeAs", "(LSpoonPassage$Branch;)V"⟩
abbrev cX0_ahead : ByteArray := prog_2_method_3_code
def yX0_ahead : MethodName := ⟨RX0, "ahead", "()I"⟩
def RX1 : String := "SpoonPassage$Digger"
def TX1 : u_T := fun k => match k with
  | 0 => ("SpoonPassage$Digger", "kind", "I", false)
  | 1 => ("SpoonPassage$Digger", "force", "I", false)
  | 2 => ("SpoonPassage$Digger", "candles", "I", false)
  | 3 => ("SpoonPassage$Digger", "branch", "I", false)
  | _ => ("SpoonPassage$Digger", "earth", "I", false)
def tyX1 : Nat → FieldType := fun k => match k with
  | 0 => .int
  | 1 => .int
  | 2 => .int
  | 3 => .int
  | _ => .int
abbrev wsX10 : List Cond := u_ws RX1 TX1 5
theorem nmX1 : ∀ a, a < 5 → ∀ b, b < 5 → a ≠ b → (TX1 a).2.1 ≠ (TX1 b).2.1 := by decide +kernel
theorem tyX1_ok : ∀ k, k < 5 → parseFieldDescriptor (TX1 k).2.2.1 = some (tyX1 k) := by decide +kernel
abbrev cX1_init : ByteArray := prog_3_method_1_code
def yX1_init : MethodName := ⟨RX1, "<init>", "()V"⟩
abbrev cX1_becomeAs : ByteArray := prog_3_method_2_code
def yX1_becomeAs : MethodName := ⟨RX1, "becomeAs", "(LSpoonPassage$Digger;)V"⟩
abbrev cX1_isLit : ByteArray := prog_3_method_3_code
def yX1_isLit : MethodName := ⟨RX1, "isLit", "()Z"⟩
abbrev cX1_isOne : ByteArray := prog_3_method_4_code
def yX1_isOne : MethodName := ⟨RX1, "isOne", "(I)Z"⟩
abbrev cX1_worth : ByteArray := prog_3_method_5_code
def yX1_worth : MethodName := ⟨RX1, "worth", "()I"⟩
def RX2 : String := "SpoonPassage$Passage"
def TX2 : u_T := fun k => match k with
  | 0 => ("SpoonPassage$Passage", "branches", "[LSpoonPassage$Branch;", true)
  | 1 => ("SpoonPassage$Passage", "family", "[LSpoonPassage$Digger;", true)
  | 2 => ("SpoonPassage$Passage", "laws", "[I", true)
  | 3 => ("SpoonPassage$Passage", "table", "LSpoonPassage$Texts;", true)
  | 4 => ("SpoonPassage$Passage", "diggers", "I", false)
  | 5 => ("SpoonPassage$Passage", "texts", "I", false)
  | 6 => ("SpoonPassage$Passage", "step", "I", false)
  | 7 => ("SpoonPassage$Passage", "fall", "I", false)
  | 8 => ("SpoonPassage$Passage", "met", "I", false)
  | 9 => ("SpoonPassage$Passage", "falls", "I", false)
  | 10 => ("SpoonPassage$Passage", "night", "I", false)
  | _ => ("SpoonPassage$Passage", "z", "I", false)
def tyX2 : Nat → FieldType := fun k => match k with
  | 0 => .array (.object "SpoonPassage$Branch")
  | 1 => .array (.object "SpoonPassage$Digger")
  | 2 => .array .int
  | 3 => .object "SpoonPassage$Texts"
  | 4 => .int
  | 5 => .int
  | 6 => .int
  | 7 => .int
  | 8 => .int
  | 9 => .int
  | 10 => .int
  | _ => .int
abbrev wsX20 : List Cond := u_ws RX2 TX2 12
theorem nmX2 : ∀ a, a < 12 → ∀ b, b < 12 → a ≠ b → (TX2 a).2.1 ≠ (TX2 b).2.1 := by decide +kernel
theorem tyX2_ok : ∀ k, k < 12 → parseFieldDescriptor (TX2 k).2.2.1 = some (tyX2 k) := by decide +kernel
abbrev cX2_init : ByteArray := prog_4_method_1_code
def yX2_init : MethodName := ⟨RX2, "<init>", "(LSpoonPassage$Texts;)V"⟩
abbrev cX2_becomeAs : ByteArray := prog_4_method_2_code
def yX2_becomeAs : MethodName := ⟨RX2, "becomeAs", "(LSpoonPassage$Passage;)V"⟩
abbrev cX2_add : ByteArray := prog_4_method_3_code
def yX2_add : MethodName := ⟨RX2, "add", "(IIII)I"⟩
abbrev cX2_addDrawn : ByteArray := prog_4_method_4_code
def yX2_addDrawn : MethodName := ⟨RX2, "addDrawn", "()V"⟩
abbrev cX2_draw : ByteArray := prog_4_method_5_code
def yX2_draw : MethodName := ⟨RX2, "draw", "()I"⟩
abbrev cX2_addText : ByteArray := prog_4_method_6_code
def yX2_addText : MethodName := ⟨RX2, "addText", "(LSpoonPassage$Reader;)I"⟩
abbrev cX2_pass : ByteArray := prog_4_method_7_code
def yX2_pass : MethodName := ⟨RX2, "pass", "(I)V"⟩
abbrev cX2_digAll : ByteArray := prog_4_method_8_code
def yX2_digAll : MethodName := ⟨RX2, "digAll", "()V"⟩
abbrev cX2_follow : ByteArray := prog_4_method_9_code
def yX2_follow : MethodName := ⟨RX2, "follow", "(I)V"⟩
abbrev cX2_flee : ByteArray := prog_4_method_10_code
def yX2_flee : MethodName := ⟨RX2, "flee", "(I)V"⟩
abbrev cX2_letRockFall : ByteArray := prog_4_method_11_code
def yX2_letRockFall : MethodName := ⟨RX2, "letRockFall", "()V"⟩
abbrev cX2_digs : ByteArray := prog_4_method_12_code
def yX2_digs : MethodName := ⟨RX2, "digs", "(I)I"⟩
abbrev cX2_burns : ByteArray := prog_4_method_13_code
def yX2_burns : MethodName := ⟨RX2, "burns", "(I)I"⟩
abbrev cX2_isFar : ByteArray := prog_4_method_14_code
def yX2_isFar : MethodName := ⟨RX2, "isFar", "(LSpoonPassage$Digger;)Z"⟩
abbrev cX2_plain : ByteArray := prog_4_method_15_code
def yX2_plain : MethodName := ⟨RX2, "plain", "(LSpoonPassage$Digger;)I"⟩
abbrev cX2_feeGives : ByteArray := prog_4_method_16_code
def yX2_feeGives : MethodName := ⟨RX2, "feeGives", "()I"⟩
abbrev cX2_fineGives : ByteArray := prog_4_method_17_code
def yX2_fineGives : MethodName := ⟨RX2, "fineGives", "(LSpoonPassage$Digger;)I"⟩
abbrev cX2_matesOf : ByteArray := prog_4_method_18_code
def yX2_matesOf : MethodName := ⟨RX2, "matesOf", "(I)I"⟩
abbrev cX2_litIn : ByteArray := prog_4_method_19_code
def yX2_litIn : MethodName := ⟨RX2, "litIn", "(I)I"⟩
abbrev cX2_diggersIn : ByteArray := prog_4_method_20_code
def yX2_diggersIn : MethodName := ⟨RX2, "diggersIn", "(I)I"⟩
abbrev cX2_digIn : ByteArray := prog_4_method_21_code
def yX2_digIn : MethodName := ⟨RX2, "digIn", "(I)I"⟩
abbrev cX2_lit : ByteArray := prog_4_method_22_code
def yX2_lit : MethodName := ⟨RX2, "lit", "()I"⟩
abbrev cX2_putOutAllBut : ByteArray := prog_4_method_23_code
def yX2_putOutAllBut : MethodName := ⟨RX2, "putOutAllBut", "(I)V"⟩
abbrev cX2_hill : ByteArray := prog_4_method_24_code
def yX2_hill : MethodName := ⟨RX2, "hill", "()I"⟩
abbrev cX2_candlesOfAll : ByteArray := prog_4_method_25_code
def yX2_candlesOfAll : MethodName := ⟨RX2, "candlesOfAll", "()I"⟩
abbrev cX2_branchesInUse : ByteArray := prog_4_method_26_code
def yX2_branchesInUse : MethodName := ⟨RX2, "branchesInUse", "()I"⟩
abbrev cX2_dugOfAll : ByteArray := prog_4_method_27_code
def yX2_dugOfAll : MethodName := ⟨RX2, "dugOfAll", "()I"⟩
abbrev cX2_room : ByteArray := prog_4_method_28_code
def yX2_room : MethodName := ⟨RX2, "room", "()I"⟩
abbrev cX2_front : ByteArray := prog_4_method_29_code
def yX2_front : MethodName := ⟨RX2, "front", "()I"⟩
def RX3 : String := "SpoonPassage$Reader"
def TX3 : u_T := fun k => match k with
  | 0 => ("SpoonPassage$Reader", "tape", "[I", true)
  | 1 => ("SpoonPassage$Reader", "size", "I", false)
  | 2 => ("SpoonPassage$Reader", "sort", "I", false)
  | 3 => ("SpoonPassage$Reader", "start", "I", false)
  | 4 => ("SpoonPassage$Reader", "end", "I", false)
  | 5 => ("SpoonPassage$Reader", "tight", "Z", false)
  | 6 => ("SpoonPassage$Reader", "open", "I", false)
  | 7 => ("SpoonPassage$Reader", "nots", "I", false)
  | 8 => ("SpoonPassage$Reader", "key", "I", false)
  | 9 => ("SpoonPassage$Reader", "leafCount", "I", false)
  | 10 => ("SpoonPassage$Reader", "code", "[I", true)
  | _ => ("SpoonPassage$Reader", "length", "I", false)
def tyX3 : Nat → FieldType := fun k => match k with
  | 0 => .array .int
  | 1 => .int
  | 2 => .int
  | 3 => .int
  | 4 => .int
  | 5 => .boolean
  | 6 => .int
  | 7 => .int
  | 8 => .int
  | 9 => .int
  | 10 => .array .int
  | _ => .int
abbrev wsX30 : List Cond := u_ws RX3 TX3 12
theorem nmX3 : ∀ a, a < 12 → ∀ b, b < 12 → a ≠ b → (TX3 a).2.1 ≠ (TX3 b).2.1 := by decide +kernel
theorem tyX3_ok : ∀ k, k < 12 → parseFieldDescriptor (TX3 k).2.2.1 = some (tyX3 k) := by decide +kernel
abbrev cX3_init : ByteArray := prog_5_method_1_code
def yX3_init : MethodName := ⟨RX3, "<init>", "()V"⟩
abbrev cX3_addBytes : ByteArray := prog_5_method_2_code
def yX3_addBytes : MethodName := ⟨RX3, "addBytes", "(I)V"⟩
abbrev cX3_fault : ByteArray := prog_5_method_3_code
def yX3_fault : MethodName := ⟨RX3, "fault", "()I"⟩
abbrev cX3_begin : ByteArray := prog_5_method_4_code
def yX3_begin : MethodName := ⟨RX3, "begin", "()V"⟩
abbrev cX3_next : ByteArray := prog_5_method_5_code
def yX3_next : MethodName := ⟨RX3, "next", "()V"⟩
abbrev cX3_isWord : ByteArray := prog_5_method_6_code
def yX3_isWord : MethodName := ⟨RX3, "isWord", "(I)Z"⟩
abbrev cX3_sortAt : ByteArray := prog_5_method_7_code
def yX3_sortAt : MethodName := ⟨RX3, "sortAt", "(I)I"⟩
abbrev cX3_byteAt : ByteArray := prog_5_method_8_code
def yX3_byteAt : MethodName := ⟨RX3, "byteAt", "(I)I"⟩
abbrev cX3_keyHere : ByteArray := prog_5_method_9_code
def yX3_keyHere : MethodName := ⟨RX3, "keyHere", "()I"⟩
abbrev cX3_isHere : ByteArray := prog_5_method_10_code
def yX3_isHere : MethodName := ⟨RX3, "isHere", "(Ljava/lang/String;)Z"⟩
abbrev cX3_part : ByteArray := prog_5_method_11_code
def yX3_part : MethodName := ⟨RX3, "part", "(I)Z"⟩
abbrev cX3_piece : ByteArray := prog_5_method_12_code
def yX3_piece : MethodName := ⟨RX3, "piece", "()Z"⟩
abbrev cX3_not : ByteArray := prog_5_method_13_code
def yX3_not : MethodName := ⟨RX3, "not", "()Z"⟩
abbrev cX3_bracket : ByteArray := prog_5_method_14_code
def yX3_bracket : MethodName := ⟨RX3, "bracket", "()Z"⟩
abbrev cX3_isSignOf : ByteArray := prog_5_method_15_code
def yX3_isSignOf : MethodName := ⟨RX3, "isSignOf", "(I)Z"⟩
abbrev cX3_signsOf : ByteArray := prog_5_method_16_code
def yX3_signsOf : MethodName := ⟨RX3, "signsOf", "(I)Ljava/lang/String;"⟩
abbrev cX3_leaf : ByteArray := prog_5_method_17_code
def yX3_leaf : MethodName := ⟨RX3, "leaf", "()Z"⟩
abbrev cX3_number : ByteArray := prog_5_method_18_code
def yX3_number : MethodName := ⟨RX3, "number", "()I"⟩
abbrev cX3_name : ByteArray := prog_5_method_19_code
def yX3_name : MethodName := ⟨RX3, "name", "()I"⟩
abbrev cX3_namesOf : ByteArray := prog_5_method_20_code
def yX3_namesOf : MethodName := ⟨RX3, "namesOf", "(I)Ljava/lang/String;"⟩
abbrev cX3_put : ByteArray := prog_5_method_21_code
def yX3_put : MethodName := ⟨RX3, "put", "(I)V"⟩
def RX4 : String := "SpoonPassage$Sheet"
def TX4 : u_T := fun k => match k with
  | 0 => ("SpoonPassage$Sheet", "places", "[I", true)
  | 1 => ("SpoonPassage$Sheet", "sort", "I", false)
  | _ => ("SpoonPassage$Sheet", "size", "I", false)
def tyX4 : Nat → FieldType := fun k => match k with
  | 0 => .array .int
  | 1 => .int
  | _ => .int
abbrev wsX40 : List Cond := u_ws RX4 TX4 3
theorem nmX4 : ∀ a, a < 3 → ∀ b, b < 3 → a ≠ b → (TX4 a).2.1 ≠ (TX4 b).2.1 := by decide +kernel
theorem tyX4_ok : ∀ k, k < 3 → parseFieldDescriptor (TX4 k).2.2.1 = some (tyX4 k) := by decide +kernel
abbrev cX4_init : ByteArray := prog_6_method_1_code
def yX4_init : MethodName := ⟨RX4, "<init>", "()V"⟩
abbrev cX4_become : ByteArray := prog_6_method_2_code
def yX4_become : MethodName := ⟨RX4, "become", "(II)V"⟩
abbrev cX4_becomeAs : ByteArray := prog_6_method_3_code
def yX4_becomeAs : MethodName := ⟨RX4, "becomeAs", "(LSpoonPassage$Sheet;)V"⟩
abbrev cX4_isMissing : ByteArray := prog_6_method_4_code
def yX4_isMissing : MethodName := ⟨RX4, "isMissing", "()Z"⟩
abbrev cX4_hasPlace : ByteArray := prog_6_method_5_code
def yX4_hasPlace : MethodName := ⟨RX4, "hasPlace", "(I)Z"⟩
abbrev cX4_hasPlaces : ByteArray := prog_6_method_6_code
def yX4_hasPlaces : MethodName := ⟨RX4, "hasPlaces", "(II)Z"⟩
abbrev cX4_isNumber : ByteArray := prog_6_method_7_code
def yX4_isNumber : MethodName := ⟨RX4, "isNumber", "(I)Z"⟩
def RX5 : String := "SpoonPassage$Slot"
def TX5 : u_T := fun k => match k with
  | 0 => ("SpoonPassage$Slot", "thing", "I", false)
  | 1 => ("SpoonPassage$Slot", "number", "I", false)
  | 2 => ("SpoonPassage$Slot", "digger", "LSpoonPassage$Digger;", true)
  | _ => ("SpoonPassage$Slot", "row", "LSpoonPassage$Sheet;", true)
def tyX5 : Nat → FieldType := fun k => match k with
  | 0 => .int
  | 1 => .int
  | 2 => .object "SpoonPassage$Digger"
  | _ => .object "SpoonPassage$Sheet"
abbrev wsX50 : List Cond := u_ws RX5 TX5 4
theorem nmX5 : ∀ a, a < 4 → ∀ b, b < 4 → a ≠ b → (TX5 a).2.1 ≠ (TX5 b).2.1 := by decide +kernel
theorem tyX5_ok : ∀ k, k < 4 → parseFieldDescriptor (TX5 k).2.2.1 = some (tyX5 k) := by decide +kernel
abbrev cX5_init : ByteArray := prog_7_method_1_code
def yX5_init : MethodName := ⟨RX5, "<init>", "()V"⟩
def RX6 : String := "SpoonPassage$Texts"
def TX6 : u_T := fun k => match k with
  | 0 => ("SpoonPassage$Texts", "keys", "[I", true)
  | 1 => ("SpoonPassage$Texts", "leafCounts", "[I", true)
  | 2 => ("SpoonPassage$Texts", "lengths", "[I", true)
  | 3 => ("SpoonPassage$Texts", "code", "[I", true)
  | 4 => ("SpoonPassage$Texts", "named", "[I", true)
  | _ => ("SpoonPassage$Texts", "stack", "[I", true)
def tyX6 : Nat → FieldType := fun k => match k with
  | 0 => .array .int
  | 1 => .array .int
  | 2 => .array .int
  | 3 => .array .int
  | 4 => .array .int
  | _ => .array .int
abbrev wsX60 : List Cond := u_ws RX6 TX6 6
theorem nmX6 : ∀ a, a < 6 → ∀ b, b < 6 → a ≠ b → (TX6 a).2.1 ≠ (TX6 b).2.1 := by decide +kernel
theorem tyX6_ok : ∀ k, k < 6 → parseFieldDescriptor (TX6 k).2.2.1 = some (tyX6 k) := by decide +kernel
abbrev cX6_init : ByteArray := prog_8_method_1_code
def yX6_init : MethodName := ⟨RX6, "<init>", "()V"⟩
abbrev cX6_write : ByteArray := prog_8_method_2_code
def yX6_write : MethodName := ⟨RX6, "write", "(ILSpoonPassage$Reader;)V"⟩
abbrev cX6_put : ByteArray := prog_8_method_3_code
def yX6_put : MethodName := ⟨RX6, "put", "(II)V"⟩
abbrev cX6_gives : ByteArray := prog_8_method_4_code
def yX6_gives : MethodName := ⟨RX6, "gives", "(I)I"⟩
abbrev cX6_joined : ByteArray := prog_8_method_5_code
def yX6_joined : MethodName := ⟨RX6, "joined", "(III)I"⟩
def RX7 : String := "SpoonPassage"
def TX7 : u_T := fun k => match k with
  | 0 => ("SpoonPassage", "texts", "LSpoonPassage$Texts;", true)
  | 1 => ("SpoonPassage", "reader", "LSpoonPassage$Reader;", true)
  | 2 => ("SpoonPassage", "now", "LSpoonPassage$Passage;", true)
  | 3 => ("SpoonPassage", "image", "LSpoonPassage$Passage;", true)
  | 4 => ("SpoonPassage", "thought", "LSpoonPassage$Passage;", true)
  | 5 => ("SpoonPassage", "sheets", "[LSpoonPassage$Sheet;", true)
  | 6 => ("SpoonPassage", "slots", "[LSpoonPassage$Slot;", true)
  | 7 => ("SpoonPassage", "waiting", "[I", true)
  | 8 => ("SpoonPassage", "waits", "I", false)
  | _ => ("SpoonPassage", "kept", "Z", false)
def tyX7 : Nat → FieldType := fun k => match k with
  | 0 => .object "SpoonPassage$Texts"
  | 1 => .object "SpoonPassage$Reader"
  | 2 => .object "SpoonPassage$Passage"
  | 3 => .object "SpoonPassage$Passage"
  | 4 => .object "SpoonPassage$Passage"
  | 5 => .array (.object "SpoonPassage$Sheet")
  | 6 => .array (.object "SpoonPassage$Slot")
  | 7 => .array .int
  | 8 => .int
  | _ => .boolean
abbrev wsX70 : List Cond := u_ws RX7 TX7 10
theorem nmX7 : ∀ a, a < 10 → ∀ b, b < 10 → a ≠ b → (TX7 a).2.1 ≠ (TX7 b).2.1 := by decide +kernel
theorem tyX7_ok : ∀ k, k < 10 → parseFieldDescriptor (TX7 k).2.2.1 = some (tyX7 k) := by decide +kernel
abbrev cX7_init : ByteArray := prog_1_method_1_code
def yX7_init : MethodName := ⟨RX7, "<init>", "()V"⟩
abbrev cX7_digger : ByteArray := prog_1_method_2_code
def yX7_digger : MethodName := ⟨RX7, "digger", "(IIII)I"⟩
abbrev cX7_told : ByteArray := prog_1_method_3_code
def yX7_told : MethodName := ⟨RX7, "told", "(II)I"⟩
abbrev cX7_as : ByteArray := prog_1_method_4_code
def yX7_as : MethodName := ⟨RX7, "as", "(II)I"⟩
abbrev cX7_turns : ByteArray := prog_1_method_5_code
def yX7_turns : MethodName := ⟨RX7, "turns", "(II)I"⟩
abbrev cX7_set : ByteArray := prog_1_method_6_code
def yX7_set : MethodName := ⟨RX7, "set", "(III)I"⟩
abbrev cX7_sends : ByteArray := prog_1_method_7_code
def yX7_sends : MethodName := ⟨RX7, "sends", "(II)I"⟩
abbrev cX7_branch : ByteArray := prog_1_method_8_code
def yX7_branch : MethodName := ⟨RX7, "branch", "(III)I"⟩
abbrev cX7_branchOf : ByteArray := prog_1_method_9_code
def yX7_branchOf : MethodName := ⟨RX7, "branchOf", "(II)I"⟩
abbrev cX7_rule : ByteArray := prog_1_method_10_code
def yX7_rule : MethodName := ⟨RX7, "rule", "(II)I"⟩
abbrev cX7_deal : ByteArray := prog_1_method_11_code
def yX7_deal : MethodName := ⟨RX7, "deal", "(I)I"⟩
abbrev cX7_seed : ByteArray := prog_1_method_12_code
def yX7_seed : MethodName := ⟨RX7, "seed", "(I)I"⟩
abbrev cX7_nights : ByteArray := prog_1_method_13_code
def yX7_nights : MethodName := ⟨RX7, "nights", "(I)I"⟩
abbrev cX7_below : ByteArray := prog_1_method_14_code
def yX7_below : MethodName := ⟨RX7, "below", "(I)I"⟩
abbrev cX7_behind : ByteArray := prog_1_method_15_code
def yX7_behind : MethodName := ⟨RX7, "behind", "(II)I"⟩
abbrev cX7_reaches : ByteArray := prog_1_method_16_code
def yX7_reaches : MethodName := ⟨RX7, "reaches", "(II)I"⟩
abbrev cX7_leaves : ByteArray := prog_1_method_17_code
def yX7_leaves : MethodName := ⟨RX7, "leaves", "(I)I"⟩
abbrev cX7_light : ByteArray := prog_1_method_18_code
def yX7_light : MethodName := ⟨RX7, "light", "(II)I"⟩
abbrev cX7_wax : ByteArray := prog_1_method_19_code
def yX7_wax : MethodName := ⟨RX7, "wax", "(III)I"⟩
abbrev cX7_sent : ByteArray := prog_1_method_20_code
def yX7_sent : MethodName := ⟨RX7, "sent", "(III)I"⟩
abbrev cX7_becomes : ByteArray := prog_1_method_21_code
def yX7_becomes : MethodName := ⟨RX7, "becomes", "(III)I"⟩
abbrev cX7_like : ByteArray := prog_1_method_22_code
def yX7_like : MethodName := ⟨RX7, "like", "(II)I"⟩
abbrev cX7_fee : ByteArray := prog_1_method_23_code
def yX7_fee : MethodName := ⟨RX7, "fee", "()I"⟩
abbrev cX7_fine : ByteArray := prog_1_method_24_code
def yX7_fine : MethodName := ⟨RX7, "fine", "(I)I"⟩
abbrev cX7_feed : ByteArray := prog_1_method_25_code
def yX7_feed : MethodName := ⟨RX7, "feed", "(III)I"⟩
abbrev cX7_trim : ByteArray := prog_1_method_26_code
def yX7_trim : MethodName := ⟨RX7, "trim", "(I)I"⟩
abbrev cX7_text : ByteArray := prog_1_method_27_code
def yX7_text : MethodName := ⟨RX7, "text", "()I"⟩
abbrev cX7_textTold : ByteArray := prog_1_method_28_code
def yX7_textTold : MethodName := ⟨RX7, "textTold", "(II)I"⟩
abbrev cX7_why : ByteArray := prog_1_method_29_code
def yX7_why : MethodName := ⟨RX7, "why", "(I)I"⟩
abbrev cX7_sheet : ByteArray := prog_1_method_30_code
def yX7_sheet : MethodName := ⟨RX7, "sheet", "(III)I"⟩
abbrev cX7_mark : ByteArray := prog_1_method_31_code
def yX7_mark : MethodName := ⟨RX7, "mark", "(III)I"⟩
abbrev cX7_pour : ByteArray := prog_1_method_32_code
def yX7_pour : MethodName := ⟨RX7, "pour", "(I)I"⟩
abbrev cX7_reads : ByteArray := prog_1_method_33_code
def yX7_reads : MethodName := ⟨RX7, "reads", "(I)I"⟩
abbrev cX7_copy : ByteArray := prog_1_method_34_code
def yX7_copy : MethodName := ⟨RX7, "copy", "(IIIII)I"⟩
abbrev cX7_lay : ByteArray := prog_1_method_35_code
def yX7_lay : MethodName := ⟨RX7, "lay", "(III)I"⟩
abbrev cX7_ask : ByteArray := prog_1_method_36_code
def yX7_ask : MethodName := ⟨RX7, "ask", "(II)I"⟩
abbrev cX7_item : ByteArray := prog_1_method_37_code
def yX7_item : MethodName := ⟨RX7, "item", "(II)I"⟩
abbrev cX7_rest : ByteArray := prog_1_method_38_code
def yX7_rest : MethodName := ⟨RX7, "rest", "(II)I"⟩
abbrev cX7_tell : ByteArray := prog_1_method_39_code
def yX7_tell : MethodName := ⟨RX7, "tell", "(I)I"⟩
abbrev cX7_check : ByteArray := prog_1_method_40_code
def yX7_check : MethodName := ⟨RX7, "check", "(I)I"⟩
abbrev cX7_keep : ByteArray := prog_1_method_41_code
def yX7_keep : MethodName := ⟨RX7, "keep", "()I"⟩
abbrev cX7_back : ByteArray := prog_1_method_42_code
def yX7_back : MethodName := ⟨RX7, "back", "()I"⟩
abbrev cX7_count : ByteArray := prog_1_method_43_code
def yX7_count : MethodName := ⟨RX7, "count", "(I)I"⟩
abbrev cX7_within : ByteArray := prog_1_method_44_code
def yX7_within : MethodName := ⟨RX7, "within", "(III)Z"⟩
abbrev cX7_held : ByteArray := prog_1_method_45_code
def yX7_held : MethodName := ⟨RX7, "held", "(I)I"⟩
abbrev cX7_isKind : ByteArray := prog_1_method_46_code
def yX7_isKind : MethodName := ⟨RX7, "isKind", "(I)Z"⟩
abbrev cX7_isBranch : ByteArray := prog_1_method_47_code
def yX7_isBranch : MethodName := ⟨RX7, "isBranch", "(I)Z"⟩
abbrev cX7_isSheet : ByteArray := prog_1_method_48_code
def yX7_isSheet : MethodName := ⟨RX7, "isSheet", "(I)Z"⟩
abbrev cX7_isSlot : ByteArray := prog_1_method_49_code
def yX7_isSlot : MethodName := ⟨RX7, "isSlot", "(I)Z"⟩
abbrev cX7_isDigger : ByteArray := prog_1_method_50_code
def yX7_isDigger : MethodName := ⟨RX7, "isDigger", "(I)Z"⟩
abbrev cX7_differences : ByteArray := prog_1_method_51_code
def yX7_differences : MethodName := ⟨RX7, "differences", "(LSpoonPassage$Sheet;I)I"⟩
abbrev cX7_isTold : ByteArray := prog_1_method_52_code
def yX7_isTold : MethodName := ⟨RX7, "isTold", "(III)Z"⟩
def RX8 : String := "SpoonPassageModel"
def TX8 : u_T := fun k => match k with
  | 0 => ("SpoonPassageModel", "now", "[I", true)
  | 1 => ("SpoonPassageModel", "image", "[I", true)
  | 2 => ("SpoonPassageModel", "aside", "[I", true)
  | 3 => ("SpoonPassageModel", "hasImage", "Z", false)
  | 4 => ("SpoonPassageModel", "unlike", "[I", true)
  | 5 => ("SpoonPassageModel", "tape", "[I", true)
  | 6 => ("SpoonPassageModel", "taped", "I", false)
  | 7 => ("SpoonPassageModel", "next", "I", false)
  | 8 => ("SpoonPassageModel", "from", "I", false)
  | 9 => ("SpoonPassageModel", "token", "I", false)
  | 10 => ("SpoonPassageModel", "value", "I", false)
  | 11 => ("SpoonPassageModel", "ended", "I", false)
  | 12 => ("SpoonPassageModel", "key", "I", false)
  | 13 => ("SpoonPassageModel", "keys", "[C", true)
  | 14 => ("SpoonPassageModel", "keyAt", "[I", true)
  | 15 => ("SpoonPassageModel", "code", "[I", true)
  | 16 => ("SpoonPassageModel", "codes", "I", false)
  | 17 => ("SpoonPassageModel", "atoms", "I", false)
  | 18 => ("SpoonPassageModel", "waits", "[I", true)
  | 19 => ("SpoonPassageModel", "held", "I", false)
  | 20 => ("SpoonPassageModel", "tested", "[Z", true)
  | 21 => ("SpoonPassageModel", "stack", "[I", true)
  | 22 => ("SpoonPassageModel", "facts", "[I", true)
  | 23 => ("SpoonPassageModel", "sorts", "[I", true)
  | 24 => ("SpoonPassageModel", "sizes", "[I", true)
  | 25 => ("SpoonPassageModel", "cells", "[I", true)
  | 26 => ("SpoonPassageModel", "holds", "[I", true)
  | 27 => ("SpoonPassageModel", "holdsA", "[I", true)
  | 28 => ("SpoonPassageModel", "holdsB", "[I", true)
  | 29 => ("SpoonPassageModel", "heldCells", "[I", true)
  | 30 => ("SpoonPassageModel", "moved", "[I", true)
  | 31 => ("SpoonPassageModel", "tells", "[I", true)
  | _ => ("SpoonPassageModel", "waiting", "I", false)
def tyX8 : Nat → FieldType := fun k => match k with
  | 0 => .array .int
  | 1 => .array .int
  | 2 => .array .int
  | 3 => .boolean
  | 4 => .array .int
  | 5 => .array .int
  | 6 => .int
  | 7 => .int
  | 8 => .int
  | 9 => .int
  | 10 => .int
  | 11 => .int
  | 12 => .int
  | 13 => .array .char
  | 14 => .array .int
  | 15 => .array .int
  | 16 => .int
  | 17 => .int
  | 18 => .array .int
  | 19 => .int
  | 20 => .array .boolean
  | 21 => .array .int
  | 22 => .array .int
  | 23 => .array .int
  | 24 => .array .int
  | 25 => .array .int
  | 26 => .array .int
  | 27 => .array .int
  | 28 => .array .int
  | 29 => .array .int
  | 30 => .array .int
  | 31 => .array .int
  | _ => .int
abbrev wsX80 : List Cond := u_ws RX8 TX8 33
theorem nmX8 : ∀ a, a < 33 → ∀ b, b < 33 → a ≠ b → (TX8 a).2.1 ≠ (TX8 b).2.1 := by decide +kernel
theorem tyX8_ok : ∀ k, k < 33 → parseFieldDescriptor (TX8 k).2.2.1 = some (tyX8 k) := by decide +kernel
abbrev cX8_init : ByteArray := prog_10_method_1_code
def yX8_init : MethodName := ⟨RX8, "<init>", "()V"⟩
abbrev cX8_in : ByteArray := prog_10_method_2_code
def yX8_in : MethodName := ⟨RX8, "in", "(III)Z"⟩
abbrev cX8_within : ByteArray := prog_10_method_3_code
def yX8_within : MethodName := ⟨RX8, "within", "(III)I"⟩
abbrev cX8_copyAll : ByteArray := prog_10_method_4_code
def yX8_copyAll : MethodName := ⟨RX8, "copyAll", "([I[I)V"⟩
abbrev cX8_bits : ByteArray := prog_10_method_5_code
def yX8_bits : MethodName := ⟨RX8, "bits", "(I)I"⟩
abbrev cX8_isDigger : ByteArray := prog_10_method_6_code
def yX8_isDigger : MethodName := ⟨RX8, "isDigger", "(I)Z"⟩
abbrev cX8_isBranch : ByteArray := prog_10_method_7_code
def yX8_isBranch : MethodName := ⟨RX8, "isBranch", "(I)Z"⟩
abbrev cX8_of : ByteArray := prog_10_method_8_code
def yX8_of : MethodName := ⟨RX8, "of", "(II)I"⟩
abbrev cX8_put : ByteArray := prog_10_method_9_code
def yX8_put : MethodName := ⟨RX8, "put", "(III)V"⟩
abbrev cX8_at : ByteArray := prog_10_method_10_code
def yX8_at : MethodName := ⟨RX8, "at", "(II)I"⟩
abbrev cX8_swaps : ByteArray := prog_10_method_11_code
def yX8_swaps : MethodName := ⟨RX8, "swaps", "(II)I"⟩
abbrev cX8_off : ByteArray := prog_10_method_12_code
def yX8_off : MethodName := ⟨RX8, "off", "(I)I"⟩
abbrev cX8_ahead : ByteArray := prog_10_method_13_code
def yX8_ahead : MethodName := ⟨RX8, "ahead", "(I)I"⟩
abbrev cX8_diggersIn : ByteArray := prog_10_method_14_code
def yX8_diggersIn : MethodName := ⟨RX8, "diggersIn", "(I)I"⟩
abbrev cX8_litIn : ByteArray := prog_10_method_15_code
def yX8_litIn : MethodName := ⟨RX8, "litIn", "(I)I"⟩
abbrev cX8_plainDig : ByteArray := prog_10_method_16_code
def yX8_plainDig : MethodName := ⟨RX8, "plainDig", "(I)I"⟩
abbrev cX8_fellows : ByteArray := prog_10_method_17_code
def yX8_fellows : MethodName := ⟨RX8, "fellows", "(I)I"⟩
abbrev cX8_isFarOff : ByteArray := prog_10_method_18_code
def yX8_isFarOff : MethodName := ⟨RX8, "isFarOff", "(I)Z"⟩
abbrev cX8_digsOf : ByteArray := prog_10_method_19_code
def yX8_digsOf : MethodName := ⟨RX8, "digsOf", "(I)I"⟩
abbrev cX8_burnsOf : ByteArray := prog_10_method_20_code
def yX8_burnsOf : MethodName := ⟨RX8, "burnsOf", "(I)I"⟩
abbrev cX8_worthOf : ByteArray := prog_10_method_21_code
def yX8_worthOf : MethodName := ⟨RX8, "worthOf", "(I)I"⟩
abbrev cX8_comes : ByteArray := prog_10_method_22_code
def yX8_comes : MethodName := ⟨RX8, "comes", "(IIII)I"⟩
abbrev cX8_digger : ByteArray := prog_10_method_23_code
def yX8_digger : MethodName := ⟨RX8, "digger", "(IIII)I"⟩
abbrev cX8_told : ByteArray := prog_10_method_24_code
def yX8_told : MethodName := ⟨RX8, "told", "(II)I"⟩
abbrev cX8_isUnder : ByteArray := prog_10_method_25_code
def yX8_isUnder : MethodName := ⟨RX8, "isUnder", "(II)Z"⟩
abbrev cX8_as : ByteArray := prog_10_method_26_code
def yX8_as : MethodName := ⟨RX8, "as", "(II)I"⟩
abbrev cX8_turns : ByteArray := prog_10_method_27_code
def yX8_turns : MethodName := ⟨RX8, "turns", "(II)I"⟩
abbrev cX8_set : ByteArray := prog_10_method_28_code
def yX8_set : MethodName := ⟨RX8, "set", "(III)I"⟩
abbrev cX8_sends : ByteArray := prog_10_method_29_code
def yX8_sends : MethodName := ⟨RX8, "sends", "(II)I"⟩
abbrev cX8_mayBe : ByteArray := prog_10_method_30_code
def yX8_mayBe : MethodName := ⟨RX8, "mayBe", "(III)Z"⟩
abbrev cX8_branch : ByteArray := prog_10_method_31_code
def yX8_branch : MethodName := ⟨RX8, "branch", "(III)I"⟩
abbrev cX8_allDigs : ByteArray := prog_10_method_32_code
def yX8_allDigs : MethodName := ⟨RX8, "allDigs", "(I)I"⟩
abbrev cX8_branchOf : ByteArray := prog_10_method_33_code
def yX8_branchOf : MethodName := ⟨RX8, "branchOf", "(II)I"⟩
abbrev cX8_rule : ByteArray := prog_10_method_34_code
def yX8_rule : MethodName := ⟨RX8, "rule", "(II)I"⟩
abbrev cX8_draw : ByteArray := prog_10_method_35_code
def yX8_draw : MethodName := ⟨RX8, "draw", "()I"⟩
abbrev cX8_deal : ByteArray := prog_10_method_36_code
def yX8_deal : MethodName := ⟨RX8, "deal", "(I)I"⟩
abbrev cX8_seed : ByteArray := prog_10_method_37_code
def yX8_seed : MethodName := ⟨RX8, "seed", "(I)I"⟩
abbrev cX8_digs : ByteArray := prog_10_method_38_code
def yX8_digs : MethodName := ⟨RX8, "digs", "(I)V"⟩
abbrev cX8_warder : ByteArray := prog_10_method_39_code
def yX8_warder : MethodName := ⟨RX8, "warder", "(I)V"⟩
abbrev cX8_night : ByteArray := prog_10_method_40_code
def yX8_night : MethodName := ⟨RX8, "night", "()V"⟩
abbrev cX8_goesOn : ByteArray := prog_10_method_41_code
def yX8_goesOn : MethodName := ⟨RX8, "goesOn", "(I)V"⟩
abbrev cX8_sums : ByteArray := prog_10_method_42_code
def yX8_sums : MethodName := ⟨RX8, "sums", "(I)I"⟩
abbrev cX8_nights : ByteArray := prog_10_method_43_code
def yX8_nights : MethodName := ⟨RX8, "nights", "(I)I"⟩
abbrev cX8_peopled : ByteArray := prog_10_method_44_code
def yX8_peopled : MethodName := ⟨RX8, "peopled", "()I"⟩
abbrev cX8_front : ByteArray := prog_10_method_45_code
def yX8_front : MethodName := ⟨RX8, "front", "()I"⟩
abbrev cX8_allDug : ByteArray := prog_10_method_46_code
def yX8_allDug : MethodName := ⟨RX8, "allDug", "()I"⟩
abbrev cX8_below : ByteArray := prog_10_method_47_code
def yX8_below : MethodName := ⟨RX8, "below", "(I)I"⟩
abbrev cX8_thinks : ByteArray := prog_10_method_48_code
def yX8_thinks : MethodName := ⟨RX8, "thinks", "()V"⟩
abbrev cX8_putsBack : ByteArray := prog_10_method_49_code
def yX8_putsBack : MethodName := ⟨RX8, "putsBack", "()V"⟩
abbrev cX8_behind : ByteArray := prog_10_method_50_code
def yX8_behind : MethodName := ⟨RX8, "behind", "(II)I"⟩
abbrev cX8_reaches : ByteArray := prog_10_method_51_code
def yX8_reaches : MethodName := ⟨RX8, "reaches", "(II)I"⟩
abbrev cX8_leaves : ByteArray := prog_10_method_52_code
def yX8_leaves : MethodName := ⟨RX8, "leaves", "(I)I"⟩
abbrev cX8_isHigh : ByteArray := prog_10_method_53_code
def yX8_isHigh : MethodName := ⟨RX8, "isHigh", "(III)Z"⟩
abbrev cX8_light : ByteArray := prog_10_method_54_code
def yX8_light : MethodName := ⟨RX8, "light", "(II)I"⟩
abbrev cX8_earthOn : ByteArray := prog_10_method_55_code
def yX8_earthOn : MethodName := ⟨RX8, "earthOn", "(II)I"⟩
abbrev cX8_wax : ByteArray := prog_10_method_56_code
def yX8_wax : MethodName := ⟨RX8, "wax", "(III)I"⟩
abbrev cX8_bestOf : ByteArray := prog_10_method_57_code
def yX8_bestOf : MethodName := ⟨RX8, "bestOf", "(IIIII)I"⟩
abbrev cX8_sent : ByteArray := prog_10_method_58_code
def yX8_sent : MethodName := ⟨RX8, "sent", "(III)I"⟩
abbrev cX8_becomes : ByteArray := prog_10_method_59_code
def yX8_becomes : MethodName := ⟨RX8, "becomes", "(III)I"⟩
abbrev cX8_like : ByteArray := prog_10_method_60_code
def yX8_like : MethodName := ⟨RX8, "like", "(II)I"⟩
abbrev cX8_fee : ByteArray := prog_10_method_61_code
def yX8_fee : MethodName := ⟨RX8, "fee", "()I"⟩
abbrev cX8_fine : ByteArray := prog_10_method_62_code
def yX8_fine : MethodName := ⟨RX8, "fine", "(I)I"⟩
abbrev cX8_feed : ByteArray := prog_10_method_63_code
def yX8_feed : MethodName := ⟨RX8, "feed", "(III)I"⟩
abbrev cX8_trim : ByteArray := prog_10_method_64_code
def yX8_trim : MethodName := ⟨RX8, "trim", "(I)I"⟩
abbrev cX8_isLetter : ByteArray := prog_10_method_65_code
def yX8_isLetter : MethodName := ⟨RX8, "isLetter", "(I)Z"⟩
abbrev cX8_isFigure : ByteArray := prog_10_method_66_code
def yX8_isFigure : MethodName := ⟨RX8, "isFigure", "(I)Z"⟩
abbrev cX8_go : ByteArray := prog_10_method_67_code
def yX8_go : MethodName := ⟨RX8, "go", "()V"⟩
abbrev cX8_takesKey : ByteArray := prog_10_method_68_code
def yX8_takesKey : MethodName := ⟨RX8, "takesKey", "()Z"⟩
abbrev cX8_nameOf : ByteArray := prog_10_method_69_code
def yX8_nameOf : MethodName := ⟨RX8, "nameOf", "(I)I"⟩
abbrev cX8_rank : ByteArray := prog_10_method_70_code
def yX8_rank : MethodName := ⟨RX8, "rank", "(I)I"⟩
abbrev cX8_settle : ByteArray := prog_10_method_71_code
def yX8_settle : MethodName := ⟨RX8, "settle", "(I)V"⟩
abbrev cX8_signHere : ByteArray := prog_10_method_72_code
def yX8_signHere : MethodName := ⟨RX8, "signHere", "()I"⟩
abbrev cX8_takesPart : ByteArray := prog_10_method_73_code
def yX8_takesPart : MethodName := ⟨RX8, "takesPart", "()Z"⟩
abbrev cX8_takesE : ByteArray := prog_10_method_74_code
def yX8_takesE : MethodName := ⟨RX8, "takesE", "()Z"⟩
abbrev cX8_notsOpen : ByteArray := prog_10_method_75_code
def yX8_notsOpen : MethodName := ⟨RX8, "notsOpen", "()I"⟩
abbrev cX8_text : ByteArray := prog_10_method_76_code
def yX8_text : MethodName := ⟨RX8, "text", "()I"⟩
abbrev cX8_textTold : ByteArray := prog_10_method_77_code
def yX8_textTold : MethodName := ⟨RX8, "textTold", "(II)I"⟩
abbrev cX8_counts : ByteArray := prog_10_method_78_code
def yX8_counts : MethodName := ⟨RX8, "counts", "(I)I"⟩
abbrev cX8_why : ByteArray := prog_10_method_79_code
def yX8_why : MethodName := ⟨RX8, "why", "(I)I"⟩
abbrev cX8_two : ByteArray := prog_10_method_80_code
def yX8_two : MethodName := ⟨RX8, "two", "(III)I"⟩
abbrev cX8_worksOut : ByteArray := prog_10_method_81_code
def yX8_worksOut : MethodName := ⟨RX8, "worksOut", "(I)I"⟩
abbrev cX8_isSheet : ByteArray := prog_10_method_82_code
def yX8_isSheet : MethodName := ⟨RX8, "isSheet", "(I)Z"⟩
abbrev cX8_isSlot : ByteArray := prog_10_method_83_code
def yX8_isSlot : MethodName := ⟨RX8, "isSlot", "(I)Z"⟩
abbrev cX8_sheet : ByteArray := prog_10_method_84_code
def yX8_sheet : MethodName := ⟨RX8, "sheet", "(III)I"⟩
abbrev cX8_mark : ByteArray := prog_10_method_85_code
def yX8_mark : MethodName := ⟨RX8, "mark", "(III)I"⟩
abbrev cX8_pour : ByteArray := prog_10_method_86_code
def yX8_pour : MethodName := ⟨RX8, "pour", "(I)I"⟩
abbrev cX8_reads : ByteArray := prog_10_method_87_code
def yX8_reads : MethodName := ⟨RX8, "reads", "(I)I"⟩
abbrev cX8_copy : ByteArray := prog_10_method_88_code
def yX8_copy : MethodName := ⟨RX8, "copy", "(IIIII)I"⟩
abbrev cX8_lay : ByteArray := prog_10_method_89_code
def yX8_lay : MethodName := ⟨RX8, "lay", "(III)I"⟩
abbrev cX8_ask : ByteArray := prog_10_method_90_code
def yX8_ask : MethodName := ⟨RX8, "ask", "(II)I"⟩
abbrev cX8_item : ByteArray := prog_10_method_91_code
def yX8_item : MethodName := ⟨RX8, "item", "(II)I"⟩
abbrev cX8_rest : ByteArray := prog_10_method_92_code
def yX8_rest : MethodName := ⟨RX8, "rest", "(II)I"⟩
abbrev cX8_tell : ByteArray := prog_10_method_93_code
def yX8_tell : MethodName := ⟨RX8, "tell", "(I)I"⟩
abbrev cX8_check : ByteArray := prog_10_method_94_code
def yX8_check : MethodName := ⟨RX8, "check", "(I)I"⟩
abbrev cX8_keep : ByteArray := prog_10_method_95_code
def yX8_keep : MethodName := ⟨RX8, "keep", "()I"⟩
abbrev cX8_back : ByteArray := prog_10_method_96_code
def yX8_back : MethodName := ⟨RX8, "back", "()I"⟩
abbrev cX8_count : ByteArray := prog_10_method_97_code
def yX8_count : MethodName := ⟨RX8, "count", "(I)I"⟩
def RJ11 : String := "java/lang/Character"
abbrev cJ11_isValidCodePoint_9a6ad : ByteArray := prog_11_method_11_code
def yJ11_isValidCodePoint_9a6ad : MethodName := ⟨RJ11, "isValidCodePoint", "(I)Z"⟩
abbrev cJ11_highSurrogate_5068e : ByteArray := prog_11_method_28_code
def yJ11_highSurrogate_5068e : MethodName := ⟨RJ11, "highSurrogate", "(I)C"⟩
abbrev cJ11_lowSurrogate_5068e : ByteArray := prog_11_method_29_code
def yJ11_lowSurrogate_5068e : MethodName := ⟨RJ11, "lowSurrogate", "(I)C"⟩
def RJ6 : String := "java/lang/Integer"
abbrev cJ6_bitCount_0f7a4 : ByteArray := prog_12_method_49_code
def yJ6_bitCount_0f7a4 : MethodName := ⟨RJ6, "bitCount", "(I)I"⟩
def RJ9 : String := "java/lang/Math"
abbrev cJ9_abs_0f7a4 : ByteArray := prog_13_method_59_code
def yJ9_abs_0f7a4 : MethodName := ⟨RJ9, "abs", "(I)I"⟩
abbrev cJ9_max_7cf53 : ByteArray := prog_13_method_65_code
def yJ9_max_7cf53 : MethodName := ⟨RJ9, "max", "(II)I"⟩
abbrev cJ9_min_7cf53 : ByteArray := prog_13_method_69_code
def yJ9_min_7cf53 : MethodName := ⟨RJ9, "min", "(II)I"⟩
def RJ0 : String := "java/lang/String"
abbrev cJ0_length_8abf5 : ByteArray := prog_14_method_54_code
def yJ0_length_8abf5 : MethodName := ⟨RJ0, "length", "()I"⟩
abbrev cJ0_charAt_5068e : ByteArray := prog_14_method_56_code
def yJ0_charAt_5068e : MethodName := ⟨RJ0, "charAt", "(I)C"⟩
abbrev cJ0_indexOf_0f7a4 : ByteArray := prog_14_method_79_code
def yJ0_indexOf_0f7a4 : MethodName := ⟨RJ0, "indexOf", "(I)I"⟩
abbrev cJ0_indexOf_7cf53 : ByteArray := prog_14_method_80_code
def yJ0_indexOf_7cf53 : MethodName := ⟨RJ0, "indexOf", "(II)I"⟩
abbrev cJ0_coder_7d493 : ByteArray := prog_14_method_152_code
def yJ0_coder_7d493 : MethodName := ⟨RJ0, "coder", "()B"⟩
abbrev cJ0_isLatin1_aae02 : ByteArray := prog_14_method_154_code
def yJ0_isLatin1_aae02 : MethodName := ⟨RJ0, "isLatin1", "()Z"⟩
abbrev cJ0_checkIndex_df160 : ByteArray := prog_14_method_155_code
def yJ0_checkIndex_df160 : MethodName := ⟨RJ0, "checkIndex", "(II)V"⟩
abbrev cJ0_checkBoundsBeginEnd_23922 : ByteArray := prog_14_method_158_code
def yJ0_checkBoundsBeginEnd_23922 : MethodName := ⟨RJ0, "checkBoundsBeginEnd", "(III)V"⟩
def RJ1 : String := "java/lang/StringLatin1"
abbrev cJ1_charAt_3b067 : ByteArray := prog_15_method_2_code
def yJ1_charAt_3b067 : MethodName := ⟨RJ1, "charAt", "([BI)C"⟩
abbrev cJ1_canEncode_9a6ad : ByteArray := prog_15_method_4_code
def yJ1_canEncode_9a6ad : MethodName := ⟨RJ1, "canEncode", "(I)Z"⟩
abbrev cJ1_indexOf_4cfef : ByteArray := prog_15_method_22_code
def yJ1_indexOf_4cfef : MethodName := ⟨RJ1, "indexOf", "([BIII)I"⟩
abbrev cJ1_indexOfChar_4cfef : ByteArray := prog_15_method_23_code
def yJ1_indexOfChar_4cfef : MethodName := ⟨RJ1, "indexOfChar", "([BIII)I"⟩
def RJ2 : String := "java/lang/StringUTF16"
abbrev cJ2_getChar_3b067 : ByteArray := prog_16_method_5_code
def yJ2_getChar_3b067 : MethodName := ⟨RJ2, "getChar", "([BI)C"⟩
abbrev cJ2_length_9d52b : ByteArray := prog_16_method_6_code
def yJ2_length_9d52b : MethodName := ⟨RJ2, "length", "([B)I"⟩
abbrev cJ2_indexOf_4cfef : ByteArray := prog_16_method_40_code
def yJ2_indexOf_4cfef : MethodName := ⟨RJ2, "indexOf", "([BIII)I"⟩
abbrev cJ2_indexOfChar_4cfef : ByteArray := prog_16_method_47_code
def yJ2_indexOfChar_4cfef : MethodName := ⟨RJ2, "indexOfChar", "([BIII)I"⟩
abbrev cJ2_indexOfCharUnsafe_4cfef : ByteArray := prog_16_method_48_code
def yJ2_indexOfCharUnsafe_4cfef : MethodName := ⟨RJ2, "indexOfCharUnsafe", "([BIII)I"⟩
abbrev cJ2_indexOfSupplementary_4cfef : ByteArray := prog_16_method_49_code
def yJ2_indexOfSupplementary_4cfef : MethodName := ⟨RJ2, "indexOfSupplementary", "([BIII)I"⟩
abbrev cJ2_charAt_3b067 : ByteArray := prog_16_method_83_code
def yJ2_charAt_3b067 : MethodName := ⟨RJ2, "charAt", "([BI)C"⟩
abbrev cJ2_checkIndex_2214a : ByteArray := prog_16_method_91_code
def yJ2_checkIndex_2214a : MethodName := ⟨RJ2, "checkIndex", "(I[B)V"⟩
abbrev cJ2_checkBoundsBeginEnd_d044e : ByteArray := prog_16_method_93_code
def yJ2_checkBoundsBeginEnd_d044e : MethodName := ⟨RJ2, "checkBoundsBeginEnd", "(II[B)V"⟩
def RJ10 : String := "java/lang/System"
def RJ3 : String := "jdk/internal/util/Preconditions"
abbrev cJ3_checkIndex_8e157 : ByteArray := prog_18_method_11_code
def yJ3_checkIndex_8e157 : MethodName := ⟨RJ3, "checkIndex", "(IILjava/util/function/BiFunction;)I"⟩
abbrev cJ3_checkFromToIndex_8c36e : ByteArray := prog_18_method_12_code
def yJ3_checkFromToIndex_8c36e : MethodName := ⟨RJ3, "checkFromToIndex", "(IIILjava/util/function/BiFunction;)I"⟩
def RL : String := "SpoonPassageLaw"
abbrev cL_law : ByteArray := code
def yL_law : MethodName := ⟨RL, "law", "([I)Z"⟩
abbrev vwCl : List vw_C := [(RX0, TX0, 3), (RX1, TX1, 5), (RX2, TX2, 12), (RX3, TX3, 12), (RX4, TX4, 3), (RX5, TX5, 4), (RX6, TX6, 6), (RX7, TX7, 10), (RX8, TX8, 33)]
end
section
/-! THE LAYER: a method's run over an abstract memory. Cells are numbered from the law's first new cell on (id n lies at base + n); constants have ids from 1000 on -/
def tbG : List Cond := lw_tbl.filter goodWord
theorem tbG_of {w : Cond} (i : Nat) (h : lw_tbl[i]? = some w) (hg : goodWord w = true) : w ∈ tbG := List.mem_filter.mpr ⟨List.mem_of_getElem? h, hg⟩
theorem tbG_good : GoodIn tbG tbG := fun w h => ⟨h, good_of_word (List.mem_filter.mp h).2⟩
/-- the world: the launch, the classes' numbers and slots, the arrays' classes, the first new cell, where constants lie, the script -/
abbrev Wt : Type := Launch × va_G × (Nat → ClassId) × Nat × (Nat → Nat) × Nat × (Nat → Int32)
abbrev w_l (w : Wt) : Launch := w.1
abbrev w_D (w : Wt) : va_G := w.2.1
abbrev w_c (w : Wt) : Nat → ClassId := w.2.2.1
abbrev w_b (w : Wt) : Nat := w.2.2.2.1
abbrev w_a (w : Wt) : Nat → Nat := w.2.2.2.2.1
abbrev w_L (w : Wt) : Nat := w.2.2.2.2.2.1
abbrev w_x (w : Wt) : Nat → Int32 := w.2.2.2.2.2.2
def ad (w : Wt) (a : Nat) : Nat := if a < 1000 then w_b w + a else w_a w a
def cv (w : Wt) (v : Value) : Value := match v with
  | .ref a => .ref (ad w a)
  | v => v
theorem cv_cat (w : Wt) (v : Value) : (cv w v).category = v.category := by cases v <;> rfl
def Aw (w : Wt) : Nat → Prop := fun q => w_b w ≤ q
/-- the memory: how many cells, of which kind and length each, what each holds -/
abbrev Mu : Type := Nat × (Nat → Nat × Nat) × (Nat → Nat → Value)
def cok (w : Wt) (t n : Nat) (f : Nat → Value) (a : Nat) (H : Heap) : Prop :=
  (t < 10 → (∃ r : vw_C, vwCl[t]? = some r ∧ r.2.2 = n) ∧ t_OB a ((w_D w).1 t) n ((w_D w).2 t) H (fun k => cv w (f k))) ∧ (10 ≤ t → H[a]? = some (arrV (w_c w t) n (fun j => cv w (f j))))
def Hd (w : Wt) (u : Mu) (H : Heap) : Prop := H.size = w_b w + u.1 ∧ u.1 ≤ 1000 ∧ ∀ id, id < u.1 → cok w (u.2.1 id).1 (u.2.1 id).2 (u.2.2 id) (w_b w + id) H
def aty (t : Nat) : FieldType := match t with
  | 10 => .int
  | 11 => .char
  | 12 => .boolean
  | 14 => .object RX0
  | 15 => .object RX1
  | 16 => .object RX4
  | _ => .object RX5
def atys (w : Wt) : List (ClassId × FieldType) := [(w_c w 10, .int), (w_c w 11, .char), (w_c w 12, .boolean), (w_c w 14, .object RX0), (w_c w 15, .object RX1), (w_c w 16, .object RX4), (w_c w 17, .object RX5)]
/-- the constants: ABOVE's row, the texts of the reader, the script -/
def cAb (j : Nat) : Int32 := if j = 0 then -1 else if j = 3 then 1 else if j = 4 then 2 else 0
def cLen : List Nat := [3, 3, 4, 1, 1, 3, 2, 2, 4, 2, 2]
def cByt : List (List Int32) := [[100, 105, 103], [102, 101, 101], [102, 105, 110, 101], [124], [38], [60, 61, 62], [43, 45], [42, 47], [102, 114, 97, 110], [109, 104], [102, 99]]
def Cn (w : Wt) (s : State) : Prop :=
  va_Z "SpoonPassage" "ABOVE" "[I" (.ref (ad w 1000)) (Aw w) s s.heap ∧ va_T .int (ad w 1000) 6 (fun j => .int (cAb j)) (Aw w) s s.heap ∧
  va_Z "java/lang/String" "COMPACT_STRINGS" "Z" (.int 1) (Aw w) s s.heap ∧
  vk_S 11 cLen cByt (fun i => ad w (1010 + i)) (fun i => ad w (1030 + i)) (Aw w) s s.heap ∧
  (va_Z "jdk/internal/util/Preconditions" "SIOOBE_FORMATTER" "Ljava/util/function/BiFunction;" .null (Aw w) s s.heap ∨ va_Z "jdk/internal/util/Preconditions" "SIOOBE_FORMATTER" "Ljava/util/function/BiFunction;" (.ref (ad w 1002)) (Aw w) s s.heap) ∧
  va_T .int (ad w 1001) (w_L w) (fun j => .int (w_x w j)) (Aw w) s s.heap ∧
  (va_AO RX0 s ∧ va_AO RX1 s ∧ va_AO RX4 s ∧ va_AO RX5 s)
def cStr : List (Nat × Nat × String) := [(0, 74, "dig"), (1, 80, "fee"), (2, 82, "fine"), (3, 119, "|"), (4, 121, "&"), (5, 123, "<=>"), (6, 125, "+-"), (7, 127, "*/"), (8, 138, "fran"), (9, 140, "mh"), (10, 142, "fc")]
def Sr (w : Wt) (s : State) : Prop := ∀ i k tx, (i, k, tx) ∈ cStr → vk_R RX3 k tx (ad w (1010 + i)) s
def Kw (w : Wt) (s : State) : Prop := va_K (w_D w) vwCl (atys w) s ∧ Cn w s ∧ Sr w s
theorem Cn.go {w : Wt} {s U : State} {locs : List Loc} (hW : s.WarmedH U.vm) (hS : va_S (Aw w) s.heap U.heap locs) (h : Cn w s) : Cn w U := by
  have ha := hW.alike
  obtain ⟨h1, h2, h3, h4, h0, h5, h6, h7, h8, h9⟩ := h
  exact ⟨(h1.moved ha).kept hS.2.1, (h2.moved ha).kept hS.2.1, (h3.moved ha).kept hS.2.1, (h4.moved ha).kept hS.2.1, h0.imp (fun h => (h.moved ha).kept hS.2.1) (fun h => (h.moved ha).kept hS.2.1), (h5.moved ha).kept hS.2.1, h6.moved ha, h7.moved ha, h8.moved ha, h9.moved ha⟩
theorem Kw.go {w : Wt} {s U : State} {locs : List Loc} (hW : s.WarmedH U.vm) (hS : va_S (Aw w) s.heap U.heap locs) (h : Kw w s) : Kw w U :=
  ⟨va_K.moved hW.alike h.1, h.2.1.go hW hS, fun i k tx hi => (h.2.2 i k tx hi).warm hW⟩
/-- a method: its class's number, its name, its code, how many locals, what it gives back -/
abbrev Mt : Type := Nat × MethodName × ByteArray × Nat × Option FieldType
abbrev m_o (M : Mt) : Nat := M.1
abbrev m_y (M : Mt) : MethodName := M.2.1
abbrev m_c (M : Mt) : ByteArray := M.2.2.1
abbrev m_n (M : Mt) : Nat := M.2.2.2.1
abbrev m_r (M : Mt) : Option FieldType := M.2.2.2.2
def Cx (w : Wt) (k : Nat) (M : Mt) (p : Program) (R : Room) (s : State) (m : MethodId) (args : Array Value) (meth : Method) (c : Code) : Prop :=
  p.tables.exec = Jvm.exec ∧ c.code = m_c M ∧ c.maxLocals = m_n M ∧ meth.sig.returnType = m_r M ∧ meth.locks = false ∧ s.vm.findClass (m_y M).cls = some m.cls ∧ meth.name = (m_y M).name ∧ (∀ t ∈ tbG, t.before args s = true) ∧ Kw w s ∧ k ≤ R.frames ∧ 64 * k ≤ R.locals
theorem Cx.ts {w : Wt} {k : Nat} {M : Mt} {p : Program} {R : Room} {s : State} {m : MethodId} {args : Array Value} {meth : Method} {c : Code} (C : Cx w k M p R s m args meth c) : ∀ t ∈ tbG, t.before args s = true := C.2.2.2.2.2.2.2.1
theorem Cx.own {w : Wt} {k : Nat} {M : Mt} {p : Program} {R : Room} {s : State} {m : MethodId} {args : Array Value} {meth : Method} {c : Code} (C : Cx w k M p R s m args meth c) : s.vm.findClass (m_y M).cls = some m.cls := C.2.2.2.2.2.1
theorem Cx.kw {w : Wt} {k : Nat} {M : Mt} {p : Program} {R : Room} {s : State} {m : MethodId} {args : Array Value} {meth : Method} {c : Code} (C : Cx w k M p R s m args meth c) : Kw w s := C.2.2.2.2.2.2.2.2.1
def Rt (ret : Option FieldType) (r : Option Value) (i : Instr) : Prop :=
  (r = none ∧ ret = none ∧ i = .return_) ∨ (∃ (x : Int32) (ty : FieldType), r = some (.int x) ∧ ret = some ty ∧ narrow ty (.int x) = .int x ∧ i = .ireturn) ∨ (∃ (a : Nat) (ty : FieldType), r = some (.ref a) ∧ ret = some ty ∧ ((∃ n, ty = .object n) ∨ ∃ t, ty = .array t) ∧ i = .areturn)
/-- locals -/
def pr (w : Wt) : Nat → List (Option Value) → List (Nat × Value)
  | _, [] => []
  | i, none :: t => pr w (i + 1) t
  | i, some v :: t => (i, cv w v) :: pr w (i + 1) t
theorem pr_mem {w : Wt} {L : List (Option Value)} : ∀ {i : Nat} {q : Nat × Value}, q ∈ pr w i L ↔ ∃ j v, L[j]? = some (some v) ∧ q = (i + j, cv w v) := by
  induction L with
  | nil => intro i q; simp [pr]
  | cons x t ih =>
    intro i q
    cases x with
    | none =>
      rw [pr, ih]
      constructor
      · rintro ⟨j, v, h1, h2⟩
        exact ⟨j + 1, v, by simpa using h1, by rw [h2]; congr 1; omega⟩
      · rintro ⟨j, v, h1, h2⟩
        cases j with
        | zero => simp at h1
        | succ j => exact ⟨j, v, by simpa using h1, by rw [h2]; congr 1; omega⟩
    | some u =>
      rw [pr, List.mem_cons, ih]
      constructor
      · rintro (h | ⟨j, v, h1, h2⟩)
        · exact ⟨0, u, rfl, h⟩
        · exact ⟨j + 1, v, by simpa using h1, by rw [h2]; congr 1; omega⟩
      · rintro ⟨j, v, h1, h2⟩
        cases j with
        | zero =>
          have : u = v := by simpa using h1
          subst this
          exact Or.inl h2
        | succ j => exact Or.inr ⟨j, v, by simpa using h1, by rw [h2]; congr 1; omega⟩
def Lh (w : Wt) (n : Nat) (L : List (Option Value)) (ls : Array Slot) : Prop := lv_has ls n (pr w 0 L) ∧ ∀ (j : Nat) (v : Value), L[j]? = some (some v) → v.category = 1
theorem Lh.at {w : Wt} {n : Nat} {L : List (Option Value)} {ls : Array Slot} (h : Lh w n L ls) {i : Nat} {v : Value} (hi : L[i]? = some (some v)) : ls[i]? = some (.val (cv w v)) :=
  h.1.2.2 (i, cv w v) (pr_mem.mpr ⟨i, v, hi, by simp⟩)
theorem Lh.set {w : Wt} {n : Nat} {L : List (Option Value)} {ls : Array Slot} (h : Lh w n L ls) {i : Nat} {v : Value} (hi : i < n) (hv : v.category = 1) : ∃ ls', storeLocals ls i (cv w v) = some ls' ∧ Lh w n (L.set i (some v)) ls' := by
  obtain ⟨ls', h1, h2⟩ := lv_store1 (v := cv w v) h.1 hi (by rw [cv_cat]; exact hv)
  refine ⟨ls', h1, ⟨h2.1, h2.2.1, fun q hq => ?_⟩, fun j u hj => ?_⟩
  · obtain ⟨j, u, hj, rfl⟩ := pr_mem.mp hq
    by_cases hji : j = i
    · subst hji
      have hl : j < L.length := by
        by_cases hl : j < L.length
        · exact hl
        · rw [List.set_eq_of_length_le (by omega)] at hj
          rw [List.getElem?_eq_none (by omega)] at hj
          cases hj
      rw [List.getElem?_set_self hl] at hj
      cases hj
      simpa using h2.2.2 (j, cv w v) List.mem_cons_self
    · rw [List.getElem?_set_ne (Ne.symm hji)] at hj
      refine h2.2.2 _ (List.mem_cons_of_mem _ (List.mem_filter.mpr ⟨pr_mem.mpr ⟨j, u, hj, rfl⟩, ?_⟩))
      have hc := h.2 j u hj
      simp [hji, cv_cat, hc]
  · by_cases hji : j = i
    · subst hji
      by_cases hl : j < L.length
      · rw [List.getElem?_set_self hl] at hj
        cases hj
        exact hv
      · rw [List.set_eq_of_length_le (by omega)] at hj
        exact h.2 j u hj
    · rw [List.getElem?_set_ne (Ne.symm hji)] at hj
      exact h.2 j u hj
theorem Lh.sz {w : Wt} {n : Nat} {L : List (Option Value)} {ls : Array Slot} (h : Lh w n L ls) : ls.size = n := h.1.1
/-- THE JUDGEMENT: method M stands at pc with locals L, stack st, memory u, in k frames' room, with bc cells and bs slots to make: it comes to its return with Q -/
def Gp (w : Wt) (k bc bs : Nat) (M : Mt) (Q : Option Value → Mu → Prop) (pc : Nat) (L : List (Option Value)) (st : List Value) (u : Mu) : Prop :=
  ∀ (p : Program) (e : Env) (R : Room) (s : State) (m : MethodId) (args : Array Value) (below : List Frame) (meth : Method) (c : Code) (cells slots : Nat) (Z : State → Prop),
    Cx w k M p R s m args meth c → cells + bc ≤ R.cells → slots + bs ≤ R.slots →
    (∀ (r : Option Value) (u' : Mu) (H' : Heap) (locs' : List Loc) (pc' : Nat) (ls' : Array Slot) (i : Instr), Rt (m_r M) r i → decode (m_c M) pc' = .ok (i, 1) → Q r u' → Hd w u' H' → va_S (Aw w) s.heap H' locs' →
      W p (w_l w) e R s m args below meth c H' locs' (cells + bc) (slots + bs) Z (F0 m pc' ls' ((r.map (cv w)).toList))) →
    ∀ (H : Heap) (locs : List Loc) (ls : Array Slot), Hd w u H → va_S (Aw w) s.heap H locs → Lh w (m_n M) L ls →
      W p (w_l w) e R s m args below meth c H locs cells slots Z (F0 m pc ls (st.map (cv w)))
end
section
section G1
variable {w : Wt} {k bc bs : Nat} {M : Mt} {Q : Option Value → Mu → Prop} {pc : Nat} {L : List (Option Value)} {st : List Value} {u : Mu}
theorem g_iadd {x y : Int32} (hd : decode (m_c M) pc = .ok (.iadd, 1)) (h : Gp w k bc bs M Q (pc + 1) L (.int (x + y) :: st) u) : Gp w k bc bs M Q pc L (.int y :: .int x :: st) u := by
  intro p e R s m args below meth c cells slots Z C hc hs hZ H locs ls hH hS hL
  exact lv_iadd C.1 C.2.1 hd (h p e R s m args below meth c cells slots Z C hc hs hZ H locs ls hH hS hL)
theorem g_isub {x y : Int32} (hd : decode (m_c M) pc = .ok (.isub, 1)) (h : Gp w k bc bs M Q (pc + 1) L (.int (x - y) :: st) u) : Gp w k bc bs M Q pc L (.int y :: .int x :: st) u := by
  intro p e R s m args below meth c cells slots Z C hc hs hZ H locs ls hH hS hL
  exact lv_isub C.1 C.2.1 hd (h p e R s m args below meth c cells slots Z C hc hs hZ H locs ls hH hS hL)
theorem g_imul {x y : Int32} (hd : decode (m_c M) pc = .ok (.imul, 1)) (h : Gp w k bc bs M Q (pc + 1) L (.int (x * y) :: st) u) : Gp w k bc bs M Q pc L (.int y :: .int x :: st) u := by
  intro p e R s m args below meth c cells slots Z C hc hs hZ H locs ls hH hS hL
  exact lv_imul C.1 C.2.1 hd (h p e R s m args below meth c cells slots Z C hc hs hZ H locs ls hH hS hL)
theorem g_iand {x y : Int32} (hd : decode (m_c M) pc = .ok (.iand, 1)) (h : Gp w k bc bs M Q (pc + 1) L (.int (x &&& y) :: st) u) : Gp w k bc bs M Q pc L (.int y :: .int x :: st) u := by
  intro p e R s m args below meth c cells slots Z C hc hs hZ H locs ls hH hS hL
  exact lv_iand C.1 C.2.1 hd (h p e R s m args below meth c cells slots Z C hc hs hZ H locs ls hH hS hL)
theorem g_ior {x y : Int32} (hd : decode (m_c M) pc = .ok (.ior, 1)) (h : Gp w k bc bs M Q (pc + 1) L (.int (x ||| y) :: st) u) : Gp w k bc bs M Q pc L (.int y :: .int x :: st) u := by
  intro p e R s m args below meth c cells slots Z C hc hs hZ H locs ls hH hS hL
  exact lv_ior C.1 C.2.1 hd (h p e R s m args below meth c cells slots Z C hc hs hZ H locs ls hH hS hL)
theorem g_ixor {x y : Int32} (hd : decode (m_c M) pc = .ok (.ixor, 1)) (h : Gp w k bc bs M Q (pc + 1) L (.int (x ^^^ y) :: st) u) : Gp w k bc bs M Q pc L (.int y :: .int x :: st) u := by
  intro p e R s m args below meth c cells slots Z C hc hs hZ H locs ls hH hS hL
  exact lv_ixor C.1 C.2.1 hd (h p e R s m args below meth c cells slots Z C hc hs hZ H locs ls hH hS hL)
theorem g_ishl {x y : Int32} (hd : decode (m_c M) pc = .ok (.ishl, 1)) (h : Gp w k bc bs M Q (pc + 1) L (.int (x <<< (y &&& 31)) :: st) u) : Gp w k bc bs M Q pc L (.int y :: .int x :: st) u := by
  intro p e R s m args below meth c cells slots Z C hc hs hZ H locs ls hH hS hL
  exact lv_ishl C.1 C.2.1 hd (h p e R s m args below meth c cells slots Z C hc hs hZ H locs ls hH hS hL)
theorem g_ishr {x y : Int32} (hd : decode (m_c M) pc = .ok (.ishr, 1)) (h : Gp w k bc bs M Q (pc + 1) L (.int (x >>> (y &&& 31)) :: st) u) : Gp w k bc bs M Q pc L (.int y :: .int x :: st) u := by
  intro p e R s m args below meth c cells slots Z C hc hs hZ H locs ls hH hS hL
  exact lv_ishr C.1 C.2.1 hd (h p e R s m args below meth c cells slots Z C hc hs hZ H locs ls hH hS hL)
theorem g_idiv {x y : Int32} (hd : decode (m_c M) pc = .ok (.idiv, 1)) (hy : ¬ y = 0) (h : Gp w k bc bs M Q (pc + 1) L (.int (x / y) :: st) u) : Gp w k bc bs M Q pc L (.int y :: .int x :: st) u := by
  intro p e R s m args below meth c cells slots Z C hc hs hZ H locs ls hH hS hL
  exact lv_idiv C.1 C.2.1 hd hy (h p e R s m args below meth c cells slots Z C hc hs hZ H locs ls hH hS hL)
theorem g_irem {x y : Int32} (hd : decode (m_c M) pc = .ok (.irem, 1)) (hy : ¬ y = 0) (h : Gp w k bc bs M Q (pc + 1) L (.int (x - x / y * y) :: st) u) : Gp w k bc bs M Q pc L (.int y :: .int x :: st) u := by
  intro p e R s m args below meth c cells slots Z C hc hs hZ H locs ls hH hS hL
  exact lv_irem C.1 C.2.1 hd hy (h p e R s m args below meth c cells slots Z C hc hs hZ H locs ls hH hS hL)
theorem g_iushr {x y : Int32} (hd : decode (m_c M) pc = .ok (.iushr, 1)) (h : Gp w k bc bs M Q (pc + 1) L (.int (x.toUInt32 >>> (y.toUInt32 &&& Int32.toUInt32 31)).toInt32 :: st) u) : Gp w k bc bs M Q pc L (.int y :: .int x :: st) u := by
  intro p e R s m args below meth c cells slots Z C hc hs hZ H locs ls hH hS hL
  exact lv_iushr C.1 C.2.1 hd rfl (h p e R s m args below meth c cells slots Z C hc hs hZ H locs ls hH hS hL)
theorem g_ineg {x : Int32} (hd : decode (m_c M) pc = .ok (.ineg, 1)) (h : Gp w k bc bs M Q (pc + 1) L (.int (-x) :: st) u) : Gp w k bc bs M Q pc L (.int x :: st) u := by
  intro p e R s m args below meth c cells slots Z C hc hs hZ H locs ls hH hS hL
  exact lv_ineg C.1 C.2.1 hd (h p e R s m args below meth c cells slots Z C hc hs hZ H locs ls hH hS hL)
theorem g_i2s {x : Int32} (hd : decode (m_c M) pc = .ok (.i2s, 1)) (h : Gp w k bc bs M Q (pc + 1) L (.int (x.toInt16.toInt32) :: st) u) : Gp w k bc bs M Q pc L (.int x :: st) u := by
  intro p e R s m args below meth c cells slots Z C hc hs hZ H locs ls hH hS hL
  exact lv_i2s C.1 C.2.1 hd rfl (h p e R s m args below meth c cells slots Z C hc hs hZ H locs ls hH hS hL)
theorem g_i2c {x : Int32} (hd : decode (m_c M) pc = .ok (.i2c, 1)) (h : Gp w k bc bs M Q (pc + 1) L (.int ((x.toUInt32 % 65536).toInt32) :: st) u) : Gp w k bc bs M Q pc L (.int x :: st) u := by
  intro p e R s m args below meth c cells slots Z C hc hs hZ H locs ls hH hS hL
  exact lv_i2c C.1 C.2.1 hd rfl (h p e R s m args below meth c cells slots Z C hc hs hZ H locs ls hH hS hL)
theorem g_i2b {x : Int32} (hd : decode (m_c M) pc = .ok (.i2b, 1)) (h : Gp w k bc bs M Q (pc + 1) L (.int (x.toInt8.toInt32) :: st) u) : Gp w k bc bs M Q pc L (.int x :: st) u := by
  intro p e R s m args below meth c cells slots Z C hc hs hZ H locs ls hH hS hL
  exact lv_i2b C.1 C.2.1 hd rfl (h p e R s m args below meth c cells slots Z C hc hs hZ H locs ls hH hS hL)
theorem g_iconst {n : Int} (hd : decode (m_c M) pc = .ok (.iconst n, 1)) (h : Gp w k bc bs M Q (pc + 1) L (.int (Int32.ofInt n) :: st) u) : Gp w k bc bs M Q pc L (st) u := by
  intro p e R s m args below meth c cells slots Z C hc hs hZ H locs ls hH hS hL
  exact lv_iconst C.1 C.2.1 hd rfl (h p e R s m args below meth c cells slots Z C hc hs hZ H locs ls hH hS hL)
theorem g_bipush {n : Int} (hd : decode (m_c M) pc = .ok (.bipush n, 2)) (hv : (Int8.ofInt n).toInt32 = Int32.ofInt n) (h : Gp w k bc bs M Q (pc + 2) L (.int (Int32.ofInt n) :: st) u) : Gp w k bc bs M Q pc L (st) u := by
  intro p e R s m args below meth c cells slots Z C hc hs hZ H locs ls hH hS hL
  exact lv_bipush C.1 C.2.1 hd hv (h p e R s m args below meth c cells slots Z C hc hs hZ H locs ls hH hS hL)
theorem g_sipush {n : Int} (hd : decode (m_c M) pc = .ok (.sipush n, 3)) (hv : (Int16.ofInt n).toInt32 = Int32.ofInt n) (h : Gp w k bc bs M Q (pc + 3) L (.int (Int32.ofInt n) :: st) u) : Gp w k bc bs M Q pc L (st) u := by
  intro p e R s m args below meth c cells slots Z C hc hs hZ H locs ls hH hS hL
  exact lv_sipush C.1 C.2.1 hd hv (h p e R s m args below meth c cells slots Z C hc hs hZ H locs ls hH hS hL)
theorem g_ldc {i : Nat} {v : Int32} (hd : decode (m_c M) pc = .ok (.ldc i, 2)) (hw : Cond.constant (m_y M).cls i v ∈ tbG) (h : Gp w k bc bs M Q (pc + 2) L (.int v :: st) u) : Gp w k bc bs M Q pc L (st) u := by
  intro p e R s m args below meth c cells slots Z C hc hs hZ H locs ls hH hS hL
  exact lv_ldc C.1 C.2.1 C.own (C.ts _ hw) hd (h p e R s m args below meth c cells slots Z C hc hs hZ H locs ls hH hS hL)
theorem g_ldcw {i : Nat} {v : Int32} (hd : decode (m_c M) pc = .ok (.ldc_w i, 3)) (hw : Cond.constant (m_y M).cls i v ∈ tbG) (h : Gp w k bc bs M Q (pc + 3) L (.int v :: st) u) : Gp w k bc bs M Q pc L (st) u := by
  intro p e R s m args below meth c cells slots Z C hc hs hZ H locs ls hH hS hL
  exact lv_ldcw C.1 C.2.1 C.own (C.ts _ hw) hd (h p e R s m args below meth c cells slots Z C hc hs hZ H locs ls hH hS hL)
theorem g_iload {i : Nat} {x : Int32} (hd : decode (m_c M) pc = .ok (.iload i, 2)) (hi : L[i]? = some (some (.int x))) (h : Gp w k bc bs M Q (pc + 2) L (.int x :: st) u) : Gp w k bc bs M Q pc L (st) u := by
  intro p e R s m args below meth c cells slots Z C hc hs hZ H locs ls hH hS hL
  exact lv_iload C.1 C.2.1 hd (hL.at hi) (h p e R s m args below meth c cells slots Z C hc hs hZ H locs ls hH hS hL)
theorem g_iload_n {i : Fin 4} {x : Int32} (hd : decode (m_c M) pc = .ok (.iload_n i, 1)) (hi : L[i.val]? = some (some (.int x))) (h : Gp w k bc bs M Q (pc + 1) L (.int x :: st) u) : Gp w k bc bs M Q pc L (st) u := by
  intro p e R s m args below meth c cells slots Z C hc hs hZ H locs ls hH hS hL
  exact lv_iload_n C.1 C.2.1 hd rfl (hL.at hi) (h p e R s m args below meth c cells slots Z C hc hs hZ H locs ls hH hS hL)
theorem g_aload {i : Nat} {x : Nat} (hd : decode (m_c M) pc = .ok (.aload i, 2)) (hi : L[i]? = some (some (.ref x))) (h : Gp w k bc bs M Q (pc + 2) L (.ref x :: st) u) : Gp w k bc bs M Q pc L (st) u := by
  intro p e R s m args below meth c cells slots Z C hc hs hZ H locs ls hH hS hL
  exact lv_aload C.1 C.2.1 hd (hL.at hi) (h p e R s m args below meth c cells slots Z C hc hs hZ H locs ls hH hS hL)
theorem g_aload_n {i : Fin 4} {x : Nat} (hd : decode (m_c M) pc = .ok (.aload_n i, 1)) (hi : L[i.val]? = some (some (.ref x))) (h : Gp w k bc bs M Q (pc + 1) L (.ref x :: st) u) : Gp w k bc bs M Q pc L (st) u := by
  intro p e R s m args below meth c cells slots Z C hc hs hZ H locs ls hH hS hL
  exact lv_aload_n C.1 C.2.1 hd rfl (hL.at hi) (h p e R s m args below meth c cells slots Z C hc hs hZ H locs ls hH hS hL)
theorem g_istore {i : Nat} {x : Int32} (hd : decode (m_c M) pc = .ok (.istore i, 2)) (hi : i < m_n M) (h : Gp w k bc bs M Q (pc + 2) (L.set i (some (.int x))) st u) : Gp w k bc bs M Q pc L (.int x :: st) u := by
  intro p e R s m args below meth c cells slots Z C hc hs hZ H locs ls hH hS hL
  obtain ⟨ls', e1, hL'⟩ := hL.set (v := .int x) hi rfl
  have K := h p e R s m args below meth c cells slots Z C hc hs hZ H locs ls' hH hS hL'
  intro T hT X
  obtain ⟨t, a, b⟩ := K T hT X
  refine ⟨t, ?_, b⟩
  jvm_step X.here [X.here.top, C.1, C.2.1, hd, cv]
  exact ⟨ls', e1, a⟩
theorem g_istore_n {i : Fin 4} {x : Int32} (hd : decode (m_c M) pc = .ok (.istore_n i, 1)) (hi : i.val < m_n M) (h : Gp w k bc bs M Q (pc + 1) (L.set i.val (some (.int x))) st u) : Gp w k bc bs M Q pc L (.int x :: st) u := by
  intro p e R s m args below meth c cells slots Z C hc hs hZ H locs ls hH hS hL
  obtain ⟨ls', e1, hL'⟩ := hL.set (v := .int x) hi rfl
  have K := h p e R s m args below meth c cells slots Z C hc hs hZ H locs ls' hH hS hL'
  intro T hT X
  obtain ⟨t, a, b⟩ := K T hT X
  refine ⟨t, ?_, b⟩
  jvm_step X.here [X.here.top, C.1, C.2.1, hd, cv]
  exact ⟨ls', e1, a⟩
theorem g_astore {i : Nat} {x : Nat} (hd : decode (m_c M) pc = .ok (.astore i, 2)) (hi : i < m_n M) (h : Gp w k bc bs M Q (pc + 2) (L.set i (some (.ref x))) st u) : Gp w k bc bs M Q pc L (.ref x :: st) u := by
  intro p e R s m args below meth c cells slots Z C hc hs hZ H locs ls hH hS hL
  obtain ⟨ls', e1, hL'⟩ := hL.set (v := .ref x) hi rfl
  have K := h p e R s m args below meth c cells slots Z C hc hs hZ H locs ls' hH hS hL'
  intro T hT X
  obtain ⟨t, a, b⟩ := K T hT X
  refine ⟨t, ?_, b⟩
  jvm_step X.here [X.here.top, C.1, C.2.1, hd, cv]
  exact ⟨rfl, ls', e1, a⟩
theorem g_astore_n {i : Fin 4} {x : Nat} (hd : decode (m_c M) pc = .ok (.astore_n i, 1)) (hi : i.val < m_n M) (h : Gp w k bc bs M Q (pc + 1) (L.set i.val (some (.ref x))) st u) : Gp w k bc bs M Q pc L (.ref x :: st) u := by
  intro p e R s m args below meth c cells slots Z C hc hs hZ H locs ls hH hS hL
  obtain ⟨ls', e1, hL'⟩ := hL.set (v := .ref x) hi rfl
  have K := h p e R s m args below meth c cells slots Z C hc hs hZ H locs ls' hH hS hL'
  intro T hT X
  obtain ⟨t, a, b⟩ := K T hT X
  refine ⟨t, ?_, b⟩
  jvm_step X.here [X.here.top, C.1, C.2.1, hd, cv]
  exact ⟨rfl, ls', e1, a⟩
theorem g_iinc {i : Nat} {n : Int} {x : Int32} (hd : decode (m_c M) pc = .ok (.iinc i n, 3)) (hn : i < m_n M) (hi : L[i]? = some (some (.int x))) (h : Gp w k bc bs M Q (pc + 3) (L.set i (some (.int (x + Int32.ofInt n)))) st u) : Gp w k bc bs M Q pc L st u := by
  intro p e R s m args below meth c cells slots Z C hc hs hZ H locs ls hH hS hL
  obtain ⟨ls', e1, hL'⟩ := hL.set (v := .int (x + Int32.ofInt n)) hn rfl
  have K := h p e R s m args below meth c cells slots Z C hc hs hZ H locs ls' hH hS hL'
  have hx := hL.at hi
  intro T hT X
  obtain ⟨t, a, b⟩ := K T hT X
  refine ⟨t, ?_, b⟩
  jvm_step X.here [X.here.top, C.1, C.2.1, hd, hx, cv]
  exact ⟨ls', e1, a⟩
theorem g_dup {v : Value} (hd : decode (m_c M) pc = .ok (.dup, 1)) (hv : v.category = 1) (h : Gp w k bc bs M Q (pc + 1) L (v :: v :: st) u) : Gp w k bc bs M Q pc L (v :: st) u := by
  intro p e R s m args below meth c cells slots Z C hc hs hZ H locs ls hH hS hL
  exact lv_dup C.1 C.2.1 hd (by rw [cv_cat]; exact hv) (h p e R s m args below meth c cells slots Z C hc hs hZ H locs ls hH hS hL)
theorem g_dup2 {a b : Value} (hd : decode (m_c M) pc = .ok (.dup2, 1)) (ha : a.category = 1) (hb : b.category = 1) (h : Gp w k bc bs M Q (pc + 1) L (a :: b :: a :: b :: st) u) : Gp w k bc bs M Q pc L (a :: b :: st) u := by
  intro p e R s m args below meth c cells slots Z C hc hs hZ H locs ls hH hS hL
  exact lv_dup2_11 C.1 C.2.1 hd (by rw [cv_cat]; exact ha) (by rw [cv_cat]; exact hb) (h p e R s m args below meth c cells slots Z C hc hs hZ H locs ls hH hS hL)
theorem g_pop {v : Value} (hd : decode (m_c M) pc = .ok (.pop, 1)) (hv : v.category = 1) (h : Gp w k bc bs M Q (pc + 1) L (st) u) : Gp w k bc bs M Q pc L (v :: st) u := by
  intro p e R s m args below meth c cells slots Z C hc hs hZ H locs ls hH hS hL
  exact lv_pop C.1 C.2.1 hd (by rw [cv_cat]; exact hv) (h p e R s m args below meth c cells slots Z C hc hs hZ H locs ls hH hS hL)
theorem g_goto {off : Int} {tgt : Nat} (hd : decode (m_c M) pc = .ok (.goto off, 3)) (ht : (pc : Int) + off = (tgt : Int)) (h : Gp w k bc bs M Q (tgt) L (st) u) : Gp w k bc bs M Q pc L (st) u := by
  intro p e R s m args below meth c cells slots Z C hc hs hZ H locs ls hH hS hL
  exact lv_goto C.1 C.2.1 hd ht (h p e R s m args below meth c cells slots Z C hc hs hZ H locs ls hH hS hL)
theorem g_if_eq {x : Int32} {off : Int} {tgt : Nat} (hd : decode (m_c M) pc = .ok (.ifCond .eq off, 3)) (ht : (pc : Int) + off = (tgt : Int)) (kt : x = 0 → Gp w k bc bs M Q tgt L st u) (kf : ¬ x = 0 → Gp w k bc bs M Q (pc + 3) L st u) : Gp w k bc bs M Q pc L (.int x :: st) u := by
  intro p e R s m args below meth c cells slots Z C hc hs hZ H locs ls hH hS hL
  exact lv_if_eq C.1 C.2.1 hd ht (fun a => kt a p e R s m args below meth c cells slots Z C hc hs hZ H locs ls hH hS hL) (fun a => kf a p e R s m args below meth c cells slots Z C hc hs hZ H locs ls hH hS hL)
theorem g_icmp_eq {x y : Int32} {off : Int} {tgt : Nat} (hd : decode (m_c M) pc = .ok (.if_icmp .eq off, 3)) (ht : (pc : Int) + off = (tgt : Int)) (kt : x = y → Gp w k bc bs M Q tgt L st u) (kf : ¬ x = y → Gp w k bc bs M Q (pc + 3) L st u) : Gp w k bc bs M Q pc L (.int y :: .int x :: st) u := by
  intro p e R s m args below meth c cells slots Z C hc hs hZ H locs ls hH hS hL
  exact lv_icmp_eq C.1 C.2.1 hd ht (fun a => kt a p e R s m args below meth c cells slots Z C hc hs hZ H locs ls hH hS hL) (fun a => kf a p e R s m args below meth c cells slots Z C hc hs hZ H locs ls hH hS hL)
theorem g_if_ne {x : Int32} {off : Int} {tgt : Nat} (hd : decode (m_c M) pc = .ok (.ifCond .ne off, 3)) (ht : (pc : Int) + off = (tgt : Int)) (kt : ¬ x = 0 → Gp w k bc bs M Q tgt L st u) (kf : x = 0 → Gp w k bc bs M Q (pc + 3) L st u) : Gp w k bc bs M Q pc L (.int x :: st) u := by
  intro p e R s m args below meth c cells slots Z C hc hs hZ H locs ls hH hS hL
  exact lv_if_ne C.1 C.2.1 hd ht (fun a => kt a p e R s m args below meth c cells slots Z C hc hs hZ H locs ls hH hS hL) (fun a => kf a p e R s m args below meth c cells slots Z C hc hs hZ H locs ls hH hS hL)
theorem g_icmp_ne {x y : Int32} {off : Int} {tgt : Nat} (hd : decode (m_c M) pc = .ok (.if_icmp .ne off, 3)) (ht : (pc : Int) + off = (tgt : Int)) (kt : ¬ x = y → Gp w k bc bs M Q tgt L st u) (kf : x = y → Gp w k bc bs M Q (pc + 3) L st u) : Gp w k bc bs M Q pc L (.int y :: .int x :: st) u := by
  intro p e R s m args below meth c cells slots Z C hc hs hZ H locs ls hH hS hL
  exact lv_icmp_ne C.1 C.2.1 hd ht (fun a => kt a p e R s m args below meth c cells slots Z C hc hs hZ H locs ls hH hS hL) (fun a => kf a p e R s m args below meth c cells slots Z C hc hs hZ H locs ls hH hS hL)
theorem g_if_lt {x : Int32} {off : Int} {tgt : Nat} (hd : decode (m_c M) pc = .ok (.ifCond .lt off, 3)) (ht : (pc : Int) + off = (tgt : Int)) (kt : x < 0 → Gp w k bc bs M Q tgt L st u) (kf : ¬ x < 0 → Gp w k bc bs M Q (pc + 3) L st u) : Gp w k bc bs M Q pc L (.int x :: st) u := by
  intro p e R s m args below meth c cells slots Z C hc hs hZ H locs ls hH hS hL
  exact lv_if_lt C.1 C.2.1 hd ht (fun a => kt a p e R s m args below meth c cells slots Z C hc hs hZ H locs ls hH hS hL) (fun a => kf a p e R s m args below meth c cells slots Z C hc hs hZ H locs ls hH hS hL)
theorem g_icmp_lt {x y : Int32} {off : Int} {tgt : Nat} (hd : decode (m_c M) pc = .ok (.if_icmp .lt off, 3)) (ht : (pc : Int) + off = (tgt : Int)) (kt : x < y → Gp w k bc bs M Q tgt L st u) (kf : ¬ x < y → Gp w k bc bs M Q (pc + 3) L st u) : Gp w k bc bs M Q pc L (.int y :: .int x :: st) u := by
  intro p e R s m args below meth c cells slots Z C hc hs hZ H locs ls hH hS hL
  exact lv_icmp_lt C.1 C.2.1 hd ht (fun a => kt a p e R s m args below meth c cells slots Z C hc hs hZ H locs ls hH hS hL) (fun a => kf a p e R s m args below meth c cells slots Z C hc hs hZ H locs ls hH hS hL)
theorem g_if_ge {x : Int32} {off : Int} {tgt : Nat} (hd : decode (m_c M) pc = .ok (.ifCond .ge off, 3)) (ht : (pc : Int) + off = (tgt : Int)) (kt : 0 ≤ x → Gp w k bc bs M Q tgt L st u) (kf : ¬ 0 ≤ x → Gp w k bc bs M Q (pc + 3) L st u) : Gp w k bc bs M Q pc L (.int x :: st) u := by
  intro p e R s m args below meth c cells slots Z C hc hs hZ H locs ls hH hS hL
  exact lv_if_ge C.1 C.2.1 hd ht (fun a => kt a p e R s m args below meth c cells slots Z C hc hs hZ H locs ls hH hS hL) (fun a => kf a p e R s m args below meth c cells slots Z C hc hs hZ H locs ls hH hS hL)
theorem g_icmp_ge {x y : Int32} {off : Int} {tgt : Nat} (hd : decode (m_c M) pc = .ok (.if_icmp .ge off, 3)) (ht : (pc : Int) + off = (tgt : Int)) (kt : y ≤ x → Gp w k bc bs M Q tgt L st u) (kf : ¬ y ≤ x → Gp w k bc bs M Q (pc + 3) L st u) : Gp w k bc bs M Q pc L (.int y :: .int x :: st) u := by
  intro p e R s m args below meth c cells slots Z C hc hs hZ H locs ls hH hS hL
  exact lv_icmp_ge C.1 C.2.1 hd ht (fun a => kt a p e R s m args below meth c cells slots Z C hc hs hZ H locs ls hH hS hL) (fun a => kf a p e R s m args below meth c cells slots Z C hc hs hZ H locs ls hH hS hL)
theorem g_if_gt {x : Int32} {off : Int} {tgt : Nat} (hd : decode (m_c M) pc = .ok (.ifCond .gt off, 3)) (ht : (pc : Int) + off = (tgt : Int)) (kt : 0 < x → Gp w k bc bs M Q tgt L st u) (kf : ¬ 0 < x → Gp w k bc bs M Q (pc + 3) L st u) : Gp w k bc bs M Q pc L (.int x :: st) u := by
  intro p e R s m args below meth c cells slots Z C hc hs hZ H locs ls hH hS hL
  exact lv_if_gt C.1 C.2.1 hd ht (fun a => kt a p e R s m args below meth c cells slots Z C hc hs hZ H locs ls hH hS hL) (fun a => kf a p e R s m args below meth c cells slots Z C hc hs hZ H locs ls hH hS hL)
theorem g_icmp_gt {x y : Int32} {off : Int} {tgt : Nat} (hd : decode (m_c M) pc = .ok (.if_icmp .gt off, 3)) (ht : (pc : Int) + off = (tgt : Int)) (kt : y < x → Gp w k bc bs M Q tgt L st u) (kf : ¬ y < x → Gp w k bc bs M Q (pc + 3) L st u) : Gp w k bc bs M Q pc L (.int y :: .int x :: st) u := by
  intro p e R s m args below meth c cells slots Z C hc hs hZ H locs ls hH hS hL
  exact lv_icmp_gt C.1 C.2.1 hd ht (fun a => kt a p e R s m args below meth c cells slots Z C hc hs hZ H locs ls hH hS hL) (fun a => kf a p e R s m args below meth c cells slots Z C hc hs hZ H locs ls hH hS hL)
theorem g_if_le {x : Int32} {off : Int} {tgt : Nat} (hd : decode (m_c M) pc = .ok (.ifCond .le off, 3)) (ht : (pc : Int) + off = (tgt : Int)) (kt : x ≤ 0 → Gp w k bc bs M Q tgt L st u) (kf : ¬ x ≤ 0 → Gp w k bc bs M Q (pc + 3) L st u) : Gp w k bc bs M Q pc L (.int x :: st) u := by
  intro p e R s m args below meth c cells slots Z C hc hs hZ H locs ls hH hS hL
  exact lv_if_le C.1 C.2.1 hd ht (fun a => kt a p e R s m args below meth c cells slots Z C hc hs hZ H locs ls hH hS hL) (fun a => kf a p e R s m args below meth c cells slots Z C hc hs hZ H locs ls hH hS hL)
theorem g_icmp_le {x y : Int32} {off : Int} {tgt : Nat} (hd : decode (m_c M) pc = .ok (.if_icmp .le off, 3)) (ht : (pc : Int) + off = (tgt : Int)) (kt : x ≤ y → Gp w k bc bs M Q tgt L st u) (kf : ¬ x ≤ y → Gp w k bc bs M Q (pc + 3) L st u) : Gp w k bc bs M Q pc L (.int y :: .int x :: st) u := by
  intro p e R s m args below meth c cells slots Z C hc hs hZ H locs ls hH hS hL
  exact lv_icmp_le C.1 C.2.1 hd ht (fun a => kt a p e R s m args below meth c cells slots Z C hc hs hZ H locs ls hH hS hL) (fun a => kf a p e R s m args below meth c cells slots Z C hc hs hZ H locs ls hH hS hL)
theorem g_tableIn {dflt lo hi : Int} {offs : Array Int} {len : Nat} {x : Int32} {off : Int} {tgt : Nat} (hd : decode (m_c M) pc = .ok (.tableswitch dflt lo hi offs, len)) (h1 : ¬ x.toInt < lo) (h2 : ¬ hi < x.toInt) (ho : offs[(x.toInt - lo).toNat]? = some off) (ht : (pc : Int) + off = (tgt : Int)) (h : Gp w k bc bs M Q (tgt) L (st) u) : Gp w k bc bs M Q pc L (.int x :: st) u := by
  intro p e R s m args below meth c cells slots Z C hc hs hZ H locs ls hH hS hL
  exact lv_tableIn C.1 C.2.1 hd h1 h2 ho ht (h p e R s m args below meth c cells slots Z C hc hs hZ H locs ls hH hS hL)
theorem g_tableOut {dflt lo hi : Int} {offs : Array Int} {len : Nat} {x : Int32} {tgt : Nat} (hd : decode (m_c M) pc = .ok (.tableswitch dflt lo hi offs, len)) (h1 : x.toInt < lo ∨ hi < x.toInt) (ht : (pc : Int) + dflt = (tgt : Int)) (h : Gp w k bc bs M Q (tgt) L (st) u) : Gp w k bc bs M Q pc L (.int x :: st) u := by
  intro p e R s m args below meth c cells slots Z C hc hs hZ H locs ls hH hS hL
  exact lv_tableOut C.1 C.2.1 hd h1 ht (h p e R s m args below meth c cells slots Z C hc hs hZ H locs ls hH hS hL)
theorem g_lookup {dflt : Int} {ps : Array (Int × Int)} {len : Nat} {x : Int32} {off : Int} {tgt : Nat} (hd : decode (m_c M) pc = .ok (.lookupswitch dflt ps, len)) (hp : (ps.toList.zip (ps.toList.drop 1)).all (fun (a, next) => a.1 < next.1) = true) (ho : Op.lookupswitch.offset ps.toList dflt x.toInt = off) (ht : (pc : Int) + off = (tgt : Int)) (h : Gp w k bc bs M Q (tgt) L (st) u) : Gp w k bc bs M Q pc L (.int x :: st) u := by
  intro p e R s m args below meth c cells slots Z C hc hs hZ H locs ls hH hS hL
  exact lv_lookup C.1 C.2.1 hd hp ho ht (h p e R s m args below meth c cells slots Z C hc hs hZ H locs ls hH hS hL)
theorem g_iret {x : Int32} {ty : FieldType} (hr : m_r M = some ty) (hn : narrow ty (.int x) = .int x) (hd : decode (m_c M) pc = .ok (.ireturn, 1)) (h : Q (some (.int x)) u) : Gp w k 0 0 M Q pc L [.int x] u := by
  intro p e R s m args below meth c cells slots Z C hc hs hZ H locs ls hH hS hL
  exact hZ (some (.int x)) u H locs pc ls .ireturn (Or.inr (Or.inl ⟨x, ty, rfl, hr, hn, rfl⟩)) hd h hH hS
theorem g_aret {x : Nat} {ty : FieldType} (hr : m_r M = some ty) (hn : (∃ n, ty = .object n) ∨ ∃ t, ty = .array t) (hd : decode (m_c M) pc = .ok (.areturn, 1)) (h : Q (some (.ref x)) u) : Gp w k 0 0 M Q pc L [.ref x] u := by
  intro p e R s m args below meth c cells slots Z C hc hs hZ H locs ls hH hS hL
  exact hZ (some (.ref x)) u H locs pc ls .areturn (Or.inr (Or.inr ⟨x, ty, rfl, hr, hn, rfl⟩)) hd h hH hS
theorem g_vret (hr : m_r M = none) (hd : decode (m_c M) pc = .ok (.return_, 1)) (h : Q none u) : Gp w k 0 0 M Q pc L [] u := by
  intro p e R s m args below meth c cells slots Z C hc hs hZ H locs ls hH hS hL
  exact hZ none u H locs pc ls .return_ (Or.inl ⟨rfl, hr, rfl⟩) hd h hH hS
theorem Gp.mono {k' : Nat} (hk : k' ≤ k) (h : Gp w k' bc bs M Q pc L st u) : Gp w k bc bs M Q pc L st u := by
  intro p e R s m args below meth c cells slots Z C hc hs hZ H locs ls hH hS hL
  obtain ⟨c1, c2, c3, c4, c5, c6, c7, c8, c9, c10, c11⟩ := C
  exact h p e R s m args below meth c cells slots Z ⟨c1, c2, c3, c4, c5, c6, c7, c8, c9, by omega, by omega⟩ hc hs hZ H locs ls hH hS hL
theorem Gp.imp {Q' : Option Value → Mu → Prop} (hq : ∀ r v, Q' r v → Q r v) (h : Gp w k bc bs M Q' pc L st u) : Gp w k bc bs M Q pc L st u := by
  intro p e R s m args below meth c cells slots Z C hc hs hZ H locs ls hH hS hL
  exact h p e R s m args below meth c cells slots Z C hc hs (fun r u' H' locs' pc' ls' i a1 a2 a3 a4 a5 => hZ r u' H' locs' pc' ls' i a1 a2 (hq r u' a3) a4 a5) H locs ls hH hS hL
theorem Gp.more {bc' bs' : Nat} (h1 : bc' ≤ bc) (h2 : bs' ≤ bs) (h : Gp w k bc' bs' M Q pc L st u) : Gp w k bc bs M Q pc L st u := by
  intro p e R s m args below meth c cells slots Z C hc hs hZ H locs ls hH hS hL
  exact h p e R s m args below meth c cells slots Z C (by omega) (by omega) (fun r u' H' locs' pc' ls' i a1 a2 a3 a4 a5 => W.widen (by omega) (by omega) (hZ r u' H' locs' pc' ls' i a1 a2 a3 a4 a5)) H locs ls hH hS hL
end G1
end
section
/-! rows that read and write the memory -/
def Um (u : Mu) (a k : Nat) (v : Value) : Mu := (u.1, u.2.1, fun b j => if b = a ∧ j = k then v else u.2.2 b j)
theorem ad_lt {w : Wt} {u : Mu} {H : Heap} (h : Hd w u H) {a : Nat} (ha : a < u.1) : ad w a = w_b w + a := by
  unfold ad
  rw [if_pos (by have := h.2.1; omega)]
theorem cv_lt {w : Wt} {u : Mu} {H : Heap} (h : Hd w u H) {a : Nat} (ha : a < u.1) : cv w (.ref a) = .ref (w_b w + a) := by
  show Value.ref (ad w a) = _
  rw [ad_lt h ha]
theorem cok.kept {w : Wt} {t n a : Nat} {f : Nat → Value} {H H' : Heap} (h : cok w t n f a H) (hq : H'[a]? = H[a]?) : cok w t n f a H' :=
  ⟨fun ht => ⟨(h.1 ht).1, (h.1 ht).2.kept hq⟩, fun ht => by rw [hq]; exact h.2 ht⟩
theorem Hd.put {w : Wt} {u : Mu} {H H' : Heap} (h : Hd w u H) {a k : Nat} {v : Value} (hz : H'.size = H.size) (oq : ∀ q : Nat, q ≠ w_b w + a → H'[q]? = H[q]?) (hc : cok w (u.2.1 a).1 (u.2.1 a).2 (fun j => if j = k then v else u.2.2 a j) (w_b w + a) H') : Hd w (Um u a k v) H' := by
  refine ⟨by rw [hz]; exact h.1, h.2.1, fun id hid => ?_⟩
  by_cases e : id = a
  · subst e
    have e2 : (Um u id k v).2.2 id = fun j => if j = k then v else u.2.2 id j := by funext j; simp [Um]
    rw [e2]
    exact hc
  · have e2 : (Um u a k v).2.2 id = u.2.2 id := by funext j; simp [Um, e]
    rw [e2]
    exact (h.2.2 id hid).kept (oq _ (by omega))
/-- the classes' rows -/
def CF (t : Nat) : Prop := ∃ (C : String) (T : u_T) (N : Nat) (ty : Nat → FieldType), vwCl[t]? = some (C, T, N) ∧ (∀ x ∈ u_ws C T N, x ∈ tbG) ∧ (∀ k, k < N → parseFieldDescriptor (T k).2.2.1 = some (ty k)) ∧ (∀ a, a < N → ∀ b, b < N → a ≠ b → (T a).2.1 ≠ (T b).2.1) ∧ ∀ k, k < N → (T k).1 = C
theorem cf0 : CF 0 := ⟨RX0, TX0, 3, tyX0, rfl, by decide +kernel, tyX0_ok, nmX0, by decide +kernel⟩
theorem cf1 : CF 1 := ⟨RX1, TX1, 5, tyX1, rfl, by decide +kernel, tyX1_ok, nmX1, by decide +kernel⟩
theorem cf2 : CF 2 := ⟨RX2, TX2, 12, tyX2, rfl, by decide +kernel, tyX2_ok, nmX2, by decide +kernel⟩
theorem cf3 : CF 3 := ⟨RX3, TX3, 12, tyX3, rfl, by decide +kernel, tyX3_ok, nmX3, by decide +kernel⟩
theorem cf4 : CF 4 := ⟨RX4, TX4, 3, tyX4, rfl, by decide +kernel, tyX4_ok, nmX4, by decide +kernel⟩
theorem cf5 : CF 5 := ⟨RX5, TX5, 4, tyX5, rfl, by decide +kernel, tyX5_ok, nmX5, by decide +kernel⟩
theorem cf6 : CF 6 := ⟨RX6, TX6, 6, tyX6, rfl, by decide +kernel, tyX6_ok, nmX6, by decide +kernel⟩
theorem cf7 : CF 7 := ⟨RX7, TX7, 10, tyX7, rfl, by decide +kernel, tyX7_ok, nmX7, by decide +kernel⟩
theorem cf8 : CF 8 := ⟨RX8, TX8, 33, tyX8, rfl, by decide +kernel, tyX8_ok, nmX8, by decide +kernel⟩
theorem cfs (t : Nat) (h : t < 9) : CF t := by
  match t, h with
  | 0, _ => exact cf0
  | 1, _ => exact cf1
  | 2, _ => exact cf2
  | 3, _ => exact cf3
  | 4, _ => exact cf4
  | 5, _ => exact cf5
  | 6, _ => exact cf6
  | 7, _ => exact cf7
  | 8, _ => exact cf8
  | t + 9, h => exact absurd h (by omega)
/-- a field by its entry in a class's pool: class t's slot kf -/
def FO (own : String) (idx t kf : Nat) : Prop := t < 9 ∧ ∀ C T N, vwCl[t]? = some (C, T, N) → kf < N ∧ Cond.fieldLink own idx C (T kf).2.1 (T kf).2.2.1 ∈ tbG
/-- the same, of a field that isn't final, of type ty -/
def FP (own : String) (idx t kf : Nat) (ty : FieldType) : Prop := FO own idx t kf ∧ ∀ C T N, vwCl[t]? = some (C, T, N) → (T kf).2.2.2 = false ∧ parseFieldDescriptor (T kf).2.2.1 = some ty
/-- the same, of a final one -/
def FF (own : String) (idx t kf : Nat) (ty : FieldType) : Prop := FO own idx t kf ∧ ∀ C T N, vwCl[t]? = some (C, T, N) → (T kf).2.2.2 = true ∧ parseFieldDescriptor (T kf).2.2.1 = some ty ∧ C = own
section G2
variable {w : Wt} {k bc bs : Nat} {M : Mt} {Q : Option Value → Mu → Prop} {pc : Nat} {L : List (Option Value)} {st : List Value} {u : Mu}
theorem g_get {t kf idx a : Nat} (hd : decode (m_c M) pc = .ok (.getfield idx, 3)) (hf : FO (m_y M).cls idx t kf) (ha : a < u.1) (hkd : (u.2.1 a).1 = t) (h : Gp w k bc bs M Q (pc + 3) L (u.2.2 a kf :: st) u) : Gp w k bc bs M Q pc L (.ref a :: st) u := by
  intro p e R s m args below meth c cells slots Z X hc hs hZ H locs ls hH hS hL
  have hco := hH.2.2 a ha
  obtain ⟨ht9, hf⟩ := hf
  obtain ⟨C, T, N, ty, hcl, hin, hty, hnm, hT⟩ := cfs t ht9
  obtain ⟨hk, hl⟩ := hf C T N hcl
  obtain ⟨⟨r, hr, hrn⟩, cell, q1, q2, q3, q4⟩ := hco.1 (by omega)
  rw [hkd] at hr
  cases hcl.symm.trans hr
  obtain ⟨hSl, hfc, kC, hkC, hkind⟩ := X.kw.1.1 t _ hcl
  obtain ⟨cf, kf', fi, f, hi, hsl⟩ := hSl kf hk
  show W p (w_l w) e R s m args below meth c H locs cells slots Z (F0 m pc ls (cv w (.ref a) :: st.map (cv w)))
  rw [cv_lt hH ha]
  refine W.getf X.1 X.2.1 X.own (X.ts _ hl) (by rw [← hT kf hk]; exact hi) (u_facts hfc hkC (u_lays X.ts hin hk) hi).1 q1 (by rw [q3]; exact fun h => by cases h) (v := cv w (u.2.2 a kf)) ?_ rfl rfl hd (h p e R s m args below meth c cells slots Z X hc hs hZ H locs ls hH hS hL)
  rw [hsl]
  have := q4 kf (by rw [← hrn]; exact hk)
  rw [hkd] at this
  exact this
theorem g_put {t kf idx a : Nat} {v : Value} {ty : FieldType} (hd : decode (m_c M) pc = .ok (.putfield idx, 3)) (hf : FP (m_y M).cls idx t kf ty) (ha : a < u.1) (hkd : (u.2.1 a).1 = t) (hn : narrow ty (cv w v) = cv w v) (hfit : fits ty (cv w v) = true) (h : Gp w k bc bs M Q (pc + 3) L st (Um u a kf v)) : Gp w k bc bs M Q pc L (v :: .ref a :: st) u := by
  intro p e R s m args below meth c cells slots Z X hc hs hZ H locs ls hH hS hL
  have hco := hH.2.2 a ha
  obtain ⟨⟨ht9, hf⟩, hf2⟩ := hf
  obtain ⟨C, T, N, ty0, hcl, hin, hty, hnm, hT⟩ := cfs t ht9
  obtain ⟨hk, hl⟩ := hf C T N hcl
  obtain ⟨hfin, hpd⟩ := hf2 C T N hcl
  obtain ⟨⟨r, hr, hrn⟩, cell, q1, q2, q3, q4⟩ := hco.1 (by omega)
  rw [hkd] at hr
  cases hcl.symm.trans hr
  have hap := va_apart (own := C) X.ts hin ty0 hty hnm X.kw.1 hcl
  obtain ⟨hSl, hfc, kC, hkC, hkind⟩ := X.kw.1.1 t _ hcl
  obtain ⟨cf, kf', fi, f, hi, hsl⟩ := hSl kf hk
  have hlay := X.ts _ (hin _ (u_in_lay hk))
  unfold u_lay at hlay
  rw [if_neg (by rw [hfin]; decide)] at hlay
  have hst := (u_facts hfc hkC (u_lays X.ts hin hk) hi).1
  have h6 := u_store hfc hkC hkind hlay hi hpd hn hfit
  have hrn' : N = (u.2.1 a).2 := hrn
  rw [hkd] at q2 q4
  show W p (w_l w) e R s m args below meth c H locs cells slots Z (F0 m pc ls (cv w v :: cv w (.ref a) :: st.map (cv w)))
  rw [cv_lt hH ha]
  refine W.putK X.1 X.2.1 (f := f) ⟨X.own, X.ts _ hl, ⟨_, _, _, by rw [← hT kf hk]; exact hi⟩, hst⟩ (by rw [q2]; exact h6) q1 q3 (by rw [hsl]; exact k2_hasslot (q4 kf (by omega))) rfl rfl hd fun H' e1 e2 e3 => ?_
  rw [hsl] at e1
  refine h p e R s m args below meth c cells slots Z X hc hs hZ H' _ ls (hH.put e2 e3 ⟨fun _ => ⟨⟨_, by rw [hkd]; exact hcl, hrn⟩, ?_⟩, fun h10 => by omega⟩) (hS.put e2 e3 (by show w_b w ≤ _; omega)) hL
  rw [hkd]
  refine t_OB.to (V := updV (fun j => cv w (u.2.2 a j)) kf (cv w v)) ⟨_, e1, q2, q3, t_set q4 (fun x y hx hy => hap x y (by omega) (by omega)) (by omega) (cv w v)⟩ (fun j _ => ?_)
  unfold updV
  by_cases hj : j = kf <;> simp [hj]
theorem g_putF {t kf idx a : Nat} {v : Value} {ty : FieldType} (hd : decode (m_c M) pc = .ok (.putfield idx, 3)) (hf : FF (m_y M).cls idx t kf ty) (hini : (m_y M).name = "<init>") (ha : a < u.1) (hkd : (u.2.1 a).1 = t) (hn : narrow ty (cv w v) = cv w v) (hfit : fits ty (cv w v) = true) (h : Gp w k bc bs M Q (pc + 3) L st (Um u a kf v)) : Gp w k bc bs M Q pc L (v :: .ref a :: st) u := by
  intro p e R s m args below meth c cells slots Z X hc hs hZ H locs ls hH hS hL
  have hco := hH.2.2 a ha
  obtain ⟨⟨ht9, hf⟩, hf2⟩ := hf
  obtain ⟨C, T, N, ty0, hcl, hin, hty, hnm, hT⟩ := cfs t ht9
  obtain ⟨hk, hl⟩ := hf C T N hcl
  obtain ⟨hfin, hpd, hCo⟩ := hf2 C T N hcl
  obtain ⟨⟨r, hr, hrn⟩, cell, q1, q2, q3, q4⟩ := hco.1 (by omega)
  rw [hkd] at hr
  cases hcl.symm.trans hr
  have hap := va_apart (own := C) X.ts hin ty0 hty hnm X.kw.1 hcl
  obtain ⟨hSl, hfc, kC, hkC, hkind⟩ := X.kw.1.1 t _ hcl
  obtain ⟨cf, kf', fi, f, hi, hsl⟩ := hSl kf hk
  have hlay := X.ts _ (hin _ (u_in_lay hk))
  unfold u_lay at hlay
  rw [if_pos hfin] at hlay
  have hst := (u_facts hfc hkC (u_lays X.ts hin hk) hi).1
  have hcf : m.cls = cf := by
    obtain ⟨_, _, c', _, _, _, -, -, hf', -, -, -, hown2, -⟩ := Cond.laysFinal_spec hlay
    have e1 : c' = cf := by have := hi.symm.trans hf'; simp at this; exact this.1.symm
    rw [hT kf hk, hCo] at hown2
    rw [← e1]; exact Option.some.inj (X.own.symm.trans hown2)
  have h6 := u_fits hfc hkC hkind (Or.inr hlay) hi hpd hn hfit
  have hrn' : N = (u.2.1 a).2 := hrn
  rw [hkd] at q2 q4
  show W p (w_l w) e R s m args below meth c H locs cells slots Z (F0 m pc ls (cv w v :: cv w (.ref a) :: st.map (cv w)))
  rw [cv_lt hH ha]
  refine W.putFinK X.1 X.2.1 X.own (X.ts _ hl) (by rw [← hT kf hk]; exact hi) hst hcf (by rw [← hini]; exact X.2.2.2.2.2.2.1) (by rw [q2]; exact h6) q1 q3 (by rw [hsl]; exact k2_hasslot (q4 kf (by omega))) rfl rfl hd fun H' e1 e2 e3 => ?_
  rw [hsl] at e1
  refine h p e R s m args below meth c cells slots Z X hc hs hZ H' _ ls (hH.put e2 e3 ⟨fun _ => ⟨⟨_, by rw [hkd]; exact hcl, hrn⟩, ?_⟩, fun h10 => by omega⟩) (hS.put e2 e3 (by show w_b w ≤ _; omega)) hL
  rw [hkd]
  refine t_OB.to (V := updV (fun j => cv w (u.2.2 a j)) kf (cv w v)) ⟨_, e1, q2, q3, t_set q4 (fun x y hx hy => hap x y (by omega) (by omega)) (by omega) (cv w v)⟩ (fun j _ => ?_)
  unfold updV
  by_cases hj : j = kf <;> simp [hj]
/-- the rows' classes -/
theorem Kw.ar {s : State} (h : Kw w s) (i : Nat) {q : ClassId × FieldType} (hi : (atys w)[i]? = some q) : ArrOfT s q.1 q.2 ∧ va_RA s q.1 q.2 := h.1.2 i q hi
theorem at_row {a t n : Nat} {H : Heap} (hH : Hd w u H) (ha : a < u.1) (hkd : u.2.1 a = (t, n)) (ht : 10 ≤ t) : H[w_b w + a]? = some (arrV (w_c w t) n (fun j => cv w (u.2.2 a j))) := by
  have := (hH.2.2 a ha).2 (by rw [hkd]; exact ht)
  rw [hkd] at this
  exact this
theorem g_iald {a n : Nat} {i : Int32} (hd : decode (m_c M) pc = .ok (.iaload, 1)) (ha : a < u.1) (hkd : u.2.1 a = (10, n)) (hi : vp_in i n) (h : Gp w k bc bs M Q (pc + 1) L (u.2.2 a i.toNatClampNeg :: st) u) : Gp w k bc bs M Q pc L (.int i :: .ref a :: st) u := by
  intro p e R s m args below meth c cells slots Z X hc hs hZ H locs ls hH hS hL
  show W p (w_l w) e R s m args below meth c H locs cells slots Z (F0 m pc ls (.int i :: cv w (.ref a) :: st.map (cv w)))
  rw [cv_lt hH ha]
  have hlt : i.toNatClampNeg < n := Nat.not_le.mp fun q => hi (Or.inr q)
  exact W.iald (v := cv w (u.2.2 a i.toNatClampNeg)) X.1 X.2.1 (at_row hH ha hkd (by omega)) ((X.kw.ar 0 rfl).1 n _) (fun q => by cases q) (by rw [arrV_size]; exact hi) (by rw [arrV_read _ _ hlt]) rfl rfl hd (h p e R s m args below meth c cells slots Z X hc hs hZ H locs ls hH hS hL)
theorem g_cald {a n : Nat} {i : Int32} (hd : decode (m_c M) pc = .ok (.caload, 1)) (ha : a < u.1) (hkd : u.2.1 a = (11, n)) (hi : vp_in i n) (h : Gp w k bc bs M Q (pc + 1) L (u.2.2 a i.toNatClampNeg :: st) u) : Gp w k bc bs M Q pc L (.int i :: .ref a :: st) u := by
  intro p e R s m args below meth c cells slots Z X hc hs hZ H locs ls hH hS hL
  show W p (w_l w) e R s m args below meth c H locs cells slots Z (F0 m pc ls (.int i :: cv w (.ref a) :: st.map (cv w)))
  rw [cv_lt hH ha]
  have hlt : i.toNatClampNeg < n := Nat.not_le.mp fun q => hi (Or.inr q)
  exact W.cald (v := cv w (u.2.2 a i.toNatClampNeg)) X.1 X.2.1 (at_row hH ha hkd (by omega)) ((X.kw.ar 1 rfl).1 n _) (fun q => by cases q) (by rw [arrV_size]; exact hi) (by rw [arrV_read _ _ hlt]) rfl rfl hd (h p e R s m args below meth c cells slots Z X hc hs hZ H locs ls hH hS hL)
theorem g_zald {a n : Nat} {i : Int32} (hd : decode (m_c M) pc = .ok (.baload, 1)) (ha : a < u.1) (hkd : u.2.1 a = (12, n)) (hi : vp_in i n) (h : Gp w k bc bs M Q (pc + 1) L (u.2.2 a i.toNatClampNeg :: st) u) : Gp w k bc bs M Q pc L (.int i :: .ref a :: st) u := by
  intro p e R s m args below meth c cells slots Z X hc hs hZ H locs ls hH hS hL
  show W p (w_l w) e R s m args below meth c H locs cells slots Z (F0 m pc ls (.int i :: cv w (.ref a) :: st.map (cv w)))
  rw [cv_lt hH ha]
  have hlt : i.toNatClampNeg < n := Nat.not_le.mp fun q => hi (Or.inr q)
  exact W.zald (v := cv w (u.2.2 a i.toNatClampNeg)) X.1 X.2.1 (at_row hH ha hkd (by omega)) ((X.kw.ar 2 rfl).1 n _) (fun q => by cases q) (by rw [arrV_size]; exact hi) (by rw [arrV_read _ _ hlt]) rfl rfl hd (h p e R s m args below meth c cells slots Z X hc hs hZ H locs ls hH hS hL)
theorem g_aald {a t n : Nat} {i : Int32} (hd : decode (m_c M) pc = .ok (.aaload, 1)) (ha : a < u.1) (ht : 14 ≤ t ∧ t < 18) (hkd : u.2.1 a = (t, n)) (hi : vp_in i n) (h : Gp w k bc bs M Q (pc + 1) L (u.2.2 a i.toNatClampNeg :: st) u) : Gp w k bc bs M Q pc L (.int i :: .ref a :: st) u := by
  intro p e R s m args below meth c cells slots Z X hc hs hZ H locs ls hH hS hL
  show W p (w_l w) e R s m args below meth c H locs cells slots Z (F0 m pc ls (.int i :: cv w (.ref a) :: st.map (cv w)))
  rw [cv_lt hH ha]
  have hlt : i.toNatClampNeg < n := Nat.not_le.mp fun q => hi (Or.inr q)
  have har : ∃ C, ArrOfT s (w_c w t) (.object C) := by
    rcases (show t = 14 ∨ t = 15 ∨ t = 16 ∨ t = 17 by omega) with rfl | rfl | rfl | rfl
    · exact ⟨_, (X.kw.ar 3 rfl).1⟩
    · exact ⟨_, (X.kw.ar 4 rfl).1⟩
    · exact ⟨_, (X.kw.ar 5 rfl).1⟩
    · exact ⟨_, (X.kw.ar 6 rfl).1⟩
  obtain ⟨C, har⟩ := har
  exact W.aald (v := cv w (u.2.2 a i.toNatClampNeg)) X.1 X.2.1 (at_row hH ha hkd (by omega)) (har n _) rfl (fun q => by cases q) (by rw [arrV_size]; exact hi) (by rw [arrV_read _ _ hlt]) rfl rfl hd (h p e R s m args below meth c cells slots Z X hc hs hZ H locs ls hH hS hL)
theorem Hd.ast {a t n j : Nat} {v : Value} {H H' : Heap} (hH : Hd w u H) (ha : a < u.1) (hkd : u.2.1 a = (t, n)) (ht : 10 ≤ t) (e1 : H'[w_b w + a]? = some ((arrV (w_c w t) n (fun j => cv w (u.2.2 a j))).setSlot j (cv w v))) (e2 : H'.size = H.size) (e3 : ∀ q : Nat, q ≠ w_b w + a → H'[q]? = H[q]?) : Hd w (Um u a j v) H' := by
  refine hH.put e2 e3 ⟨fun h => by rw [hkd] at h; simp at h; omega, fun _ => ?_⟩
  rw [e1, arrV_store, hkd]
  congr 2
  funext q
  unfold updV
  by_cases hq : q = j <;> simp [hq]
theorem g_iast {a n : Nat} {i x : Int32} (hd : decode (m_c M) pc = .ok (.iastore, 1)) (ha : a < u.1) (hkd : u.2.1 a = (10, n)) (hi : vp_in i n) (h : Gp w k bc bs M Q (pc + 1) L st (Um u a i.toNatClampNeg (.int x))) : Gp w k bc bs M Q pc L (.int x :: .int i :: .ref a :: st) u := by
  intro p e R s m args below meth c cells slots Z X hc hs hZ H locs ls hH hS hL
  show W p (w_l w) e R s m args below meth c H locs cells slots Z (F0 m pc ls (.int x :: .int i :: cv w (.ref a) :: st.map (cv w)))
  rw [cv_lt hH ha]
  refine W.iast X.1 X.2.1 (at_row hH ha hkd (by omega)) ((X.kw.ar 0 rfl).1 n _) (fun q => by cases q) (by rw [arrV_size]; exact hi) rfl rfl hd fun H' e1 e2 e3 => ?_
  exact h p e R s m args below meth c cells slots Z X hc hs hZ H' _ ls (hH.ast (v := .int x) ha hkd (by omega) e1 e2 e3) (hS.put e2 e3 (by show w_b w ≤ _; omega)) hL
theorem g_cast {a n : Nat} {i x : Int32} (hd : decode (m_c M) pc = .ok (.castore, 1)) (ha : a < u.1) (hkd : u.2.1 a = (11, n)) (hi : vp_in i n) (hx : narrow .char (.int x) = .int x) (h : Gp w k bc bs M Q (pc + 1) L st (Um u a i.toNatClampNeg (.int x))) : Gp w k bc bs M Q pc L (.int x :: .int i :: .ref a :: st) u := by
  intro p e R s m args below meth c cells slots Z X hc hs hZ H locs ls hH hS hL
  show W p (w_l w) e R s m args below meth c H locs cells slots Z (F0 m pc ls (.int x :: .int i :: cv w (.ref a) :: st.map (cv w)))
  rw [cv_lt hH ha]
  refine W.cast X.1 X.2.1 (at_row hH ha hkd (by omega)) ((X.kw.ar 1 rfl).1 n _) (fun q => by cases q) (by rw [arrV_size]; exact hi) rfl rfl hd fun H' e1 e2 e3 => ?_
  rw [hx] at e1
  exact h p e R s m args below meth c cells slots Z X hc hs hZ H' _ ls (hH.ast (v := .int x) ha hkd (by omega) e1 e2 e3) (hS.put e2 e3 (by show w_b w ≤ _; omega)) hL
theorem g_zast {a n : Nat} {i x : Int32} (hd : decode (m_c M) pc = .ok (.bastore, 1)) (ha : a < u.1) (hkd : u.2.1 a = (12, n)) (hi : vp_in i n) (hx : narrow .boolean (.int x) = .int x) (h : Gp w k bc bs M Q (pc + 1) L st (Um u a i.toNatClampNeg (.int x))) : Gp w k bc bs M Q pc L (.int x :: .int i :: .ref a :: st) u := by
  intro p e R s m args below meth c cells slots Z X hc hs hZ H locs ls hH hS hL
  show W p (w_l w) e R s m args below meth c H locs cells slots Z (F0 m pc ls (.int x :: .int i :: cv w (.ref a) :: st.map (cv w)))
  rw [cv_lt hH ha]
  refine W.zast X.1 X.2.1 (at_row hH ha hkd (by omega)) ((X.kw.ar 2 rfl).1 n _) (fun q => by cases q) (by rw [arrV_size]; exact hi) rfl rfl hd fun H' e1 e2 e3 => ?_
  rw [hx] at e1
  exact h p e R s m args below meth c cells slots Z X hc hs hZ H' _ ls (hH.ast (v := .int x) ha hkd (by omega) e1 e2 e3) (hS.put e2 e3 (by show w_b w ≤ _; omega)) hL
end G2
end
section
/-! calls -/
def eL (n : Nat) (as : List Value) : List (Option Value) := as.map some ++ List.replicate (n - as.length) none
def rmk (k bc bs : Nat) : Room := { frames := k, cells := bc, slots := bs, locals := 64 * k }
def Qcc (w : Wt) (Q : Option Value → Mu → Prop) : State → Outcome → State → Prop := fun st oc t => ∃ (r : Option Value) (u : Mu), oc = .returned (r.map (cv w)) ∧ Q r u ∧ Hd w u t.heap ∧ va_F (Aw w) st t
/-- what the tables say of a method -/
def MW (M : Mt) (np : Nat) : Prop := Cond.code (m_y M) (m_c M) (m_n M) (m_r M) ∈ tbG ∧ Cond.initialized (m_y M).cls ∈ tbG ∧ plainName (m_y M).cls = true ∧ ((m_y M).cls ≠ "java/lang/invoke/MethodHandle" ∧ (m_y M).cls ≠ "java/lang/invoke/VarHandle" ∧ (parseMethodDescriptor (m_y M).desc).map (fun d => d.parameters.length) = some np) ∧ m_n M ≤ 40
theorem pr_none (w : Wt) : ∀ (n i : Nat), pr w i (List.replicate n none) = [] := by
  intro n
  induction n with
  | zero => intro i; rfl
  | succ n ih => intro i; rw [List.replicate_succ, pr]; exact ih (i + 1)
theorem pr_eL (w : Wt) (n : Nat) : ∀ (as : List Value) (i : Nat), (∀ v ∈ as, v.category = 1) → pr w i (as.map some ++ List.replicate n none) = lv_args i (as.map (cv w)) := by
  intro as
  induction as with
  | nil => intro i _; exact pr_none w n i
  | cons v t ih =>
    intro i h
    have h1 : v.category = 1 := h v List.mem_cons_self
    rw [List.map_cons, List.cons_append, pr, ih (i + 1) (fun x hx => h x (List.mem_cons_of_mem _ hx)), List.map_cons, lv_args]
    simp [cv_cat, h1]
theorem lgsl_len (w : Wt) : ∀ (as : List Value), (∀ v ∈ as, v.category = 1) → (lg_sl (as.map (cv w))).length = as.length := by
  intro as
  induction as with
  | nil => intro _; rfl
  | cons v t ih =>
    intro h
    have h1 : v.category = 1 := h v List.mem_cons_self
    have h2 := ih (fun x hx => h x (List.mem_cons_of_mem _ hx))
    unfold lg_sl at h2 ⊢
    rw [List.map_cons, List.flatMap_cons, List.length_append, h2]
    simp [cv_cat, h1]
    omega
theorem eL_cat {n : Nat} {as : List Value} (h : ∀ v ∈ as, v.category = 1) : ∀ (j : Nat) (v : Value), (eL n as)[j]? = some (some v) → v.category = 1 := by
  intro j v hj
  have hm := List.mem_of_getElem? hj
  unfold eL at hm
  rcases List.mem_append.mp hm with h1 | h1
  · obtain ⟨x, hx, e⟩ := List.mem_map.mp h1
    cases e
    exact h v hx
  · have := List.eq_of_mem_replicate h1
    cases this
theorem Kw.blind {w : Wt} {U : State} {g : JFrame} {mk : MethodId} {a : Array Value} (h : Kw w U) : Kw w (U.calling g mk a) := Kw.go (s := U) (U := U.calling g mk a) (locs := []) (State.WarmedH.refl U) va_S.rf h
set_option maxHeartbeats 4000000 in
theorem met_of {w : Wt} {k bc bs np : Nat} {M : Mt} {Q : Option Value → Mu → Prop} {as : List Value} {u : Mu} (hM : MW M np) (hcat : ∀ v ∈ as, v.category = 1) (hlen : as.length ≤ m_n M) (h : Gp w k bc bs M Q 0 (eL (m_n M) as) [] u) :
    Met (w_l w) (m_y M) (Cond.code (m_y M) (m_c M) (m_n M) (m_r M) :: tbG) (rmk k bc bs) (va_Pc (as.map (cv w)) (fun U => Hd w u U.heap ∧ Kw w U)) (fun _ => Qcc w Q) bc bs (Aw w) := by
  refine Met.ofW (cc := m_c M) (maxL := m_n M) (ret := m_r M) hM.2.2.1 rfl ?_
  intro p e s m args below meth c s₁ B hml hv
  obtain ⟨rfl, hH, hK⟩ := hv
  have hts := atoms_spec (ws := Cond.code (m_y M) (m_c M) (m_n M) (m_r M) :: tbG) B.pre
  have hlocks := B.notSynchronized
  have hnm := (name_of_methodNamed B.named B.method).1
  have X : Cx w k M p (rmk k bc bs) s m (as.map (cv w)).toArray meth c := ⟨B.exec, B.bytes, hml, B.returns, hlocks, findClass_of_methodNamed B.named, hnm, fun t ht => hts t (List.mem_cons_of_mem _ ht), hK, Nat.le_refl _, Nat.le_refl _⟩
  have hl := lv_entry (as.map (cv w)) (n := m_n M) (by rw [lgsl_len w as hcat]; exact hlen)
  rw [lg_entry_eq]
  generalize (lg_sl (as.map (cv w)) ++ List.replicate (m_n M - (lg_sl (as.map (cv w))).length) Slot.unset).toArray = ls at hl ⊢
  have hL : Lh w (m_n M) (eL (m_n M) as) ls := ⟨by unfold eL; rw [pr_eL w _ as 0 hcat]; exact hl, eL_cat hcat⟩
  have K := h p e (rmk k bc bs) s m (as.map (cv w)).toArray below meth c 0 0 (MQ below (fun _ => Qcc w Q) (as.map (cv w)).toArray s bc bs (Aw w)) X (by rw [Nat.zero_add]; exact Nat.le_refl _) (by rw [Nat.zero_add]; exact Nat.le_refl _) ?_ s.heap [] ls hH va_S.rf hL
  · exact K
  · intro r u' H' locs' pc' ls' i hR hd hq hHd hS
    rw [Nat.zero_add, Nat.zero_add]
    have hqq : ∀ t : State, t.heap = H' → s.WarmedH t.vm → Qcc w Q s (.returned (r.map (cv w))) t := fun t ht _ => ⟨r, u', rfl, hq, by rw [ht]; exact hHd, hS.F ht⟩
    rcases hR with ⟨rfl, h1, rfl⟩ | ⟨x, ty, rfl, h1, h2, rfl⟩ | ⟨a, ty, rfl, h1, h2, rfl⟩
    · exact W.vret (Qc := fun _ => Qcc w Q) B.exec B.bytes (B.returns.trans h1) hqq hS.2.2 hd
    · exact W.zret (Qc := fun _ => Qcc w Q) B.exec B.bytes (B.returns.trans h1) h2 hqq hS.2.2 hd
    · exact W.aret (Qc := fun _ => Qcc w Q) (v := cv w (.ref a)) B.exec B.bytes (B.returns.trans h1) h2 (Or.inr ⟨_, rfl⟩) hqq hS.2.2 hd
section G3
variable {w : Wt} {k bc bs : Nat} {M : Mt} {Q : Option Value → Mu → Prop} {pc : Nat} {L : List (Option Value)} {st : List Value} {u : Mu}
theorem g_core {bc' bs' bc2 bs2 : Nat} {rest : List Value} {Q' : Option Value → Mu → Prop} (hbc : bc = bc' + bc2) (hbs : bs = bs' + bs2)
    (hrun : ∀ (p : Program) (e : Env) (R : Room) (s : State) (m : MethodId) (args : Array Value) (below : List Frame) (meth : Method) (c : Code) (cells slots : Nat), Cx w k M p R s m args meth c → cells + bc' ≤ R.cells → slots + bs' ≤ R.slots → ∀ (H : Heap) (locs : List Loc) (ls : Array Slot), Hd w u H → va_S (Aw w) s.heap H locs → Lh w (m_n M) L ls →
      va_Run p (w_l w) e R s m args below meth c H locs cells slots bc' bs' (F0 m pc ls (st.map (cv w))) (rest.map (cv w)) (Qcc w Q') (Aw w))
    (hC : ∀ r u', Q' r u' → Gp w k bc2 bs2 M Q (pc + 3) L (r.toList ++ rest) u') : Gp w k bc bs M Q pc L st u := by
  intro p e R s m args below meth c cells slots Z X hc hs hZ H locs ls hH hS hL
  subst hbc
  subst hbs
  intro T hT Y
  obtain ⟨v, st₀, t, T', Lc, h0, X', hLc, e1, e2, hq, gst⟩ := hrun p e R s m args below meth c cells slots X (by omega) (by omega) H locs ls hH hS hL T hT Y
  obtain ⟨r, u', ev, hq', hHd', hF⟩ := hq
  have ev' : v = r.map (cv w) := Outcome.returned.inj ev
  subst ev'
  obtain ⟨hz, hk⟩ := hF
  rw [h0] at hz hk
  have hS' : va_S (Aw w) s.heap T'.heap (locs ++ Lc) := ⟨Nat.le_trans hS.1 (by rw [e1]; exact hz), fun q h1 h2 => by rw [e1, hk q (Nat.lt_of_lt_of_le h1 hS.1) h2]; exact hS.2.1 q h1 h2, fun q hq => by
    rcases List.mem_append.mp hq with h | h
    · exact hS.2.2 q h
    · exact hLc q h⟩
  obtain ⟨t2, a1, b1⟩ := hC r u' hq' p e R s m args below meth c (cells + bc') (slots + bs') Z X (by omega) (by omega) (by
    have ea : cells + bc' + bc2 = cells + (bc' + bc2) := by omega
    have eb : slots + bs' + bs2 = slots + (bs' + bs2) := by omega
    rw [ea, eb]
    exact hZ) T'.heap (locs ++ Lc) ls (by rw [e1]; exact hHd') hS' hL T' rfl X'
  refine ⟨t2, gst t2 ?_, b1⟩
  have ef : (r.toList ++ rest).map (cv w) = (r.map (cv w)).toList ++ rest.map (cv w) := by cases r <;> simp
  rw [ef] at a1
  exact a1
/-- a call's start -/
theorem pre_of {as : List Value} {s : State} {H : Heap} {locs : List Loc} (hK : Kw w s) (hS : va_S (Aw w) s.heap H locs) (hH : Hd w u H) : FrameBlind (va_Pc (as.map (cv w)) (fun U => Hd w u U.heap ∧ Kw w U)) ∧ ∀ U : State, U.heap = H → s.WarmedH U.vm → va_Pc (as.map (cv w)) (fun U => Hd w u U.heap ∧ Kw w U) (as.map (cv w)).toArray U :=
  ⟨fun a U g mk h => ⟨h.1, h.2.1, h.2.2.blind⟩, fun U hU hW => ⟨rfl, by rw [hU]; exact hH, hK.go hW (by rw [hU]; exact hS)⟩⟩
theorem cat_sum {rest : List Value} (h : (rest.map fun v => v.category).sum ≤ 8) : ((rest.map (cv w)).map fun v => v.category).sum ≤ 8 := by
  have : ((rest.map (cv w)).map fun v => v.category) = rest.map fun v => v.category := by simp [cv_cat]
  rw [this]; exact h
def KS (own : String) (idx : Nat) (M' : Mt) (np : Nat) : Prop := MW M' np ∧ Cond.static (m_y M') ∈ tbG ∧ (Cond.methodLink own idx (m_y M') ∈ tbG ∨ ∃ host, Cond.methodLinkNest own idx (m_y M') host ∈ tbG)
set_option maxHeartbeats 4000000 in
theorem g_callS {M' : Mt} {k' bc' bs' bc2 bs2 np idx : Nat} {rest : List Value} {Q' : Option Value → Mu → Prop} (as : List Value) (hd : decode (m_c M) pc = .ok (.invokestatic idx, 3)) (hw : KS (m_y M).cls idx M' np) (hbc : bc = bc' + bc2) (hbs : bs = bs' + bs2) (hn : as.length = np) (hcat : ∀ v ∈ as, v.category = 1) (hnl : np ≤ m_n M') (hst : st = as.reverse ++ rest) (hrest : (rest.map fun v => v.category).sum ≤ 8) (hk : k' + 1 ≤ k)
    (hO : Gp w k' bc' bs' M' Q' 0 (eL (m_n M') as) [] u) (hC : ∀ r u', Q' r u' → Gp w k bc2 bs2 M Q (pc + 3) L (r.toList ++ rest) u') : Gp w k bc bs M Q pc L st u := by
  refine g_core hbc hbs (fun p e R s m args below meth c cells slots X h1 h2 H locs ls hH hS hL => ?_) hC
  obtain ⟨hM, hstat, hlink⟩ := hw
  have hmet := met_of hM hcat (by omega) hO
  have hfr := X.2.2.2.2.2.2.2.2.2
  have hR : (rmk k' bc' bs').frames + 1 ≤ R.frames ∧ 8 + (m_n M' + 11) + (rmk k' bc' bs').locals ≤ R.locals := ⟨by show k' + 1 ≤ _; omega, by show 8 + (m_n M' + 11) + 64 * k' ≤ _; have := hM.2.2.2.2; omega⟩
  have hG : GoodIn tbG (Cond.code (m_y M') (m_c M') (m_n M') (m_r M') :: tbG) := fun x hx => (List.mem_cons.mp hx).elim (fun e => by rw [e]; exact tbG_good _ hM.1) (tbG_good x)
  subst hst
  rcases hlink with hl | ⟨host, hl⟩
  · exact va_runS (As := as.map (cv w)) (rest := rest.map (cv w)) ⟨X.1, X.2.1, X.2.2.1, X.own, X.ts⟩ hmet ⟨callB_of np X.ts hG rfl rfl rfl (X.ts _ hM.2.1) (X.ts _ hl) hM.2.2.2.1 hR, X.ts _ hstat⟩ (pre_of X.kw hS hH) rfl (by simp [hn]) hL.sz (by simp [F0]) (lv_room (cat_sum hrest)) hd ⟨h1, h2⟩
  · exact va_runSN (As := as.map (cv w)) (rest := rest.map (cv w)) ⟨X.1, X.2.1, X.2.2.1, X.own, X.ts⟩ hmet ⟨va_cnB np X.ts hG rfl rfl rfl (X.ts _ hl) (X.ts _ hM.2.1) hM.2.2.2.1 hR, X.ts _ hstat, trivial⟩ (pre_of X.kw hS hH) rfl (by simp [hn]) hL.sz (by simp [F0]) (lv_room (cat_sum hrest)) hd ⟨h1, h2⟩
end G3
end
section
section G4
variable {w : Wt} {k bc bs : Nat} {M : Mt} {Q : Option Value → Mu → Prop} {pc : Nat} {L : List (Option Value)} {st : List Value} {u : Mu}
def KV (own : String) (idx : Nat) (M' : Mt) (t np : Nat) : Prop := MW M' np ∧ Cond.instanceMethod (m_y M') ∈ tbG ∧ Cond.selects (m_y M').cls (m_y M') (m_y M') ∈ tbG ∧ Cond.methodLink own idx (m_y M') ∈ tbG ∧ t < 9 ∧ ∃ T N, vwCl[t]? = some ((m_y M').cls, T, N)
/-- the object that a call goes to -/
theorem gp_recv {a t : Nat} {C : String} {T : u_T} {N : Nat} {s : State} {H : Heap} (hK : Kw w s) (hH : Hd w u H) (ha : a < u.1) (hkd : (u.2.1 a).1 = t) (ht : t < 9) (hC : vwCl[t]? = some (C, T, N)) : ∃ cell : Cell, H[ad w a]? = some cell ∧ cell.vm.isStatics = false ∧ s.vm.findClass C = some cell.cls := by
  obtain ⟨-, cell, q1, q2, q3, -⟩ := (hH.2.2 a ha).1 (by omega)
  rw [ad_lt hH ha]
  refine ⟨cell, q1, by rw [q3]; rfl, ?_⟩
  rw [q2, hkd]
  exact (hK.1.1 t _ hC).2.1
set_option maxHeartbeats 4000000 in
theorem g_callV {M' : Mt} {k' bc' bs' bc2 bs2 np idx a t : Nat} {rest : List Value} {Q' : Option Value → Mu → Prop} (as : List Value) (hd : decode (m_c M) pc = .ok (.invokevirtual idx, 3)) (hw : KV (m_y M).cls idx M' t np) (ha : a < u.1) (hkd : (u.2.1 a).1 = t) (hbc : bc = bc' + bc2) (hbs : bs = bs' + bs2) (hn : as.length = np) (hcat : ∀ v ∈ as, v.category = 1) (hnl : np + 1 ≤ m_n M') (hst : st = as.reverse ++ .ref a :: rest) (hrest : (rest.map fun v => v.category).sum ≤ 8) (hk : k' + 1 ≤ k)
    (hO : Gp w k' bc' bs' M' Q' 0 (eL (m_n M') (.ref a :: as)) [] u) (hC : ∀ r u', Q' r u' → Gp w k bc2 bs2 M Q (pc + 3) L (r.toList ++ rest) u') : Gp w k bc bs M Q pc L st u := by
  refine g_core hbc hbs (fun p e R s m args below meth c cells slots X h1 h2 H locs ls hH hS hL => ?_) hC
  obtain ⟨hM, hins, hsel, hl, ht9, T, N, hcl⟩ := hw
  have hcat' : ∀ v ∈ Value.ref a :: as, v.category = 1 := fun v hv => (List.mem_cons.mp hv).elim (fun e => by rw [e]; rfl) (hcat v)
  have hmet := met_of hM hcat' (by rw [List.length_cons]; omega) hO
  have hfr := X.2.2.2.2.2.2.2.2.2
  have hR : (rmk k' bc' bs').frames + 1 ≤ R.frames ∧ 8 + (m_n M' + 11) + (rmk k' bc' bs').locals ≤ R.locals := ⟨by show k' + 1 ≤ _; omega, by show 8 + (m_n M' + 11) + 64 * k' ≤ _; have := hM.2.2.2.2; omega⟩
  have hG : GoodIn tbG (Cond.code (m_y M') (m_c M') (m_n M') (m_r M') :: tbG) := fun x hx => (List.mem_cons.mp hx).elim (fun e => by rw [e]; exact tbG_good _ hM.1) (tbG_good x)
  subst hst
  have hp := pre_of (as := .ref a :: as) X.kw hS hH
  exact va_runV (b := ad w a) (C := (m_y M').cls) (As := as.map (cv w)) (rest := rest.map (cv w)) ⟨X.1, X.2.1, X.2.2.1, X.own, X.ts⟩ hmet ⟨callB_of np X.ts hG rfl rfl rfl (X.ts _ hM.2.1) (X.ts _ hl) hM.2.2.2.1 hR, X.ts _ hins, X.ts _ hsel⟩ ⟨hp.1, gp_recv X.kw hH ha hkd ht9 hcl, hp.2⟩ rfl (by simp [hn]) hL.sz (by simp [F0, cv]) (lv_room (cat_sum hrest)) hd ⟨h1, h2⟩
def KI (own : String) (idx : Nat) (M' : Mt) (np : Nat) : Prop := MW M' np ∧ Cond.instanceMethod (m_y M') ∈ tbG ∧ (m_y M').name = "<init>" ∧ m_r M' = none ∧ (Cond.methodLink own idx (m_y M') ∈ tbG ∨ ∃ host, Cond.methodLinkNest own idx (m_y M') host ∈ tbG)
set_option maxHeartbeats 4000000 in
theorem g_callI {M' : Mt} {k' bc' bs' bc2 bs2 np idx a : Nat} {rest : List Value} {Q' : Option Value → Mu → Prop} (as : List Value) (hd : decode (m_c M) pc = .ok (.invokespecial idx, 3)) (hw : KI (m_y M).cls idx M' np) (hbc : bc = bc' + bc2) (hbs : bs = bs' + bs2) (hn : as.length = np) (hcat : ∀ v ∈ as, v.category = 1) (hnl : np + 1 ≤ m_n M') (hst : st = as.reverse ++ .ref a :: rest) (hrest : (rest.map fun v => v.category).sum ≤ 8) (hk : k' + 1 ≤ k)
    (hO : Gp w k' bc' bs' M' Q' 0 (eL (m_n M') (.ref a :: as)) [] u) (hC : ∀ r u', Q' r u' → Gp w k bc2 bs2 M Q (pc + 3) L (r.toList ++ rest) u') : Gp w k bc bs M Q pc L st u := by
  refine g_core hbc hbs (fun p e R s m args below meth c cells slots X h1 h2 H locs ls hH hS hL => ?_) hC
  obtain ⟨hM, hins, hini, hret, hlink⟩ := hw
  have hcat' : ∀ v ∈ Value.ref a :: as, v.category = 1 := fun v hv => (List.mem_cons.mp hv).elim (fun e => by rw [e]; rfl) (hcat v)
  have hmet := met_of hM hcat' (by rw [List.length_cons]; omega) hO
  have hfr := X.2.2.2.2.2.2.2.2.2
  have hR : (rmk k' bc' bs').frames + 1 ≤ R.frames ∧ 8 + (m_n M' + 11) + (rmk k' bc' bs').locals ≤ R.locals := ⟨by show k' + 1 ≤ _; omega, by show 8 + (m_n M' + 11) + 64 * k' ≤ _; have := hM.2.2.2.2; omega⟩
  have hG : GoodIn tbG (Cond.code (m_y M') (m_c M') (m_n M') (m_r M') :: tbG) := fun x hx => (List.mem_cons.mp hx).elim (fun e => by rw [e]; exact tbG_good _ hM.1) (tbG_good x)
  subst hst
  rw [hret] at hmet hG
  have hp := pre_of (as := .ref a :: as) X.kw hS hH
  rcases hlink with hl | ⟨host, hl⟩
  · exact va_runI (b := ad w a) (As := as.map (cv w)) (rest := rest.map (cv w)) ⟨X.1, X.2.1, X.2.2.1, X.own, X.ts⟩ hmet ⟨callB_of np X.ts hG rfl rfl rfl (X.ts _ hM.2.1) (X.ts _ hl) hM.2.2.2.1 hR, hini, X.ts _ hins⟩ ⟨hp.1, hp.2⟩ rfl (by simp [hn]) hL.sz (by simp [F0, cv]) (lv_room (cat_sum hrest)) hd ⟨h1, h2⟩
  · exact va_runIN (b := ad w a) (As := as.map (cv w)) (rest := rest.map (cv w)) ⟨X.1, X.2.1, X.2.2.1, X.own, X.ts⟩ hmet ⟨va_cnB np X.ts hG rfl rfl rfl (X.ts _ hl) (X.ts _ hM.2.1) hM.2.2.2.1 hR, hini, X.ts _ hins⟩ ⟨hp.1, hp.2⟩ rfl (by simp [hn]) hL.sz (by simp [F0, cv]) (lv_room (cat_sum hrest)) hd ⟨h1, h2⟩
theorem g_objI {idx a : Nat} (hd : decode (m_c M) pc = .ok (.invokespecial idx, 3)) (hl : Cond.methodLink (m_y M).cls idx Lib.objectInit ∈ tbG) (hrest : (st.map fun v => v.category).sum ≤ 8) (hk : 1 ≤ k) (h : Gp w k bc bs M Q (pc + 3) L st u) : Gp w k bc bs M Q pc L (.ref a :: st) u := by
  intro p e R s m args below meth c cells slots Z X hc hs hZ H locs ls hH hS hL
  have hfr := X.2.2.2.2.2.2.2.2.2
  exact W.objInit X.1 X.2.1 X.own (X.ts _ hl) (X.ts _ (tbG_of 74 (by decide +kernel) (by decide +kernel))) (X.ts _ (tbG_of 75 (by decide +kernel) (by decide +kernel))) rfl (hL.sz.trans X.2.2.1.symm) (a := ad w a) (rest := st.map (cv w)) rfl hd (by omega) (by have := cat_sum (w := w) hrest; have e : (F0 m pc ls (List.map (cv w) (Value.ref a :: st))).monitorRoom = 0 := rfl; rw [e]; omega) (h p e R s m args below meth c cells slots Z X hc hs hZ H locs ls hH hS hL)
/-- new cells -/
def Un (u : Mu) (t n : Nat) (f : Nat → Value) : Mu := (u.1 + 1, fun b => if b = u.1 then (t, n) else u.2.1 b, fun b => if b = u.1 then f else u.2.2 b)
theorem Hd.new {t n : Nat} {f : Nat → Value} {H H' : Heap} (h : Hd w u H) (hu : u.1 < 1000) (hz : H'.size = H.size + 1) (oq : ∀ q : Nat, q < H.size → H'[q]? = H[q]?) (hc : cok w t n f (w_b w + u.1) H') : Hd w (Un u t n f) H' := by
  refine ⟨by rw [hz, h.1]; rfl, by show u.1 + 1 ≤ 1000; omega, fun id hid => ?_⟩
  have hid' : id < u.1 + 1 := hid
  by_cases e : id = u.1
  · subst e
    simpa [Un] using hc
  · have := (h.2.2 id (by omega)).kept (oq (w_b w + id) (by rw [h.1]; omega))
    simpa [Un, e] using this
theorem va_S.new {A : Nat → Prop} {H0 H H1 : Heap} {locs : List Loc} (h : va_S A H0 H locs) (z : H1.size = H.size + 1) (o : ∀ q : Nat, q < H.size → H1[q]? = H[q]?) : va_S A H0 H1 locs :=
  ⟨by have := h.1; omega, fun q h1 h2 => (o q (Nat.lt_of_lt_of_le h1 h.1)).trans (h.2.1 q h1 h2), h.2.2⟩
theorem cv_new {H : Heap} (hH : Hd w u H) (hu : u.1 < 1000) : Value.ref H.size = cv w (.ref u.1) := by
  show _ = Value.ref (ad w u.1)
  unfold ad
  rw [if_pos hu, hH.1]
def dfl (ty : FieldType) : Value := defaultValue ty
set_option maxHeartbeats 4000000 in
theorem g_new {t idx N : Nat} {C : String} {T : u_T} {f : Nat → Value} (hd : decode (m_c M) pc = .ok (.new idx, 3)) (ht : t < 9) (hcl : vwCl[t]? = some (C, T, N)) (h1 : Cond.classLink (m_y M).cls idx C ∈ tbG) (h2 : Cond.instantiable C N ∈ tbG) (h3 : Cond.initialized C ∈ tbG) (hf : ∀ j, j < N → ∃ ty, parseFieldDescriptor (T j).2.2.1 = some ty ∧ defaultValue ty = f j) (hfc : ∀ j, cv w (f j) = f j) (hu : u.1 < 1000) (h : Gp w k bc bs M Q (pc + 3) L (.ref u.1 :: st) (Un u t N f)) : Gp w k (bc + 1) (bs + N) M Q pc L st u := by
  intro p e R s m args below meth c cells slots Z X hc hs hZ H locs ls hH hS hL
  obtain ⟨C', T', N', ty0, hcl', hin, hty, hnm, hT⟩ := cfs t ht
  cases hcl.symm.trans hcl'
  have hKn := X.kw.1.1 t _ hcl
  refine W.newcK X.1 X.2.1 X.own (X.ts _ h1) (X.ts _ h2) (X.ts _ h3) rfl hd (by omega) (by omega) hKn.2.1 rfl fun H1 kC hkC e1 z1 o1 => ?_
  have hb := u_born ty0 X.ts hin hKn hkC e1 hty
  rw [hH.1] at hb
  have hH' : Hd w (Un u t N f) H1 := hH.new hu z1 o1 ⟨fun _ => ⟨⟨_, hcl, rfl⟩, hb.to (fun j hj => by
    obtain ⟨ty, e2, e3⟩ := hf j hj
    have := (hty j hj).symm.trans e2
    cases this
    rw [hfc, ← e3])⟩, fun h => by omega⟩
  have K := h p e R s m args below meth c (cells + 1) (slots + N) Z X (by omega) (by omega) (by
    have ea : cells + 1 + bc = cells + (bc + 1) := by omega
    have eb : slots + N + bs = slots + (bs + N) := by omega
    rw [ea, eb]
    exact hZ) H1 locs ls hH' (hS.new z1 o1) hL
  have ec := cv_new hH hu
  show W p (w_l w) e R s m args below meth c H1 locs (cells + 1) (slots + N) Z (F0 m (pc + 3) ls (Value.ref H.size :: st.map (cv w)))
  rw [ec]
  exact K
end G4
end
section
/-! the layout of the cells when both objects are made: 0 .. 95 the class's, 96 .. 117 the reference's -/
def nth {α : Type} : List α → Nat → α → α
  | [], _, d => d
  | x :: _, 0, _ => x
  | _ :: t, n + 1, d => nth t n d
def kdL : List (List (Nat × Nat)) := [[(7, 10), (6, 6), (10, 14), (10, 14), (10, 14), (10, 1344), (10, 4), (10, 96), (3, 12), (10, 96), (10, 96), (2, 12), (14, 4), (0, 3), (0, 3), (0, 3)], [(0, 3), (15, 10), (1, 5), (1, 5), (1, 5), (1, 5), (1, 5), (1, 5), (1, 5), (1, 5), (1, 5), (1, 5), (10, 3), (2, 12), (14, 4), (0, 3)], [(0, 3), (0, 3), (0, 3), (15, 10), (1, 5), (1, 5), (1, 5), (1, 5), (1, 5), (1, 5), (1, 5), (1, 5), (1, 5), (1, 5), (10, 3), (2, 12)], [(14, 4), (0, 3), (0, 3), (0, 3), (0, 3), (15, 10), (1, 5), (1, 5), (1, 5), (1, 5), (1, 5), (1, 5), (1, 5), (1, 5), (1, 5), (1, 5)], [(10, 3), (16, 4), (4, 3), (10, 24), (4, 3), (10, 24), (4, 3), (10, 24), (4, 3), (10, 24), (17, 5), (5, 4), (1, 5), (4, 3), (10, 24), (5, 4)], [(1, 5), (4, 3), (10, 24), (5, 4), (1, 5), (4, 3), (10, 24), (5, 4), (1, 5), (4, 3), (10, 24), (5, 4), (1, 5), (4, 3), (10, 24), (10, 60)], [(8, 33), (10, 1442), (10, 1442), (10, 1442), (10, 4), (10, 96), (11, 10), (10, 4), (10, 96), (10, 96), (12, 10), (10, 96), (10, 4), (10, 4), (10, 4), (10, 96)], [(10, 5), (10, 5), (10, 5), (10, 120), (10, 24), (10, 60)]]
def kd0 (a : Nat) : Nat × Nat := nth (nth kdL (a / 16) []) (a % 16) (0, 0)
def rfL : List (List (List (Option Nat))) := [[[some 1, some 8, some 11, some 29, some 47, some 65, some 74, some 95, none, none], [some 2, some 3, some 4, some 5, some 6, some 7], [], [], [], [], [], [], [some 9, none, none, none, none, none, none, none, none, none, some 10, none], [], [], [some 12, some 17, some 28, some 1, none, none, none, none, none, none, none, none], [some 13, some 14, some 15, some 16], [], [], []],
  [[], [some 18, some 19, some 20, some 21, some 22, some 23, some 24, some 25, some 26, some 27], [], [], [], [], [], [], [], [], [], [], [], [some 30, some 35, some 46, some 1, none, none, none, none, none, none, none, none], [some 31, some 32, some 33, some 34], []],
  [[], [], [], [some 36, some 37, some 38, some 39, some 40, some 41, some 42, some 43, some 44, some 45], [], [], [], [], [], [], [], [], [], [], [], [some 48, some 53, some 64, some 1, none, none, none, none, none, none, none, none]],
  [[some 49, some 50, some 51, some 52], [], [], [], [], [some 54, some 55, some 56, some 57, some 58, some 59, some 60, some 61, some 62, some 63], [], [], [], [], [], [], [], [], [], []],
  [[], [some 66, some 68, some 70, some 72], [some 67, none, none], [], [some 69, none, none], [], [some 71, none, none], [], [some 73, none, none], [], [some 75, some 79, some 83, some 87, some 91], [none, none, some 76, some 77], [], [some 78, none, none], [], [none, none, some 80, some 81]],
  [[], [some 82, none, none], [], [none, none, some 84, some 85], [], [some 86, none, none], [], [none, none, some 88, some 89], [], [some 90, none, none], [], [none, none, some 92, some 93], [], [some 94, none, none], [], []],
  [[some 97, some 98, some 99, none, some 100, some 101, none, none, none, none, none, none, none, some 102, some 103, some 104, none, none, some 105, none, some 106, some 107, some 108, some 109, some 110, some 111, some 112, some 113, some 114, some 115, some 116, some 117, none], [], [], [], [], [], [], [], [], [], [], [], [], [], [], []],
  [[], [], [], [], [], []]]
def rf0 (a k : Nat) : Option Nat := nth (nth (nth rfL (a / 16) []) (a % 16) []) k none
abbrev Mm : Type := Nat → Nat → Int32
def vl (h : Mm) (a k : Nat) : Value := match rf0 a k with
  | some r => .ref r
  | none => .int (h a k)
def mu (h : Mm) : Mu := (118, kd0, vl h)
def up (h : Mm) (a k : Nat) (x : Int32) : Mm := fun b j => if b = a ∧ j = k then x else h b j
theorem mu_up {h : Mm} {a k : Nat} {x : Int32} (hr : rf0 a k = none) : Um (mu h) a k (.int x) = mu (up h a k x) := by
  unfold Um mu
  refine congrArg (fun f => (118, kd0, f)) ?_
  funext b j
  show (if b = a ∧ j = k then Value.int x else vl h b j) = vl (up h a k x) b j
  by_cases e : b = a ∧ j = k
  · obtain ⟨rfl, rfl⟩ := e
    simp [vl, hr, up]
  · rw [if_neg e]
    unfold vl
    cases hrf : rf0 b j with
    | some r => rfl
    | none => simp [up, e]
def Wp (w : Wt) (k : Nat) (M : Mt) (Q : Option Value → Mm → Prop) (pc : Nat) (L : List (Option Value)) (st : List Value) (h : Mm) : Prop := Gp w k 0 0 M (fun r u => ∃ h', u = mu h' ∧ Q r h') pc L st (mu h)

theorem fo0_13 : FO RX0 13 0 0 := ⟨by decide, fun C T N h => by cases h; exact ⟨by decide, tbG_of 166 (by decide +kernel) (by decide +kernel)⟩⟩
theorem fo0_7 : FO RX0 7 0 1 := ⟨by decide, fun C T N h => by cases h; exact ⟨by decide, tbG_of 169 (by decide +kernel) (by decide +kernel)⟩⟩
theorem fo0_16 : FO RX0 16 0 2 := ⟨by decide, fun C T N h => by cases h; exact ⟨by decide, tbG_of 172 (by decide +kernel) (by decide +kernel)⟩⟩
theorem fo1_9 : FO RX1 9 1 0 := ⟨by decide, fun C T N h => by cases h; exact ⟨by decide, tbG_of 189 (by decide +kernel) (by decide +kernel)⟩⟩
theorem fo1_15 : FO RX1 15 1 1 := ⟨by decide, fun C T N h => by cases h; exact ⟨by decide, tbG_of 192 (by decide +kernel) (by decide +kernel)⟩⟩
theorem fo1_18 : FO RX1 18 1 2 := ⟨by decide, fun C T N h => by cases h; exact ⟨by decide, tbG_of 195 (by decide +kernel) (by decide +kernel)⟩⟩
theorem fo1_21 : FO RX1 21 1 3 := ⟨by decide, fun C T N h => by cases h; exact ⟨by decide, tbG_of 198 (by decide +kernel) (by decide +kernel)⟩⟩
theorem fo1_24 : FO RX1 24 1 4 := ⟨by decide, fun C T N h => by cases h; exact ⟨by decide, tbG_of 201 (by decide +kernel) (by decide +kernel)⟩⟩
theorem fo2_97 : FO RX2 97 3 8 := ⟨by decide, fun C T N h => by cases h; exact ⟨by decide, tbG_of 121 (by decide +kernel) (by decide +kernel)⟩⟩
theorem fo2_127 : FO RX2 127 0 0 := ⟨by decide, fun C T N h => by cases h; exact ⟨by decide, tbG_of 167 (by decide +kernel) (by decide +kernel)⟩⟩
theorem fo2_148 : FO RX2 148 0 1 := ⟨by decide, fun C T N h => by cases h; exact ⟨by decide, tbG_of 171 (by decide +kernel) (by decide +kernel)⟩⟩
theorem fo2_139 : FO RX2 139 0 2 := ⟨by decide, fun C T N h => by cases h; exact ⟨by decide, tbG_of 174 (by decide +kernel) (by decide +kernel)⟩⟩
theorem fo2_67 : FO RX2 67 1 0 := ⟨by decide, fun C T N h => by cases h; exact ⟨by decide, tbG_of 190 (by decide +kernel) (by decide +kernel)⟩⟩
theorem fo2_70 : FO RX2 70 1 1 := ⟨by decide, fun C T N h => by cases h; exact ⟨by decide, tbG_of 193 (by decide +kernel) (by decide +kernel)⟩⟩
theorem fo2_73 : FO RX2 73 1 2 := ⟨by decide, fun C T N h => by cases h; exact ⟨by decide, tbG_of 196 (by decide +kernel) (by decide +kernel)⟩⟩
theorem fo2_76 : FO RX2 76 1 3 := ⟨by decide, fun C T N h => by cases h; exact ⟨by decide, tbG_of 199 (by decide +kernel) (by decide +kernel)⟩⟩
theorem fo2_79 : FO RX2 79 1 4 := ⟨by decide, fun C T N h => by cases h; exact ⟨by decide, tbG_of 202 (by decide +kernel) (by decide +kernel)⟩⟩
theorem fo2_17 : FO RX2 17 2 0 := ⟨by decide, fun C T N h => by cases h; exact ⟨by decide, tbG_of 216 (by decide +kernel) (by decide +kernel)⟩⟩
theorem fo2_24 : FO RX2 24 2 1 := ⟨by decide, fun C T N h => by cases h; exact ⟨by decide, tbG_of 218 (by decide +kernel) (by decide +kernel)⟩⟩
theorem fo2_29 : FO RX2 29 2 2 := ⟨by decide, fun C T N h => by cases h; exact ⟨by decide, tbG_of 220 (by decide +kernel) (by decide +kernel)⟩⟩
theorem fo2_9 : FO RX2 9 2 3 := ⟨by decide, fun C T N h => by cases h; exact ⟨by decide, tbG_of 222 (by decide +kernel) (by decide +kernel)⟩⟩
theorem fo2_45 : FO RX2 45 2 4 := ⟨by decide, fun C T N h => by cases h; exact ⟨by decide, tbG_of 223 (by decide +kernel) (by decide +kernel)⟩⟩
theorem fo2_51 : FO RX2 51 2 5 := ⟨by decide, fun C T N h => by cases h; exact ⟨by decide, tbG_of 225 (by decide +kernel) (by decide +kernel)⟩⟩
theorem fo2_34 : FO RX2 34 2 6 := ⟨by decide, fun C T N h => by cases h; exact ⟨by decide, tbG_of 227 (by decide +kernel) (by decide +kernel)⟩⟩
theorem fo2_54 : FO RX2 54 2 7 := ⟨by decide, fun C T N h => by cases h; exact ⟨by decide, tbG_of 229 (by decide +kernel) (by decide +kernel)⟩⟩
theorem fo2_57 : FO RX2 57 2 8 := ⟨by decide, fun C T N h => by cases h; exact ⟨by decide, tbG_of 231 (by decide +kernel) (by decide +kernel)⟩⟩
theorem fo2_60 : FO RX2 60 2 9 := ⟨by decide, fun C T N h => by cases h; exact ⟨by decide, tbG_of 233 (by decide +kernel) (by decide +kernel)⟩⟩
theorem fo2_63 : FO RX2 63 2 10 := ⟨by decide, fun C T N h => by cases h; exact ⟨by decide, tbG_of 235 (by decide +kernel) (by decide +kernel)⟩⟩
theorem fo2_38 : FO RX2 38 2 11 := ⟨by decide, fun C T N h => by cases h; exact ⟨by decide, tbG_of 237 (by decide +kernel) (by decide +kernel)⟩⟩
theorem fo3_9 : FO RX3 9 3 0 := ⟨by decide, fun C T N h => by cases h; exact ⟨by decide, tbG_of 110 (by decide +kernel) (by decide +kernel)⟩⟩
theorem fo3_18 : FO RX3 18 3 1 := ⟨by decide, fun C T N h => by cases h; exact ⟨by decide, tbG_of 111 (by decide +kernel) (by decide +kernel)⟩⟩
theorem fo3_42 : FO RX3 42 3 2 := ⟨by decide, fun C T N h => by cases h; exact ⟨by decide, tbG_of 113 (by decide +kernel) (by decide +kernel)⟩⟩
theorem fo3_32 : FO RX3 32 3 3 := ⟨by decide, fun C T N h => by cases h; exact ⟨by decide, tbG_of 114 (by decide +kernel) (by decide +kernel)⟩⟩
theorem fo3_45 : FO RX3 45 3 4 := ⟨by decide, fun C T N h => by cases h; exact ⟨by decide, tbG_of 115 (by decide +kernel) (by decide +kernel)⟩⟩
theorem fo3_70 : FO RX3 70 3 5 := ⟨by decide, fun C T N h => by cases h; exact ⟨by decide, tbG_of 116 (by decide +kernel) (by decide +kernel)⟩⟩
theorem fo3_48 : FO RX3 48 3 6 := ⟨by decide, fun C T N h => by cases h; exact ⟨by decide, tbG_of 117 (by decide +kernel) (by decide +kernel)⟩⟩
theorem fo3_51 : FO RX3 51 3 7 := ⟨by decide, fun C T N h => by cases h; exact ⟨by decide, tbG_of 118 (by decide +kernel) (by decide +kernel)⟩⟩
theorem fo3_29 : FO RX3 29 3 8 := ⟨by decide, fun C T N h => by cases h; exact ⟨by decide, tbG_of 120 (by decide +kernel) (by decide +kernel)⟩⟩
theorem fo3_54 : FO RX3 54 3 9 := ⟨by decide, fun C T N h => by cases h; exact ⟨by decide, tbG_of 123 (by decide +kernel) (by decide +kernel)⟩⟩
theorem fo3_15 : FO RX3 15 3 10 := ⟨by decide, fun C T N h => by cases h; exact ⟨by decide, tbG_of 124 (by decide +kernel) (by decide +kernel)⟩⟩
theorem fo3_57 : FO RX3 57 3 11 := ⟨by decide, fun C T N h => by cases h; exact ⟨by decide, tbG_of 127 (by decide +kernel) (by decide +kernel)⟩⟩
theorem fo4_9 : FO RX4 9 4 0 := ⟨by decide, fun C T N h => by cases h; exact ⟨by decide, tbG_of 271 (by decide +kernel) (by decide +kernel)⟩⟩
theorem fo4_15 : FO RX4 15 4 1 := ⟨by decide, fun C T N h => by cases h; exact ⟨by decide, tbG_of 273 (by decide +kernel) (by decide +kernel)⟩⟩
theorem fo4_19 : FO RX4 19 4 2 := ⟨by decide, fun C T N h => by cases h; exact ⟨by decide, tbG_of 275 (by decide +kernel) (by decide +kernel)⟩⟩
theorem fo5_10 : FO RX5 10 5 2 := ⟨by decide, fun C T N h => by cases h; exact ⟨by decide, tbG_of 297 (by decide +kernel) (by decide +kernel)⟩⟩
theorem fo5_19 : FO RX5 19 5 3 := ⟨by decide, fun C T N h => by cases h; exact ⟨by decide, tbG_of 299 (by decide +kernel) (by decide +kernel)⟩⟩
theorem fo6_9 : FO RX6 9 6 0 := ⟨by decide, fun C T N h => by cases h; exact ⟨by decide, tbG_of 82 (by decide +kernel) (by decide +kernel)⟩⟩
theorem fo6_15 : FO RX6 15 6 1 := ⟨by decide, fun C T N h => by cases h; exact ⟨by decide, tbG_of 84 (by decide +kernel) (by decide +kernel)⟩⟩
theorem fo6_18 : FO RX6 18 6 2 := ⟨by decide, fun C T N h => by cases h; exact ⟨by decide, tbG_of 86 (by decide +kernel) (by decide +kernel)⟩⟩
theorem fo6_21 : FO RX6 21 6 3 := ⟨by decide, fun C T N h => by cases h; exact ⟨by decide, tbG_of 87 (by decide +kernel) (by decide +kernel)⟩⟩
theorem fo6_24 : FO RX6 24 6 4 := ⟨by decide, fun C T N h => by cases h; exact ⟨by decide, tbG_of 88 (by decide +kernel) (by decide +kernel)⟩⟩
theorem fo6_27 : FO RX6 27 6 5 := ⟨by decide, fun C T N h => by cases h; exact ⟨by decide, tbG_of 89 (by decide +kernel) (by decide +kernel)⟩⟩
theorem fo6_30 : FO RX6 30 3 8 := ⟨by decide, fun C T N h => by cases h; exact ⟨by decide, tbG_of 119 (by decide +kernel) (by decide +kernel)⟩⟩
theorem fo6_36 : FO RX6 36 3 9 := ⟨by decide, fun C T N h => by cases h; exact ⟨by decide, tbG_of 122 (by decide +kernel) (by decide +kernel)⟩⟩
theorem fo6_42 : FO RX6 42 3 10 := ⟨by decide, fun C T N h => by cases h; exact ⟨by decide, tbG_of 125 (by decide +kernel) (by decide +kernel)⟩⟩
theorem fo6_39 : FO RX6 39 3 11 := ⟨by decide, fun C T N h => by cases h; exact ⟨by decide, tbG_of 126 (by decide +kernel) (by decide +kernel)⟩⟩
theorem fo7_243 : FO RX7 243 6 0 := ⟨by decide, fun C T N h => by cases h; exact ⟨by decide, tbG_of 83 (by decide +kernel) (by decide +kernel)⟩⟩
theorem fo7_246 : FO RX7 246 6 1 := ⟨by decide, fun C T N h => by cases h; exact ⟨by decide, tbG_of 85 (by decide +kernel) (by decide +kernel)⟩⟩
theorem fo7_228 : FO RX7 228 3 1 := ⟨by decide, fun C T N h => by cases h; exact ⟨by decide, tbG_of 112 (by decide +kernel) (by decide +kernel)⟩⟩
theorem fo7_132 : FO RX7 132 0 0 := ⟨by decide, fun C T N h => by cases h; exact ⟨by decide, tbG_of 168 (by decide +kernel) (by decide +kernel)⟩⟩
theorem fo7_135 : FO RX7 135 0 1 := ⟨by decide, fun C T N h => by cases h; exact ⟨by decide, tbG_of 170 (by decide +kernel) (by decide +kernel)⟩⟩
theorem fo7_127 : FO RX7 127 0 2 := ⟨by decide, fun C T N h => by cases h; exact ⟨by decide, tbG_of 173 (by decide +kernel) (by decide +kernel)⟩⟩
theorem fo7_91 : FO RX7 91 1 0 := ⟨by decide, fun C T N h => by cases h; exact ⟨by decide, tbG_of 191 (by decide +kernel) (by decide +kernel)⟩⟩
theorem fo7_96 : FO RX7 96 1 1 := ⟨by decide, fun C T N h => by cases h; exact ⟨by decide, tbG_of 194 (by decide +kernel) (by decide +kernel)⟩⟩
theorem fo7_99 : FO RX7 99 1 2 := ⟨by decide, fun C T N h => by cases h; exact ⟨by decide, tbG_of 197 (by decide +kernel) (by decide +kernel)⟩⟩
theorem fo7_102 : FO RX7 102 1 3 := ⟨by decide, fun C T N h => by cases h; exact ⟨by decide, tbG_of 200 (by decide +kernel) (by decide +kernel)⟩⟩
theorem fo7_105 : FO RX7 105 1 4 := ⟨by decide, fun C T N h => by cases h; exact ⟨by decide, tbG_of 203 (by decide +kernel) (by decide +kernel)⟩⟩
theorem fo7_123 : FO RX7 123 2 0 := ⟨by decide, fun C T N h => by cases h; exact ⟨by decide, tbG_of 217 (by decide +kernel) (by decide +kernel)⟩⟩
theorem fo7_87 : FO RX7 87 2 1 := ⟨by decide, fun C T N h => by cases h; exact ⟨by decide, tbG_of 219 (by decide +kernel) (by decide +kernel)⟩⟩
theorem fo7_249 : FO RX7 249 2 2 := ⟨by decide, fun C T N h => by cases h; exact ⟨by decide, tbG_of 221 (by decide +kernel) (by decide +kernel)⟩⟩
theorem fo7_76 : FO RX7 76 2 4 := ⟨by decide, fun C T N h => by cases h; exact ⟨by decide, tbG_of 224 (by decide +kernel) (by decide +kernel)⟩⟩
theorem fo7_237 : FO RX7 237 2 5 := ⟨by decide, fun C T N h => by cases h; exact ⟨by decide, tbG_of 226 (by decide +kernel) (by decide +kernel)⟩⟩
theorem fo7_147 : FO RX7 147 2 6 := ⟨by decide, fun C T N h => by cases h; exact ⟨by decide, tbG_of 228 (by decide +kernel) (by decide +kernel)⟩⟩
theorem fo7_150 : FO RX7 150 2 7 := ⟨by decide, fun C T N h => by cases h; exact ⟨by decide, tbG_of 230 (by decide +kernel) (by decide +kernel)⟩⟩
theorem fo7_175 : FO RX7 175 2 8 := ⟨by decide, fun C T N h => by cases h; exact ⟨by decide, tbG_of 232 (by decide +kernel) (by decide +kernel)⟩⟩
theorem fo7_178 : FO RX7 178 2 9 := ⟨by decide, fun C T N h => by cases h; exact ⟨by decide, tbG_of 234 (by decide +kernel) (by decide +kernel)⟩⟩
theorem fo7_168 : FO RX7 168 2 10 := ⟨by decide, fun C T N h => by cases h; exact ⟨by decide, tbG_of 236 (by decide +kernel) (by decide +kernel)⟩⟩
theorem fo7_162 : FO RX7 162 2 11 := ⟨by decide, fun C T N h => by cases h; exact ⟨by decide, tbG_of 238 (by decide +kernel) (by decide +kernel)⟩⟩
theorem fo7_264 : FO RX7 264 4 0 := ⟨by decide, fun C T N h => by cases h; exact ⟨by decide, tbG_of 272 (by decide +kernel) (by decide +kernel)⟩⟩
theorem fo7_261 : FO RX7 261 4 1 := ⟨by decide, fun C T N h => by cases h; exact ⟨by decide, tbG_of 274 (by decide +kernel) (by decide +kernel)⟩⟩
theorem fo7_269 : FO RX7 269 4 2 := ⟨by decide, fun C T N h => by cases h; exact ⟨by decide, tbG_of 276 (by decide +kernel) (by decide +kernel)⟩⟩
theorem fo7_289 : FO RX7 289 5 0 := ⟨by decide, fun C T N h => by cases h; exact ⟨by decide, tbG_of 295 (by decide +kernel) (by decide +kernel)⟩⟩
theorem fo7_306 : FO RX7 306 5 1 := ⟨by decide, fun C T N h => by cases h; exact ⟨by decide, tbG_of 296 (by decide +kernel) (by decide +kernel)⟩⟩
theorem fo7_292 : FO RX7 292 5 2 := ⟨by decide, fun C T N h => by cases h; exact ⟨by decide, tbG_of 298 (by decide +kernel) (by decide +kernel)⟩⟩
theorem fo7_299 : FO RX7 299 5 3 := ⟨by decide, fun C T N h => by cases h; exact ⟨by decide, tbG_of 300 (by decide +kernel) (by decide +kernel)⟩⟩
theorem fo7_10 : FO RX7 10 7 0 := ⟨by decide, fun C T N h => by cases h; exact ⟨by decide, tbG_of 310 (by decide +kernel) (by decide +kernel)⟩⟩
theorem fo7_19 : FO RX7 19 7 1 := ⟨by decide, fun C T N h => by cases h; exact ⟨by decide, tbG_of 311 (by decide +kernel) (by decide +kernel)⟩⟩
theorem fo7_28 : FO RX7 28 7 2 := ⟨by decide, fun C T N h => by cases h; exact ⟨by decide, tbG_of 312 (by decide +kernel) (by decide +kernel)⟩⟩
theorem fo7_32 : FO RX7 32 7 3 := ⟨by decide, fun C T N h => by cases h; exact ⟨by decide, tbG_of 313 (by decide +kernel) (by decide +kernel)⟩⟩
theorem fo7_35 : FO RX7 35 7 4 := ⟨by decide, fun C T N h => by cases h; exact ⟨by decide, tbG_of 314 (by decide +kernel) (by decide +kernel)⟩⟩
theorem fo7_40 : FO RX7 40 7 5 := ⟨by decide, fun C T N h => by cases h; exact ⟨by decide, tbG_of 315 (by decide +kernel) (by decide +kernel)⟩⟩
theorem fo7_47 : FO RX7 47 7 6 := ⟨by decide, fun C T N h => by cases h; exact ⟨by decide, tbG_of 316 (by decide +kernel) (by decide +kernel)⟩⟩
theorem fo7_52 : FO RX7 52 7 7 := ⟨by decide, fun C T N h => by cases h; exact ⟨by decide, tbG_of 317 (by decide +kernel) (by decide +kernel)⟩⟩
theorem fo7_56 : FO RX7 56 7 8 := ⟨by decide, fun C T N h => by cases h; exact ⟨by decide, tbG_of 318 (by decide +kernel) (by decide +kernel)⟩⟩
theorem fo7_60 : FO RX7 60 7 9 := ⟨by decide, fun C T N h => by cases h; exact ⟨by decide, tbG_of 319 (by decide +kernel) (by decide +kernel)⟩⟩
theorem fo8_9 : FO RX8 9 8 0 := ⟨by decide, fun C T N h => by cases h; exact ⟨by decide, tbG_of 960 (by decide +kernel) (by decide +kernel)⟩⟩
theorem fo8_13 : FO RX8 13 8 1 := ⟨by decide, fun C T N h => by cases h; exact ⟨by decide, tbG_of 961 (by decide +kernel) (by decide +kernel)⟩⟩
theorem fo8_16 : FO RX8 16 8 2 := ⟨by decide, fun C T N h => by cases h; exact ⟨by decide, tbG_of 962 (by decide +kernel) (by decide +kernel)⟩⟩
theorem fo8_292 : FO RX8 292 8 3 := ⟨by decide, fun C T N h => by cases h; exact ⟨by decide, tbG_of 963 (by decide +kernel) (by decide +kernel)⟩⟩
theorem fo8_19 : FO RX8 19 8 4 := ⟨by decide, fun C T N h => by cases h; exact ⟨by decide, tbG_of 964 (by decide +kernel) (by decide +kernel)⟩⟩
theorem fo8_22 : FO RX8 22 8 5 := ⟨by decide, fun C T N h => by cases h; exact ⟨by decide, tbG_of 965 (by decide +kernel) (by decide +kernel)⟩⟩
theorem fo8_213 : FO RX8 213 8 6 := ⟨by decide, fun C T N h => by cases h; exact ⟨by decide, tbG_of 966 (by decide +kernel) (by decide +kernel)⟩⟩
theorem fo8_217 : FO RX8 217 8 7 := ⟨by decide, fun C T N h => by cases h; exact ⟨by decide, tbG_of 967 (by decide +kernel) (by decide +kernel)⟩⟩
theorem fo8_220 : FO RX8 220 8 8 := ⟨by decide, fun C T N h => by cases h; exact ⟨by decide, tbG_of 968 (by decide +kernel) (by decide +kernel)⟩⟩
theorem fo8_226 : FO RX8 226 8 9 := ⟨by decide, fun C T N h => by cases h; exact ⟨by decide, tbG_of 969 (by decide +kernel) (by decide +kernel)⟩⟩
theorem fo8_232 : FO RX8 232 8 10 := ⟨by decide, fun C T N h => by cases h; exact ⟨by decide, tbG_of 970 (by decide +kernel) (by decide +kernel)⟩⟩
theorem fo8_223 : FO RX8 223 8 11 := ⟨by decide, fun C T N h => by cases h; exact ⟨by decide, tbG_of 971 (by decide +kernel) (by decide +kernel)⟩⟩
theorem fo8_238 : FO RX8 238 8 12 := ⟨by decide, fun C T N h => by cases h; exact ⟨by decide, tbG_of 972 (by decide +kernel) (by decide +kernel)⟩⟩
theorem fo8_25 : FO RX8 25 8 13 := ⟨by decide, fun C T N h => by cases h; exact ⟨by decide, tbG_of 973 (by decide +kernel) (by decide +kernel)⟩⟩
theorem fo8_29 : FO RX8 29 8 14 := ⟨by decide, fun C T N h => by cases h; exact ⟨by decide, tbG_of 974 (by decide +kernel) (by decide +kernel)⟩⟩
theorem fo8_32 : FO RX8 32 8 15 := ⟨by decide, fun C T N h => by cases h; exact ⟨by decide, tbG_of 975 (by decide +kernel) (by decide +kernel)⟩⟩
theorem fo8_250 : FO RX8 250 8 16 := ⟨by decide, fun C T N h => by cases h; exact ⟨by decide, tbG_of 976 (by decide +kernel) (by decide +kernel)⟩⟩
theorem fo8_256 : FO RX8 256 8 17 := ⟨by decide, fun C T N h => by cases h; exact ⟨by decide, tbG_of 977 (by decide +kernel) (by decide +kernel)⟩⟩
theorem fo8_35 : FO RX8 35 8 18 := ⟨by decide, fun C T N h => by cases h; exact ⟨by decide, tbG_of 978 (by decide +kernel) (by decide +kernel)⟩⟩
theorem fo8_244 : FO RX8 244 8 19 := ⟨by decide, fun C T N h => by cases h; exact ⟨by decide, tbG_of 979 (by decide +kernel) (by decide +kernel)⟩⟩
theorem fo8_38 : FO RX8 38 8 20 := ⟨by decide, fun C T N h => by cases h; exact ⟨by decide, tbG_of 980 (by decide +kernel) (by decide +kernel)⟩⟩
theorem fo8_42 : FO RX8 42 8 21 := ⟨by decide, fun C T N h => by cases h; exact ⟨by decide, tbG_of 981 (by decide +kernel) (by decide +kernel)⟩⟩
theorem fo8_45 : FO RX8 45 8 22 := ⟨by decide, fun C T N h => by cases h; exact ⟨by decide, tbG_of 982 (by decide +kernel) (by decide +kernel)⟩⟩
theorem fo8_48 : FO RX8 48 8 23 := ⟨by decide, fun C T N h => by cases h; exact ⟨by decide, tbG_of 983 (by decide +kernel) (by decide +kernel)⟩⟩
theorem fo8_51 : FO RX8 51 8 24 := ⟨by decide, fun C T N h => by cases h; exact ⟨by decide, tbG_of 984 (by decide +kernel) (by decide +kernel)⟩⟩
theorem fo8_54 : FO RX8 54 8 25 := ⟨by decide, fun C T N h => by cases h; exact ⟨by decide, tbG_of 985 (by decide +kernel) (by decide +kernel)⟩⟩
theorem fo8_57 : FO RX8 57 8 26 := ⟨by decide, fun C T N h => by cases h; exact ⟨by decide, tbG_of 986 (by decide +kernel) (by decide +kernel)⟩⟩
theorem fo8_60 : FO RX8 60 8 27 := ⟨by decide, fun C T N h => by cases h; exact ⟨by decide, tbG_of 987 (by decide +kernel) (by decide +kernel)⟩⟩
theorem fo8_63 : FO RX8 63 8 28 := ⟨by decide, fun C T N h => by cases h; exact ⟨by decide, tbG_of 988 (by decide +kernel) (by decide +kernel)⟩⟩
theorem fo8_66 : FO RX8 66 8 29 := ⟨by decide, fun C T N h => by cases h; exact ⟨by decide, tbG_of 989 (by decide +kernel) (by decide +kernel)⟩⟩
theorem fo8_69 : FO RX8 69 8 30 := ⟨by decide, fun C T N h => by cases h; exact ⟨by decide, tbG_of 990 (by decide +kernel) (by decide +kernel)⟩⟩
theorem fo8_72 : FO RX8 72 8 31 := ⟨by decide, fun C T N h => by cases h; exact ⟨by decide, tbG_of 991 (by decide +kernel) (by decide +kernel)⟩⟩
theorem fo8_289 : FO RX8 289 8 32 := ⟨by decide, fun C T N h => by cases h; exact ⟨by decide, tbG_of 992 (by decide +kernel) (by decide +kernel)⟩⟩
def fl0 : List (Nat × Nat × Nat) := [(13, 0, 0), (7, 0, 1), (16, 0, 2)]
theorem fl0_ok : ∀ e ∈ fl0, FO RX0 e.1 e.2.1 e.2.2 := List.forall_mem_cons.mpr ⟨fo0_13, List.forall_mem_cons.mpr ⟨fo0_7, List.forall_mem_cons.mpr ⟨fo0_16, fun _ h => absurd h List.not_mem_nil⟩⟩⟩
def fl1 : List (Nat × Nat × Nat) := [(9, 1, 0), (15, 1, 1), (18, 1, 2), (21, 1, 3), (24, 1, 4)]
theorem fl1_ok : ∀ e ∈ fl1, FO RX1 e.1 e.2.1 e.2.2 := List.forall_mem_cons.mpr ⟨fo1_9, List.forall_mem_cons.mpr ⟨fo1_15, List.forall_mem_cons.mpr ⟨fo1_18, List.forall_mem_cons.mpr ⟨fo1_21, List.forall_mem_cons.mpr ⟨fo1_24, fun _ h => absurd h List.not_mem_nil⟩⟩⟩⟩⟩
def fl2 : List (Nat × Nat × Nat) := [(97, 3, 8), (127, 0, 0), (148, 0, 1), (139, 0, 2), (67, 1, 0), (70, 1, 1), (73, 1, 2), (76, 1, 3), (79, 1, 4), (17, 2, 0), (24, 2, 1), (29, 2, 2), (9, 2, 3), (45, 2, 4), (51, 2, 5), (34, 2, 6), (54, 2, 7), (57, 2, 8), (60, 2, 9), (63, 2, 10), (38, 2, 11)]
theorem fl2_ok : ∀ e ∈ fl2, FO RX2 e.1 e.2.1 e.2.2 := List.forall_mem_cons.mpr ⟨fo2_97, List.forall_mem_cons.mpr ⟨fo2_127, List.forall_mem_cons.mpr ⟨fo2_148, List.forall_mem_cons.mpr ⟨fo2_139, List.forall_mem_cons.mpr ⟨fo2_67, List.forall_mem_cons.mpr ⟨fo2_70, List.forall_mem_cons.mpr ⟨fo2_73, List.forall_mem_cons.mpr ⟨fo2_76, List.forall_mem_cons.mpr ⟨fo2_79, List.forall_mem_cons.mpr ⟨fo2_17, List.forall_mem_cons.mpr ⟨fo2_24, List.forall_mem_cons.mpr ⟨fo2_29, List.forall_mem_cons.mpr ⟨fo2_9, List.forall_mem_cons.mpr ⟨fo2_45, List.forall_mem_cons.mpr ⟨fo2_51, List.forall_mem_cons.mpr ⟨fo2_34, List.forall_mem_cons.mpr ⟨fo2_54, List.forall_mem_cons.mpr ⟨fo2_57, List.forall_mem_cons.mpr ⟨fo2_60, List.forall_mem_cons.mpr ⟨fo2_63, List.forall_mem_cons.mpr ⟨fo2_38, fun _ h => absurd h List.not_mem_nil⟩⟩⟩⟩⟩⟩⟩⟩⟩⟩⟩⟩⟩⟩⟩⟩⟩⟩⟩⟩⟩
def fl3 : List (Nat × Nat × Nat) := [(9, 3, 0), (18, 3, 1), (42, 3, 2), (32, 3, 3), (45, 3, 4), (70, 3, 5), (48, 3, 6), (51, 3, 7), (29, 3, 8), (54, 3, 9), (15, 3, 10), (57, 3, 11)]
theorem fl3_ok : ∀ e ∈ fl3, FO RX3 e.1 e.2.1 e.2.2 := List.forall_mem_cons.mpr ⟨fo3_9, List.forall_mem_cons.mpr ⟨fo3_18, List.forall_mem_cons.mpr ⟨fo3_42, List.forall_mem_cons.mpr ⟨fo3_32, List.forall_mem_cons.mpr ⟨fo3_45, List.forall_mem_cons.mpr ⟨fo3_70, List.forall_mem_cons.mpr ⟨fo3_48, List.forall_mem_cons.mpr ⟨fo3_51, List.forall_mem_cons.mpr ⟨fo3_29, List.forall_mem_cons.mpr ⟨fo3_54, List.forall_mem_cons.mpr ⟨fo3_15, List.forall_mem_cons.mpr ⟨fo3_57, fun _ h => absurd h List.not_mem_nil⟩⟩⟩⟩⟩⟩⟩⟩⟩⟩⟩⟩
def fl4 : List (Nat × Nat × Nat) := [(9, 4, 0), (15, 4, 1), (19, 4, 2)]
theorem fl4_ok : ∀ e ∈ fl4, FO RX4 e.1 e.2.1 e.2.2 := List.forall_mem_cons.mpr ⟨fo4_9, List.forall_mem_cons.mpr ⟨fo4_15, List.forall_mem_cons.mpr ⟨fo4_19, fun _ h => absurd h List.not_mem_nil⟩⟩⟩
def fl5 : List (Nat × Nat × Nat) := [(10, 5, 2), (19, 5, 3)]
theorem fl5_ok : ∀ e ∈ fl5, FO RX5 e.1 e.2.1 e.2.2 := List.forall_mem_cons.mpr ⟨fo5_10, List.forall_mem_cons.mpr ⟨fo5_19, fun _ h => absurd h List.not_mem_nil⟩⟩
def fl6 : List (Nat × Nat × Nat) := [(9, 6, 0), (15, 6, 1), (18, 6, 2), (21, 6, 3), (24, 6, 4), (27, 6, 5), (30, 3, 8), (36, 3, 9), (42, 3, 10), (39, 3, 11)]
theorem fl6_ok : ∀ e ∈ fl6, FO RX6 e.1 e.2.1 e.2.2 := List.forall_mem_cons.mpr ⟨fo6_9, List.forall_mem_cons.mpr ⟨fo6_15, List.forall_mem_cons.mpr ⟨fo6_18, List.forall_mem_cons.mpr ⟨fo6_21, List.forall_mem_cons.mpr ⟨fo6_24, List.forall_mem_cons.mpr ⟨fo6_27, List.forall_mem_cons.mpr ⟨fo6_30, List.forall_mem_cons.mpr ⟨fo6_36, List.forall_mem_cons.mpr ⟨fo6_42, List.forall_mem_cons.mpr ⟨fo6_39, fun _ h => absurd h List.not_mem_nil⟩⟩⟩⟩⟩⟩⟩⟩⟩⟩
def fl7 : List (Nat × Nat × Nat) := [(243, 6, 0), (246, 6, 1), (228, 3, 1), (132, 0, 0), (135, 0, 1), (127, 0, 2), (91, 1, 0), (96, 1, 1), (99, 1, 2), (102, 1, 3), (105, 1, 4), (123, 2, 0), (87, 2, 1), (249, 2, 2), (76, 2, 4), (237, 2, 5), (147, 2, 6), (150, 2, 7), (175, 2, 8), (178, 2, 9), (168, 2, 10), (162, 2, 11), (264, 4, 0), (261, 4, 1), (269, 4, 2), (289, 5, 0), (306, 5, 1), (292, 5, 2), (299, 5, 3), (10, 7, 0), (19, 7, 1), (28, 7, 2), (32, 7, 3), (35, 7, 4), (40, 7, 5), (47, 7, 6), (52, 7, 7), (56, 7, 8), (60, 7, 9)]
theorem fl7_ok : ∀ e ∈ fl7, FO RX7 e.1 e.2.1 e.2.2 := List.forall_mem_cons.mpr ⟨fo7_243, List.forall_mem_cons.mpr ⟨fo7_246, List.forall_mem_cons.mpr ⟨fo7_228, List.forall_mem_cons.mpr ⟨fo7_132, List.forall_mem_cons.mpr ⟨fo7_135, List.forall_mem_cons.mpr ⟨fo7_127, List.forall_mem_cons.mpr ⟨fo7_91, List.forall_mem_cons.mpr ⟨fo7_96, List.forall_mem_cons.mpr ⟨fo7_99, List.forall_mem_cons.mpr ⟨fo7_102, List.forall_mem_cons.mpr ⟨fo7_105, List.forall_mem_cons.mpr ⟨fo7_123, List.forall_mem_cons.mpr ⟨fo7_87, List.forall_mem_cons.mpr ⟨fo7_249, List.forall_mem_cons.mpr ⟨fo7_76, List.forall_mem_cons.mpr ⟨fo7_237, List.forall_mem_cons.mpr ⟨fo7_147, List.forall_mem_cons.mpr ⟨fo7_150, List.forall_mem_cons.mpr ⟨fo7_175, List.forall_mem_cons.mpr ⟨fo7_178, List.forall_mem_cons.mpr ⟨fo7_168, List.forall_mem_cons.mpr ⟨fo7_162, List.forall_mem_cons.mpr ⟨fo7_264, List.forall_mem_cons.mpr ⟨fo7_261, List.forall_mem_cons.mpr ⟨fo7_269, List.forall_mem_cons.mpr ⟨fo7_289, List.forall_mem_cons.mpr ⟨fo7_306, List.forall_mem_cons.mpr ⟨fo7_292, List.forall_mem_cons.mpr ⟨fo7_299, List.forall_mem_cons.mpr ⟨fo7_10, List.forall_mem_cons.mpr ⟨fo7_19, List.forall_mem_cons.mpr ⟨fo7_28, List.forall_mem_cons.mpr ⟨fo7_32, List.forall_mem_cons.mpr ⟨fo7_35, List.forall_mem_cons.mpr ⟨fo7_40, List.forall_mem_cons.mpr ⟨fo7_47, List.forall_mem_cons.mpr ⟨fo7_52, List.forall_mem_cons.mpr ⟨fo7_56, List.forall_mem_cons.mpr ⟨fo7_60, fun _ h => absurd h List.not_mem_nil⟩⟩⟩⟩⟩⟩⟩⟩⟩⟩⟩⟩⟩⟩⟩⟩⟩⟩⟩⟩⟩⟩⟩⟩⟩⟩⟩⟩⟩⟩⟩⟩⟩⟩⟩⟩⟩⟩⟩
def fl8 : List (Nat × Nat × Nat) := [(9, 8, 0), (13, 8, 1), (16, 8, 2), (292, 8, 3), (19, 8, 4), (22, 8, 5), (213, 8, 6), (217, 8, 7), (220, 8, 8), (226, 8, 9), (232, 8, 10), (223, 8, 11), (238, 8, 12), (25, 8, 13), (29, 8, 14), (32, 8, 15), (250, 8, 16), (256, 8, 17), (35, 8, 18), (244, 8, 19), (38, 8, 20), (42, 8, 21), (45, 8, 22), (48, 8, 23), (51, 8, 24), (54, 8, 25), (57, 8, 26), (60, 8, 27), (63, 8, 28), (66, 8, 29), (69, 8, 30), (72, 8, 31), (289, 8, 32)]
theorem fl8_ok : ∀ e ∈ fl8, FO RX8 e.1 e.2.1 e.2.2 := List.forall_mem_cons.mpr ⟨fo8_9, List.forall_mem_cons.mpr ⟨fo8_13, List.forall_mem_cons.mpr ⟨fo8_16, List.forall_mem_cons.mpr ⟨fo8_292, List.forall_mem_cons.mpr ⟨fo8_19, List.forall_mem_cons.mpr ⟨fo8_22, List.forall_mem_cons.mpr ⟨fo8_213, List.forall_mem_cons.mpr ⟨fo8_217, List.forall_mem_cons.mpr ⟨fo8_220, List.forall_mem_cons.mpr ⟨fo8_226, List.forall_mem_cons.mpr ⟨fo8_232, List.forall_mem_cons.mpr ⟨fo8_223, List.forall_mem_cons.mpr ⟨fo8_238, List.forall_mem_cons.mpr ⟨fo8_25, List.forall_mem_cons.mpr ⟨fo8_29, List.forall_mem_cons.mpr ⟨fo8_32, List.forall_mem_cons.mpr ⟨fo8_250, List.forall_mem_cons.mpr ⟨fo8_256, List.forall_mem_cons.mpr ⟨fo8_35, List.forall_mem_cons.mpr ⟨fo8_244, List.forall_mem_cons.mpr ⟨fo8_38, List.forall_mem_cons.mpr ⟨fo8_42, List.forall_mem_cons.mpr ⟨fo8_45, List.forall_mem_cons.mpr ⟨fo8_48, List.forall_mem_cons.mpr ⟨fo8_51, List.forall_mem_cons.mpr ⟨fo8_54, List.forall_mem_cons.mpr ⟨fo8_57, List.forall_mem_cons.mpr ⟨fo8_60, List.forall_mem_cons.mpr ⟨fo8_63, List.forall_mem_cons.mpr ⟨fo8_66, List.forall_mem_cons.mpr ⟨fo8_69, List.forall_mem_cons.mpr ⟨fo8_72, List.forall_mem_cons.mpr ⟨fo8_289, fun _ h => absurd h List.not_mem_nil⟩⟩⟩⟩⟩⟩⟩⟩⟩⟩⟩⟩⟩⟩⟩⟩⟩⟩⟩⟩⟩⟩⟩⟩⟩⟩⟩⟩⟩⟩⟩⟩⟩
def flA : List (List (Nat × Nat × Nat)) := [fl0, fl1, fl2, fl3, fl4, fl5, fl6, fl7, fl8]
def cnm (o : Nat) : String := nth [RX0, RX1, RX2, RX3, RX4, RX5, RX6, RX7, RX8] o RL
def lk : List (Nat × Nat × Nat) → Nat → Option (Nat × Nat)
  | [], _ => none
  | e :: t, i => match Nat.beq e.1 i with
    | true => some e.2
    | false => lk t i
def fl (o idx : Nat) : Option (Nat × Nat) := lk (nth flA o []) idx
theorem lk_mem : ∀ {l : List (Nat × Nat × Nat)} {i : Nat} {q : Nat × Nat}, lk l i = some q → (i, q) ∈ l
  | [], _, _, h => by simp [lk] at h
  | e :: t, i, q, h => by
    unfold lk at h
    cases hb : Nat.beq e.1 i with
    | true =>
      rw [hb] at h
      have h1 : e.1 = i := Nat.eq_of_beq_eq_true hb
      have h2 : e.2 = q := Option.some.inj h
      rw [← h1, ← h2]
      exact List.mem_cons_self
    | false =>
      rw [hb] at h
      exact List.mem_cons_of_mem _ (lk_mem h)
theorem fl_ok {o idx t kf : Nat} (ho : o < 9) (h : fl o idx = some (t, kf)) : FO (cnm o) idx t kf := by
  unfold fl at h
  have hm := lk_mem h
  match o, ho, hm with
  | 0, _, hm => exact fl0_ok _ hm
  | 1, _, hm => exact fl1_ok _ hm
  | 2, _, hm => exact fl2_ok _ hm
  | 3, _, hm => exact fl3_ok _ hm
  | 4, _, hm => exact fl4_ok _ hm
  | 5, _, hm => exact fl5_ok _ hm
  | 6, _, hm => exact fl6_ok _ hm
  | 7, _, hm => exact fl7_ok _ hm
  | 8, _, hm => exact fl8_ok _ hm
  | o + 9, ho, _ => exact absurd ho (by omega)
/-- the fields of ints that aren't final, by classes -/
def fiL : List (List Bool) := [[true, true, true], [true, true, true, true, true], [false, false, false, false, true, true, true, true, true, true, true, true], [false, true, true, true, true, false, true, true, true, true, false, true], [false, true, true], [true, true, false, false], [false, false, false, false, false, false], [false, false, false, false, false, false, false, false, true, false], [false, false, false, false, false, false, true, true, true, true, true, true, true, false, false, false, true, true, false, true, false, false, false, false, false, false, false, false, false, false, false, false, true]]
def fI (t kf : Nat) : Bool := nth (nth fiL t []) kf false
theorem fi0 : ∀ kf, kf < 3 → nth (nth fiL 0 []) kf false = true → (TX0 kf).2.2.2 = false ∧ parseFieldDescriptor (TX0 kf).2.2.1 = some .int := by decide +kernel
theorem fi1 : ∀ kf, kf < 5 → nth (nth fiL 1 []) kf false = true → (TX1 kf).2.2.2 = false ∧ parseFieldDescriptor (TX1 kf).2.2.1 = some .int := by decide +kernel
theorem fi2 : ∀ kf, kf < 12 → nth (nth fiL 2 []) kf false = true → (TX2 kf).2.2.2 = false ∧ parseFieldDescriptor (TX2 kf).2.2.1 = some .int := by decide +kernel
theorem fi3 : ∀ kf, kf < 12 → nth (nth fiL 3 []) kf false = true → (TX3 kf).2.2.2 = false ∧ parseFieldDescriptor (TX3 kf).2.2.1 = some .int := by decide +kernel
theorem fi4 : ∀ kf, kf < 3 → nth (nth fiL 4 []) kf false = true → (TX4 kf).2.2.2 = false ∧ parseFieldDescriptor (TX4 kf).2.2.1 = some .int := by decide +kernel
theorem fi5 : ∀ kf, kf < 4 → nth (nth fiL 5 []) kf false = true → (TX5 kf).2.2.2 = false ∧ parseFieldDescriptor (TX5 kf).2.2.1 = some .int := by decide +kernel
theorem fi6 : ∀ kf, kf < 6 → nth (nth fiL 6 []) kf false = true → (TX6 kf).2.2.2 = false ∧ parseFieldDescriptor (TX6 kf).2.2.1 = some .int := by decide +kernel
theorem fi7 : ∀ kf, kf < 10 → nth (nth fiL 7 []) kf false = true → (TX7 kf).2.2.2 = false ∧ parseFieldDescriptor (TX7 kf).2.2.1 = some .int := by decide +kernel
theorem fi8 : ∀ kf, kf < 33 → nth (nth fiL 8 []) kf false = true → (TX8 kf).2.2.2 = false ∧ parseFieldDescriptor (TX8 kf).2.2.1 = some .int := by decide +kernel
theorem fI_ok {t kf : Nat} (ht : t < 9) (h : fI t kf = true) {C : String} {T : u_T} {N : Nat} (hc : vwCl[t]? = some (C, T, N)) (hk : kf < N) : (T kf).2.2.2 = false ∧ parseFieldDescriptor (T kf).2.2.1 = some .int := by
  match t, ht, hc, h with
  | 0, _, hc, h => cases hc; exact fi0 kf hk h
  | 1, _, hc, h => cases hc; exact fi1 kf hk h
  | 2, _, hc, h => cases hc; exact fi2 kf hk h
  | 3, _, hc, h => cases hc; exact fi3 kf hk h
  | 4, _, hc, h => cases hc; exact fi4 kf hk h
  | 5, _, hc, h => cases hc; exact fi5 kf hk h
  | 6, _, hc, h => cases hc; exact fi6 kf hk h
  | 7, _, hc, h => cases hc; exact fi7 kf hk h
  | 8, _, hc, h => cases hc; exact fi8 kf hk h
  | t + 9, ht, _, _ => exact absurd ht (by omega)
/-- the pools' ints -/
def ko0 : List (Nat × Int) := []
theorem ko0_ok : ∀ e ∈ ko0, Cond.constant RX0 e.1 (Int32.ofInt e.2) ∈ tbG := fun _ h => absurd h List.not_mem_nil
def ko1 : List (Nat × Int) := []
theorem ko1_ok : ∀ e ∈ ko1, Cond.constant RX1 e.1 (Int32.ofInt e.2) ∈ tbG := fun _ h => absurd h List.not_mem_nil
def ko2 : List (Nat × Int) := [(33, -1000000005), (66, -1000000003), (90, 1103515245)]
theorem ko2_ok : ∀ e ∈ ko2, Cond.constant RX2 e.1 (Int32.ofInt e.2) ∈ tbG := List.forall_mem_cons.mpr ⟨tbG_of 215 (by decide +kernel) (by decide +kernel), List.forall_mem_cons.mpr ⟨tbG_of 359 (by decide +kernel) (by decide +kernel), List.forall_mem_cons.mpr ⟨tbG_of 483 (by decide +kernel) (by decide +kernel), fun _ h => absurd h List.not_mem_nil⟩⟩⟩
def ko3 : List (Nat × Int) := []
theorem ko3_ok : ∀ e ∈ ko3, Cond.constant RX3 e.1 (Int32.ofInt e.2) ∈ tbG := fun _ h => absurd h List.not_mem_nil
def ko4 : List (Nat × Int) := [(32, -1000000005)]
theorem ko4_ok : ∀ e ∈ ko4, Cond.constant RX4 e.1 (Int32.ofInt e.2) ∈ tbG := List.forall_mem_cons.mpr ⟨tbG_of 624 (by decide +kernel) (by decide +kernel), fun _ h => absurd h List.not_mem_nil⟩
def ko5 : List (Nat × Int) := []
theorem ko5_ok : ∀ e ∈ ko5, Cond.constant RX5 e.1 (Int32.ofInt e.2) ∈ tbG := fun _ h => absurd h List.not_mem_nil
def ko6 : List (Nat × Int) := []
theorem ko6_ok : ∀ e ∈ ko6, Cond.constant RX6 e.1 (Int32.ofInt e.2) ∈ tbG := fun _ h => absurd h List.not_mem_nil
def ko7 : List (Nat × Int) := [(75, -1000000001), (83, -1000000003), (122, -1000000012), (194, -1000000005), (216, -1000000011), (256, -1000000014), (260, -1000000013), (267, -99999), (268, 99999), (309, -1000000002)]
theorem ko7_ok : ∀ e ∈ ko7, Cond.constant RX7 e.1 (Int32.ofInt e.2) ∈ tbG := List.forall_mem_cons.mpr ⟨tbG_of 354 (by decide +kernel) (by decide +kernel), List.forall_mem_cons.mpr ⟨tbG_of 360 (by decide +kernel) (by decide +kernel), List.forall_mem_cons.mpr ⟨tbG_of 436 (by decide +kernel) (by decide +kernel), List.forall_mem_cons.mpr ⟨tbG_of 557 (by decide +kernel) (by decide +kernel), List.forall_mem_cons.mpr ⟨tbG_of 611 (by decide +kernel) (by decide +kernel), List.forall_mem_cons.mpr ⟨tbG_of 874 (by decide +kernel) (by decide +kernel), List.forall_mem_cons.mpr ⟨tbG_of 880 (by decide +kernel) (by decide +kernel), List.forall_mem_cons.mpr ⟨tbG_of 881 (by decide +kernel) (by decide +kernel), List.forall_mem_cons.mpr ⟨tbG_of 882 (by decide +kernel) (by decide +kernel), List.forall_mem_cons.mpr ⟨tbG_of 928 (by decide +kernel) (by decide +kernel), fun _ h => absurd h List.not_mem_nil⟩⟩⟩⟩⟩⟩⟩⟩⟩⟩
def ko8 : List (Nat × Int) := [(123, -1000000001), (124, -1000000003), (145, -1000000012), (158, 1103515245), (195, -1000000005), (209, -1000000011), (281, -1000000014), (282, -1000000013), (283, -99999), (284, 99999), (288, -1000000002)]
theorem ko8_ok : ∀ e ∈ ko8, Cond.constant RX8 e.1 (Int32.ofInt e.2) ∈ tbG := List.forall_mem_cons.mpr ⟨tbG_of 1072 (by decide +kernel) (by decide +kernel), List.forall_mem_cons.mpr ⟨tbG_of 1073 (by decide +kernel) (by decide +kernel), List.forall_mem_cons.mpr ⟨tbG_of 1154 (by decide +kernel) (by decide +kernel), List.forall_mem_cons.mpr ⟨tbG_of 1203 (by decide +kernel) (by decide +kernel), List.forall_mem_cons.mpr ⟨tbG_of 1263 (by decide +kernel) (by decide +kernel), List.forall_mem_cons.mpr ⟨tbG_of 1303 (by decide +kernel) (by decide +kernel), List.forall_mem_cons.mpr ⟨tbG_of 1382 (by decide +kernel) (by decide +kernel), List.forall_mem_cons.mpr ⟨tbG_of 1387 (by decide +kernel) (by decide +kernel), List.forall_mem_cons.mpr ⟨tbG_of 1388 (by decide +kernel) (by decide +kernel), List.forall_mem_cons.mpr ⟨tbG_of 1389 (by decide +kernel) (by decide +kernel), List.forall_mem_cons.mpr ⟨tbG_of 1421 (by decide +kernel) (by decide +kernel), fun _ h => absurd h List.not_mem_nil⟩⟩⟩⟩⟩⟩⟩⟩⟩⟩⟩
def koA : List (List (Nat × Int)) := [ko0, ko1, ko2, ko3, ko4, ko5, ko6, ko7, ko8]
def lkI : List (Nat × Int) → Nat → Option Int
  | [], _ => none
  | e :: t, i => match Nat.beq e.1 i with
    | true => some e.2
    | false => lkI t i
def kon (o idx : Nat) : Option Int := lkI (nth koA o []) idx
theorem lkI_mem : ∀ {l : List (Nat × Int)} {i : Nat} {q : Int}, lkI l i = some q → (i, q) ∈ l
  | [], _, _, h => by simp [lkI] at h
  | e :: t, i, q, h => by
    unfold lkI at h
    cases hb : Nat.beq e.1 i with
    | true =>
      rw [hb] at h
      have h1 : e.1 = i := Nat.eq_of_beq_eq_true hb
      have h2 : e.2 = q := Option.some.inj h
      rw [← h1, ← h2]
      exact List.mem_cons_self
    | false =>
      rw [hb] at h
      exact List.mem_cons_of_mem _ (lkI_mem h)
theorem kon_ok {o idx : Nat} {v : Int} (ho : o < 9) (h : kon o idx = some v) : Cond.constant (cnm o) idx (Int32.ofInt v) ∈ tbG := by
  unfold kon at h
  have hm := lkI_mem h
  match o, ho, hm with
  | 0, _, hm => exact ko0_ok _ hm
  | 1, _, hm => exact ko1_ok _ hm
  | 2, _, hm => exact ko2_ok _ hm
  | 3, _, hm => exact ko3_ok _ hm
  | 4, _, hm => exact ko4_ok _ hm
  | 5, _, hm => exact ko5_ok _ hm
  | 6, _, hm => exact ko6_ok _ hm
  | 7, _, hm => exact ko7_ok _ hm
  | 8, _, hm => exact ko8_ok _ hm
  | o + 9, ho, _ => exact absurd ho (by omega)
end
section
/-! stretches: what straight instructions do, as a function; rows of the main phase -/
def ln (i : Instr) : Nat := match i with
  | .bipush _ => 2
  | .iload _ => 2
  | .aload _ => 2
  | .istore _ => 2
  | .astore _ => 2
  | .ldc _ => 2
  | .sipush _ => 3
  | .iinc _ _ => 3
  | .getfield _ => 3
  | .putfield _ => 3
  | .goto _ => 3
  | .ldc_w _ => 3
  | _ => 1
def nx (pc : Nat) (i : Instr) : Nat := match i with
  | .goto off => ((pc : Int) + off).toNat
  | .bipush _ => pc + 2
  | .iload _ => pc + 2
  | .aload _ => pc + 2
  | .istore _ => pc + 2
  | .astore _ => pc + 2
  | .ldc _ => pc + 2
  | .sipush _ => pc + 3
  | .iinc _ _ => pc + 3
  | .getfield _ => pc + 3
  | .putfield _ => pc + 3
  | .ldc_w _ => pc + 3
  | _ => pc + 1
def inr (n : Int) (b : Nat) : Bool := match n with
  | .ofNat k => Nat.blt k b
  | .negSucc k => Nat.blt k b
def gL (L : List (Option Value)) (i : Nat) : Option Value := nth L i none
def sL : List (Option Value) → Nat → Value → Option (List (Option Value))
  | [], _, _ => none
  | _ :: t, 0, v => some (some v :: t)
  | x :: t, n + 1, v => match sL t n v with
    | some t' => some (x :: t')
    | none => none
theorem gL_at : ∀ {L : List (Option Value)} {i : Nat} {v : Value}, gL L i = some v → L[i]? = some (some v)
  | [], i, v, h => by simp [gL, nth] at h
  | x :: t, 0, v, h => by simpa [gL, nth] using h
  | x :: t, i + 1, v, h => by
    have h1 : gL t i = some v := by simpa [gL, nth] using h
    simpa using gL_at h1
theorem sL_set : ∀ {L L' : List (Option Value)} {i : Nat} {v : Value}, sL L i v = some L' → L' = L.set i (some v) ∧ i < L.length
  | [], L', i, v, h => by simp [sL] at h
  | x :: t, L', 0, v, h => by
    have h1 : some v :: t = L' := by simpa [sL] using h
    subst h1
    simp
  | x :: t, L', i + 1, v, h => by
    unfold sL at h
    cases hs : sL t i v with
    | none => rw [hs] at h; cases h
    | some t' =>
      rw [hs] at h
      have h1 : x :: t' = L' := by simpa using h
      obtain ⟨h2, h3⟩ := sL_set hs
      subst h1
      subst h2
      exact ⟨rfl, by simp; omega⟩
def stp (o nL pc : Nat) (h : Mm) (i : Instr) (L : List (Option Value)) (st : List Value) : Option (List (Option Value) × List Value × Mm) := match i with
  | .iadd => (match st with
    | .int y :: .int x :: r => some (L, .int (x + y) :: r, h)
    | _ => none)
  | .isub => (match st with
    | .int y :: .int x :: r => some (L, .int (x - y) :: r, h)
    | _ => none)
  | .imul => (match st with
    | .int y :: .int x :: r => some (L, .int (x * y) :: r, h)
    | _ => none)
  | .iand => (match st with
    | .int y :: .int x :: r => some (L, .int (x &&& y) :: r, h)
    | _ => none)
  | .ior => (match st with
    | .int y :: .int x :: r => some (L, .int (x ||| y) :: r, h)
    | _ => none)
  | .ixor => (match st with
    | .int y :: .int x :: r => some (L, .int (x ^^^ y) :: r, h)
    | _ => none)
  | .ishl => (match st with
    | .int y :: .int x :: r => some (L, .int (x <<< (y &&& 31)) :: r, h)
    | _ => none)
  | .ishr => (match st with
    | .int y :: .int x :: r => some (L, .int (x >>> (y &&& 31)) :: r, h)
    | _ => none)
  | .iushr => (match st with
    | .int y :: .int x :: r => some (L, .int ((x.toUInt32 >>> (y.toUInt32 &&& Int32.toUInt32 31)).toInt32) :: r, h)
    | _ => none)
  | .ineg => (match st with
    | .int x :: r => some (L, .int (-x) :: r, h)
    | _ => none)
  | .i2s => (match st with
    | .int x :: r => some (L, .int (x.toInt16.toInt32) :: r, h)
    | _ => none)
  | .i2c => (match st with
    | .int x :: r => some (L, .int ((x.toUInt32 % 65536).toInt32) :: r, h)
    | _ => none)
  | .i2b => (match st with
    | .int x :: r => some (L, .int (x.toInt8.toInt32) :: r, h)
    | _ => none)
  | .iconst n => some (L, .int (Int32.ofInt n) :: st, h)
  | .bipush n => (match inr n 128 with
    | true => some (L, .int (Int32.ofInt n) :: st, h)
    | false => none)
  | .sipush n => (match inr n 32768 with
    | true => some (L, .int (Int32.ofInt n) :: st, h)
    | false => none)
  | .ldc i => (match kon o i with
    | some v => some (L, .int (Int32.ofInt v) :: st, h)
    | none => none)
  | .ldc_w i => (match kon o i with
    | some v => some (L, .int (Int32.ofInt v) :: st, h)
    | none => none)
  | .iload i => (match gL L i with
    | some (.int x) => some (L, .int x :: st, h)
    | _ => none)
  | .iload_n i => (match gL L i.val with
    | some (.int x) => some (L, .int x :: st, h)
    | _ => none)
  | .aload i => (match gL L i with
    | some (.ref x) => some (L, .ref x :: st, h)
    | _ => none)
  | .aload_n i => (match gL L i.val with
    | some (.ref x) => some (L, .ref x :: st, h)
    | _ => none)
  | .istore i => (match st with
    | .int x :: r => (match sL L i (.int x) with
      | some L' => some (L', r, h)
      | none => none)
    | _ => none)
  | .istore_n i => (match st with
    | .int x :: r => (match sL L i.val (.int x) with
      | some L' => some (L', r, h)
      | none => none)
    | _ => none)
  | .astore i => (match st with
    | .ref x :: r => (match sL L i (.ref x) with
      | some L' => some (L', r, h)
      | none => none)
    | _ => none)
  | .astore_n i => (match st with
    | .ref x :: r => (match sL L i.val (.ref x) with
      | some L' => some (L', r, h)
      | none => none)
    | _ => none)
  | .iinc i n => (match gL L i with
    | some (.int x) => (match sL L i (.int (x + Int32.ofInt n)) with
      | some L' => some (L', st, h)
      | none => none)
    | _ => none)
  | .dup => (match st with
    | .int x :: r => some (L, .int x :: .int x :: r, h)
    | .ref x :: r => some (L, .ref x :: .ref x :: r, h)
    | _ => none)
  | .dup2 => (match st with
    | .int x :: .ref y :: r => some (L, .int x :: .ref y :: .int x :: .ref y :: r, h)
    | .int x :: .int y :: r => some (L, .int x :: .int y :: .int x :: .int y :: r, h)
    | _ => none)
  | .pop => (match st with
    | .int x :: r => some (L, r, h)
    | .ref x :: r => some (L, r, h)
    | _ => none)
  | .goto off => (match ((pc : Int) + off) with
    | .ofNat _ => some (L, st, h)
    | .negSucc _ => none)
  | .getfield idx => (match st with
    | .ref a :: r => (match fl o idx with
      | some (t, kf) => (match Nat.beq (kd0 a).1 t && Nat.blt a 118 with
        | true => (match rf0 a kf with
          | some q => some (L, .ref q :: r, h)
          | none => some (L, .int (h a kf) :: r, h))
        | false => none)
      | none => none)
    | _ => none)
  | .putfield idx => (match st with
    | .int x :: .ref a :: r => (match fl o idx with
      | some (t, kf) => (match (Nat.beq (kd0 a).1 t && Nat.blt a 118) && fI t kf with
        | true => (match rf0 a kf with
          | some _ => none
          | none => some (L, r, up h a kf x))
        | false => none)
      | none => none)
    | _ => none)
  | _ => none
def rn (o nL : Nat) : List Instr → Nat → List (Option Value) → List Value → Mm → Option (Nat × List (Option Value) × List Value × Mm)
  | [], pc, L, st, h => some (pc, L, st, h)
  | i :: t, pc, L, st, h => match stp o nL pc h i L st with
    | some (L', st', h') => rn o nL t (nx pc i) L' st' h'
    | none => none
def dcs (cc : ByteArray) : Nat → List Instr → Bool
  | _, [] => true
  | pc, i :: t => decide (decode cc pc = .ok (i, ln i)) && dcs cc (nx pc i) t
theorem inr8 {n : Int} (h : inr n 128 = true) : (Int8.ofInt n).toInt32 = Int32.ofInt n := by
  have : -128 ≤ n ∧ n < 128 := by
    cases n with
    | ofNat k => have := Nat.le_of_ble_eq_true h; constructor <;> simp only [Int.ofNat_eq_natCast] <;> omega
    | negSucc k => have := Nat.le_of_ble_eq_true h; constructor <;> omega
  apply Int32.toInt.inj
  rw [Int8.toInt_toInt32, Int8.toInt_ofInt, Int32.toInt_ofInt]
  rw [Int.bmod_eq_of_le, Int.bmod_eq_of_le] <;> simp only [Int32.size, Int8.size, Int16.size] <;> omega
theorem inr16 {n : Int} (h : inr n 32768 = true) : (Int16.ofInt n).toInt32 = Int32.ofInt n := by
  have : -32768 ≤ n ∧ n < 32768 := by
    cases n with
    | ofNat k => have := Nat.le_of_ble_eq_true h; constructor <;> simp only [Int.ofNat_eq_natCast] <;> omega
    | negSucc k => have := Nat.le_of_ble_eq_true h; constructor <;> omega
  apply Int32.toInt.inj
  rw [Int16.toInt_toInt32, Int16.toInt_ofInt, Int32.toInt_ofInt]
  rw [Int.bmod_eq_of_le, Int.bmod_eq_of_le] <;> simp only [Int32.size, Int8.size, Int16.size] <;> omega
section G5
variable {w : Wt} {k : Nat} {M : Mt} {Q : Option Value → Mm → Prop} {pc : Nat} {L : List (Option Value)} {st : List Value} {h : Mm}
/-- a method of the table: its class's number says its class; its locals' list has its length -/
def Mk (M : Mt) : Prop := m_o M < 9 ∧ (m_y M).cls = cnm (m_o M)
theorem p_getR {idx a t kf r : Nat} (hd : decode (m_c M) pc = .ok (.getfield idx, 3)) (hf : FO (m_y M).cls idx t kf) (ha : a < 118) (hkd : (kd0 a).1 = t) (hr : rf0 a kf = some r) (kk : Wp w k M Q (pc + 3) L (.ref r :: st) h) : Wp w k M Q pc L (.ref a :: st) h := by
  refine g_get hd hf ha hkd ?_
  show Gp w k 0 0 M _ (pc + 3) L (vl h a kf :: st) (mu h)
  rw [show vl h a kf = .ref r by simp [vl, hr]]
  exact kk
theorem p_getI {idx a t kf : Nat} (hd : decode (m_c M) pc = .ok (.getfield idx, 3)) (hf : FO (m_y M).cls idx t kf) (ha : a < 118) (hkd : (kd0 a).1 = t) (hr : rf0 a kf = none) (kk : Wp w k M Q (pc + 3) L (.int (h a kf) :: st) h) : Wp w k M Q pc L (.ref a :: st) h := by
  refine g_get hd hf ha hkd ?_
  show Gp w k 0 0 M _ (pc + 3) L (vl h a kf :: st) (mu h)
  rw [show vl h a kf = .int (h a kf) by simp [vl, hr]]
  exact kk
theorem p_put {idx a t kf : Nat} {x : Int32} (hd : decode (m_c M) pc = .ok (.putfield idx, 3)) (hf : FO (m_y M).cls idx t kf) (ha : a < 118) (hkd : (kd0 a).1 = t) (hI : fI t kf = true) (hr : rf0 a kf = none) (kk : Wp w k M Q (pc + 3) L st (up h a kf x)) : Wp w k M Q pc L (.int x :: .ref a :: st) h := by
  refine g_put (ty := .int) hd ⟨hf, fun C T N hc => fI_ok hf.1 hI hc (hf.2 C T N hc).1⟩ ha hkd rfl rfl ?_
  rw [mu_up hr]
  exact kk
theorem stp_ok {i : Instr} {L' : List (Option Value)} {st' : List Value} {h' : Mm} (hM : Mk M) (hLn : L.length ≤ m_n M) (hd : decode (m_c M) pc = .ok (i, ln i)) (hs : stp (m_o M) (m_n M) pc h i L st = some (L', st', h')) (kk : Wp w k M Q (nx pc i) L' st' h') : Wp w k M Q pc L st h := by
  cases i with
  | iadd =>
    simp only [stp] at hs
    split at hs
    · cases hs
      exact g_iadd hd kk
    · cases hs
  | isub =>
    simp only [stp] at hs
    split at hs
    · cases hs
      exact g_isub hd kk
    · cases hs
  | imul =>
    simp only [stp] at hs
    split at hs
    · cases hs
      exact g_imul hd kk
    · cases hs
  | iand =>
    simp only [stp] at hs
    split at hs
    · cases hs
      exact g_iand hd kk
    · cases hs
  | ior =>
    simp only [stp] at hs
    split at hs
    · cases hs
      exact g_ior hd kk
    · cases hs
  | ixor =>
    simp only [stp] at hs
    split at hs
    · cases hs
      exact g_ixor hd kk
    · cases hs
  | ishl =>
    simp only [stp] at hs
    split at hs
    · cases hs
      exact g_ishl hd kk
    · cases hs
  | ishr =>
    simp only [stp] at hs
    split at hs
    · cases hs
      exact g_ishr hd kk
    · cases hs
  | iushr =>
    simp only [stp] at hs
    split at hs
    · cases hs
      exact g_iushr hd kk
    · cases hs
  | ineg =>
    simp only [stp] at hs
    split at hs
    · cases hs
      exact g_ineg hd kk
    · cases hs
  | i2s =>
    simp only [stp] at hs
    split at hs
    · cases hs
      exact g_i2s hd kk
    · cases hs
  | i2c =>
    simp only [stp] at hs
    split at hs
    · cases hs
      exact g_i2c hd kk
    · cases hs
  | i2b =>
    simp only [stp] at hs
    split at hs
    · cases hs
      exact g_i2b hd kk
    · cases hs
  | iconst n =>
    simp only [stp] at hs
    cases hs
    exact g_iconst hd kk
  | bipush n =>
    simp only [stp] at hs
    split at hs
    · rename_i hb
      cases hs
      exact g_bipush hd (inr8 hb) kk
    · cases hs
  | sipush n =>
    simp only [stp] at hs
    split at hs
    · rename_i hb
      cases hs
      exact g_sipush hd (inr16 hb) kk
    · cases hs
  | ldc j =>
    simp only [stp] at hs
    split at hs
    · rename_i v hb
      cases hs
      exact g_ldc hd (by rw [hM.2]; exact kon_ok hM.1 hb) kk
    · cases hs
  | ldc_w j =>
    simp only [stp] at hs
    split at hs
    · rename_i v hb
      cases hs
      exact g_ldcw hd (by rw [hM.2]; exact kon_ok hM.1 hb) kk
    · cases hs
  | iload j =>
    simp only [stp] at hs
    split at hs
    · rename_i x hb
      cases hs
      exact g_iload hd (gL_at hb) kk
    · cases hs
  | iload_n j =>
    simp only [stp] at hs
    split at hs
    · rename_i x hb
      cases hs
      exact g_iload_n hd (gL_at hb) kk
    · cases hs
  | aload j =>
    simp only [stp] at hs
    split at hs
    · rename_i x hb
      cases hs
      exact g_aload hd (gL_at hb) kk
    · cases hs
  | aload_n j =>
    simp only [stp] at hs
    split at hs
    · rename_i x hb
      cases hs
      exact g_aload_n hd (gL_at hb) kk
    · cases hs
  | istore j =>
    simp only [stp] at hs
    split at hs
    · split at hs
      · rename_i L2 hb
        cases hs
        obtain ⟨e1, e2⟩ := sL_set hb
        rw [e1] at kk
        exact g_istore hd (by omega) kk
      · cases hs
    · cases hs
  | istore_n j =>
    simp only [stp] at hs
    split at hs
    · split at hs
      · rename_i L2 hb
        cases hs
        obtain ⟨e1, e2⟩ := sL_set hb
        rw [e1] at kk
        exact g_istore_n hd (by omega) kk
      · cases hs
    · cases hs
  | astore j =>
    simp only [stp] at hs
    split at hs
    · split at hs
      · rename_i L2 hb
        cases hs
        obtain ⟨e1, e2⟩ := sL_set hb
        rw [e1] at kk
        exact g_astore hd (by omega) kk
      · cases hs
    · cases hs
  | astore_n j =>
    simp only [stp] at hs
    split at hs
    · split at hs
      · rename_i L2 hb
        cases hs
        obtain ⟨e1, e2⟩ := sL_set hb
        rw [e1] at kk
        exact g_astore_n hd (by omega) kk
      · cases hs
    · cases hs
  | iinc j n =>
    simp only [stp] at hs
    split at hs
    · rename_i x hg
      split at hs
      · rename_i L2 hb
        cases hs
        obtain ⟨e1, e2⟩ := sL_set hb
        rw [e1] at kk
        exact g_iinc hd (by omega) (gL_at hg) kk
      · cases hs
    · cases hs
  | dup =>
    simp only [stp] at hs
    split at hs
    · cases hs
      exact g_dup hd rfl kk
    · cases hs
      exact g_dup hd rfl kk
    · cases hs
  | dup2 =>
    simp only [stp] at hs
    split at hs
    · cases hs
      exact g_dup2 hd rfl rfl kk
    · cases hs
      exact g_dup2 hd rfl rfl kk
    · cases hs
  | pop =>
    simp only [stp] at hs
    split at hs
    · cases hs
      exact g_pop hd rfl kk
    · cases hs
      exact g_pop hd rfl kk
    · cases hs
  | goto off =>
    simp only [stp] at hs
    split at hs
    · rename_i n hb
      cases hs
      refine g_goto (tgt := nx pc (.goto off)) hd ?_ kk
      show (pc : Int) + off = ((((pc : Int) + off).toNat : Nat) : Int)
      rw [hb]
      rfl
    · cases hs
  | getfield idx =>
    simp only [stp] at hs
    split at hs
    · split at hs
      · rename_i t kf hb
        split at hs
        · rename_i hc
          rw [Bool.and_eq_true] at hc
          have ha := Nat.le_of_ble_eq_true hc.2
          have ht := Nat.eq_of_beq_eq_true hc.1
          have hf : FO (m_y M).cls idx t kf := by rw [hM.2]; exact fl_ok hM.1 hb
          split at hs
          · rename_i q hr
            cases hs
            exact p_getR hd hf ha ht hr kk
          · rename_i hr
            cases hs
            exact p_getI hd hf ha ht hr kk
        · cases hs
      · cases hs
    · cases hs
  | putfield idx =>
    simp only [stp] at hs
    split at hs
    · split at hs
      · rename_i t kf hb
        split at hs
        · rename_i hc
          rw [Bool.and_eq_true, Bool.and_eq_true] at hc
          have ha := Nat.le_of_ble_eq_true hc.1.2
          have ht := Nat.eq_of_beq_eq_true hc.1.1
          have hf : FO (m_y M).cls idx t kf := by rw [hM.2]; exact fl_ok hM.1 hb
          split at hs
          · cases hs
          · rename_i hr
            cases hs
            exact p_put hd hf ha ht hc.2 hr kk
        · cases hs
      · cases hs
    · cases hs
  | _ => cases hs
end G5
end
section
/-! rows of the main phase -/
theorem rfk : ∀ a, a < 118 → (10 ≤ (kd0 a).1 ∧ (kd0 a).1 < 13) → nth (nth rfL (a / 16) []) (a % 16) [] = [] := by decide +kernel
theorem rf_row {a : Nat} (ha : a < 118) (h : 10 ≤ (kd0 a).1 ∧ (kd0 a).1 < 13) (j : Nat) : rf0 a j = none := by
  unfold rf0
  rw [rfk a ha h]
  rfl
theorem kd_small : ∀ a, a < 118 → (kd0 a).2 < 2 ^ 31 := by decide +kernel
section G6
variable {w : Wt} {k : Nat} {M : Mt} {Q : Option Value → Mm → Prop} {pc : Nat} {L : List (Option Value)} {st : List Value} {h : Mm}
theorem rn_ok (hM : Mk M) : ∀ (is : List Instr) {pc pc' : Nat} {L L' : List (Option Value)} {st st' : List Value} {h h' : Mm}, L.length ≤ m_n M → dcs (m_c M) pc is = true → rn (m_o M) (m_n M) is pc L st h = some (pc', L', st', h') → Wp w k M Q pc' L' st' h' → Wp w k M Q pc L st h := by
  intro is
  induction is with
  | nil => intro pc pc' L L' st st' h h' _ _ hr kk; simp only [rn] at hr; cases hr; exact kk
  | cons i t ih =>
    intro pc pc' L L' st st' h h' hL hd hr kk
    simp only [dcs, Bool.and_eq_true, decide_eq_true_eq] at hd
    simp only [rn] at hr
    split at hr
    · rename_i L2 st2 h2 hs
      refine stp_ok hM hL hd.1 hs (ih ?_ hd.2 hr kk)
      have key : L2.length = L.length := by
        cases i <;> simp only [stp] at hs <;> first
          | (cases hs; done)
          | (cases hs; rfl; done)
          | (split at hs <;> first | (cases hs; rfl; done) | (cases hs; done) | (split at hs <;> first | (cases hs; rfl; done) | (cases hs; done) | (rename_i hb; cases hs; rw [(sL_set hb).1, List.length_set]; done) | (split at hs <;> first | (cases hs; rfl; done) | (cases hs; done) | (split at hs <;> first | (cases hs; rfl; done) | (cases hs; done)))))
      omega
    · cases hr
theorem p_run (is : List Instr) {pc' : Nat} {L' : List (Option Value)} {st' : List Value} {h' : Mm} (hM : Mk M) (hd : dcs (m_c M) pc is = true) (hl : Nat.ble L.length (m_n M) = true) (hr : rn (m_o M) (m_n M) is pc L st h = some (pc', L', st', h')) (kk : Wp w k M Q pc' L' st' h') : Wp w k M Q pc L st h := rn_ok hM is (Nat.le_of_ble_eq_true hl) hd hr kk
theorem p_idiv {x y : Int32} (hd : decode (m_c M) pc = .ok (.idiv, 1)) (hy : ¬ y = 0) (kk : Wp w k M Q (pc + 1) L (.int (x / y) :: st) h) : Wp w k M Q pc L (.int y :: .int x :: st) h := g_idiv hd hy kk
def jrem (x y : Int32) : Int32 := x - x / y * y
theorem p_irem {x y : Int32} (hd : decode (m_c M) pc = .ok (.irem, 1)) (hy : ¬ y = 0) (kk : Wp w k M Q (pc + 1) L (.int (jrem x y) :: st) h) : Wp w k M Q pc L (.int y :: .int x :: st) h := g_irem hd hy kk
theorem p_if_eq {x : Int32} {off : Int} (tgt : Nat) (hd : decode (m_c M) pc = .ok (.ifCond .eq off, 3)) (ht : (pc : Int) + off = (tgt : Int)) (kt : x = 0 → Wp w k M Q tgt L st h) (kf : ¬ x = 0 → Wp w k M Q (pc + 3) L st h) : Wp w k M Q pc L (.int x :: st) h := g_if_eq hd ht kt kf
theorem p_icmp_eq {x y : Int32} {off : Int} (tgt : Nat) (hd : decode (m_c M) pc = .ok (.if_icmp .eq off, 3)) (ht : (pc : Int) + off = (tgt : Int)) (kt : x = y → Wp w k M Q tgt L st h) (kf : ¬ x = y → Wp w k M Q (pc + 3) L st h) : Wp w k M Q pc L (.int y :: .int x :: st) h := g_icmp_eq hd ht kt kf
theorem p_if_ne {x : Int32} {off : Int} (tgt : Nat) (hd : decode (m_c M) pc = .ok (.ifCond .ne off, 3)) (ht : (pc : Int) + off = (tgt : Int)) (kt : ¬ x = 0 → Wp w k M Q tgt L st h) (kf : x = 0 → Wp w k M Q (pc + 3) L st h) : Wp w k M Q pc L (.int x :: st) h := g_if_ne hd ht kt kf
theorem p_icmp_ne {x y : Int32} {off : Int} (tgt : Nat) (hd : decode (m_c M) pc = .ok (.if_icmp .ne off, 3)) (ht : (pc : Int) + off = (tgt : Int)) (kt : ¬ x = y → Wp w k M Q tgt L st h) (kf : x = y → Wp w k M Q (pc + 3) L st h) : Wp w k M Q pc L (.int y :: .int x :: st) h := g_icmp_ne hd ht kt kf
theorem p_if_lt {x : Int32} {off : Int} (tgt : Nat) (hd : decode (m_c M) pc = .ok (.ifCond .lt off, 3)) (ht : (pc : Int) + off = (tgt : Int)) (kt : x < 0 → Wp w k M Q tgt L st h) (kf : ¬ x < 0 → Wp w k M Q (pc + 3) L st h) : Wp w k M Q pc L (.int x :: st) h := g_if_lt hd ht kt kf
theorem p_icmp_lt {x y : Int32} {off : Int} (tgt : Nat) (hd : decode (m_c M) pc = .ok (.if_icmp .lt off, 3)) (ht : (pc : Int) + off = (tgt : Int)) (kt : x < y → Wp w k M Q tgt L st h) (kf : ¬ x < y → Wp w k M Q (pc + 3) L st h) : Wp w k M Q pc L (.int y :: .int x :: st) h := g_icmp_lt hd ht kt kf
theorem p_if_ge {x : Int32} {off : Int} (tgt : Nat) (hd : decode (m_c M) pc = .ok (.ifCond .ge off, 3)) (ht : (pc : Int) + off = (tgt : Int)) (kt : 0 ≤ x → Wp w k M Q tgt L st h) (kf : ¬ 0 ≤ x → Wp w k M Q (pc + 3) L st h) : Wp w k M Q pc L (.int x :: st) h := g_if_ge hd ht kt kf
theorem p_icmp_ge {x y : Int32} {off : Int} (tgt : Nat) (hd : decode (m_c M) pc = .ok (.if_icmp .ge off, 3)) (ht : (pc : Int) + off = (tgt : Int)) (kt : y ≤ x → Wp w k M Q tgt L st h) (kf : ¬ y ≤ x → Wp w k M Q (pc + 3) L st h) : Wp w k M Q pc L (.int y :: .int x :: st) h := g_icmp_ge hd ht kt kf
theorem p_if_gt {x : Int32} {off : Int} (tgt : Nat) (hd : decode (m_c M) pc = .ok (.ifCond .gt off, 3)) (ht : (pc : Int) + off = (tgt : Int)) (kt : 0 < x → Wp w k M Q tgt L st h) (kf : ¬ 0 < x → Wp w k M Q (pc + 3) L st h) : Wp w k M Q pc L (.int x :: st) h := g_if_gt hd ht kt kf
theorem p_icmp_gt {x y : Int32} {off : Int} (tgt : Nat) (hd : decode (m_c M) pc = .ok (.if_icmp .gt off, 3)) (ht : (pc : Int) + off = (tgt : Int)) (kt : y < x → Wp w k M Q tgt L st h) (kf : ¬ y < x → Wp w k M Q (pc + 3) L st h) : Wp w k M Q pc L (.int y :: .int x :: st) h := g_icmp_gt hd ht kt kf
theorem p_if_le {x : Int32} {off : Int} (tgt : Nat) (hd : decode (m_c M) pc = .ok (.ifCond .le off, 3)) (ht : (pc : Int) + off = (tgt : Int)) (kt : x ≤ 0 → Wp w k M Q tgt L st h) (kf : ¬ x ≤ 0 → Wp w k M Q (pc + 3) L st h) : Wp w k M Q pc L (.int x :: st) h := g_if_le hd ht kt kf
theorem p_icmp_le {x y : Int32} {off : Int} (tgt : Nat) (hd : decode (m_c M) pc = .ok (.if_icmp .le off, 3)) (ht : (pc : Int) + off = (tgt : Int)) (kt : x ≤ y → Wp w k M Q tgt L st h) (kf : ¬ x ≤ y → Wp w k M Q (pc + 3) L st h) : Wp w k M Q pc L (.int y :: .int x :: st) h := g_icmp_le hd ht kt kf
theorem p_tableIn {dflt lo hi : Int} {offs : Array Int} {len : Nat} {x : Int32} {off : Int} (tgt : Nat) (hd : decode (m_c M) pc = .ok (.tableswitch dflt lo hi offs, len)) (h1 : ¬ x.toInt < lo) (h2 : ¬ hi < x.toInt) (ho : offs[(x.toInt - lo).toNat]? = some off) (ht : (pc : Int) + off = (tgt : Int)) (kk : Wp w k M Q tgt L st h) : Wp w k M Q pc L (.int x :: st) h := g_tableIn hd h1 h2 ho ht kk
theorem p_tableOut {dflt lo hi : Int} {offs : Array Int} {len : Nat} {x : Int32} (tgt : Nat) (hd : decode (m_c M) pc = .ok (.tableswitch dflt lo hi offs, len)) (h1 : x.toInt < lo ∨ hi < x.toInt) (ht : (pc : Int) + dflt = (tgt : Int)) (kk : Wp w k M Q tgt L st h) : Wp w k M Q pc L (.int x :: st) h := g_tableOut hd h1 ht kk
theorem p_lookup {dflt : Int} {ps : Array (Int × Int)} {len : Nat} {x : Int32} {off : Int} (tgt : Nat) (hd : decode (m_c M) pc = .ok (.lookupswitch dflt ps, len)) (hp : (ps.toList.zip (ps.toList.drop 1)).all (fun (a, next) => a.1 < next.1) = true) (ho : Op.lookupswitch.offset ps.toList dflt x.toInt = off) (ht : (pc : Int) + off = (tgt : Int)) (kk : Wp w k M Q tgt L st h) : Wp w k M Q pc L (.int x :: st) h := g_lookup hd hp ho ht kk
theorem p_iret {x : Int32} {ty : FieldType} (hr : m_r M = some ty) (hn : narrow ty (.int x) = .int x) (hd : decode (m_c M) pc = .ok (.ireturn, 1)) (hq : Q (some (.int x)) h) : Wp w k M Q pc L [.int x] h := g_iret hr hn hd ⟨h, rfl, hq⟩
theorem p_aret {x : Nat} {ty : FieldType} (hr : m_r M = some ty) (hn : (∃ n, ty = .object n) ∨ ∃ t, ty = .array t) (hd : decode (m_c M) pc = .ok (.areturn, 1)) (hq : Q (some (.ref x)) h) : Wp w k M Q pc L [.ref x] h := g_aret hr hn hd ⟨h, rfl, hq⟩
theorem p_vret (hr : m_r M = none) (hd : decode (m_c M) pc = .ok (.return_, 1)) (hq : Q none h) : Wp w k M Q pc L [] h := g_vret hr hd ⟨h, rfl, hq⟩
theorem Wp.mono {k' : Nat} (hk : k' ≤ k) (hh : Wp w k' M Q pc L st h) : Wp w k M Q pc L st h := Gp.mono hk hh
theorem Wp.imp {Q' : Option Value → Mm → Prop} (hq : ∀ r h', Q' r h' → Q r h') (hh : Wp w k M Q' pc L st h) : Wp w k M Q pc L st h := Gp.imp (fun r v ⟨h', e, q⟩ => ⟨h', e, hq r h' q⟩) hh
theorem vl_row {a : Nat} (ha : a < 118) (ht : 10 ≤ (kd0 a).1 ∧ (kd0 a).1 < 13) (j : Nat) : vl h a j = .int (h a j) := by simp [vl, rf_row ha ht j]
theorem p_iald {a n : Nat} {i : Int32} (j : Nat) (hd : decode (m_c M) pc = .ok (.iaload, 1)) (ha : Nat.blt a 118 = true) (hkd : kd0 a = (10, n)) (hi : i = nI j) (hj : j < n) (kk : Wp w k M Q (pc + 1) L (.int (h a j) :: st) h) : Wp w k M Q pc L (.int i :: .ref a :: st) h := by
  have ha' := Nat.le_of_ble_eq_true ha
  have hn : n < 2 ^ 31 := by have := kd_small a ha'; rw [hkd] at this; exact this
  subst hi
  refine g_iald hd ha' hkd (vp_in_nI hj hn) ?_
  rw [nI_clamp (by omega)]
  show Gp w k 0 0 M _ (pc + 1) L (vl h a j :: st) (mu h)
  rw [vl_row ha' (by rw [hkd]; exact ⟨Nat.le_refl _, by omega⟩) j]
  exact kk
theorem p_cald {a n : Nat} {i : Int32} (j : Nat) (hd : decode (m_c M) pc = .ok (.caload, 1)) (ha : Nat.blt a 118 = true) (hkd : kd0 a = (11, n)) (hi : i = nI j) (hj : j < n) (kk : Wp w k M Q (pc + 1) L (.int (h a j) :: st) h) : Wp w k M Q pc L (.int i :: .ref a :: st) h := by
  have ha' := Nat.le_of_ble_eq_true ha
  have hn : n < 2 ^ 31 := by have := kd_small a ha'; rw [hkd] at this; exact this
  subst hi
  refine g_cald hd ha' hkd (vp_in_nI hj hn) ?_
  rw [nI_clamp (by omega)]
  show Gp w k 0 0 M _ (pc + 1) L (vl h a j :: st) (mu h)
  rw [vl_row ha' (by rw [hkd]; exact ⟨by omega, by omega⟩) j]
  exact kk
theorem p_zald {a n : Nat} {i : Int32} (j : Nat) (hd : decode (m_c M) pc = .ok (.baload, 1)) (ha : Nat.blt a 118 = true) (hkd : kd0 a = (12, n)) (hi : i = nI j) (hj : j < n) (kk : Wp w k M Q (pc + 1) L (.int (h a j) :: st) h) : Wp w k M Q pc L (.int i :: .ref a :: st) h := by
  have ha' := Nat.le_of_ble_eq_true ha
  have hn : n < 2 ^ 31 := by have := kd_small a ha'; rw [hkd] at this; exact this
  subst hi
  refine g_zald hd ha' hkd (vp_in_nI hj hn) ?_
  rw [nI_clamp (by omega)]
  show Gp w k 0 0 M _ (pc + 1) L (vl h a j :: st) (mu h)
  rw [vl_row ha' (by rw [hkd]; exact ⟨by omega, by omega⟩) j]
  exact kk
theorem p_iast {a n : Nat} {i x : Int32} (j : Nat) (hd : decode (m_c M) pc = .ok (.iastore, 1)) (ha : Nat.blt a 118 = true) (hkd : kd0 a = (10, n)) (hi : i = nI j) (hj : j < n) (kk : Wp w k M Q (pc + 1) L st (up h a j x)) : Wp w k M Q pc L (.int x :: .int i :: .ref a :: st) h := by
  have ha' := Nat.le_of_ble_eq_true ha
  have hn : n < 2 ^ 31 := by have := kd_small a ha'; rw [hkd] at this; exact this
  subst hi
  refine g_iast hd ha' hkd (vp_in_nI hj hn) ?_
  rw [nI_clamp (by omega), mu_up (rf_row ha' (by rw [hkd]; exact ⟨Nat.le_refl _, by omega⟩) j)]
  exact kk
theorem p_zast {a n : Nat} {i x : Int32} (j : Nat) (hd : decode (m_c M) pc = .ok (.bastore, 1)) (ha : Nat.blt a 118 = true) (hkd : kd0 a = (12, n)) (hi : i = nI j) (hj : j < n) (hx : x = 0 ∨ x = 1) (kk : Wp w k M Q (pc + 1) L st (up h a j x)) : Wp w k M Q pc L (.int x :: .int i :: .ref a :: st) h := by
  have ha' := Nat.le_of_ble_eq_true ha
  have hn : n < 2 ^ 31 := by have := kd_small a ha'; rw [hkd] at this; exact this
  subst hi
  refine g_zast hd ha' hkd (vp_in_nI hj hn) (by rcases hx with rfl | rfl <;> rfl) ?_
  rw [nI_clamp (by omega), mu_up (rf_row ha' (by rw [hkd]; exact ⟨by omega, by omega⟩) j)]
  exact kk
theorem p_aald {a t n r : Nat} {i : Int32} (j : Nat) (hd : decode (m_c M) pc = .ok (.aaload, 1)) (ha : a < 118) (hkd : kd0 a = (t, n)) (ht : 14 ≤ t ∧ t < 18) (hi : i = nI j) (hj : j < n) (hr : rf0 a j = some r) (kk : Wp w k M Q (pc + 1) L (.ref r :: st) h) : Wp w k M Q pc L (.int i :: .ref a :: st) h := by
  have hn : n < 2 ^ 31 := by have := kd_small a ha; rw [hkd] at this; exact this
  subst hi
  refine g_aald hd ha ht hkd (vp_in_nI hj hn) ?_
  rw [nI_clamp (by omega)]
  show Gp w k 0 0 M _ (pc + 1) L (vl h a j :: st) (mu h)
  rw [show vl h a j = .ref r by simp [vl, hr]]
  exact kk
/-- a field of truth -/
theorem p_putZ {idx a t kf : Nat} {x : Int32} (hd : decode (m_c M) pc = .ok (.putfield idx, 3)) (hf : FO (m_y M).cls idx t kf) (ha : a < 118) (hkd : (kd0 a).1 = t) (hZ : ∀ C T N, vwCl[t]? = some (C, T, N) → (T kf).2.2.2 = false ∧ parseFieldDescriptor (T kf).2.2.1 = some .boolean) (hr : rf0 a kf = none) (hx : x = 0 ∨ x = 1) (kk : Wp w k M Q (pc + 3) L st (up h a kf x)) : Wp w k M Q pc L (.int x :: .ref a :: st) h := by
  refine g_put (ty := .boolean) hd ⟨hf, hZ⟩ ha hkd (by rcases hx with rfl | rfl <;> rfl) (by rcases hx with rfl | rfl <;> rfl) ?_
  rw [mu_up hr]
  exact kk
def Ok (w : Wt) (k : Nat) (M : Mt) (as : List Value) (h : Mm) (Q : Option Value → Mm → Prop) : Prop := Wp w k M Q 0 (eL (m_n M) as) [] h
theorem Ok.imp {as : List Value} {Q' : Option Value → Mm → Prop} (hh : Ok w k M as h Q') (hq : ∀ r h', Q' r h' → Q r h') : Ok w k M as h Q := Wp.imp hq hh
theorem cat_of {as : List Value} (h : as.all (fun v => Nat.beq v.category 1) = true) : ∀ v ∈ as, v.category = 1 := fun v hv => Nat.eq_of_beq_eq_true (List.all_eq_true.mp h v hv)
theorem p_callS {M' : Mt} {k' np idx : Nat} {as rest : List Value} {Q' : Option Value → Mm → Prop} (hO : Ok w k' M' as h Q') (hw : KS (m_y M).cls idx M' np) (hd : decode (m_c M) pc = .ok (.invokestatic idx, 3)) (hk : k' + 1 ≤ k) (hst : st = as.reverse ++ rest) (hn : as.length = np) (hcat : as.all (fun v => Nat.beq v.category 1) = true) (hnl : Nat.ble np (m_n M') = true) (hrest : Nat.ble (rest.map fun v => v.category).sum 8 = true) (hC : ∀ r h', Q' r h' → Wp w k M Q (pc + 3) L (r.toList ++ rest) h') : Wp w k M Q pc L st h :=
  g_callS (bc' := 0) (bs' := 0) (bc2 := 0) (bs2 := 0) as hd hw rfl rfl hn (cat_of hcat) (Nat.le_of_ble_eq_true hnl) hst (Nat.le_of_ble_eq_true hrest) hk hO (fun r u' ⟨h', e, q⟩ => by rw [e]; exact hC r h' q)
theorem p_callV {M' : Mt} {k' np idx a t : Nat} {as rest : List Value} {Q' : Option Value → Mm → Prop} (hO : Ok w k' M' (.ref a :: as) h Q') (hw : KV (m_y M).cls idx M' t np) (hd : decode (m_c M) pc = .ok (.invokevirtual idx, 3)) (ha : a < 118) (hkd : (kd0 a).1 = t) (hk : k' + 1 ≤ k) (hst : st = as.reverse ++ .ref a :: rest) (hn : as.length = np) (hcat : as.all (fun v => Nat.beq v.category 1) = true) (hnl : Nat.ble (np + 1) (m_n M') = true) (hrest : Nat.ble (rest.map fun v => v.category).sum 8 = true) (hC : ∀ r h', Q' r h' → Wp w k M Q (pc + 3) L (r.toList ++ rest) h') : Wp w k M Q pc L st h :=
  g_callV (bc' := 0) (bs' := 0) (bc2 := 0) (bs2 := 0) as hd hw ha hkd rfl rfl hn (cat_of hcat) (Nat.le_of_ble_eq_true hnl) hst (Nat.le_of_ble_eq_true hrest) hk hO (fun r u' ⟨h', e, q⟩ => by rw [e]; exact hC r h' q)
end G6
end
