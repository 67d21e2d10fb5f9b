/-- a private method of a class that the tables say can be made, by its rows of tables_1 -/
def lw_okq (q : MethodName × Nat) : Prop := (q.1.cls ≠ "java/lang/invoke/MethodHandle" ∧ q.1.cls ≠ "java/lang/invoke/VarHandle") ∧ Cond.instantiable q.1.cls q.2 ∈ tables_1 ∧ Cond.privateMethod q.1 ∈ tables_1 ∧ Cond.instanceMethod q.1 ∈ tables_1
theorem lw_p0 : lw_okq (⟨"DreamTests$Reader", "readToken", "()V"⟩, 9) := ⟨⟨by decide +kernel, by decide +kernel⟩, List.mem_of_getElem? (i := 99) (by decide +kernel), List.mem_of_getElem? (i := 355) (by decide +kernel), List.mem_of_getElem? (i := 356) (by decide +kernel)⟩
theorem lw_p1 : lw_okq (⟨"DreamTests$Book", "readLine", "(LDreamTests$Reader;)Z"⟩, 11) := ⟨⟨by decide +kernel, by decide +kernel⟩, List.mem_of_getElem? (i := 35) (by decide +kernel), List.mem_of_getElem? (i := 384) (by decide +kernel), List.mem_of_getElem? (i := 385) (by decide +kernel)⟩
theorem lw_p2 : lw_okq (⟨"DreamTests$Book", "readTest", "(LDreamTests$Reader;)Z"⟩, 11) := ⟨⟨by decide +kernel, by decide +kernel⟩, List.mem_of_getElem? (i := 35) (by decide +kernel), List.mem_of_getElem? (i := 394) (by decide +kernel), List.mem_of_getElem? (i := 395) (by decide +kernel)⟩
theorem lw_p3 : lw_okq (⟨"DreamTests$Book", "takeNewName", "(LDreamTests$Reader;)Z"⟩, 11) := ⟨⟨by decide +kernel, by decide +kernel⟩, List.mem_of_getElem? (i := 35) (by decide +kernel), List.mem_of_getElem? (i := 403) (by decide +kernel), List.mem_of_getElem? (i := 404) (by decide +kernel)⟩
theorem lw_p4 : lw_okq (⟨"DreamTests$Book", "readDream", "(LDreamTests$Reader;)Z"⟩, 11) := ⟨⟨by decide +kernel, by decide +kernel⟩, List.mem_of_getElem? (i := 35) (by decide +kernel), List.mem_of_getElem? (i := 427) (by decide +kernel), List.mem_of_getElem? (i := 428) (by decide +kernel)⟩
theorem lw_p5 : lw_okq (⟨"DreamTests$Book", "readKept", "(LDreamTests$Reader;)I"⟩, 11) := ⟨⟨by decide +kernel, by decide +kernel⟩, List.mem_of_getElem? (i := 35) (by decide +kernel), List.mem_of_getElem? (i := 431) (by decide +kernel), List.mem_of_getElem? (i := 432) (by decide +kernel)⟩
theorem lw_p6 : lw_okq (⟨"DreamTests$Book", "readSetting", "(LDreamTests$Reader;LDreamTests$Word;)Z"⟩, 11) := ⟨⟨by decide +kernel, by decide +kernel⟩, List.mem_of_getElem? (i := 35) (by decide +kernel), List.mem_of_getElem? (i := 441) (by decide +kernel), List.mem_of_getElem? (i := 442) (by decide +kernel)⟩
theorem lw_p7 : lw_okq (⟨"DreamTests$Plan", "choose", "(III)V"⟩, 6) := ⟨⟨by decide +kernel, by decide +kernel⟩, List.mem_of_getElem? (i := 226) (by decide +kernel), List.mem_of_getElem? (i := 655) (by decide +kernel), List.mem_of_getElem? (i := 656) (by decide +kernel)⟩
theorem lw_p8 : lw_okq (⟨"DreamTests$Plan", "costOfUp", "(I)J"⟩, 6) := ⟨⟨by decide +kernel, by decide +kernel⟩, List.mem_of_getElem? (i := 226) (by decide +kernel), List.mem_of_getElem? (i := 663) (by decide +kernel), List.mem_of_getElem? (i := 664) (by decide +kernel)⟩
theorem lw_p9 : lw_okq (⟨"DreamTests$Plan", "costOfBed", "(I)J"⟩, 6) := ⟨⟨by decide +kernel, by decide +kernel⟩, List.mem_of_getElem? (i := 226) (by decide +kernel), List.mem_of_getElem? (i := 668) (by decide +kernel), List.mem_of_getElem? (i := 669) (by decide +kernel)⟩
theorem lw_p10 : lw_okq (⟨"DreamTests$Plan", "costBehind", "(IIIII)J"⟩, 6) := ⟨⟨by decide +kernel, by decide +kernel⟩, List.mem_of_getElem? (i := 226) (by decide +kernel), List.mem_of_getElem? (i := 677) (by decide +kernel), List.mem_of_getElem? (i := 678) (by decide +kernel)⟩
theorem lw_p11 : lw_okq (⟨"DreamTests$Plan", "goOn", "(III)V"⟩, 6) := ⟨⟨by decide +kernel, by decide +kernel⟩, List.mem_of_getElem? (i := 226) (by decide +kernel), List.mem_of_getElem? (i := 686) (by decide +kernel), List.mem_of_getElem? (i := 687) (by decide +kernel)⟩
theorem lw_p12 : lw_okq (⟨"DreamTests$Plan", "writeWay", "(LDreamTests$Bytes;II)V"⟩, 6) := ⟨⟨by decide +kernel, by decide +kernel⟩, List.mem_of_getElem? (i := 226) (by decide +kernel), List.mem_of_getElem? (i := 703) (by decide +kernel), List.mem_of_getElem? (i := 704) (by decide +kernel)⟩
theorem lw_p13 : lw_okq (⟨"DreamTests$Tree", "readNode", "(LDreamTests$Reader;LDreamTests$Book;III)Z"⟩, 2) := ⟨⟨by decide +kernel, by decide +kernel⟩, List.mem_of_getElem? (i := 781) (by decide +kernel), List.mem_of_getElem? (i := 799) (by decide +kernel), List.mem_of_getElem? (i := 800) (by decide +kernel)⟩
theorem lw_p14 : lw_okq (⟨"DreamTests$Tree", "nodeAt", "(I)I"⟩, 2) := ⟨⟨by decide +kernel, by decide +kernel⟩, List.mem_of_getElem? (i := 781) (by decide +kernel), List.mem_of_getElem? (i := 825) (by decide +kernel), List.mem_of_getElem? (i := 826) (by decide +kernel)⟩
theorem lw_p15 : lw_okq (⟨"DreamTests$Nights", "readLine", "(LDreamTests$Reader;LDreamTests$Book;)Z"⟩, 8) := ⟨⟨by decide +kernel, by decide +kernel⟩, List.mem_of_getElem? (i := 254) (by decide +kernel), List.mem_of_getElem? (i := 852) (by decide +kernel), List.mem_of_getElem? (i := 853) (by decide +kernel)⟩
def lw_privs_1 : List (MethodName × Nat) := [(⟨"DreamTests$Reader", "readToken", "()V"⟩, 9), (⟨"DreamTests$Book", "readLine", "(LDreamTests$Reader;)Z"⟩, 11), (⟨"DreamTests$Book", "readTest", "(LDreamTests$Reader;)Z"⟩, 11), (⟨"DreamTests$Book", "takeNewName", "(LDreamTests$Reader;)Z"⟩, 11), (⟨"DreamTests$Book", "readDream", "(LDreamTests$Reader;)Z"⟩, 11), (⟨"DreamTests$Book", "readKept", "(LDreamTests$Reader;)I"⟩, 11), (⟨"DreamTests$Book", "readSetting", "(LDreamTests$Reader;LDreamTests$Word;)Z"⟩, 11), (⟨"DreamTests$Plan", "choose", "(III)V"⟩, 6), (⟨"DreamTests$Plan", "costOfUp", "(I)J"⟩, 6), (⟨"DreamTests$Plan", "costOfBed", "(I)J"⟩, 6), (⟨"DreamTests$Plan", "costBehind", "(IIIII)J"⟩, 6), (⟨"DreamTests$Plan", "goOn", "(III)V"⟩, 6), (⟨"DreamTests$Plan", "writeWay", "(LDreamTests$Bytes;II)V"⟩, 6), (⟨"DreamTests$Tree", "readNode", "(LDreamTests$Reader;LDreamTests$Book;III)Z"⟩, 2), (⟨"DreamTests$Tree", "nodeAt", "(I)I"⟩, 2), (⟨"DreamTests$Nights", "readLine", "(LDreamTests$Reader;LDreamTests$Book;)Z"⟩, 8)]
theorem lw_r1 : ∀ q ∈ lw_privs_1, lw_okq q := List.forall_mem_cons.mpr ⟨lw_p0, List.forall_mem_cons.mpr ⟨lw_p1, List.forall_mem_cons.mpr ⟨lw_p2, List.forall_mem_cons.mpr ⟨lw_p3, List.forall_mem_cons.mpr ⟨lw_p4, List.forall_mem_cons.mpr ⟨lw_p5, List.forall_mem_cons.mpr ⟨lw_p6, List.forall_mem_cons.mpr ⟨lw_p7, List.forall_mem_cons.mpr ⟨lw_p8, List.forall_mem_cons.mpr ⟨lw_p9, List.forall_mem_cons.mpr ⟨lw_p10, List.forall_mem_cons.mpr ⟨lw_p11, List.forall_mem_cons.mpr ⟨lw_p12, List.forall_mem_cons.mpr ⟨lw_p13, List.forall_mem_cons.mpr ⟨lw_p14, List.forall_mem_cons.mpr ⟨lw_p15, fun _ h => absurd h List.not_mem_nil⟩⟩⟩⟩⟩⟩⟩⟩⟩⟩⟩⟩⟩⟩⟩⟩
theorem lw_p16 : lw_okq (⟨"DreamTests$Nights", "readIn", "(LDreamTests$Reader;LDreamTests$Book;)Z"⟩, 8) := ⟨⟨by decide +kernel, by decide +kernel⟩, List.mem_of_getElem? (i := 254) (by decide +kernel), List.mem_of_getElem? (i := 859) (by decide +kernel), List.mem_of_getElem? (i := 860) (by decide +kernel)⟩
theorem lw_p17 : lw_okq (⟨"DreamTests$Nights", "put", "(II)V"⟩, 8) := ⟨⟨by decide +kernel, by decide +kernel⟩, List.mem_of_getElem? (i := 254) (by decide +kernel), List.mem_of_getElem? (i := 872) (by decide +kernel), List.mem_of_getElem? (i := 873) (by decide +kernel)⟩
theorem lw_p18 : lw_okq (⟨"DreamTests$Nights", "readAct", "(LDreamTests$Reader;I)Z"⟩, 8) := ⟨⟨by decide +kernel, by decide +kernel⟩, List.mem_of_getElem? (i := 254) (by decide +kernel), List.mem_of_getElem? (i := 878) (by decide +kernel), List.mem_of_getElem? (i := 879) (by decide +kernel)⟩
theorem lw_p19 : lw_okq (⟨"DreamTests$Nights", "readAnswer", "(LDreamTests$Reader;LDreamTests$Book;)Z"⟩, 8) := ⟨⟨by decide +kernel, by decide +kernel⟩, List.mem_of_getElem? (i := 254) (by decide +kernel), List.mem_of_getElem? (i := 882) (by decide +kernel), List.mem_of_getElem? (i := 883) (by decide +kernel)⟩
theorem lw_p20 : lw_okq (⟨"DreamTests$Nights", "judgeLine", "(LDreamTests$Night;II)I"⟩, 8) := ⟨⟨by decide +kernel, by decide +kernel⟩, List.mem_of_getElem? (i := 254) (by decide +kernel), List.mem_of_getElem? (i := 896) (by decide +kernel), List.mem_of_getElem? (i := 897) (by decide +kernel)⟩
theorem lw_p21 : lw_okq (⟨"DreamTests$Night", "drawPlace", "()I"⟩, 6) := ⟨⟨by decide +kernel, by decide +kernel⟩, List.mem_of_getElem? (i := 149) (by decide +kernel), List.mem_of_getElem? (i := 929) (by decide +kernel), List.mem_of_getElem? (i := 930) (by decide +kernel)⟩
theorem lw_p22 : lw_okq (⟨"DreamTests$Night", "drawBelow", "(I)I"⟩, 6) := ⟨⟨by decide +kernel, by decide +kernel⟩, List.mem_of_getElem? (i := 149) (by decide +kernel), List.mem_of_getElem? (i := 937) (by decide +kernel), List.mem_of_getElem? (i := 938) (by decide +kernel)⟩
theorem lw_p23 : lw_okq (⟨"DreamTests$Sentence", "readCond", "(LDreamTests$Reader;LDreamTests$Book;I)Z"⟩, 5) := ⟨⟨by decide +kernel, by decide +kernel⟩, List.mem_of_getElem? (i := 951) (by decide +kernel), List.mem_of_getElem? (i := 978) (by decide +kernel), List.mem_of_getElem? (i := 979) (by decide +kernel)⟩
theorem lw_p24 : lw_okq (⟨"DreamTests$Sentence", "readAll", "(LDreamTests$Reader;LDreamTests$Book;I)Z"⟩, 5) := ⟨⟨by decide +kernel, by decide +kernel⟩, List.mem_of_getElem? (i := 951) (by decide +kernel), List.mem_of_getElem? (i := 982) (by decide +kernel), List.mem_of_getElem? (i := 983) (by decide +kernel)⟩
theorem lw_p25 : lw_okq (⟨"DreamTests$Sentence", "readOne", "(LDreamTests$Reader;LDreamTests$Book;I)Z"⟩, 5) := ⟨⟨by decide +kernel, by decide +kernel⟩, List.mem_of_getElem? (i := 951) (by decide +kernel), List.mem_of_getElem? (i := 986) (by decide +kernel), List.mem_of_getElem? (i := 987) (by decide +kernel)⟩
theorem lw_p26 : lw_okq (⟨"DreamTests$Sentence", "put", "(II)Z"⟩, 5) := ⟨⟨by decide +kernel, by decide +kernel⟩, List.mem_of_getElem? (i := 951) (by decide +kernel), List.mem_of_getElem? (i := 1010) (by decide +kernel), List.mem_of_getElem? (i := 1011) (by decide +kernel)⟩
theorem lw_p27 : lw_okq (⟨"DreamTests$Sentence", "readKept", "(LDreamTests$Reader;LDreamTests$Book;)Z"⟩, 5) := ⟨⟨by decide +kernel, by decide +kernel⟩, List.mem_of_getElem? (i := 951) (by decide +kernel), List.mem_of_getElem? (i := 1015) (by decide +kernel), List.mem_of_getElem? (i := 1016) (by decide +kernel)⟩
theorem lw_p28 : lw_okq (⟨"DreamTests$Sentence", "readOrder", "(LDreamTests$Reader;LDreamTests$Book;LDreamTests$Word;)Z"⟩, 5) := ⟨⟨by decide +kernel, by decide +kernel⟩, List.mem_of_getElem? (i := 951) (by decide +kernel), List.mem_of_getElem? (i := 1021) (by decide +kernel), List.mem_of_getElem? (i := 1022) (by decide +kernel)⟩
theorem lw_p29 : lw_okq (⟨"java/lang/Throwable", "fillInStackTrace", "(I)Ljava/lang/Throwable;"⟩, 6) := ⟨⟨by decide +kernel, by decide +kernel⟩, List.mem_of_getElem? (i := 1114) (by decide +kernel), List.mem_of_getElem? (i := 1112) (by decide +kernel), List.mem_of_getElem? (i := 1113) (by decide +kernel)⟩
theorem lw_p30 : lw_okq (⟨"DreamTests$Tree", "likelyAt", "(IILDreamTests$Book;)J"⟩, 2) := ⟨⟨by decide +kernel, by decide +kernel⟩, List.mem_of_getElem? (i := 781) (by decide +kernel), List.mem_of_getElem? (i := 1187) (by decide +kernel), List.mem_of_getElem? (i := 1188) (by decide +kernel)⟩
theorem lw_p31 : lw_okq (⟨"DreamTests$Book", "movingBy", "(I)I"⟩, 11) := ⟨⟨by decide +kernel, by decide +kernel⟩, List.mem_of_getElem? (i := 35) (by decide +kernel), List.mem_of_getElem? (i := 1212) (by decide +kernel), List.mem_of_getElem? (i := 1213) (by decide +kernel)⟩
def lw_privs_2 : List (MethodName × Nat) := [(⟨"DreamTests$Nights", "readIn", "(LDreamTests$Reader;LDreamTests$Book;)Z"⟩, 8), (⟨"DreamTests$Nights", "put", "(II)V"⟩, 8), (⟨"DreamTests$Nights", "readAct", "(LDreamTests$Reader;I)Z"⟩, 8), (⟨"DreamTests$Nights", "readAnswer", "(LDreamTests$Reader;LDreamTests$Book;)Z"⟩, 8), (⟨"DreamTests$Nights", "judgeLine", "(LDreamTests$Night;II)I"⟩, 8), (⟨"DreamTests$Night", "drawPlace", "()I"⟩, 6), (⟨"DreamTests$Night", "drawBelow", "(I)I"⟩, 6), (⟨"DreamTests$Sentence", "readCond", "(LDreamTests$Reader;LDreamTests$Book;I)Z"⟩, 5), (⟨"DreamTests$Sentence", "readAll", "(LDreamTests$Reader;LDreamTests$Book;I)Z"⟩, 5), (⟨"DreamTests$Sentence", "readOne", "(LDreamTests$Reader;LDreamTests$Book;I)Z"⟩, 5), (⟨"DreamTests$Sentence", "put", "(II)Z"⟩, 5), (⟨"DreamTests$Sentence", "readKept", "(LDreamTests$Reader;LDreamTests$Book;)Z"⟩, 5), (⟨"DreamTests$Sentence", "readOrder", "(LDreamTests$Reader;LDreamTests$Book;LDreamTests$Word;)Z"⟩, 5), (⟨"java/lang/Throwable", "fillInStackTrace", "(I)Ljava/lang/Throwable;"⟩, 6), (⟨"DreamTests$Tree", "likelyAt", "(IILDreamTests$Book;)J"⟩, 2), (⟨"DreamTests$Book", "movingBy", "(I)I"⟩, 11)]
theorem lw_r2 : ∀ q ∈ lw_privs_2, lw_okq q := List.forall_mem_cons.mpr ⟨lw_p16, List.forall_mem_cons.mpr ⟨lw_p17, List.forall_mem_cons.mpr ⟨lw_p18, List.forall_mem_cons.mpr ⟨lw_p19, List.forall_mem_cons.mpr ⟨lw_p20, List.forall_mem_cons.mpr ⟨lw_p21, List.forall_mem_cons.mpr ⟨lw_p22, List.forall_mem_cons.mpr ⟨lw_p23, List.forall_mem_cons.mpr ⟨lw_p24, List.forall_mem_cons.mpr ⟨lw_p25, List.forall_mem_cons.mpr ⟨lw_p26, List.forall_mem_cons.mpr ⟨lw_p27, List.forall_mem_cons.mpr ⟨lw_p28, List.forall_mem_cons.mpr ⟨lw_p29, List.forall_mem_cons.mpr ⟨lw_p30, List.forall_mem_cons.mpr ⟨lw_p31, fun _ h => absurd h List.not_mem_nil⟩⟩⟩⟩⟩⟩⟩⟩⟩⟩⟩⟩⟩⟩⟩⟩
theorem lw_p32 : lw_okq (⟨"DreamTestsModel", "four", "(I)V"⟩, 57) := ⟨⟨by decide +kernel, by decide +kernel⟩, List.mem_of_getElem? (i := 1263) (by decide +kernel), List.mem_of_getElem? (i := 1261) (by decide +kernel), List.mem_of_getElem? (i := 1262) (by decide +kernel)⟩
theorem lw_p33 : lw_okq (⟨"DreamTestsModel", "clears", "()V"⟩, 57) := ⟨⟨by decide +kernel, by decide +kernel⟩, List.mem_of_getElem? (i := 1263) (by decide +kernel), List.mem_of_getElem? (i := 1297) (by decide +kernel), List.mem_of_getElem? (i := 1298) (by decide +kernel)⟩
theorem lw_p34 : lw_okq (⟨"DreamTestsModel", "taken", "(I)V"⟩, 57) := ⟨⟨by decide +kernel, by decide +kernel⟩, List.mem_of_getElem? (i := 1263) (by decide +kernel), List.mem_of_getElem? (i := 1477) (by decide +kernel), List.mem_of_getElem? (i := 1478) (by decide +kernel)⟩
theorem lw_p35 : lw_okq (⟨"DreamTestsModel", "go", "()V"⟩, 57) := ⟨⟨by decide +kernel, by decide +kernel⟩, List.mem_of_getElem? (i := 1263) (by decide +kernel), List.mem_of_getElem? (i := 1481) (by decide +kernel), List.mem_of_getElem? (i := 1482) (by decide +kernel)⟩
theorem lw_p36 : lw_okq (⟨"DreamTestsModel", "peek", "()I"⟩, 57) := ⟨⟨by decide +kernel, by decide +kernel⟩, List.mem_of_getElem? (i := 1263) (by decide +kernel), List.mem_of_getElem? (i := 1485) (by decide +kernel), List.mem_of_getElem? (i := 1486) (by decide +kernel)⟩
theorem lw_p37 : lw_okq (⟨"DreamTestsModel", "line", "()Z"⟩, 57) := ⟨⟨by decide +kernel, by decide +kernel⟩, List.mem_of_getElem? (i := 1263) (by decide +kernel), List.mem_of_getElem? (i := 1495) (by decide +kernel), List.mem_of_getElem? (i := 1496) (by decide +kernel)⟩
theorem lw_p38 : lw_okq (⟨"DreamTestsModel", "onceOf", "()I"⟩, 57) := ⟨⟨by decide +kernel, by decide +kernel⟩, List.mem_of_getElem? (i := 1263) (by decide +kernel), List.mem_of_getElem? (i := 1499) (by decide +kernel), List.mem_of_getElem? (i := 1500) (by decide +kernel)⟩
theorem lw_p39 : lw_okq (⟨"DreamTestsModel", "isWord", "(J)Z"⟩, 57) := ⟨⟨by decide +kernel, by decide +kernel⟩, List.mem_of_getElem? (i := 1263) (by decide +kernel), List.mem_of_getElem? (i := 1503) (by decide +kernel), List.mem_of_getElem? (i := 1504) (by decide +kernel)⟩
theorem lw_p40 : lw_okq (⟨"DreamTestsModel", "readOnce", "(I)Z"⟩, 57) := ⟨⟨by decide +kernel, by decide +kernel⟩, List.mem_of_getElem? (i := 1263) (by decide +kernel), List.mem_of_getElem? (i := 1507) (by decide +kernel), List.mem_of_getElem? (i := 1508) (by decide +kernel)⟩
theorem lw_p41 : lw_okq (⟨"DreamTestsModel", "bad", "(I)Z"⟩, 57) := ⟨⟨by decide +kernel, by decide +kernel⟩, List.mem_of_getElem? (i := 1263) (by decide +kernel), List.mem_of_getElem? (i := 1514) (by decide +kernel), List.mem_of_getElem? (i := 1515) (by decide +kernel)⟩
theorem lw_p42 : lw_okq (⟨"DreamTestsModel", "takes", "(II)Z"⟩, 57) := ⟨⟨by decide +kernel, by decide +kernel⟩, List.mem_of_getElem? (i := 1263) (by decide +kernel), List.mem_of_getElem? (i := 1518) (by decide +kernel), List.mem_of_getElem? (i := 1519) (by decide +kernel)⟩
theorem lw_p43 : lw_okq (⟨"DreamTestsModel", "fresh", "(I)Z"⟩, 57) := ⟨⟨by decide +kernel, by decide +kernel⟩, List.mem_of_getElem? (i := 1263) (by decide +kernel), List.mem_of_getElem? (i := 1525) (by decide +kernel), List.mem_of_getElem? (i := 1526) (by decide +kernel)⟩
theorem lw_p44 : lw_okq (⟨"DreamTestsModel", "isName", "()Z"⟩, 57) := ⟨⟨by decide +kernel, by decide +kernel⟩, List.mem_of_getElem? (i := 1263) (by decide +kernel), List.mem_of_getElem? (i := 1529) (by decide +kernel), List.mem_of_getElem? (i := 1530) (by decide +kernel)⟩
theorem lw_p45 : lw_okq (⟨"DreamTestsModel", "find", "(II)I"⟩, 57) := ⟨⟨by decide +kernel, by decide +kernel⟩, List.mem_of_getElem? (i := 1263) (by decide +kernel), List.mem_of_getElem? (i := 1533) (by decide +kernel), List.mem_of_getElem? (i := 1534) (by decide +kernel)⟩
theorem lw_p46 : lw_okq (⟨"DreamTestsModel", "isSign", "(I)Z"⟩, 57) := ⟨⟨by decide +kernel, by decide +kernel⟩, List.mem_of_getElem? (i := 1263) (by decide +kernel), List.mem_of_getElem? (i := 1537) (by decide +kernel), List.mem_of_getElem? (i := 1538) (by decide +kernel)⟩
theorem lw_p47 : lw_okq (⟨"DreamTestsModel", "sign", "(I)Z"⟩, 57) := ⟨⟨by decide +kernel, by decide +kernel⟩, List.mem_of_getElem? (i := 1263) (by decide +kernel), List.mem_of_getElem? (i := 1541) (by decide +kernel), List.mem_of_getElem? (i := 1542) (by decide +kernel)⟩
def lw_privs_3 : List (MethodName × Nat) := [(⟨"DreamTestsModel", "four", "(I)V"⟩, 57), (⟨"DreamTestsModel", "clears", "()V"⟩, 57), (⟨"DreamTestsModel", "taken", "(I)V"⟩, 57), (⟨"DreamTestsModel", "go", "()V"⟩, 57), (⟨"DreamTestsModel", "peek", "()I"⟩, 57), (⟨"DreamTestsModel", "line", "()Z"⟩, 57), (⟨"DreamTestsModel", "onceOf", "()I"⟩, 57), (⟨"DreamTestsModel", "isWord", "(J)Z"⟩, 57), (⟨"DreamTestsModel", "readOnce", "(I)Z"⟩, 57), (⟨"DreamTestsModel", "bad", "(I)Z"⟩, 57), (⟨"DreamTestsModel", "takes", "(II)Z"⟩, 57), (⟨"DreamTestsModel", "fresh", "(I)Z"⟩, 57), (⟨"DreamTestsModel", "isName", "()Z"⟩, 57), (⟨"DreamTestsModel", "find", "(II)I"⟩, 57), (⟨"DreamTestsModel", "isSign", "(I)Z"⟩, 57), (⟨"DreamTestsModel", "sign", "(I)Z"⟩, 57)]
theorem lw_r3 : ∀ q ∈ lw_privs_3, lw_okq q := List.forall_mem_cons.mpr ⟨lw_p32, List.forall_mem_cons.mpr ⟨lw_p33, List.forall_mem_cons.mpr ⟨lw_p34, List.forall_mem_cons.mpr ⟨lw_p35, List.forall_mem_cons.mpr ⟨lw_p36, List.forall_mem_cons.mpr ⟨lw_p37, List.forall_mem_cons.mpr ⟨lw_p38, List.forall_mem_cons.mpr ⟨lw_p39, List.forall_mem_cons.mpr ⟨lw_p40, List.forall_mem_cons.mpr ⟨lw_p41, List.forall_mem_cons.mpr ⟨lw_p42, List.forall_mem_cons.mpr ⟨lw_p43, List.forall_mem_cons.mpr ⟨lw_p44, List.forall_mem_cons.mpr ⟨lw_p45, List.forall_mem_cons.mpr ⟨lw_p46, List.forall_mem_cons.mpr ⟨lw_p47, fun _ h => absurd h List.not_mem_nil⟩⟩⟩⟩⟩⟩⟩⟩⟩⟩⟩⟩⟩⟩⟩⟩
theorem lw_p48 : lw_okq (⟨"DreamTestsModel", "isTest", "(I)Z"⟩, 57) := ⟨⟨by decide +kernel, by decide +kernel⟩, List.mem_of_getElem? (i := 1263) (by decide +kernel), List.mem_of_getElem? (i := 1553) (by decide +kernel), List.mem_of_getElem? (i := 1554) (by decide +kernel)⟩
theorem lw_p49 : lw_okq (⟨"DreamTestsModel", "timesOf", "(II)I"⟩, 57) := ⟨⟨by decide +kernel, by decide +kernel⟩, List.mem_of_getElem? (i := 1263) (by decide +kernel), List.mem_of_getElem? (i := 1557) (by decide +kernel), List.mem_of_getElem? (i := 1558) (by decide +kernel)⟩
theorem lw_p50 : lw_okq (⟨"DreamTestsModel", "isDream", "(I)Z"⟩, 57) := ⟨⟨by decide +kernel, by decide +kernel⟩, List.mem_of_getElem? (i := 1263) (by decide +kernel), List.mem_of_getElem? (i := 1565) (by decide +kernel), List.mem_of_getElem? (i := 1566) (by decide +kernel)⟩
theorem lw_p51 : lw_okq (⟨"DreamTestsModel", "oddsOf", "(III)I"⟩, 57) := ⟨⟨by decide +kernel, by decide +kernel⟩, List.mem_of_getElem? (i := 1263) (by decide +kernel), List.mem_of_getElem? (i := 1573) (by decide +kernel), List.mem_of_getElem? (i := 1574) (by decide +kernel)⟩
theorem lw_p52 : lw_okq (⟨"DreamTestsModel", "plain", "(II)I"⟩, 57) := ⟨⟨by decide +kernel, by decide +kernel⟩, List.mem_of_getElem? (i := 1263) (by decide +kernel), List.mem_of_getElem? (i := 1577) (by decide +kernel), List.mem_of_getElem? (i := 1578) (by decide +kernel)⟩
theorem lw_p53 : lw_okq (⟨"DreamTestsModel", "likes", "(I)J"⟩, 57) := ⟨⟨by decide +kernel, by decide +kernel⟩, List.mem_of_getElem? (i := 1263) (by decide +kernel), List.mem_of_getElem? (i := 1589) (by decide +kernel), List.mem_of_getElem? (i := 1590) (by decide +kernel)⟩
theorem lw_p54 : lw_okq (⟨"DreamTestsModel", "places", "()I"⟩, 57) := ⟨⟨by decide +kernel, by decide +kernel⟩, List.mem_of_getElem? (i := 1263) (by decide +kernel), List.mem_of_getElem? (i := 1593) (by decide +kernel), List.mem_of_getElem? (i := 1594) (by decide +kernel)⟩
theorem lw_p55 : lw_okq (⟨"DreamTestsModel", "weightOf", "(I)I"⟩, 57) := ⟨⟨by decide +kernel, by decide +kernel⟩, List.mem_of_getElem? (i := 1263) (by decide +kernel), List.mem_of_getElem? (i := 1597) (by decide +kernel), List.mem_of_getElem? (i := 1598) (by decide +kernel)⟩
theorem lw_p56 : lw_okq (⟨"DreamTestsModel", "keep", "()V"⟩, 57) := ⟨⟨by decide +kernel, by decide +kernel⟩, List.mem_of_getElem? (i := 1263) (by decide +kernel), List.mem_of_getElem? (i := 1601) (by decide +kernel), List.mem_of_getElem? (i := 1602) (by decide +kernel)⟩
theorem lw_p57 : lw_okq (⟨"DreamTestsModel", "throwsIf", "(Z)Z"⟩, 57) := ⟨⟨by decide +kernel, by decide +kernel⟩, List.mem_of_getElem? (i := 1263) (by decide +kernel), List.mem_of_getElem? (i := 1620) (by decide +kernel), List.mem_of_getElem? (i := 1621) (by decide +kernel)⟩
theorem lw_p58 : lw_okq (⟨"DreamTestsModel", "isUp", "()Z"⟩, 57) := ⟨⟨by decide +kernel, by decide +kernel⟩, List.mem_of_getElem? (i := 1263) (by decide +kernel), List.mem_of_getElem? (i := 1642) (by decide +kernel), List.mem_of_getElem? (i := 1643) (by decide +kernel)⟩
theorem lw_p59 : lw_okq (⟨"DreamTestsModel", "goods", "()I"⟩, 57) := ⟨⟨by decide +kernel, by decide +kernel⟩, List.mem_of_getElem? (i := 1263) (by decide +kernel), List.mem_of_getElem? (i := 1658) (by decide +kernel), List.mem_of_getElem? (i := 1659) (by decide +kernel)⟩
theorem lw_p60 : lw_okq (⟨"DreamTestsModel", "areTests", "(I)Z"⟩, 57) := ⟨⟨by decide +kernel, by decide +kernel⟩, List.mem_of_getElem? (i := 1263) (by decide +kernel), List.mem_of_getElem? (i := 1673) (by decide +kernel), List.mem_of_getElem? (i := 1674) (by decide +kernel)⟩
theorem lw_p61 : lw_okq (⟨"DreamTestsModel", "errorOf", "(I)J"⟩, 57) := ⟨⟨by decide +kernel, by decide +kernel⟩, List.mem_of_getElem? (i := 1263) (by decide +kernel), List.mem_of_getElem? (i := 1677) (by decide +kernel), List.mem_of_getElem? (i := 1678) (by decide +kernel)⟩
theorem lw_p62 : lw_okq (⟨"DreamTestsModel", "allWeights", "()I"⟩, 57) := ⟨⟨by decide +kernel, by decide +kernel⟩, List.mem_of_getElem? (i := 1263) (by decide +kernel), List.mem_of_getElem? (i := 1684) (by decide +kernel), List.mem_of_getElem? (i := 1685) (by decide +kernel)⟩
theorem lw_p63 : lw_okq (⟨"DreamTestsModel", "power", "(II)J"⟩, 57) := ⟨⟨by decide +kernel, by decide +kernel⟩, List.mem_of_getElem? (i := 1263) (by decide +kernel), List.mem_of_getElem? (i := 1688) (by decide +kernel), List.mem_of_getElem? (i := 1689) (by decide +kernel)⟩
def lw_privs_4 : List (MethodName × Nat) := [(⟨"DreamTestsModel", "isTest", "(I)Z"⟩, 57), (⟨"DreamTestsModel", "timesOf", "(II)I"⟩, 57), (⟨"DreamTestsModel", "isDream", "(I)Z"⟩, 57), (⟨"DreamTestsModel", "oddsOf", "(III)I"⟩, 57), (⟨"DreamTestsModel", "plain", "(II)I"⟩, 57), (⟨"DreamTestsModel", "likes", "(I)J"⟩, 57), (⟨"DreamTestsModel", "places", "()I"⟩, 57), (⟨"DreamTestsModel", "weightOf", "(I)I"⟩, 57), (⟨"DreamTestsModel", "keep", "()V"⟩, 57), (⟨"DreamTestsModel", "throwsIf", "(Z)Z"⟩, 57), (⟨"DreamTestsModel", "isUp", "()Z"⟩, 57), (⟨"DreamTestsModel", "goods", "()I"⟩, 57), (⟨"DreamTestsModel", "areTests", "(I)Z"⟩, 57), (⟨"DreamTestsModel", "errorOf", "(I)J"⟩, 57), (⟨"DreamTestsModel", "allWeights", "()I"⟩, 57), (⟨"DreamTestsModel", "power", "(II)J"⟩, 57)]
theorem lw_r4 : ∀ q ∈ lw_privs_4, lw_okq q := List.forall_mem_cons.mpr ⟨lw_p48, List.forall_mem_cons.mpr ⟨lw_p49, List.forall_mem_cons.mpr ⟨lw_p50, List.forall_mem_cons.mpr ⟨lw_p51, List.forall_mem_cons.mpr ⟨lw_p52, List.forall_mem_cons.mpr ⟨lw_p53, List.forall_mem_cons.mpr ⟨lw_p54, List.forall_mem_cons.mpr ⟨lw_p55, List.forall_mem_cons.mpr ⟨lw_p56, List.forall_mem_cons.mpr ⟨lw_p57, List.forall_mem_cons.mpr ⟨lw_p58, List.forall_mem_cons.mpr ⟨lw_p59, List.forall_mem_cons.mpr ⟨lw_p60, List.forall_mem_cons.mpr ⟨lw_p61, List.forall_mem_cons.mpr ⟨lw_p62, List.forall_mem_cons.mpr ⟨lw_p63, fun _ h => absurd h List.not_mem_nil⟩⟩⟩⟩⟩⟩⟩⟩⟩⟩⟩⟩⟩⟩⟩⟩
theorem lw_p64 : lw_okq (⟨"DreamTestsModel", "areCosts", "(I)Z"⟩, 57) := ⟨⟨by decide +kernel, by decide +kernel⟩, List.mem_of_getElem? (i := 1263) (by decide +kernel), List.mem_of_getElem? (i := 1700) (by decide +kernel), List.mem_of_getElem? (i := 1701) (by decide +kernel)⟩
theorem lw_p65 : lw_okq (⟨"DreamTestsModel", "costsBy", "(I)V"⟩, 57) := ⟨⟨by decide +kernel, by decide +kernel⟩, List.mem_of_getElem? (i := 1263) (by decide +kernel), List.mem_of_getElem? (i := 1704) (by decide +kernel), List.mem_of_getElem? (i := 1705) (by decide +kernel)⟩
theorem lw_p66 : lw_okq (⟨"DreamTestsModel", "askedIn", "(I)I"⟩, 57) := ⟨⟨by decide +kernel, by decide +kernel⟩, List.mem_of_getElem? (i := 1263) (by decide +kernel), List.mem_of_getElem? (i := 1708) (by decide +kernel), List.mem_of_getElem? (i := 1709) (by decide +kernel)⟩
theorem lw_p67 : lw_okq (⟨"DreamTestsModel", "digit", "(II)I"⟩, 57) := ⟨⟨by decide +kernel, by decide +kernel⟩, List.mem_of_getElem? (i := 1263) (by decide +kernel), List.mem_of_getElem? (i := 1712) (by decide +kernel), List.mem_of_getElem? (i := 1713) (by decide +kernel)⟩
theorem lw_p68 : lw_okq (⟨"DreamTestsModel", "weighs", "(I)V"⟩, 57) := ⟨⟨by decide +kernel, by decide +kernel⟩, List.mem_of_getElem? (i := 1263) (by decide +kernel), List.mem_of_getElem? (i := 1716) (by decide +kernel), List.mem_of_getElem? (i := 1717) (by decide +kernel)⟩
theorem lw_p69 : lw_okq (⟨"DreamTestsModel", "putWord", "(J)V"⟩, 57) := ⟨⟨by decide +kernel, by decide +kernel⟩, List.mem_of_getElem? (i := 1263) (by decide +kernel), List.mem_of_getElem? (i := 1728) (by decide +kernel), List.mem_of_getElem? (i := 1729) (by decide +kernel)⟩
theorem lw_p70 : lw_okq (⟨"DreamTestsModel", "put", "(I)V"⟩, 57) := ⟨⟨by decide +kernel, by decide +kernel⟩, List.mem_of_getElem? (i := 1263) (by decide +kernel), List.mem_of_getElem? (i := 1732) (by decide +kernel), List.mem_of_getElem? (i := 1733) (by decide +kernel)⟩
theorem lw_p71 : lw_okq (⟨"DreamTestsModel", "isUpCheap", "()Z"⟩, 57) := ⟨⟨by decide +kernel, by decide +kernel⟩, List.mem_of_getElem? (i := 1263) (by decide +kernel), List.mem_of_getElem? (i := 1737) (by decide +kernel), List.mem_of_getElem? (i := 1738) (by decide +kernel)⟩
theorem lw_p72 : lw_okq (⟨"DreamTestsModel", "readTree", "()Z"⟩, 57) := ⟨⟨by decide +kernel, by decide +kernel⟩, List.mem_of_getElem? (i := 1263) (by decide +kernel), List.mem_of_getElem? (i := 1749) (by decide +kernel), List.mem_of_getElem? (i := 1750) (by decide +kernel)⟩
theorem lw_p73 : lw_okq (⟨"DreamTestsModel", "opensTest", "()Z"⟩, 57) := ⟨⟨by decide +kernel, by decide +kernel⟩, List.mem_of_getElem? (i := 1263) (by decide +kernel), List.mem_of_getElem? (i := 1753) (by decide +kernel), List.mem_of_getElem? (i := 1754) (by decide +kernel)⟩
theorem lw_p74 : lw_okq (⟨"DreamTestsModel", "hangs", "(I)V"⟩, 57) := ⟨⟨by decide +kernel, by decide +kernel⟩, List.mem_of_getElem? (i := 1263) (by decide +kernel), List.mem_of_getElem? (i := 1757) (by decide +kernel), List.mem_of_getElem? (i := 1758) (by decide +kernel)⟩
theorem lw_p75 : lw_okq (⟨"DreamTestsModel", "endCost", "(I)J"⟩, 57) := ⟨⟨by decide +kernel, by decide +kernel⟩, List.mem_of_getElem? (i := 1263) (by decide +kernel), List.mem_of_getElem? (i := 1765) (by decide +kernel), List.mem_of_getElem? (i := 1766) (by decide +kernel)⟩
theorem lw_p76 : lw_okq (⟨"DreamTestsModel", "hasLot", "()Z"⟩, 57) := ⟨⟨by decide +kernel, by decide +kernel⟩, List.mem_of_getElem? (i := 1263) (by decide +kernel), List.mem_of_getElem? (i := 1777) (by decide +kernel), List.mem_of_getElem? (i := 1778) (by decide +kernel)⟩
theorem lw_p77 : lw_okq (⟨"DreamTestsModel", "nightLine", "()Z"⟩, 57) := ⟨⟨by decide +kernel, by decide +kernel⟩, List.mem_of_getElem? (i := 1263) (by decide +kernel), List.mem_of_getElem? (i := 1811) (by decide +kernel), List.mem_of_getElem? (i := 1812) (by decide +kernel)⟩
theorem lw_p78 : lw_okq (⟨"DreamTestsModel", "tries", "()V"⟩, 57) := ⟨⟨by decide +kernel, by decide +kernel⟩, List.mem_of_getElem? (i := 1263) (by decide +kernel), List.mem_of_getElem? (i := 1815) (by decide +kernel), List.mem_of_getElem? (i := 1816) (by decide +kernel)⟩
theorem lw_p79 : lw_okq (⟨"DreamTestsModel", "wrongIn", "(II)I"⟩, 57) := ⟨⟨by decide +kernel, by decide +kernel⟩, List.mem_of_getElem? (i := 1263) (by decide +kernel), List.mem_of_getElem? (i := 1819) (by decide +kernel), List.mem_of_getElem? (i := 1820) (by decide +kernel)⟩
def lw_privs_5 : List (MethodName × Nat) := [(⟨"DreamTestsModel", "areCosts", "(I)Z"⟩, 57), (⟨"DreamTestsModel", "costsBy", "(I)V"⟩, 57), (⟨"DreamTestsModel", "askedIn", "(I)I"⟩, 57), (⟨"DreamTestsModel", "digit", "(II)I"⟩, 57), (⟨"DreamTestsModel", "weighs", "(I)V"⟩, 57), (⟨"DreamTestsModel", "putWord", "(J)V"⟩, 57), (⟨"DreamTestsModel", "put", "(I)V"⟩, 57), (⟨"DreamTestsModel", "isUpCheap", "()Z"⟩, 57), (⟨"DreamTestsModel", "readTree", "()Z"⟩, 57), (⟨"DreamTestsModel", "opensTest", "()Z"⟩, 57), (⟨"DreamTestsModel", "hangs", "(I)V"⟩, 57), (⟨"DreamTestsModel", "endCost", "(I)J"⟩, 57), (⟨"DreamTestsModel", "hasLot", "()Z"⟩, 57), (⟨"DreamTestsModel", "nightLine", "()Z"⟩, 57), (⟨"DreamTestsModel", "tries", "()V"⟩, 57), (⟨"DreamTestsModel", "wrongIn", "(II)I"⟩, 57)]
theorem lw_r5 : ∀ q ∈ lw_privs_5, lw_okq q := List.forall_mem_cons.mpr ⟨lw_p64, List.forall_mem_cons.mpr ⟨lw_p65, List.forall_mem_cons.mpr ⟨lw_p66, List.forall_mem_cons.mpr ⟨lw_p67, List.forall_mem_cons.mpr ⟨lw_p68, List.forall_mem_cons.mpr ⟨lw_p69, List.forall_mem_cons.mpr ⟨lw_p70, List.forall_mem_cons.mpr ⟨lw_p71, List.forall_mem_cons.mpr ⟨lw_p72, List.forall_mem_cons.mpr ⟨lw_p73, List.forall_mem_cons.mpr ⟨lw_p74, List.forall_mem_cons.mpr ⟨lw_p75, List.forall_mem_cons.mpr ⟨lw_p76, List.forall_mem_cons.mpr ⟨lw_p77, List.forall_mem_cons.mpr ⟨lw_p78, List.forall_mem_cons.mpr ⟨lw_p79, fun _ h => absurd h List.not_mem_nil⟩⟩⟩⟩⟩⟩⟩⟩⟩⟩⟩⟩⟩⟩⟩⟩
theorem lw_p80 : lw_okq (⟨"DreamTestsModel", "adds", "(I)V"⟩, 57) := ⟨⟨by decide +kernel, by decide +kernel⟩, List.mem_of_getElem? (i := 1263) (by decide +kernel), List.mem_of_getElem? (i := 1823) (by decide +kernel), List.mem_of_getElem? (i := 1824) (by decide +kernel)⟩
theorem lw_p81 : lw_okq (⟨"DreamTestsModel", "back", "()V"⟩, 57) := ⟨⟨by decide +kernel, by decide +kernel⟩, List.mem_of_getElem? (i := 1263) (by decide +kernel), List.mem_of_getElem? (i := 1827) (by decide +kernel), List.mem_of_getElem? (i := 1828) (by decide +kernel)⟩
theorem lw_p82 : lw_okq (⟨"DreamTestsModel", "areDrawn", "(I)Z"⟩, 57) := ⟨⟨by decide +kernel, by decide +kernel⟩, List.mem_of_getElem? (i := 1263) (by decide +kernel), List.mem_of_getElem? (i := 1839) (by decide +kernel), List.mem_of_getElem? (i := 1840) (by decide +kernel)⟩
theorem lw_p83 : lw_okq (⟨"DreamTestsModel", "draws", "(II)I"⟩, 57) := ⟨⟨by decide +kernel, by decide +kernel⟩, List.mem_of_getElem? (i := 1263) (by decide +kernel), List.mem_of_getElem? (i := 1843) (by decide +kernel), List.mem_of_getElem? (i := 1844) (by decide +kernel)⟩
theorem lw_p84 : lw_okq (⟨"DreamTestsModel", "draw", "(I)I"⟩, 57) := ⟨⟨by decide +kernel, by decide +kernel⟩, List.mem_of_getElem? (i := 1263) (by decide +kernel), List.mem_of_getElem? (i := 1847) (by decide +kernel), List.mem_of_getElem? (i := 1848) (by decide +kernel)⟩
theorem lw_p85 : lw_okq (⟨"DreamTestsModel", "nots", "()V"⟩, 57) := ⟨⟨by decide +kernel, by decide +kernel⟩, List.mem_of_getElem? (i := 1263) (by decide +kernel), List.mem_of_getElem? (i := 1860) (by decide +kernel), List.mem_of_getElem? (i := 1861) (by decide +kernel)⟩
theorem lw_p86 : lw_okq (⟨"DreamTestsModel", "code", "(III)V"⟩, 57) := ⟨⟨by decide +kernel, by decide +kernel⟩, List.mem_of_getElem? (i := 1263) (by decide +kernel), List.mem_of_getElem? (i := 1864) (by decide +kernel), List.mem_of_getElem? (i := 1865) (by decide +kernel)⟩
theorem lw_p87 : lw_okq (⟨"DreamTestsModel", "joins", "(I)V"⟩, 57) := ⟨⟨by decide +kernel, by decide +kernel⟩, List.mem_of_getElem? (i := 1263) (by decide +kernel), List.mem_of_getElem? (i := 1868) (by decide +kernel), List.mem_of_getElem? (i := 1869) (by decide +kernel)⟩
theorem lw_p88 : lw_okq (⟨"DreamTestsModel", "behind", "()Z"⟩, 57) := ⟨⟨by decide +kernel, by decide +kernel⟩, List.mem_of_getElem? (i := 1263) (by decide +kernel), List.mem_of_getElem? (i := 1872) (by decide +kernel), List.mem_of_getElem? (i := 1873) (by decide +kernel)⟩
theorem lw_p89 : lw_okq (⟨"DreamTestsModel", "operand", "()Z"⟩, 57) := ⟨⟨by decide +kernel, by decide +kernel⟩, List.mem_of_getElem? (i := 1263) (by decide +kernel), List.mem_of_getElem? (i := 1876) (by decide +kernel), List.mem_of_getElem? (i := 1877) (by decide +kernel)⟩
theorem lw_p90 : lw_okq (⟨"DreamTestsModel", "leafOf", "()I"⟩, 57) := ⟨⟨by decide +kernel, by decide +kernel⟩, List.mem_of_getElem? (i := 1263) (by decide +kernel), List.mem_of_getElem? (i := 1880) (by decide +kernel), List.mem_of_getElem? (i := 1881) (by decide +kernel)⟩
theorem lw_p91 : lw_okq (⟨"DreamTestsModel", "isSaid", "(I)Z"⟩, 57) := ⟨⟨by decide +kernel, by decide +kernel⟩, List.mem_of_getElem? (i := 1263) (by decide +kernel), List.mem_of_getElem? (i := 1888) (by decide +kernel), List.mem_of_getElem? (i := 1889) (by decide +kernel)⟩
theorem lw_p92 : lw_okq (⟨"DreamTestsModel", "isLeaf", "(IIII)Z"⟩, 57) := ⟨⟨by decide +kernel, by decide +kernel⟩, List.mem_of_getElem? (i := 1263) (by decide +kernel), List.mem_of_getElem? (i := 1892) (by decide +kernel), List.mem_of_getElem? (i := 1893) (by decide +kernel)⟩
def lw_privs_6 : List (MethodName × Nat) := [(⟨"DreamTestsModel", "adds", "(I)V"⟩, 57), (⟨"DreamTestsModel", "back", "()V"⟩, 57), (⟨"DreamTestsModel", "areDrawn", "(I)Z"⟩, 57), (⟨"DreamTestsModel", "draws", "(II)I"⟩, 57), (⟨"DreamTestsModel", "draw", "(I)I"⟩, 57), (⟨"DreamTestsModel", "nots", "()V"⟩, 57), (⟨"DreamTestsModel", "code", "(III)V"⟩, 57), (⟨"DreamTestsModel", "joins", "(I)V"⟩, 57), (⟨"DreamTestsModel", "behind", "()Z"⟩, 57), (⟨"DreamTestsModel", "operand", "()Z"⟩, 57), (⟨"DreamTestsModel", "leafOf", "()I"⟩, 57), (⟨"DreamTestsModel", "isSaid", "(I)Z"⟩, 57), (⟨"DreamTestsModel", "isLeaf", "(IIII)Z"⟩, 57)]
theorem lw_r6 : ∀ q ∈ lw_privs_6, lw_okq q := List.forall_mem_cons.mpr ⟨lw_p80, List.forall_mem_cons.mpr ⟨lw_p81, List.forall_mem_cons.mpr ⟨lw_p82, List.forall_mem_cons.mpr ⟨lw_p83, List.forall_mem_cons.mpr ⟨lw_p84, List.forall_mem_cons.mpr ⟨lw_p85, List.forall_mem_cons.mpr ⟨lw_p86, List.forall_mem_cons.mpr ⟨lw_p87, List.forall_mem_cons.mpr ⟨lw_p88, List.forall_mem_cons.mpr ⟨lw_p89, List.forall_mem_cons.mpr ⟨lw_p90, List.forall_mem_cons.mpr ⟨lw_p91, List.forall_mem_cons.mpr ⟨lw_p92, fun _ h => absurd h List.not_mem_nil⟩⟩⟩⟩⟩⟩⟩⟩⟩⟩⟩⟩⟩
def lw_privs : List (MethodName × Nat) := lw_privs_1 ++ (lw_privs_2 ++ (lw_privs_3 ++ (lw_privs_4 ++ (lw_privs_5 ++ (lw_privs_6)))))
def lw_tbl : List Cond := k2_sels lw_privs ++ tables_1
theorem lw_privs_ok : ∀ q ∈ lw_privs, lw_okq q := by
  show ∀ q ∈ lw_privs_1 ++ (lw_privs_2 ++ (lw_privs_3 ++ (lw_privs_4 ++ (lw_privs_5 ++ (lw_privs_6))))), lw_okq q
  exact List.forall_mem_append.mpr ⟨lw_r1, List.forall_mem_append.mpr ⟨lw_r2, List.forall_mem_append.mpr ⟨lw_r3, List.forall_mem_append.mpr ⟨lw_r4, List.forall_mem_append.mpr ⟨lw_r5, lw_r6⟩⟩⟩⟩⟩

def RX0 : String := "DreamTests$Book"
def TX0 : u_T := fun k => match k with
  | 0 => ("DreamTests$Book", "lines", "I", false)
  | 1 => ("DreamTests$Book", "tests", "I", false)
  | 2 => ("DreamTests$Book", "dreams", "I", false)
  | 3 => ("DreamTests$Book", "told", "I", false)
  | 4 => ("DreamTests$Book", "settings", "[I", true)
  | 5 => ("DreamTests$Book", "testNames", "[J", true)
  | 6 => ("DreamTests$Book", "rooms", "[I", true)
  | 7 => ("DreamTests$Book", "dreamings", "[I", true)
  | 8 => ("DreamTests$Book", "dreamNames", "[J", true)
  | 9 => ("DreamTests$Book", "weights", "[I", true)
  | _ => ("DreamTests$Book", "keeps", "[I", true)
def tyX0 : Nat → FieldType := fun k => match k with
  | 0 => .int
  | 1 => .int
  | 2 => .int
  | 3 => .int
  | 4 => .array .int
  | 5 => .array .long
  | 6 => .array .int
  | 7 => .array .int
  | 8 => .array .long
  | 9 => .array .int
  | _ => .array .int
theorem nmX0 : ∀ a, a < 11 → ∀ b, b < 11 → a ≠ b → (TX0 a).2.1 ≠ (TX0 b).2.1 := by decide +kernel
theorem tyX0_ok : ∀ k, k < 11 → parseFieldDescriptor (TX0 k).2.2.1 = some (tyX0 k) := by decide +kernel
abbrev cX0_init : ByteArray := prog_2_method_1_code
def yX0_init : MethodName := ⟨RX0, "<init>", "()V"⟩
abbrev cX0_readLines : ByteArray := prog_2_method_2_code
def yX0_readLines : MethodName := ⟨RX0, "readLines", "(LDreamTests$Reader;)Z"⟩
abbrev cX0_readLine : ByteArray := prog_2_method_3_code
def yX0_readLine : MethodName := ⟨RX0, "readLine", "(LDreamTests$Reader;)Z"⟩
abbrev cX0_readTest : ByteArray := prog_2_method_4_code
def yX0_readTest : MethodName := ⟨RX0, "readTest", "(LDreamTests$Reader;)Z"⟩
abbrev cX0_readDream : ByteArray := prog_2_method_5_code
def yX0_readDream : MethodName := ⟨RX0, "readDream", "(LDreamTests$Reader;)Z"⟩
abbrev cX0_readKept : ByteArray := prog_2_method_6_code
def yX0_readKept : MethodName := ⟨RX0, "readKept", "(LDreamTests$Reader;)I"⟩
abbrev cX0_readSetting : ByteArray := prog_2_method_7_code
def yX0_readSetting : MethodName := ⟨RX0, "readSetting", "(LDreamTests$Reader;LDreamTests$Word;)Z"⟩
abbrev cX0_takeNewName : ByteArray := prog_2_method_8_code
def yX0_takeNewName : MethodName := ⟨RX0, "takeNewName", "(LDreamTests$Reader;)Z"⟩
abbrev cX0_testNamed : ByteArray := prog_2_method_9_code
def yX0_testNamed : MethodName := ⟨RX0, "testNamed", "(J)I"⟩
abbrev cX0_dreamNamed : ByteArray := prog_2_method_10_code
def yX0_dreamNamed : MethodName := ⟨RX0, "dreamNamed", "(J)I"⟩
abbrev cX0_hasTest : ByteArray := prog_2_method_11_code
def yX0_hasTest : MethodName := ⟨RX0, "hasTest", "(I)Z"⟩
abbrev cX0_hasTests : ByteArray := prog_2_method_12_code
def yX0_hasTests : MethodName := ⟨RX0, "hasTests", "(I)Z"⟩
abbrev cX0_hasDream : ByteArray := prog_2_method_13_code
def yX0_hasDream : MethodName := ⟨RX0, "hasDream", "(I)Z"⟩
abbrev cX0_setting : ByteArray := prog_2_method_14_code
def yX0_setting : MethodName := ⟨RX0, "setting", "(I)I"⟩
abbrev cX0_nameOf : ByteArray := prog_2_method_15_code
def yX0_nameOf : MethodName := ⟨RX0, "nameOf", "(I)J"⟩
abbrev cX0_inRoom : ByteArray := prog_2_method_16_code
def yX0_inRoom : MethodName := ⟨RX0, "inRoom", "(I)I"⟩
abbrev cX0_inDream : ByteArray := prog_2_method_17_code
def yX0_inDream : MethodName := ⟨RX0, "inDream", "(I)I"⟩
abbrev cX0_weightOf : ByteArray := prog_2_method_18_code
def yX0_weightOf : MethodName := ⟨RX0, "weightOf", "(I)I"⟩
abbrev cX0_allWeights : ByteArray := prog_2_method_19_code
def yX0_allWeights : MethodName := ⟨RX0, "allWeights", "()I"⟩
abbrev cX0_keptIn : ByteArray := prog_2_method_20_code
def yX0_keptIn : MethodName := ⟨RX0, "keptIn", "(I)I"⟩
abbrev cX0_keepersOf : ByteArray := prog_2_method_21_code
def yX0_keepersOf : MethodName := ⟨RX0, "keepersOf", "(I)I"⟩
abbrev cX0_plainChance : ByteArray := prog_2_method_22_code
def yX0_plainChance : MethodName := ⟨RX0, "plainChance", "(II)I"⟩
abbrev cX0_goodTests : ByteArray := prog_2_method_23_code
def yX0_goodTests : MethodName := ⟨RX0, "goodTests", "()I"⟩
abbrev cX0_isForgedBy : ByteArray := prog_2_method_24_code
def yX0_isForgedBy : MethodName := ⟨RX0, "isForgedBy", "(I)I"⟩
abbrev cX0_chanceOf : ByteArray := prog_2_method_25_code
def yX0_chanceOf : MethodName := ⟨RX0, "chanceOf", "(III)J"⟩
abbrev cX0_mistakes : ByteArray := prog_2_method_26_code
def yX0_mistakes : MethodName := ⟨RX0, "mistakes", "(I)J"⟩
abbrev cX0_askedByLot : ByteArray := prog_2_method_27_code
def yX0_askedByLot : MethodName := ⟨RX0, "askedByLot", "()I"⟩
abbrev cX0_movingBy : ByteArray := prog_2_method_28_code
def yX0_movingBy : MethodName := ⟨RX0, "movingBy", "(I)I"⟩
abbrev cX0_lotsOf : ByteArray := prog_2_method_29_code
def yX0_lotsOf : MethodName := ⟨RX0, "lotsOf", "(I)J"⟩
abbrev cX0_canDraw : ByteArray := prog_2_method_30_code
def yX0_canDraw : MethodName := ⟨RX0, "canDraw", "(I)Z"⟩
def RX1 : String := "DreamTests$Bytes"
def TX1 : u_T := fun k => match k with
  | 0 => ("DreamTests$Bytes", "bytes", "[B", true)
  | _ => ("DreamTests$Bytes", "size", "I", false)
def tyX1 : Nat → FieldType := fun k => match k with
  | 0 => .array .byte
  | _ => .int
theorem nmX1 : ∀ a, a < 2 → ∀ b, b < 2 → a ≠ b → (TX1 a).2.1 ≠ (TX1 b).2.1 := by decide +kernel
theorem tyX1_ok : ∀ k, k < 2 → parseFieldDescriptor (TX1 k).2.2.1 = some (tyX1 k) := by decide +kernel
abbrev cX1_init : ByteArray := prog_3_method_1_code
def yX1_init : MethodName := ⟨RX1, "<init>", "()V"⟩
abbrev cX1_left : ByteArray := prog_3_method_2_code
def yX1_left : MethodName := ⟨RX1, "left", "()I"⟩
abbrev cX1_at : ByteArray := prog_3_method_3_code
def yX1_at : MethodName := ⟨RX1, "at", "(I)I"⟩
abbrev cX1_put : ByteArray := prog_3_method_4_code
def yX1_put : MethodName := ⟨RX1, "put", "(I)V"⟩
abbrev cX1_putNumber : ByteArray := prog_3_method_5_code
def yX1_putNumber : MethodName := ⟨RX1, "putNumber", "(I)V"⟩
abbrev cX1_putText : ByteArray := prog_3_method_6_code
def yX1_putText : MethodName := ⟨RX1, "putText", "(Ljava/lang/String;)V"⟩
abbrev cX1_putName : ByteArray := prog_3_method_7_code
def yX1_putName : MethodName := ⟨RX1, "putName", "(J)V"⟩
def RX2 : String := "DreamTests$Night"
def TX2 : u_T := fun k => match k with
  | 0 => ("DreamTests$Night", "book", "LDreamTests$Book;", false)
  | 1 => ("DreamTests$Night", "asked", "I", false)
  | 2 => ("DreamTests$Night", "answers", "[I", true)
  | 3 => ("DreamTests$Night", "times", "[I", true)
  | 4 => ("DreamTests$Night", "likely", "[J", true)
  | _ => ("DreamTests$Night", "x", "I", false)
def tyX2 : Nat → FieldType := fun k => match k with
  | 0 => .object "DreamTests$Book"
  | 1 => .int
  | 2 => .array .int
  | 3 => .array .int
  | 4 => .array .long
  | _ => .int
theorem nmX2 : ∀ a, a < 6 → ∀ b, b < 6 → a ≠ b → (TX2 a).2.1 ≠ (TX2 b).2.1 := by decide +kernel
theorem tyX2_ok : ∀ k, k < 6 → parseFieldDescriptor (TX2 k).2.2.1 = some (tyX2 k) := by decide +kernel
abbrev cX2_init : ByteArray := prog_4_method_1_code
def yX2_init : MethodName := ⟨RX2, "<init>", "(LDreamTests$Book;)V"⟩
abbrev cX2_begin : ByteArray := prog_4_method_2_code
def yX2_begin : MethodName := ⟨RX2, "begin", "(LDreamTests$Book;)V"⟩
abbrev cX2_copy : ByteArray := prog_4_method_3_code
def yX2_copy : MethodName := ⟨RX2, "copy", "(LDreamTests$Night;)V"⟩
abbrev cX2_isFull : ByteArray := prog_4_method_4_code
def yX2_isFull : MethodName := ⟨RX2, "isFull", "()Z"⟩
abbrev cX2_answerAt : ByteArray := prog_4_method_5_code
def yX2_answerAt : MethodName := ⟨RX2, "answerAt", "(I)I"⟩
abbrev cX2_timesAsked : ByteArray := prog_4_method_6_code
def yX2_timesAsked : MethodName := ⟨RX2, "timesAsked", "(I)I"⟩
abbrev cX2_ofPlace : ByteArray := prog_4_method_7_code
def yX2_ofPlace : MethodName := ⟨RX2, "ofPlace", "(I)J"⟩
abbrev cX2_ofRoom : ByteArray := prog_4_method_8_code
def yX2_ofRoom : MethodName := ⟨RX2, "ofRoom", "()J"⟩
abbrev cX2_ofDreams : ByteArray := prog_4_method_9_code
def yX2_ofDreams : MethodName := ⟨RX2, "ofDreams", "()J"⟩
abbrev cX2_ofAll : ByteArray := prog_4_method_10_code
def yX2_ofAll : MethodName := ⟨RX2, "ofAll", "()J"⟩
abbrev cX2_chance : ByteArray := prog_4_method_11_code
def yX2_chance : MethodName := ⟨RX2, "chance", "(II)I"⟩
abbrev cX2_chanceOf : ByteArray := prog_4_method_12_code
def yX2_chanceOf : MethodName := ⟨RX2, "chanceOf", "(III)I"⟩
abbrev cX2_canBe : ByteArray := prog_4_method_13_code
def yX2_canBe : MethodName := ⟨RX2, "canBe", "(II)Z"⟩
abbrev cX2_add : ByteArray := prog_4_method_14_code
def yX2_add : MethodName := ⟨RX2, "add", "(II)V"⟩
abbrev cX2_getsUp : ByteArray := prog_4_method_15_code
def yX2_getsUp : MethodName := ⟨RX2, "getsUp", "()Z"⟩
abbrev cX2_isWronglySure : ByteArray := prog_4_method_16_code
def yX2_isWronglySure : MethodName := ⟨RX2, "isWronglySure", "(I)Z"⟩
abbrev cX2_knownBehind : ByteArray := prog_4_method_17_code
def yX2_knownBehind : MethodName := ⟨RX2, "knownBehind", "(I)J"⟩
abbrev cX2_draw : ByteArray := prog_4_method_18_code
def yX2_draw : MethodName := ⟨RX2, "draw", "(II)I"⟩
abbrev cX2_drawPlace : ByteArray := prog_4_method_19_code
def yX2_drawPlace : MethodName := ⟨RX2, "drawPlace", "()I"⟩
abbrev cX2_drawBelow : ByteArray := prog_4_method_20_code
def yX2_drawBelow : MethodName := ⟨RX2, "drawBelow", "(I)I"⟩
def RX3 : String := "DreamTests$Nights"
def TX3 : u_T := fun k => match k with
  | 0 => ("DreamTests$Nights", "acts", "[I", true)
  | 1 => ("DreamTests$Nights", "values", "[I", true)
  | 2 => ("DreamTests$Nights", "lines", "I", false)
  | 3 => ("DreamTests$Nights", "asked", "I", false)
  | 4 => ("DreamTests$Nights", "where", "I", false)
  | 5 => ("DreamTests$Nights", "why", "I", false)
  | 6 => ("DreamTests$Nights", "began", "I", false)
  | _ => ("DreamTests$Nights", "answers", "I", false)
def tyX3 : Nat → FieldType := fun k => match k with
  | 0 => .array .int
  | 1 => .array .int
  | 2 => .int
  | 3 => .int
  | 4 => .int
  | 5 => .int
  | 6 => .int
  | _ => .int
theorem nmX3 : ∀ a, a < 8 → ∀ b, b < 8 → a ≠ b → (TX3 a).2.1 ≠ (TX3 b).2.1 := by decide +kernel
theorem tyX3_ok : ∀ k, k < 8 → parseFieldDescriptor (TX3 k).2.2.1 = some (tyX3 k) := by decide +kernel
abbrev cX3_init : ByteArray := prog_5_method_1_code
def yX3_init : MethodName := ⟨RX3, "<init>", "()V"⟩
abbrev cX3_readLines : ByteArray := prog_5_method_2_code
def yX3_readLines : MethodName := ⟨RX3, "readLines", "(LDreamTests$Reader;LDreamTests$Book;)Z"⟩
abbrev cX3_readLine : ByteArray := prog_5_method_3_code
def yX3_readLine : MethodName := ⟨RX3, "readLine", "(LDreamTests$Reader;LDreamTests$Book;)Z"⟩
abbrev cX3_readIn : ByteArray := prog_5_method_4_code
def yX3_readIn : MethodName := ⟨RX3, "readIn", "(LDreamTests$Reader;LDreamTests$Book;)Z"⟩
abbrev cX3_readAct : ByteArray := prog_5_method_5_code
def yX3_readAct : MethodName := ⟨RX3, "readAct", "(LDreamTests$Reader;I)Z"⟩
abbrev cX3_readAnswer : ByteArray := prog_5_method_6_code
def yX3_readAnswer : MethodName := ⟨RX3, "readAnswer", "(LDreamTests$Reader;LDreamTests$Book;)Z"⟩
abbrev cX3_put : ByteArray := prog_5_method_7_code
def yX3_put : MethodName := ⟨RX3, "put", "(II)V"⟩
abbrev cX3_judge : ByteArray := prog_5_method_8_code
def yX3_judge : MethodName := ⟨RX3, "judge", "(LDreamTests$Night;)I"⟩
abbrev cX3_judgeLine : ByteArray := prog_5_method_9_code
def yX3_judgeLine : MethodName := ⟨RX3, "judgeLine", "(LDreamTests$Night;II)I"⟩
def RX4 : String := "DreamTests$Past"
def TX4 : u_T := fun k => match k with
  | 0 => ("DreamTests$Past", "nights", "[LDreamTests$Night;", true)
  | 1 => ("DreamTests$Past", "latest", "I", false)
  | _ => ("DreamTests$Past", "kept", "I", false)
def tyX4 : Nat → FieldType := fun k => match k with
  | 0 => .array (.object "DreamTests$Night")
  | 1 => .int
  | _ => .int
theorem nmX4 : ∀ a, a < 3 → ∀ b, b < 3 → a ≠ b → (TX4 a).2.1 ≠ (TX4 b).2.1 := by decide +kernel
theorem tyX4_ok : ∀ k, k < 3 → parseFieldDescriptor (TX4 k).2.2.1 = some (tyX4 k) := by decide +kernel
abbrev cX4_init : ByteArray := prog_6_method_1_code
def yX4_init : MethodName := ⟨RX4, "<init>", "(LDreamTests$Book;)V"⟩
abbrev cX4_keep : ByteArray := prog_6_method_2_code
def yX4_keep : MethodName := ⟨RX4, "keep", "(LDreamTests$Night;)V"⟩
abbrev cX4_giveBack : ByteArray := prog_6_method_3_code
def yX4_giveBack : MethodName := ⟨RX4, "giveBack", "(LDreamTests$Night;)Z"⟩
def RX5 : String := "DreamTests$Plan"
def TX5 : u_T := fun k => match k with
  | 0 => ("DreamTests$Plan", "likely", "[[J", true)
  | 1 => ("DreamTests$Plan", "costs", "[J", true)
  | 2 => ("DreamTests$Plan", "choices", "[I", true)
  | 3 => ("DreamTests$Plan", "ups", "[Z", true)
  | 4 => ("DreamTests$Plan", "known", "[Z", true)
  | _ => ("DreamTests$Plan", "book", "LDreamTests$Book;", false)
def tyX5 : Nat → FieldType := fun k => match k with
  | 0 => .array (.array .long)
  | 1 => .array .long
  | 2 => .array .int
  | 3 => .array .boolean
  | 4 => .array .boolean
  | _ => .object "DreamTests$Book"
theorem nmX5 : ∀ a, a < 6 → ∀ b, b < 6 → a ≠ b → (TX5 a).2.1 ≠ (TX5 b).2.1 := by decide +kernel
theorem tyX5_ok : ∀ k, k < 6 → parseFieldDescriptor (TX5 k).2.2.1 = some (tyX5 k) := by decide +kernel
abbrev cX5_init : ByteArray := prog_7_method_1_code
def yX5_init : MethodName := ⟨RX5, "<init>", "(LDreamTests$Book;)V"⟩
abbrev cX5_isFor : ByteArray := prog_7_method_2_code
def yX5_isFor : MethodName := ⟨RX5, "isFor", "(LDreamTests$Book;I)Z"⟩
abbrev cX5_open : ByteArray := prog_7_method_3_code
def yX5_open : MethodName := ⟨RX5, "open", "(LDreamTests$Book;I)V"⟩
abbrev cX5_leastCost : ByteArray := prog_7_method_4_code
def yX5_leastCost : MethodName := ⟨RX5, "leastCost", "()J"⟩
abbrev cX5_firstTest : ByteArray := prog_7_method_5_code
def yX5_firstTest : MethodName := ⟨RX5, "firstTest", "()I"⟩
abbrev cX5_writeTo : ByteArray := prog_7_method_6_code
def yX5_writeTo : MethodName := ⟨RX5, "writeTo", "(LDreamTests$Bytes;)V"⟩
abbrev cX5_isState : ByteArray := prog_7_method_7_code
def yX5_isState : MethodName := ⟨RX5, "isState", "(I)Z"⟩
abbrev cX5_behind : ByteArray := prog_7_method_8_code
def yX5_behind : MethodName := ⟨RX5, "behind", "(III)I"⟩
abbrev cX5_choose : ByteArray := prog_7_method_9_code
def yX5_choose : MethodName := ⟨RX5, "choose", "(III)V"⟩
abbrev cX5_costBehind : ByteArray := prog_7_method_10_code
def yX5_costBehind : MethodName := ⟨RX5, "costBehind", "(IIIII)J"⟩
abbrev cX5_writeWay : ByteArray := prog_7_method_11_code
def yX5_writeWay : MethodName := ⟨RX5, "writeWay", "(LDreamTests$Bytes;II)V"⟩
abbrev cX5_goOn : ByteArray := prog_7_method_12_code
def yX5_goOn : MethodName := ⟨RX5, "goOn", "(III)V"⟩
abbrev cX5_costOfUp : ByteArray := prog_7_method_13_code
def yX5_costOfUp : MethodName := ⟨RX5, "costOfUp", "(I)J"⟩
abbrev cX5_costOfBed : ByteArray := prog_7_method_14_code
def yX5_costOfBed : MethodName := ⟨RX5, "costOfBed", "(I)J"⟩
def RX6 : String := "DreamTests$Reader"
def TX6 : u_T := fun k => match k with
  | 0 => ("DreamTests$Reader", "tape", "LDreamTests$Bytes;", true)
  | 1 => ("DreamTests$Reader", "most", "I", false)
  | 2 => ("DreamTests$Reader", "ahead", "I", false)
  | 3 => ("DreamTests$Reader", "place", "I", false)
  | 4 => ("DreamTests$Reader", "kind", "I", false)
  | 5 => ("DreamTests$Reader", "number", "I", false)
  | 6 => ("DreamTests$Reader", "name", "J", false)
  | 7 => ("DreamTests$Reader", "word", "LDreamTests$Word;", false)
  | _ => ("DreamTests$Reader", "fault", "I", false)
def tyX6 : Nat → FieldType := fun k => match k with
  | 0 => .object "DreamTests$Bytes"
  | 1 => .int
  | 2 => .int
  | 3 => .int
  | 4 => .int
  | 5 => .int
  | 6 => .long
  | 7 => .object "DreamTests$Word"
  | _ => .int
theorem nmX6 : ∀ a, a < 9 → ∀ b, b < 9 → a ≠ b → (TX6 a).2.1 ≠ (TX6 b).2.1 := by decide +kernel
theorem tyX6_ok : ∀ k, k < 9 → parseFieldDescriptor (TX6 k).2.2.1 = some (tyX6 k) := by decide +kernel
abbrev cX6_init : ByteArray := prog_8_method_1_code
def yX6_init : MethodName := ⟨RX6, "<init>", "(LDreamTests$Bytes;)V"⟩
abbrev cX6_open : ByteArray := prog_8_method_2_code
def yX6_open : MethodName := ⟨RX6, "open", "(I)V"⟩
abbrev cX6_advance : ByteArray := prog_8_method_3_code
def yX6_advance : MethodName := ⟨RX6, "advance", "()V"⟩
abbrev cX6_readToken : ByteArray := prog_8_method_4_code
def yX6_readToken : MethodName := ⟨RX6, "readToken", "()V"⟩
abbrev cX6_fail : ByteArray := prog_8_method_5_code
def yX6_fail : MethodName := ⟨RX6, "fail", "(I)Z"⟩
abbrev cX6_isAt : ByteArray := prog_8_method_6_code
def yX6_isAt : MethodName := ⟨RX6, "isAt", "(LDreamTests$Word;)Z"⟩
abbrev cX6_isName : ByteArray := prog_8_method_7_code
def yX6_isName : MethodName := ⟨RX6, "isName", "()Z"⟩
abbrev cX6_take : ByteArray := prog_8_method_8_code
def yX6_take : MethodName := ⟨RX6, "take", "(I)Z"⟩
abbrev cX6_takeEnd : ByteArray := prog_8_method_9_code
def yX6_takeEnd : MethodName := ⟨RX6, "takeEnd", "()Z"⟩
abbrev cX6_takeNumber : ByteArray := prog_8_method_10_code
def yX6_takeNumber : MethodName := ⟨RX6, "takeNumber", "(II)I"⟩
abbrev cX6_testHere : ByteArray := prog_8_method_11_code
def yX6_testHere : MethodName := ⟨RX6, "testHere", "(LDreamTests$Book;)I"⟩
abbrev cX6_dreamHere : ByteArray := prog_8_method_12_code
def yX6_dreamHere : MethodName := ⟨RX6, "dreamHere", "(LDreamTests$Book;)I"⟩
abbrev cX6_withLetter : ByteArray := prog_8_method_13_code
def yX6_withLetter : MethodName := ⟨RX6, "withLetter", "(JI)J"⟩
abbrev cX6_isBlank : ByteArray := prog_8_method_14_code
def yX6_isBlank : MethodName := ⟨RX6, "isBlank", "(I)Z"⟩
abbrev cX6_isLetter : ByteArray := prog_8_method_15_code
def yX6_isLetter : MethodName := ⟨RX6, "isLetter", "(I)Z"⟩
abbrev cX6_isDigit : ByteArray := prog_8_method_16_code
def yX6_isDigit : MethodName := ⟨RX6, "isDigit", "(I)Z"⟩
abbrev cX6_isSign : ByteArray := prog_8_method_17_code
def yX6_isSign : MethodName := ⟨RX6, "isSign", "(I)Z"⟩
abbrev cX6_isOrder : ByteArray := prog_8_method_18_code
def yX6_isOrder : MethodName := ⟨RX6, "isOrder", "(I)Z"⟩
def RX7 : String := "DreamTests$Sentence"
def TX7 : u_T := fun k => match k with
  | 0 => ("DreamTests$Sentence", "steps", "[I", true)
  | 1 => ("DreamTests$Sentence", "sets", "[I", true)
  | 2 => ("DreamTests$Sentence", "stack", "[I", true)
  | 3 => ("DreamTests$Sentence", "size", "I", false)
  | _ => ("DreamTests$Sentence", "ones", "I", false)
def tyX7 : Nat → FieldType := fun k => match k with
  | 0 => .array .int
  | 1 => .array .int
  | 2 => .array .int
  | 3 => .int
  | _ => .int
theorem nmX7 : ∀ a, a < 5 → ∀ b, b < 5 → a ≠ b → (TX7 a).2.1 ≠ (TX7 b).2.1 := by decide +kernel
theorem tyX7_ok : ∀ k, k < 5 → parseFieldDescriptor (TX7 k).2.2.1 = some (tyX7 k) := by decide +kernel
abbrev cX7_init : ByteArray := prog_9_method_1_code
def yX7_init : MethodName := ⟨RX7, "<init>", "()V"⟩
abbrev cX7_readWhole : ByteArray := prog_9_method_2_code
def yX7_readWhole : MethodName := ⟨RX7, "readWhole", "(LDreamTests$Reader;LDreamTests$Book;)Z"⟩
abbrev cX7_readCond : ByteArray := prog_9_method_3_code
def yX7_readCond : MethodName := ⟨RX7, "readCond", "(LDreamTests$Reader;LDreamTests$Book;I)Z"⟩
abbrev cX7_readAll : ByteArray := prog_9_method_4_code
def yX7_readAll : MethodName := ⟨RX7, "readAll", "(LDreamTests$Reader;LDreamTests$Book;I)Z"⟩
abbrev cX7_readOne : ByteArray := prog_9_method_5_code
def yX7_readOne : MethodName := ⟨RX7, "readOne", "(LDreamTests$Reader;LDreamTests$Book;I)Z"⟩
abbrev cX7_beginsOne : ByteArray := prog_9_method_6_code
def yX7_beginsOne : MethodName := ⟨RX7, "beginsOne", "(LDreamTests$Word;)Z"⟩
abbrev cX7_readKept : ByteArray := prog_9_method_7_code
def yX7_readKept : MethodName := ⟨RX7, "readKept", "(LDreamTests$Reader;LDreamTests$Book;)Z"⟩
abbrev cX7_readOrder : ByteArray := prog_9_method_8_code
def yX7_readOrder : MethodName := ⟨RX7, "readOrder", "(LDreamTests$Reader;LDreamTests$Book;LDreamTests$Word;)Z"⟩
abbrev cX7_put : ByteArray := prog_9_method_9_code
def yX7_put : MethodName := ⟨RX7, "put", "(II)Z"⟩
abbrev cX7_testsOf : ByteArray := prog_9_method_10_code
def yX7_testsOf : MethodName := ⟨RX7, "testsOf", "(LDreamTests$Night;)I"⟩
abbrev cX7_askedIn : ByteArray := prog_9_method_11_code
def yX7_askedIn : MethodName := ⟨RX7, "askedIn", "(LDreamTests$Night;)I"⟩
def RX8 : String := "DreamTests$State"
def TX8 : u_T := fun k => match k with
  | 0 => ("DreamTests$State", "night", "LDreamTests$Night;", true)
  | 1 => ("DreamTests$State", "tree", "LDreamTests$Tree;", false)
  | 2 => ("DreamTests$State", "sentence", "LDreamTests$Sentence;", false)
  | _ => ("DreamTests$State", "kept", "Z", false)
def tyX8 : Nat → FieldType := fun k => match k with
  | 0 => .object "DreamTests$Night"
  | 1 => .object "DreamTests$Tree"
  | 2 => .object "DreamTests$Sentence"
  | _ => .boolean
theorem nmX8 : ∀ a, a < 4 → ∀ b, b < 4 → a ≠ b → (TX8 a).2.1 ≠ (TX8 b).2.1 := by decide +kernel
theorem tyX8_ok : ∀ k, k < 4 → parseFieldDescriptor (TX8 k).2.2.1 = some (tyX8 k) := by decide +kernel
abbrev cX8_init : ByteArray := prog_10_method_1_code
def yX8_init : MethodName := ⟨RX8, "<init>", "(LDreamTests$Book;)V"⟩
abbrev cX8_begin : ByteArray := prog_10_method_2_code
def yX8_begin : MethodName := ⟨RX8, "begin", "(LDreamTests$Book;)V"⟩
abbrev cX8_copy : ByteArray := prog_10_method_3_code
def yX8_copy : MethodName := ⟨RX8, "copy", "(LDreamTests$State;)V"⟩
def RX9 : String := "DreamTests$Tree"
def TX9 : u_T := fun k => match k with
  | 0 => ("DreamTests$Tree", "nodes", "[I", true)
  | _ => ("DreamTests$Tree", "tests", "I", false)
def tyX9 : Nat → FieldType := fun k => match k with
  | 0 => .array .int
  | _ => .int
theorem nmX9 : ∀ a, a < 2 → ∀ b, b < 2 → a ≠ b → (TX9 a).2.1 ≠ (TX9 b).2.1 := by decide +kernel
theorem tyX9_ok : ∀ k, k < 2 → parseFieldDescriptor (TX9 k).2.2.1 = some (tyX9 k) := by decide +kernel
abbrev cX9_init : ByteArray := prog_11_method_1_code
def yX9_init : MethodName := ⟨RX9, "<init>", "()V"⟩
abbrev cX9_readWhole : ByteArray := prog_11_method_2_code
def yX9_readWhole : MethodName := ⟨RX9, "readWhole", "(LDreamTests$Reader;LDreamTests$Book;)Z"⟩
abbrev cX9_readNode : ByteArray := prog_11_method_3_code
def yX9_readNode : MethodName := ⟨RX9, "readNode", "(LDreamTests$Reader;LDreamTests$Book;III)Z"⟩
abbrev cX9_nodeAt : ByteArray := prog_11_method_4_code
def yX9_nodeAt : MethodName := ⟨RX9, "nodeAt", "(I)I"⟩
abbrev cX9_costBy : ByteArray := prog_11_method_5_code
def yX9_costBy : MethodName := ⟨RX9, "costBy", "(LDreamTests$Book;)J"⟩
abbrev cX9_likelyAt : ByteArray := prog_11_method_6_code
def yX9_likelyAt : MethodName := ⟨RX9, "likelyAt", "(IILDreamTests$Book;)J"⟩
abbrev cX9_actBehind : ByteArray := prog_11_method_7_code
def yX9_actBehind : MethodName := ⟨RX9, "actBehind", "(LDreamTests$Night;)I"⟩
def RX10 : String := "DreamTests$Word"
def TX10 : u_T := fun k => match k with
  | _ => ("", "", "", false)
def tyX10 : Nat → FieldType := fun k => match k with
  | _ => .int
theorem nmX10 : ∀ a, a < 0 → ∀ b, b < 0 → a ≠ b → (TX10 a).2.1 ≠ (TX10 b).2.1 := by decide +kernel
theorem tyX10_ok : ∀ k, k < 0 → parseFieldDescriptor (TX10 k).2.2.1 = some (tyX10 k) := by decide +kernel
abbrev cX10_named : ByteArray := prog_12_method_5_code
def yX10_named : MethodName := ⟨RX10, "named", "(J)LDreamTests$Word;"⟩
def RX11 : String := "DreamTests"
def TX11 : u_T := fun k => match k with
  | 0 => ("DreamTests", "tape", "LDreamTests$Bytes;", true)
  | 1 => ("DreamTests", "text", "LDreamTests$Bytes;", true)
  | 2 => ("DreamTests", "reader", "LDreamTests$Reader;", true)
  | 3 => ("DreamTests", "now", "LDreamTests$State;", true)
  | 4 => ("DreamTests", "images", "[LDreamTests$State;", true)
  | 5 => ("DreamTests", "past", "LDreamTests$Past;", true)
  | 6 => ("DreamTests", "other", "LDreamTests$Night;", true)
  | 7 => ("DreamTests", "plan", "LDreamTests$Plan;", true)
  | _ => ("DreamTests", "told", "LDreamTests$Nights;", true)
def tyX11 : Nat → FieldType := fun k => match k with
  | 0 => .object "DreamTests$Bytes"
  | 1 => .object "DreamTests$Bytes"
  | 2 => .object "DreamTests$Reader"
  | 3 => .object "DreamTests$State"
  | 4 => .array (.object "DreamTests$State")
  | 5 => .object "DreamTests$Past"
  | 6 => .object "DreamTests$Night"
  | 7 => .object "DreamTests$Plan"
  | _ => .object "DreamTests$Nights"
theorem nmX11 : ∀ a, a < 9 → ∀ b, b < 9 → a ≠ b → (TX11 a).2.1 ≠ (TX11 b).2.1 := by decide +kernel
theorem tyX11_ok : ∀ k, k < 9 → parseFieldDescriptor (TX11 k).2.2.1 = some (tyX11 k) := by decide +kernel
abbrev cX11_init : ByteArray := prog_1_method_1_code
def yX11_init : MethodName := ⟨RX11, "<init>", "()V"⟩
abbrev cX11_feed : ByteArray := prog_1_method_2_code
def yX11_feed : MethodName := ⟨RX11, "feed", "(IIIII)I"⟩
abbrev cX11_end : ByteArray := prog_1_method_3_code
def yX11_end : MethodName := ⟨RX11, "end", "(I)Z"⟩
abbrev cX11_book : ByteArray := prog_1_method_4_code
def yX11_book : MethodName := ⟨RX11, "book", "()I"⟩
abbrev cX11_fault : ByteArray := prog_1_method_5_code
def yX11_fault : MethodName := ⟨RX11, "fault", "()I"⟩
abbrev cX11_test : ByteArray := prog_1_method_6_code
def yX11_test : MethodName := ⟨RX11, "test", "(II)I"⟩
abbrev cX11_dream : ByteArray := prog_1_method_7_code
def yX11_dream : MethodName := ⟨RX11, "dream", "(II)I"⟩
abbrev cX11_stays : ByteArray := prog_1_method_8_code
def yX11_stays : MethodName := ⟨RX11, "stays", "(II)I"⟩
abbrev cX11_ask : ByteArray := prog_1_method_9_code
def yX11_ask : MethodName := ⟨RX11, "ask", "(II)I"⟩
abbrev cX11_sleep : ByteArray := prog_1_method_10_code
def yX11_sleep : MethodName := ⟨RX11, "sleep", "()I"⟩
abbrev cX11_answer : ByteArray := prog_1_method_11_code
def yX11_answer : MethodName := ⟨RX11, "answer", "(I)I"⟩
abbrev cX11_undo : ByteArray := prog_1_method_12_code
def yX11_undo : MethodName := ⟨RX11, "undo", "()I"⟩
abbrev cX11_sure : ByteArray := prog_1_method_13_code
def yX11_sure : MethodName := ⟨RX11, "sure", "(I)J"⟩
abbrev cX11_odds : ByteArray := prog_1_method_14_code
def yX11_odds : MethodName := ⟨RX11, "odds", "(II)J"⟩
abbrev cX11_up : ByteArray := prog_1_method_15_code
def yX11_up : MethodName := ⟨RX11, "up", "()I"⟩
abbrev cX11_likely : ByteArray := prog_1_method_16_code
def yX11_likely : MethodName := ⟨RX11, "likely", "()I"⟩
abbrev cX11_fits : ByteArray := prog_1_method_17_code
def yX11_fits : MethodName := ⟨RX11, "fits", "()I"⟩
abbrev cX11_enough : ByteArray := prog_1_method_18_code
def yX11_enough : MethodName := ⟨RX11, "enough", "()I"⟩
abbrev cX11_forger : ByteArray := prog_1_method_19_code
def yX11_forger : MethodName := ⟨RX11, "forger", "()I"⟩
abbrev cX11_error : ByteArray := prog_1_method_20_code
def yX11_error : MethodName := ⟨RX11, "error", "(II)J"⟩
abbrev cX11_pair : ByteArray := prog_1_method_21_code
def yX11_pair : MethodName := ⟨RX11, "pair", "()I"⟩
abbrev cX11_cost : ByteArray := prog_1_method_22_code
def yX11_cost : MethodName := ⟨RX11, "cost", "(II)J"⟩
abbrev cX11_first : ByteArray := prog_1_method_23_code
def yX11_first : MethodName := ⟨RX11, "first", "(I)I"⟩
abbrev cX11_write : ByteArray := prog_1_method_24_code
def yX11_write : MethodName := ⟨RX11, "write", "(I)I"⟩
abbrev cX11_byteAt : ByteArray := prog_1_method_25_code
def yX11_byteAt : MethodName := ⟨RX11, "byteAt", "(I)I"⟩
abbrev cX11_tree : ByteArray := prog_1_method_26_code
def yX11_tree : MethodName := ⟨RX11, "tree", "()I"⟩
abbrev cX11_worth : ByteArray := prog_1_method_27_code
def yX11_worth : MethodName := ⟨RX11, "worth", "(I)J"⟩
abbrev cX11_leads : ByteArray := prog_1_method_28_code
def yX11_leads : MethodName := ⟨RX11, "leads", "()I"⟩
abbrev cX11_after : ByteArray := prog_1_method_29_code
def yX11_after : MethodName := ⟨RX11, "after", "(II)J"⟩
abbrev cX11_lot : ByteArray := prog_1_method_30_code
def yX11_lot : MethodName := ⟨RX11, "lot", "(I)J"⟩
abbrev cX11_share : ByteArray := prog_1_method_31_code
def yX11_share : MethodName := ⟨RX11, "share", "(II)J"⟩
abbrev cX11_next : ByteArray := prog_1_method_32_code
def yX11_next : MethodName := ⟨RX11, "next", "()I"⟩
abbrev cX11_fails : ByteArray := prog_1_method_33_code
def yX11_fails : MethodName := ⟨RX11, "fails", "(II)J"⟩
abbrev cX11_deep : ByteArray := prog_1_method_34_code
def yX11_deep : MethodName := ⟨RX11, "deep", "(II)J"⟩
abbrev cX11_tells : ByteArray := prog_1_method_35_code
def yX11_tells : MethodName := ⟨RX11, "tells", "(II)J"⟩
abbrev cX11_apart : ByteArray := prog_1_method_36_code
def yX11_apart : MethodName := ⟨RX11, "apart", "(II)I"⟩
abbrev cX11_nights : ByteArray := prog_1_method_37_code
def yX11_nights : MethodName := ⟨RX11, "nights", "()I"⟩
abbrev cX11_judged : ByteArray := prog_1_method_38_code
def yX11_judged : MethodName := ⟨RX11, "judged", "(I)I"⟩
abbrev cX11_drawn : ByteArray := prog_1_method_39_code
def yX11_drawn : MethodName := ⟨RX11, "drawn", "(II)I"⟩
abbrev cX11_wrongs : ByteArray := prog_1_method_40_code
def yX11_wrongs : MethodName := ⟨RX11, "wrongs", "(III)I"⟩
abbrev cX11_sentence : ByteArray := prog_1_method_41_code
def yX11_sentence : MethodName := ⟨RX11, "sentence", "()I"⟩
abbrev cX11_said : ByteArray := prog_1_method_42_code
def yX11_said : MethodName := ⟨RX11, "said", "(I)I"⟩
abbrev cX11_image : ByteArray := prog_1_method_43_code
def yX11_image : MethodName := ⟨RX11, "image", "(I)Z"⟩
abbrev cX11_restore : ByteArray := prog_1_method_44_code
def yX11_restore : MethodName := ⟨RX11, "restore", "(I)Z"⟩
abbrev cX11_count : ByteArray := prog_1_method_45_code
def yX11_count : MethodName := ⟨RX11, "count", "(I)I"⟩
abbrev cX11_isSide : ByteArray := prog_1_method_46_code
def yX11_isSide : MethodName := ⟨RX11, "isSide", "(I)Z"⟩
abbrev cX11_fraction : ByteArray := prog_1_method_47_code
def yX11_fraction : MethodName := ⟨RX11, "fraction", "(JJI)J"⟩
abbrev cX11_power : ByteArray := prog_1_method_48_code
def yX11_power : MethodName := ⟨RX11, "power", "(I)J"⟩
abbrev cX11_nthOf : ByteArray := prog_1_method_49_code
def yX11_nthOf : MethodName := ⟨RX11, "nthOf", "(II)I"⟩
def RX12 : String := "DreamTestsModel"
def TX12 : u_T := fun k => match k with
  | 0 => ("DreamTestsModel", "thrown", "I", false)
  | 1 => ("DreamTestsModel", "tape", "[B", true)
  | 2 => ("DreamTestsModel", "length", "I", false)
  | 3 => ("DreamTestsModel", "size", "I", false)
  | 4 => ("DreamTestsModel", "p", "I", false)
  | 5 => ("DreamTestsModel", "limit", "I", false)
  | 6 => ("DreamTestsModel", "s", "[I", true)
  | 7 => ("DreamTestsModel", "h", "[I", true)
  | 8 => ("DreamTestsModel", "read", "[I", true)
  | 9 => ("DreamTestsModel", "names", "[J", true)
  | 10 => ("DreamTestsModel", "reserved", "[J", true)
  | 11 => ("DreamTestsModel", "token", "I", false)
  | 12 => ("DreamTestsModel", "at", "I", false)
  | 13 => ("DreamTestsModel", "span", "I", false)
  | 14 => ("DreamTestsModel", "number", "I", false)
  | 15 => ("DreamTestsModel", "fault", "I", false)
  | 16 => ("DreamTestsModel", "faultAt", "I", false)
  | 17 => ("DreamTestsModel", "word", "J", false)
  | 18 => ("DreamTestsModel", "got", "I", false)
  | 19 => ("DreamTestsModel", "lines", "I", false)
  | 20 => ("DreamTestsModel", "onces", "I", false)
  | 21 => ("DreamTestsModel", "like", "[J", true)
  | 22 => ("DreamTestsModel", "undone", "[I", true)
  | 23 => ("DreamTestsModel", "before", "[I", true)
  | 24 => ("DreamTestsModel", "undoMany", "I", false)
  | 25 => ("DreamTestsModel", "costs", "[J", true)
  | 26 => ("DreamTestsModel", "chosen", "[I", true)
  | 27 => ("DreamTestsModel", "room0", "J", false)
  | 28 => ("DreamTestsModel", "dreams0", "J", false)
  | 29 => ("DreamTestsModel", "text", "[B", true)
  | 30 => ("DreamTestsModel", "due", "[I", true)
  | 31 => ("DreamTestsModel", "textMany", "I", false)
  | 32 => ("DreamTestsModel", "node", "[I", true)
  | 33 => ("DreamTestsModel", "open", "[I", true)
  | 34 => ("DreamTestsModel", "side", "[I", true)
  | 35 => ("DreamTestsModel", "nodes", "I", false)
  | 36 => ("DreamTestsModel", "opens", "I", false)
  | 37 => ("DreamTestsModel", "treeTests", "I", false)
  | 38 => ("DreamTestsModel", "lotUp", "J", false)
  | 39 => ("DreamTestsModel", "lotBelow", "J", false)
  | 40 => ("DreamTestsModel", "lotSet", "I", false)
  | 41 => ("DreamTestsModel", "told", "I", false)
  | 42 => ("DreamTestsModel", "toldAsked", "I", false)
  | 43 => ("DreamTestsModel", "judgedAt", "[I", true)
  | 44 => ("DreamTestsModel", "hasJudged", "Z", false)
  | 45 => ("DreamTestsModel", "place", "I", false)
  | 46 => ("DreamTestsModel", "seed", "I", false)
  | 47 => ("DreamTestsModel", "stack", "[I", true)
  | 48 => ("DreamTestsModel", "codes", "I", false)
  | 49 => ("DreamTestsModel", "ones", "I", false)
  | 50 => ("DreamTestsModel", "top", "I", false)
  | 51 => ("DreamTestsModel", "deep", "I", false)
  | 52 => ("DreamTestsModel", "isWhole", "Z", false)
  | 53 => ("DreamTestsModel", "truths", "[Z", true)
  | 54 => ("DreamTestsModel", "kept", "[I", true)
  | 55 => ("DreamTestsModel", "namesKept", "[J", true)
  | _ => ("DreamTestsModel", "isKept", "[Z", true)
def tyX12 : Nat → FieldType := fun k => match k with
  | 0 => .int
  | 1 => .array .byte
  | 2 => .int
  | 3 => .int
  | 4 => .int
  | 5 => .int
  | 6 => .array .int
  | 7 => .array .int
  | 8 => .array .int
  | 9 => .array .long
  | 10 => .array .long
  | 11 => .int
  | 12 => .int
  | 13 => .int
  | 14 => .int
  | 15 => .int
  | 16 => .int
  | 17 => .long
  | 18 => .int
  | 19 => .int
  | 20 => .int
  | 21 => .array .long
  | 22 => .array .int
  | 23 => .array .int
  | 24 => .int
  | 25 => .array .long
  | 26 => .array .int
  | 27 => .long
  | 28 => .long
  | 29 => .array .byte
  | 30 => .array .int
  | 31 => .int
  | 32 => .array .int
  | 33 => .array .int
  | 34 => .array .int
  | 35 => .int
  | 36 => .int
  | 37 => .int
  | 38 => .long
  | 39 => .long
  | 40 => .int
  | 41 => .int
  | 42 => .int
  | 43 => .array .int
  | 44 => .boolean
  | 45 => .int
  | 46 => .int
  | 47 => .array .int
  | 48 => .int
  | 49 => .int
  | 50 => .int
  | 51 => .int
  | 52 => .boolean
  | 53 => .array .boolean
  | 54 => .array .int
  | 55 => .array .long
  | _ => .array .boolean
theorem nmX12 : ∀ a, a < 57 → ∀ b, b < 57 → a ≠ b → (TX12 a).2.1 ≠ (TX12 b).2.1 := by decide +kernel
theorem tyX12_ok : ∀ k, k < 57 → parseFieldDescriptor (TX12 k).2.2.1 = some (tyX12 k) := by decide +kernel
abbrev cX12_thrown : ByteArray := prog_14_method_1_code
def yX12_thrown : MethodName := ⟨RX12, "thrown", "()I"⟩
abbrev cX12_throwsIf : ByteArray := prog_14_method_2_code
def yX12_throwsIf : MethodName := ⟨RX12, "throwsIf", "(Z)Z"⟩
abbrev cX12_feed : ByteArray := prog_14_method_3_code
def yX12_feed : MethodName := ⟨RX12, "feed", "(IIIII)I"⟩
abbrev cX12_four : ByteArray := prog_14_method_4_code
def yX12_four : MethodName := ⟨RX12, "four", "(I)V"⟩
abbrev cX12_end : ByteArray := prog_14_method_5_code
def yX12_end : MethodName := ⟨RX12, "end", "(I)Z"⟩
abbrev cX12_taken : ByteArray := prog_14_method_6_code
def yX12_taken : MethodName := ⟨RX12, "taken", "(I)V"⟩
abbrev cX12_isIn : ByteArray := prog_14_method_7_code
def yX12_isIn : MethodName := ⟨RX12, "isIn", "(III)Z"⟩
abbrev cX12_bitOf : ByteArray := prog_14_method_8_code
def yX12_bitOf : MethodName := ⟨RX12, "bitOf", "(II)Z"⟩
abbrev cX12_bits : ByteArray := prog_14_method_9_code
def yX12_bits : MethodName := ⟨RX12, "bits", "(I)I"⟩
abbrev cX12_lesser : ByteArray := prog_14_method_10_code
def yX12_lesser : MethodName := ⟨RX12, "lesser", "(JJ)J"⟩
abbrev cX12_init : ByteArray := prog_14_method_11_code
def yX12_init : MethodName := ⟨RX12, "<init>", "()V"⟩
abbrev cX12_clears : ByteArray := prog_14_method_12_code
def yX12_clears : MethodName := ⟨RX12, "clears", "()V"⟩
abbrev cX12_peek : ByteArray := prog_14_method_13_code
def yX12_peek : MethodName := ⟨RX12, "peek", "()I"⟩
abbrev cX12_isSmall : ByteArray := prog_14_method_14_code
def yX12_isSmall : MethodName := ⟨RX12, "isSmall", "(I)Z"⟩
abbrev cX12_isDigit : ByteArray := prog_14_method_15_code
def yX12_isDigit : MethodName := ⟨RX12, "isDigit", "(I)Z"⟩
abbrev cX12_go : ByteArray := prog_14_method_16_code
def yX12_go : MethodName := ⟨RX12, "go", "()V"⟩
abbrev cX12_bad : ByteArray := prog_14_method_17_code
def yX12_bad : MethodName := ⟨RX12, "bad", "(I)Z"⟩
abbrev cX12_isWord : ByteArray := prog_14_method_18_code
def yX12_isWord : MethodName := ⟨RX12, "isWord", "(J)Z"⟩
abbrev cX12_isSign : ByteArray := prog_14_method_19_code
def yX12_isSign : MethodName := ⟨RX12, "isSign", "(I)Z"⟩
abbrev cX12_sign : ByteArray := prog_14_method_20_code
def yX12_sign : MethodName := ⟨RX12, "sign", "(I)Z"⟩
abbrev cX12_isName : ByteArray := prog_14_method_21_code
def yX12_isName : MethodName := ⟨RX12, "isName", "()Z"⟩
abbrev cX12_takes : ByteArray := prog_14_method_22_code
def yX12_takes : MethodName := ⟨RX12, "takes", "(II)Z"⟩
abbrev cX12_find : ByteArray := prog_14_method_23_code
def yX12_find : MethodName := ⟨RX12, "find", "(II)I"⟩
abbrev cX12_fresh : ByteArray := prog_14_method_24_code
def yX12_fresh : MethodName := ⟨RX12, "fresh", "(I)Z"⟩
abbrev cX12_onceOf : ByteArray := prog_14_method_25_code
def yX12_onceOf : MethodName := ⟨RX12, "onceOf", "()I"⟩
abbrev cX12_readOnce : ByteArray := prog_14_method_26_code
def yX12_readOnce : MethodName := ⟨RX12, "readOnce", "(I)Z"⟩
abbrev cX12_line : ByteArray := prog_14_method_27_code
def yX12_line : MethodName := ⟨RX12, "line", "()Z"⟩
abbrev cX12_book : ByteArray := prog_14_method_28_code
def yX12_book : MethodName := ⟨RX12, "book", "()I"⟩
abbrev cX12_fault : ByteArray := prog_14_method_29_code
def yX12_fault : MethodName := ⟨RX12, "fault", "()I"⟩
abbrev cX12_isTest : ByteArray := prog_14_method_30_code
def yX12_isTest : MethodName := ⟨RX12, "isTest", "(I)Z"⟩
abbrev cX12_isDream : ByteArray := prog_14_method_31_code
def yX12_isDream : MethodName := ⟨RX12, "isDream", "(I)Z"⟩
abbrev cX12_timesOf : ByteArray := prog_14_method_32_code
def yX12_timesOf : MethodName := ⟨RX12, "timesOf", "(II)I"⟩
abbrev cX12_test : ByteArray := prog_14_method_33_code
def yX12_test : MethodName := ⟨RX12, "test", "(II)I"⟩
abbrev cX12_dream : ByteArray := prog_14_method_34_code
def yX12_dream : MethodName := ⟨RX12, "dream", "(II)I"⟩
abbrev cX12_plain : ByteArray := prog_14_method_35_code
def yX12_plain : MethodName := ⟨RX12, "plain", "(II)I"⟩
abbrev cX12_oddsOf : ByteArray := prog_14_method_36_code
def yX12_oddsOf : MethodName := ⟨RX12, "oddsOf", "(III)I"⟩
abbrev cX12_weightOf : ByteArray := prog_14_method_37_code
def yX12_weightOf : MethodName := ⟨RX12, "weightOf", "(I)I"⟩
abbrev cX12_places : ByteArray := prog_14_method_38_code
def yX12_places : MethodName := ⟨RX12, "places", "()I"⟩
abbrev cX12_likes : ByteArray := prog_14_method_39_code
def yX12_likes : MethodName := ⟨RX12, "likes", "(I)J"⟩
abbrev cX12_stays : ByteArray := prog_14_method_40_code
def yX12_stays : MethodName := ⟨RX12, "stays", "(II)I"⟩
abbrev cX12_keep : ByteArray := prog_14_method_41_code
def yX12_keep : MethodName := ⟨RX12, "keep", "()V"⟩
abbrev cX12_undo : ByteArray := prog_14_method_42_code
def yX12_undo : MethodName := ⟨RX12, "undo", "()I"⟩
abbrev cX12_tries : ByteArray := prog_14_method_43_code
def yX12_tries : MethodName := ⟨RX12, "tries", "()V"⟩
abbrev cX12_back : ByteArray := prog_14_method_44_code
def yX12_back : MethodName := ⟨RX12, "back", "()V"⟩
abbrev cX12_adds : ByteArray := prog_14_method_45_code
def yX12_adds : MethodName := ⟨RX12, "adds", "(I)V"⟩
abbrev cX12_ask : ByteArray := prog_14_method_46_code
def yX12_ask : MethodName := ⟨RX12, "ask", "(II)I"⟩
abbrev cX12_sleep : ByteArray := prog_14_method_47_code
def yX12_sleep : MethodName := ⟨RX12, "sleep", "()I"⟩
abbrev cX12_answer : ByteArray := prog_14_method_48_code
def yX12_answer : MethodName := ⟨RX12, "answer", "(I)I"⟩
abbrev cX12_common : ByteArray := prog_14_method_49_code
def yX12_common : MethodName := ⟨RX12, "common", "(JJ)J"⟩
abbrev cX12_part : ByteArray := prog_14_method_50_code
def yX12_part : MethodName := ⟨RX12, "part", "(JJI)J"⟩
abbrev cX12_isPart : ByteArray := prog_14_method_51_code
def yX12_isPart : MethodName := ⟨RX12, "isPart", "(I)Z"⟩
abbrev cX12_sure : ByteArray := prog_14_method_52_code
def yX12_sure : MethodName := ⟨RX12, "sure", "(I)J"⟩
abbrev cX12_odds : ByteArray := prog_14_method_53_code
def yX12_odds : MethodName := ⟨RX12, "odds", "(II)J"⟩
abbrev cX12_after : ByteArray := prog_14_method_54_code
def yX12_after : MethodName := ⟨RX12, "after", "(II)J"⟩
abbrev cX12_isUp : ByteArray := prog_14_method_55_code
def yX12_isUp : MethodName := ⟨RX12, "isUp", "()Z"⟩
abbrev cX12_up : ByteArray := prog_14_method_56_code
def yX12_up : MethodName := ⟨RX12, "up", "()I"⟩
abbrev cX12_likely : ByteArray := prog_14_method_57_code
def yX12_likely : MethodName := ⟨RX12, "likely", "()I"⟩
abbrev cX12_fits : ByteArray := prog_14_method_58_code
def yX12_fits : MethodName := ⟨RX12, "fits", "()I"⟩
abbrev cX12_goods : ByteArray := prog_14_method_59_code
def yX12_goods : MethodName := ⟨RX12, "goods", "()I"⟩
abbrev cX12_enough : ByteArray := prog_14_method_60_code
def yX12_enough : MethodName := ⟨RX12, "enough", "()I"⟩
abbrev cX12_forger : ByteArray := prog_14_method_61_code
def yX12_forger : MethodName := ⟨RX12, "forger", "()I"⟩
abbrev cX12_power : ByteArray := prog_14_method_62_code
def yX12_power : MethodName := ⟨RX12, "power", "(II)J"⟩
abbrev cX12_allWeights : ByteArray := prog_14_method_63_code
def yX12_allWeights : MethodName := ⟨RX12, "allWeights", "()I"⟩
abbrev cX12_errorOf : ByteArray := prog_14_method_64_code
def yX12_errorOf : MethodName := ⟨RX12, "errorOf", "(I)J"⟩
abbrev cX12_areTests : ByteArray := prog_14_method_65_code
def yX12_areTests : MethodName := ⟨RX12, "areTests", "(I)Z"⟩
abbrev cX12_error : ByteArray := prog_14_method_66_code
def yX12_error : MethodName := ⟨RX12, "error", "(II)J"⟩
abbrev cX12_pair : ByteArray := prog_14_method_67_code
def yX12_pair : MethodName := ⟨RX12, "pair", "()I"⟩
abbrev cX12_digit : ByteArray := prog_14_method_68_code
def yX12_digit : MethodName := ⟨RX12, "digit", "(II)I"⟩
abbrev cX12_askedIn : ByteArray := prog_14_method_69_code
def yX12_askedIn : MethodName := ⟨RX12, "askedIn", "(I)I"⟩
abbrev cX12_weighs : ByteArray := prog_14_method_70_code
def yX12_weighs : MethodName := ⟨RX12, "weighs", "(I)V"⟩
abbrev cX12_isUpCheap : ByteArray := prog_14_method_71_code
def yX12_isUpCheap : MethodName := ⟨RX12, "isUpCheap", "()Z"⟩
abbrev cX12_costsBy : ByteArray := prog_14_method_72_code
def yX12_costsBy : MethodName := ⟨RX12, "costsBy", "(I)V"⟩
abbrev cX12_areCosts : ByteArray := prog_14_method_73_code
def yX12_areCosts : MethodName := ⟨RX12, "areCosts", "(I)Z"⟩
abbrev cX12_cost : ByteArray := prog_14_method_74_code
def yX12_cost : MethodName := ⟨RX12, "cost", "(II)J"⟩
abbrev cX12_first : ByteArray := prog_14_method_75_code
def yX12_first : MethodName := ⟨RX12, "first", "(I)I"⟩
abbrev cX12_put : ByteArray := prog_14_method_76_code
def yX12_put : MethodName := ⟨RX12, "put", "(I)V"⟩
abbrev cX12_putWord : ByteArray := prog_14_method_77_code
def yX12_putWord : MethodName := ⟨RX12, "putWord", "(J)V"⟩
abbrev cX12_write : ByteArray := prog_14_method_78_code
def yX12_write : MethodName := ⟨RX12, "write", "(I)I"⟩
abbrev cX12_byteAt : ByteArray := prog_14_method_79_code
def yX12_byteAt : MethodName := ⟨RX12, "byteAt", "(I)I"⟩
abbrev cX12_hangs : ByteArray := prog_14_method_80_code
def yX12_hangs : MethodName := ⟨RX12, "hangs", "(I)V"⟩
abbrev cX12_opensTest : ByteArray := prog_14_method_81_code
def yX12_opensTest : MethodName := ⟨RX12, "opensTest", "()Z"⟩
abbrev cX12_readTree : ByteArray := prog_14_method_82_code
def yX12_readTree : MethodName := ⟨RX12, "readTree", "()Z"⟩
abbrev cX12_tree : ByteArray := prog_14_method_83_code
def yX12_tree : MethodName := ⟨RX12, "tree", "()I"⟩
abbrev cX12_endCost : ByteArray := prog_14_method_84_code
def yX12_endCost : MethodName := ⟨RX12, "endCost", "(I)J"⟩
abbrev cX12_worth : ByteArray := prog_14_method_85_code
def yX12_worth : MethodName := ⟨RX12, "worth", "(I)J"⟩
abbrev cX12_leads : ByteArray := prog_14_method_86_code
def yX12_leads : MethodName := ⟨RX12, "leads", "()I"⟩
abbrev cX12_hasLot : ByteArray := prog_14_method_87_code
def yX12_hasLot : MethodName := ⟨RX12, "hasLot", "()Z"⟩
abbrev cX12_lot : ByteArray := prog_14_method_88_code
def yX12_lot : MethodName := ⟨RX12, "lot", "(I)J"⟩
abbrev cX12_share : ByteArray := prog_14_method_89_code
def yX12_share : MethodName := ⟨RX12, "share", "(II)J"⟩
abbrev cX12_next : ByteArray := prog_14_method_90_code
def yX12_next : MethodName := ⟨RX12, "next", "()I"⟩
abbrev cX12_fails : ByteArray := prog_14_method_91_code
def yX12_fails : MethodName := ⟨RX12, "fails", "(II)J"⟩
abbrev cX12_deep : ByteArray := prog_14_method_92_code
def yX12_deep : MethodName := ⟨RX12, "deep", "(II)J"⟩
abbrev cX12_tells : ByteArray := prog_14_method_93_code
def yX12_tells : MethodName := ⟨RX12, "tells", "(II)J"⟩
abbrev cX12_apart : ByteArray := prog_14_method_94_code
def yX12_apart : MethodName := ⟨RX12, "apart", "(II)I"⟩
abbrev cX12_nightLine : ByteArray := prog_14_method_95_code
def yX12_nightLine : MethodName := ⟨RX12, "nightLine", "()Z"⟩
abbrev cX12_wrongIn : ByteArray := prog_14_method_96_code
def yX12_wrongIn : MethodName := ⟨RX12, "wrongIn", "(II)I"⟩
abbrev cX12_nights : ByteArray := prog_14_method_97_code
def yX12_nights : MethodName := ⟨RX12, "nights", "()I"⟩
abbrev cX12_judged : ByteArray := prog_14_method_98_code
def yX12_judged : MethodName := ⟨RX12, "judged", "(I)I"⟩
abbrev cX12_draw : ByteArray := prog_14_method_99_code
def yX12_draw : MethodName := ⟨RX12, "draw", "(I)I"⟩
abbrev cX12_draws : ByteArray := prog_14_method_100_code
def yX12_draws : MethodName := ⟨RX12, "draws", "(II)I"⟩
abbrev cX12_areDrawn : ByteArray := prog_14_method_101_code
def yX12_areDrawn : MethodName := ⟨RX12, "areDrawn", "(I)Z"⟩
abbrev cX12_drawn : ByteArray := prog_14_method_102_code
def yX12_drawn : MethodName := ⟨RX12, "drawn", "(II)I"⟩
abbrev cX12_wrongs : ByteArray := prog_14_method_103_code
def yX12_wrongs : MethodName := ⟨RX12, "wrongs", "(III)I"⟩
abbrev cX12_code : ByteArray := prog_14_method_104_code
def yX12_code : MethodName := ⟨RX12, "code", "(III)V"⟩
abbrev cX12_joins : ByteArray := prog_14_method_105_code
def yX12_joins : MethodName := ⟨RX12, "joins", "(I)V"⟩
abbrev cX12_nots : ByteArray := prog_14_method_106_code
def yX12_nots : MethodName := ⟨RX12, "nots", "()V"⟩
abbrev cX12_leafOf : ByteArray := prog_14_method_107_code
def yX12_leafOf : MethodName := ⟨RX12, "leafOf", "()I"⟩
abbrev cX12_operand : ByteArray := prog_14_method_108_code
def yX12_operand : MethodName := ⟨RX12, "operand", "()Z"⟩
abbrev cX12_behind : ByteArray := prog_14_method_109_code
def yX12_behind : MethodName := ⟨RX12, "behind", "()Z"⟩
abbrev cX12_sentence : ByteArray := prog_14_method_110_code
def yX12_sentence : MethodName := ⟨RX12, "sentence", "()I"⟩
abbrev cX12_isLeaf : ByteArray := prog_14_method_111_code
def yX12_isLeaf : MethodName := ⟨RX12, "isLeaf", "(IIII)Z"⟩
abbrev cX12_isSaid : ByteArray := prog_14_method_112_code
def yX12_isSaid : MethodName := ⟨RX12, "isSaid", "(I)Z"⟩
abbrev cX12_said : ByteArray := prog_14_method_113_code
def yX12_said : MethodName := ⟨RX12, "said", "(I)I"⟩
abbrev cX12_image : ByteArray := prog_14_method_114_code
def yX12_image : MethodName := ⟨RX12, "image", "(I)Z"⟩
abbrev cX12_restore : ByteArray := prog_14_method_115_code
def yX12_restore : MethodName := ⟨RX12, "restore", "(I)Z"⟩
abbrev cX12_count : ByteArray := prog_14_method_116_code
def yX12_count : MethodName := ⟨RX12, "count", "(I)I"⟩
def RJx145de : String := "java/io/Serializable"
def TJx145de : u_T := fun k => match k with
  | _ => ("", "", "", false)
def tyJx145de : Nat → FieldType := fun k => match k with
  | _ => .int
def RJx9f9b0 : String := "java/lang/CharSequence"
def TJx9f9b0 : u_T := fun k => match k with
  | _ => ("", "", "", false)
def tyJx9f9b0 : Nat → FieldType := fun k => match k with
  | _ => .int
def RJxb160c : String := "java/lang/Comparable"
def TJxb160c : u_T := fun k => match k with
  | _ => ("", "", "", false)
def tyJxb160c : Nat → FieldType := fun k => match k with
  | _ => .int
def RJx29ce0 : String := "java/lang/Enum"
def TJx29ce0 : u_T := fun k => match k with
  | _ => ("", "", "", false)
def tyJx29ce0 : Nat → FieldType := fun k => match k with
  | _ => .int
def RJ6 : String := "java/lang/Integer"
def TJ6 : u_T := fun k => match k with
  | _ => ("", "", "", false)
def tyJ6 : Nat → FieldType := fun k => match k with
  | _ => .int
abbrev cJ6_bitCount_0f7a4 : ByteArray := prog_20_method_49_code
def yJ6_bitCount_0f7a4 : MethodName := ⟨RJ6, "bitCount", "(I)I"⟩
def RJ9 : String := "java/lang/Math"
def TJ9 : u_T := fun k => match k with
  | _ => ("", "", "", false)
def tyJ9 : Nat → FieldType := fun k => match k with
  | _ => .int
abbrev cJ9_max_7cf53 : ByteArray := prog_21_method_65_code
def yJ9_max_7cf53 : MethodName := ⟨RJ9, "max", "(II)I"⟩
abbrev cJ9_max_f86c9 : ByteArray := prog_21_method_66_code
def yJ9_max_f86c9 : MethodName := ⟨RJ9, "max", "(JJ)J"⟩
abbrev cJ9_min_7cf53 : ByteArray := prog_21_method_69_code
def yJ9_min_7cf53 : MethodName := ⟨RJ9, "min", "(II)I"⟩
abbrev cJ9_min_f86c9 : ByteArray := prog_21_method_70_code
def yJ9_min_f86c9 : MethodName := ⟨RJ9, "min", "(JJ)J"⟩
def RJ0 : String := "java/lang/String"
def TJ0 : u_T := fun k => match k with
  | _ => ("", "", "", false)
def tyJ0 : Nat → FieldType := fun k => match k with
  | _ => .int
abbrev cJ0_length_8abf5 : ByteArray := prog_23_method_54_code
def yJ0_length_8abf5 : MethodName := ⟨RJ0, "length", "()I"⟩
abbrev cJ0_charAt_5068e : ByteArray := prog_23_method_56_code
def yJ0_charAt_5068e : MethodName := ⟨RJ0, "charAt", "(I)C"⟩
abbrev cJ0_coder_7d493 : ByteArray := prog_23_method_152_code
def yJ0_coder_7d493 : MethodName := ⟨RJ0, "coder", "()B"⟩
abbrev cJ0_isLatin1_aae02 : ByteArray := prog_23_method_154_code
def yJ0_isLatin1_aae02 : MethodName := ⟨RJ0, "isLatin1", "()Z"⟩
abbrev cJ0_checkIndex_df160 : ByteArray := prog_23_method_155_code
def yJ0_checkIndex_df160 : MethodName := ⟨RJ0, "checkIndex", "(II)V"⟩
def RJ1 : String := "java/lang/StringLatin1"
def TJ1 : u_T := fun k => match k with
  | _ => ("", "", "", false)
def tyJ1 : Nat → FieldType := fun k => match k with
  | _ => .int
abbrev cJ1_charAt_3b067 : ByteArray := prog_24_method_2_code
def yJ1_charAt_3b067 : MethodName := ⟨RJ1, "charAt", "([BI)C"⟩
def RJ2 : String := "java/lang/StringUTF16"
def TJ2 : u_T := fun k => match k with
  | _ => ("", "", "", false)
def tyJ2 : Nat → FieldType := fun k => match k with
  | _ => .int
abbrev cJ2_getChar_3b067 : ByteArray := prog_25_method_5_code
def yJ2_getChar_3b067 : MethodName := ⟨RJ2, "getChar", "([BI)C"⟩
abbrev cJ2_length_9d52b : ByteArray := prog_25_method_6_code
def yJ2_length_9d52b : MethodName := ⟨RJ2, "length", "([B)I"⟩
abbrev cJ2_charAt_3b067 : ByteArray := prog_25_method_83_code
def yJ2_charAt_3b067 : MethodName := ⟨RJ2, "charAt", "([BI)C"⟩
abbrev cJ2_checkIndex_2214a : ByteArray := prog_25_method_91_code
def yJ2_checkIndex_2214a : MethodName := ⟨RJ2, "checkIndex", "(I[B)V"⟩
def RJ10 : String := "java/lang/System"
def TJ10 : u_T := fun k => match k with
  | _ => ("", "", "", false)
def tyJ10 : Nat → FieldType := fun k => match k with
  | _ => .int
def RJxfd54e : String := "java/lang/constant/Constable"
def TJxfd54e : u_T := fun k => match k with
  | _ => ("", "", "", false)
def tyJxfd54e : Nat → FieldType := fun k => match k with
  | _ => .int
def RJx3cf43 : String := "java/lang/constant/ConstantDesc"
def TJx3cf43 : u_T := fun k => match k with
  | _ => ("", "", "", false)
def tyJx3cf43 : Nat → FieldType := fun k => match k with
  | _ => .int
def RJ3 : String := "jdk/internal/util/Preconditions"
def TJ3 : u_T := fun k => match k with
  | _ => ("", "", "", false)
def tyJ3 : Nat → FieldType := fun k => match k with
  | _ => .int
abbrev cJ3_checkIndex_8e157 : ByteArray := prog_31_method_11_code
def yJ3_checkIndex_8e157 : MethodName := ⟨RJ3, "checkIndex", "(IILjava/util/function/BiFunction;)I"⟩
def RL : String := "DreamTestsLaw"
abbrev cL_sure : ByteArray := method_3_code
def yL_sure : MethodName := ⟨RL, "sure", "(LDreamTests;I[J)I"⟩
abbrev cL_odds : ByteArray := method_4_code
def yL_odds : MethodName := ⟨RL, "odds", "(LDreamTests;II[J)I"⟩
abbrev cL_error : ByteArray := method_5_code
def yL_error : MethodName := ⟨RL, "error", "(LDreamTests;II[J)I"⟩
abbrev cL_cost : ByteArray := method_6_code
def yL_cost : MethodName := ⟨RL, "cost", "(LDreamTests;II[J)I"⟩
abbrev cL_worth : ByteArray := method_7_code
def yL_worth : MethodName := ⟨RL, "worth", "(LDreamTests;I[J)I"⟩
abbrev cL_after : ByteArray := method_8_code
def yL_after : MethodName := ⟨RL, "after", "(LDreamTests;II[J)I"⟩
abbrev cL_lot : ByteArray := method_9_code
def yL_lot : MethodName := ⟨RL, "lot", "(LDreamTests;I[J)I"⟩
abbrev cL_share : ByteArray := method_10_code
def yL_share : MethodName := ⟨RL, "share", "(LDreamTests;II[J)I"⟩
abbrev cL_fails : ByteArray := method_11_code
def yL_fails : MethodName := ⟨RL, "fails", "(LDreamTests;II[J)I"⟩
abbrev cL_deep : ByteArray := method_12_code
def yL_deep : MethodName := ⟨RL, "deep", "(LDreamTests;II[J)I"⟩
abbrev cL_tells : ByteArray := method_13_code
def yL_tells : MethodName := ⟨RL, "tells", "(LDreamTests;II[J)I"⟩
abbrev cL_law : ByteArray := code
def yL_law : MethodName := ⟨RL, "law", "([I)Z"⟩
