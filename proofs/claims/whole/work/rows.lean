section
-- ===== PART A: goes FIRST, ahead of the names: the tables' words, and 'selects' of the private methods out of them =====
/-- a private method of a class that the tables say can be made, by its rows of tables_1 -/
def lw_okq (q : MethodName × Nat) : Prop := (q.1.cls ≠ "java/lang/invoke/MethodHandle" ∧ q.1.cls ≠ "java/lang/invoke/VarHandle") ∧ Cond.instantiable q.1.cls q.2 ∈ tables_1 ∧ Cond.privateMethod q.1 ∈ tables_1 ∧ Cond.instanceMethod q.1 ∈ tables_1
theorem lw_p0 : lw_okq (⟨"java/lang/Throwable", "fillInStackTrace", "(I)Ljava/lang/Throwable;"⟩, 6) := ⟨⟨by decide +kernel, by decide +kernel⟩, List.mem_of_getElem? (i := 456) (by decide +kernel), List.mem_of_getElem? (i := 454) (by decide +kernel), List.mem_of_getElem? (i := 455) (by decide +kernel)⟩
theorem lw_p1 : lw_okq (⟨"LsmStore", "requireOn", "()V"⟩, 18) := ⟨⟨by decide +kernel, by decide +kernel⟩, List.mem_of_getElem? (i := 25) (by decide +kernel), List.mem_of_getElem? (i := 505) (by decide +kernel), List.mem_of_getElem? (i := 506) (by decide +kernel)⟩
theorem lw_p2 : lw_okq (⟨"LsmStore", "addStep", "(I)V"⟩, 18) := ⟨⟨by decide +kernel, by decide +kernel⟩, List.mem_of_getElem? (i := 25) (by decide +kernel), List.mem_of_getElem? (i := 538) (by decide +kernel), List.mem_of_getElem? (i := 539) (by decide +kernel)⟩
theorem lw_p3 : lw_okq (⟨"LsmStore", "finish", "()I"⟩, 18) := ⟨⟨by decide +kernel, by decide +kernel⟩, List.mem_of_getElem? (i := 25) (by decide +kernel), List.mem_of_getElem? (i := 551) (by decide +kernel), List.mem_of_getElem? (i := 552) (by decide +kernel)⟩
theorem lw_p4 : lw_okq (⟨"LsmStore", "weigh", "()V"⟩, 18) := ⟨⟨by decide +kernel, by decide +kernel⟩, List.mem_of_getElem? (i := 25) (by decide +kernel), List.mem_of_getElem? (i := 555) (by decide +kernel), List.mem_of_getElem? (i := 556) (by decide +kernel)⟩
theorem lw_p5 : lw_okq (⟨"LsmStore$Batch", "haveSameKey", "(II)Z"⟩, 5) := ⟨⟨by decide +kernel, by decide +kernel⟩, List.mem_of_getElem? (i := 93) (by decide +kernel), List.mem_of_getElem? (i := 563) (by decide +kernel), List.mem_of_getElem? (i := 564) (by decide +kernel)⟩
theorem lw_p6 : lw_okq (⟨"LsmStore", "find", "(LLsmStore$Row;I)I"⟩, 18) := ⟨⟨by decide +kernel, by decide +kernel⟩, List.mem_of_getElem? (i := 25) (by decide +kernel), List.mem_of_getElem? (i := 577) (by decide +kernel), List.mem_of_getElem? (i := 578) (by decide +kernel)⟩
theorem lw_p7 : lw_okq (⟨"LsmStore$Log", "countBefore", "(LLsmStore$Row;I)I"⟩, 7) := ⟨⟨by decide +kernel, by decide +kernel⟩, List.mem_of_getElem? (i := 131) (by decide +kernel), List.mem_of_getElem? (i := 585) (by decide +kernel), List.mem_of_getElem? (i := 586) (by decide +kernel)⟩
theorem lw_p8 : lw_okq (⟨"LsmStore$Level", "tableFrom", "(LLsmStore$Row;I)I"⟩, 6) := ⟨⟨by decide +kernel, by decide +kernel⟩, List.mem_of_getElem? (i := 316) (by decide +kernel), List.mem_of_getElem? (i := 610) (by decide +kernel), List.mem_of_getElem? (i := 611) (by decide +kernel)⟩
theorem lw_p9 : lw_okq (⟨"LsmStore$Level", "table", "(I)LLsmStore$Table;"⟩, 6) := ⟨⟨by decide +kernel, by decide +kernel⟩, List.mem_of_getElem? (i := 316) (by decide +kernel), List.mem_of_getElem? (i := 614) (by decide +kernel), List.mem_of_getElem? (i := 615) (by decide +kernel)⟩
theorem lw_p10 : lw_okq (⟨"LsmStore$Disk", "goOff", "()V"⟩, 8) := ⟨⟨by decide +kernel, by decide +kernel⟩, List.mem_of_getElem? (i := 33) (by decide +kernel), List.mem_of_getElem? (i := 692) (by decide +kernel), List.mem_of_getElem? (i := 693) (by decide +kernel)⟩
theorem lw_p11 : lw_okq (⟨"LsmStore$Log", "enlist", "(II)V"⟩, 7) := ⟨⟨by decide +kernel, by decide +kernel⟩, List.mem_of_getElem? (i := 131) (by decide +kernel), List.mem_of_getElem? (i := 713) (by decide +kernel), List.mem_of_getElem? (i := 714) (by decide +kernel)⟩
theorem lw_p12 : lw_okq (⟨"LsmStore$Log", "enlistOne", "(I)V"⟩, 7) := ⟨⟨by decide +kernel, by decide +kernel⟩, List.mem_of_getElem? (i := 131) (by decide +kernel), List.mem_of_getElem? (i := 717) (by decide +kernel), List.mem_of_getElem? (i := 718) (by decide +kernel)⟩
theorem lw_p13 : lw_okq (⟨"LsmStore", "settle", "(I)V"⟩, 18) := ⟨⟨by decide +kernel, by decide +kernel⟩, List.mem_of_getElem? (i := 25) (by decide +kernel), List.mem_of_getElem? (i := 731) (by decide +kernel), List.mem_of_getElem? (i := 732) (by decide +kernel)⟩
theorem lw_p14 : lw_okq (⟨"LsmStore", "pickNone", "()V"⟩, 18) := ⟨⟨by decide +kernel, by decide +kernel⟩, List.mem_of_getElem? (i := 25) (by decide +kernel), List.mem_of_getElem? (i := 735) (by decide +kernel), List.mem_of_getElem? (i := 736) (by decide +kernel)⟩
theorem lw_p15 : lw_okq (⟨"LsmStore", "join", "(IZ)Z"⟩, 18) := ⟨⟨by decide +kernel, by decide +kernel⟩, List.mem_of_getElem? (i := 25) (by decide +kernel), List.mem_of_getElem? (i := 761) (by decide +kernel), List.mem_of_getElem? (i := 762) (by decide +kernel)⟩
def lw_privs_1 : List (MethodName × Nat) := [(⟨"java/lang/Throwable", "fillInStackTrace", "(I)Ljava/lang/Throwable;"⟩, 6), (⟨"LsmStore", "requireOn", "()V"⟩, 18), (⟨"LsmStore", "addStep", "(I)V"⟩, 18), (⟨"LsmStore", "finish", "()I"⟩, 18), (⟨"LsmStore", "weigh", "()V"⟩, 18), (⟨"LsmStore$Batch", "haveSameKey", "(II)Z"⟩, 5), (⟨"LsmStore", "find", "(LLsmStore$Row;I)I"⟩, 18), (⟨"LsmStore$Log", "countBefore", "(LLsmStore$Row;I)I"⟩, 7), (⟨"LsmStore$Level", "tableFrom", "(LLsmStore$Row;I)I"⟩, 6), (⟨"LsmStore$Level", "table", "(I)LLsmStore$Table;"⟩, 6), (⟨"LsmStore$Disk", "goOff", "()V"⟩, 8), (⟨"LsmStore$Log", "enlist", "(II)V"⟩, 7), (⟨"LsmStore$Log", "enlistOne", "(I)V"⟩, 7), (⟨"LsmStore", "settle", "(I)V"⟩, 18), (⟨"LsmStore", "pickNone", "()V"⟩, 18), (⟨"LsmStore", "join", "(IZ)Z"⟩, 18)]
theorem lw_r1 : ∀ q ∈ lw_privs_1, lw_okq q := List.forall_mem_cons.mpr ⟨lw_p0, List.forall_mem_cons.mpr ⟨lw_p1, List.forall_mem_cons.mpr ⟨lw_p2, List.forall_mem_cons.mpr ⟨lw_p3, List.forall_mem_cons.mpr ⟨lw_p4, List.forall_mem_cons.mpr ⟨lw_p5, List.forall_mem_cons.mpr ⟨lw_p6, List.forall_mem_cons.mpr ⟨lw_p7, List.forall_mem_cons.mpr ⟨lw_p8, List.forall_mem_cons.mpr ⟨lw_p9, List.forall_mem_cons.mpr ⟨lw_p10, List.forall_mem_cons.mpr ⟨lw_p11, List.forall_mem_cons.mpr ⟨lw_p12, List.forall_mem_cons.mpr ⟨lw_p13, List.forall_mem_cons.mpr ⟨lw_p14, List.forall_mem_cons.mpr ⟨lw_p15, fun _ h => absurd h List.not_mem_nil⟩⟩⟩⟩⟩⟩⟩⟩⟩⟩⟩⟩⟩⟩⟩⟩
theorem lw_p16 : lw_okq (⟨"LsmStore", "gather", "(Z)V"⟩, 18) := ⟨⟨by decide +kernel, by decide +kernel⟩, List.mem_of_getElem? (i := 25) (by decide +kernel), List.mem_of_getElem? (i := 765) (by decide +kernel), List.mem_of_getElem? (i := 766) (by decide +kernel)⟩
theorem lw_p17 : lw_okq (⟨"LsmStore$Rows", "withoutRemoves", "(I)I"⟩, 5) := ⟨⟨by decide +kernel, by decide +kernel⟩, List.mem_of_getElem? (i := 226) (by decide +kernel), List.mem_of_getElem? (i := 798) (by decide +kernel), List.mem_of_getElem? (i := 799) (by decide +kernel)⟩
theorem lw_p18 : lw_okq (⟨"LsmStore$Writer", "stepTo", "(LLsmStore$Rows;I)I"⟩, 8) := ⟨⟨by decide +kernel, by decide +kernel⟩, List.mem_of_getElem? (i := 253) (by decide +kernel), List.mem_of_getElem? (i := 811) (by decide +kernel), List.mem_of_getElem? (i := 812) (by decide +kernel)⟩
theorem lw_p19 : lw_okq (⟨"LsmStore$Writer", "advance", "(II)V"⟩, 8) := ⟨⟨by decide +kernel, by decide +kernel⟩, List.mem_of_getElem? (i := 253) (by decide +kernel), List.mem_of_getElem? (i := 817) (by decide +kernel), List.mem_of_getElem? (i := 818) (by decide +kernel)⟩
theorem lw_p20 : lw_okq (⟨"LsmStore$Writer", "writeOut", "([B)V"⟩, 8) := ⟨⟨by decide +kernel, by decide +kernel⟩, List.mem_of_getElem? (i := 253) (by decide +kernel), List.mem_of_getElem? (i := 825) (by decide +kernel), List.mem_of_getElem? (i := 826) (by decide +kernel)⟩
theorem lw_p21 : lw_okq (⟨"LsmStore$Writer", "current", "()LLsmStore$Table;"⟩, 8) := ⟨⟨by decide +kernel, by decide +kernel⟩, List.mem_of_getElem? (i := 253) (by decide +kernel), List.mem_of_getElem? (i := 829) (by decide +kernel), List.mem_of_getElem? (i := 830) (by decide +kernel)⟩
theorem lw_p22 : lw_okq (⟨"LsmStore$Files", "mark", "(I)V"⟩, 8) := ⟨⟨by decide +kernel, by decide +kernel⟩, List.mem_of_getElem? (i := 161) (by decide +kernel), List.mem_of_getElem? (i := 840) (by decide +kernel), List.mem_of_getElem? (i := 841) (by decide +kernel)⟩
theorem lw_p23 : lw_okq (⟨"LsmStore$Writer", "closeTable", "()V"⟩, 8) := ⟨⟨by decide +kernel, by decide +kernel⟩, List.mem_of_getElem? (i := 253) (by decide +kernel), List.mem_of_getElem? (i := 849) (by decide +kernel), List.mem_of_getElem? (i := 850) (by decide +kernel)⟩
theorem lw_p24 : lw_okq (⟨"LsmStore$Writer", "open", "(I)V"⟩, 8) := ⟨⟨by decide +kernel, by decide +kernel⟩, List.mem_of_getElem? (i := 253) (by decide +kernel), List.mem_of_getElem? (i := 857) (by decide +kernel), List.mem_of_getElem? (i := 858) (by decide +kernel)⟩
theorem lw_p25 : lw_okq (⟨"LsmStore$Writer", "copyEntry", "(I)V"⟩, 8) := ⟨⟨by decide +kernel, by decide +kernel⟩, List.mem_of_getElem? (i := 253) (by decide +kernel), List.mem_of_getElem? (i := 869) (by decide +kernel), List.mem_of_getElem? (i := 870) (by decide +kernel)⟩
theorem lw_p26 : lw_okq (⟨"LsmStore$Head", "describe", "(II[LLsmStore$Level;)V"⟩, 7) := ⟨⟨by decide +kernel, by decide +kernel⟩, List.mem_of_getElem? (i := 287) (by decide +kernel), List.mem_of_getElem? (i := 906) (by decide +kernel), List.mem_of_getElem? (i := 907) (by decide +kernel)⟩
theorem lw_p27 : lw_okq (⟨"LsmStore$Head", "addNumber", "(II)V"⟩, 7) := ⟨⟨by decide +kernel, by decide +kernel⟩, List.mem_of_getElem? (i := 287) (by decide +kernel), List.mem_of_getElem? (i := 910) (by decide +kernel), List.mem_of_getElem? (i := 911) (by decide +kernel)⟩
theorem lw_p28 : lw_okq (⟨"LsmStore$Head", "addTable", "(LLsmStore$Table;)V"⟩, 7) := ⟨⟨by decide +kernel, by decide +kernel⟩, List.mem_of_getElem? (i := 287) (by decide +kernel), List.mem_of_getElem? (i := 915) (by decide +kernel), List.mem_of_getElem? (i := 916) (by decide +kernel)⟩
theorem lw_p29 : lw_okq (⟨"LsmStore$Files", "free", "(LLsmStore$Table;)V"⟩, 8) := ⟨⟨by decide +kernel, by decide +kernel⟩, List.mem_of_getElem? (i := 161) (by decide +kernel), List.mem_of_getElem? (i := 927) (by decide +kernel), List.mem_of_getElem? (i := 928) (by decide +kernel)⟩
theorem lw_p30 : lw_okq (⟨"LsmStore", "requireBatch", "()V"⟩, 18) := ⟨⟨by decide +kernel, by decide +kernel⟩, List.mem_of_getElem? (i := 25) (by decide +kernel), List.mem_of_getElem? (i := 975) (by decide +kernel), List.mem_of_getElem? (i := 976) (by decide +kernel)⟩
theorem lw_p31 : lw_okq (⟨"LsmStore", "viewOf", "(I)I"⟩, 18) := ⟨⟨by decide +kernel, by decide +kernel⟩, List.mem_of_getElem? (i := 25) (by decide +kernel), List.mem_of_getElem? (i := 1038) (by decide +kernel), List.mem_of_getElem? (i := 1039) (by decide +kernel)⟩
def lw_privs_2 : List (MethodName × Nat) := [(⟨"LsmStore", "gather", "(Z)V"⟩, 18), (⟨"LsmStore$Rows", "withoutRemoves", "(I)I"⟩, 5), (⟨"LsmStore$Writer", "stepTo", "(LLsmStore$Rows;I)I"⟩, 8), (⟨"LsmStore$Writer", "advance", "(II)V"⟩, 8), (⟨"LsmStore$Writer", "writeOut", "([B)V"⟩, 8), (⟨"LsmStore$Writer", "current", "()LLsmStore$Table;"⟩, 8), (⟨"LsmStore$Files", "mark", "(I)V"⟩, 8), (⟨"LsmStore$Writer", "closeTable", "()V"⟩, 8), (⟨"LsmStore$Writer", "open", "(I)V"⟩, 8), (⟨"LsmStore$Writer", "copyEntry", "(I)V"⟩, 8), (⟨"LsmStore$Head", "describe", "(II[LLsmStore$Level;)V"⟩, 7), (⟨"LsmStore$Head", "addNumber", "(II)V"⟩, 7), (⟨"LsmStore$Head", "addTable", "(LLsmStore$Table;)V"⟩, 7), (⟨"LsmStore$Files", "free", "(LLsmStore$Table;)V"⟩, 8), (⟨"LsmStore", "requireBatch", "()V"⟩, 18), (⟨"LsmStore", "viewOf", "(I)I"⟩, 18)]
theorem lw_r2 : ∀ q ∈ lw_privs_2, lw_okq q := List.forall_mem_cons.mpr ⟨lw_p16, List.forall_mem_cons.mpr ⟨lw_p17, List.forall_mem_cons.mpr ⟨lw_p18, List.forall_mem_cons.mpr ⟨lw_p19, List.forall_mem_cons.mpr ⟨lw_p20, List.forall_mem_cons.mpr ⟨lw_p21, List.forall_mem_cons.mpr ⟨lw_p22, List.forall_mem_cons.mpr ⟨lw_p23, List.forall_mem_cons.mpr ⟨lw_p24, List.forall_mem_cons.mpr ⟨lw_p25, List.forall_mem_cons.mpr ⟨lw_p26, List.forall_mem_cons.mpr ⟨lw_p27, List.forall_mem_cons.mpr ⟨lw_p28, List.forall_mem_cons.mpr ⟨lw_p29, List.forall_mem_cons.mpr ⟨lw_p30, List.forall_mem_cons.mpr ⟨lw_p31, fun _ h => absurd h List.not_mem_nil⟩⟩⟩⟩⟩⟩⟩⟩⟩⟩⟩⟩⟩⟩⟩⟩
theorem lw_p32 : lw_okq (⟨"LsmStore", "nearest", "(II)I"⟩, 18) := ⟨⟨by decide +kernel, by decide +kernel⟩, List.mem_of_getElem? (i := 25) (by decide +kernel), List.mem_of_getElem? (i := 1054) (by decide +kernel), List.mem_of_getElem? (i := 1055) (by decide +kernel)⟩
theorem lw_p33 : lw_okq (⟨"LsmStore", "firstFrom", "(LLsmStore$Row;I)I"⟩, 18) := ⟨⟨by decide +kernel, by decide +kernel⟩, List.mem_of_getElem? (i := 25) (by decide +kernel), List.mem_of_getElem? (i := 1060) (by decide +kernel), List.mem_of_getElem? (i := 1061) (by decide +kernel)⟩
theorem lw_p34 : lw_okq (⟨"LsmStore", "take", "(I)I"⟩, 18) := ⟨⟨by decide +kernel, by decide +kernel⟩, List.mem_of_getElem? (i := 25) (by decide +kernel), List.mem_of_getElem? (i := 1077) (by decide +kernel), List.mem_of_getElem? (i := 1078) (by decide +kernel)⟩
theorem lw_p35 : lw_okq (⟨"LsmStore", "nearestBefore", "(I)I"⟩, 18) := ⟨⟨by decide +kernel, by decide +kernel⟩, List.mem_of_getElem? (i := 25) (by decide +kernel), List.mem_of_getElem? (i := 1088) (by decide +kernel), List.mem_of_getElem? (i := 1089) (by decide +kernel)⟩
theorem lw_p36 : lw_okq (⟨"LsmStore", "lastBefore", "(LLsmStore$Row;)I"⟩, 18) := ⟨⟨by decide +kernel, by decide +kernel⟩, List.mem_of_getElem? (i := 25) (by decide +kernel), List.mem_of_getElem? (i := 1092) (by decide +kernel), List.mem_of_getElem? (i := 1093) (by decide +kernel)⟩
theorem lw_p37 : lw_okq (⟨"LsmStore", "load", "()V"⟩, 18) := ⟨⟨by decide +kernel, by decide +kernel⟩, List.mem_of_getElem? (i := 25) (by decide +kernel), List.mem_of_getElem? (i := 1158) (by decide +kernel), List.mem_of_getElem? (i := 1159) (by decide +kernel)⟩
theorem lw_p38 : lw_okq (⟨"LsmStore$Head", "generationAt", "(I)I"⟩, 7) := ⟨⟨by decide +kernel, by decide +kernel⟩, List.mem_of_getElem? (i := 287) (by decide +kernel), List.mem_of_getElem? (i := 1174) (by decide +kernel), List.mem_of_getElem? (i := 1175) (by decide +kernel)⟩
theorem lw_p39 : lw_okq (⟨"LsmStore$Head", "read", "(I)I"⟩, 7) := ⟨⟨by decide +kernel, by decide +kernel⟩, List.mem_of_getElem? (i := 287) (by decide +kernel), List.mem_of_getElem? (i := 1181) (by decide +kernel), List.mem_of_getElem? (i := 1182) (by decide +kernel)⟩
theorem lw_p40 : lw_okq (⟨"LsmStore$Head", "readTable", "(LLsmStore$Level;LLsmStore$Files;)V"⟩, 7) := ⟨⟨by decide +kernel, by decide +kernel⟩, List.mem_of_getElem? (i := 287) (by decide +kernel), List.mem_of_getElem? (i := 1185) (by decide +kernel), List.mem_of_getElem? (i := 1186) (by decide +kernel)⟩
theorem lw_p41 : lw_okq (⟨"LsmStore", "recount", "()V"⟩, 18) := ⟨⟨by decide +kernel, by decide +kernel⟩, List.mem_of_getElem? (i := 25) (by decide +kernel), List.mem_of_getElem? (i := 1210) (by decide +kernel), List.mem_of_getElem? (i := 1211) (by decide +kernel)⟩
theorem lw_p42 : lw_okq (⟨"LsmStore", "gatherAll", "()V"⟩, 18) := ⟨⟨by decide +kernel, by decide +kernel⟩, List.mem_of_getElem? (i := 25) (by decide +kernel), List.mem_of_getElem? (i := 1214) (by decide +kernel), List.mem_of_getElem? (i := 1215) (by decide +kernel)⟩
theorem lw_p43 : lw_okq (⟨"LsmStore$Rows", "hasNewer", "(II)Z"⟩, 5) := ⟨⟨by decide +kernel, by decide +kernel⟩, List.mem_of_getElem? (i := 226) (by decide +kernel), List.mem_of_getElem? (i := 1223) (by decide +kernel), List.mem_of_getElem? (i := 1224) (by decide +kernel)⟩
theorem lw_p44 : lw_okq (⟨"LsmStore$Disk", "mixRow", "(JII)J"⟩, 8) := ⟨⟨by decide +kernel, by decide +kernel⟩, List.mem_of_getElem? (i := 33) (by decide +kernel), List.mem_of_getElem? (i := 1251) (by decide +kernel), List.mem_of_getElem? (i := 1252) (by decide +kernel)⟩
theorem lw_p45 : lw_okq (⟨"LsmStore$Files", "own", "(LLsmStore$Table;)I"⟩, 8) := ⟨⟨by decide +kernel, by decide +kernel⟩, List.mem_of_getElem? (i := 161) (by decide +kernel), List.mem_of_getElem? (i := 1268) (by decide +kernel), List.mem_of_getElem? (i := 1269) (by decide +kernel)⟩
theorem lw_p46 : lw_okq (⟨"LsmStoreModel", "change", "(Z)I"⟩, 19) := ⟨⟨by decide +kernel, by decide +kernel⟩, List.mem_of_getElem? (i := 1288) (by decide +kernel), List.mem_of_getElem? (i := 1374) (by decide +kernel), List.mem_of_getElem? (i := 1375) (by decide +kernel)⟩
theorem lw_p47 : lw_okq (⟨"LsmStoreModel", "begun", "()V"⟩, 19) := ⟨⟨by decide +kernel, by decide +kernel⟩, List.mem_of_getElem? (i := 1288) (by decide +kernel), List.mem_of_getElem? (i := 1379) (by decide +kernel), List.mem_of_getElem? (i := 1380) (by decide +kernel)⟩
def lw_privs_3 : List (MethodName × Nat) := [(⟨"LsmStore", "nearest", "(II)I"⟩, 18), (⟨"LsmStore", "firstFrom", "(LLsmStore$Row;I)I"⟩, 18), (⟨"LsmStore", "take", "(I)I"⟩, 18), (⟨"LsmStore", "nearestBefore", "(I)I"⟩, 18), (⟨"LsmStore", "lastBefore", "(LLsmStore$Row;)I"⟩, 18), (⟨"LsmStore", "load", "()V"⟩, 18), (⟨"LsmStore$Head", "generationAt", "(I)I"⟩, 7), (⟨"LsmStore$Head", "read", "(I)I"⟩, 7), (⟨"LsmStore$Head", "readTable", "(LLsmStore$Level;LLsmStore$Files;)V"⟩, 7), (⟨"LsmStore", "recount", "()V"⟩, 18), (⟨"LsmStore", "gatherAll", "()V"⟩, 18), (⟨"LsmStore$Rows", "hasNewer", "(II)Z"⟩, 5), (⟨"LsmStore$Disk", "mixRow", "(JII)J"⟩, 8), (⟨"LsmStore$Files", "own", "(LLsmStore$Table;)I"⟩, 8), (⟨"LsmStoreModel", "change", "(Z)I"⟩, 19), (⟨"LsmStoreModel", "begun", "()V"⟩, 19)]
theorem lw_r3 : ∀ q ∈ lw_privs_3, lw_okq q := List.forall_mem_cons.mpr ⟨lw_p32, List.forall_mem_cons.mpr ⟨lw_p33, List.forall_mem_cons.mpr ⟨lw_p34, List.forall_mem_cons.mpr ⟨lw_p35, List.forall_mem_cons.mpr ⟨lw_p36, List.forall_mem_cons.mpr ⟨lw_p37, List.forall_mem_cons.mpr ⟨lw_p38, List.forall_mem_cons.mpr ⟨lw_p39, List.forall_mem_cons.mpr ⟨lw_p40, List.forall_mem_cons.mpr ⟨lw_p41, List.forall_mem_cons.mpr ⟨lw_p42, List.forall_mem_cons.mpr ⟨lw_p43, List.forall_mem_cons.mpr ⟨lw_p44, List.forall_mem_cons.mpr ⟨lw_p45, List.forall_mem_cons.mpr ⟨lw_p46, List.forall_mem_cons.mpr ⟨lw_p47, fun _ h => absurd h List.not_mem_nil⟩⟩⟩⟩⟩⟩⟩⟩⟩⟩⟩⟩⟩⟩⟩⟩
theorem lw_p48 : lw_okq (⟨"LsmStoreModel", "set", "([BII[BII)V"⟩, 19) := ⟨⟨by decide +kernel, by decide +kernel⟩, List.mem_of_getElem? (i := 1288) (by decide +kernel), List.mem_of_getElem? (i := 1383) (by decide +kernel), List.mem_of_getElem? (i := 1384) (by decide +kernel)⟩
theorem lw_p49 : lw_okq (⟨"LsmStoreModel", "done", "()I"⟩, 19) := ⟨⟨by decide +kernel, by decide +kernel⟩, List.mem_of_getElem? (i := 1288) (by decide +kernel), List.mem_of_getElem? (i := 1396) (by decide +kernel), List.mem_of_getElem? (i := 1397) (by decide +kernel)⟩
theorem lw_p50 : lw_okq (⟨"LsmStoreModel", "fall", "()V"⟩, 19) := ⟨⟨by decide +kernel, by decide +kernel⟩, List.mem_of_getElem? (i := 1288) (by decide +kernel), List.mem_of_getElem? (i := 1400) (by decide +kernel), List.mem_of_getElem? (i := 1401) (by decide +kernel)⟩
theorem lw_p51 : lw_okq (⟨"LsmStoreModel", "lost", "()V"⟩, 19) := ⟨⟨by decide +kernel, by decide +kernel⟩, List.mem_of_getElem? (i := 1288) (by decide +kernel), List.mem_of_getElem? (i := 1404) (by decide +kernel), List.mem_of_getElem? (i := 1405) (by decide +kernel)⟩
theorem lw_p52 : lw_okq (⟨"LsmStoreModel", "failed", "()I"⟩, 19) := ⟨⟨by decide +kernel, by decide +kernel⟩, List.mem_of_getElem? (i := 1288) (by decide +kernel), List.mem_of_getElem? (i := 1408) (by decide +kernel), List.mem_of_getElem? (i := 1409) (by decide +kernel)⟩
theorem lw_p53 : lw_okq (⟨"LsmStoreModel", "isThere", "(I)Z"⟩, 19) := ⟨⟨by decide +kernel, by decide +kernel⟩, List.mem_of_getElem? (i := 1288) (by decide +kernel), List.mem_of_getElem? (i := 1436) (by decide +kernel), List.mem_of_getElem? (i := 1437) (by decide +kernel)⟩
theorem lw_p54 : lw_okq (⟨"LsmStoreModel", "rowOf", "(I)[B"⟩, 19) := ⟨⟨by decide +kernel, by decide +kernel⟩, List.mem_of_getElem? (i := 1288) (by decide +kernel), List.mem_of_getElem? (i := 1440) (by decide +kernel), List.mem_of_getElem? (i := 1441) (by decide +kernel)⟩
theorem lw_p55 : lw_okq (⟨"LsmStoreModel", "from", "(I)I"⟩, 19) := ⟨⟨by decide +kernel, by decide +kernel⟩, List.mem_of_getElem? (i := 1288) (by decide +kernel), List.mem_of_getElem? (i := 1444) (by decide +kernel), List.mem_of_getElem? (i := 1445) (by decide +kernel)⟩
theorem lw_p56 : lw_okq (⟨"LsmStoreModel", "end", "(I)I"⟩, 19) := ⟨⟨by decide +kernel, by decide +kernel⟩, List.mem_of_getElem? (i := 1288) (by decide +kernel), List.mem_of_getElem? (i := 1448) (by decide +kernel), List.mem_of_getElem? (i := 1449) (by decide +kernel)⟩
theorem lw_p57 : lw_okq (⟨"LsmStoreModel", "taken", "([BIZ)V"⟩, 19) := ⟨⟨by decide +kernel, by decide +kernel⟩, List.mem_of_getElem? (i := 1288) (by decide +kernel), List.mem_of_getElem? (i := 1452) (by decide +kernel), List.mem_of_getElem? (i := 1453) (by decide +kernel)⟩
theorem lw_p58 : lw_okq (⟨"LsmStoreModel", "works", "()V"⟩, 19) := ⟨⟨by decide +kernel, by decide +kernel⟩, List.mem_of_getElem? (i := 1288) (by decide +kernel), List.mem_of_getElem? (i := 1472) (by decide +kernel), List.mem_of_getElem? (i := 1473) (by decide +kernel)⟩
def lw_privs_4 : List (MethodName × Nat) := [(⟨"LsmStoreModel", "set", "([BII[BII)V"⟩, 19), (⟨"LsmStoreModel", "done", "()I"⟩, 19), (⟨"LsmStoreModel", "fall", "()V"⟩, 19), (⟨"LsmStoreModel", "lost", "()V"⟩, 19), (⟨"LsmStoreModel", "failed", "()I"⟩, 19), (⟨"LsmStoreModel", "isThere", "(I)Z"⟩, 19), (⟨"LsmStoreModel", "rowOf", "(I)[B"⟩, 19), (⟨"LsmStoreModel", "from", "(I)I"⟩, 19), (⟨"LsmStoreModel", "end", "(I)I"⟩, 19), (⟨"LsmStoreModel", "taken", "([BIZ)V"⟩, 19), (⟨"LsmStoreModel", "works", "()V"⟩, 19)]
theorem lw_r4 : ∀ q ∈ lw_privs_4, lw_okq q := List.forall_mem_cons.mpr ⟨lw_p48, List.forall_mem_cons.mpr ⟨lw_p49, List.forall_mem_cons.mpr ⟨lw_p50, List.forall_mem_cons.mpr ⟨lw_p51, List.forall_mem_cons.mpr ⟨lw_p52, List.forall_mem_cons.mpr ⟨lw_p53, List.forall_mem_cons.mpr ⟨lw_p54, List.forall_mem_cons.mpr ⟨lw_p55, List.forall_mem_cons.mpr ⟨lw_p56, List.forall_mem_cons.mpr ⟨lw_p57, List.forall_mem_cons.mpr ⟨lw_p58, fun _ h => absurd h List.not_mem_nil⟩⟩⟩⟩⟩⟩⟩⟩⟩⟩⟩
def lw_privs : List (MethodName × Nat) := lw_privs_1 ++ (lw_privs_2 ++ (lw_privs_3 ++ (lw_privs_4)))
def lw_tbl : List Cond := k2_sels lw_privs ++ tables_1
theorem lw_privs_ok : ∀ q ∈ lw_privs, lw_okq q := by
  show ∀ q ∈ lw_privs_1 ++ (lw_privs_2 ++ (lw_privs_3 ++ (lw_privs_4))), lw_okq q
  exact List.forall_mem_append.mpr ⟨lw_r1, List.forall_mem_append.mpr ⟨lw_r2, List.forall_mem_append.mpr ⟨lw_r3, lw_r4⟩⟩⟩
-- ===== end of PART A; then your names; then what follows =====
end
section
/-! ===== BEGIN words of one list among another's, by their places ===== -/
theorem goodIn_r {big : List Cond} (ws : List Cond) (ps : List Nat) (hp : ws = ps.filterMap (fun i => big[i]?)) (h : ws.all goodWord = true) : GoodIn big ws := by
  intro w hw
  have h1 := List.all_eq_true.mp h w hw
  rw [hp] at hw
  obtain ⟨i, -, hi⟩ := List.mem_filterMap.mp hw
  have hm : w ∈ big := by first | exact List.mem_of_getElem? hi | exact List.getElem?_mem hi
  exact ⟨hm, good_of_word h1⟩
theorem goodIn_app {big a b : List Cond} (ha : GoodIn big a) (hb : GoodIn big b) : GoodIn big (a ++ b) := fun w h => (List.mem_append.mp h).elim (ha w) (hb w)
theorem goodIn_ca {big a b : List Cond} {c : Cond} (ha : GoodIn big (c :: a)) (hb : GoodIn big b) : GoodIn big (c :: (a ++ b)) := fun w h => (List.mem_cons.mp h).elim (fun e => ha w (List.mem_cons.mpr (Or.inl e))) (fun h => (List.mem_append.mp h).elim (fun h => ha w (List.mem_cons.mpr (Or.inr h))) (hb w))
theorem goodIn_sub {big ws : List Cond} (hm : ∀ w ∈ ws, w ∈ big) (h : ws.all goodWord = true) : GoodIn big ws := fun w hw => ⟨hm w hw, good_of_word (List.all_eq_true.mp h w hw)⟩
/-! ===== END ===== -/

/-! ===== BEGIN exceptions that leave a method, and their catching by the caller (launches without stack traces) ===== -/
section VXA
/-! The laws vx_back, vx_callV, vx_callS, vx_callSW, vx_throw0, vx_throwS follow proofs of the library, with one case more: JvmDerived/Free/Laws.lean (Back.of_free), Shelf42/LK1.lean (callV, callS), Shelf/KitTraced.lean (throwNew0V, throwNewS). -/
/-- where a method has thrown q: the class by its name, the cell, what was written, the world -/
def vx_T (XC : String → State → State → Prop) (st : State) (q : Addr) (t : State) (mc ms : Nat) (free : Addr → Prop) : Prop :=
  ∃ (E : String) (ce : Cell) (L : List Loc), XC E st t ∧ t.heap[q]? = some ce ∧ ce.vm = .none ∧ st.vm.findClass E = some ce.cls ∧ st.WarmedH t.vm ∧ st.sameButNew ({ t with vm := st.vm } : State) L mc ms ∧ ∀ z ∈ L, free z.base
def vx_Q (Qc : Array Value → State → Outcome → State → Prop) (XC : String → State → State → Prop) (mc ms : Nat) (free : Addr → Prop) : Array Value → State → Outcome → State → Prop := fun a st o t =>
  (Qc a st o t ∧ ∃ L, FrameEnd st o t L mc ms ∧ ∀ q ∈ L, free q.base) ∨ ∃ q, o = .threw q ∧ vx_T XC st q t mc ms free
/-- a callee that returns or throws -/
def vx_Met (l : Launch) (y : MethodName) (ws : List Cond) (rm : Room) (Pc : Array Value → State → Prop) (Qc : Array Value → State → Outcome → State → Prop) (XC : String → State → State → Prop) (mc ms : Nat) (free : Addr → Prop) : Prop :=
  MetFree l y (headSpec ws rm) Pc (fun _ _ _ _ _ => True) (vx_Q Qc XC mc ms free)
def vx_Post (XC : String → State → State → Prop) (mc ms : Nat) (free : Addr → Prop) : Pt → Array Value → Addr → Pt → Prop := fun A a q B =>
  ∃ (g : JFrame) (mk : MethodId) (t : State) (L : List Loc) (E : String) (ce : Cell), B.U.heap = t.heap ∧ B.U.vm = t.vm ∧ XC E (A.U.calling g mk a) t ∧ t.heap[q]? = some ce ∧ ce.vm = .none ∧ A.U.vm.findClass E = some ce.cls ∧ B.locs = A.locs ++ L ∧ (∀ z ∈ L, free z.base) ∧ B.cells = A.cells + mc ∧ B.slots = A.slots + ms
def vx_Back (l : Launch) (R : Room) (p : Program) (e : Env) (below : List Frame) (s : State) (sargs : Array Value) (y : MethodName) (len W9 : Nat)
    (Pre : Pt → Array Value → Prop) (Post : Pt → Array Value → Option Value → Pt → Prop) (PostX : Pt → Array Value → Addr → Pt → Prop) : Prop :=
  ∀ (m : MethodId) (meth : Method) (c : Code) (A : Pt) (g : JFrame) (ig : Instr) (mk : MethodId) (a : Array Value),
    Stand p l e R s m sargs below meth c A.U A.locs A.cells A.slots → g.method = m → g.locals.size = c.maxLocals → decode c.code g.pc = .ok (ig, len) →
    2 * g.monitorRoom + (g.stack.map fun v => v.category).sum ≤ W9 → A.U.methodNamed? y = some mk → Pre A a →
    (∃ (v : Option Value) (B : Pt), Stand p l e R s m sargs below meth c B.U B.locs B.cells B.slots ∧ Post A a v B ∧
      Steps p.tables e below (doInvoke e (A.U.setTop g) [] mk a).1 (B.U.setTop { g with pc := g.pc + len, stack := v.toList ++ g.stack })) ∨
    (∃ (q : Addr) (B : Pt), Stand p l e R s m sargs below meth c B.U B.locs B.cells B.slots ∧ PostX A a q B ∧
      Steps p.tables e below (doInvoke e (A.U.setTop g) [] mk a).1 ((B.U.setTop g).pushFrame (.throwing q)))
section Payer
variable {l : Launch} {R : Room} {p : Program} {e : Env} {below : List Frame} {s : State} {sargs : Array Value} {y : MethodName} {len W9 : Nat}
theorem vx_back {ws : List Cond} {rm : Room} {Pc : Array Value → State → Prop} {Qc : Array Value → State → Outcome → State → Prop} {XC : String → State → State → Prop} {mc ms : Nat} {free : Addr → Prop} {bytes : ByteArray} {maxL : Nat} {ret : Option FieldType}
    (hM : vx_Met l y ws rm Pc Qc XC mc ms free) (hblind : FrameBlind Pc) (hrc : rm.cells = mc) (hrs : rm.slots = ms)
    (hframes : rm.frames + 1 ≤ R.frames) (hlocals : W9 + (maxL + 11) + rm.locals ≤ R.locals)
    (hws : ∀ w ∈ ws, ∀ a' U, s.WarmedH U.vm → w.before a' U = true) (hcode : Cond.code y bytes maxL ret ∈ ws) (hinit : ∀ a' U, s.WarmedH U.vm → (Cond.initialized y.cls).before a' U = true) :
    vx_Back l R p e below s sargs y len W9 (PreOf R mc ms Pc) (PostOf Qc mc ms free) (vx_Post XC mc ms free) := by
  intro m meth c A g ig mk a X hg hsize hdg hW hn hp
  have h1 : (headSpec ws rm).pre.before a A.U = true := atoms_intro fun w hw => hws w hw _ _ X.warmed
  have h2 : (Cond.code y bytes maxL ret).before a A.U = true := hws _ hcode _ _ X.warmed
  have h3 : (Cond.initialized y.cls).before a A.U = true := hinit _ _ X.warmed
  have h4 : A.cells + (headSpec ws rm).room.cells ≤ R.cells := by rw [show (headSpec ws rm).room.cells = mc from hrc]; exact hp.1
  have h5 : A.slots + (headSpec ws rm).room.slots ≤ R.slots := by rw [show (headSpec ws rm).room.slots = ms from hrs]; exact hp.2.1
  have hPc : Pc a (A.U.calling g mk a) := hblind _ _ _ _ hp.2.2
  obtain ⟨U, Ls, c0, s0⟩ := A
  dsimp only [Pt.U, Pt.locs, Pt.cells, Pt.slots] at h1 h2 h3 h4 h5 X hn hPc ⊢
  obtain ⟨methY, cY, hmY, hcY, -, hlY, -, -, -, -⟩ := Cond.code_spec hn h2
  obtain ⟨kY, hkY, -⟩ := className_of_methodNamed hn
  have hinitY : kY.init = .initialized := Cond.initialized_spec (findClass_of_methodNamed hn) hkY h3
  have h : At U g.method c below := by rw [hg]; exact X.here
  have hlocals9 : W9 + (maxL + 11) + (headSpec ws rm).room.locals ≤ R.locals := hlocals
  have happ : (headSpec ws rm).appliesLoose y e.platform (U.calling g mk a) = true :=
    Spec.appliesLoose_calling (g := g) h hdg hn hkY hinitY
      (X.room_calling (g := g) (R' := (headSpec ws rm).room) hsize hmY hcY hframes (by rw [hlY]; omega) h4 h5) h1
  obtain ⟨mid, hmid⟩ := h.above
  have hfr : (U.setTop g).frames = (.java g :: mid) ++ below := by rw [State.frames_setTop' g h.top, hmid]; rfl
  obtain ⟨o, s₂, hsteps, -, hend, hq⟩ := Steps.callFree hM p X.admits X.cas X.clock (acts := []) hfr happ hPc trivial
  have hq' : vx_Q Qc XC mc ms free a (U.calling g mk a) o s₂ := hq
  rw [State.frames_setTop' g h.top] at hend
  obtain ⟨g₀, hg0⟩ := Option.isSome_iff_exists.mp h.top
  obtain ⟨r, hr⟩ := State.topJava?_eq_some.mp hg0
  have hr' : (({ U with heap := s₂.heap, slotsUsed := s₂.slotsUsed } : State).setVm s₂.vm).frames = .java g₀ :: r := hr
  rcases hq' with ⟨hqc, L, hfe, hL⟩ | ⟨q, rfl, E, ce, L, hx, hce, hcv, hcl, hW₂, hsm, hL⟩
  · obtain ⟨⟨v, rfl⟩, hW₂, e2, q2, q3, q4, q5, q6⟩ := id hfe
    have e3 : s₂ = ({ (U.calling g mk a).setFrames s₂.frames with heap := s₂.heap, slotsUsed := s₂.slotsUsed } : State).setVm s₂.vm := by
      have : s₂ = ({ s₂ with vm := (U.calling g mk a).vm } : State).setVm s₂.vm := rfl
      rw [e2] at this
      exact this
    obtain ⟨c₂, i₂, len₂, hc₂, hd₂, hf₂⟩ := hend
    have hW' : U.WarmedH s₂.vm := hW₂
    have hcc : c₂ = c := by
      have h1 : s₂.code? g.method = U.code? g.method := by
        rw [State.code?_eq, State.code?_eq, hW'.alike.method?]
      exact Option.some.inj (hc₂.symm.trans (h1.trans h.code))
    subst hcc
    have hlen : len₂ = len := by rw [hdg] at hd₂; cases hd₂; rfl
    subst hlen
    have hs₂ : s₂ = (({ U with heap := s₂.heap, slotsUsed := s₂.slotsUsed } : State).setVm s₂.vm).setTop { g with pc := g.pc + len₂, stack := v.toList ++ g.stack } := by
      refine e3.trans ?_
      rw [hf₂, State.calling_eq h.top, State.setFrames_setFrames, State.setTop_of_frames _ hr', hr]
      rfl
    have hsame : U.sameButNew ({ U with heap := s₂.heap, slotsUsed := s₂.slotsUsed } : State) L mc ms := by
      refine ⟨?_, q2, q3, q4, q5, q6⟩
      obtain ⟨t, ht, -⟩ := State.frames_cons hr
      show ({ U with heap := s₂.heap, slotsUsed := s₂.slotsUsed } : State) = { U.setFrames U.frames with heap := s₂.heap, slotsUsed := s₂.slotsUsed }
      rw [State.setFrames_self ht]
    subst hg
    refine Or.inl ⟨v, ⟨(({ U with heap := s₂.heap, slotsUsed := s₂.slotsUsed } : State).setVm s₂.vm), Ls ++ L, c0 + mc, s0 + ms⟩,
      ⟨X.admits, X.cas, X.clock, X.frames, X.room, X.hears, X.method, X.code, (X.here.setHeapUsed s₂.heap s₂.slotsUsed).setVm hW'.alike, X.tail, State.WarmedH.trans X.warmed hW', X.limits, X.bytes, X.same.trans (hsame.setVm s.vm)⟩,
      ⟨g, mk, s₂, L, rfl, rfl, hqc, rfl, hL, rfl, rfl⟩, ?_⟩
    show Steps p.tables e below _ ((({ U with heap := s₂.heap, slotsUsed := s₂.slotsUsed } : State).setVm s₂.vm).setTop { g with pc := g.pc + len₂, stack := v.toList ++ g.stack })
    rw [← hs₂]
    exact hsteps
  · obtain ⟨e2, q2, q3, q4, q5, q6⟩ := id hsm
    have e3 : s₂ = ({ (U.calling g mk a).setFrames s₂.frames with heap := s₂.heap, slotsUsed := s₂.slotsUsed } : State).setVm s₂.vm := by
      have : s₂ = ({ s₂ with vm := (U.calling g mk a).vm } : State).setVm s₂.vm := rfl
      rw [e2] at this
      exact this
    have hf₂ : s₂.frames = .throwing q :: .java g :: U.frames.tail := hend
    have hW' : U.WarmedH s₂.vm := hW₂
    have hs₂ : s₂ = ((({ U with heap := s₂.heap, slotsUsed := s₂.slotsUsed } : State).setVm s₂.vm).setTop g).pushFrame (.throwing q) := by
      refine e3.trans ?_
      rw [hf₂, State.calling_eq h.top, State.setFrames_setFrames, State.pushFrame, State.frames_setTop _ hr', State.setTop_of_frames _ hr', State.setFrames_setFrames, hr]
      rfl
    have hsame : U.sameButNew ({ U with heap := s₂.heap, slotsUsed := s₂.slotsUsed } : State) L mc ms := by
      refine ⟨?_, q2, q3, q4, q5, q6⟩
      obtain ⟨t, ht, -⟩ := State.frames_cons hr
      show ({ U with heap := s₂.heap, slotsUsed := s₂.slotsUsed } : State) = { U.setFrames U.frames with heap := s₂.heap, slotsUsed := s₂.slotsUsed }
      rw [State.setFrames_self ht]
    subst hg
    refine Or.inr ⟨q, ⟨(({ U with heap := s₂.heap, slotsUsed := s₂.slotsUsed } : State).setVm s₂.vm), Ls ++ L, c0 + mc, s0 + ms⟩,
      ⟨X.admits, X.cas, X.clock, X.frames, X.room, X.hears, X.method, X.code, (X.here.setHeapUsed s₂.heap s₂.slotsUsed).setVm hW'.alike, X.tail, State.WarmedH.trans X.warmed hW', X.limits, X.bytes, X.same.trans (hsame.setVm s.vm)⟩,
      ⟨g, mk, s₂, L, E, ce, rfl, rfl, hx, hce, hcv, hcl, rfl, hL, rfl, rfl⟩, ?_⟩
    show Steps p.tables e below _ (((({ U with heap := s₂.heap, slotsUsed := s₂.slotsUsed } : State).setVm s₂.vm).setTop g).pushFrame (.throwing q))
    rw [← hs₂]
    exact hsteps
end Payer
section Calls
variable {p : Program} {l : Launch} {e : Env} {R : Room} {s : State} {m : MethodId} {args : Array Value} {below : List Frame} {meth : Method} {c : Code} {T : State} {locs : List Loc} {cells slots : Nat}
theorem vx_callV (X : Stand p l e R s m args below meth c T locs cells slots) (hexec : p.tables.exec = Jvm.exec) {own C : String} {index : Nat} {y : MethodName} {bytes : ByteArray} {maxL : Nat} {ret : Option FieldType}
    (hown : s.vm.findClass own = some m.cls) (hlink : (Cond.methodLink own index y).before args s = true) (hinst : (Cond.instanceMethod y).before args s = true) (hsel : (Cond.selects C y y).before args s = true)
    (hcode : (Cond.code y bytes maxL ret).before args s = true) (hy : y.cls ≠ "java/lang/invoke/MethodHandle" ∧ y.cls ≠ "java/lang/invoke/VarHandle")
    {W9 : Nat} {Pre : Pt → Array Value → Prop} {Post : Pt → Array Value → Option Value → Pt → Prop} {PostX : Pt → Array Value → Addr → Pt → Prop} (hK : vx_Back l R p e below s args y 3 W9 Pre Post PostX)
    {b : Addr} {cellB : Cell} (hcell : T.heap[b]? = some cellB) (hobj : cellB.vm.isStatics = false) (hcls : s.vm.findClass C = some cellB.cls)
    {g : JFrame} (hg : g.method = m) (hsize : g.locals.size = c.maxLocals) {argsL rest : List Value} (hlen : ∀ sig, parseMethodDescriptor y.desc = some sig → argsL.length = sig.parameters.length)
    (hstack : g.stack = argsL.reverse ++ .ref b :: rest) (hW : 2 * g.monitorRoom + (rest.map fun v => v.category).sum ≤ W9) (hdg : decode c.code g.pc = .ok (.invokevirtual index, 3))
    (hpre : ∀ vm₁, s.WarmedH vm₁ → Pre ⟨T.setVm vm₁, locs, cells, slots⟩ (Value.ref b :: argsL).toArray) :
    (∃ (v : Option Value) (vm₁ : Vm) (B : Pt), s.WarmedH vm₁ ∧ Stand p l e R s m args below meth c B.U B.locs B.cells B.slots ∧ Post ⟨T.setVm vm₁, locs, cells, slots⟩ (Value.ref b :: argsL).toArray v B ∧
      ∀ target, Steps p.tables e below (B.U.setTop { g with pc := g.pc + 3, stack := v.toList ++ rest }) target → Steps p.tables e below (T.setTop g) target) ∨
    (∃ (q : Addr) (vm₁ : Vm) (B : Pt), s.WarmedH vm₁ ∧ Stand p l e R s m args below meth c B.U B.locs B.cells B.slots ∧ PostX ⟨T.setVm vm₁, locs, cells, slots⟩ (Value.ref b :: argsL).toArray q B ∧
      Steps p.tables e below (T.setTop g) ((B.U.setTop { g with stack := rest }).pushFrame (.throwing q))) := by
  obtain ⟨mk, methM, hnamed, hmethM, hstM, habM⟩ := Cond.instanceMethod_spec hinst
  obtain ⟨methM', cM, hmethM', -, -, -, -, -, -, hsigM⟩ := Cond.code_spec hnamed hcode
  cases hmethM.symm.trans hmethM'
  obtain ⟨c2, r2, m2, q1, q2, q3, q4, kP, hkP, hkPi⟩ := Cond.selects_spec hsel
  cases hcls.symm.trans q1
  cases (State.methodFound?_of_named hnamed hy).symm.trans q2
  cases hnamed.symm.trans q3
  have hselP : selectMethod e.platform s.vm cellB.cls mk = .method mk := by rw [Launch.admits_selectMethod X.admits]; exact q4
  obtain ⟨vm₁, X₁, hstep₁⟩ := X.invokevirtual hexec hown hlink hnamed hmethM hstM hkP hkPi hy (a := b) (cell := cellB) hcell
    (fun z h => by rw [h] at hobj; cases hobj) hselP hmethM habM hkP hkPi (g := g) hg (argsL := argsL) (rest := rest) (hlen _ hsigM) hstack hdg
  rcases hK m meth c ⟨T.setVm vm₁, locs, cells, slots⟩ { g with stack := rest } (.invokevirtual index) mk (Value.ref b :: argsL).toArray X₁ hg hsize hdg hW (X₁.named hnamed) (hpre vm₁ X₁.warmed) with ⟨v, B, X', hpost, hsteps⟩ | ⟨q, B, X', hpost, hsteps⟩
  · exact Or.inl ⟨v, vm₁, B, X₁.warmed, X', hpost, fun target h => hstep₁ _ fun acts => by rw [doInvoke_state]; exact hsteps.trans h⟩
  · exact Or.inr ⟨q, vm₁, B, X₁.warmed, X', hpost, hstep₁ _ fun acts => by rw [doInvoke_state]; exact hsteps⟩
theorem vx_callS (X : Stand p l e R s m args below meth c T locs cells slots) (hexec : p.tables.exec = Jvm.exec) {own : String} {index : Nat} {y : MethodName} {bytes : ByteArray} {maxL : Nat} {ret : Option FieldType}
    (hown : s.vm.findClass own = some m.cls) (hlink : (Cond.methodLink own index y).before args s = true) (hstat : (Cond.static y).before args s = true) (hinit : (Cond.initialized y.cls).before args s = true)
    (hcode : (Cond.code y bytes maxL ret).before args s = true) (hy : y.cls ≠ "java/lang/invoke/MethodHandle" ∧ y.cls ≠ "java/lang/invoke/VarHandle")
    {W9 : Nat} {Pre : Pt → Array Value → Prop} {Post : Pt → Array Value → Option Value → Pt → Prop} {PostX : Pt → Array Value → Addr → Pt → Prop} (hK : vx_Back l R p e below s args y 3 W9 Pre Post PostX)
    {g : JFrame} (hg : g.method = m) (hsize : g.locals.size = c.maxLocals) {argsL rest : List Value} (hlen : ∀ sig, parseMethodDescriptor y.desc = some sig → argsL.length = sig.parameters.length)
    (hstack : g.stack = argsL.reverse ++ rest) (hW : 2 * g.monitorRoom + (rest.map fun v => v.category).sum ≤ W9) (hdg : decode c.code g.pc = .ok (.invokestatic index, 3))
    (hpre : ∀ vm₁, s.WarmedH vm₁ → Pre ⟨T.setVm vm₁, locs, cells, slots⟩ argsL.toArray) :
    (∃ (v : Option Value) (vm₁ : Vm) (B : Pt), s.WarmedH vm₁ ∧ Stand p l e R s m args below meth c B.U B.locs B.cells B.slots ∧ Post ⟨T.setVm vm₁, locs, cells, slots⟩ argsL.toArray v B ∧
      ∀ target, Steps p.tables e below (B.U.setTop { g with pc := g.pc + 3, stack := v.toList ++ rest }) target → Steps p.tables e below (T.setTop g) target) ∨
    (∃ (q : Addr) (vm₁ : Vm) (B : Pt), s.WarmedH vm₁ ∧ Stand p l e R s m args below meth c B.U B.locs B.cells B.slots ∧ PostX ⟨T.setVm vm₁, locs, cells, slots⟩ argsL.toArray q B ∧
      Steps p.tables e below (T.setTop g) ((B.U.setTop { g with stack := rest }).pushFrame (.throwing q))) := by
  obtain ⟨mk, hnamed⟩ := Cond.code_named hcode
  obtain ⟨methM, cM, hmethM, -, -, -, -, -, -, hsigM⟩ := Cond.code_spec hnamed hcode
  have hstatic : methM.isStatic = true := Cond.static_spec hnamed hmethM hstat
  obtain ⟨kP, hkP, -⟩ := className_of_methodNamed hnamed
  have hinitP : kP.init = .initialized := Cond.initialized_spec (findClass_of_methodNamed hnamed) hkP hinit
  obtain ⟨vm₁, X₁, hstep₁⟩ := X.invokestatic hexec hown hlink hnamed hmethM hstatic hkP hinitP hy (g := g) hg (argsL := argsL) (rest := rest) (hlen _ hsigM) hstack hdg
  rcases hK m meth c ⟨T.setVm vm₁, locs, cells, slots⟩ { g with stack := rest } (.invokestatic index) mk argsL.toArray X₁ hg hsize hdg hW (X₁.named hnamed) (hpre vm₁ X₁.warmed) with ⟨v, B, X', hpost, hsteps⟩ | ⟨q, B, X', hpost, hsteps⟩
  · exact Or.inl ⟨v, vm₁, B, X₁.warmed, X', hpost, fun target h => hstep₁ _ fun acts => by rw [doInvoke_state]; exact hsteps.trans h⟩
  · exact Or.inr ⟨q, vm₁, B, X₁.warmed, X', hpost, hstep₁ _ fun acts => by rw [doInvoke_state]; exact hsteps⟩
end Calls
theorem vx_cls {s : State} {T : State} {vm₁ : Vm} {E : String} {k : ClassId} (hW : s.WarmedH vm₁) (h : (T.setVm vm₁).vm.findClass E = some k) : s.vm.findClass E = some k := by
  have h1 : vm₁.findClass E = some k := h
  rw [hW.alike.findClass] at h1
  exact h1
/-- the method's frame g, with q thrown over it -/
def vx_W (p : Program) (l : Launch) (e : Env) (R : Room) (s : State) (m : MethodId) (args : Array Value) (below : List Frame) (meth : Method) (c : Code) (H : Heap) (locs : List Loc) (cells slots : Nat) (Q : State → Prop) (g : JFrame) (q : Addr) : Prop :=
  ∀ T : State, T.heap = H → Stand p l e R s m args below meth c T locs cells slots → ∃ t, Steps p.tables e below ((T.setTop g).pushFrame (.throwing q)) t ∧ Q t
def vx_Run (p : Program) (l : Launch) (e : Env) (R : Room) (s : State) (m : MethodId) (args : Array Value) (below : List Frame) (meth : Method) (c : Code) (H : Heap) (locs : List Loc) (cells slots mc ms : Nat) (g : JFrame) (rest : List Value) (Qa : State → Outcome → State → Prop) (XC : String → State → State → Prop) (free : Addr → Prop) : Prop :=
  ∀ T : State, T.heap = H → Stand p l e R s m args below meth c T locs cells slots →
    (∃ (v : Option Value) (st₀ t T' : State) (L : List Loc), st₀.heap = H ∧ Stand p l e R s m args below meth c T' (locs ++ L) (cells + mc) (slots + ms) ∧ (∀ q ∈ L, free q.base) ∧ T'.heap = t.heap ∧ T'.vm = t.vm ∧ Qa st₀ (.returned v) t ∧
      Goes p e below T g T' { g with pc := g.pc + 3, stack := v.toList ++ rest }) ∨
    (∃ (q : Addr) (st₀ t T' : State) (L : List Loc) (E : String) (ce : Cell), st₀.heap = H ∧ Stand p l e R s m args below meth c T' (locs ++ L) (cells + mc) (slots + ms) ∧ (∀ z ∈ L, free z.base) ∧ T'.heap = t.heap ∧ T'.vm = t.vm ∧ XC E st₀ t ∧ t.heap[q]? = some ce ∧ ce.vm = .none ∧ s.vm.findClass E = some ce.cls ∧
      Steps p.tables e below (T.setTop g) ((T'.setTop { g with stack := rest }).pushFrame (.throwing q)))
def vx_X {S : Type} (px : S → Prop) (B : String → S → State → Prop) (A : Nat → Prop) : String → State → State → Prop := fun E st t => ∃ u : S, px u ∧ B E u t ∧ va_F A st t
section Runs
variable {p : Program} {l : Launch} {e : Env} {R : Room} {s : State} {m : MethodId} {args : Array Value} {below : List Frame} {meth : Method} {c : Code} {H : Heap} {locs : List Loc} {cells slots : Nat}
variable {y : MethodName} {bytes cc : ByteArray} {maxL nL mc ms n index : Nat} {ret : Option FieldType} {ws : List Cond} {rm : Room} {Pc : Array Value → State → Prop} {Qc : Array Value → State → Outcome → State → Prop} {XC : String → State → State → Prop} {free : Addr → Prop} {Ts : List Cond} {own C : String} {b : Addr} {As rest : List Value} {g : JFrame}
theorem vx_callBack (cb : CallB R s args own index y bytes maxL ret ws rm mc ms n) (hM : vx_Met l y ws rm Pc Qc XC mc ms free) (hbl : FrameBlind Pc) : vx_Back l R p e below s args y 3 8 (PreOf R mc ms Pc) (PostOf Qc mc ms free) (vx_Post XC mc ms free) := by
  obtain ⟨hrc, hrs, hfr, hlo, hws, hcw, -, hini, -⟩ := cb
  exact vx_back (bytes := bytes) (maxL := maxL) (ret := ret) hM hbl hrc hrs hfr hlo hws hcw (fun a' U hW => word_at hW (Or.inl (by first | rfl | simp [Cond.onTables, Cond.keeps, Cond.steady])) hini)
theorem vx_runV (S : CallFix p m c cc nL s args Ts own) (hM : vx_Met l y ws rm Pc Qc XC mc ms free) (cw : CallW R s args own C index y bytes maxL ret ws rm mc ms n) (hp : PreV s H C b Pc As)
    (hg : g.method = m) (hn : As.length = n) (hsize : g.locals.size = nL) (hstack : g.stack = As.reverse ++ .ref b :: rest) (hW : 2 * g.monitorRoom + (rest.map fun v => v.category).sum ≤ 8) (hdg : decode cc g.pc = .ok (.invokevirtual index, 3)) (hf : cells + mc ≤ R.cells ∧ slots + ms ≤ R.slots) :
    vx_Run p l e R s m args below meth c H locs cells slots mc ms g rest (Qc (Value.ref b :: As).toArray) XC free := by
  have hK : vx_Back l R p e below s args y 3 8 (PreOf R mc ms Pc) (PostOf Qc mc ms free) (vx_Post XC mc ms free) := vx_callBack cw.1 hM hp.1
  obtain ⟨⟨-, -, -, -, -, -, hcode, -, hy, hlen, hl⟩, hin, hse⟩ := cw
  obtain ⟨hx, hb, hml, ho, -⟩ := S
  obtain ⟨-, ⟨cellB, hcB, hoB, hclB⟩, hPc⟩ := hp
  intro T hT X
  rcases vx_callV X hx (C := C) (bytes := bytes) (maxL := maxL) (ret := ret) ho hl hin hse hcode hy hK (by rw [hT]; exact hcB) hoB hclB hg (hsize.trans hml.symm) (argsL := As) (rest := rest) (fun sig h => hn.trans (hlen sig h)) hstack hW (by rw [hb]; exact hdg)
    (fun vm₁ hW₁ => ⟨hf.1, hf.2, hPc (T.setVm vm₁) hT hW₁⟩) with ⟨v, vm₁, ⟨U', l2, c2, s2⟩, hW₁, X', ⟨g', mk, t, L, e1, e2, hq, h1, hL, h2, h3⟩, st⟩ | ⟨q, vm₁, ⟨U', l2, c2, s2⟩, hW₁, X', ⟨g', mk, t, L, E, ce, e1, e2, hq, hce, hcv, hcl, h1, hL, h2, h3⟩, st⟩
  · dsimp only [Pt.U, Pt.locs, Pt.cells, Pt.slots] at X' e1 e2 h1 h2 h3 st
    subst h1; subst h2; subst h3
    exact Or.inl ⟨v, (T.setVm vm₁).calling g' mk (Value.ref b :: As).toArray, t, U', L, hT, X', hL, e1, e2, hq, st⟩
  · dsimp only [Pt.U, Pt.locs, Pt.cells, Pt.slots] at X' e1 e2 h1 h2 h3 st hcl
    subst h1; subst h2; subst h3
    exact Or.inr ⟨q, (T.setVm vm₁).calling g' mk (Value.ref b :: As).toArray, t, U', L, E, ce, hT, X', hL, e1, e2, hq, hce, hcv, vx_cls hW₁ hcl, st⟩
theorem vx_runS (S : CallFix p m c cc nL s args Ts own) (hM : vx_Met l y ws rm Pc Qc XC mc ms free) (cw : CallB R s args own index y bytes maxL ret ws rm mc ms n ∧ (Cond.static y).before args s = true) (hp : PreS s H Pc As)
    (hg : g.method = m) (hn : As.length = n) (hsize : g.locals.size = nL) (hstack : g.stack = As.reverse ++ rest) (hW : 2 * g.monitorRoom + (rest.map fun v => v.category).sum ≤ 8) (hdg : decode cc g.pc = .ok (.invokestatic index, 3)) (hf : cells + mc ≤ R.cells ∧ slots + ms ≤ R.slots) :
    vx_Run p l e R s m args below meth c H locs cells slots mc ms g rest (Qc As.toArray) XC free := by
  have hK : vx_Back l R p e below s args y 3 8 (PreOf R mc ms Pc) (PostOf Qc mc ms free) (vx_Post XC mc ms free) := vx_callBack cw.1 hM hp.1
  obtain ⟨⟨-, -, -, -, -, -, hcode, hini, hy, hlen, hl⟩, hstt⟩ := cw
  obtain ⟨hx, hb, hml, ho, -⟩ := S
  intro T hT X
  rcases vx_callS X hx (bytes := bytes) (maxL := maxL) (ret := ret) ho hl hstt hini hcode hy hK hg (hsize.trans hml.symm) (argsL := As) (rest := rest) (fun sig h => hn.trans (hlen sig h)) hstack hW (by rw [hb]; exact hdg)
    (fun vm₁ hW₁ => ⟨hf.1, hf.2, hp.2 (T.setVm vm₁) hT hW₁⟩) with ⟨v, vm₁, ⟨U', l2, c2, s2⟩, hW₁, X', ⟨g', mk, t, L, e1, e2, hq, h1, hL, h2, h3⟩, st⟩ | ⟨q, vm₁, ⟨U', l2, c2, s2⟩, hW₁, X', ⟨g', mk, t, L, E, ce, e1, e2, hq, hce, hcv, hcl, h1, hL, h2, h3⟩, st⟩
  · dsimp only [Pt.U, Pt.locs, Pt.cells, Pt.slots] at X' e1 e2 h1 h2 h3 st
    subst h1; subst h2; subst h3
    exact Or.inl ⟨v, (T.setVm vm₁).calling g' mk As.toArray, t, U', L, hT, X', hL, e1, e2, hq, st⟩
  · dsimp only [Pt.U, Pt.locs, Pt.cells, Pt.slots] at X' e1 e2 h1 h2 h3 st hcl
    subst h1; subst h2; subst h3
    exact Or.inr ⟨q, (T.setVm vm₁).calling g' mk As.toArray, t, U', L, E, ce, hT, X', hL, e1, e2, hq, hce, hcv, vx_cls hW₁ hcl, st⟩
end Runs
section Rows
variable {p : Program} {l : Launch} {e : Env} {R : Room} {s : State} {m : MethodId} {args : Array Value} {below : List Frame} {meth : Method} {c : Code} {H : Heap} {locs : List Loc} {cells slots : Nat} {Q : State → Prop}
variable {mc ms : Nat} {free : Addr → Prop} {A0 A1 : Nat → Prop} {H0 : Heap} {a : Array Value} {pc : Nat} {ls : Array Slot} {st0 rest : List Value}
theorem vx_keep {st₀ t T' : State} {L : List Loc} (h0 : st₀.heap = H) (e1 : T'.heap = t.heap) (hS : va_S A0 H0 H locs) (hA : ∀ q, q < H.size → A1 q → A0 q) (hf : ∀ q, free q → A0 q) (hL : ∀ q ∈ L, free q.base) (hF : va_F A1 st₀ t) :
    H.size ≤ T'.heap.size ∧ (∀ q : Nat, q < H.size → ¬ A1 q → T'.heap[q]? = H[q]?) ∧ va_S A0 H0 T'.heap (locs ++ L) := by
  obtain ⟨hz, hk⟩ := hF
  rw [h0] at hz hk
  exact ⟨by rw [e1]; exact hz, fun q h1 h2 => by rw [e1]; exact hk q h1 h2,
    ⟨Nat.le_trans hS.1 (by rw [e1]; exact hz), fun q h1 h2 => by rw [e1, hk q (Nat.lt_of_lt_of_le h1 hS.1) (fun z => h2 (hA q (Nat.lt_of_lt_of_le h1 hS.1) z))]; exact hS.2.1 q h1 h2, fun q hq => by
      rcases List.mem_append.mp hq with h | h
      · exact hS.2.2 q h
      · exact hf _ (hL q h)⟩⟩
theorem vx_calli {S SX : Type} {post : Int32 → S → Prop} {px : SX → Prop} {B : S → State → Prop} {BX : String → SX → State → Prop} {AX : Nat → Prop} (hr : vx_Run p l e R s m args below meth c H locs cells slots mc ms (F0 m pc ls st0) rest (va_Qi post B A1 a) (vx_X px BX AX) free) (hS : va_S A0 H0 H locs) (hA : ∀ q, q < H.size → A1 q → A0 q) (hf : ∀ q, free q → A0 q) (hAX : ∀ q, q < H.size → AX q → A0 q)
    (kx : ∀ (E : String) (ce : Cell) (q9 : Addr) (u : SX) (t : State) (H1 : Heap) (locs1 : List Loc), t.heap = H1 → s.vm.Alike t.vm → px u → BX E u t → H.size ≤ H1.size → (∀ q : Nat, q < H.size → ¬ AX q → H1[q]? = H[q]?) → va_S A0 H0 H1 locs1 → H1[q9]? = some ce → ce.vm = .none → s.vm.findClass E = some ce.cls → vx_W p l e R s m args below meth c H1 locs1 (cells + mc) (slots + ms) Q (F0 m pc ls rest) q9)
    (kk : ∀ (r : Int32) (u : S) (t : State) (H1 : Heap) (locs1 : List Loc), t.heap = H1 → s.vm.Alike t.vm → post r u → B u t → H.size ≤ H1.size → (∀ q : Nat, q < H.size → ¬ A1 q → H1[q]? = H[q]?) → va_S A0 H0 H1 locs1 → W p l e R s m args below meth c H1 locs1 (cells + mc) (slots + ms) Q (F0 m (pc + 3) ls (.int r :: rest))) : W p l e R s m args below meth c H locs cells slots Q (F0 m pc ls st0) := by
  intro T hT X
  rcases hr T hT X with ⟨v, st₀, t, T', L, h0, X', hL, e1, e2, ⟨⟨r, u, hv, hp, hb⟩, hF⟩, st⟩ | ⟨q, st₀, t, T', L, E, ce, h0, X', hL, e1, e2, ⟨u, hp, hb, hF⟩, hce, hcv, hcl, st⟩
  · cases hv
    obtain ⟨k1, k2, k3⟩ := vx_keep h0 e1 hS hA hf hL hF
    obtain ⟨t2, a1, b1⟩ := kk r u t T'.heap (locs ++ L) e1.symm (by rw [← e2]; exact X'.warmed.alike) hp hb k1 k2 k3 T' rfl X'
    exact ⟨t2, st t2 a1, b1⟩
  · obtain ⟨k1, k2, k3⟩ := vx_keep h0 e1 hS hAX hf hL hF
    obtain ⟨t2, a1, b1⟩ := kx E ce q u t T'.heap (locs ++ L) e1.symm (by rw [← e2]; exact X'.warmed.alike) hp hb k1 k2 k3 (by rw [e1]; exact hce) hcv hcl T' rfl X'
    exact ⟨t2, st.trans a1, b1⟩
theorem vx_calll {S SX : Type} {post : Int64 → S → Prop} {px : SX → Prop} {B : S → State → Prop} {BX : String → SX → State → Prop} {AX : Nat → Prop} (hr : vx_Run p l e R s m args below meth c H locs cells slots mc ms (F0 m pc ls st0) rest (va_Ql post B A1 a) (vx_X px BX AX) free) (hS : va_S A0 H0 H locs) (hA : ∀ q, q < H.size → A1 q → A0 q) (hf : ∀ q, free q → A0 q) (hAX : ∀ q, q < H.size → AX q → A0 q)
    (kx : ∀ (E : String) (ce : Cell) (q9 : Addr) (u : SX) (t : State) (H1 : Heap) (locs1 : List Loc), t.heap = H1 → s.vm.Alike t.vm → px u → BX E u t → H.size ≤ H1.size → (∀ q : Nat, q < H.size → ¬ AX q → H1[q]? = H[q]?) → va_S A0 H0 H1 locs1 → H1[q9]? = some ce → ce.vm = .none → s.vm.findClass E = some ce.cls → vx_W p l e R s m args below meth c H1 locs1 (cells + mc) (slots + ms) Q (F0 m pc ls rest) q9)
    (kk : ∀ (r : Int64) (u : S) (t : State) (H1 : Heap) (locs1 : List Loc), t.heap = H1 → s.vm.Alike t.vm → post r u → B u t → H.size ≤ H1.size → (∀ q : Nat, q < H.size → ¬ A1 q → H1[q]? = H[q]?) → va_S A0 H0 H1 locs1 → W p l e R s m args below meth c H1 locs1 (cells + mc) (slots + ms) Q (F0 m (pc + 3) ls (.long r :: rest))) : W p l e R s m args below meth c H locs cells slots Q (F0 m pc ls st0) := by
  intro T hT X
  rcases hr T hT X with ⟨v, st₀, t, T', L, h0, X', hL, e1, e2, ⟨⟨r, u, hv, hp, hb⟩, hF⟩, st⟩ | ⟨q, st₀, t, T', L, E, ce, h0, X', hL, e1, e2, ⟨u, hp, hb, hF⟩, hce, hcv, hcl, st⟩
  · cases hv
    obtain ⟨k1, k2, k3⟩ := vx_keep h0 e1 hS hA hf hL hF
    obtain ⟨t2, a1, b1⟩ := kk r u t T'.heap (locs ++ L) e1.symm (by rw [← e2]; exact X'.warmed.alike) hp hb k1 k2 k3 T' rfl X'
    exact ⟨t2, st t2 a1, b1⟩
  · obtain ⟨k1, k2, k3⟩ := vx_keep h0 e1 hS hAX hf hL hF
    obtain ⟨t2, a1, b1⟩ := kx E ce q u t T'.heap (locs ++ L) e1.symm (by rw [← e2]; exact X'.warmed.alike) hp hb k1 k2 k3 (by rw [e1]; exact hce) hcv hcl T' rfl X'
    exact ⟨t2, st.trans a1, b1⟩
theorem vx_callf {S SX : Type} {post : UInt32 → S → Prop} {px : SX → Prop} {B : S → State → Prop} {BX : String → SX → State → Prop} {AX : Nat → Prop} (hr : vx_Run p l e R s m args below meth c H locs cells slots mc ms (F0 m pc ls st0) rest (va_Qf post B A1 a) (vx_X px BX AX) free) (hS : va_S A0 H0 H locs) (hA : ∀ q, q < H.size → A1 q → A0 q) (hf : ∀ q, free q → A0 q) (hAX : ∀ q, q < H.size → AX q → A0 q)
    (kx : ∀ (E : String) (ce : Cell) (q9 : Addr) (u : SX) (t : State) (H1 : Heap) (locs1 : List Loc), t.heap = H1 → s.vm.Alike t.vm → px u → BX E u t → H.size ≤ H1.size → (∀ q : Nat, q < H.size → ¬ AX q → H1[q]? = H[q]?) → va_S A0 H0 H1 locs1 → H1[q9]? = some ce → ce.vm = .none → s.vm.findClass E = some ce.cls → vx_W p l e R s m args below meth c H1 locs1 (cells + mc) (slots + ms) Q (F0 m pc ls rest) q9)
    (kk : ∀ (r : UInt32) (u : S) (t : State) (H1 : Heap) (locs1 : List Loc), t.heap = H1 → s.vm.Alike t.vm → post r u → B u t → H.size ≤ H1.size → (∀ q : Nat, q < H.size → ¬ A1 q → H1[q]? = H[q]?) → va_S A0 H0 H1 locs1 → W p l e R s m args below meth c H1 locs1 (cells + mc) (slots + ms) Q (F0 m (pc + 3) ls (.float r :: rest))) : W p l e R s m args below meth c H locs cells slots Q (F0 m pc ls st0) := by
  intro T hT X
  rcases hr T hT X with ⟨v, st₀, t, T', L, h0, X', hL, e1, e2, ⟨⟨r, u, hv, hp, hb⟩, hF⟩, st⟩ | ⟨q, st₀, t, T', L, E, ce, h0, X', hL, e1, e2, ⟨u, hp, hb, hF⟩, hce, hcv, hcl, st⟩
  · cases hv
    obtain ⟨k1, k2, k3⟩ := vx_keep h0 e1 hS hA hf hL hF
    obtain ⟨t2, a1, b1⟩ := kk r u t T'.heap (locs ++ L) e1.symm (by rw [← e2]; exact X'.warmed.alike) hp hb k1 k2 k3 T' rfl X'
    exact ⟨t2, st t2 a1, b1⟩
  · obtain ⟨k1, k2, k3⟩ := vx_keep h0 e1 hS hAX hf hL hF
    obtain ⟨t2, a1, b1⟩ := kx E ce q u t T'.heap (locs ++ L) e1.symm (by rw [← e2]; exact X'.warmed.alike) hp hb k1 k2 k3 (by rw [e1]; exact hce) hcv hcl T' rfl X'
    exact ⟨t2, st.trans a1, b1⟩
theorem vx_calld {S SX : Type} {post : UInt64 → S → Prop} {px : SX → Prop} {B : S → State → Prop} {BX : String → SX → State → Prop} {AX : Nat → Prop} (hr : vx_Run p l e R s m args below meth c H locs cells slots mc ms (F0 m pc ls st0) rest (va_Qd post B A1 a) (vx_X px BX AX) free) (hS : va_S A0 H0 H locs) (hA : ∀ q, q < H.size → A1 q → A0 q) (hf : ∀ q, free q → A0 q) (hAX : ∀ q, q < H.size → AX q → A0 q)
    (kx : ∀ (E : String) (ce : Cell) (q9 : Addr) (u : SX) (t : State) (H1 : Heap) (locs1 : List Loc), t.heap = H1 → s.vm.Alike t.vm → px u → BX E u t → H.size ≤ H1.size → (∀ q : Nat, q < H.size → ¬ AX q → H1[q]? = H[q]?) → va_S A0 H0 H1 locs1 → H1[q9]? = some ce → ce.vm = .none → s.vm.findClass E = some ce.cls → vx_W p l e R s m args below meth c H1 locs1 (cells + mc) (slots + ms) Q (F0 m pc ls rest) q9)
    (kk : ∀ (r : UInt64) (u : S) (t : State) (H1 : Heap) (locs1 : List Loc), t.heap = H1 → s.vm.Alike t.vm → post r u → B u t → H.size ≤ H1.size → (∀ q : Nat, q < H.size → ¬ A1 q → H1[q]? = H[q]?) → va_S A0 H0 H1 locs1 → W p l e R s m args below meth c H1 locs1 (cells + mc) (slots + ms) Q (F0 m (pc + 3) ls (.double r :: rest))) : W p l e R s m args below meth c H locs cells slots Q (F0 m pc ls st0) := by
  intro T hT X
  rcases hr T hT X with ⟨v, st₀, t, T', L, h0, X', hL, e1, e2, ⟨⟨r, u, hv, hp, hb⟩, hF⟩, st⟩ | ⟨q, st₀, t, T', L, E, ce, h0, X', hL, e1, e2, ⟨u, hp, hb, hF⟩, hce, hcv, hcl, st⟩
  · cases hv
    obtain ⟨k1, k2, k3⟩ := vx_keep h0 e1 hS hA hf hL hF
    obtain ⟨t2, a1, b1⟩ := kk r u t T'.heap (locs ++ L) e1.symm (by rw [← e2]; exact X'.warmed.alike) hp hb k1 k2 k3 T' rfl X'
    exact ⟨t2, st t2 a1, b1⟩
  · obtain ⟨k1, k2, k3⟩ := vx_keep h0 e1 hS hAX hf hL hF
    obtain ⟨t2, a1, b1⟩ := kx E ce q u t T'.heap (locs ++ L) e1.symm (by rw [← e2]; exact X'.warmed.alike) hp hb k1 k2 k3 (by rw [e1]; exact hce) hcv hcl T' rfl X'
    exact ⟨t2, st.trans a1, b1⟩
theorem vx_callv {S SX : Type} {post : S → Prop} {px : SX → Prop} {B : S → State → Prop} {BX : String → SX → State → Prop} {AX : Nat → Prop} (hr : vx_Run p l e R s m args below meth c H locs cells slots mc ms (F0 m pc ls st0) rest (va_Qv post B A1 a) (vx_X px BX AX) free) (hS : va_S A0 H0 H locs) (hA : ∀ q, q < H.size → A1 q → A0 q) (hf : ∀ q, free q → A0 q) (hAX : ∀ q, q < H.size → AX q → A0 q)
    (kx : ∀ (E : String) (ce : Cell) (q9 : Addr) (u : SX) (t : State) (H1 : Heap) (locs1 : List Loc), t.heap = H1 → s.vm.Alike t.vm → px u → BX E u t → H.size ≤ H1.size → (∀ q : Nat, q < H.size → ¬ AX q → H1[q]? = H[q]?) → va_S A0 H0 H1 locs1 → H1[q9]? = some ce → ce.vm = .none → s.vm.findClass E = some ce.cls → vx_W p l e R s m args below meth c H1 locs1 (cells + mc) (slots + ms) Q (F0 m pc ls rest) q9)
    (kk : ∀ (u : S) (t : State) (H1 : Heap) (locs1 : List Loc), t.heap = H1 → s.vm.Alike t.vm → post u → B u t → H.size ≤ H1.size → (∀ q : Nat, q < H.size → ¬ A1 q → H1[q]? = H[q]?) → va_S A0 H0 H1 locs1 → W p l e R s m args below meth c H1 locs1 (cells + mc) (slots + ms) Q (F0 m (pc + 3) ls (rest))) : W p l e R s m args below meth c H locs cells slots Q (F0 m pc ls st0) := by
  intro T hT X
  rcases hr T hT X with ⟨v, st₀, t, T', L, h0, X', hL, e1, e2, ⟨⟨u, hv, hp, hb⟩, hF⟩, st⟩ | ⟨q, st₀, t, T', L, E, ce, h0, X', hL, e1, e2, ⟨u, hp, hb, hF⟩, hce, hcv, hcl, st⟩
  · cases hv
    obtain ⟨k1, k2, k3⟩ := vx_keep h0 e1 hS hA hf hL hF
    obtain ⟨t2, a1, b1⟩ := kk u t T'.heap (locs ++ L) e1.symm (by rw [← e2]; exact X'.warmed.alike) hp hb k1 k2 k3 T' rfl X'
    exact ⟨t2, st t2 a1, b1⟩
  · obtain ⟨k1, k2, k3⟩ := vx_keep h0 e1 hS hAX hf hL hF
    obtain ⟨t2, a1, b1⟩ := kx E ce q u t T'.heap (locs ++ L) e1.symm (by rw [← e2]; exact X'.warmed.alike) hp hb k1 k2 k3 (by rw [e1]; exact hce) hcv hcl T' rfl X'
    exact ⟨t2, st.trans a1, b1⟩
end Rows
section Ends
variable {p : Program} {l : Launch} {e : Env} {R : Room} {s : State} {m : MethodId} {args : Array Value} {below : List Frame} {meth : Method} {c : Code} {H : Heap} {locs : List Loc} {cells slots : Nat} {Q : State → Prop}
variable {mc ms : Nat} {free : Addr → Prop} {A0 A1 : Nat → Prop} {H0 : Heap} {a : Array Value} {ls : Array Slot} {st0 rest : List Value}
variable {Qc : Array Value → State → Outcome → State → Prop} {XC : String → State → State → Prop}
/-- what a body that may throw owes at its end -/
def vx_MQ (below : List Frame) (Qc : Array Value → State → Outcome → State → Prop) (XC : String → State → State → Prop) (a : Array Value) (s : State) (mc ms : Nat) (free : Addr → Prop) : State → Prop := fun t =>
  ∃ o, t.status = .running ∧ Ended t below o ∧ vx_Q Qc XC mc ms free a s o t
theorem vx_ret {g : JFrame} {mc ms : Nat} (k : W p l e R s m args below meth c H locs cells slots (MQ below Qc args s mc ms free) g) : W p l e R s m args below meth c H locs cells slots (vx_MQ below Qc XC args s mc ms free) g := by
  intro T hT X
  obtain ⟨t, a1, o, b1, b2, b3, b4⟩ := k T hT X
  exact ⟨t, a1, o, b1, b2, Or.inl ⟨b3, b4⟩⟩
/-- not caught here: it goes on to the caller -/
theorem vx_widen {g : JFrame} {q : Addr} {k n : Nat} (h1 : cells ≤ k) (h2 : slots ≤ n) (kk : vx_W p l e R s m args below meth c H locs k n Q g q) : vx_W p l e R s m args below meth c H locs cells slots Q g q := fun T hT X => kk T hT (stand_widen X h1 h2)
theorem vx_out {pc : Nat} {E : String} {ce : Cell} {q : Addr} {mc ms : Nat} (hout : ∀ x ∈ c.exceptionTable.toList, covers x pc = false) (hlocks : meth.locks = false) (hcell : H[q]? = some ce) (hv : ce.vm = .none) (hcl : s.vm.findClass E = some ce.cls)
    (hx : ∀ t : State, t.heap = H → s.vm.Alike t.vm → XC E s t) (hf : ∀ z ∈ locs, free z.base) (hc : cells ≤ mc) (hs : slots ≤ ms) :
    vx_W p l e R s m args below meth c H locs cells slots (vx_MQ below Qc XC args s mc ms free) (F0 m pc ls rest) q := by
  intro T hT X
  obtain ⟨st1, hrun, hend, hW, hsm⟩ := X.leaveThrown q (g := F0 m pc ls rest) rfl rfl rfl hout hlocks
  have hcell9 : (T.setFrames (.throwing q :: below)).heap[q]? = some ce := by
    show T.heap[q]? = some ce
    rw [hT]; exact hcell
  exact ⟨_, st1, .threw q, hrun, hend, Or.inr ⟨q, rfl, E, ce, locs, hx _ hT hW.alike, hcell9, hv, hcl, hW, hsm.mono hc hs, hf⟩⟩
theorem vx_frame {U : State} {k n : Nat} (h : s.sameButNew ({ U with vm := s.vm } : State) locs k n) : s.heap.size ≤ U.heap.size ∧ ∀ q : Nat, q < s.heap.size → (∀ z ∈ locs, z.base ≠ q) → U.heap[q]? = s.heap[q]? := by
  obtain ⟨-, h2, -, -, -, h6⟩ := h
  refine ⟨h2, fun q hq hz => ?_⟩
  obtain ⟨c9, e1, e2, e3, e4⟩ := h6 q _ (Array.getElem?_eq_getElem hq)
  have hs : c9.slots = (s.heap[q]).slots := Array.ext_getElem? fun i => e4 i fun hm => hz _ hm rfl
  have h9 : c9 = s.heap[q] := by
    rw [hs] at e2
    exact e2
  have e5 : U.heap[q]? = some c9 := e1
  rw [e5, h9, Array.getElem?_eq_getElem hq]
/-- the words of a throw but the four that speak of the heap -/
def vx_no (w : Cond) : Bool := decide (w ≠ .isRef (.static Bundle.tN "UNASSIGNED_STACK" Bundle.steD)) && decide (w ≠ .isRef (.static Bundle.tN "SUPPRESSED_SENTINEL" Bundle.listD)) && decide (w ≠ .laysStatic Bundle.tN "UNASSIGNED_STACK" Bundle.steD) && decide (w ≠ .laysStatic Bundle.tN "SUPPRESSED_SENTINEL" Bundle.listD)
def vx_at0 (own : String) (ic : Nat) (X : String) (names : List String) : List Cond := (Bundle.ownAtoms0 own ic X names).filter vx_no
def vx_atS (own : String) (ic : Nat) (X : String) (names : List String) : List Cond := (Bundle.ownAtoms own ic X names).filter vx_no
/-- a word that the tables alone decide, or a good one -/
def vx_ot (w : Cond) : Bool := w.onTables || goodWord w
theorem vx_ot_at {args a' : Array Value} {s U : State} {w : Cond} (hW : s.WarmedH U.vm) (hvm : s.vm = U.vm) (hg : vx_ot w = true) (h : w.before args s = true) : w.before a' U = true := by
  simp only [vx_ot, Bool.or_eq_true] at hg
  rcases hg with hg | hg
  · exact va_tabs hg hvm h
  · exact word_at hW (good_of_word hg) h
/-- a list's words: the good ones out of the method's own list, the others by premises of their own -/
theorem vx_hat {args : Array Value} {s : State} {L B : List Cond} (h1 : ∀ w ∈ L.filter goodWord, w.before args s = true) (h2 : ∀ w ∈ L.filter (fun w => !goodWord w), w ∈ B) (h3 : ∀ w ∈ B, w.before args s = true) : ∀ w ∈ L, w.before args s = true := by
  intro w hw
  by_cases g : goodWord w = true
  · exact h1 w (List.mem_filter.mpr ⟨hw, g⟩)
  · refine h3 w (h2 w (List.mem_filter.mpr ⟨hw, ?_⟩))
    show (!goodWord w) = true
    cases hgw : goodWord w
    · rfl
    · exact absurd hgw g
theorem vx_c {args : Array Value} {s : State} {w : Cond} {B : List Cond} (h : w.before args s = true) (t : ∀ w ∈ B, w.before args s = true) : ∀ w' ∈ w :: B, w'.before args s = true := fun w' h' => (List.mem_cons.mp h').elim (fun e => by rw [e]; exact h) (t w')
theorem vx_n {args : Array Value} {s : State} : ∀ w ∈ ([] : List Cond), w.before args s = true := fun _ h => nomatch h
theorem vx_own {args : Array Value} {s : State} {L : List Cond} (h1 : ∀ w ∈ L.filter vx_no, w.before args s = true)
    (hU : (Cond.isRef (.static Bundle.tN "UNASSIGNED_STACK" Bundle.steD)).before args s = true) (hN : (Cond.isRef (.static Bundle.tN "SUPPRESSED_SENTINEL" Bundle.listD)).before args s = true)
    (lU : (Cond.laysStatic Bundle.tN "UNASSIGNED_STACK" Bundle.steD).before args s = true) (lN : (Cond.laysStatic Bundle.tN "SUPPRESSED_SENTINEL" Bundle.listD).before args s = true) : ∀ w ∈ L, w.before args s = true := by
  intro w hw
  by_cases e1 : w = .isRef (.static Bundle.tN "UNASSIGNED_STACK" Bundle.steD)
  · rw [e1]; exact hU
  · by_cases e2 : w = .isRef (.static Bundle.tN "SUPPRESSED_SENTINEL" Bundle.listD)
    · rw [e2]; exact hN
    · by_cases e3 : w = .laysStatic Bundle.tN "UNASSIGNED_STACK" Bundle.steD
      · rw [e3]; exact lU
      · by_cases e4 : w = .laysStatic Bundle.tN "SUPPRESSED_SENTINEL" Bundle.listD
        · rw [e4]; exact lN
        · exact h1 w (List.mem_filter.mpr ⟨hw, by unfold vx_no; rw [decide_eq_true e1, decide_eq_true e2, decide_eq_true e3, decide_eq_true e4]; rfl⟩)
/-- where a static field lies, its class's statics cell in H -/
def vx_L (C n d : String) (A : Nat → Prop) (U : State) (H : Heap) : Prop := ∃ (c : ClassId) (k : Class) (i : Nat) (f : Field) (a : Nat) (cell : Cell), U.vm.findClass C = some c ∧ U.fieldFound? C n d = some (c, k, i, f) ∧ f.isStatic = true ∧ k.statics = some a ∧ H[a]? = some cell ∧ cell.vm.isStatics = true ∧ cell.cls = c ∧ f.slot < cell.slots.size ∧ k.staticTypes[f.slot]? = some f.type ∧ ¬ A a
theorem vx_L.moved {C n d : String} {A : Nat → Prop} {u U : State} {H : Heap} (hvm : u.vm.Alike U.vm) (h : vx_L C n d A u H) : vx_L C n d A U H := by
  obtain ⟨c, k, i, f, a, cell, h1, h2, h3, h4, h5, h6, h7, h8, h9, h10⟩ := h
  obtain ⟨k', hi', he⟩ := State.fieldFound?_setVm hvm h2
  exact ⟨c, k', i, f, a, cell, by rw [hvm.findClass]; exact h1, hi', h3, by rw [he]; exact h4, h5, h6, h7, h8, by rw [he]; exact h9, h10⟩
theorem vx_L.kept {C n d : String} {A : Nat → Prop} {U : State} {H H1 : Heap} (h : vx_L C n d A U H) (hq : ∀ a : Nat, a < H.size → ¬ A a → H1[a]? = H[a]?) : vx_L C n d A U H1 := by
  obtain ⟨c, k, i, f, a, cell, h1, h2, h3, h4, h5, h6, h7, h8, h9, h10⟩ := h
  exact ⟨c, k, i, f, a, cell, h1, h2, h3, h4, by rw [hq a (Array.getElem?_eq_some_iff.mp h5).1 h10]; exact h5, h6, h7, h8, h9, h10⟩
theorem vx_L.narrow {C n d : String} {A B : Nat → Prop} {U : State} {H : Heap} (h : vx_L C n d A U H) (hAB : ∀ q, B q → A q) : vx_L C n d B U H := by
  obtain ⟨c, k, i, f, a, cell, h1, h2, h3, h4, h5, h6, h7, h8, h9, h10⟩ := h
  exact ⟨c, k, i, f, a, cell, h1, h2, h3, h4, h5, h6, h7, h8, h9, fun z => h10 (hAB _ z)⟩
theorem vx_L.word {C n d : String} {A : Nat → Prop} {s : State} {args : Array Value} (h : vx_L C n d A s s.heap) : (Cond.laysStatic C n d).before args s = true := by
  obtain ⟨c, k, i, f, a, cell, h1, h2, h3, h4, h5, h6, h7, h8, h9, -⟩ := h
  show (Cond.laysStatic C n d).holds args s none s [] = true
  exact Cond.laysStatic_of h1 h2 h3 h4 h5 h6 h7 h8 h9
/-- .. and what it holds: null or some reference -/
def vx_Zq (C n d : String) (A : Nat → Prop) (U : State) (H : Heap) : Prop := va_Zq C n d A U H ∧ vx_L C n d A U H
theorem vx_Zq.moved {C n d : String} {A : Nat → Prop} {u U : State} {H : Heap} (hvm : u.vm.Alike U.vm) (h : vx_Zq C n d A u H) : vx_Zq C n d A U H := ⟨va_Zq.moved hvm h.1, vx_L.moved hvm h.2⟩
theorem vx_Zq.kept {C n d : String} {A : Nat → Prop} {U : State} {H H1 : Heap} (h : vx_Zq C n d A U H) (hq : ∀ a : Nat, a < H.size → ¬ A a → H1[a]? = H[a]?) : vx_Zq C n d A U H1 := ⟨va_Zq.kept h.1 hq, vx_L.kept h.2 hq⟩
theorem vx_Zq.narrow {C n d : String} {A B : Nat → Prop} {U : State} {H : Heap} (h : vx_Zq C n d A U H) (hAB : ∀ q, B q → A q) : vx_Zq C n d B U H := ⟨va_Zq.narrow h.1 hAB, vx_L.narrow h.2 hAB⟩
theorem vx_Zqof {args : Array Value} {s : State} {C n d : String} {A : Nat → Prop} (hl : (Cond.laysStatic C n d).before args s = true) (hini : (Cond.initialized C).before args s = true) (h : (Cond.isRef (.static C n d)).before args s = true) (hA : ∀ a : Nat, a < s.heap.size → ¬ A a) : vx_Zq C n d A s s.heap := by
  refine ⟨va_Zqof hl hini h hA, ?_⟩
  obtain ⟨c, k, i, f, a, cell, h1, h2, h3, h4, h5, h6, h7, h8, h9⟩ := Cond.laysStatic_spec hl
  exact ⟨c, k, i, f, a, cell, h1, h2, h3, h4, h5, h6, h7, h8, h9, hA a (Array.getElem?_eq_some_iff.mp h5).1⟩
theorem vx_isRef {C n d : String} {v : Value} {A : Nat → Prop} {s : State} {args : Array Value} (h : va_Z C n d v A s s.heap) (hv : v.isRef = true) : (Cond.isRef (.static C n d)).before args s = true := by
  obtain ⟨cf, kf, fi, f, a, cell, h1, h2, h3, h4, h5, h6, h7, -⟩ := h
  have he : (Term.static C n d).eval args s none [] s = some v := by
    simp [Term.eval, State.fieldNamed?, h1, h2, h4, h5, h6, h7]
  simp only [Cond.before, Cond.holds, Cond.value, he]
  cases v <;> simp_all [Value.isRef]
theorem vx_isRefq {C n d : String} {A : Nat → Prop} {s : State} {args : Array Value} (h : va_Zq C n d A s s.heap) : (Cond.isRef (.static C n d)).before args s = true := by
  rcases h with h | ⟨t, h⟩
  · exact vx_isRef h rfl
  · exact vx_isRef h rfl
/-- the same frame, seen from here: as if the method were called anew in this heap -/
theorem vx_rebase {T : State} (X : Stand p l e R s m args below meth c T locs cells slots) {R' : Room} (hf : R'.frames ≤ R.frames) (hl : R'.locals ≤ R.locals) (hc : cells + R'.cells ≤ R.cells) (hs : slots + R'.slots ≤ R.slots) :
    Stand p l e R' ((T.setVm s.vm).setFrames (.invoking m args :: below)) m args below meth c T [] 0 0 := by
  have htop : (T.setVm s.vm).topJava?.isSome := X.here.top
  have hF : ((T.setVm s.vm).setFrames (.invoking m args :: below)).frames = .invoking m args :: below := State.frames_setFrames _ (State.cur_lt_of_top htop)
  obtain ⟨g₀, hg0⟩ := Option.isSome_iff_exists.mp htop
  obtain ⟨r, hr⟩ := State.topJava?_eq_some.mp hg0
  have hl9 : e.platform.stackLimits (T.setVm s.vm).me = e.platform.stackLimits s.me := X.limits
  have hb9 : (T.setVm s.vm).me.stackBytes = s.me.stackBytes := X.bytes
  refine ⟨X.admits, X.cas, X.clock, hF, ?_, X.hears, X.method, X.code, X.here, X.tail, X.warmed, ?_, ?_, ?_⟩
  · have h := X.room
    have hU : ((T.setVm s.vm).setFrames (.invoking m args :: below)).localsInUse = s.localsInUse := by
      rw [State.localsInUse_invoking hF (meth := meth) (c := c) X.method X.code, State.localsInUse_invoking X.frames X.method X.code]
    simp only [State.hasRoom, Bool.and_eq_true, decide_eq_true_eq] at h ⊢
    obtain ⟨⟨⟨⟨h1, h2, h3, h4, h5, h6⟩, h7⟩, h8⟩, h9⟩ := h
    rw [X.frames, List.length_cons] at h2 h3
    have q1 := X.heapSize
    have q2 := X.used
    simp only [hF, hU, List.length_cons, State.stackLimits_setFrames, State.stackBytes_setFrames, hl9, hb9]
    refine ⟨⟨⟨⟨by omega, by omega, by omega, by omega, by omega, h6⟩, ?_⟩, ?_⟩, X.book⟩
    · show T.heap.size + R'.cells ≤ e.platform.maxCells
      omega
    · show T.slotsUsed + R'.slots ≤ e.platform.maxSlots
      omega
  · rw [State.stackLimits_setFrames]; rfl
  · rw [State.stackBytes_setFrames]; rfl
  · refine ⟨?_, Nat.le_refl _, Nat.le_refl _, ?_, ?_, fun a c9 h9 => ⟨c9, h9, rfl, rfl, fun _ _ => rfl⟩⟩
    · obtain ⟨t, ht, -⟩ := State.frames_cons hr
      show T.setVm s.vm = { ((T.setVm s.vm).setFrames (.invoking m args :: below)).setFrames (T.setVm s.vm).frames with heap := T.heap, slotsUsed := T.slotsUsed }
      rw [State.setFrames_setFrames, State.setFrames_self ht]
      rfl
    · show T.slotsUsed = T.slotsUsed + ((T.heap.toList.drop T.heap.size).map (·.slots.size)).sum
      rw [List.drop_eq_nil_of_le (Nat.le_of_eq Array.length_toList)]
      rfl
    · show ((T.heap.toList.drop T.heap.size).map (·.slots.size)).sum ≤ 0
      rw [List.drop_eq_nil_of_le (Nat.le_of_eq Array.length_toList)]
      exact Nat.le_refl _
/-- 'throw new E()': new; dup; invokespecial; athrow -/
theorem vx_throw0 {cc : ByteArray} {pc : Nat} (hexec : p.tables.exec = Jvm.exec) (hb : c.code = cc) (hl : l.stackTraces = false) {own cls : String} {names : List String} {ik ic mc ms : Nat} {A : Nat → Prop}
    (hown : s.vm.findClass own = some m.cls) (hcls : Bundle.fit cls = true) (hnames : ∀ n ∈ names, Bundle.fit n = true)
    (hk : (Cond.classLink own ik cls).before args s = true) (hini : (Cond.initialized cls).before args s = true) (hat : ∀ w ∈ vx_at0 own ic cls names, w.before args s = true)
    (hgood : ∀ w ∈ Cond.classLink own ik cls :: Cond.initialized cls :: vx_at0 own ic cls names, vx_ot w = true)
    (hU : vx_Zq Bundle.tN "UNASSIGNED_STACK" Bundle.steD A s s.heap) (hN : vx_Zq Bundle.tN "SUPPRESSED_SENTINEL" Bundle.listD A s s.heap) (hS : va_S A s.heap H locs) (hsize : ls.size = c.maxLocals)
    (d0 : decode cc pc = .ok (.new ik, 3)) (d3 : decode cc (pc + 3) = .ok (.dup, 1)) (d4 : decode cc (pc + 4) = .ok (.invokespecial ic, 3)) (d7 : decode cc (pc + 7) = .ok (.athrow, 1))
    (hout : ∀ x ∈ c.exceptionTable.toList, covers x (pc + 7) = false)
    (hRframes : names.length + 3 < R.frames) (hRlocals : (rest.map fun v => v.category).sum + (13 * (names.length + 1) + 42) ≤ R.locals) (hRcells : cells + 1 ≤ R.cells) (hRslots : slots + 6 ≤ R.slots) (hlocks : meth.locks = false)
    (hx : ∀ t : State, s.vm.Alike t.vm → H.size ≤ t.heap.size → (∀ q : Nat, q < H.size → t.heap[q]? = H[q]?) → XC cls s t)
    (hf : ∀ z ∈ locs, free z.base) (hc : cells + 1 ≤ mc) (hs : slots + 6 ≤ ms) :
    W p l e R s m args below meth c H locs cells slots (vx_MQ below Qc XC args s mc ms free) (F0 m pc ls rest) := by
  intro T hT X
  have htr : e.platform.stackTraces = false := (show e.platform.stackTraces = l.stackTraces by rw [X.admits.platform]).trans hl
  have Y := vx_rebase X (R' := { frames := R.frames, locals := R.locals, cells := 1, slots := 6 }) (Nat.le_refl _) (Nat.le_refl _) hRcells hRslots
  obtain ⟨s', hA⟩ : ∃ z, z = (T.setVm s.vm).setFrames (.invoking m args :: below) := ⟨_, rfl⟩
  rw [← hA] at Y
  have hvm : s'.vm = s.vm := by rw [hA]; rfl
  have hhp : s'.heap = H := by rw [hA]; exact hT
  have hW0 : s.WarmedH s'.vm := by rw [hvm]; exact State.WarmedH.refl s
  have hat' : ∀ w ∈ vx_at0 own ic cls names, w.before args s' = true := fun w hw => vx_ot_at hW0 hvm.symm (hgood w (List.mem_cons_of_mem _ (List.mem_cons_of_mem _ hw))) (hat w hw)
  have hk' : (Cond.classLink own ik cls).before args s' = true := vx_ot_at hW0 hvm.symm (hgood _ List.mem_cons_self) hk
  have hini' : (Cond.initialized cls).before args s' = true := vx_ot_at hW0 hvm.symm (hgood _ (List.mem_cons_of_mem _ List.mem_cons_self)) hini
  have hU' : vx_Zq Bundle.tN "UNASSIGNED_STACK" Bundle.steD A s' s'.heap := by rw [hhp]; exact vx_Zq.moved hW0.alike (hU.kept hS.2.1)
  have hN' : vx_Zq Bundle.tN "SUPPRESSED_SENTINEL" Bundle.listD A s' s'.heap := by rw [hhp]; exact vx_Zq.moved hW0.alike (hN.kept hS.2.1)
  have h : ∀ w ∈ Bundle.ownAtoms0 own ic cls names, w.before args s' = true := vx_own hat' (vx_isRefq hU'.1) (vx_isRefq hN'.1) hU'.2.word hN'.2.word
  have hown' : s'.vm.findClass own = some m.cls := by rw [hvm]; exact hown
  have hins : (Cond.instantiable cls 6).before args s' = true := h _ (by simp [Bundle.ownAtoms0])
  obtain ⟨vm₁, cX, kX, hfX, hkX, -, -, X₁, st1⟩ := Y.newCold hexec (own := own) (C := cls) (index := ik) (n := 6) hown' hk' hins hini'
    (g := F0 m pc ls rest) rfl (by rw [hb]; exact d0) (Nat.le_refl _) (Nat.le_refl _)
  generalize hT1 : (T.setVm vm₁).pushCell { cls := cX, slots := kX.instanceTypes.map defaultValue, vm := .none } = T1 at X₁ st1
  have hcat : (Value.ref T.heap.size).category = 1 := rfl
  have hcellA : T1.heap[T.heap.size]? = some (freshCell cX kX) := by rw [← hT1]; exact State.heap_pushCell_size _ _
  have d3' : decode c.code (pc + 3) = .ok (.dup, 1) := by rw [hb]; exact d3
  obtain ⟨U, hsteps, hrun, hend, hW, hsame, ce, hce, hO⟩ := X₁.ctorThrow0 hexec htr (own := own) (cls := cls) (names := names) (ic := ic) hown' hcls hnames h (fun x hx => nomatch hx) hfX hkX hcellA (by rw [hhp, hT]; exact Nat.le_refl _)
    (g := { method := m, pc := pc + 4, locals := ls, stack := .ref T.heap.size :: .ref T.heap.size :: rest, locked := none }) rfl hsize rfl rfl (rest := rest) rfl
    (by rw [hb]; exact d4) (by rw [hb]; exact d7) hout hRframes (by simp only [List.map_cons, List.sum_cons, hcat]; omega) hlocks
  obtain ⟨f1, f2⟩ := vx_frame hsame
  rw [hhp] at f1 f2
  have hWs : s.WarmedH U.vm := State.WarmedH.trans hW0 hW
  have hcl : s.vm.findClass cls = some ce.cls := by
    have h9 := hO.cls
    rw [hvm] at h9
    exact h9
  have hall : s.sameButNew ({ U with vm := s.vm } : State) locs mc ms := by
    subst hA
    obtain ⟨e1, e2⟩ := hsame
    rw [State.setFrames_setFrames] at e1
    have h2 : (T.setVm s.vm).sameButNew ({ U with vm := s.vm } : State) [] (0 + 1) (0 + 6) := ⟨e1, e2⟩
    have h3 := X.same.trans h2
    rw [List.append_nil] at h3
    exact h3.mono hc hs
  refine ⟨U, ?_, .threw T.heap.size, hrun, hend, Or.inr ⟨T.heap.size, rfl, cls, ce, locs, hx U hWs.alike f1 (fun q hq => f2 q hq (fun z hz => nomatch hz)), hce, hO.vm, hcl, hWs, hall, hf⟩⟩
  refine st1 _ ?_
  show Steps p.tables e below (T1.setTop { method := m, pc := pc + 3, locals := ls, stack := .ref T.heap.size :: rest, locked := none }) _
  jvm_step X₁.here [X₁.here.top, hexec, d3', Value.category]
  exact hsteps
/-- 'throw new E("text")': new; dup; ldc; invokespecial; athrow -/
theorem vx_throwS {cc : ByteArray} {pc : Nat} (hexec : p.tables.exec = Jvm.exec) (hb : c.code = cc) (hl : l.stackTraces = false) {own cls text : String} {names : List String} {ik is ic mc ms sa : Nat} {A : Nat → Prop}
    (hown : s.vm.findClass own = some m.cls) (hcls : Bundle.fit cls = true) (hnames : ∀ n ∈ names, Bundle.fit n = true)
    (hk : (Cond.classLink own ik cls).before args s = true) (hini : (Cond.initialized cls).before args s = true) (hstr : vk_R own is text sa s) (hat : ∀ w ∈ vx_atS own ic cls names, w.before args s = true)
    (hgood : ∀ w ∈ Cond.classLink own ik cls :: Cond.initialized cls :: vx_atS own ic cls names, vx_ot w = true)
    (hU : vx_Zq Bundle.tN "UNASSIGNED_STACK" Bundle.steD A s s.heap) (hN : vx_Zq Bundle.tN "SUPPRESSED_SENTINEL" Bundle.listD A s s.heap) (hS : va_S A s.heap H locs) (hsize : ls.size = c.maxLocals)
    (d0 : decode cc pc = .ok (.new ik, 3)) (d3 : decode cc (pc + 3) = .ok (.dup, 1)) (d4 : decode cc (pc + 4) = .ok (.ldc is, 2)) (d6 : decode cc (pc + 6) = .ok (.invokespecial ic, 3)) (d9 : decode cc (pc + 9) = .ok (.athrow, 1))
    (hout : ∀ x ∈ c.exceptionTable.toList, covers x (pc + 9) = false)
    (hRframes : names.length + 3 < R.frames) (hRlocals : (rest.map fun v => v.category).sum + (13 * (names.length + 1) + 43) ≤ R.locals) (hRcells : cells + 1 ≤ R.cells) (hRslots : slots + 6 ≤ R.slots) (hlocks : meth.locks = false)
    (hx : ∀ t : State, s.vm.Alike t.vm → H.size ≤ t.heap.size → (∀ q : Nat, q < H.size → t.heap[q]? = H[q]?) → XC cls s t)
    (hf : ∀ z ∈ locs, free z.base) (hc : cells + 1 ≤ mc) (hs : slots + 6 ≤ ms) :
    W p l e R s m args below meth c H locs cells slots (vx_MQ below Qc XC args s mc ms free) (F0 m pc ls rest) := by
  intro T hT X
  have htr : e.platform.stackTraces = false := (show e.platform.stackTraces = l.stackTraces by rw [X.admits.platform]).trans hl
  have Y := vx_rebase X (R' := { frames := R.frames, locals := R.locals, cells := 1, slots := 6 }) (Nat.le_refl _) (Nat.le_refl _) hRcells hRslots
  obtain ⟨s', hA⟩ : ∃ z, z = (T.setVm s.vm).setFrames (.invoking m args :: below) := ⟨_, rfl⟩
  rw [← hA] at Y
  have hvm : s'.vm = s.vm := by rw [hA]; rfl
  have hhp : s'.heap = H := by rw [hA]; exact hT
  have hW0 : s.WarmedH s'.vm := by rw [hvm]; exact State.WarmedH.refl s
  have hat' : ∀ w ∈ vx_atS own ic cls names, w.before args s' = true := fun w hw => vx_ot_at hW0 hvm.symm (hgood w (List.mem_cons_of_mem _ (List.mem_cons_of_mem _ hw))) (hat w hw)
  have hk' : (Cond.classLink own ik cls).before args s' = true := vx_ot_at hW0 hvm.symm (hgood _ List.mem_cons_self) hk
  have hini' : (Cond.initialized cls).before args s' = true := vx_ot_at hW0 hvm.symm (hgood _ (List.mem_cons_of_mem _ List.mem_cons_self)) hini
  have hU' : vx_Zq Bundle.tN "UNASSIGNED_STACK" Bundle.steD A s' s'.heap := by rw [hhp]; exact vx_Zq.moved hW0.alike (hU.kept hS.2.1)
  have hN' : vx_Zq Bundle.tN "SUPPRESSED_SENTINEL" Bundle.listD A s' s'.heap := by rw [hhp]; exact vx_Zq.moved hW0.alike (hN.kept hS.2.1)
  have h : ∀ w ∈ Bundle.ownAtoms own ic cls names, w.before args s' = true := vx_own hat' (vx_isRefq hU'.1) (vx_isRefq hN'.1) hU'.2.word hN'.2.word
  have hown' : s'.vm.findClass own = some m.cls := by rw [hvm]; exact hown
  have hins : (Cond.instantiable cls 6).before args s' = true := h _ (by simp [Bundle.ownAtoms])
  obtain ⟨vm₁, cX, kX, hfX, hkX, -, -, X₁, st1⟩ := Y.newCold hexec (own := own) (C := cls) (index := ik) (n := 6) hown' hk' hins hini'
    (g := F0 m pc ls rest) rfl (by rw [hb]; exact d0) (Nat.le_refl _) (Nat.le_refl _)
  generalize hT1 : (T.setVm vm₁).pushCell { cls := cX, slots := kX.instanceTypes.map defaultValue, vm := .none } = T1 at X₁ st1
  have hcat : (Value.ref T.heap.size).category = 1 := rfl
  have hcellA : T1.heap[T.heap.size]? = some (freshCell cX kX) := by rw [← hT1]; exact State.heap_pushCell_size _ _
  have d3' : decode c.code (pc + 3) = .ok (.dup, 1) := by rw [hb]; exact d3
  have d4' : decode c.code (pc + 4) = .ok (.ldc is, 2) := by rw [hb]; exact d4
  have hstr' : vk_R own is text sa s' := vk_R.warm hW0 hstr
  obtain ⟨U, hsteps, hrun, hend, hW, hsame, ce, hce, hO⟩ := X₁.ctorThrowS hexec htr (own := own) (cls := cls) (names := names) (ic := ic) hown' hcls hnames h (fun x hx => nomatch hx) hfX hkX hcellA (by rw [hhp, hT]; exact Nat.le_refl _) (msg := .ref sa) rfl
    (g := { method := m, pc := pc + 6, locals := ls, stack := .ref sa :: .ref T.heap.size :: .ref T.heap.size :: rest, locked := none }) rfl hsize rfl rfl (rest := rest) rfl
    (by rw [hb]; exact d6) (by rw [hb]; exact d9) hout hRframes (by simp only [List.map_cons, List.sum_cons, hcat]; omega) hlocks
  obtain ⟨f1, f2⟩ := vx_frame hsame
  rw [hhp] at f1 f2
  have hWs : s.WarmedH U.vm := State.WarmedH.trans hW0 hW
  have hcl : s.vm.findClass cls = some ce.cls := by
    have h9 := hO.cls
    rw [hvm] at h9
    exact h9
  have hall : s.sameButNew ({ U with vm := s.vm } : State) locs mc ms := by
    subst hA
    obtain ⟨e1, e2⟩ := hsame
    rw [State.setFrames_setFrames] at e1
    have h2 : (T.setVm s.vm).sameButNew ({ U with vm := s.vm } : State) [] (0 + 1) (0 + 6) := ⟨e1, e2⟩
    have h3 := X.same.trans h2
    rw [List.append_nil] at h3
    exact h3.mono hc hs
  refine ⟨U, ?_, .threw T.heap.size, hrun, hend, Or.inr ⟨T.heap.size, rfl, cls, ce, locs, hx U hWs.alike f1 (fun q hq => f2 q hq (fun z hz => nomatch hz)), hce, hO.vm, hcl, hWs, hall, hf⟩⟩
  refine st1 _ ?_
  show Steps p.tables e below (T1.setTop { method := m, pc := pc + 3, locals := ls, stack := .ref T.heap.size :: rest, locked := none }) _
  jvm_step X₁.here [X₁.here.top, hexec, d3', Value.category]
  exact X₁.ldcString hexec (own := own) (text := text) (index := is) (a := sa) hown' hstr'.1 hstr'.2
    (g := { method := m, pc := pc + 4, locals := ls, stack := .ref T.heap.size :: .ref T.heap.size :: rest, locked := none }) rfl d4' _ hsteps
/-- 'throw new E("text")', the text by a wide index -/
theorem vx_throwSW {cc : ByteArray} {pc : Nat} (hexec : p.tables.exec = Jvm.exec) (hb : c.code = cc) (hl : l.stackTraces = false) {own cls text : String} {names : List String} {ik is ic mc ms sa : Nat} {A : Nat → Prop}
    (hown : s.vm.findClass own = some m.cls) (hcls : Bundle.fit cls = true) (hnames : ∀ n ∈ names, Bundle.fit n = true)
    (hk : (Cond.classLink own ik cls).before args s = true) (hini : (Cond.initialized cls).before args s = true) (hstr : vk_R own is text sa s) (hat : ∀ w ∈ vx_atS own ic cls names, w.before args s = true)
    (hgood : ∀ w ∈ Cond.classLink own ik cls :: Cond.initialized cls :: vx_atS own ic cls names, vx_ot w = true)
    (hU : vx_Zq Bundle.tN "UNASSIGNED_STACK" Bundle.steD A s s.heap) (hN : vx_Zq Bundle.tN "SUPPRESSED_SENTINEL" Bundle.listD A s s.heap) (hS : va_S A s.heap H locs) (hsize : ls.size = c.maxLocals)
    (d0 : decode cc pc = .ok (.new ik, 3)) (d3 : decode cc (pc + 3) = .ok (.dup, 1)) (d4 : decode cc (pc + 4) = .ok (.ldc_w is, 3)) (d7 : decode cc (pc + 7) = .ok (.invokespecial ic, 3)) (d10 : decode cc (pc + 10) = .ok (.athrow, 1))
    (hout : ∀ x ∈ c.exceptionTable.toList, covers x (pc + 10) = false)
    (hRframes : names.length + 3 < R.frames) (hRlocals : (rest.map fun v => v.category).sum + (13 * (names.length + 1) + 43) ≤ R.locals) (hRcells : cells + 1 ≤ R.cells) (hRslots : slots + 6 ≤ R.slots) (hlocks : meth.locks = false)
    (hx : ∀ t : State, s.vm.Alike t.vm → H.size ≤ t.heap.size → (∀ q : Nat, q < H.size → t.heap[q]? = H[q]?) → XC cls s t)
    (hf : ∀ z ∈ locs, free z.base) (hc : cells + 1 ≤ mc) (hs : slots + 6 ≤ ms) :
    W p l e R s m args below meth c H locs cells slots (vx_MQ below Qc XC args s mc ms free) (F0 m pc ls rest) := by
  intro T hT X
  have htr : e.platform.stackTraces = false := (show e.platform.stackTraces = l.stackTraces by rw [X.admits.platform]).trans hl
  have Y := vx_rebase X (R' := { frames := R.frames, locals := R.locals, cells := 1, slots := 6 }) (Nat.le_refl _) (Nat.le_refl _) hRcells hRslots
  obtain ⟨s', hA⟩ : ∃ z, z = (T.setVm s.vm).setFrames (.invoking m args :: below) := ⟨_, rfl⟩
  rw [← hA] at Y
  have hvm : s'.vm = s.vm := by rw [hA]; rfl
  have hhp : s'.heap = H := by rw [hA]; exact hT
  have hW0 : s.WarmedH s'.vm := by rw [hvm]; exact State.WarmedH.refl s
  have hat' : ∀ w ∈ vx_atS own ic cls names, w.before args s' = true := fun w hw => vx_ot_at hW0 hvm.symm (hgood w (List.mem_cons_of_mem _ (List.mem_cons_of_mem _ hw))) (hat w hw)
  have hk' : (Cond.classLink own ik cls).before args s' = true := vx_ot_at hW0 hvm.symm (hgood _ List.mem_cons_self) hk
  have hini' : (Cond.initialized cls).before args s' = true := vx_ot_at hW0 hvm.symm (hgood _ (List.mem_cons_of_mem _ List.mem_cons_self)) hini
  have hU' : vx_Zq Bundle.tN "UNASSIGNED_STACK" Bundle.steD A s' s'.heap := by rw [hhp]; exact vx_Zq.moved hW0.alike (hU.kept hS.2.1)
  have hN' : vx_Zq Bundle.tN "SUPPRESSED_SENTINEL" Bundle.listD A s' s'.heap := by rw [hhp]; exact vx_Zq.moved hW0.alike (hN.kept hS.2.1)
  have h : ∀ w ∈ Bundle.ownAtoms own ic cls names, w.before args s' = true := vx_own hat' (vx_isRefq hU'.1) (vx_isRefq hN'.1) hU'.2.word hN'.2.word
  have hown' : s'.vm.findClass own = some m.cls := by rw [hvm]; exact hown
  have hins : (Cond.instantiable cls 6).before args s' = true := h _ (by simp [Bundle.ownAtoms])
  obtain ⟨vm₁, cX, kX, hfX, hkX, -, -, X₁, st1⟩ := Y.newCold hexec (own := own) (C := cls) (index := ik) (n := 6) hown' hk' hins hini'
    (g := F0 m pc ls rest) rfl (by rw [hb]; exact d0) (Nat.le_refl _) (Nat.le_refl _)
  generalize hT1 : (T.setVm vm₁).pushCell { cls := cX, slots := kX.instanceTypes.map defaultValue, vm := .none } = T1 at X₁ st1
  have hcat : (Value.ref T.heap.size).category = 1 := rfl
  have hcellA : T1.heap[T.heap.size]? = some (freshCell cX kX) := by rw [← hT1]; exact State.heap_pushCell_size _ _
  have d3' : decode c.code (pc + 3) = .ok (.dup, 1) := by rw [hb]; exact d3
  have d4' : decode c.code (pc + 4) = .ok (.ldc_w is, 3) := by rw [hb]; exact d4
  have hstr' : vk_R own is text sa s' := vk_R.warm hW0 hstr
  obtain ⟨U, hsteps, hrun, hend, hW, hsame, ce, hce, hO⟩ := X₁.ctorThrowS hexec htr (own := own) (cls := cls) (names := names) (ic := ic) hown' hcls hnames h (fun x hx => nomatch hx) hfX hkX hcellA (by rw [hhp, hT]; exact Nat.le_refl _) (msg := .ref sa) rfl
    (g := { method := m, pc := pc + 7, locals := ls, stack := .ref sa :: .ref T.heap.size :: .ref T.heap.size :: rest, locked := none }) rfl hsize rfl rfl (rest := rest) rfl
    (by rw [hb]; exact d7) (by rw [hb]; exact d10) hout hRframes (by simp only [List.map_cons, List.sum_cons, hcat]; omega) hlocks
  obtain ⟨f1, f2⟩ := vx_frame hsame
  rw [hhp] at f1 f2
  have hWs : s.WarmedH U.vm := State.WarmedH.trans hW0 hW
  have hcl : s.vm.findClass cls = some ce.cls := by
    have h9 := hO.cls
    rw [hvm] at h9
    exact h9
  have hall : s.sameButNew ({ U with vm := s.vm } : State) locs mc ms := by
    subst hA
    obtain ⟨e1, e2⟩ := hsame
    rw [State.setFrames_setFrames] at e1
    have h2 : (T.setVm s.vm).sameButNew ({ U with vm := s.vm } : State) [] (0 + 1) (0 + 6) := ⟨e1, e2⟩
    have h3 := X.same.trans h2
    rw [List.append_nil] at h3
    exact h3.mono hc hs
  refine ⟨U, ?_, .threw T.heap.size, hrun, hend, Or.inr ⟨T.heap.size, rfl, cls, ce, locs, hx U hWs.alike f1 (fun q hq => f2 q hq (fun z hz => nomatch hz)), hce, hO.vm, hcl, hWs, hall, hf⟩⟩
  refine st1 _ ?_
  show Steps p.tables e below (T1.setTop { method := m, pc := pc + 3, locals := ls, stack := .ref T.heap.size :: rest, locked := none }) _
  jvm_step X₁.here [X₁.here.top, hexec, d3', Value.category]
  exact X₁.ldcStringW hexec (own := own) (text := text) (index := is) (a := sa) hown' hstr'.1 hstr'.2
    (g := { method := m, pc := pc + 4, locals := ls, stack := .ref T.heap.size :: .ref T.heap.size :: rest, locked := none }) rfl d4' _ hsteps
end Ends
section Bodies
variable {l : Launch}
theorem vx_ofW {y : MethodName} {ws ws' : List Cond} {rm : Room} {Pc : Array Value → State → Prop} {Qc : Array Value → State → Outcome → State → Prop} {XC : String → State → State → Prop} {mc ms : Nat} {free : Addr → Prop} {cc : ByteArray} {maxL : Nat} {ret : Option FieldType}
    (hy : plainName y.cls = true) (hw : ws = Cond.code y cc maxL ret :: ws')
    (body : ∀ p e s m args below meth c s₁, BodyLoose p l y (headSpec ws rm) cc maxL ret e s m args below meth c s₁ → c.maxLocals = maxL → (∀ x ∈ c.exceptionTable.toList, False) → Pc args s →
      W p l e (headSpec ws rm).room s m args below meth c s.heap [] 0 0 (vx_MQ below Qc XC args s mc ms free) (entryFrame m args maxL)) : vx_Met l y ws rm Pc Qc XC mc ms free := by
  refine MetFree.of_bodyS (code := cc) (maxLocals := maxL) (ret := ret) hy ?_ ?_
  · intro args s m h hn
    obtain ⟨meth, c, h1, h2, h3, h4, h5, h6, -, -⟩ := Cond.code_spec hn (atoms_spec (ws := ws) h _ (by rw [hw]; exact List.mem_cons_self))
    exact ⟨meth, c, h1, h2, h3, h4, h5, h6⟩
  · intro p e s m args below meth c s₁ B hml hP _
    have hh0 : s₁.heap = s.heap := by rw [B.state]; rfl
    have ht : ∀ x ∈ c.exceptionTable.toList, False := by
      obtain ⟨meth9, c9, h1, h2, -, -, -, -, h7, -⟩ := Cond.code_spec B.named (atoms_spec (ws := ws) B.pre _ (by rw [hw]; exact List.mem_cons_self))
      cases Option.some.inj (h1.symm.trans B.method)
      cases Option.some.inj (h2.symm.trans (Stand.of_body B).code)
      intro x hx
      rw [Array.isEmpty_iff.mp h7] at hx
      cases hx
    obtain ⟨t, a1, o, b1, b2, b3⟩ := body p e s m args below meth c s₁ B hml ht hP s₁ hh0 (Stand.of_body B)
    exact ⟨t, o, a1, b1, b2, b3⟩
/-- the table of a body with handlers -/
theorem vx_table {p : Program} {x y : MethodName} {S : Spec} {cc bytes : ByteArray} {maxL maxL' : Nat} {ret ret' : Option FieldType} {e : Env} {s s₁ : State} {m : MethodId} {args : Array Value} {below : List Frame} {meth : Method} {c : Code} {hh : List (Nat × Nat × Nat × Nat)}
    (B : BodyLoose p l y S cc maxL ret e s m args below meth c s₁) (h : (Cond.codeWith y bytes maxL' ret' hh).before args s = true) : c.exceptionTable.toList = tableOf hh := by
  obtain ⟨m9, meth9, c9, hn9, h1, h2, -, -, h6, -⟩ := Cond.codeWith_spec h
  cases Option.some.inj (hn9.symm.trans B.named)
  cases Option.some.inj (h1.symm.trans B.method)
  cases Option.some.inj (h2.symm.trans (Stand.of_body B).code)
  rw [← h6, table_eq]
end Bodies
end VXA
/-! ===== END ===== -/
/-! ===== BEGIN a static call of a method with an exception table ===== -/
section VXS
variable {p : Program} {l : Launch} {e : Env} {R : Room} {s : State} {m : MethodId} {args : Array Value} {below : List Frame} {meth : Method} {c : Code} {T : State} {H : Heap} {locs : List Loc} {cells slots : Nat}
abbrev vx_CSW (R : Room) (s : State) (args : Array Value) (own : String) (index : Nat) (y : MethodName) (bytes : ByteArray) (maxL : Nat) (ret : Option FieldType) (hh : List (Nat × Nat × Nat × Nat)) (ws : List Cond) (rm : Room) (mc ms n : Nat) : Prop :=
  (rm.cells = mc ∧ rm.slots = ms ∧ rm.frames + 1 ≤ R.frames ∧ 8 + (maxL + 11) + rm.locals ≤ R.locals ∧ (∀ w ∈ ws, ∀ (a' : Array Value) (U : State), s.WarmedH U.vm → w.before a' U = true) ∧ Cond.codeWith y bytes maxL ret hh ∈ ws) ∧
  (Cond.codeWith y bytes maxL ret hh).before args s = true ∧ (Cond.initialized y.cls).before args s = true ∧ (y.cls ≠ "java/lang/invoke/MethodHandle" ∧ y.cls ≠ "java/lang/invoke/VarHandle") ∧
  (∀ sig, parseMethodDescriptor y.desc = some sig → n = sig.parameters.length) ∧ (Cond.methodLink own index y).before args s = true ∧ (Cond.static y).before args s = true
theorem vx_cwSW {own : String} {index maxL mc ms : Nat} {y : MethodName} {bytes : ByteArray} {ret : Option FieldType} {hh : List (Nat × Nat × Nat × Nat)} {Ts ws ws' : List Cond} {rm : Room} (n : Nat) (ht : ∀ w ∈ Ts, w.before args s = true) (hT : GoodIn Ts (va_wsS own index y ws)) (hw : ws = Cond.codeWith y bytes maxL ret hh :: ws') (hrc : rm.cells = mc) (hrs : rm.slots = ms)
    (hd : y.cls ≠ "java/lang/invoke/MethodHandle" ∧ y.cls ≠ "java/lang/invoke/VarHandle" ∧ (parseMethodDescriptor y.desc).map (fun d => d.parameters.length) = some n) (hR : rm.frames + 1 ≤ R.frames ∧ 8 + (maxL + 11) + rm.locals ≤ R.locals) :
    vx_CSW R s args own index y bytes maxL ret hh ws rm mc ms n := by
  have ok : ∀ w ∈ va_wsS own index y ws, w.before args s = true := fun w h => ht w (hT w h).1
  have hG : GoodIn Ts ws := fun w h => hT w (by unfold va_wsS; exact List.mem_append_right _ h)
  have hc : Cond.codeWith y bytes maxL ret hh ∈ ws := by rw [hw]; exact List.mem_cons_self
  refine ⟨⟨hrc, hrs, hR.1, hR.2, pay_in ht hG, hc⟩, ht _ (hG _ hc).1, ok _ (by simp [va_wsS]), ⟨hd.1, hd.2.1⟩, fun sig h => ?_, ok _ (by simp [va_wsS]), ok _ (by simp [va_wsS])⟩
  have h2 := hd.2.2
  rw [h] at h2
  exact (Option.some.inj h2).symm
theorem vx_callSW (X : Stand p l e R s m args below meth c T locs cells slots) (hexec : p.tables.exec = Jvm.exec) {own : String} {index : Nat} {y : MethodName} {bytes : ByteArray} {maxL : Nat} {ret : Option FieldType} {hh : List (Nat × Nat × Nat × Nat)}
    (hown : s.vm.findClass own = some m.cls) (hlink : (Cond.methodLink own index y).before args s = true) (hstat : (Cond.static y).before args s = true) (hinit : (Cond.initialized y.cls).before args s = true)
    (hcode : (Cond.codeWith y bytes maxL ret hh).before args s = true) (hy : y.cls ≠ "java/lang/invoke/MethodHandle" ∧ y.cls ≠ "java/lang/invoke/VarHandle")
    {W9 : Nat} {Pre : Pt → Array Value → Prop} {Post : Pt → Array Value → Option Value → Pt → Prop} (hK : Back l R p e below s args y 3 W9 Pre Post)
    {g : JFrame} (hg : g.method = m) (hsize : g.locals.size = c.maxLocals) {argsL rest : List Value} (hlen : ∀ sig, parseMethodDescriptor y.desc = some sig → argsL.length = sig.parameters.length)
    (hstack : g.stack = argsL.reverse ++ rest) (hW : 2 * g.monitorRoom + (rest.map fun v => v.category).sum ≤ W9) (hdg : decode c.code g.pc = .ok (.invokestatic index, 3))
    (hpre : ∀ vm₁, s.WarmedH vm₁ → Pre ⟨T.setVm vm₁, locs, cells, slots⟩ argsL.toArray) :
    ∃ (v : Option Value) (vm₁ : Vm) (B : Pt), s.WarmedH vm₁ ∧ Stand p l e R s m args below meth c B.U B.locs B.cells B.slots ∧ Post ⟨T.setVm vm₁, locs, cells, slots⟩ argsL.toArray v B ∧
      ∀ target, Steps p.tables e below (B.U.setTop { g with pc := g.pc + 3, stack := v.toList ++ rest }) target → Steps p.tables e below (T.setTop g) target := by
  obtain ⟨mk, methM, cM, hnamed, hmethM, -, -, -, -, -, -, hsigM⟩ := Cond.codeWith_spec hcode
  have hstatic : methM.isStatic = true := Cond.static_spec hnamed hmethM hstat
  obtain ⟨kP, hkP, -⟩ := className_of_methodNamed hnamed
  have hinitP : kP.init = .initialized := Cond.initialized_spec (findClass_of_methodNamed hnamed) hkP hinit
  obtain ⟨vm₁, X₁, hstep₁⟩ := X.invokestatic hexec hown hlink hnamed hmethM hstatic hkP hinitP hy (g := g) hg (argsL := argsL) (rest := rest) (hlen _ hsigM) hstack hdg
  obtain ⟨v, B, X', hpost, hsteps⟩ := hK m meth c ⟨T.setVm vm₁, locs, cells, slots⟩ { g with stack := rest } (.invokestatic index) mk argsL.toArray X₁ hg hsize hdg hW (X₁.named hnamed) (hpre vm₁ X₁.warmed)
  exact ⟨v, vm₁, B, X₁.warmed, X', hpost, fun target h => hstep₁ _ fun acts => by rw [doInvoke_state]; exact hsteps.trans h⟩
theorem vx_runSW {y : MethodName} {bytes cc : ByteArray} {maxL nL mc ms n index : Nat} {ret : Option FieldType} {hh : List (Nat × Nat × Nat × Nat)} {ws : List Cond} {rm : Room} {Pc : Array Value → State → Prop} {Qc : Array Value → State → Outcome → State → Prop} {free : Addr → Prop} {Ts : List Cond} {own : String} {As rest : List Value} {g : JFrame}
    (S : CallFix p m c cc nL s args Ts own) (hM : Met l y ws rm Pc Qc mc ms free) (cw : vx_CSW R s args own index y bytes maxL ret hh ws rm mc ms n) (hp : PreS s H Pc As)
    (hg : g.method = m) (hn : As.length = n) (hsize : g.locals.size = nL) (hstack : g.stack = As.reverse ++ rest) (hW : 2 * g.monitorRoom + (rest.map fun v => v.category).sum ≤ 8) (hdg : decode cc g.pc = .ok (.invokestatic index, 3)) (hf : cells + mc ≤ R.cells ∧ slots + ms ≤ R.slots) :
    va_Run p l e R s m args below meth c H locs cells slots mc ms g rest (Qc As.toArray) (free) := by
  obtain ⟨⟨hrc, hrs, hfr, hlo, hws, hcw⟩, hcode, hini, hy, hlen, hl, hstt⟩ := cw
  have hK : Back l R p e below s args y 3 8 (PreOf R mc ms Pc) (PostOf Qc mc ms free) := va_backW (hh := hh) (bytes := bytes) (maxL := maxL) (ret := ret) hM hp.1 hrc hrs hfr hlo hws hcw (fun a' U hW => word_at hW (Or.inl (by first | rfl | simp [Cond.onTables, Cond.keeps, Cond.steady])) hini)
  obtain ⟨hx, hb, hml, ho, -⟩ := S
  intro T hT X
  obtain ⟨v, vm₁, ⟨U', l2, c2, s2⟩, hW₁, X', ⟨g', mk, t, L, e1, e2, hq, h1, hL, h2, h3⟩, st⟩ := vx_callSW X hx (hh := hh) (bytes := bytes) (maxL := maxL) (ret := ret) ho hl hstt hini hcode hy hK hg (hsize.trans hml.symm) (argsL := As) (rest := rest) (fun sig h => hn.trans (hlen sig h)) hstack hW (by rw [hb]; exact hdg)
    (fun vm₁ hW₁ => ⟨hf.1, hf.2, hp.2 (T.setVm vm₁) hT hW₁⟩)
  dsimp only [Pt.U, Pt.locs, Pt.cells, Pt.slots] at X' e1 e2 h1 h2 h3 st
  subst h1; subst h2; subst h3
  exact ⟨v, (T.setVm vm₁).calling g' mk As.toArray, t, U', L, hT, X', hL, e1, e2, hq, st⟩
/-- a thing of a world lies in the heap -/
theorem vx_lt {D : va_G} {cl : List vw_C} {ws : va_W} {H1 : Heap} (h : va_P D cl ws H1) {k : Nat} {q : Nat × va_E} (hk : ws[k]? = some q) : q.1 < H1.size := (h k q hk).lt
end VXS
/-! ===== END ===== -/
/-! ===== BEGIN methods with a table of their own: called by a name, returning or throwing ===== -/
section VXH
/-! vx_backW, vx_callVX, vx_callSX, vx_callVW, vx_runVW, vx_runVX, vx_runSX, vx_ofWH follow the same proofs as their sisters above (Free/Laws.lean, Shelf42/LK1.lean); vx_outP calls Shelf42/NT130.lean (outThrough). -/
section
variable {l : Launch} {R : Room} {p : Program} {e : Env} {below : List Frame} {s : State} {sargs : Array Value} {y : MethodName} {len W9 : Nat}
theorem vx_backW {ws : List Cond} {rm : Room} {Pc : Array Value → State → Prop} {Qc : Array Value → State → Outcome → State → Prop} {XC : String → State → State → Prop} {mc ms : Nat} {free : Addr → Prop} {bytes : ByteArray} {maxL : Nat} {ret : Option FieldType} {hh : List (Nat × Nat × Nat × Nat)}
    (hM : vx_Met l y ws rm Pc Qc XC mc ms free) (hblind : FrameBlind Pc) (hrc : rm.cells = mc) (hrs : rm.slots = ms)
    (hframes : rm.frames + 1 ≤ R.frames) (hlocals : W9 + (maxL + 11) + rm.locals ≤ R.locals)
    (hws : ∀ w ∈ ws, ∀ a' U, s.WarmedH U.vm → w.before a' U = true) (hcode : Cond.codeWith y bytes maxL ret hh ∈ ws) (hinit : ∀ a' U, s.WarmedH U.vm → (Cond.initialized y.cls).before a' U = true) :
    vx_Back l R p e below s sargs y len W9 (PreOf R mc ms Pc) (PostOf Qc mc ms free) (vx_Post XC mc ms free) := by
  intro m meth c A g ig mk a X hg hsize hdg hW hn hp
  have h1 : (headSpec ws rm).pre.before a A.U = true := atoms_intro fun w hw => hws w hw _ _ X.warmed
  have h2 : (Cond.codeWith y bytes maxL ret hh).before a A.U = true := hws _ hcode _ _ X.warmed
  have h3 : (Cond.initialized y.cls).before a A.U = true := hinit _ _ X.warmed
  have h4 : A.cells + (headSpec ws rm).room.cells ≤ R.cells := by rw [show (headSpec ws rm).room.cells = mc from hrc]; exact hp.1
  have h5 : A.slots + (headSpec ws rm).room.slots ≤ R.slots := by rw [show (headSpec ws rm).room.slots = ms from hrs]; exact hp.2.1
  have hPc : Pc a (A.U.calling g mk a) := hblind _ _ _ _ hp.2.2
  obtain ⟨U, Ls, c0, s0⟩ := A
  dsimp only [Pt.U, Pt.locs, Pt.cells, Pt.slots] at h1 h2 h3 h4 h5 X hn hPc ⊢
  obtain ⟨m9, methY, cY, hn9, hmY, hcY, -, hlY, -⟩ := Cond.codeWith_spec h2
  cases Option.some.inj (hn9.symm.trans hn)
  obtain ⟨kY, hkY, -⟩ := className_of_methodNamed hn
  have hinitY : kY.init = .initialized := Cond.initialized_spec (findClass_of_methodNamed hn) hkY h3
  have h : At U g.method c below := by rw [hg]; exact X.here
  have hlocals9 : W9 + (maxL + 11) + (headSpec ws rm).room.locals ≤ R.locals := hlocals
  have happ : (headSpec ws rm).appliesLoose y e.platform (U.calling g mk a) = true :=
    Spec.appliesLoose_calling (g := g) h hdg hn hkY hinitY
      (X.room_calling (g := g) (R' := (headSpec ws rm).room) hsize hmY hcY hframes (by rw [hlY]; omega) h4 h5) h1
  obtain ⟨mid, hmid⟩ := h.above
  have hfr : (U.setTop g).frames = (.java g :: mid) ++ below := by rw [State.frames_setTop' g h.top, hmid]; rfl
  obtain ⟨o, s₂, hsteps, -, hend, hq⟩ := Steps.callFree hM p X.admits X.cas X.clock (acts := []) hfr happ hPc trivial
  have hq' : vx_Q Qc XC mc ms free a (U.calling g mk a) o s₂ := hq
  rw [State.frames_setTop' g h.top] at hend
  obtain ⟨g₀, hg0⟩ := Option.isSome_iff_exists.mp h.top
  obtain ⟨r, hr⟩ := State.topJava?_eq_some.mp hg0
  have hr' : (({ U with heap := s₂.heap, slotsUsed := s₂.slotsUsed } : State).setVm s₂.vm).frames = .java g₀ :: r := hr
  rcases hq' with ⟨hqc, L, hfe, hL⟩ | ⟨q, rfl, E, ce, L, hx, hce, hcv, hcl, hW₂, hsm, hL⟩
  · obtain ⟨⟨v, rfl⟩, hW₂, e2, q2, q3, q4, q5, q6⟩ := id hfe
    have e3 : s₂ = ({ (U.calling g mk a).setFrames s₂.frames with heap := s₂.heap, slotsUsed := s₂.slotsUsed } : State).setVm s₂.vm := by
      have : s₂ = ({ s₂ with vm := (U.calling g mk a).vm } : State).setVm s₂.vm := rfl
      rw [e2] at this
      exact this
    obtain ⟨c₂, i₂, len₂, hc₂, hd₂, hf₂⟩ := hend
    have hW' : U.WarmedH s₂.vm := hW₂
    have hcc : c₂ = c := by
      have h1 : s₂.code? g.method = U.code? g.method := by
        rw [State.code?_eq, State.code?_eq, hW'.alike.method?]
      exact Option.some.inj (hc₂.symm.trans (h1.trans h.code))
    subst hcc
    have hlen : len₂ = len := by rw [hdg] at hd₂; cases hd₂; rfl
    subst hlen
    have hs₂ : s₂ = (({ U with heap := s₂.heap, slotsUsed := s₂.slotsUsed } : State).setVm s₂.vm).setTop { g with pc := g.pc + len₂, stack := v.toList ++ g.stack } := by
      refine e3.trans ?_
      rw [hf₂, State.calling_eq h.top, State.setFrames_setFrames, State.setTop_of_frames _ hr', hr]
      rfl
    have hsame : U.sameButNew ({ U with heap := s₂.heap, slotsUsed := s₂.slotsUsed } : State) L mc ms := by
      refine ⟨?_, q2, q3, q4, q5, q6⟩
      obtain ⟨t, ht, -⟩ := State.frames_cons hr
      show ({ U with heap := s₂.heap, slotsUsed := s₂.slotsUsed } : State) = { U.setFrames U.frames with heap := s₂.heap, slotsUsed := s₂.slotsUsed }
      rw [State.setFrames_self ht]
    subst hg
    refine Or.inl ⟨v, ⟨(({ U with heap := s₂.heap, slotsUsed := s₂.slotsUsed } : State).setVm s₂.vm), Ls ++ L, c0 + mc, s0 + ms⟩,
      ⟨X.admits, X.cas, X.clock, X.frames, X.room, X.hears, X.method, X.code, (X.here.setHeapUsed s₂.heap s₂.slotsUsed).setVm hW'.alike, X.tail, State.WarmedH.trans X.warmed hW', X.limits, X.bytes, X.same.trans (hsame.setVm s.vm)⟩,
      ⟨g, mk, s₂, L, rfl, rfl, hqc, rfl, hL, rfl, rfl⟩, ?_⟩
    show Steps p.tables e below _ ((({ U with heap := s₂.heap, slotsUsed := s₂.slotsUsed } : State).setVm s₂.vm).setTop { g with pc := g.pc + len₂, stack := v.toList ++ g.stack })
    rw [← hs₂]
    exact hsteps
  · obtain ⟨e2, q2, q3, q4, q5, q6⟩ := id hsm
    have e3 : s₂ = ({ (U.calling g mk a).setFrames s₂.frames with heap := s₂.heap, slotsUsed := s₂.slotsUsed } : State).setVm s₂.vm := by
      have : s₂ = ({ s₂ with vm := (U.calling g mk a).vm } : State).setVm s₂.vm := rfl
      rw [e2] at this
      exact this
    have hf₂ : s₂.frames = .throwing q :: .java g :: U.frames.tail := hend
    have hW' : U.WarmedH s₂.vm := hW₂
    have hs₂ : s₂ = ((({ U with heap := s₂.heap, slotsUsed := s₂.slotsUsed } : State).setVm s₂.vm).setTop g).pushFrame (.throwing q) := by
      refine e3.trans ?_
      rw [hf₂, State.calling_eq h.top, State.setFrames_setFrames, State.pushFrame, State.frames_setTop _ hr', State.setTop_of_frames _ hr', State.setFrames_setFrames, hr]
      rfl
    have hsame : U.sameButNew ({ U with heap := s₂.heap, slotsUsed := s₂.slotsUsed } : State) L mc ms := by
      refine ⟨?_, q2, q3, q4, q5, q6⟩
      obtain ⟨t, ht, -⟩ := State.frames_cons hr
      show ({ U with heap := s₂.heap, slotsUsed := s₂.slotsUsed } : State) = { U.setFrames U.frames with heap := s₂.heap, slotsUsed := s₂.slotsUsed }
      rw [State.setFrames_self ht]
    subst hg
    refine Or.inr ⟨q, ⟨(({ U with heap := s₂.heap, slotsUsed := s₂.slotsUsed } : State).setVm s₂.vm), Ls ++ L, c0 + mc, s0 + ms⟩,
      ⟨X.admits, X.cas, X.clock, X.frames, X.room, X.hears, X.method, X.code, (X.here.setHeapUsed s₂.heap s₂.slotsUsed).setVm hW'.alike, X.tail, State.WarmedH.trans X.warmed hW', X.limits, X.bytes, X.same.trans (hsame.setVm s.vm)⟩,
      ⟨g, mk, s₂, L, E, ce, rfl, rfl, hx, hce, hcv, hcl, rfl, hL, rfl, rfl⟩, ?_⟩
    show Steps p.tables e below _ (((({ U with heap := s₂.heap, slotsUsed := s₂.slotsUsed } : State).setVm s₂.vm).setTop g).pushFrame (.throwing q))
    rw [← hs₂]
    exact hsteps
end
variable {p : Program} {l : Launch} {e : Env} {R : Room} {s : State} {m : MethodId} {args : Array Value} {below : List Frame} {meth : Method} {c : Code} {T : State} {H : Heap} {locs : List Loc} {cells slots : Nat}
theorem vx_callVX (X : Stand p l e R s m args below meth c T locs cells slots) (hexec : p.tables.exec = Jvm.exec) {own C : String} {index : Nat} {y : MethodName} {bytes : ByteArray} {maxL : Nat} {ret : Option FieldType} {hh : List (Nat × Nat × Nat × Nat)}
    (hown : s.vm.findClass own = some m.cls) (hlink : (Cond.methodLink own index y).before args s = true) (hinst : (Cond.instanceMethod y).before args s = true) (hsel : (Cond.selects C y y).before args s = true)
    (hcode : (Cond.codeWith y bytes maxL ret hh).before args s = true) (hy : y.cls ≠ "java/lang/invoke/MethodHandle" ∧ y.cls ≠ "java/lang/invoke/VarHandle")
    {W9 : Nat} {Pre : Pt → Array Value → Prop} {Post : Pt → Array Value → Option Value → Pt → Prop} {PostX : Pt → Array Value → Addr → Pt → Prop} (hK : vx_Back l R p e below s args y 3 W9 Pre Post PostX)
    {b : Addr} {cellB : Cell} (hcell : T.heap[b]? = some cellB) (hobj : cellB.vm.isStatics = false) (hcls : s.vm.findClass C = some cellB.cls)
    {g : JFrame} (hg : g.method = m) (hsize : g.locals.size = c.maxLocals) {argsL rest : List Value} (hlen : ∀ sig, parseMethodDescriptor y.desc = some sig → argsL.length = sig.parameters.length)
    (hstack : g.stack = argsL.reverse ++ .ref b :: rest) (hW : 2 * g.monitorRoom + (rest.map fun v => v.category).sum ≤ W9) (hdg : decode c.code g.pc = .ok (.invokevirtual index, 3))
    (hpre : ∀ vm₁, s.WarmedH vm₁ → Pre ⟨T.setVm vm₁, locs, cells, slots⟩ (Value.ref b :: argsL).toArray) :
    (∃ (v : Option Value) (vm₁ : Vm) (B : Pt), s.WarmedH vm₁ ∧ Stand p l e R s m args below meth c B.U B.locs B.cells B.slots ∧ Post ⟨T.setVm vm₁, locs, cells, slots⟩ (Value.ref b :: argsL).toArray v B ∧
      ∀ target, Steps p.tables e below (B.U.setTop { g with pc := g.pc + 3, stack := v.toList ++ rest }) target → Steps p.tables e below (T.setTop g) target) ∨
    (∃ (q : Addr) (vm₁ : Vm) (B : Pt), s.WarmedH vm₁ ∧ Stand p l e R s m args below meth c B.U B.locs B.cells B.slots ∧ PostX ⟨T.setVm vm₁, locs, cells, slots⟩ (Value.ref b :: argsL).toArray q B ∧
      Steps p.tables e below (T.setTop g) ((B.U.setTop { g with stack := rest }).pushFrame (.throwing q))) := by
  obtain ⟨mk, methM, hnamed, hmethM, hstM, habM⟩ := Cond.instanceMethod_spec hinst
  obtain ⟨m8, methM', cM, hn8, hmethM', -, -, -, -, -, -, hsigM⟩ := Cond.codeWith_spec hcode
  cases Option.some.inj (hn8.symm.trans hnamed)
  cases hmethM.symm.trans hmethM'
  obtain ⟨c2, r2, m2, q1, q2, q3, q4, kP, hkP, hkPi⟩ := Cond.selects_spec hsel
  cases hcls.symm.trans q1
  cases (State.methodFound?_of_named hnamed hy).symm.trans q2
  cases hnamed.symm.trans q3
  have hselP : selectMethod e.platform s.vm cellB.cls mk = .method mk := by rw [Launch.admits_selectMethod X.admits]; exact q4
  obtain ⟨vm₁, X₁, hstep₁⟩ := X.invokevirtual hexec hown hlink hnamed hmethM hstM hkP hkPi hy (a := b) (cell := cellB) hcell
    (fun z h => by rw [h] at hobj; cases hobj) hselP hmethM habM hkP hkPi (g := g) hg (argsL := argsL) (rest := rest) (hlen _ hsigM) hstack hdg
  rcases hK m meth c ⟨T.setVm vm₁, locs, cells, slots⟩ { g with stack := rest } (.invokevirtual index) mk (Value.ref b :: argsL).toArray X₁ hg hsize hdg hW (X₁.named hnamed) (hpre vm₁ X₁.warmed) with ⟨v, B, X', hpost, hsteps⟩ | ⟨q, B, X', hpost, hsteps⟩
  · exact Or.inl ⟨v, vm₁, B, X₁.warmed, X', hpost, fun target h => hstep₁ _ fun acts => by rw [doInvoke_state]; exact hsteps.trans h⟩
  · exact Or.inr ⟨q, vm₁, B, X₁.warmed, X', hpost, hstep₁ _ fun acts => by rw [doInvoke_state]; exact hsteps⟩
theorem vx_callSX (X : Stand p l e R s m args below meth c T locs cells slots) (hexec : p.tables.exec = Jvm.exec) {own : String} {index : Nat} {y : MethodName} {bytes : ByteArray} {maxL : Nat} {ret : Option FieldType} {hh : List (Nat × Nat × Nat × Nat)}
    (hown : s.vm.findClass own = some m.cls) (hlink : (Cond.methodLink own index y).before args s = true) (hstat : (Cond.static y).before args s = true) (hinit : (Cond.initialized y.cls).before args s = true)
    (hcode : (Cond.codeWith y bytes maxL ret hh).before args s = true) (hy : y.cls ≠ "java/lang/invoke/MethodHandle" ∧ y.cls ≠ "java/lang/invoke/VarHandle")
    {W9 : Nat} {Pre : Pt → Array Value → Prop} {Post : Pt → Array Value → Option Value → Pt → Prop} {PostX : Pt → Array Value → Addr → Pt → Prop} (hK : vx_Back l R p e below s args y 3 W9 Pre Post PostX)
    {g : JFrame} (hg : g.method = m) (hsize : g.locals.size = c.maxLocals) {argsL rest : List Value} (hlen : ∀ sig, parseMethodDescriptor y.desc = some sig → argsL.length = sig.parameters.length)
    (hstack : g.stack = argsL.reverse ++ rest) (hW : 2 * g.monitorRoom + (rest.map fun v => v.category).sum ≤ W9) (hdg : decode c.code g.pc = .ok (.invokestatic index, 3))
    (hpre : ∀ vm₁, s.WarmedH vm₁ → Pre ⟨T.setVm vm₁, locs, cells, slots⟩ argsL.toArray) :
    (∃ (v : Option Value) (vm₁ : Vm) (B : Pt), s.WarmedH vm₁ ∧ Stand p l e R s m args below meth c B.U B.locs B.cells B.slots ∧ Post ⟨T.setVm vm₁, locs, cells, slots⟩ argsL.toArray v B ∧
      ∀ target, Steps p.tables e below (B.U.setTop { g with pc := g.pc + 3, stack := v.toList ++ rest }) target → Steps p.tables e below (T.setTop g) target) ∨
    (∃ (q : Addr) (vm₁ : Vm) (B : Pt), s.WarmedH vm₁ ∧ Stand p l e R s m args below meth c B.U B.locs B.cells B.slots ∧ PostX ⟨T.setVm vm₁, locs, cells, slots⟩ argsL.toArray q B ∧
      Steps p.tables e below (T.setTop g) ((B.U.setTop { g with stack := rest }).pushFrame (.throwing q))) := by
  obtain ⟨mk, methM, cM, hnamed, hmethM, -, -, -, -, -, -, hsigM⟩ := Cond.codeWith_spec hcode
  have hstatic : methM.isStatic = true := Cond.static_spec hnamed hmethM hstat
  obtain ⟨kP, hkP, -⟩ := className_of_methodNamed hnamed
  have hinitP : kP.init = .initialized := Cond.initialized_spec (findClass_of_methodNamed hnamed) hkP hinit
  obtain ⟨vm₁, X₁, hstep₁⟩ := X.invokestatic hexec hown hlink hnamed hmethM hstatic hkP hinitP hy (g := g) hg (argsL := argsL) (rest := rest) (hlen _ hsigM) hstack hdg
  rcases hK m meth c ⟨T.setVm vm₁, locs, cells, slots⟩ { g with stack := rest } (.invokestatic index) mk argsL.toArray X₁ hg hsize hdg hW (X₁.named hnamed) (hpre vm₁ X₁.warmed) with ⟨v, B, X', hpost, hsteps⟩ | ⟨q, B, X', hpost, hsteps⟩
  · exact Or.inl ⟨v, vm₁, B, X₁.warmed, X', hpost, fun target h => hstep₁ _ fun acts => by rw [doInvoke_state]; exact hsteps.trans h⟩
  · exact Or.inr ⟨q, vm₁, B, X₁.warmed, X', hpost, hstep₁ _ fun acts => by rw [doInvoke_state]; exact hsteps⟩
theorem vx_callVW (X : Stand p l e R s m args below meth c T locs cells slots) (hexec : p.tables.exec = Jvm.exec) {own C : String} {index : Nat} {y : MethodName} {bytes : ByteArray} {maxL : Nat} {ret : Option FieldType} {hh : List (Nat × Nat × Nat × Nat)}
    (hown : s.vm.findClass own = some m.cls) (hlink : (Cond.methodLink own index y).before args s = true) (hinst : (Cond.instanceMethod y).before args s = true) (hsel : (Cond.selects C y y).before args s = true)
    (hcode : (Cond.codeWith y bytes maxL ret hh).before args s = true) (hy : y.cls ≠ "java/lang/invoke/MethodHandle" ∧ y.cls ≠ "java/lang/invoke/VarHandle")
    {W9 : Nat} {Pre : Pt → Array Value → Prop} {Post : Pt → Array Value → Option Value → Pt → Prop} (hK : Back l R p e below s args y 3 W9 Pre Post)
    {b : Addr} {cellB : Cell} (hcell : T.heap[b]? = some cellB) (hobj : cellB.vm.isStatics = false) (hcls : s.vm.findClass C = some cellB.cls)
    {g : JFrame} (hg : g.method = m) (hsize : g.locals.size = c.maxLocals) {argsL rest : List Value} (hlen : ∀ sig, parseMethodDescriptor y.desc = some sig → argsL.length = sig.parameters.length)
    (hstack : g.stack = argsL.reverse ++ .ref b :: rest) (hW : 2 * g.monitorRoom + (rest.map fun v => v.category).sum ≤ W9) (hdg : decode c.code g.pc = .ok (.invokevirtual index, 3))
    (hpre : ∀ vm₁, s.WarmedH vm₁ → Pre ⟨T.setVm vm₁, locs, cells, slots⟩ (Value.ref b :: argsL).toArray) :
    ∃ (v : Option Value) (vm₁ : Vm) (B : Pt), s.WarmedH vm₁ ∧ Stand p l e R s m args below meth c B.U B.locs B.cells B.slots ∧ Post ⟨T.setVm vm₁, locs, cells, slots⟩ (Value.ref b :: argsL).toArray v B ∧
      ∀ target, Steps p.tables e below (B.U.setTop { g with pc := g.pc + 3, stack := v.toList ++ rest }) target → Steps p.tables e below (T.setTop g) target := by
  obtain ⟨mk, methM, hnamed, hmethM, hstM, habM⟩ := Cond.instanceMethod_spec hinst
  obtain ⟨m8, methM', cM, hn8, hmethM', -, -, -, -, -, -, hsigM⟩ := Cond.codeWith_spec hcode
  cases Option.some.inj (hn8.symm.trans hnamed)
  cases hmethM.symm.trans hmethM'
  obtain ⟨c2, r2, m2, q1, q2, q3, q4, kP, hkP, hkPi⟩ := Cond.selects_spec hsel
  cases hcls.symm.trans q1
  cases (State.methodFound?_of_named hnamed hy).symm.trans q2
  cases hnamed.symm.trans q3
  have hselP : selectMethod e.platform s.vm cellB.cls mk = .method mk := by rw [Launch.admits_selectMethod X.admits]; exact q4
  obtain ⟨vm₁, X₁, hstep₁⟩ := X.invokevirtual hexec hown hlink hnamed hmethM hstM hkP hkPi hy (a := b) (cell := cellB) hcell
    (fun z h => by rw [h] at hobj; cases hobj) hselP hmethM habM hkP hkPi (g := g) hg (argsL := argsL) (rest := rest) (hlen _ hsigM) hstack hdg
  obtain ⟨v, B, X', hpost, hsteps⟩ := hK m meth c ⟨T.setVm vm₁, locs, cells, slots⟩ { g with stack := rest } (.invokevirtual index) mk (Value.ref b :: argsL).toArray X₁ hg hsize hdg hW (X₁.named hnamed) (hpre vm₁ X₁.warmed)
  exact ⟨v, vm₁, B, X₁.warmed, X', hpost, fun target h => hstep₁ _ fun acts => by rw [doInvoke_state]; exact hsteps.trans h⟩
abbrev vx_CVW (R : Room) (s : State) (args : Array Value) (own C : String) (index : Nat) (y : MethodName) (bytes : ByteArray) (maxL : Nat) (ret : Option FieldType) (hh : List (Nat × Nat × Nat × Nat)) (ws : List Cond) (rm : Room) (mc ms n : Nat) : Prop :=
  (rm.cells = mc ∧ rm.slots = ms ∧ rm.frames + 1 ≤ R.frames ∧ 8 + (maxL + 11) + rm.locals ≤ R.locals ∧ (∀ w ∈ ws, ∀ (a' : Array Value) (U : State), s.WarmedH U.vm → w.before a' U = true) ∧ Cond.codeWith y bytes maxL ret hh ∈ ws) ∧
  (Cond.codeWith y bytes maxL ret hh).before args s = true ∧ (Cond.initialized y.cls).before args s = true ∧ (y.cls ≠ "java/lang/invoke/MethodHandle" ∧ y.cls ≠ "java/lang/invoke/VarHandle") ∧
  (∀ sig, parseMethodDescriptor y.desc = some sig → n = sig.parameters.length) ∧ (Cond.methodLink own index y).before args s = true ∧ (Cond.instanceMethod y).before args s = true ∧ (Cond.selects C y y).before args s = true
theorem vx_cwVW {own C : String} {index maxL mc ms : Nat} {y : MethodName} {bytes : ByteArray} {ret : Option FieldType} {hh : List (Nat × Nat × Nat × Nat)} {Ts ws ws' : List Cond} {rm : Room} (n : Nat) (ht : ∀ w ∈ Ts, w.before args s = true) (hT : GoodIn Ts (wsV own index C y ws)) (hw : ws = Cond.codeWith y bytes maxL ret hh :: ws') (hrc : rm.cells = mc) (hrs : rm.slots = ms)
    (hd : y.cls = C ∧ y.cls ≠ "java/lang/invoke/MethodHandle" ∧ y.cls ≠ "java/lang/invoke/VarHandle" ∧ (parseMethodDescriptor y.desc).map (fun d => d.parameters.length) = some n) (hR : rm.frames + 1 ≤ R.frames ∧ 8 + (maxL + 11) + rm.locals ≤ R.locals) :
    vx_CVW R s args own C index y bytes maxL ret hh ws rm mc ms n := by
  obtain ⟨hC, hd⟩ := hd
  subst hC
  have ok : ∀ w ∈ wsV own index y.cls y ws, w.before args s = true := fun w h => ht w (hT w h).1
  have hG : GoodIn Ts ws := fun w h => hT w (by unfold wsV; exact List.mem_append_right _ h)
  have hc : Cond.codeWith y bytes maxL ret hh ∈ ws := by rw [hw]; exact List.mem_cons_self
  refine ⟨⟨hrc, hrs, hR.1, hR.2, pay_in ht hG, hc⟩, ht _ (hG _ hc).1, ok _ (by simp [wsV]), ⟨hd.1, hd.2.1⟩, fun sig h => ?_, ok _ (by simp [wsV]), ok _ (by simp [wsV]), ok _ (by simp [wsV])⟩
  have h2 := hd.2.2
  rw [h] at h2
  exact (Option.some.inj h2).symm
theorem vx_runVW {y : MethodName} {bytes cc : ByteArray} {maxL nL mc ms n index : Nat} {ret : Option FieldType} {hh : List (Nat × Nat × Nat × Nat)} {ws : List Cond} {rm : Room} {Pc : Array Value → State → Prop} {Qc : Array Value → State → Outcome → State → Prop} {free : Addr → Prop} {Ts : List Cond} {own C : String} {b : Addr} {As rest : List Value} {g : JFrame}
    (S : CallFix p m c cc nL s args Ts own) (hM : Met l y ws rm Pc Qc mc ms free) (cw : vx_CVW R s args own C index y bytes maxL ret hh ws rm mc ms n) (hp : PreV s H C b Pc As)
    (hg : g.method = m) (hn : As.length = n) (hsize : g.locals.size = nL) (hstack : g.stack = As.reverse ++ .ref b :: rest) (hW : 2 * g.monitorRoom + (rest.map fun v => v.category).sum ≤ 8) (hdg : decode cc g.pc = .ok (.invokevirtual index, 3)) (hf : cells + mc ≤ R.cells ∧ slots + ms ≤ R.slots) :
    va_Run p l e R s m args below meth c H locs cells slots mc ms g rest (Qc (Value.ref b :: As).toArray) free := by
  obtain ⟨⟨hrc, hrs, hfr, hlo, hws, hcw⟩, hcode, hini, hy, hlen, hl, hin, hse⟩ := cw
  have hK : Back l R p e below s args y 3 8 (PreOf R mc ms Pc) (PostOf Qc mc ms free) := va_backW (hh := hh) (bytes := bytes) (maxL := maxL) (ret := ret) hM hp.1 hrc hrs hfr hlo hws hcw (fun a' U hW => word_at hW (Or.inl (by first | rfl | simp [Cond.onTables, Cond.keeps, Cond.steady])) hini)
  obtain ⟨hx, hb, hml, ho, -⟩ := S
  obtain ⟨-, ⟨cellB, hcB, hoB, hclB⟩, hPc⟩ := hp
  intro T hT X
  obtain ⟨v, vm₁, ⟨U', l2, c2, s2⟩, hW₁, X', ⟨g', mk, t, L, e1, e2, hq, h1, hL, h2, h3⟩, st⟩ := vx_callVW X hx (C := C) (hh := hh) (bytes := bytes) (maxL := maxL) (ret := ret) ho hl hin hse hcode hy hK (by rw [hT]; exact hcB) hoB hclB hg (hsize.trans hml.symm) (argsL := As) (rest := rest) (fun sig h => hn.trans (hlen sig h)) hstack hW (by rw [hb]; exact hdg)
    (fun vm₁ hW₁ => ⟨hf.1, hf.2, hPc (T.setVm vm₁) hT hW₁⟩)
  dsimp only [Pt.U, Pt.locs, Pt.cells, Pt.slots] at X' e1 e2 h1 h2 h3 st
  subst h1; subst h2; subst h3
  exact ⟨v, (T.setVm vm₁).calling g' mk (Value.ref b :: As).toArray, t, U', L, hT, X', hL, e1, e2, hq, st⟩
section
variable {y : MethodName} {bytes cc : ByteArray} {maxL nL mc ms n index : Nat} {ret : Option FieldType} {ws : List Cond} {rm : Room} {Pc : Array Value → State → Prop} {Qc : Array Value → State → Outcome → State → Prop} {XC : String → State → State → Prop} {free : Addr → Prop} {Ts : List Cond} {own C : String} {b : Addr} {As rest : List Value} {g : JFrame}
theorem vx_runVX {hh : List (Nat × Nat × Nat × Nat)} (S : CallFix p m c cc nL s args Ts own) (hM : vx_Met l y ws rm Pc Qc XC mc ms free) (cw : vx_CVW R s args own C index y bytes maxL ret hh ws rm mc ms n) (hp : PreV s H C b Pc As)
    (hg : g.method = m) (hn : As.length = n) (hsize : g.locals.size = nL) (hstack : g.stack = As.reverse ++ .ref b :: rest) (hW : 2 * g.monitorRoom + (rest.map fun v => v.category).sum ≤ 8) (hdg : decode cc g.pc = .ok (.invokevirtual index, 3)) (hf : cells + mc ≤ R.cells ∧ slots + ms ≤ R.slots) :
    vx_Run p l e R s m args below meth c H locs cells slots mc ms g rest (Qc (Value.ref b :: As).toArray) XC free := by
  obtain ⟨⟨hrc, hrs, hfr, hlo, hws, hcw⟩, hcode, hini, hy, hlen, hl, hin, hse⟩ := cw
  have hK : vx_Back l R p e below s args y 3 8 (PreOf R mc ms Pc) (PostOf Qc mc ms free) (vx_Post XC mc ms free) := vx_backW (hh := hh) (bytes := bytes) (maxL := maxL) (ret := ret) hM hp.1 hrc hrs hfr hlo hws hcw (fun a' U hW => word_at hW (Or.inl (by first | rfl | simp [Cond.onTables, Cond.keeps, Cond.steady])) hini)
  obtain ⟨hx, hb, hml, ho, -⟩ := S
  obtain ⟨-, ⟨cellB, hcB, hoB, hclB⟩, hPc⟩ := hp
  intro T hT X
  rcases vx_callVX X hx (C := C) (hh := hh) (bytes := bytes) (maxL := maxL) (ret := ret) ho hl hin hse hcode hy hK (by rw [hT]; exact hcB) hoB hclB hg (hsize.trans hml.symm) (argsL := As) (rest := rest) (fun sig h => hn.trans (hlen sig h)) hstack hW (by rw [hb]; exact hdg)
    (fun vm₁ hW₁ => ⟨hf.1, hf.2, hPc (T.setVm vm₁) hT hW₁⟩) with ⟨v, vm₁, ⟨U', l2, c2, s2⟩, hW₁, X', ⟨g', mk, t, L, e1, e2, hq, h1, hL, h2, h3⟩, st⟩ | ⟨q, vm₁, ⟨U', l2, c2, s2⟩, hW₁, X', ⟨g', mk, t, L, E, ce, e1, e2, hq, hce, hcv, hcl, h1, hL, h2, h3⟩, st⟩
  · dsimp only [Pt.U, Pt.locs, Pt.cells, Pt.slots] at X' e1 e2 h1 h2 h3 st
    subst h1; subst h2; subst h3
    exact Or.inl ⟨v, (T.setVm vm₁).calling g' mk (Value.ref b :: As).toArray, t, U', L, hT, X', hL, e1, e2, hq, st⟩
  · dsimp only [Pt.U, Pt.locs, Pt.cells, Pt.slots] at X' e1 e2 h1 h2 h3 st hcl
    subst h1; subst h2; subst h3
    exact Or.inr ⟨q, (T.setVm vm₁).calling g' mk (Value.ref b :: As).toArray, t, U', L, E, ce, hT, X', hL, e1, e2, hq, hce, hcv, vx_cls hW₁ hcl, st⟩
theorem vx_runSX {hh : List (Nat × Nat × Nat × Nat)} (S : CallFix p m c cc nL s args Ts own) (hM : vx_Met l y ws rm Pc Qc XC mc ms free) (cw : vx_CSW R s args own index y bytes maxL ret hh ws rm mc ms n) (hp : PreS s H Pc As)
    (hg : g.method = m) (hn : As.length = n) (hsize : g.locals.size = nL) (hstack : g.stack = As.reverse ++ rest) (hW : 2 * g.monitorRoom + (rest.map fun v => v.category).sum ≤ 8) (hdg : decode cc g.pc = .ok (.invokestatic index, 3)) (hf : cells + mc ≤ R.cells ∧ slots + ms ≤ R.slots) :
    vx_Run p l e R s m args below meth c H locs cells slots mc ms g rest (Qc As.toArray) XC free := by
  obtain ⟨⟨hrc, hrs, hfr, hlo, hws, hcw⟩, hcode, hini, hy, hlen, hl, hstt⟩ := cw
  have hK : vx_Back l R p e below s args y 3 8 (PreOf R mc ms Pc) (PostOf Qc mc ms free) (vx_Post XC mc ms free) := vx_backW (hh := hh) (bytes := bytes) (maxL := maxL) (ret := ret) hM hp.1 hrc hrs hfr hlo hws hcw (fun a' U hW => word_at hW (Or.inl (by first | rfl | simp [Cond.onTables, Cond.keeps, Cond.steady])) hini)
  obtain ⟨hx, hb, hml, ho, -⟩ := S
  intro T hT X
  rcases vx_callSX X hx (hh := hh) (bytes := bytes) (maxL := maxL) (ret := ret) ho hl hstt hini hcode hy hK hg (hsize.trans hml.symm) (argsL := As) (rest := rest) (fun sig h => hn.trans (hlen sig h)) hstack hW (by rw [hb]; exact hdg)
    (fun vm₁ hW₁ => ⟨hf.1, hf.2, hp.2 (T.setVm vm₁) hT hW₁⟩) with ⟨v, vm₁, ⟨U', l2, c2, s2⟩, hW₁, X', ⟨g', mk, t, L, e1, e2, hq, h1, hL, h2, h3⟩, st⟩ | ⟨q, vm₁, ⟨U', l2, c2, s2⟩, hW₁, X', ⟨g', mk, t, L, E, ce, e1, e2, hq, hce, hcv, hcl, h1, hL, h2, h3⟩, st⟩
  · dsimp only [Pt.U, Pt.locs, Pt.cells, Pt.slots] at X' e1 e2 h1 h2 h3 st
    subst h1; subst h2; subst h3
    exact Or.inl ⟨v, (T.setVm vm₁).calling g' mk As.toArray, t, U', L, hT, X', hL, e1, e2, hq, st⟩
  · dsimp only [Pt.U, Pt.locs, Pt.cells, Pt.slots] at X' e1 e2 h1 h2 h3 st hcl
    subst h1; subst h2; subst h3
    exact Or.inr ⟨q, (T.setVm vm₁).calling g' mk As.toArray, t, U', L, E, ce, hT, X', hL, e1, e2, hq, hce, hcv, vx_cls hW₁ hcl, st⟩
end
end VXH
theorem vx_ofWH {l : Launch} {y : MethodName} {ws ws' : List Cond} {rm : Room} {Pc : Array Value → State → Prop} {Qc : Array Value → State → Outcome → State → Prop} {XC : String → State → State → Prop} {mc ms : Nat} {free : Addr → Prop} {cc : ByteArray} {maxL : Nat} {ret : Option FieldType} {hh : List (Nat × Nat × Nat × Nat)}
    (hy : plainName y.cls = true) (hw : ws = Cond.codeWith y cc maxL ret hh :: ws')
    (body : ∀ p e s m args below meth c s₁, BodyLoose p l y (headSpec ws rm) cc maxL ret e s m args below meth c s₁ → c.maxLocals = maxL → Pc args s →
      W p l e (headSpec ws rm).room s m args below meth c s.heap [] 0 0 (vx_MQ below Qc XC args s mc ms free) (entryFrame m args maxL)) : vx_Met l y ws rm Pc Qc XC mc ms free := by
  refine MetFree.of_bodyS (code := cc) (maxLocals := maxL) (ret := ret) hy ?_ ?_
  · intro args s m h hn
    obtain ⟨m9, meth, c, hn9, h1, h2, h3, h4, -, h5, h6, -⟩ := Cond.codeWith_spec (atoms_spec (ws := ws) h _ (by rw [hw]; exact List.mem_cons_self))
    cases hn.symm.trans hn9
    exact ⟨meth, c, h1, h2, h3, h4, h5, h6⟩
  · intro p e s m args below meth c s₁ B hml hP _
    have hh0 : s₁.heap = s.heap := by rw [B.state]; rfl
    obtain ⟨t, a1, o, b1, b2, b3⟩ := body p e s m args below meth c s₁ B hml hP s₁ hh0 (Stand.of_body B)
    exact ⟨t, o, a1, b1, b2, b3⟩
/-! ===== END ===== -/
end
section
def RX0 : String := "LsmStore$Batch"
def TX0 : u_T := fun k => match k with
  | 0 => ("LsmStore$Batch", "record", "[B", true)
  | 1 => ("LsmStore$Batch", "starts", "[I", true)
  | 2 => ("LsmStore$Batch", "steps", "I", false)
  | 3 => ("LsmStore$Batch", "length", "I", false)
  | _ => ("LsmStore$Batch", "open", "Z", false)
def tyX0 : Nat → FieldType := fun k => match k with
  | 0 => .array .byte
  | 1 => .array .int
  | 2 => .int
  | 3 => .int
  | _ => .boolean
abbrev wsX00 : List Cond := u_ws RX0 TX0 5
theorem nmX0 : ∀ a, a < 5 → ∀ b, b < 5 → a ≠ b → (TX0 a).2.1 ≠ (TX0 b).2.1 := by decide +kernel
theorem tyX0_ok : ∀ k, k < 5 → parseFieldDescriptor (TX0 k).2.2.1 = some (tyX0 k) := by decide +kernel
abbrev cX0_init : ByteArray := prog_2_method_1_code
def yX0_init : MethodName := ⟨RX0, "<init>", "()V"⟩
abbrev cX0_start : ByteArray := prog_2_method_2_code
def yX0_start : MethodName := ⟨RX0, "start", "()V"⟩
abbrev cX0_add : ByteArray := prog_2_method_3_code
def yX0_add : MethodName := ⟨RX0, "add", "(ILLsmStore$Row;LLsmStore$Row;)V"⟩
abbrev cX0_seal : ByteArray := prog_2_method_4_code
def yX0_seal : MethodName := ⟨RX0, "seal", "(I)V"⟩
abbrev cX0_kind : ByteArray := prog_2_method_5_code
def yX0_kind : MethodName := ⟨RX0, "kind", "(I)I"⟩
abbrev cX0_entryLength : ByteArray := prog_2_method_6_code
def yX0_entryLength : MethodName := ⟨RX0, "entryLength", "(I)I"⟩
abbrev cX0_copyKey : ByteArray := prog_2_method_7_code
def yX0_copyKey : MethodName := ⟨RX0, "copyKey", "(ILLsmStore$Row;)V"⟩
abbrev cX0_isLastOfItsKey : ByteArray := prog_2_method_8_code
def yX0_isLastOfItsKey : MethodName := ⟨RX0, "isLastOfItsKey", "(I)Z"⟩
abbrev cX0_haveSameKey : ByteArray := prog_2_method_9_code
def yX0_haveSameKey : MethodName := ⟨RX0, "haveSameKey", "(II)Z"⟩
def RX1 : String := "LsmStore$Disk"
def TX1 : u_T := fun k => match k with
  | 0 => ("LsmStore$Disk", "cells", "[B", true)
  | 1 => ("LsmStore$Disk", "blank", "[B", true)
  | 2 => ("LsmStore$Disk", "on", "Z", false)
  | 3 => ("LsmStore$Disk", "when", "I", false)
  | 4 => ("LsmStore$Disk", "left", "I", false)
  | 5 => ("LsmStore$Disk", "cut", "I", false)
  | 6 => ("LsmStore$Disk", "due", "Z", false)
  | _ => ("LsmStore$Disk", "counting", "Z", false)
def tyX1 : Nat → FieldType := fun k => match k with
  | 0 => .array .byte
  | 1 => .array .byte
  | 2 => .boolean
  | 3 => .int
  | 4 => .int
  | 5 => .int
  | 6 => .boolean
  | _ => .boolean
abbrev wsX10 : List Cond := u_ws RX1 TX1 8
theorem nmX1 : ∀ a, a < 8 → ∀ b, b < 8 → a ≠ b → (TX1 a).2.1 ≠ (TX1 b).2.1 := by decide +kernel
theorem tyX1_ok : ∀ k, k < 8 → parseFieldDescriptor (TX1 k).2.2.1 = some (tyX1 k) := by decide +kernel
abbrev cX1_init : ByteArray := prog_3_method_1_code
def yX1_init : MethodName := ⟨RX1, "<init>", "()V"⟩
abbrev cX1_plan : ByteArray := prog_3_method_2_code
def yX1_plan : MethodName := ⟨RX1, "plan", "(III)V"⟩
abbrev cX1_enter : ByteArray := prog_3_method_3_code
def yX1_enter : MethodName := ⟨RX1, "enter", "(Z)V"⟩
abbrev cX1_leave : ByteArray := prog_3_method_4_code
def yX1_leave : MethodName := ⟨RX1, "leave", "()V"⟩
abbrev cX1_write : ByteArray := prog_3_method_5_code
def yX1_write : MethodName := ⟨RX1, "write", "(I[BIIZ)V"⟩
abbrev cX1_erase : ByteArray := prog_3_method_6_code
def yX1_erase : MethodName := ⟨RX1, "erase", "(I)V"⟩
abbrev cX1_goOff : ByteArray := prog_3_method_7_code
def yX1_goOff : MethodName := ⟨RX1, "goOff", "()V"⟩
abbrev cX1_number : ByteArray := prog_3_method_8_code
def yX1_number : MethodName := ⟨RX1, "number", "(II)I"⟩
abbrev cX1_kind : ByteArray := prog_3_method_9_code
def yX1_kind : MethodName := ⟨RX1, "kind", "(I)I"⟩
abbrev cX1_entryLength : ByteArray := prog_3_method_10_code
def yX1_entryLength : MethodName := ⟨RX1, "entryLength", "(I)I"⟩
abbrev cX1_nextInBlock : ByteArray := prog_3_method_11_code
def yX1_nextInBlock : MethodName := ⟨RX1, "nextInBlock", "(I)I"⟩
abbrev cX1_copyKey : ByteArray := prog_3_method_12_code
def yX1_copyKey : MethodName := ⟨RX1, "copyKey", "(ILLsmStore$Row;)V"⟩
abbrev cX1_copyValue : ByteArray := prog_3_method_13_code
def yX1_copyValue : MethodName := ⟨RX1, "copyValue", "(ILLsmStore$Row;)V"⟩
abbrev cX1_order : ByteArray := prog_3_method_14_code
def yX1_order : MethodName := ⟨RX1, "order", "(II)I"⟩
abbrev cX1_precedes : ByteArray := prog_3_method_15_code
def yX1_precedes : MethodName := ⟨RX1, "precedes", "(II)Z"⟩
abbrev cX1_isBefore : ByteArray := prog_3_method_16_code
def yX1_isBefore : MethodName := ⟨RX1, "isBefore", "(ILLsmStore$Row;I)Z"⟩
abbrev cX1_hasKey : ByteArray := prog_3_method_17_code
def yX1_hasKey : MethodName := ⟨RX1, "hasKey", "(ILLsmStore$Row;)Z"⟩
abbrev cX1_mix : ByteArray := prog_3_method_18_code
def yX1_mix : MethodName := ⟨RX1, "mix", "(JI)J"⟩
abbrev cX1_mixRow : ByteArray := prog_3_method_19_code
def yX1_mixRow : MethodName := ⟨RX1, "mixRow", "(JII)J"⟩
def RX2 : String := "LsmStore$Files"
def TX2 : u_T := fun k => match k with
  | 0 => ("LsmStore$Files", "taken", "[Z", true)
  | 1 => ("LsmStore$Files", "owners", "[I", true)
  | 2 => ("LsmStore$Files", "pool", "[LLsmStore$Table;", true)
  | 3 => ("LsmStore$Files", "retired", "[LLsmStore$Table;", true)
  | 4 => ("LsmStore$Files", "retiredCount", "I", false)
  | 5 => ("LsmStore$Files", "freeBlocks", "I", false)
  | 6 => ("LsmStore$Files", "freeTables", "I", false)
  | _ => ("LsmStore$Files", "next", "I", false)
def tyX2 : Nat → FieldType := fun k => match k with
  | 0 => .array .boolean
  | 1 => .array .int
  | 2 => .array (.object "LsmStore$Table")
  | 3 => .array (.object "LsmStore$Table")
  | 4 => .int
  | 5 => .int
  | 6 => .int
  | _ => .int
abbrev wsX20 : List Cond := u_ws RX2 TX2 8
theorem nmX2 : ∀ a, a < 8 → ∀ b, b < 8 → a ≠ b → (TX2 a).2.1 ≠ (TX2 b).2.1 := by decide +kernel
theorem tyX2_ok : ∀ k, k < 8 → parseFieldDescriptor (TX2 k).2.2.1 = some (tyX2 k) := by decide +kernel
abbrev cX2_init : ByteArray := prog_4_method_1_code
def yX2_init : MethodName := ⟨RX2, "<init>", "(LLsmStore$Disk;)V"⟩
abbrev cX2_clear : ByteArray := prog_4_method_2_code
def yX2_clear : MethodName := ⟨RX2, "clear", "()V"⟩
abbrev cX2_takeBlock : ByteArray := prog_4_method_3_code
def yX2_takeBlock : MethodName := ⟨RX2, "takeBlock", "()I"⟩
abbrev cX2_takeThis : ByteArray := prog_4_method_4_code
def yX2_takeThis : MethodName := ⟨RX2, "takeThis", "(I)Z"⟩
abbrev cX2_mark : ByteArray := prog_4_method_5_code
def yX2_mark : MethodName := ⟨RX2, "mark", "(I)V"⟩
abbrev cX2_takeTable : ByteArray := prog_4_method_6_code
def yX2_takeTable : MethodName := ⟨RX2, "takeTable", "()LLsmStore$Table;"⟩
abbrev cX2_retire : ByteArray := prog_4_method_7_code
def yX2_retire : MethodName := ⟨RX2, "retire", "(LLsmStore$Table;)V"⟩
abbrev cX2_freeRetired : ByteArray := prog_4_method_8_code
def yX2_freeRetired : MethodName := ⟨RX2, "freeRetired", "()V"⟩
abbrev cX2_free : ByteArray := prog_4_method_9_code
def yX2_free : MethodName := ⟨RX2, "free", "(LLsmStore$Table;)V"⟩
abbrev cX2_strayBlocks : ByteArray := prog_4_method_10_code
def yX2_strayBlocks : MethodName := ⟨RX2, "strayBlocks", "([LLsmStore$Level;)I"⟩
abbrev cX2_own : ByteArray := prog_4_method_11_code
def yX2_own : MethodName := ⟨RX2, "own", "(LLsmStore$Table;)I"⟩
def RX3 : String := "LsmStore$Head"
def TX3 : u_T := fun k => match k with
  | 0 => ("LsmStore$Head", "disk", "LLsmStore$Disk;", true)
  | 1 => ("LsmStore$Head", "record", "[B", true)
  | 2 => ("LsmStore$Head", "length", "I", false)
  | 3 => ("LsmStore$Head", "cursor", "I", false)
  | 4 => ("LsmStore$Head", "generation", "I", false)
  | 5 => ("LsmStore$Head", "area", "I", false)
  | _ => ("LsmStore$Head", "commits", "I", false)
def tyX3 : Nat → FieldType := fun k => match k with
  | 0 => .object "LsmStore$Disk"
  | 1 => .array .byte
  | 2 => .int
  | 3 => .int
  | 4 => .int
  | 5 => .int
  | _ => .int
abbrev wsX30 : List Cond := u_ws RX3 TX3 7
theorem nmX3 : ∀ a, a < 7 → ∀ b, b < 7 → a ≠ b → (TX3 a).2.1 ≠ (TX3 b).2.1 := by decide +kernel
theorem tyX3_ok : ∀ k, k < 7 → parseFieldDescriptor (TX3 k).2.2.1 = some (tyX3 k) := by decide +kernel
abbrev cX3_init : ByteArray := prog_5_method_1_code
def yX3_init : MethodName := ⟨RX3, "<init>", "(LLsmStore$Disk;)V"⟩
abbrev cX3_install : ByteArray := prog_5_method_2_code
def yX3_install : MethodName := ⟨RX3, "install", "(II[LLsmStore$Level;)V"⟩
abbrev cX3_describe : ByteArray := prog_5_method_3_code
def yX3_describe : MethodName := ⟨RX3, "describe", "(II[LLsmStore$Level;)V"⟩
abbrev cX3_addTable : ByteArray := prog_5_method_4_code
def yX3_addTable : MethodName := ⟨RX3, "addTable", "(LLsmStore$Table;)V"⟩
abbrev cX3_addNumber : ByteArray := prog_5_method_5_code
def yX3_addNumber : MethodName := ⟨RX3, "addNumber", "(II)V"⟩
abbrev cX3_load : ByteArray := prog_5_method_6_code
def yX3_load : MethodName := ⟨RX3, "load", "([LLsmStore$Level;LLsmStore$Files;)V"⟩
abbrev cX3_generationAt : ByteArray := prog_5_method_7_code
def yX3_generationAt : MethodName := ⟨RX3, "generationAt", "(I)I"⟩
abbrev cX3_readTable : ByteArray := prog_5_method_8_code
def yX3_readTable : MethodName := ⟨RX3, "readTable", "(LLsmStore$Level;LLsmStore$Files;)V"⟩
abbrev cX3_read : ByteArray := prog_5_method_9_code
def yX3_read : MethodName := ⟨RX3, "read", "(I)I"⟩
def RX4 : String := "LsmStore$Level"
def TX4 : u_T := fun k => match k with
  | 0 => ("LsmStore$Level", "disk", "LLsmStore$Disk;", true)
  | 1 => ("LsmStore$Level", "none", "LLsmStore$Table;", true)
  | 2 => ("LsmStore$Level", "tables", "[LLsmStore$Table;", true)
  | 3 => ("LsmStore$Level", "count", "I", false)
  | 4 => ("LsmStore$Level", "low", "I", false)
  | _ => ("LsmStore$Level", "high", "I", false)
def tyX4 : Nat → FieldType := fun k => match k with
  | 0 => .object "LsmStore$Disk"
  | 1 => .object "LsmStore$Table"
  | 2 => .array (.object "LsmStore$Table")
  | 3 => .int
  | 4 => .int
  | _ => .int
abbrev wsX40 : List Cond := u_ws RX4 TX4 6
theorem nmX4 : ∀ a, a < 6 → ∀ b, b < 6 → a ≠ b → (TX4 a).2.1 ≠ (TX4 b).2.1 := by decide +kernel
theorem tyX4_ok : ∀ k, k < 6 → parseFieldDescriptor (TX4 k).2.2.1 = some (tyX4 k) := by decide +kernel
abbrev cX4_init : ByteArray := prog_6_method_1_code
def yX4_init : MethodName := ⟨RX4, "<init>", "(LLsmStore$Disk;)V"⟩
abbrev cX4_clear : ByteArray := prog_6_method_2_code
def yX4_clear : MethodName := ⟨RX4, "clear", "()V"⟩
abbrev cX4_table : ByteArray := prog_6_method_3_code
def yX4_table : MethodName := ⟨RX4, "table", "(I)LLsmStore$Table;"⟩
abbrev cX4_add : ByteArray := prog_6_method_4_code
def yX4_add : MethodName := ⟨RX4, "add", "(LLsmStore$Table;)V"⟩
abbrev cX4_blocks : ByteArray := prog_6_method_5_code
def yX4_blocks : MethodName := ⟨RX4, "blocks", "()I"⟩
abbrev cX4_firstOf : ByteArray := prog_6_method_6_code
def yX4_firstOf : MethodName := ⟨RX4, "firstOf", "(I)I"⟩
abbrev cX4_lastOf : ByteArray := prog_6_method_7_code
def yX4_lastOf : MethodName := ⟨RX4, "lastOf", "(I)I"⟩
abbrev cX4_pickNone : ByteArray := prog_6_method_8_code
def yX4_pickNone : MethodName := ⟨RX4, "pickNone", "()V"⟩
abbrev cX4_pickAll : ByteArray := prog_6_method_9_code
def yX4_pickAll : MethodName := ⟨RX4, "pickAll", "()V"⟩
abbrev cX4_pickOne : ByteArray := prog_6_method_10_code
def yX4_pickOne : MethodName := ⟨RX4, "pickOne", "(I)V"⟩
abbrev cX4_pickOver : ByteArray := prog_6_method_11_code
def yX4_pickOver : MethodName := ⟨RX4, "pickOver", "(II)V"⟩
abbrev cX4_collect : ByteArray := prog_6_method_12_code
def yX4_collect : MethodName := ⟨RX4, "collect", "(LLsmStore$Rows;)V"⟩
abbrev cX4_cut : ByteArray := prog_6_method_13_code
def yX4_cut : MethodName := ⟨RX4, "cut", "(LLsmStore$Files;)V"⟩
abbrev cX4_insert : ByteArray := prog_6_method_14_code
def yX4_insert : MethodName := ⟨RX4, "insert", "([LLsmStore$Table;I)V"⟩
abbrev cX4_tableFrom : ByteArray := prog_6_method_15_code
def yX4_tableFrom : MethodName := ⟨RX4, "tableFrom", "(LLsmStore$Row;I)I"⟩
abbrev cX4_find : ByteArray := prog_6_method_16_code
def yX4_find : MethodName := ⟨RX4, "find", "(LLsmStore$Row;I)I"⟩
abbrev cX4_from : ByteArray := prog_6_method_17_code
def yX4_from : MethodName := ⟨RX4, "from", "(LLsmStore$Row;I)I"⟩
abbrev cX4_lastBefore : ByteArray := prog_6_method_18_code
def yX4_lastBefore : MethodName := ⟨RX4, "lastBefore", "(LLsmStore$Row;)I"⟩
abbrev cX4_overlaps : ByteArray := prog_6_method_19_code
def yX4_overlaps : MethodName := ⟨RX4, "overlaps", "()I"⟩
abbrev cX4_faults : ByteArray := prog_6_method_20_code
def yX4_faults : MethodName := ⟨RX4, "faults", "()I"⟩
def RX5 : String := "LsmStore$Log"
def TX5 : u_T := fun k => match k with
  | 0 => ("LsmStore$Log", "disk", "LLsmStore$Disk;", true)
  | 1 => ("LsmStore$Log", "index", "[I", true)
  | 2 => ("LsmStore$Log", "count", "I", false)
  | 3 => ("LsmStore$Log", "used", "I", false)
  | 4 => ("LsmStore$Log", "area", "I", false)
  | 5 => ("LsmStore$Log", "touched", "I", false)
  | _ => ("LsmStore$Log", "touchedOther", "I", false)
def tyX5 : Nat → FieldType := fun k => match k with
  | 0 => .object "LsmStore$Disk"
  | 1 => .array .int
  | 2 => .int
  | 3 => .int
  | 4 => .int
  | 5 => .int
  | _ => .int
abbrev wsX50 : List Cond := u_ws RX5 TX5 7
theorem nmX5 : ∀ a, a < 7 → ∀ b, b < 7 → a ≠ b → (TX5 a).2.1 ≠ (TX5 b).2.1 := by decide +kernel
theorem tyX5_ok : ∀ k, k < 7 → parseFieldDescriptor (TX5 k).2.2.1 = some (tyX5 k) := by decide +kernel
abbrev cX5_init : ByteArray := prog_7_method_1_code
def yX5_init : MethodName := ⟨RX5, "<init>", "(LLsmStore$Disk;)V"⟩
abbrev cX5_other : ByteArray := prog_7_method_2_code
def yX5_other : MethodName := ⟨RX5, "other", "()I"⟩
abbrev cX5_hasRoom : ByteArray := prog_7_method_3_code
def yX5_hasRoom : MethodName := ⟨RX5, "hasRoom", "(LLsmStore$Batch;)Z"⟩
abbrev cX5_append : ByteArray := prog_7_method_4_code
def yX5_append : MethodName := ⟨RX5, "append", "(LLsmStore$Batch;)V"⟩
abbrev cX5_enlist : ByteArray := prog_7_method_5_code
def yX5_enlist : MethodName := ⟨RX5, "enlist", "(II)V"⟩
abbrev cX5_enlistOne : ByteArray := prog_7_method_6_code
def yX5_enlistOne : MethodName := ⟨RX5, "enlistOne", "(I)V"⟩
abbrev cX5_open : ByteArray := prog_7_method_7_code
def yX5_open : MethodName := ⟨RX5, "open", "(I)V"⟩
abbrev cX5_replay : ByteArray := prog_7_method_8_code
def yX5_replay : MethodName := ⟨RX5, "replay", "()I"⟩
abbrev cX5_clearOther : ByteArray := prog_7_method_9_code
def yX5_clearOther : MethodName := ⟨RX5, "clearOther", "()V"⟩
abbrev cX5_change : ByteArray := prog_7_method_10_code
def yX5_change : MethodName := ⟨RX5, "change", "()V"⟩
abbrev cX5_first : ByteArray := prog_7_method_11_code
def yX5_first : MethodName := ⟨RX5, "first", "()I"⟩
abbrev cX5_last : ByteArray := prog_7_method_12_code
def yX5_last : MethodName := ⟨RX5, "last", "()I"⟩
abbrev cX5_find : ByteArray := prog_7_method_13_code
def yX5_find : MethodName := ⟨RX5, "find", "(LLsmStore$Row;I)I"⟩
abbrev cX5_from : ByteArray := prog_7_method_14_code
def yX5_from : MethodName := ⟨RX5, "from", "(LLsmStore$Row;I)I"⟩
abbrev cX5_lastBefore : ByteArray := prog_7_method_15_code
def yX5_lastBefore : MethodName := ⟨RX5, "lastBefore", "(LLsmStore$Row;)I"⟩
abbrev cX5_countBefore : ByteArray := prog_7_method_16_code
def yX5_countBefore : MethodName := ⟨RX5, "countBefore", "(LLsmStore$Row;I)I"⟩
abbrev cX5_collect : ByteArray := prog_7_method_17_code
def yX5_collect : MethodName := ⟨RX5, "collect", "(LLsmStore$Rows;)V"⟩
def RX6 : String := "LsmStore$Row"
def TX6 : u_T := fun k => match k with
  | 0 => ("LsmStore$Row", "cells", "[B", true)
  | _ => ("LsmStore$Row", "length", "I", false)
def tyX6 : Nat → FieldType := fun k => match k with
  | 0 => .array .byte
  | _ => .int
abbrev wsX60 : List Cond := u_ws RX6 TX6 2
theorem nmX6 : ∀ a, a < 2 → ∀ b, b < 2 → a ≠ b → (TX6 a).2.1 ≠ (TX6 b).2.1 := by decide +kernel
theorem tyX6_ok : ∀ k, k < 2 → parseFieldDescriptor (TX6 k).2.2.1 = some (tyX6 k) := by decide +kernel
abbrev cX6_init : ByteArray := prog_8_method_1_code
def yX6_init : MethodName := ⟨RX6, "<init>", "(I)V"⟩
abbrev cX6_accepts : ByteArray := prog_8_method_2_code
def yX6_accepts : MethodName := ⟨RX6, "accepts", "(IZ)Z"⟩
abbrev cX6_append : ByteArray := prog_8_method_3_code
def yX6_append : MethodName := ⟨RX6, "append", "(JIZ)I"⟩
abbrev cX6_word : ByteArray := prog_8_method_4_code
def yX6_word : MethodName := ⟨RX6, "word", "(I)J"⟩
abbrev cX6_copy : ByteArray := prog_8_method_5_code
def yX6_copy : MethodName := ⟨RX6, "copy", "([BII)V"⟩
def RX7 : String := "LsmStore$Rows"
def TX7 : u_T := fun k => match k with
  | 0 => ("LsmStore$Rows", "disk", "LLsmStore$Disk;", true)
  | 1 => ("LsmStore$Rows", "list", "[I", true)
  | 2 => ("LsmStore$Rows", "spare", "[I", true)
  | 3 => ("LsmStore$Rows", "count", "I", false)
  | _ => ("LsmStore$Rows", "whole", "Z", false)
def tyX7 : Nat → FieldType := fun k => match k with
  | 0 => .object "LsmStore$Disk"
  | 1 => .array .int
  | 2 => .array .int
  | 3 => .int
  | _ => .boolean
abbrev wsX70 : List Cond := u_ws RX7 TX7 5
theorem nmX7 : ∀ a, a < 5 → ∀ b, b < 5 → a ≠ b → (TX7 a).2.1 ≠ (TX7 b).2.1 := by decide +kernel
theorem tyX7_ok : ∀ k, k < 5 → parseFieldDescriptor (TX7 k).2.2.1 = some (tyX7 k) := by decide +kernel
abbrev cX7_init : ByteArray := prog_9_method_1_code
def yX7_init : MethodName := ⟨RX7, "<init>", "(LLsmStore$Disk;)V"⟩
abbrev cX7_clear : ByteArray := prog_9_method_2_code
def yX7_clear : MethodName := ⟨RX7, "clear", "()V"⟩
abbrev cX7_add : ByteArray := prog_9_method_3_code
def yX7_add : MethodName := ⟨RX7, "add", "(I)V"⟩
abbrev cX7_blend : ByteArray := prog_9_method_4_code
def yX7_blend : MethodName := ⟨RX7, "blend", "(I)V"⟩
abbrev cX7_thin : ByteArray := prog_9_method_5_code
def yX7_thin : MethodName := ⟨RX7, "thin", "(LLsmStore$Views;Z)V"⟩
abbrev cX7_withoutRemoves : ByteArray := prog_9_method_6_code
def yX7_withoutRemoves : MethodName := ⟨RX7, "withoutRemoves", "(I)I"⟩
abbrev cX7_firstSeen : ByteArray := prog_9_method_7_code
def yX7_firstSeen : MethodName := ⟨RX7, "firstSeen", "(II)I"⟩
abbrev cX7_hasNewer : ByteArray := prog_9_method_8_code
def yX7_hasNewer : MethodName := ⟨RX7, "hasNewer", "(II)Z"⟩
def RX8 : String := "LsmStore$Table"
def TX8 : u_T := fun k => match k with
  | 0 => ("LsmStore$Table", "disk", "LLsmStore$Disk;", true)
  | 1 => ("LsmStore$Table", "blocks", "[I", true)
  | 2 => ("LsmStore$Table", "count", "I", false)
  | 3 => ("LsmStore$Table", "last", "I", false)
  | _ => ("LsmStore$Table", "used", "Z", false)
def tyX8 : Nat → FieldType := fun k => match k with
  | 0 => .object "LsmStore$Disk"
  | 1 => .array .int
  | 2 => .int
  | 3 => .int
  | _ => .boolean
abbrev wsX80 : List Cond := u_ws RX8 TX8 5
theorem nmX8 : ∀ a, a < 5 → ∀ b, b < 5 → a ≠ b → (TX8 a).2.1 ≠ (TX8 b).2.1 := by decide +kernel
theorem tyX8_ok : ∀ k, k < 5 → parseFieldDescriptor (TX8 k).2.2.1 = some (tyX8 k) := by decide +kernel
abbrev cX8_init : ByteArray := prog_10_method_1_code
def yX8_init : MethodName := ⟨RX8, "<init>", "(LLsmStore$Disk;)V"⟩
abbrev cX8_start : ByteArray := prog_10_method_2_code
def yX8_start : MethodName := ⟨RX8, "start", "()V"⟩
abbrev cX8_addBlock : ByteArray := prog_10_method_3_code
def yX8_addBlock : MethodName := ⟨RX8, "addBlock", "(I)V"⟩
abbrev cX8_close : ByteArray := prog_10_method_4_code
def yX8_close : MethodName := ⟨RX8, "close", "()V"⟩
abbrev cX8_isSmall : ByteArray := prog_10_method_5_code
def yX8_isSmall : MethodName := ⟨RX8, "isSmall", "()Z"⟩
abbrev cX8_startOf : ByteArray := prog_10_method_6_code
def yX8_startOf : MethodName := ⟨RX8, "startOf", "(I)I"⟩
abbrev cX8_following : ByteArray := prog_10_method_7_code
def yX8_following : MethodName := ⟨RX8, "following", "(I)I"⟩
abbrev cX8_lastBefore : ByteArray := prog_10_method_8_code
def yX8_lastBefore : MethodName := ⟨RX8, "lastBefore", "(LLsmStore$Row;I)I"⟩
abbrev cX8_allows : ByteArray := prog_10_method_9_code
def yX8_allows : MethodName := ⟨RX8, "allows", "([BII)Z"⟩
abbrev cX8_faults : ByteArray := prog_10_method_10_code
def yX8_faults : MethodName := ⟨RX8, "faults", "()I"⟩
abbrev cX8_hash : ByteArray := prog_10_method_11_code
def yX8_hash : MethodName := ⟨RX8, "hash", "([BII)I"⟩
abbrev cX8_strideOf : ByteArray := prog_10_method_12_code
def yX8_strideOf : MethodName := ⟨RX8, "strideOf", "(I)I"⟩
def RX9 : String := "LsmStore$Views"
def TX9 : u_T := fun k => match k with
  | _ => ("LsmStore$Views", "commits", "[I", true)
def tyX9 : Nat → FieldType := fun k => match k with
  | _ => .array .int
abbrev wsX90 : List Cond := u_ws RX9 TX9 1
theorem nmX9 : ∀ a, a < 1 → ∀ b, b < 1 → a ≠ b → (TX9 a).2.1 ≠ (TX9 b).2.1 := by decide +kernel
theorem tyX9_ok : ∀ k, k < 1 → parseFieldDescriptor (TX9 k).2.2.1 = some (tyX9 k) := by decide +kernel
abbrev cX9_init : ByteArray := prog_11_method_1_code
def yX9_init : MethodName := ⟨RX9, "<init>", "()V"⟩
abbrev cX9_take : ByteArray := prog_11_method_2_code
def yX9_take : MethodName := ⟨RX9, "take", "(I)I"⟩
abbrev cX9_has : ByteArray := prog_11_method_3_code
def yX9_has : MethodName := ⟨RX9, "has", "(I)Z"⟩
abbrev cX9_drop : ByteArray := prog_11_method_4_code
def yX9_drop : MethodName := ⟨RX9, "drop", "(I)V"⟩
abbrev cX9_clear : ByteArray := prog_11_method_5_code
def yX9_clear : MethodName := ⟨RX9, "clear", "()V"⟩
abbrev cX9_bits : ByteArray := prog_11_method_6_code
def yX9_bits : MethodName := ⟨RX9, "bits", "()I"⟩
abbrev cX9_see : ByteArray := prog_11_method_7_code
def yX9_see : MethodName := ⟨RX9, "see", "(II)Z"⟩
def RX10 : String := "LsmStore$Writer"
def TX10 : u_T := fun k => match k with
  | 0 => ("LsmStore$Writer", "disk", "LLsmStore$Disk;", true)
  | 1 => ("LsmStore$Writer", "files", "LLsmStore$Files;", true)
  | 2 => ("LsmStore$Writer", "block", "[B", true)
  | 3 => ("LsmStore$Writer", "filter", "[B", true)
  | 4 => ("LsmStore$Writer", "made", "[LLsmStore$Table;", true)
  | 5 => ("LsmStore$Writer", "count", "I", false)
  | 6 => ("LsmStore$Writer", "started", "I", false)
  | _ => ("LsmStore$Writer", "fill", "I", false)
def tyX10 : Nat → FieldType := fun k => match k with
  | 0 => .object "LsmStore$Disk"
  | 1 => .object "LsmStore$Files"
  | 2 => .array .byte
  | 3 => .array .byte
  | 4 => .array (.object "LsmStore$Table")
  | 5 => .int
  | 6 => .int
  | _ => .int
abbrev wsX100 : List Cond := u_ws RX10 TX10 8
theorem nmX10 : ∀ a, a < 8 → ∀ b, b < 8 → a ≠ b → (TX10 a).2.1 ≠ (TX10 b).2.1 := by decide +kernel
theorem tyX10_ok : ∀ k, k < 8 → parseFieldDescriptor (TX10 k).2.2.1 = some (tyX10 k) := by decide +kernel
abbrev cX10_init : ByteArray := prog_12_method_1_code
def yX10_init : MethodName := ⟨RX10, "<init>", "(LLsmStore$Disk;LLsmStore$Files;)V"⟩
abbrev cX10_stepTo : ByteArray := prog_12_method_2_code
def yX10_stepTo : MethodName := ⟨RX10, "stepTo", "(LLsmStore$Rows;I)I"⟩
abbrev cX10_advance : ByteArray := prog_12_method_3_code
def yX10_advance : MethodName := ⟨RX10, "advance", "(II)V"⟩
abbrev cX10_hasRoom : ByteArray := prog_12_method_4_code
def yX10_hasRoom : MethodName := ⟨RX10, "hasRoom", "(LLsmStore$Rows;)Z"⟩
abbrev cX10_store : ByteArray := prog_12_method_5_code
def yX10_store : MethodName := ⟨RX10, "store", "(LLsmStore$Rows;)V"⟩
abbrev cX10_open : ByteArray := prog_12_method_6_code
def yX10_open : MethodName := ⟨RX10, "open", "(I)V"⟩
abbrev cX10_copyEntry : ByteArray := prog_12_method_7_code
def yX10_copyEntry : MethodName := ⟨RX10, "copyEntry", "(I)V"⟩
abbrev cX10_current : ByteArray := prog_12_method_8_code
def yX10_current : MethodName := ⟨RX10, "current", "()LLsmStore$Table;"⟩
abbrev cX10_closeTable : ByteArray := prog_12_method_9_code
def yX10_closeTable : MethodName := ⟨RX10, "closeTable", "()V"⟩
abbrev cX10_writeOut : ByteArray := prog_12_method_10_code
def yX10_writeOut : MethodName := ⟨RX10, "writeOut", "([B)V"⟩
def RX11 : String := "LsmStore"
def TX11 : u_T := fun k => match k with
  | 0 => ("LsmStore", "disk", "LLsmStore$Disk;", true)
  | 1 => ("LsmStore", "theKey", "LLsmStore$Row;", true)
  | 2 => ("LsmStore", "theValue", "LLsmStore$Row;", true)
  | 3 => ("LsmStore", "probe", "LLsmStore$Row;", true)
  | 4 => ("LsmStore", "batch", "LLsmStore$Batch;", true)
  | 5 => ("LsmStore", "views", "LLsmStore$Views;", true)
  | 6 => ("LsmStore", "log", "LLsmStore$Log;", true)
  | 7 => ("LsmStore", "files", "LLsmStore$Files;", true)
  | 8 => ("LsmStore", "levels", "[LLsmStore$Level;", true)
  | 9 => ("LsmStore", "rows", "LLsmStore$Rows;", true)
  | 10 => ("LsmStore", "writer", "LLsmStore$Writer;", true)
  | 11 => ("LsmStore", "head", "LLsmStore$Head;", true)
  | 12 => ("LsmStore", "size", "I", false)
  | 13 => ("LsmStore", "keys", "I", false)
  | 14 => ("LsmStore", "commits", "I", false)
  | 15 => ("LsmStore", "nextSize", "I", false)
  | 16 => ("LsmStore", "nextKeys", "I", false)
  | _ => ("LsmStore", "turn", "I", false)
def tyX11 : Nat → FieldType := fun k => match k with
  | 0 => .object "LsmStore$Disk"
  | 1 => .object "LsmStore$Row"
  | 2 => .object "LsmStore$Row"
  | 3 => .object "LsmStore$Row"
  | 4 => .object "LsmStore$Batch"
  | 5 => .object "LsmStore$Views"
  | 6 => .object "LsmStore$Log"
  | 7 => .object "LsmStore$Files"
  | 8 => .array (.object "LsmStore$Level")
  | 9 => .object "LsmStore$Rows"
  | 10 => .object "LsmStore$Writer"
  | 11 => .object "LsmStore$Head"
  | 12 => .int
  | 13 => .int
  | 14 => .int
  | 15 => .int
  | 16 => .int
  | _ => .int
abbrev wsX110 : List Cond := u_ws RX11 TX11 18
theorem nmX11 : ∀ a, a < 18 → ∀ b, b < 18 → a ≠ b → (TX11 a).2.1 ≠ (TX11 b).2.1 := by decide +kernel
theorem tyX11_ok : ∀ k, k < 18 → parseFieldDescriptor (TX11 k).2.2.1 = some (tyX11 k) := by decide +kernel
abbrev cX11_init : ByteArray := prog_1_method_1_code
def yX11_init : MethodName := ⟨RX11, "<init>", "()V"⟩
abbrev cX11_key : ByteArray := prog_1_method_2_code
def yX11_key : MethodName := ⟨RX11, "key", "(JIZ)I"⟩
abbrev cX11_value : ByteArray := prog_1_method_3_code
def yX11_value : MethodName := ⟨RX11, "value", "(JIZ)I"⟩
abbrev cX11_begin : ByteArray := prog_1_method_4_code
def yX11_begin : MethodName := ⟨RX11, "begin", "()V"⟩
abbrev cX11_put : ByteArray := prog_1_method_5_code
def yX11_put : MethodName := ⟨RX11, "put", "()I"⟩
abbrev cX11_remove : ByteArray := prog_1_method_6_code
def yX11_remove : MethodName := ⟨RX11, "remove", "()I"⟩
abbrev cX11_commit : ByteArray := prog_1_method_7_code
def yX11_commit : MethodName := ⟨RX11, "commit", "()I"⟩
abbrev cX11_cancel : ByteArray := prog_1_method_8_code
def yX11_cancel : MethodName := ⟨RX11, "cancel", "()I"⟩
abbrev cX11_snapshot : ByteArray := prog_1_method_9_code
def yX11_snapshot : MethodName := ⟨RX11, "snapshot", "()I"⟩
abbrev cX11_release : ByteArray := prog_1_method_10_code
def yX11_release : MethodName := ⟨RX11, "release", "(I)V"⟩
abbrev cX11_get : ByteArray := prog_1_method_11_code
def yX11_get : MethodName := ⟨RX11, "get", "(I)I"⟩
abbrev cX11_seek : ByteArray := prog_1_method_12_code
def yX11_seek : MethodName := ⟨RX11, "seek", "(IZ)I"⟩
abbrev cX11_before : ByteArray := prog_1_method_13_code
def yX11_before : MethodName := ⟨RX11, "before", "(I)I"⟩
abbrev cX11_bytes : ByteArray := prog_1_method_14_code
def yX11_bytes : MethodName := ⟨RX11, "bytes", "(ZI)J"⟩
abbrev cX11_flush : ByteArray := prog_1_method_15_code
def yX11_flush : MethodName := ⟨RX11, "flush", "()V"⟩
abbrev cX11_compact : ByteArray := prog_1_method_16_code
def yX11_compact : MethodName := ⟨RX11, "compact", "()V"⟩
abbrev cX11_power : ByteArray := prog_1_method_17_code
def yX11_power : MethodName := ⟨RX11, "power", "(III)V"⟩
abbrev cX11_reopen : ByteArray := prog_1_method_18_code
def yX11_reopen : MethodName := ⟨RX11, "reopen", "()I"⟩
abbrev cX11_told : ByteArray := prog_1_method_19_code
def yX11_told : MethodName := ⟨RX11, "told", "(I)I"⟩
abbrev cX11_digest : ByteArray := prog_1_method_20_code
def yX11_digest : MethodName := ⟨RX11, "digest", "(I)J"⟩
abbrev cX11_check : ByteArray := prog_1_method_21_code
def yX11_check : MethodName := ⟨RX11, "check", "()I"⟩
abbrev cX11_requireOn : ByteArray := prog_1_method_22_code
def yX11_requireOn : MethodName := ⟨RX11, "requireOn", "()V"⟩
abbrev cX11_requireBatch : ByteArray := prog_1_method_23_code
def yX11_requireBatch : MethodName := ⟨RX11, "requireBatch", "()V"⟩
abbrev cX11_viewOf : ByteArray := prog_1_method_24_code
def yX11_viewOf : MethodName := ⟨RX11, "viewOf", "(I)I"⟩
abbrev cX11_addStep : ByteArray := prog_1_method_25_code
def yX11_addStep : MethodName := ⟨RX11, "addStep", "(I)V"⟩
abbrev cX11_finish : ByteArray := prog_1_method_26_code
def yX11_finish : MethodName := ⟨RX11, "finish", "()I"⟩
abbrev cX11_weigh : ByteArray := prog_1_method_27_code
def yX11_weigh : MethodName := ⟨RX11, "weigh", "()V"⟩
abbrev cX11_take : ByteArray := prog_1_method_28_code
def yX11_take : MethodName := ⟨RX11, "take", "(I)I"⟩
abbrev cX11_find : ByteArray := prog_1_method_29_code
def yX11_find : MethodName := ⟨RX11, "find", "(LLsmStore$Row;I)I"⟩
abbrev cX11_nearest : ByteArray := prog_1_method_30_code
def yX11_nearest : MethodName := ⟨RX11, "nearest", "(II)I"⟩
abbrev cX11_nearestBefore : ByteArray := prog_1_method_31_code
def yX11_nearestBefore : MethodName := ⟨RX11, "nearestBefore", "(I)I"⟩
abbrev cX11_firstFrom : ByteArray := prog_1_method_32_code
def yX11_firstFrom : MethodName := ⟨RX11, "firstFrom", "(LLsmStore$Row;I)I"⟩
abbrev cX11_lastBefore : ByteArray := prog_1_method_33_code
def yX11_lastBefore : MethodName := ⟨RX11, "lastBefore", "(LLsmStore$Row;)I"⟩
abbrev cX11_load : ByteArray := prog_1_method_34_code
def yX11_load : MethodName := ⟨RX11, "load", "()V"⟩
abbrev cX11_recount : ByteArray := prog_1_method_35_code
def yX11_recount : MethodName := ⟨RX11, "recount", "()V"⟩
abbrev cX11_settle : ByteArray := prog_1_method_36_code
def yX11_settle : MethodName := ⟨RX11, "settle", "(I)V"⟩
abbrev cX11_pickNone : ByteArray := prog_1_method_37_code
def yX11_pickNone : MethodName := ⟨RX11, "pickNone", "()V"⟩
abbrev cX11_join : ByteArray := prog_1_method_38_code
def yX11_join : MethodName := ⟨RX11, "join", "(IZ)Z"⟩
abbrev cX11_gatherAll : ByteArray := prog_1_method_39_code
def yX11_gatherAll : MethodName := ⟨RX11, "gatherAll", "()V"⟩
abbrev cX11_gather : ByteArray := prog_1_method_40_code
def yX11_gather : MethodName := ⟨RX11, "gather", "(Z)V"⟩
def RX12 : String := "LsmStoreModel"
def TX12 : u_T := fun k => match k with
  | 0 => ("LsmStoreModel", "key", "[B", true)
  | 1 => ("LsmStoreModel", "value", "[B", true)
  | 2 => ("LsmStoreModel", "keys", "I", false)
  | 3 => ("LsmStoreModel", "values", "I", false)
  | 4 => ("LsmStoreModel", "map", "[B", true)
  | 5 => ("LsmStoreModel", "next", "[B", true)
  | 6 => ("LsmStoreModel", "snap", "[B", true)
  | 7 => ("LsmStoreModel", "used", "I", false)
  | 8 => ("LsmStoreModel", "nextUsed", "I", false)
  | 9 => ("LsmStoreModel", "snapUsed", "[I", true)
  | 10 => ("LsmStoreModel", "snaps", "I", false)
  | 11 => ("LsmStoreModel", "batch", "[B", true)
  | 12 => ("LsmStoreModel", "batchUsed", "I", false)
  | 13 => ("LsmStoreModel", "batched", "I", false)
  | 14 => ("LsmStoreModel", "isOpen", "Z", false)
  | 15 => ("LsmStoreModel", "isOff", "Z", false)
  | 16 => ("LsmStoreModel", "commits", "I", false)
  | 17 => ("LsmStoreModel", "when", "I", false)
  | _ => ("LsmStoreModel", "thrown", "I", false)
def tyX12 : Nat → FieldType := fun k => match k with
  | 0 => .array .byte
  | 1 => .array .byte
  | 2 => .int
  | 3 => .int
  | 4 => .array .byte
  | 5 => .array .byte
  | 6 => .array .byte
  | 7 => .int
  | 8 => .int
  | 9 => .array .int
  | 10 => .int
  | 11 => .array .byte
  | 12 => .int
  | 13 => .int
  | 14 => .boolean
  | 15 => .boolean
  | 16 => .int
  | 17 => .int
  | _ => .int
abbrev wsX120 : List Cond := u_ws RX12 TX12 19
theorem nmX12 : ∀ a, a < 19 → ∀ b, b < 19 → a ≠ b → (TX12 a).2.1 ≠ (TX12 b).2.1 := by decide +kernel
theorem tyX12_ok : ∀ k, k < 19 → parseFieldDescriptor (TX12 k).2.2.1 = some (tyX12 k) := by decide +kernel
abbrev cX12_init : ByteArray := prog_14_method_1_code
def yX12_init : MethodName := ⟨RX12, "<init>", "()V"⟩
abbrev cX12_thrown : ByteArray := prog_14_method_2_code
def yX12_thrown : MethodName := ⟨RX12, "thrown", "()I"⟩
abbrev cX12_behind : ByteArray := prog_14_method_3_code
def yX12_behind : MethodName := ⟨RX12, "behind", "([BI)I"⟩
abbrev cX12_size : ByteArray := prog_14_method_4_code
def yX12_size : MethodName := ⟨RX12, "size", "([BII)I"⟩
abbrev cX12_many : ByteArray := prog_14_method_5_code
def yX12_many : MethodName := ⟨RX12, "many", "([BII)I"⟩
abbrev cX12_compare : ByteArray := prog_14_method_6_code
def yX12_compare : MethodName := ⟨RX12, "compare", "([BI[BII)I"⟩
abbrev cX12_set : ByteArray := prog_14_method_7_code
def yX12_set : MethodName := ⟨RX12, "set", "([BII[BII)V"⟩
abbrev cX12_begun : ByteArray := prog_14_method_8_code
def yX12_begun : MethodName := ⟨RX12, "begun", "()V"⟩
abbrev cX12_done : ByteArray := prog_14_method_9_code
def yX12_done : MethodName := ⟨RX12, "done", "()I"⟩
abbrev cX12_failed : ByteArray := prog_14_method_10_code
def yX12_failed : MethodName := ⟨RX12, "failed", "()I"⟩
abbrev cX12_fall : ByteArray := prog_14_method_11_code
def yX12_fall : MethodName := ⟨RX12, "fall", "()V"⟩
abbrev cX12_lost : ByteArray := prog_14_method_12_code
def yX12_lost : MethodName := ⟨RX12, "lost", "()V"⟩
abbrev cX12_key : ByteArray := prog_14_method_13_code
def yX12_key : MethodName := ⟨RX12, "key", "(JIZ)I"⟩
abbrev cX12_value : ByteArray := prog_14_method_14_code
def yX12_value : MethodName := ⟨RX12, "value", "(JIZ)I"⟩
abbrev cX12_begin : ByteArray := prog_14_method_15_code
def yX12_begin : MethodName := ⟨RX12, "begin", "()V"⟩
abbrev cX12_change : ByteArray := prog_14_method_16_code
def yX12_change : MethodName := ⟨RX12, "change", "(Z)I"⟩
abbrev cX12_put : ByteArray := prog_14_method_17_code
def yX12_put : MethodName := ⟨RX12, "put", "()I"⟩
abbrev cX12_remove : ByteArray := prog_14_method_18_code
def yX12_remove : MethodName := ⟨RX12, "remove", "()I"⟩
abbrev cX12_commit : ByteArray := prog_14_method_19_code
def yX12_commit : MethodName := ⟨RX12, "commit", "()I"⟩
abbrev cX12_cancel : ByteArray := prog_14_method_20_code
def yX12_cancel : MethodName := ⟨RX12, "cancel", "()I"⟩
abbrev cX12_snapshot : ByteArray := prog_14_method_21_code
def yX12_snapshot : MethodName := ⟨RX12, "snapshot", "()I"⟩
abbrev cX12_isThere : ByteArray := prog_14_method_22_code
def yX12_isThere : MethodName := ⟨RX12, "isThere", "(I)Z"⟩
abbrev cX12_release : ByteArray := prog_14_method_23_code
def yX12_release : MethodName := ⟨RX12, "release", "(I)V"⟩
abbrev cX12_rowOf : ByteArray := prog_14_method_24_code
def yX12_rowOf : MethodName := ⟨RX12, "rowOf", "(I)[B"⟩
abbrev cX12_from : ByteArray := prog_14_method_25_code
def yX12_from : MethodName := ⟨RX12, "from", "(I)I"⟩
abbrev cX12_end : ByteArray := prog_14_method_26_code
def yX12_end : MethodName := ⟨RX12, "end", "(I)I"⟩
abbrev cX12_taken : ByteArray := prog_14_method_27_code
def yX12_taken : MethodName := ⟨RX12, "taken", "([BIZ)V"⟩
abbrev cX12_get : ByteArray := prog_14_method_28_code
def yX12_get : MethodName := ⟨RX12, "get", "(I)I"⟩
abbrev cX12_seek : ByteArray := prog_14_method_29_code
def yX12_seek : MethodName := ⟨RX12, "seek", "(IZ)I"⟩
abbrev cX12_before : ByteArray := prog_14_method_30_code
def yX12_before : MethodName := ⟨RX12, "before", "(I)I"⟩
abbrev cX12_bytes : ByteArray := prog_14_method_31_code
def yX12_bytes : MethodName := ⟨RX12, "bytes", "(ZI)J"⟩
abbrev cX12_works : ByteArray := prog_14_method_32_code
def yX12_works : MethodName := ⟨RX12, "works", "()V"⟩
abbrev cX12_flush : ByteArray := prog_14_method_33_code
def yX12_flush : MethodName := ⟨RX12, "flush", "()V"⟩
abbrev cX12_compact : ByteArray := prog_14_method_34_code
def yX12_compact : MethodName := ⟨RX12, "compact", "()V"⟩
abbrev cX12_power : ByteArray := prog_14_method_35_code
def yX12_power : MethodName := ⟨RX12, "power", "(III)V"⟩
abbrev cX12_reopen : ByteArray := prog_14_method_36_code
def yX12_reopen : MethodName := ⟨RX12, "reopen", "()I"⟩
abbrev cX12_told : ByteArray := prog_14_method_37_code
def yX12_told : MethodName := ⟨RX12, "told", "(I)I"⟩
abbrev cX12_digest : ByteArray := prog_14_method_38_code
def yX12_digest : MethodName := ⟨RX12, "digest", "(I)J"⟩
abbrev cX12_check : ByteArray := prog_14_method_39_code
def yX12_check : MethodName := ⟨RX12, "check", "()I"⟩
def RJ9 : String := "java/lang/Math"
def TJ9 : u_T := fun k => match k with
  | _ => ("", "", "", false)
def tyJ9 : Nat → FieldType := fun k => match k with
  | _ => .int
abbrev wsJ90 : List Cond := u_ws RJ9 TJ9 0
theorem nmJ9 : ∀ a, a < 0 → ∀ b, b < 0 → a ≠ b → (TJ9 a).2.1 ≠ (TJ9 b).2.1 := by decide +kernel
theorem tyJ9_ok : ∀ k, k < 0 → parseFieldDescriptor (TJ9 k).2.2.1 = some (tyJ9 k) := by decide +kernel
abbrev cJ9_floorMod_7cf53 : ByteArray := prog_19_method_50_code
def yJ9_floorMod_7cf53 : MethodName := ⟨RJ9, "floorMod", "(II)I"⟩
abbrev cJ9_max_7cf53 : ByteArray := prog_19_method_65_code
def yJ9_max_7cf53 : MethodName := ⟨RJ9, "max", "(II)I"⟩
abbrev cJ9_min_7cf53 : ByteArray := prog_19_method_69_code
def yJ9_min_7cf53 : MethodName := ⟨RJ9, "min", "(II)I"⟩
def RJ0 : String := "java/lang/String"
def TJ0 : u_T := fun k => match k with
  | _ => ("", "", "", false)
def tyJ0 : Nat → FieldType := fun k => match k with
  | _ => .int
abbrev wsJ00 : List Cond := u_ws RJ0 TJ0 0
theorem nmJ0 : ∀ a, a < 0 → ∀ b, b < 0 → a ≠ b → (TJ0 a).2.1 ≠ (TJ0 b).2.1 := by decide +kernel
theorem tyJ0_ok : ∀ k, k < 0 → parseFieldDescriptor (TJ0 k).2.2.1 = some (tyJ0 k) := by decide +kernel
def RJ10 : String := "java/lang/System"
def TJ10 : u_T := fun k => match k with
  | _ => ("", "", "", false)
def tyJ10 : Nat → FieldType := fun k => match k with
  | _ => .int
abbrev wsJ100 : List Cond := u_ws RJ10 TJ10 0
theorem nmJ10 : ∀ a, a < 0 → ∀ b, b < 0 → a ≠ b → (TJ10 a).2.1 ≠ (TJ10 b).2.1 := by decide +kernel
theorem tyJ10_ok : ∀ k, k < 0 → parseFieldDescriptor (TJ10 k).2.2.1 = some (tyJ10 k) := by decide +kernel
def RJ7 : String := "java/util/Arrays"
def TJ7 : u_T := fun k => match k with
  | _ => ("", "", "", false)
def tyJ7 : Nat → FieldType := fun k => match k with
  | _ => .int
abbrev wsJ70 : List Cond := u_ws RJ7 TJ7 0
theorem nmJ7 : ∀ a, a < 0 → ∀ b, b < 0 → a ≠ b → (TJ7 a).2.1 ≠ (TJ7 b).2.1 := by decide +kernel
theorem tyJ7_ok : ∀ k, k < 0 → parseFieldDescriptor (TJ7 k).2.2.1 = some (tyJ7 k) := by decide +kernel
abbrev cJ7_fill_031fb : ByteArray := prog_24_method_109_code
def yJ7_fill_031fb : MethodName := ⟨RJ7, "fill", "([BB)V"⟩
def RL : String := "LsmStoreLaw"
abbrev cL_key : ByteArray := method_3_code
def yL_key : MethodName := ⟨RL, "key", "(LLsmStore;JIZ[J)I"⟩
abbrev cL_value : ByteArray := method_4_code
def yL_value : MethodName := ⟨RL, "value", "(LLsmStore;JIZ[J)I"⟩
abbrev cL_begin : ByteArray := method_5_code
def yL_begin : MethodName := ⟨RL, "begin", "(LLsmStore;)I"⟩
abbrev cL_put : ByteArray := method_6_code
def yL_put : MethodName := ⟨RL, "put", "(LLsmStore;[J)I"⟩
abbrev cL_remove : ByteArray := method_7_code
def yL_remove : MethodName := ⟨RL, "remove", "(LLsmStore;[J)I"⟩
abbrev cL_commit : ByteArray := method_8_code
def yL_commit : MethodName := ⟨RL, "commit", "(LLsmStore;[J)I"⟩
abbrev cL_cancel : ByteArray := method_9_code
def yL_cancel : MethodName := ⟨RL, "cancel", "(LLsmStore;[J)I"⟩
abbrev cL_snapshot : ByteArray := method_10_code
def yL_snapshot : MethodName := ⟨RL, "snapshot", "(LLsmStore;[J)I"⟩
abbrev cL_release : ByteArray := method_11_code
def yL_release : MethodName := ⟨RL, "release", "(LLsmStore;I)I"⟩
abbrev cL_get : ByteArray := method_12_code
def yL_get : MethodName := ⟨RL, "get", "(LLsmStore;I[J)I"⟩
abbrev cL_seek : ByteArray := method_13_code
def yL_seek : MethodName := ⟨RL, "seek", "(LLsmStore;IZ[J)I"⟩
abbrev cL_before : ByteArray := method_14_code
def yL_before : MethodName := ⟨RL, "before", "(LLsmStore;I[J)I"⟩
abbrev cL_bytes : ByteArray := method_15_code
def yL_bytes : MethodName := ⟨RL, "bytes", "(LLsmStore;ZI[J)I"⟩
abbrev cL_flush : ByteArray := method_16_code
def yL_flush : MethodName := ⟨RL, "flush", "(LLsmStore;)I"⟩
abbrev cL_compact : ByteArray := method_17_code
def yL_compact : MethodName := ⟨RL, "compact", "(LLsmStore;)I"⟩
abbrev cL_power : ByteArray := method_18_code
def yL_power : MethodName := ⟨RL, "power", "(LLsmStore;III)I"⟩
abbrev cL_reopen : ByteArray := method_19_code
def yL_reopen : MethodName := ⟨RL, "reopen", "(LLsmStore;[J)I"⟩
abbrev cL_told : ByteArray := method_20_code
def yL_told : MethodName := ⟨RL, "told", "(LLsmStore;I[J)I"⟩
abbrev cL_digest : ByteArray := method_21_code
def yL_digest : MethodName := ⟨RL, "digest", "(LLsmStore;I[J)I"⟩
abbrev cL_check : ByteArray := method_22_code
def yL_check : MethodName := ⟨RL, "check", "(LLsmStore;[J)I"⟩
abbrev cL_law : ByteArray := code
def yL_law : MethodName := ⟨RL, "law", "([I)Z"⟩
abbrev vwCl : List vw_C := [(RX0, TX0, 5), (RX1, TX1, 8), (RX2, TX2, 8), (RX3, TX3, 7), (RX4, TX4, 6), (RX5, TX5, 7), (RX6, TX6, 2), (RX7, TX7, 5), (RX8, TX8, 5), (RX9, TX9, 1), (RX10, TX10, 8), (RX11, TX11, 18), (RX12, TX12, 19)]
end
section
/-! ===== THE CORE: one memory for the whole system, one judgement zw ('from here the method comes to Q'), its rows ===== -/
/-- fields of ints (field, address), fields of references, rows of ints, rows of references, rows of longs, the kind of each address (0: none; c + 1: an object of vwCl's class c; 14 byte[], 15 int[], 16 boolean[], 17 long[], 18 Level[], 19 Table[]), lengths, cells and slots made so far -/
abbrev zM : Type := (Nat → Nat → Int32) × (Nat → Nat → Option Nat) × (Nat → Nat → Int32) × (Nat → Nat → Option Nat) × (Nat → Nat → Int64) × (Nat → Nat) × (Nat → Nat) × Nat × Nat
def zI (M : zM) : Nat → Nat → Int32 := M.1
def zR (M : zM) : Nat → Nat → Option Nat := M.2.1
def zA (M : zM) : Nat → Nat → Int32 := M.2.2.1
def zB (M : zM) : Nat → Nat → Option Nat := M.2.2.2.1
def zJ (M : zM) : Nat → Nat → Int64 := M.2.2.2.2.1
def zK (M : zM) : Nat → Nat := M.2.2.2.2.2.1
def zN (M : zM) : Nat → Nat := M.2.2.2.2.2.2.1
def zC (M : zM) : Nat := M.2.2.2.2.2.2.2.1
def zS (M : zM) : Nat := M.2.2.2.2.2.2.2.2
def zput (M : zM) (f a : Nat) (v : Int32) : zM := (fun x y => if x = f ∧ y = a then v else zI M x y, M.2)
def zputR (M : zM) (f a : Nat) (v : Option Nat) : zM := (M.1, fun x y => if x = f ∧ y = a then v else zR M x y, M.2.2)
def zsetA (M : zM) (a : Nat) (g : Nat → Int32) : zM := (M.1, M.2.1, va_up (zA M) a g, M.2.2.2)
def zsetB (M : zM) (a : Nat) (g : Nat → Option Nat) : zM := (M.1, M.2.1, M.2.2.1, va_up (zB M) a g, M.2.2.2.2)
def zsetJ (M : zM) (a : Nat) (g : Nat → Int64) : zM := (M.1, M.2.1, M.2.2.1, M.2.2.2.1, va_up (zJ M) a g, M.2.2.2.2.2)
def znewO (M : zM) (a c n : Nat) : zM := (fun x y => if y = a then 0 else zI M x y, fun x y => if y = a then none else zR M x y, zA M, zB M, zJ M, va_up (zK M) a (c + 1), zN M, zC M + 1, zS M + n)
def znewA (M : zM) (a κ n : Nat) : zM := (zI M, zR M, va_up (zA M) a (fun _ => 0), va_up (zB M) a (fun _ => none), va_up (zJ M) a (fun _ => 0), va_up (zK M) a κ, va_up (zN M) a n, zC M + 1, zS M + n)
def zthr (M : zM) : zM := (zI M, zR M, zA M, zB M, zJ M, zK M, zN M, zC M + 1, zS M + 6)
-- the classes
def zRX (c : Nat) : String := match c with | 0 => RX0 | 1 => RX1 | 2 => RX2 | 3 => RX3 | 4 => RX4 | 5 => RX5 | 6 => RX6 | 7 => RX7 | 8 => RX8 | 9 => RX9 | 10 => RX10 | 11 => RX11 | _ => RX12
def zTX (c : Nat) : u_T := match c with | 0 => TX0 | 1 => TX1 | 2 => TX2 | 3 => TX3 | 4 => TX4 | 5 => TX5 | 6 => TX6 | 7 => TX7 | 8 => TX8 | 9 => TX9 | 10 => TX10 | 11 => TX11 | _ => TX12
def zty (c : Nat) : Nat → FieldType := match c with | 0 => tyX0 | 1 => tyX1 | 2 => tyX2 | 3 => tyX3 | 4 => tyX4 | 5 => tyX5 | 6 => tyX6 | 7 => tyX7 | 8 => tyX8 | 9 => tyX9 | 10 => tyX10 | 11 => tyX11 | _ => tyX12
def zn (c : Nat) : Nat := match c with | 0 => 5 | 1 => 8 | 2 => 8 | 3 => 7 | 4 => 6 | 5 => 7 | 6 => 2 | 7 => 5 | 8 => 5 | 9 => 1 | 10 => 8 | 11 => 18 | _ => 19
theorem zc_cases {P : Nat → Prop} (h0 : P 0) (h1 : P 1) (h2 : P 2) (h3 : P 3) (h4 : P 4) (h5 : P 5) (h6 : P 6) (h7 : P 7) (h8 : P 8) (h9 : P 9) (h10 : P 10) (h11 : P 11) (h12 : P 12) : ∀ c, c < 13 → P c := by
  intro c hc
  match c, hc with
  | 0, _ => exact h0
  | 1, _ => exact h1
  | 2, _ => exact h2
  | 3, _ => exact h3
  | 4, _ => exact h4
  | 5, _ => exact h5
  | 6, _ => exact h6
  | 7, _ => exact h7
  | 8, _ => exact h8
  | 9, _ => exact h9
  | 10, _ => exact h10
  | 11, _ => exact h11
  | 12, _ => exact h12
  | k + 13, h => omega
theorem zc_cl : ∀ c, c < 13 → vwCl[c]? = some (zRX c, zTX c, zn c) := zc_cases rfl rfl rfl rfl rfl rfl rfl rfl rfl rfl rfl rfl rfl
theorem zc_ty : ∀ c, c < 13 → ∀ k, k < zn c → parseFieldDescriptor (zTX c k).2.2.1 = some (zty c k) := zc_cases tyX0_ok tyX1_ok tyX2_ok tyX3_ok tyX4_ok tyX5_ok tyX6_ok tyX7_ok tyX8_ok tyX9_ok tyX10_ok tyX11_ok tyX12_ok
theorem zc_nm : ∀ c, c < 13 → ∀ a, a < zn c → ∀ b, b < zn c → a ≠ b → (zTX c a).2.1 ≠ (zTX c b).2.1 := zc_cases nmX0 nmX1 nmX2 nmX3 nmX4 nmX5 nmX6 nmX7 nmX8 nmX9 nmX10 nmX11 nmX12
theorem zc_own : ∀ c, c < 13 → ∀ k, k < zn c → (zTX c k).1 = zRX c := by
  refine zc_cases ?_ ?_ ?_ ?_ ?_ ?_ ?_ ?_ ?_ ?_ ?_ ?_ ?_ <;> decide +kernel
theorem zc_in : ∀ c, c < 13 → ∀ w ∈ u_ws (zRX c) (zTX c) (zn c), w ∈ lw_tbl := by
  refine zc_cases ?_ ?_ ?_ ?_ ?_ ?_ ?_ ?_ ?_ ?_ ?_ ?_ ?_ <;> decide +kernel
/-- words that hold on, however warm the tables get -/
def zgw : Cond → Bool
  | .fieldLinkNest _ _ _ _ _ _ => true
  | .methodLinkNest _ _ _ _ => true
  | .castable _ _ => true
  | .arrayOver (.object _) => true
  | w => goodWord w
theorem zgw_warm {w : Cond} (h : zgw w = true) {s U : State} (hW : s.WarmedH U.vm) (hz : va_Nw w s) : va_Nw w U := by
  unfold zgw at h
  split at h
  · exact va_Nw.warmF hW hz
  · exact va_Nw.warmM hW hz
  · exact va_Nw.warmC hW hz
  · exact va_AO.moved hW.alike hz
  · exact word_at hW (good_of_word h) hz
theorem zgw_use {w : Cond} (h : zgw w = true) {s : State} (hz : va_Nw w s) (a : Array Value) : w.before a s = true := by
  unfold zgw at h
  split at h
  · exact va_Nw.use rfl hz
  · exact va_Nw.use rfl hz
  · exact va_Nw.use rfl hz
  · exact hz
  · exact word_at (State.WarmedH.refl s) (good_of_word h) hz
theorem zc_gw : ∀ c, c < 13 → ∀ w ∈ u_ws (zRX c) (zTX c) (zn c), zgw w = true := by
  refine zc_cases ?_ ?_ ?_ ?_ ?_ ?_ ?_ ?_ ?_ ?_ ?_ ?_ ?_ <;> decide +kernel
def zref (t : FieldType) : Bool := match t with | .array _ => true | .object _ => true | _ => false
def zfld (c : Nat) (M : zM) (a k : Nat) : Value := if zref (zty c k) = true then va_rf (zR M (c * 32 + k) a) else .int (zI M (c * 32 + k) a)
def zflds (c : Nat) (M : zM) (a : Nat) : List Value := (List.range (zn c)).map (zfld c M a)
/-- what stands at an address -/
def zE (ids : Nat → ClassId) (M : zM) (a : Nat) : va_E :=
  if zK M a = 14 then .inl (ids 0, zN M a, .inl (zA M a))
  else if zK M a = 15 then .inl (ids 1, zN M a, .inl (zA M a))
  else if zK M a = 16 then .inl (ids 2, zN M a, .inl (zA M a))
  else if zK M a = 17 then .inl (ids 3, zN M a, .inr (.inl (zJ M a)))
  else if zK M a = 18 then .inl (ids 4, zN M a, .inr (.inr (.inr (.inr (zB M a)))))
  else if zK M a = 19 then .inl (ids 5, zN M a, .inr (.inr (.inr (.inr (zB M a)))))
  else .inr (zK M a - 1, zflds (zK M a - 1) M a)
def zTys (ids : Nat → ClassId) : List (ClassId × FieldType) := [(ids 0, .byte), (ids 1, .int), (ids 2, .boolean), (ids 3, .long), (ids 4, .object RX4), (ids 5, .object RX8)]
/-- what is fixed while the law runs: the launch, the classes' numbers, the array classes, how large the heap was at the law's start, where LEVEL_FULL lies, the script, the String constants -/
abbrev zG : Type := Launch × va_G × (Nat → ClassId) × Nat × Nat × (Nat × Nat × (Nat → Int32)) × (Nat → Nat)
def gL (G : zG) : Launch := G.1
def gD (G : zG) : va_G := G.2.1
def gi (G : zG) : Nat → ClassId := G.2.2.1
def gh (G : zG) : Nat := G.2.2.2.1
def gf (G : zG) : Nat := G.2.2.2.2.1
def gb (G : zG) : Nat := G.2.2.2.2.2.1.1
def gn (G : zG) : Nat := G.2.2.2.2.2.1.2.1
def gx (G : zG) : Nat → Int32 := G.2.2.2.2.2.1.2.2
def gs (G : zG) : Nat → Nat := G.2.2.2.2.2.2
def gA (G : zG) : Nat → Prop := fun q => gh G ≤ q
def zlf : Nat → Int32 := fun j => if j = 0 then 10 else 25
/-- the String constants of the throws: class, entry, text -/
def zstr : List (String × Nat × String) := [(RX1, 44, "power failed"), (RX11, 97, "a key takes 0 to 8 bytes at once, 32 in all"), (RX11, 106, "a value takes 0 to 8 bytes at once, 200 in all"), (RX11, 117, "a batch is open"), (RX11, 144, "there are eight snapshots"), (RX11, 152, "no such snapshot"), (RX11, 184, "a byte's place is 0 to 200"), (RX11, 209, "when is 0 to 3, k 0 to 400, b 0 to 300"), (RX11, 236, "what is told is 0 to 7"), (RX11, 264, "it is off"), (RX11, 266, "no batch is open"), (RX11, 270, "the key is empty"), (RX11, 272, "the batch is full"), (RX11, 284, "the map would be larger than 16000"), (RX11, 290, "the disk is full")]
def zW (G : zG) (M : zM) (H : Heap) : Prop := ∃ L : List Nat, (∀ a, a ∈ L ↔ zK M a ≠ 0) ∧ va_P (gD G) vwCl (va_pl L (zE (gi G) M)) H ∧ va_D (gA G) (va_pl L (zE (gi G) M)) ∧ (∀ a i, zK M a = 14 → fits .byte (.int (zA M a i)) = true) ∧ ∀ a, zN M a < 2 ^ 31
/-- what holds of the tables and of the old heap, all the while -/
def zO (G : zG) (U : State) (H : Heap) : Prop :=
  (∀ w ∈ lw_tbl, zgw w = true → va_Nw w U) ∧ va_K (gD G) vwCl (zTys (gi G)) U ∧ va_Z "LsmStore" "LEVEL_FULL" "[I" (.ref (gf G)) (gA G) U H ∧
  va_X (gb G) (gn G) (gx G) U H ∧ va_X (gf G) 2 zlf U H ∧ vx_Zq Bundle.tN "UNASSIGNED_STACK" Bundle.steD (gA G) U H ∧ vx_Zq Bundle.tN "SUPPRESSED_SENTINEL" Bundle.listD (gA G) U H ∧
  (∀ (k : Nat) (q : String × Nat × String), zstr[k]? = some q → vk_R q.1 q.2.1 q.2.2 (gs G k) U) ∧ gh G ≤ H.size ∧ gb G < gh G ∧ gf G < gh G ∧ (gL G).stackTraces = false
theorem zO.moved {G : zG} {u U : State} {H H1 : Heap} (hW : u.WarmedH U.vm) (hq : H.size ≤ H1.size ∧ ∀ q : Nat, q < H.size → ¬ gA G q → H1[q]? = H[q]?) (h : zO G u H) : zO G U H1 := by
  obtain ⟨h1, h2, h3, h4, h5, h6, h7, h8, h9, h10, h11, h12⟩ := h
  have hvm := hW.alike
  refine ⟨fun w hw hg => zgw_warm hg hW (h1 w hw hg), va_K.moved hvm h2, va_Z.moved hvm (h3.kept hq.2), va_X.moved hvm (h4.kept (hq.2 _ (by omega) (Nat.not_le.mpr h10))), va_X.moved hvm (h5.kept (hq.2 _ (by omega) (Nat.not_le.mpr h11))), vx_Zq.moved hvm (h6.kept hq.2), vx_Zq.moved hvm (h7.kept hq.2), fun k q hk => vk_R.warm hW (h8 k q hk), by omega, h10, h11, h12⟩
/-- a method: its name, its code, its locals, what it returns, its table -/
abbrev zD : Type := MethodName × ByteArray × Nat × Option FieldType × List (Nat × Nat × Nat × Nat)
def zBd (G : zG) (md : zD) (p : Program) (s : State) (m : MethodId) (meth : Method) (c : Code) : Prop :=
  p.tables.exec = Jvm.exec ∧ c.code = md.2.1 ∧ meth.sig.returnType = md.2.2.2.1 ∧ meth.locks = false ∧ c.maxLocals = md.2.2.1 ∧ s.vm.findClass md.1.cls = some m.cls ∧ meth.name = md.1.name ∧ c.exceptionTable.toList = tableOf md.2.2.2.2 ∧ zO G s s.heap
def zlv (ls : Array Slot) (n : Nat) (lv : List (Option Value)) : Prop := ls.size = n ∧ lv_wf ls ∧ ∀ (i : Nat) (v : Value), lv[i]? = some (some v) → ls[i]? = some (.val v)
/-- how a method ends: it returns, or throws an exception of a class -/
abbrev zOut : Type := Option Value ⊕ Nat
def zex (k : Nat) : String := match k with | 0 => "java/lang/IllegalStateException" | 1 => "java/lang/IllegalArgumentException" | 2 => "java/lang/ArithmeticException" | _ => "java/util/NoSuchElementException"
def zOk (s : State) (r : zOut) (o : Outcome) (t : State) : Prop := match r with
  | .inl v => o = .returned v
  | .inr k => ∃ (q : Addr) (ce : Cell), o = .threw q ∧ t.heap[q]? = some ce ∧ ce.vm = .none ∧ s.vm.findClass (zex k) = some ce.cls
def zQ (G : zG) (k0 n0 : Nat) (Q : zOut → zM → Prop) (s : State) (o : Outcome) (t : State) : Prop :=
  ∃ (r : zOut) (M' : zM) (Ls : List Loc), zOk s r o t ∧ Q r M' ∧ zW G M' t.heap ∧ k0 ≤ zC M' ∧ n0 ≤ zS M' ∧ s.WarmedH t.vm ∧ s.sameButNew ({ t with vm := s.vm } : State) Ls (zC M' - k0) (zS M' - n0) ∧ ∀ z ∈ Ls, gh G ≤ z.base
def zZ (G : zG) (k0 n0 : Nat) (Q : zOut → zM → Prop) (below : List Frame) (s : State) : State → Prop := fun t => ∃ o, t.status = .running ∧ Ended t below o ∧ zQ G k0 n0 Q s o t
/-- FROM HERE (program counter, locals, operand stack, memory) THE METHOD COMES TO Q -/
def zw (G : zG) (md : zD) (d k0 n0 : Nat) (Q : zOut → zM → Prop) (pc : Nat) (lv : List (Option Value)) (st : List Value) (M : zM) : Prop :=
  ∀ (p : Program) (e : Env) (R : Room) (s : State) (m : MethodId) (args : Array Value) (below : List Frame) (meth : Method) (c : Code) (H : Heap) (locs : List Loc) (ls : Array Slot),
    zBd G md p s m meth c → (d ≤ R.frames ∧ 38 * d ≤ R.locals ∧ 600128 ≤ k0 + R.cells ∧ 7301098 ≤ n0 + R.slots) → (k0 ≤ zC M ∧ n0 ≤ zS M) → zW G M H → va_S (gA G) s.heap H locs → zlv ls md.2.2.1 lv →
    W p (gL G) e R s m args below meth c H locs (zC M - k0) (zS M - n0) (zZ G k0 n0 Q below s) (F0 m pc ls st)
end
section
/-! ===== ROWS of zw: an instruction each ===== -/
section ZR
variable {G : zG} {md : zD} {d k0 n0 : Nat} {Q : zOut → zM → Prop} {pc : Nat} {lv : List (Option Value)} {st : List Value} {M : zM}
theorem zr_iconst {n : Int} {v : Int32} (hd : decode md.2.1 pc = .ok (.iconst n, 1)) (hv : Int32.ofInt n = v) (k : zw G md d k0 n0 Q (pc + 1) lv (.int v :: st) M) : zw G md d k0 n0 Q pc lv (st) M := by
  intro p e R s m args below meth c H locs ls B hr hm hw hS hl
  exact lv_iconst B.1 B.2.1 hd hv (k p e R s m args below meth c H locs ls B hr hm hw hS hl)
theorem zr_bipush {n : Int} {v : Int32} (hd : decode md.2.1 pc = .ok (.bipush n, 2)) (hv : (Int8.ofInt n).toInt32 = v) (k : zw G md d k0 n0 Q (pc + 2) lv (.int v :: st) M) : zw G md d k0 n0 Q pc lv (st) M := by
  intro p e R s m args below meth c H locs ls B hr hm hw hS hl
  exact lv_bipush B.1 B.2.1 hd hv (k p e R s m args below meth c H locs ls B hr hm hw hS hl)
theorem zr_sipush {n : Int} {v : Int32} (hd : decode md.2.1 pc = .ok (.sipush n, 3)) (hv : (Int16.ofInt n).toInt32 = v) (k : zw G md d k0 n0 Q (pc + 3) lv (.int v :: st) M) : zw G md d k0 n0 Q pc lv (st) M := by
  intro p e R s m args below meth c H locs ls B hr hm hw hS hl
  exact lv_sipush B.1 B.2.1 hd hv (k p e R s m args below meth c H locs ls B hr hm hw hS hl)
theorem zr_lconst {n : Fin 2} {v : Int64} (hd : decode md.2.1 pc = .ok (.lconst n, 1)) (hv : Int64.ofNat (n : Nat) = v) (k : zw G md d k0 n0 Q (pc + 1) lv (.long v :: st) M) : zw G md d k0 n0 Q pc lv (st) M := by
  intro p e R s m args below meth c H locs ls B hr hm hw hS hl
  exact lv_lconst B.1 B.2.1 hd hv (k p e R s m args below meth c H locs ls B hr hm hw hS hl)
theorem zr_null (hd : decode md.2.1 pc = .ok (.aconst_null, 1)) (k : zw G md d k0 n0 Q (pc + 1) lv (.null :: st) M) : zw G md d k0 n0 Q pc lv (st) M := by
  intro p e R s m args below meth c H locs ls B hr hm hw hS hl
  exact lv_null B.1 B.2.1 hd (k p e R s m args below meth c H locs ls B hr hm hw hS hl)
theorem zr_iadd {x y : Int32} (hd : decode md.2.1 pc = .ok (.iadd, 1)) (k : zw G md d k0 n0 Q (pc + 1) lv (.int (x + y) :: st) M) : zw G md d k0 n0 Q pc lv (.int y :: .int x :: st) M := by
  intro p e R s m args below meth c H locs ls B hr hm hw hS hl
  exact lv_iadd B.1 B.2.1 hd (k p e R s m args below meth c H locs ls B hr hm hw hS hl)
theorem zr_isub {x y : Int32} (hd : decode md.2.1 pc = .ok (.isub, 1)) (k : zw G md d k0 n0 Q (pc + 1) lv (.int (x - y) :: st) M) : zw G md d k0 n0 Q pc lv (.int y :: .int x :: st) M := by
  intro p e R s m args below meth c H locs ls B hr hm hw hS hl
  exact lv_isub B.1 B.2.1 hd (k p e R s m args below meth c H locs ls B hr hm hw hS hl)
theorem zr_imul {x y : Int32} (hd : decode md.2.1 pc = .ok (.imul, 1)) (k : zw G md d k0 n0 Q (pc + 1) lv (.int (x * y) :: st) M) : zw G md d k0 n0 Q pc lv (.int y :: .int x :: st) M := by
  intro p e R s m args below meth c H locs ls B hr hm hw hS hl
  exact lv_imul B.1 B.2.1 hd (k p e R s m args below meth c H locs ls B hr hm hw hS hl)
theorem zr_iand {x y : Int32} (hd : decode md.2.1 pc = .ok (.iand, 1)) (k : zw G md d k0 n0 Q (pc + 1) lv (.int (x &&& y) :: st) M) : zw G md d k0 n0 Q pc lv (.int y :: .int x :: st) M := by
  intro p e R s m args below meth c H locs ls B hr hm hw hS hl
  exact lv_iand B.1 B.2.1 hd (k p e R s m args below meth c H locs ls B hr hm hw hS hl)
theorem zr_ior {x y : Int32} (hd : decode md.2.1 pc = .ok (.ior, 1)) (k : zw G md d k0 n0 Q (pc + 1) lv (.int (x ||| y) :: st) M) : zw G md d k0 n0 Q pc lv (.int y :: .int x :: st) M := by
  intro p e R s m args below meth c H locs ls B hr hm hw hS hl
  exact lv_ior B.1 B.2.1 hd (k p e R s m args below meth c H locs ls B hr hm hw hS hl)
theorem zr_ixor {x y : Int32} (hd : decode md.2.1 pc = .ok (.ixor, 1)) (k : zw G md d k0 n0 Q (pc + 1) lv (.int (x ^^^ y) :: st) M) : zw G md d k0 n0 Q pc lv (.int y :: .int x :: st) M := by
  intro p e R s m args below meth c H locs ls B hr hm hw hS hl
  exact lv_ixor B.1 B.2.1 hd (k p e R s m args below meth c H locs ls B hr hm hw hS hl)
theorem zr_ishl {x y : Int32} (hd : decode md.2.1 pc = .ok (.ishl, 1)) (k : zw G md d k0 n0 Q (pc + 1) lv (.int (x <<< (y &&& 31)) :: st) M) : zw G md d k0 n0 Q pc lv (.int y :: .int x :: st) M := by
  intro p e R s m args below meth c H locs ls B hr hm hw hS hl
  exact lv_ishl B.1 B.2.1 hd (k p e R s m args below meth c H locs ls B hr hm hw hS hl)
theorem zr_ishr {x y : Int32} (hd : decode md.2.1 pc = .ok (.ishr, 1)) (k : zw G md d k0 n0 Q (pc + 1) lv (.int (x >>> (y &&& 31)) :: st) M) : zw G md d k0 n0 Q pc lv (.int y :: .int x :: st) M := by
  intro p e R s m args below meth c H locs ls B hr hm hw hS hl
  exact lv_ishr B.1 B.2.1 hd (k p e R s m args below meth c H locs ls B hr hm hw hS hl)
theorem zr_iushr {x y : Int32} (hd : decode md.2.1 pc = .ok (.iushr, 1)) (k : zw G md d k0 n0 Q (pc + 1) lv (.int ((x.toUInt32 >>> (y.toUInt32 &&& Int32.toUInt32 31)).toInt32) :: st) M) : zw G md d k0 n0 Q pc lv (.int y :: .int x :: st) M := by
  intro p e R s m args below meth c H locs ls B hr hm hw hS hl
  exact lv_iushr B.1 B.2.1 hd rfl (k p e R s m args below meth c H locs ls B hr hm hw hS hl)
theorem zr_idiv {x y : Int32} (hd : decode md.2.1 pc = .ok (.idiv, 1)) (hne : ¬ y = 0) (k : zw G md d k0 n0 Q (pc + 1) lv (.int (x / y) :: st) M) : zw G md d k0 n0 Q pc lv (.int y :: .int x :: st) M := by
  intro p e R s m args below meth c H locs ls B hr hm hw hS hl
  exact lv_idiv B.1 B.2.1 hd hne (k p e R s m args below meth c H locs ls B hr hm hw hS hl)
theorem zr_irem {x y : Int32} (hd : decode md.2.1 pc = .ok (.irem, 1)) (hne : ¬ y = 0) (k : zw G md d k0 n0 Q (pc + 1) lv (.int (x - x / y * y) :: st) M) : zw G md d k0 n0 Q pc lv (.int y :: .int x :: st) M := by
  intro p e R s m args below meth c H locs ls B hr hm hw hS hl
  exact lv_irem B.1 B.2.1 hd hne (k p e R s m args below meth c H locs ls B hr hm hw hS hl)
theorem zr_ladd {x y : Int64} (hd : decode md.2.1 pc = .ok (.ladd, 1)) (k : zw G md d k0 n0 Q (pc + 1) lv (.long (x + y) :: st) M) : zw G md d k0 n0 Q pc lv (.long y :: .long x :: st) M := by
  intro p e R s m args below meth c H locs ls B hr hm hw hS hl
  exact lv_ladd B.1 B.2.1 hd (k p e R s m args below meth c H locs ls B hr hm hw hS hl)
theorem zr_lmul {x y : Int64} (hd : decode md.2.1 pc = .ok (.lmul, 1)) (k : zw G md d k0 n0 Q (pc + 1) lv (.long (x * y) :: st) M) : zw G md d k0 n0 Q pc lv (.long y :: .long x :: st) M := by
  intro p e R s m args below meth c H locs ls B hr hm hw hS hl
  exact lv_lmul B.1 B.2.1 hd (k p e R s m args below meth c H locs ls B hr hm hw hS hl)
theorem zr_land {x y : Int64} (hd : decode md.2.1 pc = .ok (.land, 1)) (k : zw G md d k0 n0 Q (pc + 1) lv (.long (x &&& y) :: st) M) : zw G md d k0 n0 Q pc lv (.long y :: .long x :: st) M := by
  intro p e R s m args below meth c H locs ls B hr hm hw hS hl
  exact lv_land B.1 B.2.1 hd (k p e R s m args below meth c H locs ls B hr hm hw hS hl)
theorem zr_lor {x y : Int64} (hd : decode md.2.1 pc = .ok (.lor, 1)) (k : zw G md d k0 n0 Q (pc + 1) lv (.long (x ||| y) :: st) M) : zw G md d k0 n0 Q pc lv (.long y :: .long x :: st) M := by
  intro p e R s m args below meth c H locs ls B hr hm hw hS hl
  exact lv_lor B.1 B.2.1 hd (k p e R s m args below meth c H locs ls B hr hm hw hS hl)
theorem zr_lshl {x : Int64} {y : Int32} (hd : decode md.2.1 pc = .ok (.lshl, 1)) (k : zw G md d k0 n0 Q (pc + 1) lv (.long (x <<< (y.toInt64 &&& 63)) :: st) M) : zw G md d k0 n0 Q pc lv (.int y :: .long x :: st) M := by
  intro p e R s m args below meth c H locs ls B hr hm hw hS hl
  exact lv_lshl B.1 B.2.1 hd rfl (k p e R s m args below meth c H locs ls B hr hm hw hS hl)
theorem zr_lshr {x : Int64} {y : Int32} (hd : decode md.2.1 pc = .ok (.lshr, 1)) (k : zw G md d k0 n0 Q (pc + 1) lv (.long (x >>> (y.toInt64 &&& 63)) :: st) M) : zw G md d k0 n0 Q pc lv (.int y :: .long x :: st) M := by
  intro p e R s m args below meth c H locs ls B hr hm hw hS hl
  exact lv_lshr B.1 B.2.1 hd rfl (k p e R s m args below meth c H locs ls B hr hm hw hS hl)
theorem zr_i2l {x : Int32} (hd : decode md.2.1 pc = .ok (.i2l, 1)) (k : zw G md d k0 n0 Q (pc + 1) lv (.long x.toInt64 :: st) M) : zw G md d k0 n0 Q pc lv (.int x :: st) M := by
  intro p e R s m args below meth c H locs ls B hr hm hw hS hl
  exact lv_i2l B.1 B.2.1 hd rfl (k p e R s m args below meth c H locs ls B hr hm hw hS hl)
theorem zr_l2i {x : Int64} (hd : decode md.2.1 pc = .ok (.l2i, 1)) (k : zw G md d k0 n0 Q (pc + 1) lv (.int x.toInt32 :: st) M) : zw G md d k0 n0 Q pc lv (.long x :: st) M := by
  intro p e R s m args below meth c H locs ls B hr hm hw hS hl
  exact lv_l2i B.1 B.2.1 hd rfl (k p e R s m args below meth c H locs ls B hr hm hw hS hl)
theorem zr_i2b {x : Int32} (hd : decode md.2.1 pc = .ok (.i2b, 1)) (k : zw G md d k0 n0 Q (pc + 1) lv (.int x.toInt8.toInt32 :: st) M) : zw G md d k0 n0 Q pc lv (.int x :: st) M := by
  intro p e R s m args below meth c H locs ls B hr hm hw hS hl
  exact lv_i2b B.1 B.2.1 hd rfl (k p e R s m args below meth c H locs ls B hr hm hw hS hl)
theorem zr_lcmp {x y : Int64} (hd : decode md.2.1 pc = .ok (.lcmp, 1)) (k : zw G md d k0 n0 Q (pc + 1) lv (.int (lg_cmp x y) :: st) M) : zw G md d k0 n0 Q pc lv (.long y :: .long x :: st) M := by
  intro p e R s m args below meth c H locs ls B hr hm hw hS hl
  exact W.lcmp B.1 B.2.1 hd (k p e R s m args below meth c H locs ls B hr hm hw hS hl)
theorem zr_dup {a : Value} (hd : decode md.2.1 pc = .ok (.dup, 1)) (ha : a.category = 1) (k : zw G md d k0 n0 Q (pc + 1) lv (a :: a :: st) M) : zw G md d k0 n0 Q pc lv (a :: st) M := by
  intro p e R s m args below meth c H locs ls B hr hm hw hS hl
  exact lv_dup B.1 B.2.1 hd ha (k p e R s m args below meth c H locs ls B hr hm hw hS hl)
theorem zr_pop {a : Value} (hd : decode md.2.1 pc = .ok (.pop, 1)) (ha : a.category = 1) (k : zw G md d k0 n0 Q (pc + 1) lv (st) M) : zw G md d k0 n0 Q pc lv (a :: st) M := by
  intro p e R s m args below meth c H locs ls B hr hm hw hS hl
  exact lv_pop B.1 B.2.1 hd ha (k p e R s m args below meth c H locs ls B hr hm hw hS hl)
theorem zr_dup_x1 {a b : Value} (hd : decode md.2.1 pc = .ok (.dup_x1, 1)) (ha : a.category = 1) (hb : b.category = 1) (k : zw G md d k0 n0 Q (pc + 1) lv (a :: b :: a :: st) M) : zw G md d k0 n0 Q pc lv (a :: b :: st) M := by
  intro p e R s m args below meth c H locs ls B hr hm hw hS hl
  exact lv_dup_x1 B.1 B.2.1 hd ha hb (k p e R s m args below meth c H locs ls B hr hm hw hS hl)
theorem zr_dup2 {a b : Value} (hd : decode md.2.1 pc = .ok (.dup2, 1)) (ha : a.category = 1) (hb : b.category = 1) (k : zw G md d k0 n0 Q (pc + 1) lv (a :: b :: a :: b :: st) M) : zw G md d k0 n0 Q pc lv (a :: b :: st) M := by
  intro p e R s m args below meth c H locs ls B hr hm hw hS hl
  exact lv_dup2_11 B.1 B.2.1 hd ha hb (k p e R s m args below meth c H locs ls B hr hm hw hS hl)
theorem zr_iload_n {i : Fin 4} {x : Int32} (hd : decode md.2.1 pc = .ok (.iload_n i, 1)) (hx : lv[(i : Nat)]? = some (some (.int x))) (k : zw G md d k0 n0 Q (pc + 1) lv (.int x :: st) M) : zw G md d k0 n0 Q pc lv (st) M := by
  intro p e R s m args below meth c H locs ls B hr hm hw hS hl
  exact lv_iload_n B.1 B.2.1 hd rfl (hl.2.2 _ _ hx) (k p e R s m args below meth c H locs ls B hr hm hw hS hl)
theorem zr_iload {i : Nat} {x : Int32} (hd : decode md.2.1 pc = .ok (.iload i, 2)) (hx : lv[i]? = some (some (.int x))) (k : zw G md d k0 n0 Q (pc + 2) lv (.int x :: st) M) : zw G md d k0 n0 Q pc lv (st) M := by
  intro p e R s m args below meth c H locs ls B hr hm hw hS hl
  exact lv_iload B.1 B.2.1 hd (hl.2.2 _ _ hx) (k p e R s m args below meth c H locs ls B hr hm hw hS hl)
theorem zr_lload_n {i : Fin 4} {x : Int64} (hd : decode md.2.1 pc = .ok (.lload_n i, 1)) (hx : lv[(i : Nat)]? = some (some (.long x))) (k : zw G md d k0 n0 Q (pc + 1) lv (.long x :: st) M) : zw G md d k0 n0 Q pc lv (st) M := by
  intro p e R s m args below meth c H locs ls B hr hm hw hS hl
  exact lv_lload_n B.1 B.2.1 hd rfl (hl.2.2 _ _ hx) (k p e R s m args below meth c H locs ls B hr hm hw hS hl)
theorem zr_lload {i : Nat} {x : Int64} (hd : decode md.2.1 pc = .ok (.lload i, 2)) (hx : lv[i]? = some (some (.long x))) (k : zw G md d k0 n0 Q (pc + 2) lv (.long x :: st) M) : zw G md d k0 n0 Q pc lv (st) M := by
  intro p e R s m args below meth c H locs ls B hr hm hw hS hl
  exact lv_lload B.1 B.2.1 hd (hl.2.2 _ _ hx) (k p e R s m args below meth c H locs ls B hr hm hw hS hl)
theorem zr_aload_n {i : Fin 4} {x : Nat} (hd : decode md.2.1 pc = .ok (.aload_n i, 1)) (hx : lv[(i : Nat)]? = some (some (.ref x))) (k : zw G md d k0 n0 Q (pc + 1) lv (.ref x :: st) M) : zw G md d k0 n0 Q pc lv (st) M := by
  intro p e R s m args below meth c H locs ls B hr hm hw hS hl
  exact lv_aload_n B.1 B.2.1 hd rfl (hl.2.2 _ _ hx) (k p e R s m args below meth c H locs ls B hr hm hw hS hl)
theorem zr_aload {i : Nat} {x : Nat} (hd : decode md.2.1 pc = .ok (.aload i, 2)) (hx : lv[i]? = some (some (.ref x))) (k : zw G md d k0 n0 Q (pc + 2) lv (.ref x :: st) M) : zw G md d k0 n0 Q pc lv (st) M := by
  intro p e R s m args below meth c H locs ls B hr hm hw hS hl
  exact lv_aload B.1 B.2.1 hd (hl.2.2 _ _ hx) (k p e R s m args below meth c H locs ls B hr hm hw hS hl)
theorem zr_aload_nN {i : Fin 4} (hd : decode md.2.1 pc = .ok (.aload_n i, 1)) (hx : lv[(i : Nat)]? = some (some .null)) (k : zw G md d k0 n0 Q (pc + 1) lv (.null :: st) M) : zw G md d k0 n0 Q pc lv (st) M := by
  intro p e R s m args below meth c H locs ls B hr hm hw hS hl
  exact lv_aload_nN B.1 B.2.1 hd rfl (hl.2.2 _ _ hx) (k p e R s m args below meth c H locs ls B hr hm hw hS hl)
theorem zr_aloadN {i : Nat} (hd : decode md.2.1 pc = .ok (.aload i, 2)) (hx : lv[i]? = some (some .null)) (k : zw G md d k0 n0 Q (pc + 2) lv (.null :: st) M) : zw G md d k0 n0 Q pc lv (st) M := by
  intro p e R s m args below meth c H locs ls B hr hm hw hS hl
  exact lv_aloadN B.1 B.2.1 hd (hl.2.2 _ _ hx) (k p e R s m args below meth c H locs ls B hr hm hw hS hl)
/-- no long ends where this local begins -/
def zc1 (lv : List (Option Value)) (i : Nat) : Bool := match i with
  | 0 => true
  | j + 1 => match lv[j]? with
    | some (some w) => w.category != 2
    | _ => true
def zas (n : Nat) (lv : List (Option Value)) : List (Nat × Value) := (List.range n).filterMap (fun j => match lv[j]? with | some (some w) => some (j, w) | _ => none)
theorem zas_mem {n : Nat} {lv : List (Option Value)} {j : Nat} {w : Value} : (j, w) ∈ zas n lv ↔ j < n ∧ lv[j]? = some (some w) := by
  unfold zas
  rw [List.mem_filterMap]
  constructor
  · rintro ⟨k, hk, h⟩
    split at h
    · rename_i w' e
      simp only [Option.some.injEq, Prod.mk.injEq] at h
      obtain ⟨rfl, rfl⟩ := h
      exact ⟨List.mem_range.mp hk, e⟩
    · cases h
  · rintro ⟨h1, h2⟩
    exact ⟨j, List.mem_range.mpr h1, by simp [h2]⟩
theorem zlv.has {ls : Array Slot} {n : Nat} {lv : List (Option Value)} (h : zlv ls n lv) : lv_has ls n (zas n lv) := ⟨h.1, h.2.1, fun q hq => h.2.2 q.1 q.2 (zas_mem.mp hq).2⟩
theorem zlv.st1 {ls : Array Slot} {n i : Nat} {v : Value} {lv lv' : List (Option Value)} (hlen : lv.length ≤ n) (hc : zc1 lv i = true) (he : lv.set i (some v) = lv') (h : lv_has ls n ((i, v) :: (zas n lv).filter (fun q => !(q.1 == i) && !(q.1 + 1 == i && q.2.category == 2)))) : zlv ls n lv' := by
  refine ⟨h.1, h.2.1, fun j w hj => ?_⟩
  subst he
  by_cases e : i = j
  · subst e
    by_cases hi : i < lv.length
    · rw [List.getElem?_set_self hi] at hj
      cases hj
      exact h.2.2 (i, v) List.mem_cons_self
    · rw [List.getElem?_eq_none (by rw [List.length_set]; omega)] at hj
      cases hj
  · rw [List.getElem?_set_ne e] at hj
    have hjl : j < lv.length := (List.getElem?_eq_some_iff.mp hj).1
    refine h.2.2 (j, w) (List.mem_cons_of_mem _ (List.mem_filter.mpr ⟨zas_mem.mpr ⟨by omega, hj⟩, ?_⟩))
    simp only [Bool.and_eq_true, Bool.not_eq_true', beq_eq_false_iff_ne, Bool.and_eq_false_iff, ne_eq]
    refine ⟨fun z => e z.symm, ?_⟩
    by_cases e2 : j + 1 = i
    · subst e2
      right
      simp only [zc1, hj, bne_iff_ne, ne_eq] at hc
      exact hc
    · exact Or.inl e2
theorem zlv.st2 {ls : Array Slot} {n i : Nat} {v : Value} {lv lv' : List (Option Value)} (hlen : lv.length ≤ n) (hc : zc1 lv i = true) (he : (lv.set i (some v)).set (i + 1) none = lv') (h : lv_has ls n ((i, v) :: (zas n lv).filter (fun q => !(q.1 == i) && (!(q.1 == i + 1) && !(q.1 + 1 == i && q.2.category == 2))))) : zlv ls n lv' := by
  refine ⟨h.1, h.2.1, fun j w hj => ?_⟩
  subst he
  by_cases e1 : i + 1 = j
  · subst e1
    by_cases hi : i + 1 < lv.length
    · rw [List.getElem?_set_self (by rw [List.length_set]; exact hi)] at hj
      cases hj
    · rw [List.getElem?_eq_none (by rw [List.length_set, List.length_set]; omega)] at hj
      cases hj
  · rw [List.getElem?_set_ne e1] at hj
    by_cases e : i = j
    · subst e
      by_cases hi : i < lv.length
      · rw [List.getElem?_set_self hi] at hj
        cases hj
        exact h.2.2 (i, v) List.mem_cons_self
      · rw [List.getElem?_eq_none (by rw [List.length_set]; omega)] at hj
        cases hj
    · rw [List.getElem?_set_ne e] at hj
      have hjl : j < lv.length := (List.getElem?_eq_some_iff.mp hj).1
      refine h.2.2 (j, w) (List.mem_cons_of_mem _ (List.mem_filter.mpr ⟨zas_mem.mpr ⟨by omega, hj⟩, ?_⟩))
      simp only [Bool.and_eq_true, Bool.not_eq_true', beq_eq_false_iff_ne, Bool.and_eq_false_iff, ne_eq]
      refine ⟨fun z => e z.symm, fun z => e1 z.symm, ?_⟩
      by_cases e2 : j + 1 = i
      · subst e2
        right
        simp only [zc1, hj, bne_iff_ne, ne_eq] at hc
        exact hc
      · exact Or.inl e2
/-- less is known of the locals -/
theorem zr_forget {lv' : List (Option Value)} (hs : ∀ (i : Nat) (v : Value), lv'[i]? = some (some v) → lv[i]? = some (some v)) (k : zw G md d k0 n0 Q pc lv' st M) : zw G md d k0 n0 Q pc lv st M := by
  intro p e R s m args below meth c H locs ls B hr hm hw hS hl
  exact k p e R s m args below meth c H locs ls B hr hm hw hS ⟨hl.1, hl.2.1, fun i v h => hl.2.2 i v (hs i v h)⟩
/-- a local that is known no more -/
theorem zr_drop (i : Nat) {lv' : List (Option Value)} (he : lv.set i none = lv') (k : zw G md d k0 n0 Q pc lv' st M) : zw G md d k0 n0 Q pc lv st M := by
  refine zr_forget (fun j v h => ?_) k
  subst he
  by_cases e : i = j
  · subst e
    by_cases hi : i < lv.length
    · rw [List.getElem?_set_self hi] at h
      cases h
    · rw [List.getElem?_eq_none (by rw [List.length_set]; omega)] at h
      cases h
  · rw [List.getElem?_set_ne e] at h
    exact h
theorem zr_istore_n {i : Fin 4} {x : Int32} {lv' : List (Option Value)} (hd : decode md.2.1 pc = .ok (.istore_n i, 1)) (hlen : lv.length ≤ md.2.2.1) (hn : (i : Nat) < md.2.2.1) (hc : zc1 lv (i : Nat) = true) (he : lv.set (i : Nat) (some (.int x)) = lv') (k : zw G md d k0 n0 Q (pc + 1) lv' st M) : zw G md d k0 n0 Q pc lv (.int x :: st) M := by
  intro p e R s m args below meth c H locs ls B hr hm hw hS hl
  exact lv_istore_n B.1 B.2.1 hd rfl hl.has hn rfl (fun ls' h' => k p e R s m args below meth c H locs ls' B hr hm hw hS (zlv.st1 hlen hc he h'))
theorem zr_istore {i : Nat} {x : Int32} {lv' : List (Option Value)} (hd : decode md.2.1 pc = .ok (.istore i, 2)) (hlen : lv.length ≤ md.2.2.1) (hn : i < md.2.2.1) (hc : zc1 lv i = true) (he : lv.set i (some (.int x)) = lv') (k : zw G md d k0 n0 Q (pc + 2) lv' st M) : zw G md d k0 n0 Q pc lv (.int x :: st) M := by
  intro p e R s m args below meth c H locs ls B hr hm hw hS hl
  exact lv_istore B.1 B.2.1 hd hl.has hn rfl (fun ls' h' => k p e R s m args below meth c H locs ls' B hr hm hw hS (zlv.st1 hlen hc he h'))
theorem zr_lstore_n {i : Fin 4} {x : Int64} {lv' : List (Option Value)} (hd : decode md.2.1 pc = .ok (.lstore_n i, 1)) (hlen : lv.length ≤ md.2.2.1) (hn : (i : Nat) + 1 < md.2.2.1) (hc : zc1 lv (i : Nat) = true) (he : (lv.set (i : Nat) (some (.long x))).set ((i : Nat) + 1) none = lv') (k : zw G md d k0 n0 Q (pc + 1) lv' st M) : zw G md d k0 n0 Q pc lv (.long x :: st) M := by
  intro p e R s m args below meth c H locs ls B hr hm hw hS hl
  exact lv_lstore_n B.1 B.2.1 hd rfl hl.has hn rfl (fun ls' h' => k p e R s m args below meth c H locs ls' B hr hm hw hS (zlv.st2 hlen hc he h'))
theorem zr_lstore {i : Nat} {x : Int64} {lv' : List (Option Value)} (hd : decode md.2.1 pc = .ok (.lstore i, 2)) (hlen : lv.length ≤ md.2.2.1) (hn : i + 1 < md.2.2.1) (hc : zc1 lv i = true) (he : (lv.set i (some (.long x))).set (i + 1) none = lv') (k : zw G md d k0 n0 Q (pc + 2) lv' st M) : zw G md d k0 n0 Q pc lv (.long x :: st) M := by
  intro p e R s m args below meth c H locs ls B hr hm hw hS hl
  exact lv_lstore B.1 B.2.1 hd hl.has hn rfl (fun ls' h' => k p e R s m args below meth c H locs ls' B hr hm hw hS (zlv.st2 hlen hc he h'))
theorem zr_astore_n {i : Fin 4} {x : Nat} {lv' : List (Option Value)} (hd : decode md.2.1 pc = .ok (.astore_n i, 1)) (hlen : lv.length ≤ md.2.2.1) (hn : (i : Nat) < md.2.2.1) (hc : zc1 lv (i : Nat) = true) (he : lv.set (i : Nat) (some (.ref x)) = lv') (k : zw G md d k0 n0 Q (pc + 1) lv' st M) : zw G md d k0 n0 Q pc lv (.ref x :: st) M := by
  intro p e R s m args below meth c H locs ls B hr hm hw hS hl
  exact lv_astore_n B.1 B.2.1 hd rfl hl.has hn rfl (fun ls' h' => k p e R s m args below meth c H locs ls' B hr hm hw hS (zlv.st1 hlen hc he h'))
theorem zr_astore {i : Nat} {x : Nat} {lv' : List (Option Value)} (hd : decode md.2.1 pc = .ok (.astore i, 2)) (hlen : lv.length ≤ md.2.2.1) (hn : i < md.2.2.1) (hc : zc1 lv i = true) (he : lv.set i (some (.ref x)) = lv') (k : zw G md d k0 n0 Q (pc + 2) lv' st M) : zw G md d k0 n0 Q pc lv (.ref x :: st) M := by
  intro p e R s m args below meth c H locs ls B hr hm hw hS hl
  exact lv_astore B.1 B.2.1 hd hl.has hn rfl (fun ls' h' => k p e R s m args below meth c H locs ls' B hr hm hw hS (zlv.st1 hlen hc he h'))
theorem zr_astore_nN {i : Fin 4} {lv' : List (Option Value)} (hd : decode md.2.1 pc = .ok (.astore_n i, 1)) (hlen : lv.length ≤ md.2.2.1) (hn : (i : Nat) < md.2.2.1) (hc : zc1 lv (i : Nat) = true) (he : lv.set (i : Nat) (some (.null)) = lv') (k : zw G md d k0 n0 Q (pc + 1) lv' st M) : zw G md d k0 n0 Q pc lv (.null :: st) M := by
  intro p e R s m args below meth c H locs ls B hr hm hw hS hl
  exact lv_astore_nN B.1 B.2.1 hd rfl hl.has hn rfl (fun ls' h' => k p e R s m args below meth c H locs ls' B hr hm hw hS (zlv.st1 hlen hc he h'))
theorem zr_astoreN {i : Nat} {lv' : List (Option Value)} (hd : decode md.2.1 pc = .ok (.astore i, 2)) (hlen : lv.length ≤ md.2.2.1) (hn : i < md.2.2.1) (hc : zc1 lv i = true) (he : lv.set i (some (.null)) = lv') (k : zw G md d k0 n0 Q (pc + 2) lv' st M) : zw G md d k0 n0 Q pc lv (.null :: st) M := by
  intro p e R s m args below meth c H locs ls B hr hm hw hS hl
  exact lv_astoreN B.1 B.2.1 hd hl.has hn rfl (fun ls' h' => k p e R s m args below meth c H locs ls' B hr hm hw hS (zlv.st1 hlen hc he h'))
theorem zr_iinc {i : Nat} {n : Int} {x w : Int32} {lv' : List (Option Value)} (hd : decode md.2.1 pc = .ok (.iinc i n, 3)) (hlen : lv.length ≤ md.2.2.1) (hn : i < md.2.2.1) (hc : zc1 lv i = true) (hx : lv[i]? = some (some (.int x))) (hv : x + Int32.ofInt n = w) (he : lv.set i (some (.int w)) = lv') (k : zw G md d k0 n0 Q (pc + 3) lv' st M) : zw G md d k0 n0 Q pc lv st M := by
  intro p e R s m args below meth c H locs ls B hr hm hw hS hl
  obtain ⟨j, hj⟩ := List.getElem?_of_mem (zas_mem.mpr ⟨hn, hx⟩)
  exact lv_iinc B.1 B.2.1 hd hl.has hj hv hn rfl (fun ls' h' => k p e R s m args below meth c H locs ls' B hr hm hw hS (zlv.st1 hlen hc he h'))
theorem zr_iincW {i : Nat} {n : Int} {x w : Int32} {lv' : List (Option Value)} (hd : decode md.2.1 pc = .ok (.iinc i n, 6)) (hlen : lv.length ≤ md.2.2.1) (hn : i < md.2.2.1) (hc : zc1 lv i = true) (hx : lv[i]? = some (some (.int x))) (hv : x + Int32.ofInt n = w) (he : lv.set i (some (.int w)) = lv') (k : zw G md d k0 n0 Q (pc + 6) lv' st M) : zw G md d k0 n0 Q pc lv st M := by
  intro p e R s m args below meth c H locs ls B hr hm hw hS hl
  obtain ⟨j, hj⟩ := List.getElem?_of_mem (zas_mem.mpr ⟨hn, hx⟩)
  exact lv_iincW B.1 B.2.1 hd hl.has hj hv hn rfl (fun ls' h' => k p e R s m args below meth c H locs ls' B hr hm hw hS (zlv.st1 hlen hc he h'))
theorem zr_if_eq {x : Int32} {off : Int} (tgt : Nat) (hd : decode md.2.1 pc = .ok (.ifCond .eq off, 3)) (ht : (pc : Int) + off = (tgt : Int)) (k1 : x = 0 → zw G md d k0 n0 Q tgt lv st M) (k2 : ¬ x = 0 → zw G md d k0 n0 Q (pc + 3) lv st M) : zw G md d k0 n0 Q pc lv (.int x :: st) M := by
  intro p e R s m args below meth c H locs ls B hr hm hw hS hl
  exact lv_if_eq B.1 B.2.1 hd ht (fun q => k1 q p e R s m args below meth c H locs ls B hr hm hw hS hl) (fun q => k2 q p e R s m args below meth c H locs ls B hr hm hw hS hl)
theorem zr_icmp_eq {x y : Int32} {off : Int} (tgt : Nat) (hd : decode md.2.1 pc = .ok (.if_icmp .eq off, 3)) (ht : (pc : Int) + off = (tgt : Int)) (k1 : x = y → zw G md d k0 n0 Q tgt lv st M) (k2 : ¬ x = y → zw G md d k0 n0 Q (pc + 3) lv st M) : zw G md d k0 n0 Q pc lv (.int y :: .int x :: st) M := by
  intro p e R s m args below meth c H locs ls B hr hm hw hS hl
  exact lv_icmp_eq B.1 B.2.1 hd ht (fun q => k1 q p e R s m args below meth c H locs ls B hr hm hw hS hl) (fun q => k2 q p e R s m args below meth c H locs ls B hr hm hw hS hl)
theorem zr_if_ne {x : Int32} {off : Int} (tgt : Nat) (hd : decode md.2.1 pc = .ok (.ifCond .ne off, 3)) (ht : (pc : Int) + off = (tgt : Int)) (k1 : ¬ x = 0 → zw G md d k0 n0 Q tgt lv st M) (k2 : x = 0 → zw G md d k0 n0 Q (pc + 3) lv st M) : zw G md d k0 n0 Q pc lv (.int x :: st) M := by
  intro p e R s m args below meth c H locs ls B hr hm hw hS hl
  exact lv_if_ne B.1 B.2.1 hd ht (fun q => k1 q p e R s m args below meth c H locs ls B hr hm hw hS hl) (fun q => k2 q p e R s m args below meth c H locs ls B hr hm hw hS hl)
theorem zr_icmp_ne {x y : Int32} {off : Int} (tgt : Nat) (hd : decode md.2.1 pc = .ok (.if_icmp .ne off, 3)) (ht : (pc : Int) + off = (tgt : Int)) (k1 : ¬ x = y → zw G md d k0 n0 Q tgt lv st M) (k2 : x = y → zw G md d k0 n0 Q (pc + 3) lv st M) : zw G md d k0 n0 Q pc lv (.int y :: .int x :: st) M := by
  intro p e R s m args below meth c H locs ls B hr hm hw hS hl
  exact lv_icmp_ne B.1 B.2.1 hd ht (fun q => k1 q p e R s m args below meth c H locs ls B hr hm hw hS hl) (fun q => k2 q p e R s m args below meth c H locs ls B hr hm hw hS hl)
theorem zr_if_lt {x : Int32} {off : Int} (tgt : Nat) (hd : decode md.2.1 pc = .ok (.ifCond .lt off, 3)) (ht : (pc : Int) + off = (tgt : Int)) (k1 : x < 0 → zw G md d k0 n0 Q tgt lv st M) (k2 : ¬ x < 0 → zw G md d k0 n0 Q (pc + 3) lv st M) : zw G md d k0 n0 Q pc lv (.int x :: st) M := by
  intro p e R s m args below meth c H locs ls B hr hm hw hS hl
  exact lv_if_lt B.1 B.2.1 hd ht (fun q => k1 q p e R s m args below meth c H locs ls B hr hm hw hS hl) (fun q => k2 q p e R s m args below meth c H locs ls B hr hm hw hS hl)
theorem zr_icmp_lt {x y : Int32} {off : Int} (tgt : Nat) (hd : decode md.2.1 pc = .ok (.if_icmp .lt off, 3)) (ht : (pc : Int) + off = (tgt : Int)) (k1 : x < y → zw G md d k0 n0 Q tgt lv st M) (k2 : ¬ x < y → zw G md d k0 n0 Q (pc + 3) lv st M) : zw G md d k0 n0 Q pc lv (.int y :: .int x :: st) M := by
  intro p e R s m args below meth c H locs ls B hr hm hw hS hl
  exact lv_icmp_lt B.1 B.2.1 hd ht (fun q => k1 q p e R s m args below meth c H locs ls B hr hm hw hS hl) (fun q => k2 q p e R s m args below meth c H locs ls B hr hm hw hS hl)
theorem zr_if_ge {x : Int32} {off : Int} (tgt : Nat) (hd : decode md.2.1 pc = .ok (.ifCond .ge off, 3)) (ht : (pc : Int) + off = (tgt : Int)) (k1 : 0 ≤ x → zw G md d k0 n0 Q tgt lv st M) (k2 : ¬ 0 ≤ x → zw G md d k0 n0 Q (pc + 3) lv st M) : zw G md d k0 n0 Q pc lv (.int x :: st) M := by
  intro p e R s m args below meth c H locs ls B hr hm hw hS hl
  exact lv_if_ge B.1 B.2.1 hd ht (fun q => k1 q p e R s m args below meth c H locs ls B hr hm hw hS hl) (fun q => k2 q p e R s m args below meth c H locs ls B hr hm hw hS hl)
theorem zr_icmp_ge {x y : Int32} {off : Int} (tgt : Nat) (hd : decode md.2.1 pc = .ok (.if_icmp .ge off, 3)) (ht : (pc : Int) + off = (tgt : Int)) (k1 : y ≤ x → zw G md d k0 n0 Q tgt lv st M) (k2 : ¬ y ≤ x → zw G md d k0 n0 Q (pc + 3) lv st M) : zw G md d k0 n0 Q pc lv (.int y :: .int x :: st) M := by
  intro p e R s m args below meth c H locs ls B hr hm hw hS hl
  exact lv_icmp_ge B.1 B.2.1 hd ht (fun q => k1 q p e R s m args below meth c H locs ls B hr hm hw hS hl) (fun q => k2 q p e R s m args below meth c H locs ls B hr hm hw hS hl)
theorem zr_if_gt {x : Int32} {off : Int} (tgt : Nat) (hd : decode md.2.1 pc = .ok (.ifCond .gt off, 3)) (ht : (pc : Int) + off = (tgt : Int)) (k1 : 0 < x → zw G md d k0 n0 Q tgt lv st M) (k2 : ¬ 0 < x → zw G md d k0 n0 Q (pc + 3) lv st M) : zw G md d k0 n0 Q pc lv (.int x :: st) M := by
  intro p e R s m args below meth c H locs ls B hr hm hw hS hl
  exact lv_if_gt B.1 B.2.1 hd ht (fun q => k1 q p e R s m args below meth c H locs ls B hr hm hw hS hl) (fun q => k2 q p e R s m args below meth c H locs ls B hr hm hw hS hl)
theorem zr_icmp_gt {x y : Int32} {off : Int} (tgt : Nat) (hd : decode md.2.1 pc = .ok (.if_icmp .gt off, 3)) (ht : (pc : Int) + off = (tgt : Int)) (k1 : y < x → zw G md d k0 n0 Q tgt lv st M) (k2 : ¬ y < x → zw G md d k0 n0 Q (pc + 3) lv st M) : zw G md d k0 n0 Q pc lv (.int y :: .int x :: st) M := by
  intro p e R s m args below meth c H locs ls B hr hm hw hS hl
  exact lv_icmp_gt B.1 B.2.1 hd ht (fun q => k1 q p e R s m args below meth c H locs ls B hr hm hw hS hl) (fun q => k2 q p e R s m args below meth c H locs ls B hr hm hw hS hl)
theorem zr_if_le {x : Int32} {off : Int} (tgt : Nat) (hd : decode md.2.1 pc = .ok (.ifCond .le off, 3)) (ht : (pc : Int) + off = (tgt : Int)) (k1 : x ≤ 0 → zw G md d k0 n0 Q tgt lv st M) (k2 : ¬ x ≤ 0 → zw G md d k0 n0 Q (pc + 3) lv st M) : zw G md d k0 n0 Q pc lv (.int x :: st) M := by
  intro p e R s m args below meth c H locs ls B hr hm hw hS hl
  exact lv_if_le B.1 B.2.1 hd ht (fun q => k1 q p e R s m args below meth c H locs ls B hr hm hw hS hl) (fun q => k2 q p e R s m args below meth c H locs ls B hr hm hw hS hl)
theorem zr_icmp_le {x y : Int32} {off : Int} (tgt : Nat) (hd : decode md.2.1 pc = .ok (.if_icmp .le off, 3)) (ht : (pc : Int) + off = (tgt : Int)) (k1 : x ≤ y → zw G md d k0 n0 Q tgt lv st M) (k2 : ¬ x ≤ y → zw G md d k0 n0 Q (pc + 3) lv st M) : zw G md d k0 n0 Q pc lv (.int y :: .int x :: st) M := by
  intro p e R s m args below meth c H locs ls B hr hm hw hS hl
  exact lv_icmp_le B.1 B.2.1 hd ht (fun q => k1 q p e R s m args below meth c H locs ls B hr hm hw hS hl) (fun q => k2 q p e R s m args below meth c H locs ls B hr hm hw hS hl)
theorem zr_goto {off : Int} (tgt : Nat) (hd : decode md.2.1 pc = .ok (.goto off, 3)) (ht : (pc : Int) + off = (tgt : Int)) (k : zw G md d k0 n0 Q tgt lv st M) : zw G md d k0 n0 Q pc lv st M := by
  intro p e R s m args below meth c H locs ls B hr hm hw hS hl
  exact lv_goto B.1 B.2.1 hd ht (k p e R s m args below meth c H locs ls B hr hm hw hS hl)
theorem zr_ifnull {x : Nat} {off : Int} (hd : decode md.2.1 pc = .ok (.ifnull off, 3)) (k : zw G md d k0 n0 Q (pc + 3) lv st M) : zw G md d k0 n0 Q pc lv (.ref x :: st) M := by
  intro p e R s m args below meth c H locs ls B hr hm hw hS hl
  exact lv_ifnull B.1 B.2.1 hd (k p e R s m args below meth c H locs ls B hr hm hw hS hl)
theorem zr_ifnullN {off : Int} (tgt : Nat) (hd : decode md.2.1 pc = .ok (.ifnull off, 3)) (ht : (pc : Int) + off = (tgt : Int)) (k : zw G md d k0 n0 Q tgt lv st M) : zw G md d k0 n0 Q pc lv (.null :: st) M := by
  intro p e R s m args below meth c H locs ls B hr hm hw hS hl
  exact lv_ifnullN B.1 B.2.1 hd ht (k p e R s m args below meth c H locs ls B hr hm hw hS hl)
theorem zr_ifnonnull {x : Nat} {off : Int} (tgt : Nat) (hd : decode md.2.1 pc = .ok (.ifnonnull off, 3)) (ht : (pc : Int) + off = (tgt : Int)) (k : zw G md d k0 n0 Q tgt lv st M) : zw G md d k0 n0 Q pc lv (.ref x :: st) M := by
  intro p e R s m args below meth c H locs ls B hr hm hw hS hl
  exact lv_ifnonnull B.1 B.2.1 hd ht (k p e R s m args below meth c H locs ls B hr hm hw hS hl)
theorem zr_ifnonnullN {off : Int} (hd : decode md.2.1 pc = .ok (.ifnonnull off, 3)) (k : zw G md d k0 n0 Q (pc + 3) lv st M) : zw G md d k0 n0 Q pc lv (.null :: st) M := by
  intro p e R s m args below meth c H locs ls B hr hm hw hS hl
  exact lv_ifnonnullN B.1 B.2.1 hd (k p e R s m args below meth c H locs ls B hr hm hw hS hl)
theorem zr_switchOut {dflt lo hi : Int} {offs : Array Int} {len : Nat} {x : Int32} (tgt : Nat) (hd : decode md.2.1 pc = .ok (.tableswitch dflt lo hi offs, len)) (h : x.toInt < lo ∨ hi < x.toInt) (ht : (pc : Int) + dflt = (tgt : Int)) (k : zw G md d k0 n0 Q tgt lv st M) : zw G md d k0 n0 Q pc lv (.int x :: st) M := by
  intro p e R s m args below meth c H locs ls B hr hm hw hS hl
  exact lv_tableOut B.1 B.2.1 hd h ht (k p e R s m args below meth c H locs ls B hr hm hw hS hl)
theorem zr_switchIn {dflt lo hi : Int} {offs : Array Int} {len : Nat} {x : Int32} {off : Int} (tgt : Nat) (hd : decode md.2.1 pc = .ok (.tableswitch dflt lo hi offs, len)) (h1 : ¬ x.toInt < lo) (h2 : ¬ hi < x.toInt) (ho : offs[(x.toInt - lo).toNat]? = some off) (ht : (pc : Int) + off = (tgt : Int)) (k : zw G md d k0 n0 Q tgt lv st M) : zw G md d k0 n0 Q pc lv (.int x :: st) M := by
  intro p e R s m args below meth c H locs ls B hr hm hw hS hl
  exact lv_tableIn B.1 B.2.1 hd h1 h2 ho ht (k p e R s m args below meth c H locs ls B hr hm hw hS hl)
theorem zr_ldc {idx : Nat} {v : Int32} (hd : decode md.2.1 pc = .ok (.ldc idx, 2)) (hw : Cond.constant md.1.cls idx v ∈ lw_tbl) (k : zw G md d k0 n0 Q (pc + 2) lv (.int v :: st) M) : zw G md d k0 n0 Q pc lv st M := by
  intro p e R s m args below meth c H locs ls B hr hm hw0 hS hl
  exact lv_ldc B.1 B.2.1 B.2.2.2.2.2.1 (zgw_use rfl (B.2.2.2.2.2.2.2.2.1 _ hw rfl) _) hd (k p e R s m args below meth c H locs ls B hr hm hw0 hS hl)
theorem zr_ldcw {idx : Nat} {v : Int32} (hd : decode md.2.1 pc = .ok (.ldc_w idx, 3)) (hw : Cond.constant md.1.cls idx v ∈ lw_tbl) (k : zw G md d k0 n0 Q (pc + 3) lv (.int v :: st) M) : zw G md d k0 n0 Q pc lv st M := by
  intro p e R s m args below meth c H locs ls B hr hm hw0 hS hl
  exact lv_ldcw B.1 B.2.1 B.2.2.2.2.2.1 (zgw_use rfl (B.2.2.2.2.2.2.2.2.1 _ hw rfl) _) hd (k p e R s m args below meth c H locs ls B hr hm hw0 hS hl)
theorem zr_ldc2 {idx : Nat} {v : Int64} (hd : decode md.2.1 pc = .ok (.ldc2_w idx, 3)) (hw : Cond.constantLong md.1.cls idx v ∈ lw_tbl) (k : zw G md d k0 n0 Q (pc + 3) lv (.long v :: st) M) : zw G md d k0 n0 Q pc lv st M := by
  intro p e R s m args below meth c H locs ls B hr hm hw0 hS hl
  exact lv_ldc2 B.1 B.2.1 B.2.2.2.2.2.1 (zgw_use rfl (B.2.2.2.2.2.2.2.2.1 _ hw rfl) _) hd (k p e R s m args below meth c H locs ls B hr hm hw0 hS hl)
end ZR
end
section
/-! ===== ROWS of zw that touch the heap ===== -/
theorem zE_obj {ids : Nat → ClassId} {M : zM} {a c : Nat} (h : zK M a = c + 1) (hc : c < 13) : zE ids M a = .inr (c, zflds c M a) := by
  unfold zE
  rw [if_neg (by omega), if_neg (by omega), if_neg (by omega), if_neg (by omega), if_neg (by omega), if_neg (by omega), h, Nat.add_sub_cancel]
theorem zE_B {ids : Nat → ClassId} {M : zM} {a : Nat} (h : zK M a = 14) : zE ids M a = .inl (ids 0, zN M a, .inl (zA M a)) := by simp [zE, h]
theorem zE_I {ids : Nat → ClassId} {M : zM} {a : Nat} (h : zK M a = 15) : zE ids M a = .inl (ids 1, zN M a, .inl (zA M a)) := by simp [zE, h]
theorem zE_Z {ids : Nat → ClassId} {M : zM} {a : Nat} (h : zK M a = 16) : zE ids M a = .inl (ids 2, zN M a, .inl (zA M a)) := by simp [zE, h]
theorem zE_J {ids : Nat → ClassId} {M : zM} {a : Nat} (h : zK M a = 17) : zE ids M a = .inl (ids 3, zN M a, .inr (.inl (zJ M a))) := by simp [zE, h]
theorem zE_V {ids : Nat → ClassId} {M : zM} {a : Nat} (h : zK M a = 18) : zE ids M a = .inl (ids 4, zN M a, .inr (.inr (.inr (.inr (zB M a))))) := by simp [zE, h]
theorem zE_T {ids : Nat → ClassId} {M : zM} {a : Nat} (h : zK M a = 19) : zE ids M a = .inl (ids 5, zN M a, .inr (.inr (.inr (.inr (zB M a))))) := by simp [zE, h]
theorem zE_congr {ids : Nat → ClassId} {M M' : zM} {b : Nat} (hK : zK M' b = zK M b) (hN : zN M' b = zN M b) (hA : zA M' b = zA M b) (hB : zB M' b = zB M b) (hJ : zJ M' b = zJ M b) (hI : ∀ x, zI M' x b = zI M x b) (hR : ∀ x, zR M' x b = zR M x b) : zE ids M' b = zE ids M b := by
  have hf : ∀ c, zflds c M' b = zflds c M b := fun c => by
    unfold zflds
    refine List.map_congr_left (fun j _ => ?_)
    unfold zfld
    rw [hI, hR]
  unfold zE
  rw [hK, hN, hA, hB, hJ, hf]
theorem zat {L : List Nat} {f : Nat → va_E} {a : Nat} (h : a ∈ L) : ∃ q : Nat, (va_pl L f)[q]? = some (a, f a) := by
  obtain ⟨q, hq⟩ := va_pl_get (X := []) (f := f) h
  exact ⟨q, hq⟩
theorem zset {A : Nat → Prop} {L : List Nat} {f : Nat → va_E} {a q : Nat} {e : va_E} (hD : va_D A (va_pl L f)) (h : a ∈ L) (hq : (va_pl L f)[q]? = some (a, f a)) : (va_pl L f).set q (a, e) = va_pl L (va_up f a e) := va_pl_set (X := []) hD h hq
theorem zup {ids : Nat → ClassId} {M M' : zM} {a : Nat} {e : va_E} (hE : zE ids M' a = e) (hO : ∀ b, b ≠ a → zE ids M' b = zE ids M b) (L : List Nat) : va_pl L (va_up (zE ids M) a e) = va_pl L (zE ids M') := va_pl_congr fun b => by
  by_cases hb : b = a
  · subst hb
    rw [va_up_self, hE]
  · rw [va_up_ne _ _ hb, hO b hb]
/-- a field's link -/
def zlk (own : String) (idx c k : Nat) : Prop := Cond.fieldLink own idx (zRX c) (zTX c k).2.1 (zTX c k).2.2.1 ∈ lw_tbl ∨ Cond.fieldLinkNest own idx (zRX c) (zTX c k).2.1 (zTX c k).2.2.1 "LsmStore" ∈ lw_tbl
theorem zflds_at {c : Nat} {M : zM} {a k : Nat} (hk : k < zn c) : (zflds c M a)[k]? = some (zfld c M a k) := by
  unfold zflds
  rw [List.getElem?_map, List.getElem?_range hk]
  rfl
theorem zflds_len (c : Nat) (M : zM) (a : Nat) : (zflds c M a).length = zn c := by simp [zflds]
theorem zn_lt : ∀ c, c < 13 → zn c ≤ 32 := by
  refine zc_cases ?_ ?_ ?_ ?_ ?_ ?_ ?_ ?_ ?_ ?_ ?_ ?_ ?_ <;> decide
section ZH
variable {G : zG} {md : zD} {d k0 n0 : Nat} {Q : zOut → zM → Prop} {pc : Nat} {lv : List (Option Value)} {st : List Value} {M : zM}
theorem zr_get {idx c k a : Nat} {v : Value} (hd : decode md.2.1 pc = .ok (.getfield idx, 3)) (hlk : zlk md.1.cls idx c k) (hc : c < 13) (hk : k < zn c) (hK : zK M a = c + 1) (hv : zfld c M a k = v)
    (kk : zw G md d k0 n0 Q (pc + 3) lv (v :: st) M) : zw G md d k0 n0 Q pc lv (.ref a :: st) M := by
  intro p e R s m args below meth c9 H locs ls B hr hm hw hS hl
  have kk' := kk p e R s m args below meth c9 H locs ls B hr hm hw hS hl
  obtain ⟨L, hL, hP, hD, hF, hN⟩ := hw
  obtain ⟨q, hq⟩ := zat (f := zE (gi G) M) ((hL a).mpr (by omega))
  rw [zE_obj hK hc] at hq
  have hO := B.2.2.2.2.2.2.2.2
  have hts : ∀ w ∈ u_ws (zRX c) (zTX c) (zn c), w.before args s = true := fun w h => zgw_use (zc_gw c hc w h) (hO.1 w (zc_in c hc w h) (zc_gw c hc w h)) args
  have hsame : ∀ x, s.fieldFound? (zTX c k).1 (zTX c k).2.1 (zTX c k).2.2.1 = some x → s.fieldFound? (zRX c) (zTX c k).2.1 (zTX c k).2.2.1 = some x := fun x h => by rw [zc_own c hc k hk] at h; exact h
  rcases hlk with h | h
  · exact va_get B.1 B.2.1 hts (fun _ h => h) B.2.2.2.2.2.1 hO.2.1 hP q hq (zc_cl c hc) k hk (zgw_use rfl (hO.1 _ h rfl) args) hsame (by rw [zflds_at hk, hv]) hd kk'
  · exact va_getN B.1 B.2.1 hts (fun _ h => h) B.2.2.2.2.2.1 hO.2.1 hP q hq (zc_cl c hc) k hk (zgw_use rfl (hO.1 _ h rfl) args) hsame (by rw [zflds_at hk, hv]) hd kk'
theorem zr_getI {idx c k a : Nat} (hd : decode md.2.1 pc = .ok (.getfield idx, 3)) (hlk : zlk md.1.cls idx c k) (hc : c < 13) (hk : k < zn c) (ht : zref (zty c k) = false) (hK : zK M a = c + 1)
    (kk : zw G md d k0 n0 Q (pc + 3) lv (.int (zI M (c * 32 + k) a) :: st) M) : zw G md d k0 n0 Q pc lv (.ref a :: st) M :=
  zr_get hd hlk hc hk hK (by unfold zfld; rw [if_neg (by rw [ht]; decide)]) kk
theorem zr_getR {idx c k a b : Nat} (hd : decode md.2.1 pc = .ok (.getfield idx, 3)) (hlk : zlk md.1.cls idx c k) (hc : c < 13) (hk : k < zn c) (ht : zref (zty c k) = true) (hK : zK M a = c + 1) (hb : zR M (c * 32 + k) a = some b)
    (kk : zw G md d k0 n0 Q (pc + 3) lv (.ref b :: st) M) : zw G md d k0 n0 Q pc lv (.ref a :: st) M :=
  zr_get hd hlk hc hk hK (by unfold zfld; rw [if_pos ht, hb]; rfl) kk
theorem zflds_set {c : Nat} {M M' : zM} {a k : Nat} {v : Value} (hk : k < zn c) (h1 : zfld c M' a k = v) (h2 : ∀ j, j < zn c → j ≠ k → zfld c M' a j = zfld c M a j) : (zflds c M a).set k v = zflds c M' a := by
  apply List.ext_getElem?
  intro j
  by_cases hj : j < zn c
  · rw [zflds_at hj]
    by_cases e : k = j
    · subst e
      rw [List.getElem?_set_self (by rw [zflds_len]; exact hk), h1]
    · rw [List.getElem?_set_ne e, zflds_at hj, h2 j hj (fun z => e z.symm)]
  · rw [List.getElem?_eq_none (by rw [List.length_set, zflds_len]; omega), List.getElem?_eq_none (by rw [zflds_len]; omega)]
theorem zr_putV {M' : zM} {idx c k a : Nat} {v : Value} (hd : decode md.2.1 pc = .ok (.putfield idx, 3)) (hlk : zlk md.1.cls idx c k) (hc : c < 13) (hk : k < zn c) (hK : zK M a = c + 1)
    (hfin : (zTX c k).2.2.2 = false ∨ (md.1.name = "<init>" ∧ zRX c = md.1.cls ∧ Cond.fieldLink md.1.cls idx (zRX c) (zTX c k).2.1 (zTX c k).2.2.1 ∈ lw_tbl)) (hn : narrow (zty c k) v = v) (hf : fits (zty c k) v = true)
    (h1 : zfld c M' a k = v) (h2 : ∀ j, j < zn c → j ≠ k → zfld c M' a j = zfld c M a j) (hKK : zK M' = zK M) (hNN : zN M' = zN M) (hAA : zA M' = zA M) (hBB : zB M' = zB M) (hJJ : zJ M' = zJ M) (hCC : zC M' = zC M) (hSS : zS M' = zS M) (hI : ∀ x b, b ≠ a → zI M' x b = zI M x b) (hR : ∀ x b, b ≠ a → zR M' x b = zR M x b)
    (kk : zw G md d k0 n0 Q (pc + 3) lv st M') : zw G md d k0 n0 Q pc lv (v :: .ref a :: st) M := by
  intro p e R s m args below meth c9 H locs ls B hr hm hw hS hl
  obtain ⟨L, hL, hP, hD, hF, hN⟩ := hw
  have ha : a ∈ L := (hL a).mpr (by omega)
  obtain ⟨q, hq⟩ := zat (f := zE (gi G) M) ha
  have hq0 := hq
  rw [zE_obj hK hc] at hq
  have hO := B.2.2.2.2.2.2.2.2
  have hts : ∀ w ∈ u_ws (zRX c) (zTX c) (zn c), w.before args s = true := fun w h => zgw_use (zc_gw c hc w h) (hO.1 w (zc_in c hc w h) (zc_gw c hc w h)) args
  have hsame : ∀ x, s.fieldFound? (zTX c k).1 (zTX c k).2.1 (zTX c k).2.2.1 = some x → s.fieldFound? (zRX c) (zTX c k).2.1 (zTX c k).2.2.1 = some x := fun x h => by rw [zc_own c hc k hk] at h; exact h
  have hE : zE (gi G) M' a = .inr (c, (zflds c M a).set k v) := by rw [zE_obj (by rw [hKK]; exact hK) hc, zflds_set hk h1 h2]
  have hOth : ∀ b, b ≠ a → zE (gi G) M' b = zE (gi G) M b := fun b hb => zE_congr (by rw [hKK]) (by rw [hNN]) (by rw [hAA]) (by rw [hBB]) (by rw [hJJ]) (fun x => hI x b hb) (fun x => hR x b hb)
  have kk' : ∀ (H1 : Heap) (locs1 : List Loc), va_P (gD G) vwCl ((va_pl L (zE (gi G) M)).set q (a, .inr (c, (zflds c M a).set k v))) H1 → va_D (gA G) ((va_pl L (zE (gi G) M)).set q (a, .inr (c, (zflds c M a).set k v))) → va_S (gA G) s.heap H1 locs1 → W p (gL G) e R s m args below meth c9 H1 locs1 (zC M - k0) (zS M - n0) (zZ G k0 n0 Q below s) (F0 m (pc + 3) ls st) := by
    intro H1 locs1 hP1 hD1 hS1
    rw [zset hD ha hq0, zup hE hOth] at hP1 hD1
    have := kk p e R s m args below meth c9 H1 locs1 ls B hr (by rw [hCC, hSS]; exact hm) ⟨L, fun b => by rw [hKK]; exact hL b, hP1, hD1, fun b i hb => by rw [hAA]; exact hF b i (by rw [← hKK]; exact hb), fun b => by rw [hNN]; exact hN b⟩ hS1 hl
    rw [hCC, hSS] at this
    exact this
  have hlen : k < (zflds c M a).length := by rw [zflds_len]; exact hk
  rcases hfin with hfin | ⟨hi1, hi2, hi3⟩
  · rcases hlk with h | h
    · exact va_put B.1 B.2.1 hts (fun _ h => h) (zty c) (zc_ty c hc) (zc_nm c hc) B.2.2.2.2.2.1 hO.2.1 hP hD hS q hq (zc_cl c hc) k hk (zgw_use rfl (hO.1 _ h rfl) args) hsame hfin (zc_ty c hc k hk) hn hf hlen hd kk'
    · exact va_putN B.1 B.2.1 hts (fun _ h => h) (zty c) (zc_ty c hc) (zc_nm c hc) B.2.2.2.2.2.1 hO.2.1 hP hD hS q hq (zc_cl c hc) k hk (zgw_use rfl (hO.1 _ h rfl) args) hsame hfin (zc_ty c hc k hk) hn hf hlen hd kk'
  · by_cases hfin : (zTX c k).2.2.2 = true
    · exact va_putF B.1 B.2.1 hts (fun _ h => h) (zty c) (zc_ty c hc) (zc_nm c hc) B.2.2.2.2.2.1 hO.2.1 hP hD hS q hq (zc_cl c hc) k hk (zgw_use rfl (hO.1 _ hi3 rfl) args) hsame hfin (by rw [B.2.2.2.2.2.2.1]; exact hi1) (by rw [zc_own c hc k hk]; exact hi2) (zc_ty c hc k hk) hn hf hlen hd kk'
    · exact va_put B.1 B.2.1 hts (fun _ h => h) (zty c) (zc_ty c hc) (zc_nm c hc) B.2.2.2.2.2.1 hO.2.1 hP hD hS q hq (zc_cl c hc) k hk (zgw_use rfl (hO.1 _ hi3 rfl) args) hsame (by cases h9 : (zTX c k).2.2.2 with | false => rfl | true => exact absurd h9 hfin) (zc_ty c hc k hk) hn hf hlen hd kk'
theorem zput_I (M : zM) (f a : Nat) (v : Int32) (x y : Nat) : zI (zput M f a v) x y = if x = f ∧ y = a then v else zI M x y := rfl
theorem zputR_R (M : zM) (f a : Nat) (v : Option Nat) (x y : Nat) : zR (zputR M f a v) x y = if x = f ∧ y = a then v else zR M x y := rfl
theorem zfld_put {c k a j : Nat} {M : zM} {v : Int32} (hj : j ≠ k) : zfld c (zput M (c * 32 + k) a v) a j = zfld c M a j := by
  have h1 : zI (zput M (c * 32 + k) a v) (c * 32 + j) a = zI M (c * 32 + j) a := by rw [zput_I, if_neg (by omega)]
  unfold zfld
  rw [h1]
  rfl
theorem zfld_putR {c k a j : Nat} {M : zM} {v : Option Nat} (hj : j ≠ k) : zfld c (zputR M (c * 32 + k) a v) a j = zfld c M a j := by
  have h1 : zR (zputR M (c * 32 + k) a v) (c * 32 + j) a = zR M (c * 32 + j) a := by rw [zputR_R, if_neg (by omega)]
  unfold zfld
  rw [h1]
  rfl
/-- an int field that isn't final -/
theorem zr_putI {idx c k a : Nat} {v : Int32} (hd : decode md.2.1 pc = .ok (.putfield idx, 3)) (hlk : zlk md.1.cls idx c k) (hc : c < 13) (hk : k < zn c) (ht : zty c k = .int) (hfin : (zTX c k).2.2.2 = false) (hK : zK M a = c + 1)
    (kk : zw G md d k0 n0 Q (pc + 3) lv st (zput M (c * 32 + k) a v)) : zw G md d k0 n0 Q pc lv (.int v :: .ref a :: st) M := by
  refine zr_putV hd hlk hc hk hK (Or.inl hfin) (by rw [ht]; rfl) (by rw [ht]; rfl) ?_ (fun j _ hj => zfld_put hj) rfl rfl rfl rfl rfl rfl rfl (fun x b hb => by rw [zput_I, if_neg (fun z => hb z.2)]) (fun _ _ _ => rfl) kk
  unfold zfld
  rw [if_neg (by rw [ht]; decide), zput_I, if_pos ⟨rfl, rfl⟩]
/-- a boolean field that isn't final -/
theorem zr_putZ {idx c k a : Nat} {v : Int32} (hd : decode md.2.1 pc = .ok (.putfield idx, 3)) (hlk : zlk md.1.cls idx c k) (hc : c < 13) (hk : k < zn c) (ht : zty c k = .boolean) (hfin : (zTX c k).2.2.2 = false) (hv : v = 0 ∨ v = 1) (hK : zK M a = c + 1)
    (kk : zw G md d k0 n0 Q (pc + 3) lv st (zput M (c * 32 + k) a v)) : zw G md d k0 n0 Q pc lv (.int v :: .ref a :: st) M := by
  refine zr_putV hd hlk hc hk hK (Or.inl hfin) (by rw [ht]; rcases hv with rfl | rfl <;> rfl) (by rw [ht]; rcases hv with rfl | rfl <;> rfl) ?_ (fun j _ hj => zfld_put hj) rfl rfl rfl rfl rfl rfl rfl (fun x b hb => by rw [zput_I, if_neg (fun z => hb z.2)]) (fun _ _ _ => rfl) kk
  unfold zfld
  rw [if_neg (by rw [ht]; decide), zput_I, if_pos ⟨rfl, rfl⟩]
theorem zfits_ref {t : FieldType} (h : zref t = true) (b : Nat) : narrow t (.ref b) = .ref b ∧ fits t (.ref b) = true := by
  cases t <;> first | (simp [zref] at h; done) | exact ⟨rfl, rfl⟩
/-- a field of references, in the constructor -/
theorem zr_putR {idx c k a b : Nat} (hd : decode md.2.1 pc = .ok (.putfield idx, 3)) (hlk : Cond.fieldLink md.1.cls idx (zRX c) (zTX c k).2.1 (zTX c k).2.2.1 ∈ lw_tbl) (hin : md.1.name = "<init>") (hown : zRX c = md.1.cls) (hc : c < 13) (hk : k < zn c) (ht : zref (zty c k) = true) (hK : zK M a = c + 1)
    (kk : zw G md d k0 n0 Q (pc + 3) lv st (zputR M (c * 32 + k) a (some b))) : zw G md d k0 n0 Q pc lv (.ref b :: .ref a :: st) M := by
  refine zr_putV hd (Or.inl hlk) hc hk hK (Or.inr ⟨hin, hown, hlk⟩) (zfits_ref ht b).1 (zfits_ref ht b).2 ?_ (fun j _ hj => zfld_putR hj) rfl rfl rfl rfl rfl rfl rfl (fun _ _ _ => rfl) (fun x b9 hb => by rw [zputR_R, if_neg (fun z => hb z.2)]) kk
  unfold zfld
  rw [if_pos ht, zputR_R, if_pos ⟨rfl, rfl⟩]
  rfl
end ZH
end
section
/-! ===== ROWS of zw: arrays, new, static, copying ===== -/
theorem zsetA_A (M : zM) (a : Nat) (g : Nat → Int32) : zA (zsetA M a g) = va_up (zA M) a g := rfl
theorem zfitU {M : zM} {a : Nat} {g : Nat → Int32} (hF : ∀ b i, zK M b = 14 → fits .byte (.int (zA M b i)) = true) (hg : zK M a = 14 → ∀ i, fits .byte (.int (g i)) = true) : ∀ b i, zK (zsetA M a g) b = 14 → fits .byte (.int (zA (zsetA M a g) b i)) = true := by
  intro b i hb
  rw [zsetA_A]
  by_cases e : b = a
  · subst e
    rw [va_up_self]
    exact hg hb i
  · rw [va_up_ne _ _ e]
    exact hF b i hb
section ZA
variable {G : zG} {md : zD} {d k0 n0 : Nat} {Q : zOut → zM → Prop} {pc : Nat} {lv : List (Option Value)} {st : List Value} {M : zM}
theorem zr_iald {a : Nat} {i : Int32} (hd : decode md.2.1 pc = .ok (.iaload, 1)) (hK : zK M a = 15) (hi : vp_in i (zN M a)) (kk : zw G md d k0 n0 Q (pc + 1) lv (.int (zA M a i.toNatClampNeg) :: st) M) : zw G md d k0 n0 Q pc lv (.int i :: .ref a :: st) M := by
  intro p e R s m args below meth c9 H locs ls B hr hm hw hS hl
  have kk' := kk p e R s m args below meth c9 H locs ls B hr hm hw hS hl
  obtain ⟨L, hL, hP, hD, hF, hN⟩ := hw
  obtain ⟨q, hq⟩ := zat (f := zE (gi G) M) ((hL a).mpr (by omega))
  rw [zE_I hK] at hq
  exact va_iald B.1 B.2.1 B.2.2.2.2.2.2.2.2.2.1 hP q 1 hq rfl hi hd kk'
theorem zr_bald {a : Nat} {i : Int32} (hd : decode md.2.1 pc = .ok (.baload, 1)) (hK : zK M a = 14) (hi : vp_in i (zN M a)) (kk : fits .byte (.int (zA M a i.toNatClampNeg)) = true → zw G md d k0 n0 Q (pc + 1) lv (.int (zA M a i.toNatClampNeg) :: st) M) : zw G md d k0 n0 Q pc lv (.int i :: .ref a :: st) M := by
  intro p e R s m args below meth c9 H locs ls B hr hm hw hS hl
  have hw0 := hw
  obtain ⟨L, hL, hP, hD, hF, hN⟩ := hw
  have kk' := kk (hF a _ hK) p e R s m args below meth c9 H locs ls B hr hm hw0 hS hl
  obtain ⟨q, hq⟩ := zat (f := zE (gi G) M) ((hL a).mpr (by omega))
  rw [zE_B hK] at hq
  exact va_bald B.1 B.2.1 B.2.2.2.2.2.2.2.2.2.1 hP q 0 hq rfl hi hd kk'
theorem zr_zald {a : Nat} {i : Int32} (hd : decode md.2.1 pc = .ok (.baload, 1)) (hK : zK M a = 16) (hi : vp_in i (zN M a)) (kk : zw G md d k0 n0 Q (pc + 1) lv (.int (zA M a i.toNatClampNeg) :: st) M) : zw G md d k0 n0 Q pc lv (.int i :: .ref a :: st) M := by
  intro p e R s m args below meth c9 H locs ls B hr hm hw hS hl
  have kk' := kk p e R s m args below meth c9 H locs ls B hr hm hw hS hl
  obtain ⟨L, hL, hP, hD, hF, hN⟩ := hw
  obtain ⟨q, hq⟩ := zat (f := zE (gi G) M) ((hL a).mpr (by omega))
  rw [zE_Z hK] at hq
  exact va_zald B.1 B.2.1 B.2.2.2.2.2.2.2.2.2.1 hP q 2 hq rfl hi hd kk'
theorem zr_lald {a : Nat} {i : Int32} (hd : decode md.2.1 pc = .ok (.laload, 1)) (hK : zK M a = 17) (hi : vp_in i (zN M a)) (kk : zw G md d k0 n0 Q (pc + 1) lv (.long (zJ M a i.toNatClampNeg) :: st) M) : zw G md d k0 n0 Q pc lv (.int i :: .ref a :: st) M := by
  intro p e R s m args below meth c9 H locs ls B hr hm hw hS hl
  have kk' := kk p e R s m args below meth c9 H locs ls B hr hm hw hS hl
  obtain ⟨L, hL, hP, hD, hF, hN⟩ := hw
  obtain ⟨q, hq⟩ := zat (f := zE (gi G) M) ((hL a).mpr (by omega))
  rw [zE_J hK] at hq
  exact va_lald B.1 B.2.1 B.2.2.2.2.2.2.2.2.2.1 hP q 3 hq rfl hi hd kk'
theorem zr_aald {a b : Nat} {i : Int32} (hd : decode md.2.1 pc = .ok (.aaload, 1)) (hK : zK M a = 18 ∨ zK M a = 19) (hi : vp_in i (zN M a)) (hb : zB M a i.toNatClampNeg = some b) (kk : zw G md d k0 n0 Q (pc + 1) lv (.ref b :: st) M) : zw G md d k0 n0 Q pc lv (.int i :: .ref a :: st) M := by
  intro p e R s m args below meth c9 H locs ls B hr hm hw hS hl
  have kk' := kk p e R s m args below meth c9 H locs ls B hr hm hw hS hl
  obtain ⟨L, hL, hP, hD, hF, hN⟩ := hw
  obtain ⟨q, hq⟩ := zat (f := zE (gi G) M) ((hL a).mpr (by omega))
  rcases hK with hK | hK
  · rw [zE_V hK] at hq
    exact va_aldq B.1 B.2.1 B.2.2.2.2.2.2.2.2.2.1 hP q 4 hq rfl hi hd (by rw [hb]; exact kk')
  · rw [zE_T hK] at hq
    exact va_aldq B.1 B.2.1 B.2.2.2.2.2.2.2.2.2.1 hP q 5 hq rfl hi hd (by rw [hb]; exact kk')
theorem zr_aaldN {a : Nat} {i : Int32} (hd : decode md.2.1 pc = .ok (.aaload, 1)) (hK : zK M a = 18 ∨ zK M a = 19) (hi : vp_in i (zN M a)) (hb : zB M a i.toNatClampNeg = none) (kk : zw G md d k0 n0 Q (pc + 1) lv (.null :: st) M) : zw G md d k0 n0 Q pc lv (.int i :: .ref a :: st) M := by
  intro p e R s m args below meth c9 H locs ls B hr hm hw hS hl
  have kk' := kk p e R s m args below meth c9 H locs ls B hr hm hw hS hl
  obtain ⟨L, hL, hP, hD, hF, hN⟩ := hw
  obtain ⟨q, hq⟩ := zat (f := zE (gi G) M) ((hL a).mpr (by omega))
  rcases hK with hK | hK
  · rw [zE_V hK] at hq
    exact va_aldq B.1 B.2.1 B.2.2.2.2.2.2.2.2.2.1 hP q 4 hq rfl hi hd (by rw [hb]; exact kk')
  · rw [zE_T hK] at hq
    exact va_aldq B.1 B.2.1 B.2.2.2.2.2.2.2.2.2.1 hP q 5 hq rfl hi hd (by rw [hb]; exact kk')
theorem zr_alen {a : Nat} (hd : decode md.2.1 pc = .ok (.arraylength, 1)) (hK : 14 ≤ zK M a ∧ zK M a ≤ 19) (kk : zw G md d k0 n0 Q (pc + 1) lv (.int (nI (zN M a)) :: st) M) : zw G md d k0 n0 Q pc lv (.ref a :: st) M := by
  intro p e R s m args below meth c9 H locs ls B hr hm hw hS hl
  have kk' := kk p e R s m args below meth c9 H locs ls B hr hm hw hS hl
  obtain ⟨L, hL, hP, hD, hF, hN⟩ := hw
  obtain ⟨q, hq⟩ := zat (f := zE (gi G) M) ((hL a).mpr (by omega))
  have hT := B.2.2.2.2.2.2.2.2.2.1
  rcases (show zK M a = 14 ∨ zK M a = 15 ∨ zK M a = 16 ∨ zK M a = 17 ∨ zK M a = 18 ∨ zK M a = 19 by omega) with h | h | h | h | h | h
  · rw [zE_B h] at hq; exact va_alen B.1 B.2.1 hT hP q 0 hq rfl rfl hd kk'
  · rw [zE_I h] at hq; exact va_alen B.1 B.2.1 hT hP q 1 hq rfl rfl hd kk'
  · rw [zE_Z h] at hq; exact va_alen B.1 B.2.1 hT hP q 2 hq rfl rfl hd kk'
  · rw [zE_J h] at hq; exact va_alen B.1 B.2.1 hT hP q 3 hq rfl rfl hd kk'
  · rw [zE_V h] at hq; exact va_alen B.1 B.2.1 hT hP q 4 hq rfl rfl hd kk'
  · rw [zE_T h] at hq; exact va_alen B.1 B.2.1 hT hP q 5 hq rfl rfl hd kk'
/-- the script, and LEVEL_FULL -/
theorem zr_sld {i : Int32} (hd : decode md.2.1 pc = .ok (.iaload, 1)) (hi : vp_in i (gn G)) (kk : zw G md d k0 n0 Q (pc + 1) lv (.int (gx G i.toNatClampNeg) :: st) M) : zw G md d k0 n0 Q pc lv (.int i :: .ref (gb G) :: st) M := by
  intro p e R s m args below meth c9 H locs ls B hr hm hw hS hl
  have hO := B.2.2.2.2.2.2.2.2
  obtain ⟨h1, h2, h3, h4, h5, h6, h7, h8, h9, h10, h11, h12⟩ := id hO
  exact va_sld B.1 B.2.1 h4 (by omega) (Nat.not_le.mpr h10) hS hi hd (kk p e R s m args below meth c9 H locs ls B hr hm hw hS hl)
theorem zr_slen (hd : decode md.2.1 pc = .ok (.arraylength, 1)) (kk : zw G md d k0 n0 Q (pc + 1) lv (.int (nI (gn G)) :: st) M) : zw G md d k0 n0 Q pc lv (.ref (gb G) :: st) M := by
  intro p e R s m args below meth c9 H locs ls B hr hm hw hS hl
  have hO := B.2.2.2.2.2.2.2.2
  obtain ⟨h1, h2, h3, h4, h5, h6, h7, h8, h9, h10, h11, h12⟩ := id hO
  exact va_slen B.1 B.2.1 h4 (by omega) (Nat.not_le.mpr h10) hS hd (kk p e R s m args below meth c9 H locs ls B hr hm hw hS hl)
theorem zr_fld {i : Int32} (hd : decode md.2.1 pc = .ok (.iaload, 1)) (hi : vp_in i 2) (kk : zw G md d k0 n0 Q (pc + 1) lv (.int (zlf i.toNatClampNeg) :: st) M) : zw G md d k0 n0 Q pc lv (.int i :: .ref (gf G) :: st) M := by
  intro p e R s m args below meth c9 H locs ls B hr hm hw hS hl
  have hO := B.2.2.2.2.2.2.2.2
  obtain ⟨h1, h2, h3, h4, h5, h6, h7, h8, h9, h10, h11, h12⟩ := id hO
  exact va_sld B.1 B.2.1 h5 (by omega) (Nat.not_le.mpr h11) hS hi hd (kk p e R s m args below meth c9 H locs ls B hr hm hw hS hl)
theorem zr_gets {idx : Nat} (hd : decode md.2.1 pc = .ok (.getstatic idx, 3)) (hlk : Cond.fieldLink md.1.cls idx "LsmStore" "LEVEL_FULL" "[I" ∈ lw_tbl) (kk : zw G md d k0 n0 Q (pc + 3) lv (.ref (gf G) :: st) M) : zw G md d k0 n0 Q pc lv st M := by
  intro p e R s m args below meth c9 H locs ls B hr hm hw hS hl
  have hO := B.2.2.2.2.2.2.2.2
  obtain ⟨h1, h2, h3, h4, h5, h6, h7, h8, h9, h10, h11, h12⟩ := id hO
  exact va_gets B.1 B.2.1 h3 hS B.2.2.2.2.2.1 (zgw_use rfl (h1 _ hlk rfl) args) (fun x h => h) hd (kk p e R s m args below meth c9 H locs ls B hr hm hw hS hl)
/-- a row of ints, bytes or booleans is written -/
theorem zr_iast {a : Nat} {i x : Int32} (hd : decode md.2.1 pc = .ok (.iastore, 1)) (hK : zK M a = 15) (hi : vp_in i (zN M a)) (kk : zw G md d k0 n0 Q (pc + 1) lv st (zsetA M a (upd (zA M a) i.toNatClampNeg x))) : zw G md d k0 n0 Q pc lv (.int x :: .int i :: .ref a :: st) M := by
  intro p e R s m args below meth c9 H locs ls B hr hm hw hS hl
  obtain ⟨L, hL, hP, hD, hF, hN⟩ := hw
  have ha : a ∈ L := (hL a).mpr (by omega)
  obtain ⟨q, hq⟩ := zat (f := zE (gi G) M) ha
  have hq0 := hq
  rw [zE_I hK] at hq
  refine va_iast B.1 B.2.1 B.2.2.2.2.2.2.2.2.2.1 hP hD hS q 1 hq rfl hi hd (fun H1 locs1 hP1 hD1 hS1 => ?_)
  rw [zset hD ha hq0, zup (ids := gi G) (M := M) (M' := zsetA M a (upd (zA M a) i.toNatClampNeg x)) (by rw [zE_I (by exact hK), zsetA_A, va_up_self]; rfl) (fun b hb => zE_congr rfl rfl (by rw [zsetA_A, va_up_ne _ _ hb]) rfl rfl (fun _ => rfl) (fun _ => rfl))] at hP1 hD1
  exact kk p e R s m args below meth c9 H1 locs1 ls B hr hm ⟨L, hL, hP1, hD1, zfitU hF (fun h => by omega), hN⟩ hS1 hl
theorem zfit_nar (x : Int32) : fits .byte (.int (vp_nar .byte x)) = true := by rw [vp_nar_byte]; exact pk_fb x
theorem zr_bast {a : Nat} {i x : Int32} (hd : decode md.2.1 pc = .ok (.bastore, 1)) (hK : zK M a = 14) (hi : vp_in i (zN M a)) (kk : zw G md d k0 n0 Q (pc + 1) lv st (zsetA M a (upd (zA M a) i.toNatClampNeg (vp_nar .byte x)))) : zw G md d k0 n0 Q pc lv (.int x :: .int i :: .ref a :: st) M := by
  intro p e R s m args below meth c9 H locs ls B hr hm hw hS hl
  obtain ⟨L, hL, hP, hD, hF, hN⟩ := hw
  have ha : a ∈ L := (hL a).mpr (by omega)
  obtain ⟨q, hq⟩ := zat (f := zE (gi G) M) ha
  have hq0 := hq
  rw [zE_B hK] at hq
  refine va_bast B.1 B.2.1 B.2.2.2.2.2.2.2.2.2.1 hP hD hS q 0 hq rfl hi hd (fun H1 locs1 hP1 hD1 hS1 => ?_)
  rw [zset hD ha hq0, zup (ids := gi G) (M := M) (M' := zsetA M a (upd (zA M a) i.toNatClampNeg (vp_nar .byte x))) (by rw [zE_B (by exact hK), zsetA_A, va_up_self]; rfl) (fun b hb => zE_congr rfl rfl (by rw [zsetA_A, va_up_ne _ _ hb]) rfl rfl (fun _ => rfl) (fun _ => rfl))] at hP1 hD1
  refine kk p e R s m args below meth c9 H1 locs1 ls B hr hm ⟨L, hL, hP1, hD1, zfitU hF (fun h j => ?_), hN⟩ hS1 hl
  unfold upd
  split
  · exact zfit_nar x
  · exact hF a j hK
theorem zr_zast {a : Nat} {i x : Int32} (hd : decode md.2.1 pc = .ok (.bastore, 1)) (hK : zK M a = 16) (hi : vp_in i (zN M a)) (kk : zw G md d k0 n0 Q (pc + 1) lv st (zsetA M a (upd (zA M a) i.toNatClampNeg (vp_nar .boolean x)))) : zw G md d k0 n0 Q pc lv (.int x :: .int i :: .ref a :: st) M := by
  intro p e R s m args below meth c9 H locs ls B hr hm hw hS hl
  obtain ⟨L, hL, hP, hD, hF, hN⟩ := hw
  have ha : a ∈ L := (hL a).mpr (by omega)
  obtain ⟨q, hq⟩ := zat (f := zE (gi G) M) ha
  have hq0 := hq
  rw [zE_Z hK] at hq
  refine va_zast B.1 B.2.1 B.2.2.2.2.2.2.2.2.2.1 hP hD hS q 2 hq rfl hi hd (fun H1 locs1 hP1 hD1 hS1 => ?_)
  rw [zset hD ha hq0, zup (ids := gi G) (M := M) (M' := zsetA M a (upd (zA M a) i.toNatClampNeg (vp_nar .boolean x))) (by rw [zE_Z (by exact hK), zsetA_A, va_up_self]; rfl) (fun b hb => zE_congr rfl rfl (by rw [zsetA_A, va_up_ne _ _ hb]) rfl rfl (fun _ => rfl) (fun _ => rfl))] at hP1 hD1
  exact kk p e R s m args below meth c9 H1 locs1 ls B hr hm ⟨L, hL, hP1, hD1, zfitU hF (fun h => by omega), hN⟩ hS1 hl
theorem zsetJ_J (M : zM) (a : Nat) (g : Nat → Int64) : zJ (zsetJ M a g) = va_up (zJ M) a g := rfl
theorem zsetB_B (M : zM) (a : Nat) (g : Nat → Option Nat) : zB (zsetB M a g) = va_up (zB M) a g := rfl
theorem zr_last {a : Nat} {i : Int32} {x : Int64} (hd : decode md.2.1 pc = .ok (.lastore, 1)) (hK : zK M a = 17) (hi : vp_in i (zN M a)) (kk : zw G md d k0 n0 Q (pc + 1) lv st (zsetJ M a (vp_updL (zJ M a) i.toNatClampNeg x))) : zw G md d k0 n0 Q pc lv (.long x :: .int i :: .ref a :: st) M := by
  intro p e R s m args below meth c9 H locs ls B hr hm hw hS hl
  obtain ⟨L, hL, hP, hD, hF, hN⟩ := hw
  have ha : a ∈ L := (hL a).mpr (by omega)
  obtain ⟨q, hq⟩ := zat (f := zE (gi G) M) ha
  have hq0 := hq
  rw [zE_J hK] at hq
  refine va_last B.1 B.2.1 B.2.2.2.2.2.2.2.2.2.1 hP hD hS q 3 hq rfl hi hd (fun H1 locs1 hP1 hD1 hS1 => ?_)
  rw [zset hD ha hq0, zup (ids := gi G) (M := M) (M' := zsetJ M a (vp_updL (zJ M a) i.toNatClampNeg x)) (by rw [zE_J (by exact hK), zsetJ_J, va_up_self]; rfl) (fun b hb => zE_congr rfl rfl rfl rfl (by rw [zsetJ_J, va_up_ne _ _ hb]) (fun _ => rfl) (fun _ => rfl))] at hP1 hD1
  exact kk p e R s m args below meth c9 H1 locs1 ls B hr hm ⟨L, hL, hP1, hD1, hF, hN⟩ hS1 hl
theorem zr_aast {a v : Nat} {i : Int32} (hd : decode md.2.1 pc = .ok (.aastore, 1)) (hK : (zK M a = 18 ∧ zK M v = 5) ∨ (zK M a = 19 ∧ zK M v = 9)) (hi : vp_in i (zN M a)) (kk : zw G md d k0 n0 Q (pc + 1) lv st (zsetB M a (va_up (zB M a) i.toNatClampNeg (some v)))) : zw G md d k0 n0 Q pc lv (.ref v :: .int i :: .ref a :: st) M := by
  intro p e R s m args below meth c9 H locs ls B hr hm hw hS hl
  obtain ⟨L, hL, hP, hD, hF, hN⟩ := hw
  have ha : a ∈ L := (hL a).mpr (by omega)
  have hva : v ∈ L := (hL v).mpr (by omega)
  obtain ⟨q, hq⟩ := zat (f := zE (gi G) M) ha
  obtain ⟨qv, hqv⟩ := zat (f := zE (gi G) M) hva
  have hq0 := hq
  have hT := B.2.2.2.2.2.2.2.2.2.1
  have fin : ∀ (H1 : Heap) (locs1 : List Loc), va_P (gD G) vwCl (va_pl L (zE (gi G) (zsetB M a (va_up (zB M a) i.toNatClampNeg (some v))))) H1 → va_D (gA G) (va_pl L (zE (gi G) (zsetB M a (va_up (zB M a) i.toNatClampNeg (some v))))) → va_S (gA G) s.heap H1 locs1 → W p (gL G) e R s m args below meth c9 H1 locs1 (zC M - k0) (zS M - n0) (zZ G k0 n0 Q below s) (F0 m (pc + 1) ls st) :=
    fun H1 locs1 hP1 hD1 hS1 => kk p e R s m args below meth c9 H1 locs1 ls B hr hm ⟨L, hL, hP1, hD1, hF, hN⟩ hS1 hl
  have oth : ∀ b, b ≠ a → zE (gi G) (zsetB M a (va_up (zB M a) i.toNatClampNeg (some v))) b = zE (gi G) M b := fun b hb => zE_congr rfl rfl rfl (by rw [zsetB_B, va_up_ne _ _ hb]) rfl (fun _ => rfl) (fun _ => rfl)
  rcases hK with ⟨hK, hKv⟩ | ⟨hK, hKv⟩
  · rw [zE_V hK] at hq
    rw [zE_obj (c := 4) hKv (by omega)] at hqv
    refine va_astq B.1 B.2.1 hT hP hD hS q 4 qv 4 (r := (RX4, TX4, 6)) hq rfl hqv rfl hi hd (fun H1 locs1 hP1 hD1 hS1 => ?_)
    rw [zset hD ha hq0, zup (ids := gi G) (M := M) (M' := zsetB M a (va_up (zB M a) i.toNatClampNeg (some v))) (by rw [zE_V (by exact hK), zsetB_B, va_up_self]; rfl) oth] at hP1 hD1
    exact fin H1 locs1 hP1 hD1 hS1
  · rw [zE_T hK] at hq
    rw [zE_obj (c := 8) hKv (by omega)] at hqv
    refine va_astq B.1 B.2.1 hT hP hD hS q 5 qv 8 (r := (RX8, TX8, 5)) hq rfl hqv rfl hi hd (fun H1 locs1 hP1 hD1 hS1 => ?_)
    rw [zset hD ha hq0, zup (ids := gi G) (M := M) (M' := zsetB M a (va_up (zB M a) i.toNatClampNeg (some v))) (by rw [zE_T (by exact hK), zsetB_B, va_up_self]; rfl) oth] at hP1 hD1
    exact fin H1 locs1 hP1 hD1 hS1
/-- System.arraycopy of bytes or ints -/
theorem zr_copy {idx a b : Nat} {sp dp n : Int32} (hd : decode md.2.1 pc = .ok (.invokestatic idx, 3)) (hlk : Cond.methodLink md.1.cls idx arraycopyName ∈ lw_tbl) (hK : (zK M a = 14 ∧ zK M b = 14) ∨ (zK M a = 15 ∧ zK M b = 15))
    (h1 : ¬ sp < 0) (h2 : ¬ dp < 0) (h3 : ¬ n < 0) (h4 : sp.toNatClampNeg + n.toNatClampNeg ≤ zN M a) (h5 : dp.toNatClampNeg + n.toNatClampNeg ≤ zN M b) (hd1 : 2 ≤ d) (hst : (st.map fun v => v.category).sum ≤ 8)
    (kk : zw G md d k0 n0 Q (pc + 3) lv st (zsetA M b (va_cpy (zA M a) (zA M b) sp.toNatClampNeg dp.toNatClampNeg n.toNatClampNeg))) : zw G md d k0 n0 Q pc lv (.int n :: .int dp :: .ref b :: .int sp :: .ref a :: st) M := by
  intro p e R s m args below meth c9 H locs ls B hr hm hw hS hl
  obtain ⟨L, hL, hP, hD, hF, hN⟩ := hw
  have ha : a ∈ L := (hL a).mpr (by omega)
  have hb : b ∈ L := (hL b).mpr (by omega)
  obtain ⟨qa, hqa⟩ := zat (f := zE (gi G) M) ha
  obtain ⟨qb, hqb⟩ := zat (f := zE (gi G) M) hb
  have hq0 := hqb
  have hO := B.2.2.2.2.2.2.2.2
  have hT := hO.2.1
  have oth : ∀ x, x ≠ b → zE (gi G) (zsetA M b (va_cpy (zA M a) (zA M b) sp.toNatClampNeg dp.toNatClampNeg n.toNatClampNeg)) x = zE (gi G) M x := fun x hx => zE_congr rfl rfl (by rw [zsetA_A, va_up_ne _ _ hx]) rfl rfl (fun _ => rfl) (fun _ => rfl)
  have hml : c9.maxLocals = ls.size := by rw [B.2.2.2.2.1, hl.1]
  have hnw : nativeFrameWords "java/lang/System" "arraycopy" 5 + 11 ≤ 68 := by decide +kernel
  have hfr : 1 ≤ R.frames := by omega
  have hlo : (st.map fun v => v.category).sum + (nativeFrameWords "java/lang/System" "arraycopy" 5 + 11) ≤ R.locals := by omega
  have hfit : ∀ x i, zK M x = 14 → fits .byte (.int (zA M x i)) = true := hF
  rcases hK with ⟨hKa, hKb⟩ | ⟨hKa, hKb⟩
  · rw [zE_B hKa] at hqa
    rw [zE_B hKb] at hqb
    refine va_copyi B.1 B.2.1 hml B.2.2.2.2.2.1 (zgw_use rfl (hO.1 _ hlk rfl) args) (zgw_use rfl (hO.1 _ (show Cond.native arraycopyName ∈ lw_tbl by decide +kernel) rfl) args) (zgw_use rfl (hO.1 _ (show Cond.static arraycopyName ∈ lw_tbl by decide +kernel) rfl) args) (zgw_use rfl (hO.1 _ (show Cond.initialized "java/lang/System" ∈ lw_tbl by decide +kernel) rfl) args) hT hP hD hS qa qb 0 0 hqa hqb rfl rfl rfl h1 h2 h3 h4 h5 (fun i _ => hF a _ hKa) hfr hlo hd (fun H1 locs1 hP1 hD1 hS1 => ?_)
    rw [zset hD hb hq0, zup (ids := gi G) (M := M) (M' := zsetA M b (va_cpy (zA M a) (zA M b) sp.toNatClampNeg dp.toNatClampNeg n.toNatClampNeg)) (by rw [zE_B (by exact hKb), zsetA_A, va_up_self]; rfl) oth] at hP1 hD1
    refine kk p e R s m args below meth c9 H1 locs1 ls B hr hm ⟨L, hL, hP1, hD1, zfitU hF (fun h j => ?_), hN⟩ hS1 hl
    unfold va_cpy
    split
    · exact hF a _ hKa
    · exact hF b _ hKb
  · rw [zE_I hKa] at hqa
    rw [zE_I hKb] at hqb
    refine va_copyi B.1 B.2.1 hml B.2.2.2.2.2.1 (zgw_use rfl (hO.1 _ hlk rfl) args) (zgw_use rfl (hO.1 _ (show Cond.native arraycopyName ∈ lw_tbl by decide +kernel) rfl) args) (zgw_use rfl (hO.1 _ (show Cond.static arraycopyName ∈ lw_tbl by decide +kernel) rfl) args) (zgw_use rfl (hO.1 _ (show Cond.initialized "java/lang/System" ∈ lw_tbl by decide +kernel) rfl) args) hT hP hD hS qa qb 1 1 hqa hqb rfl rfl rfl h1 h2 h3 h4 h5 (fun i _ => rfl) hfr hlo hd (fun H1 locs1 hP1 hD1 hS1 => ?_)
    rw [zset hD hb hq0, zup (ids := gi G) (M := M) (M' := zsetA M b (va_cpy (zA M a) (zA M b) sp.toNatClampNeg dp.toNatClampNeg n.toNatClampNeg)) (by rw [zE_I (by exact hKb), zsetA_A, va_up_self]; rfl) oth] at hP1 hD1
    exact kk p e R s m args below meth c9 H1 locs1 ls B hr hm ⟨L, hL, hP1, hD1, zfitU hF (fun h => by omega), hN⟩ hS1 hl
end ZA
end
section
/-! ===== ROWS of zw: what is made; returns ===== -/
theorem zc_ins : ∀ c, c < 13 → Cond.instantiable (zRX c) (zn c) ∈ lw_tbl := by
  refine zc_cases ?_ ?_ ?_ ?_ ?_ ?_ ?_ ?_ ?_ ?_ ?_ ?_ ?_ <;> decide +kernel
theorem zc_ini : ∀ c, c < 13 → Cond.initialized (zRX c) ∈ lw_tbl := by
  refine zc_cases ?_ ?_ ?_ ?_ ?_ ?_ ?_ ?_ ?_ ?_ ?_ ?_ ?_ <;> decide +kernel
def zdef (c : Nat) : List Value := (List.range (zn c)).map (fun k => if zref (zty c k) = true then .null else .int 0)
theorem zdef_ok : ∀ c, c < 13 → ∀ j, j < zn c → defaultValue (zty c j) = vp_V (zdef c) j := by
  refine zc_cases ?_ ?_ ?_ ?_ ?_ ?_ ?_ ?_ ?_ ?_ ?_ ?_ ?_ <;> decide +kernel
theorem znewO_K (M : zM) (q c n : Nat) : zK (znewO M q c n) q = c + 1 := va_up_self _ _ _
theorem znewA_K (M : zM) (q κ n : Nat) : zK (znewA M q κ n) q = κ := va_up_self _ _ _
theorem znewA_N (M : zM) (q κ n : Nat) : zN (znewA M q κ n) q = n := va_up_self _ _ _
theorem znewA_A (M : zM) (q κ n : Nat) : zA (znewA M q κ n) q = (fun _ => 0) := va_up_self _ _ _
theorem znewA_B (M : zM) (q κ n : Nat) : zB (znewA M q κ n) q = (fun _ => none) := va_up_self _ _ _
theorem znewA_J (M : zM) (q κ n : Nat) : zJ (znewA M q κ n) q = (fun _ => 0) := va_up_self _ _ _
theorem znewO_E {ids : Nat → ClassId} {M : zM} {q c n : Nat} (hc : c < 13) : zE ids (znewO M q c n) q = .inr (c, zdef c) := by
  rw [zE_obj (znewO_K M q c n) hc]
  congr 2
  unfold zflds zdef
  refine List.map_congr_left (fun j _ => ?_)
  unfold zfld
  have h1 : zI (znewO M q c n) (c * 32 + j) q = 0 := if_pos rfl
  have h2 : zR (znewO M q c n) (c * 32 + j) q = none := if_pos rfl
  rw [h1, h2]
  rfl
theorem zfresh {A : Nat → Prop} {L : List Nat} {f : Nat → va_E} {q : Nat} {e : va_E} (hD : va_D A (va_pl L f ++ [(q, e)])) : q ∉ L := by
  intro h
  obtain ⟨i, hi⟩ := zat (f := f) h
  have hl := (List.getElem?_eq_some_iff.mp hi).1
  have h1 : (va_pl L f ++ [(q, e)])[i]? = some (q, f q) := by rw [List.getElem?_append_left hl]; exact hi
  have h2 : (va_pl L f ++ [(q, e)])[(va_pl L f).length]? = some (q, e) := by rw [List.getElem?_append_right (Nat.le_refl _), Nat.sub_self]; rfl
  have := hD.1 _ _ _ _ h1 h2 rfl
  omega
theorem zpush {ids : Nat → ClassId} {M M' : zM} {L : List Nat} {q : Nat} {e : va_E} (h : q ∉ L) (hE : zE ids M' q = e) (hO : ∀ b, b ≠ q → zE ids M' b = zE ids M b) : va_pl L (zE ids M) ++ [(q, e)] = va_pl (L ++ [q]) (zE ids M') := by
  rw [va_pl_push h]
  exact zup hE hO _
section ZN
variable {G : zG} {md : zD} {d k0 n0 : Nat} {Q : zOut → zM → Prop} {pc : Nat} {lv : List (Option Value)} {st : List Value} {M : zM}
theorem zr_new {idx c : Nat} (hd : decode md.2.1 pc = .ok (.new idx, 3)) (hlk : Cond.classLink md.1.cls idx (zRX c) ∈ lw_tbl) (hc : c < 13) (hb : zC M + 1 ≤ 600128 ∧ zS M + zn c ≤ 7301098)
    (kk : ∀ q, zK M q = 0 → zw G md d k0 n0 Q (pc + 3) lv (.ref q :: st) (znewO M q c (zn c))) : zw G md d k0 n0 Q pc lv st M := by
  intro p e R s m args below meth c9 H locs ls B hr hm hw hS hl
  obtain ⟨L, hL, hP, hD, hF, hN⟩ := hw
  have hO := B.2.2.2.2.2.2.2.2
  have hts : ∀ w ∈ u_ws (zRX c) (zTX c) (zn c), w.before args s = true := fun w h => zgw_use (zc_gw c hc w h) (hO.1 w (zc_in c hc w h) (zc_gw c hc w h)) args
  refine va_new (ci := c) (fs := zdef c) B.1 B.2.1 hts (fun _ h => h) (zty c) (zc_ty c hc) B.2.2.2.2.2.1 (zgw_use rfl (hO.1 _ hlk rfl) args) (zgw_use rfl (hO.1 _ (zc_ins c hc) rfl) args) (zgw_use rfl (hO.1 _ (zc_ini c hc) rfl) args) hO.2.1 hP hD hS (fun q h => Nat.le_trans hO.2.2.2.2.2.2.2.2.1 h) (zc_cl c hc) (zdef_ok c hc) (by omega) (by omega) hd (fun q H1 hP1 hD1 hS1 => ?_)
  have hq := zfresh hD1
  have hK0 : zK M q = 0 := by
    by_cases h : zK M q = 0
    · exact h
    · exact absurd ((hL q).mpr h) hq
  have oth : ∀ b, b ≠ q → zE (gi G) (znewO M q c (zn c)) b = zE (gi G) M b := fun b hb => zE_congr (va_up_ne _ _ hb) rfl rfl rfl rfl (fun _ => if_neg hb) (fun _ => if_neg hb)
  rw [zpush (M' := znewO M q c (zn c)) hq (znewO_E hc) oth] at hP1 hD1
  have e1 : zC M - k0 + 1 = zC (znewO M q c (zn c)) - k0 := by show _ = zC M + 1 - k0; omega
  have e2 : zS M - n0 + zn c = zS (znewO M q c (zn c)) - n0 := by show _ = zS M + zn c - n0; omega
  rw [e1, e2]
  refine kk q hK0 p e R s m args below meth c9 H1 locs ls B hr ⟨by show _ ≤ zC M + 1; omega, by show _ ≤ zS M + zn c; omega⟩ ⟨L ++ [q], fun b => ?_, hP1, hD1, fun b i hb => ?_, hN⟩ hS1 hl
  · show b ∈ L ++ [q] ↔ va_up (zK M) q (c + 1) b ≠ 0
    by_cases h : b = q
    · subst h
      rw [va_up_self]
      simp
    · rw [va_up_ne _ _ h, ← hL b]
      simp [h]
  · have hb' : va_up (zK M) q (c + 1) b = 14 := hb
    by_cases h : b = q
    · subst h
      rw [va_up_self] at hb'
      omega
    · rw [va_up_ne _ _ h] at hb'
      exact hF b i hb'
/-- the end of what makes a row: kind κ, length n -/
theorem znewA_end {q κ n : Nat} {locs : List Loc} {p : Program} {e : Env} {R : Room} {s : State} {m : MethodId} {args : Array Value} {below : List Frame} {meth : Method} {c9 : Code} {H1 : Heap} {ls : Array Slot} {L : List Nat} {pc2 : Nat} {e0 : va_E}
    (B : zBd G md p s m meth c9) (hr : d ≤ R.frames ∧ 38 * d ≤ R.locals ∧ 600128 ≤ k0 + R.cells ∧ 7301098 ≤ n0 + R.slots) (hm : k0 ≤ zC M ∧ n0 ≤ zS M) (hκ : 14 ≤ κ ∧ κ ≤ 19) (hn : n < 2 ^ 31)
    (hL : ∀ a, a ∈ L ↔ zK M a ≠ 0) (hF : ∀ b i, zK M b = 14 → fits .byte (.int (zA M b i)) = true) (hN : ∀ a, zN M a < 2 ^ 31) (hE : zE (gi G) (znewA M q κ n) q = e0)
    (hP1 : va_P (gD G) vwCl (va_pl L (zE (gi G) M) ++ [(q, e0)]) H1) (hD1 : va_D (gA G) (va_pl L (zE (gi G) M) ++ [(q, e0)])) (hS1 : va_S (gA G) s.heap H1 locs) (hl : zlv ls md.2.2.1 lv)
    (kk : ∀ q, zK M q = 0 → zw G md d k0 n0 Q pc2 lv (.ref q :: st) (znewA M q κ n)) : W p (gL G) e R s m args below meth c9 H1 locs (zC M - k0 + 1) (zS M - n0 + n) (zZ G k0 n0 Q below s) (F0 m pc2 ls (.ref q :: st)) := by
  have hq := zfresh hD1
  have hK0 : zK M q = 0 := by
    by_cases h : zK M q = 0
    · exact h
    · exact absurd ((hL q).mpr h) hq
  have oth : ∀ b, b ≠ q → zE (gi G) (znewA M q κ n) b = zE (gi G) M b := fun b hb => zE_congr (va_up_ne _ _ hb) (va_up_ne _ _ hb) (va_up_ne _ _ hb) (va_up_ne _ _ hb) (va_up_ne _ _ hb) (fun _ => rfl) (fun _ => rfl)
  rw [zpush (M' := znewA M q κ n) hq hE oth] at hP1 hD1
  have e1 : zC M - k0 + 1 = zC (znewA M q κ n) - k0 := by show _ = zC M + 1 - k0; omega
  have e2 : zS M - n0 + n = zS (znewA M q κ n) - n0 := by show _ = zS M + n - n0; omega
  rw [e1, e2]
  refine kk q hK0 p e R s m args below meth c9 H1 locs ls B hr ⟨by show _ ≤ zC M + 1; omega, by show _ ≤ zS M + n; omega⟩ ⟨L ++ [q], fun b => ?_, hP1, hD1, fun b i hb => ?_, fun b => ?_⟩ hS1 hl
  · show b ∈ L ++ [q] ↔ va_up (zK M) q κ b ≠ 0
    by_cases h : b = q
    · subst h
      rw [va_up_self]
      simp
      omega
    · rw [va_up_ne _ _ h, ← hL b]
      simp [h]
  · have hb' : va_up (zK M) q κ b = 14 := hb
    show fits .byte (.int (va_up (zA M) q (fun _ => 0) b i)) = true
    by_cases h : b = q
    · subst h
      rw [va_up_self]
      rfl
    · rw [va_up_ne _ _ h] at hb' ⊢
      exact hF b i hb'
  · show va_up (zN M) q n b < 2 ^ 31
    by_cases h : b = q
    · subst h
      rw [va_up_self]
      exact hn
    · rw [va_up_ne _ _ h]
      exact hN b
theorem zr_newP {atype : ArrayType} {ty : FieldType} {κ t0 : Nat} {n : Int32} (hd : decode md.2.1 pc = .ok (.newarray atype, 2)) (hty : newarray.typeOf atype = ty) (hk : (ty = .byte ∧ κ = 14 ∧ t0 = 0) ∨ (ty = .int ∧ κ = 15 ∧ t0 = 1) ∨ (ty = .boolean ∧ κ = 16 ∧ t0 = 2) ∨ (ty = .long ∧ κ = 17 ∧ t0 = 3))
    (hlk : Cond.arrayClass ty ∈ lw_tbl) (hn : ¬ n < 0) (hb : zC M + 1 ≤ 600128 ∧ zS M + n.toNatClampNeg ≤ 7301098) (kk : ∀ q, zK M q = 0 → zw G md d k0 n0 Q (pc + 2) lv (.ref q :: st) (znewA M q κ n.toNatClampNeg)) : zw G md d k0 n0 Q pc lv (.int n :: st) M := by
  intro p e R s m args below meth c9 H locs ls B hr hm hw hS hl
  obtain ⟨L, hL, hP, hD, hF, hN⟩ := hw
  have hO := B.2.2.2.2.2.2.2.2
  have hsz : n.toNatClampNeg < 2 ^ 31 := by omega
  have harr : (Cond.arrayClass (newarray.typeOf atype)).before args s = true := by rw [hty]; exact zgw_use rfl (hO.1 _ hlk rfl) args
  have hA : ∀ q, s.heap.size ≤ q → gA G q := fun q h => Nat.le_trans hO.2.2.2.2.2.2.2.2.1 h
  have hcl : ∀ (cA : ClassId) (k : Nat) (t : FieldType), va_K (gD G) vwCl (zTys (gi G) ++ [(cA, t)]) s → (zTys (gi G))[k]? = some (gi G k, t) → (∀ C, t ≠ .object C) → cA = gi G k := by
    intro cA k t hK hk ht
    have h1 := (hK.2 (zTys (gi G)).length (cA, t) (by rw [List.getElem?_append_right (Nat.le_refl _), Nat.sub_self]; rfl)).2
    have h2 := (hO.2.1.2 k (gi G k, t) hk).2
    cases t with
    | object C => exact absurd rfl (ht C)
    | _ => exact Option.some.inj (h1.symm.trans h2)
  rcases hk with ⟨rfl, rfl, rfl⟩ | ⟨rfl, rfl, rfl⟩ | ⟨rfl, rfl, rfl⟩ | ⟨rfl, rfl, rfl⟩
  · refine va_newa (a0 := (n.toNatClampNeg, .inl (fun _ => 0))) B.1 B.2.1 harr hty hO.2.1 hP hD hS hA (fun _ => rfl) hn rfl (by simp only [componentBytes]; omega) (by omega) (by omega) hd (fun q cA H1 hK1 hP1 hD1 hS1 => ?_)
    have e0 := hcl cA 0 _ hK1 rfl (fun _ h => by cases h)
    subst e0
    exact znewA_end B hr hm (by omega) hsz hL hF hN (by rw [zE_B (znewA_K M q 14 _), znewA_N, znewA_A]) hP1 hD1 hS1 hl kk
  · refine va_newa (a0 := (n.toNatClampNeg, .inl (fun _ => 0))) B.1 B.2.1 harr hty hO.2.1 hP hD hS hA (fun _ => rfl) hn rfl (by simp only [componentBytes]; omega) (by omega) (by omega) hd (fun q cA H1 hK1 hP1 hD1 hS1 => ?_)
    have e0 := hcl cA 1 _ hK1 rfl (fun _ h => by cases h)
    subst e0
    exact znewA_end B hr hm (by omega) hsz hL hF hN (by rw [zE_I (znewA_K M q 15 _), znewA_N, znewA_A]) hP1 hD1 hS1 hl kk
  · refine va_newa (a0 := (n.toNatClampNeg, .inl (fun _ => 0))) B.1 B.2.1 harr hty hO.2.1 hP hD hS hA (fun _ => rfl) hn rfl (by simp only [componentBytes]; omega) (by omega) (by omega) hd (fun q cA H1 hK1 hP1 hD1 hS1 => ?_)
    have e0 := hcl cA 2 _ hK1 rfl (fun _ h => by cases h)
    subst e0
    exact znewA_end B hr hm (by omega) hsz hL hF hN (by rw [zE_Z (znewA_K M q 16 _), znewA_N, znewA_A]) hP1 hD1 hS1 hl kk
  · refine va_newa (a0 := (n.toNatClampNeg, .inr (.inl (fun _ => 0)))) B.1 B.2.1 harr hty hO.2.1 hP hD hS hA (fun _ => rfl) hn rfl (by simp only [componentBytes]; omega) (by omega) (by omega) hd (fun q cA H1 hK1 hP1 hD1 hS1 => ?_)
    have e0 := hcl cA 3 _ hK1 rfl (fun _ h => by cases h)
    subst e0
    exact znewA_end B hr hm (by omega) hsz hL hF hN (by rw [zE_J (znewA_K M q 17 _), znewA_N, znewA_J]) hP1 hD1 hS1 hl kk
theorem zr_newQ {idx κ t0 : Nat} {C : String} {n : Int32} (hd : decode md.2.1 pc = .ok (.anewarray idx, 3)) (hk : (C = RX4 ∧ κ = 18 ∧ t0 = 4) ∨ (C = RX8 ∧ κ = 19 ∧ t0 = 5)) (hlk : Cond.classLink md.1.cls idx C ∈ lw_tbl) (hlk2 : Cond.arrayOver (.object C) ∈ lw_tbl)
    (hn : ¬ n < 0) (hb : zC M + 1 ≤ 600128 ∧ zS M + n.toNatClampNeg ≤ 7301098) (kk : ∀ q, zK M q = 0 → zw G md d k0 n0 Q (pc + 3) lv (.ref q :: st) (znewA M q κ n.toNatClampNeg)) : zw G md d k0 n0 Q pc lv (.int n :: st) M := by
  intro p e R s m args below meth c9 H locs ls B hr hm hw hS hl
  obtain ⟨L, hL, hP, hD, hF, hN⟩ := hw
  have hO := B.2.2.2.2.2.2.2.2
  have hsz : n.toNatClampNeg < 2 ^ 31 := by omega
  have hA : ∀ q, s.heap.size ≤ q → gA G q := fun q h => Nat.le_trans hO.2.2.2.2.2.2.2.2.1 h
  refine va_newq B.1 B.2.1 B.2.2.2.2.2.1 (zgw_use rfl (hO.1 _ hlk rfl) args) (show va_AO C s from hO.1 _ hlk2 rfl) hO.2.1 hP hD hS hA hn rfl (by omega) (by omega) (by omega) hd (fun q cA H1 hK1 hP1 hD1 hS1 => ?_)
  have h1 := (hK1.2 (zTys (gi G)).length (cA, .object C) (by rw [List.getElem?_append_right (Nat.le_refl _), Nat.sub_self]; rfl)).2
  obtain ⟨_, _, _, _, _, h1⟩ := h1
  rcases hk with ⟨rfl, rfl, rfl⟩ | ⟨rfl, rfl, rfl⟩
  · obtain ⟨_, _, _, _, _, h2⟩ := (hO.2.1.2 4 (gi G 4, .object RX4) rfl).2
    have e0 : cA = gi G 4 := Option.some.inj (h1.symm.trans h2)
    subst e0
    exact znewA_end B hr hm (by omega) hsz hL hF hN (by rw [zE_V (znewA_K M q 18 _), znewA_N, znewA_B]) hP1 hD1 hS1 hl kk
  · obtain ⟨_, _, _, _, _, h2⟩ := (hO.2.1.2 5 (gi G 5, .object RX8) rfl).2
    have e0 : cA = gi G 5 := Option.some.inj (h1.symm.trans h2)
    subst e0
    exact znewA_end B hr hm (by omega) hsz hL hF hN (by rw [zE_T (znewA_K M q 19 _), znewA_N, znewA_B]) hP1 hD1 hS1 hl kk
theorem zr_objInit {idx a : Nat} (hd : decode md.2.1 pc = .ok (.invokespecial idx, 3)) (hlk : Cond.methodLink md.1.cls idx Lib.objectInit ∈ lw_tbl) (hst : (st.map fun v => v.category).sum ≤ 8) (hd1 : 1 ≤ d) (kk : zw G md d k0 n0 Q (pc + 3) lv st M) : zw G md d k0 n0 Q pc lv (.ref a :: st) M := by
  intro p e R s m args below meth c9 H locs ls B hr hm hw hS hl
  have hO := B.2.2.2.2.2.2.2.2
  refine W.objInit B.1 B.2.1 B.2.2.2.2.2.1 (zgw_use rfl (hO.1 _ hlk rfl) args) (zgw_use rfl (hO.1 _ (show Cond.instanceMethod Lib.objectInit ∈ lw_tbl by decide +kernel) rfl) args) (zgw_use rfl (hO.1 _ (show Cond.code Lib.objectInit ⟨#[0xb1]⟩ 1 none ∈ lw_tbl by decide +kernel) rfl) args) rfl (by show ls.size = _; rw [hl.1, B.2.2.2.2.1]) rfl hd (by omega) ?_ (kk p e R s m args below meth c9 H locs ls B hr hm hw hS hl)
  have := lv_room (m := m) (pc := pc) (ls := ls) (rest := (.ref a :: st)) (st := st) hst
  omega
/-- a return: what the row of the kit gives, as zZ -/
theorem zret {M : zM} {p : Program} {e : Env} {R : Room} {s : State} {m : MethodId} {args : Array Value} {below : List Frame} {meth : Method} {c9 : Code} {H : Heap} {locs : List Loc} {v : Option Value} {g : JFrame} (hm : k0 ≤ zC M ∧ n0 ≤ zS M) (hw : zW G M H) (hq : Q (.inl v) M)
    (h : W p (gL G) e R s m args below meth c9 H locs (zC M - k0) (zS M - n0) (MQ below (fun _ _ o t => o = .returned v ∧ t.heap = H) args s (zC M - k0) (zS M - n0) (gA G)) g) : W p (gL G) e R s m args below meth c9 H locs (zC M - k0) (zS M - n0) (zZ G k0 n0 Q below s) g := by
  intro T hT X
  obtain ⟨t, a1, o, b1, b2, ⟨b3, b4⟩, L, b5, b6⟩ := h T hT X
  exact ⟨t, a1, o, b1, b2, .inl v, M, L, b3, hq, by rw [b4]; exact hw, hm.1, hm.2, b5.2.1, b5.2.2, b6⟩
theorem zr_iret {v : Int32} (hd : decode md.2.1 pc = .ok (.ireturn, 1)) (ht : md.2.2.2.1 = some .int) (hq : Q (.inl (some (.int v))) M) : zw G md d k0 n0 Q pc lv [.int v] M := by
  intro p e R s m args below meth c9 H locs ls B hr hm hw hS hl
  exact zret hm hw hq (W.iret B.1 B.2.1 (B.2.2.1.trans ht) (fun t h _ => ⟨rfl, h⟩) hS.2.2 hd B.2.2.2.1)
theorem zr_zret {v : Int32} (hd : decode md.2.1 pc = .ok (.ireturn, 1)) (ht : md.2.2.2.1 = some .boolean) (hv : v = 0 ∨ v = 1) (hq : Q (.inl (some (.int v))) M) : zw G md d k0 n0 Q pc lv [.int v] M := by
  intro p e R s m args below meth c9 H locs ls B hr hm hw hS hl
  exact zret hm hw hq (W.zret B.1 B.2.1 (B.2.2.1.trans ht) (by rcases hv with rfl | rfl <;> rfl) (fun t h _ => ⟨rfl, h⟩) hS.2.2 hd B.2.2.2.1)
theorem zr_lret {v : Int64} (hd : decode md.2.1 pc = .ok (.lreturn, 1)) (ht : md.2.2.2.1 = some .long) (hq : Q (.inl (some (.long v))) M) : zw G md d k0 n0 Q pc lv [.long v] M := by
  intro p e R s m args below meth c9 H locs ls B hr hm hw hS hl
  exact zret hm hw hq (W.lret B.1 B.2.1 (B.2.2.1.trans ht) (fun t h _ => ⟨rfl, h⟩) hS.2.2 hd B.2.2.2.1)
theorem zr_vret (hd : decode md.2.1 pc = .ok (.return_, 1)) (ht : md.2.2.2.1 = none) (hq : Q (.inl none) M) : zw G md d k0 n0 Q pc lv [] M := by
  intro p e R s m args below meth c9 H locs ls B hr hm hw hS hl
  exact zret hm hw hq (W.vret B.1 B.2.1 (B.2.2.1.trans ht) (fun t h _ => ⟨rfl, h⟩) hS.2.2 hd B.2.2.2.1)
theorem zr_aret {v : Value} {rt : FieldType} (hd : decode md.2.1 pc = .ok (.areturn, 1)) (ht : md.2.2.2.1 = some rt) (hrt : (∃ n, rt = .object n) ∨ ∃ t, rt = .array t) (hv : v = .null ∨ ∃ a, v = .ref a) (hq : Q (.inl (some v)) M) : zw G md d k0 n0 Q pc lv [v] M := by
  intro p e R s m args below meth c9 H locs ls B hr hm hw hS hl
  exact zret hm hw hq (W.aret B.1 B.2.1 (B.2.2.1.trans ht) hrt hv (fun t h _ => ⟨rfl, h⟩) hS.2.2 hd B.2.2.2.1)
end ZN
end
section
/-! ===== CONTRACTS, CALLS, THROWS ===== -/
def zcode (md : zD) : Cond := match md.2.2.2.2 with
  | [] => .code md.1 md.2.1 md.2.2.1 md.2.2.2.1
  | h :: t => .codeWith md.1 md.2.1 md.2.2.1 md.2.2.2.1 (h :: t)
theorem zcode_spec {md : zD} {a : Array Value} {U : State} {mk : MethodId} (h : (zcode md).before a U = true) (hn : U.methodNamed? md.1 = some mk) :
    ∃ (meth : Method) (c : Code), U.vm.method? mk = some meth ∧ meth.code = some c ∧ c.code = md.2.1 ∧ c.maxLocals = md.2.2.1 ∧ meth.sig.returnType = md.2.2.2.1 ∧ meth.locks = false ∧ c.exceptionTable.toList = tableOf md.2.2.2.2 ∧ parseMethodDescriptor md.1.desc = some meth.sig := by
  unfold zcode at h
  split at h
  · rename_i e
    obtain ⟨meth, c, h1, h2, h3, h4, h5, h6, h7, h8⟩ := Cond.code_spec hn h
    refine ⟨meth, c, h1, h2, h3, h4, h5, h6, ?_, h8⟩
    rw [e, Array.isEmpty_iff.mp h7]
    rfl
  · rename_i x t e
    obtain ⟨m9, meth, c, hn9, h1, h2, h3, h4, h5, h6, h7, h8⟩ := Cond.codeWith_spec h
    cases Option.some.inj (hn9.symm.trans hn)
    refine ⟨meth, c, h1, h2, h3, h4, h6, h7, ?_, h8⟩
    rw [e, ← h5, table_eq]
abbrev zroom (d : Nat) (M : zM) : Room := { frames := d, cells := 600128 - zC M, slots := 7301098 - zS M, locals := 38 * d }
def zPc (G : zG) (As : List Value) (M : zM) : Array Value → State → Prop := fun a U => a = As.toArray ∧ zO G U U.heap ∧ zW G M U.heap
/-- THE CONTRACT: called with As in the memory M, d frames deep, md comes to Q -/
def zMet (G : zG) (md : zD) (d : Nat) (As : List Value) (M : zM) (Q : zOut → zM → Prop) : Prop :=
  MetFree (gL G) md.1 (headSpec [zcode md] (zroom d M)) (zPc G As M) (fun _ _ _ _ _ => True) (fun _ st o t => zQ G (zC M) (zS M) Q st o t)
def zsl (x : Slot) : Option Value := match x with
  | .val v => some v
  | _ => none
def zent (As : List Value) (n : Nat) : List (Option Value) := (lg_sl As ++ List.replicate (n - (lg_sl As).length) Slot.unset).map zsl
theorem zMet_of {G : zG} {md : zD} {d : Nat} {As : List Value} {M : zM} {Q : zOut → zM → Prop} {lv : List (Option Value)} (hpl : plainName md.1.cls = true) (hlen : (lg_sl As).length ≤ md.2.2.1) (he : zent As md.2.2.1 = lv) (hc : zC M ≤ 600128 ∧ zS M ≤ 7301098)
    (k : zw G md d (zC M) (zS M) Q 0 lv [] M) : zMet G md d As M Q := by
  refine MetFree.of_bodyS (code := md.2.1) (maxLocals := md.2.2.1) (ret := md.2.2.2.1) hpl ?_ ?_
  · intro args s m h hn
    obtain ⟨meth, c, h1, h2, h3, h4, h5, h6, -, -⟩ := zcode_spec (atoms_spec (ws := [zcode md]) h _ List.mem_cons_self) hn
    exact ⟨meth, c, h1, h2, h3, h4, h5, h6⟩
  · intro p e s m args below meth c s₁ B hml hP _
    obtain ⟨rfl, hO, hw⟩ := hP
    have hh0 : s₁.heap = s.heap := by rw [B.state]; rfl
    obtain ⟨meth9, c9, h1, h2, h3, h4, h5, h6, h7, -⟩ := zcode_spec (atoms_spec (ws := [zcode md]) B.pre _ List.mem_cons_self) B.named
    cases Option.some.inj (h1.symm.trans B.method)
    cases Option.some.inj (h2.symm.trans (Stand.of_body B).code)
    have hl := lv_entry As (n := md.2.2.1) hlen
    have hz : zlv ((lg_sl As ++ List.replicate (md.2.2.1 - (lg_sl As).length) Slot.unset).toArray) md.2.2.1 lv := by
      refine ⟨hl.1, hl.2.1, fun i v h => ?_⟩
      subst he
      unfold zent at h
      rw [List.getElem?_map] at h
      rw [List.getElem?_toArray]
      cases hx : (lg_sl As ++ List.replicate (md.2.2.1 - (lg_sl As).length) Slot.unset)[i]? with
      | none => rw [hx] at h; cases h
      | some x =>
        rw [hx] at h
        cases x <;> simp [zsl] at h
        rw [h]
    have K := k p e (headSpec [zcode md] (zroom d M)).room s m As.toArray below meth c s.heap [] _ ⟨B.exec, B.bytes, B.returns, B.notSynchronized, hml, findClass_of_methodNamed B.named, (name_of_methodNamed B.named B.method).1, h7, hO⟩ ⟨Nat.le_refl _, Nat.le_refl _, by show _ ≤ zC M + (600128 - zC M); omega, by show _ ≤ zS M + (7301098 - zS M); omega⟩ ⟨Nat.le_refl _, Nat.le_refl _⟩ hw va_S.rf hz
    rw [Nat.sub_self, Nat.sub_self, ← lg_entry_eq] at K
    obtain ⟨t, a1, o, b1, b2, b3⟩ := K s₁ hh0 (Stand.of_body B)
    exact ⟨t, o, a1, b1, b2, b3⟩
theorem zMet.mono {G : zG} {md : zD} {d : Nat} {As : List Value} {M : zM} {Q Q' : zOut → zM → Prop} (h : zMet G md d As M Q) (hq : ∀ r M', Q r M' → Q' r M') : zMet G md d As M Q' := by
  intro p e ha hc hk s m args below hf happ hP hK
  obtain ⟨n, o, h1, h2, h3, r, M', Ls, q1, q2, q3⟩ := h p e ha hc hk s m args below hf happ hP hK
  exact ⟨n, o, h1, h2, h3, r, M', Ls, q1, hq r M' q2, q3⟩
/-- what a call leaves behind it, seen from the caller's point A -/
def zAft (G : zG) (M M' : zM) (A B : Pt) : Prop := zW G M' B.U.heap ∧ zC M ≤ zC M' ∧ zS M ≤ zS M' ∧ (∃ Ls, B.locs = A.locs ++ Ls ∧ ∀ z ∈ Ls, gh G ≤ z.base) ∧ B.cells = A.cells + (zC M' - zC M) ∧ B.slots = A.slots + (zS M' - zS M) ∧ A.U.heap.size ≤ B.U.heap.size ∧ ∀ q : Nat, q < A.U.heap.size → ¬ gA G q → B.U.heap[q]? = A.U.heap[q]?
def zPre (G : zG) (R : Room) (As : List Value) (M : zM) : Pt → Array Value → Prop := fun A a => A.cells + (600128 - zC M) ≤ R.cells ∧ A.slots + (7301098 - zS M) ≤ R.slots ∧ zPc G As M a A.U
def zPost (G : zG) (M : zM) (Q' : zOut → zM → Prop) : Pt → Array Value → Option Value → Pt → Prop := fun A _ v B => ∃ M', Q' (.inl v) M' ∧ zAft G M M' A B
def zPostX (G : zG) (M : zM) (Q' : zOut → zM → Prop) : Pt → Array Value → Addr → Pt → Prop := fun A _ q B => ∃ (k : Nat) (M' : zM) (ce : Cell), Q' (.inr k) M' ∧ zAft G M M' A B ∧ B.U.heap[q]? = some ce ∧ ce.vm = .none ∧ A.U.vm.findClass (zex k) = some ce.cls
section ZB
variable {G : zG} {R : Room} {p : Program} {e : Env} {below : List Frame} {s : State} {sargs : Array Value}
theorem z_back {md : zD} {d : Nat} {As : List Value} {M : zM} {Q' : zOut → zM → Prop} {len W9 : Nat} (hM : zMet G md d As M Q') (hframes : d + 1 ≤ R.frames) (hlocals : W9 + (md.2.2.1 + 11) + 38 * d ≤ R.locals)
    (hcode : ∀ (a' : Array Value) (U : State), s.WarmedH U.vm → (zcode md).before a' U = true) (hinit : ∀ (a' : Array Value) (U : State), s.WarmedH U.vm → (Cond.initialized md.1.cls).before a' U = true) :
    vx_Back (gL G) R p e below s sargs md.1 len W9 (zPre G R As M) (zPost G M Q') (zPostX G M Q') := by
  intro m meth c A g ig mk a X hg hsize hdg hW hn hp
  have h1 : (headSpec [zcode md] (zroom d M)).pre.before a A.U = true := atoms_intro fun w hw => by
    rw [List.mem_singleton] at hw
    rw [hw]
    exact hcode _ _ X.warmed
  have h2 : (zcode md).before a A.U = true := hcode _ _ X.warmed
  have h3 : (Cond.initialized md.1.cls).before a A.U = true := hinit _ _ X.warmed
  have h4 : A.cells + (headSpec [zcode md] (zroom d M)).room.cells ≤ R.cells := hp.1
  have h5 : A.slots + (headSpec [zcode md] (zroom d M)).room.slots ≤ R.slots := hp.2.1
  have hPc : zPc G As M a (A.U.calling g mk a) := ⟨hp.2.2.1, zO.moved (u := A.U) (U := A.U.calling g mk a) (State.WarmedH.refl _) ⟨Nat.le_refl _, fun _ _ _ => rfl⟩ hp.2.2.2.1, hp.2.2.2.2⟩
  obtain ⟨U, Ls, c0, s0⟩ := A
  dsimp only [Pt.U, Pt.locs, Pt.cells, Pt.slots] at h1 h2 h3 h4 h5 X hn hPc ⊢
  obtain ⟨methY, cY, hmY, hcY, -, hlY, -, -, -, -⟩ := zcode_spec h2 hn
  obtain ⟨kY, hkY, -⟩ := className_of_methodNamed hn
  have hinitY : kY.init = .initialized := Cond.initialized_spec (findClass_of_methodNamed hn) hkY h3
  have h : At U g.method c below := by rw [hg]; exact X.here
  have hlocals9 : W9 + (md.2.2.1 + 11) + (headSpec [zcode md] (zroom d M)).room.locals ≤ R.locals := hlocals
  have happ : (headSpec [zcode md] (zroom d M)).appliesLoose md.1 e.platform (U.calling g mk a) = true :=
    Spec.appliesLoose_calling (g := g) h hdg hn hkY hinitY
      (X.room_calling (g := g) (R' := (headSpec [zcode md] (zroom d M)).room) hsize hmY hcY hframes (by rw [hlY]; omega) h4 h5) h1
  obtain ⟨mid, hmid⟩ := h.above
  have hfr : (U.setTop g).frames = (.java g :: mid) ++ below := by rw [State.frames_setTop' g h.top, hmid]; rfl
  obtain ⟨o, s₂, hsteps, -, hend, hq⟩ := Steps.callFree hM p X.admits X.cas X.clock (acts := []) hfr happ hPc trivial
  have hq' : zQ G (zC M) (zS M) Q' (U.calling g mk a) o s₂ := hq
  rw [State.frames_setTop' g h.top] at hend
  obtain ⟨g₀, hg0⟩ := Option.isSome_iff_exists.mp h.top
  obtain ⟨r, hr⟩ := State.topJava?_eq_some.mp hg0
  have hr' : (({ U with heap := s₂.heap, slotsUsed := s₂.slotsUsed } : State).setVm s₂.vm).frames = .java g₀ :: r := hr
  obtain ⟨out, M', L, hok, hqm, hwm, hk1, hk2, hW₂, hsm, hL⟩ := hq'
  obtain ⟨e2, q2, q3, q4, q5, q6⟩ := id hsm
  have e3 : s₂ = ({ (U.calling g mk a).setFrames s₂.frames with heap := s₂.heap, slotsUsed := s₂.slotsUsed } : State).setVm s₂.vm := by
    have : s₂ = ({ s₂ with vm := (U.calling g mk a).vm } : State).setVm s₂.vm := rfl
    rw [e2] at this
    exact this
  have hW' : U.WarmedH s₂.vm := hW₂
  have hfrm := vx_frame hsm
  have hsame : U.sameButNew ({ U with heap := s₂.heap, slotsUsed := s₂.slotsUsed } : State) L (zC M' - zC M) (zS M' - zS M) := by
    refine ⟨?_, q2, q3, q4, q5, q6⟩
    obtain ⟨t, ht, -⟩ := State.frames_cons hr
    show ({ U with heap := s₂.heap, slotsUsed := s₂.slotsUsed } : State) = { U.setFrames U.frames with heap := s₂.heap, slotsUsed := s₂.slotsUsed }
    rw [State.setFrames_self ht]
  have haft : zAft G M M' ⟨U, Ls, c0, s0⟩ ⟨(({ U with heap := s₂.heap, slotsUsed := s₂.slotsUsed } : State).setVm s₂.vm), Ls ++ L, c0 + (zC M' - zC M), s0 + (zS M' - zS M)⟩ :=
    ⟨hwm, hk1, hk2, ⟨L, rfl, hL⟩, rfl, rfl, hfrm.1, fun q h1 h2 => hfrm.2 q h1 (fun z hz e9 => h2 (by rw [← e9]; exact hL z hz))⟩
  cases out with
  | inl v =>
    have ho : o = .returned v := hok
    subst ho
    obtain ⟨c₂, i₂, len₂, hc₂, hd₂, hf₂⟩ := hend
    have hcc : c₂ = c := by
      have h1 : s₂.code? g.method = U.code? g.method := by
        rw [State.code?_eq, State.code?_eq, hW'.alike.method?]
      exact Option.some.inj (hc₂.symm.trans (h1.trans h.code))
    subst hcc
    have hlen : len₂ = len := by rw [hdg] at hd₂; cases hd₂; rfl
    subst hlen
    have hs₂ : s₂ = (({ U with heap := s₂.heap, slotsUsed := s₂.slotsUsed } : State).setVm s₂.vm).setTop { g with pc := g.pc + len₂, stack := v.toList ++ g.stack } := by
      refine e3.trans ?_
      rw [hf₂, State.calling_eq h.top, State.setFrames_setFrames, State.setTop_of_frames _ hr', hr]
      rfl
    subst hg
    refine Or.inl ⟨v, ⟨(({ U with heap := s₂.heap, slotsUsed := s₂.slotsUsed } : State).setVm s₂.vm), Ls ++ L, c0 + (zC M' - zC M), s0 + (zS M' - zS M)⟩,
      ⟨X.admits, X.cas, X.clock, X.frames, X.room, X.hears, X.method, X.code, (X.here.setHeapUsed s₂.heap s₂.slotsUsed).setVm hW'.alike, X.tail, State.WarmedH.trans X.warmed hW', X.limits, X.bytes, X.same.trans (hsame.setVm s.vm)⟩,
      ⟨M', hqm, haft⟩, ?_⟩
    show Steps p.tables e below _ ((({ U with heap := s₂.heap, slotsUsed := s₂.slotsUsed } : State).setVm s₂.vm).setTop { g with pc := g.pc + len₂, stack := v.toList ++ g.stack })
    rw [← hs₂]
    exact hsteps
  | inr k =>
    obtain ⟨q, ce, rfl, hce, hcv, hcl⟩ := hok
    have hf₂ : s₂.frames = .throwing q :: .java g :: U.frames.tail := hend
    have hs₂ : s₂ = ((({ U with heap := s₂.heap, slotsUsed := s₂.slotsUsed } : State).setVm s₂.vm).setTop g).pushFrame (.throwing q) := by
      refine e3.trans ?_
      rw [hf₂, State.calling_eq h.top, State.setFrames_setFrames, State.pushFrame, State.frames_setTop _ hr', State.setTop_of_frames _ hr', State.setFrames_setFrames, hr]
      rfl
    subst hg
    refine Or.inr ⟨q, ⟨(({ U with heap := s₂.heap, slotsUsed := s₂.slotsUsed } : State).setVm s₂.vm), Ls ++ L, c0 + (zC M' - zC M), s0 + (zS M' - zS M)⟩,
      ⟨X.admits, X.cas, X.clock, X.frames, X.room, X.hears, X.method, X.code, (X.here.setHeapUsed s₂.heap s₂.slotsUsed).setVm hW'.alike, X.tail, State.WarmedH.trans X.warmed hW', X.limits, X.bytes, X.same.trans (hsame.setVm s.vm)⟩,
      ⟨k, M', ce, hqm, haft, hce, hcv, hcl⟩, ?_⟩
    show Steps p.tables e below _ (((({ U with heap := s₂.heap, slotsUsed := s₂.slotsUsed } : State).setVm s₂.vm).setTop g).pushFrame (.throwing q))
    rw [← hs₂]
    exact hsteps
end ZB
end
section
/-! ===== ROWS of zw: calls and throws ===== -/
/-- a method that can be called: its words stand in the tables; n: how many arguments -/
def zmOk (md : zD) (n : Nat) : Prop := zcode md ∈ lw_tbl ∧ zgw (zcode md) = true ∧ Cond.initialized md.1.cls ∈ lw_tbl ∧ (md.1.cls ≠ "java/lang/invoke/MethodHandle" ∧ md.1.cls ≠ "java/lang/invoke/VarHandle") ∧ (parseMethodDescriptor md.1.desc).map (fun d => d.parameters.length) = some n ∧ md.2.2.1 ≤ 19
theorem zmOk.len {md : zD} {n : Nat} (h : zmOk md n) : ∀ sig, parseMethodDescriptor md.1.desc = some sig → n = sig.parameters.length := fun sig h9 => by
  have h2 := h.2.2.2.2.1
  rw [h9] at h2
  exact (Option.some.inj h2).symm
section ZV
variable {G : zG} {md : zD} {d k0 n0 : Nat} {Q : zOut → zM → Prop} {pc : Nat} {lv : List (Option Value)} {st : List Value} {M : zM}
/-- an exception of class k stands over the frame at pc -/
def zt (G : zG) (md : zD) (d k0 n0 : Nat) (Q : zOut → zM → Prop) (pc : Nat) (lv : List (Option Value)) (k : Nat) (M : zM) : Prop :=
  ∀ (p : Program) (e : Env) (R : Room) (s : State) (m : MethodId) (args : Array Value) (below : List Frame) (meth : Method) (c : Code) (H : Heap) (locs : List Loc) (ls : Array Slot) (st : List Value) (q : Addr) (ce : Cell),
    zBd G md p s m meth c → (d ≤ R.frames ∧ 38 * d ≤ R.locals ∧ 600128 ≤ k0 + R.cells ∧ 7301098 ≤ n0 + R.slots) → (k0 ≤ zC M ∧ n0 ≤ zS M) → zW G M H → va_S (gA G) s.heap H locs → zlv ls md.2.2.1 lv → H[q]? = some ce → ce.vm = .none → s.vm.findClass (zex k) = some ce.cls →
    vx_W p (gL G) e R s m args below meth c H locs (zC M - k0) (zS M - n0) (zZ G k0 n0 Q below s) (F0 m pc ls st) q
theorem zt_out {k : Nat} (hh : md.2.2.2.2 = []) (hq : Q (.inr k) M) : zt G md d k0 n0 Q pc lv k M := by
  intro p e R s m args below meth c H locs ls st q ce B hr hm hw hS hl hce hcv hcl T hT X
  obtain ⟨st1, hrun, hend, hW, hsm⟩ := X.leaveThrown q (g := F0 m pc ls st) rfl rfl rfl (fun x hx => by rw [B.2.2.2.2.2.2.2.1, hh] at hx; cases hx) B.2.2.2.1
  refine ⟨_, st1, .threw q, hrun, hend, .inr k, M, locs, ⟨q, ce, rfl, ?_, hcv, hcl⟩, hq, ?_, hm.1, hm.2, hW, hsm, hS.2.2⟩
  · show T.heap[q]? = some ce
    rw [hT]; exact hce
  · show zW G M T.heap
    rw [hT]; exact hw
theorem zpre {p : Program} {R : Room} {s : State} {m : MethodId} {meth : Method} {c : Code} {H : Heap} {locs : List Loc} {As : List Value} (B : zBd G md p s m meth c) (hr : d ≤ R.frames ∧ 38 * d ≤ R.locals ∧ 600128 ≤ k0 + R.cells ∧ 7301098 ≤ n0 + R.slots) (hm : k0 ≤ zC M ∧ n0 ≤ zS M) (hb : zC M ≤ 600128 ∧ zS M ≤ 7301098) (hw : zW G M H) (hS : va_S (gA G) s.heap H locs) {T : State} (hT : T.heap = H) :
    ∀ vm₁, s.WarmedH vm₁ → zPre G R As M ⟨T.setVm vm₁, locs, zC M - k0, zS M - n0⟩ As.toArray := by
  intro vm₁ hW₁
  refine ⟨by show zC M - k0 + (600128 - zC M) ≤ R.cells; omega, by show zS M - n0 + (7301098 - zS M) ≤ R.slots; omega, rfl, ?_, ?_⟩
  · refine zO.moved (u := s) (H := s.heap) hW₁ ⟨?_, ?_⟩ B.2.2.2.2.2.2.2.2
    · show s.heap.size ≤ T.heap.size
      rw [hT]; exact hS.1
    · show ∀ q : Nat, q < s.heap.size → ¬ gA G q → T.heap[q]? = s.heap[q]?
      rw [hT]; exact hS.2.1
  · show zW G M T.heap
    rw [hT]; exact hw
theorem zaft {p : Program} {s : State} {m : MethodId} {meth : Method} {c : Code} {H : Heap} {locs : List Loc} {M' : zM} {A B9 : Pt} (hm : k0 ≤ zC M ∧ n0 ≤ zS M) (hS : va_S (gA G) s.heap H locs) (hA : A.U.heap = H) (hAl : A.locs = locs) (hAc : A.cells = zC M - k0) (hAs : A.slots = zS M - n0) (h : zAft G M M' A B9) :
    (k0 ≤ zC M' ∧ n0 ≤ zS M') ∧ zW G M' B9.U.heap ∧ va_S (gA G) s.heap B9.U.heap B9.locs ∧ B9.cells = zC M' - k0 ∧ B9.slots = zS M' - n0 := by
  obtain ⟨h1, h2, h3, ⟨Ls, h4, h5⟩, h6, h7, h8, h9⟩ := h
  rw [hA] at h8 h9
  refine ⟨⟨by omega, by omega⟩, h1, ⟨Nat.le_trans hS.1 h8, fun q hq hn => ?_, fun l hl => ?_⟩, by omega, by omega⟩
  · rw [h9 q (Nat.lt_of_lt_of_le hq hS.1) hn]
    exact hS.2.1 q hq hn
  · rw [h4, hAl] at hl
    rcases List.mem_append.mp hl with h | h
    · exact hS.2.2 l h
    · exact h5 l h
theorem zr_callV {md' : zD} {d' idx c a n : Nat} {As : List Value} {Q' : zOut → zM → Prop} (hd : decode md.2.1 pc = .ok (.invokevirtual idx, 3)) (hlk : Cond.methodLink md.1.cls idx md'.1 ∈ lw_tbl) (hok : zmOk md' n) (hnil : md'.2.2.2.2 = []) (hin : Cond.instanceMethod md'.1 ∈ lw_tbl) (hsel : Cond.selects (zRX c) md'.1 md'.1 ∈ lw_tbl) (hc : c < 13) (hK : zK M a = c + 1)
    (hn : As.length = n) (hdep : d' + 1 ≤ d) (hst : (st.map fun v => v.category).sum ≤ 8) (hb : zC M ≤ 600128 ∧ zS M ≤ 7301098) (hM : zMet G md' d' (.ref a :: As) M Q') (kx : ∀ k M', Q' (.inr k) M' → zt G md d k0 n0 Q pc lv k M') (kk : ∀ v M', Q' (.inl v) M' → zw G md d k0 n0 Q (pc + 3) lv (v.toList ++ st) M') : zw G md d k0 n0 Q pc lv (As.reverse ++ .ref a :: st) M := by
  intro p e R s m args below meth c9 H locs ls B hr hm hw hS hl T hT X
  have hO := B.2.2.2.2.2.2.2.2
  have hw0 := hw
  obtain ⟨L, hL, hP, hD, hF, hN⟩ := hw0
  obtain ⟨q, hq⟩ := zat (f := zE (gi G) M) ((hL a).mpr (by omega))
  rw [zE_obj hK hc] at hq
  obtain ⟨r, g1, cell, g2, g3, g4, g5⟩ := hP q _ hq
  have hr9 : r = (zRX c, zTX c, zn c) := Option.some.inj (g1.symm.trans (zc_cl c hc))
  subst hr9
  obtain ⟨hSl, hfc, kC, hkC, hkind⟩ := hO.2.1.1 c _ (zc_cl c hc)
  have hback := z_back (R := R) (p := p) (e := e) (below := below) (s := s) (sargs := args) (len := 3) (W9 := 8) hM (by omega) (by have := hok.2.2.2.2.2; omega) (fun a' U hW => zgw_use hok.2.1 (zgw_warm hok.2.1 hW (hO.1 _ hok.1 hok.2.1)) a') (fun a' U hW => zgw_use rfl (zgw_warm rfl hW (hO.1 _ hok.2.2.1 rfl)) a')
  have hcode : (Cond.code md'.1 md'.2.1 md'.2.2.1 md'.2.2.2.1).before args s = true := by
    have := zgw_use hok.2.1 (hO.1 _ hok.1 hok.2.1) args
    unfold zcode at this
    rw [hnil] at this
    exact this
  rcases vx_callV X B.1 (C := zRX c) B.2.2.2.2.2.1 (zgw_use rfl (hO.1 _ hlk rfl) args) (zgw_use rfl (hO.1 _ hin rfl) args) (zgw_use rfl (hO.1 _ hsel rfl) args) hcode hok.2.2.2.1 hback (b := a) (cellB := cell) (by rw [hT]; exact g2) (by rw [g4]; rfl) (by rw [g3]; exact hfc) (g := F0 m pc ls (As.reverse ++ .ref a :: st)) rfl (by show ls.size = _; rw [hl.1, B.2.2.2.2.1]) (argsL := As) (rest := st) (fun sig h => hn.trans (hok.len sig h)) rfl (lv_room hst) (by rw [B.2.1]; exact hd) (zpre B hr hm hb hw hS hT) with ⟨v, vm₁, B9, hW₁, X', ⟨M', hq', haft⟩, hsteps⟩ | ⟨q9, vm₁, B9, hW₁, X', ⟨k, M', ce, hq', haft, hce, hcv, hcl⟩, hsteps⟩
  · obtain ⟨z1, z2, z3, z4, z5⟩ := zaft (p := p) (m := m) (meth := meth) (c := c9) hm hS (show (T.setVm vm₁).heap = H from hT) rfl rfl rfl haft
    rw [z4, z5] at X'
    obtain ⟨t, a1, b1⟩ := kk v M' hq' p e R s m args below meth c9 B9.U.heap B9.locs ls B hr z1 z2 z3 hl B9.U rfl X'
    exact ⟨t, hsteps t a1, b1⟩
  · obtain ⟨z1, z2, z3, z4, z5⟩ := zaft (p := p) (m := m) (meth := meth) (c := c9) hm hS (show (T.setVm vm₁).heap = H from hT) rfl rfl rfl haft
    rw [z4, z5] at X'
    obtain ⟨t, a1, b1⟩ := kx k M' hq' p e R s m args below meth c9 B9.U.heap B9.locs ls st q9 ce B hr z1 z2 z3 hl hce hcv (vx_cls hW₁ hcl) B9.U rfl X'
    exact ⟨t, hsteps.trans a1, b1⟩
theorem zr_callS {md' : zD} {d' idx n : Nat} {As : List Value} {Q' : zOut → zM → Prop} (hd : decode md.2.1 pc = .ok (.invokestatic idx, 3)) (hlk : Cond.methodLink md.1.cls idx md'.1 ∈ lw_tbl) (hok : zmOk md' n) (hnil : md'.2.2.2.2 = []) (hin : Cond.static md'.1 ∈ lw_tbl)
    (hn : As.length = n) (hdep : d' + 1 ≤ d) (hst : (st.map fun v => v.category).sum ≤ 8) (hb : zC M ≤ 600128 ∧ zS M ≤ 7301098) (hM : zMet G md' d' As M Q') (kx : ∀ k M', Q' (.inr k) M' → zt G md d k0 n0 Q pc lv k M') (kk : ∀ v M', Q' (.inl v) M' → zw G md d k0 n0 Q (pc + 3) lv (v.toList ++ st) M') : zw G md d k0 n0 Q pc lv (As.reverse ++ st) M := by
  intro p e R s m args below meth c9 H locs ls B hr hm hw hS hl T hT X
  have hO := B.2.2.2.2.2.2.2.2
  have hback := z_back (R := R) (p := p) (e := e) (below := below) (s := s) (sargs := args) (len := 3) (W9 := 8) hM (by omega) (by have := hok.2.2.2.2.2; omega) (fun a' U hW => zgw_use hok.2.1 (zgw_warm hok.2.1 hW (hO.1 _ hok.1 hok.2.1)) a') (fun a' U hW => zgw_use rfl (zgw_warm rfl hW (hO.1 _ hok.2.2.1 rfl)) a')
  have hcode : (Cond.code md'.1 md'.2.1 md'.2.2.1 md'.2.2.2.1).before args s = true := by
    have := zgw_use hok.2.1 (hO.1 _ hok.1 hok.2.1) args
    unfold zcode at this
    rw [hnil] at this
    exact this
  rcases vx_callS X B.1 B.2.2.2.2.2.1 (zgw_use rfl (hO.1 _ hlk rfl) args) (zgw_use rfl (hO.1 _ hin rfl) args) (zgw_use rfl (hO.1 _ hok.2.2.1 rfl) args) hcode hok.2.2.2.1 hback (g := F0 m pc ls (As.reverse ++ st)) rfl (by show ls.size = _; rw [hl.1, B.2.2.2.2.1]) (argsL := As) (rest := st) (fun sig h => hn.trans (hok.len sig h)) rfl (lv_room hst) (by rw [B.2.1]; exact hd) (zpre B hr hm hb hw hS hT) with ⟨v, vm₁, B9, hW₁, X', ⟨M', hq', haft⟩, hsteps⟩ | ⟨q9, vm₁, B9, hW₁, X', ⟨k, M', ce, hq', haft, hce, hcv, hcl⟩, hsteps⟩
  · obtain ⟨z1, z2, z3, z4, z5⟩ := zaft (p := p) (m := m) (meth := meth) (c := c9) hm hS (show (T.setVm vm₁).heap = H from hT) rfl rfl rfl haft
    rw [z4, z5] at X'
    obtain ⟨t, a1, b1⟩ := kk v M' hq' p e R s m args below meth c9 B9.U.heap B9.locs ls B hr z1 z2 z3 hl B9.U rfl X'
    exact ⟨t, hsteps t a1, b1⟩
  · obtain ⟨z1, z2, z3, z4, z5⟩ := zaft (p := p) (m := m) (meth := meth) (c := c9) hm hS (show (T.setVm vm₁).heap = H from hT) rfl rfl rfl haft
    rw [z4, z5] at X'
    obtain ⟨t, a1, b1⟩ := kx k M' hq' p e R s m args below meth c9 B9.U.heap B9.locs ls st q9 ce B hr z1 z2 z3 hl hce hcv (vx_cls hW₁ hcl) B9.U rfl X'
    exact ⟨t, hsteps.trans a1, b1⟩
/-- a callee that never throws -/
theorem z_backR {R : Room} {p : Program} {e : Env} {below : List Frame} {s : State} {sargs : Array Value} {y : MethodName} {len W9 : Nat} {l : Launch} {Pre : Pt → Array Value → Prop} {Post : Pt → Array Value → Option Value → Pt → Prop} {PostX : Pt → Array Value → Addr → Pt → Prop} (h : vx_Back l R p e below s sargs y len W9 Pre Post PostX) (hx : ∀ A a q B, ¬ PostX A a q B) : Back l R p e below s sargs y len W9 Pre Post := by
  intro m meth c A g ig mk a X hg hsize hdg hW hn hp
  rcases h m meth c A g ig mk a X hg hsize hdg hW hn hp with h1 | ⟨q, B, -, h1, -⟩
  · exact h1
  · exact absurd h1 (hx _ _ _ _)
/-- a private method of a nest mate -/
theorem zr_callVN {md' : zD} {d' idx c a n : Nat} {As : List Value} {Q' : zOut → zM → Prop} (hd : decode md.2.1 pc = .ok (.invokevirtual idx, 3)) (hlk : Cond.methodLinkNest md.1.cls idx md'.1 "LsmStore" ∈ lw_tbl) (hok : zmOk md' n) (hnil : md'.2.2.2.2 = []) (hin : Cond.instanceMethod md'.1 ∈ lw_tbl) (hsel : Cond.selects (zRX c) md'.1 md'.1 ∈ lw_tbl) (hc : c < 13) (hK : zK M a = c + 1)
    (hn : As.length = n) (hdep : d' + 1 ≤ d) (hst : (st.map fun v => v.category).sum ≤ 8) (hb : zC M ≤ 600128 ∧ zS M ≤ 7301098) (hM : zMet G md' d' (.ref a :: As) M Q') (kx : ∀ k M', ¬ Q' (.inr k) M') (kk : ∀ v M', Q' (.inl v) M' → zw G md d k0 n0 Q (pc + 3) lv (v.toList ++ st) M') : zw G md d k0 n0 Q pc lv (As.reverse ++ .ref a :: st) M := by
  intro p e R s m args below meth c9 H locs ls B hr hm hw hS hl T hT X
  have hO := B.2.2.2.2.2.2.2.2
  have hw0 := hw
  obtain ⟨L, hL, hP, hD, hF, hN⟩ := hw0
  obtain ⟨q, hq⟩ := zat (f := zE (gi G) M) ((hL a).mpr (by omega))
  rw [zE_obj hK hc] at hq
  obtain ⟨r, g1, cell, g2, g3, g4, g5⟩ := hP q _ hq
  have hr9 : r = (zRX c, zTX c, zn c) := Option.some.inj (g1.symm.trans (zc_cl c hc))
  subst hr9
  obtain ⟨hSl, hfc, kC, hkC, hkind⟩ := hO.2.1.1 c _ (zc_cl c hc)
  have hback := z_backR (z_back (R := R) (p := p) (e := e) (below := below) (s := s) (sargs := args) (len := 3) (W9 := 8) hM (by omega) (by have := hok.2.2.2.2.2; omega) (fun a' U hW => zgw_use hok.2.1 (zgw_warm hok.2.1 hW (hO.1 _ hok.1 hok.2.1)) a') (fun a' U hW => zgw_use rfl (zgw_warm rfl hW (hO.1 _ hok.2.2.1 rfl)) a')) (fun A a q B h => by obtain ⟨k, M', ce, h1, -⟩ := h; exact kx k M' h1)
  have hcode : (Cond.code md'.1 md'.2.1 md'.2.2.1 md'.2.2.2.1).before args s = true := by
    have := zgw_use hok.2.1 (hO.1 _ hok.1 hok.2.1) args
    unfold zcode at this
    rw [hnil] at this
    exact this
  obtain ⟨v, vm₁, B9, hW₁, X', ⟨M', hq', haft⟩, hsteps⟩ := va_callVN X B.1 (C := zRX c) B.2.2.2.2.2.1 (zgw_use rfl (hO.1 _ hlk rfl) args) (zgw_use rfl (hO.1 _ hin rfl) args) (zgw_use rfl (hO.1 _ hsel rfl) args) hcode hok.2.2.2.1 hback (b := a) (cellB := cell) (by rw [hT]; exact g2) (by rw [g4]; rfl) (by rw [g3]; exact hfc) (g := F0 m pc ls (As.reverse ++ .ref a :: st)) rfl (by show ls.size = _; rw [hl.1, B.2.2.2.2.1]) (argsL := As) (rest := st) (fun sig h => hn.trans (hok.len sig h)) rfl (lv_room hst) (by rw [B.2.1]; exact hd) (zpre B hr hm hb hw hS hT)
  obtain ⟨z1, z2, z3, z4, z5⟩ := zaft (p := p) (m := m) (meth := meth) (c := c9) hm hS (show (T.setVm vm₁).heap = H from hT) rfl rfl rfl haft
  rw [z4, z5] at X'
  obtain ⟨t, a1, b1⟩ := kk v M' hq' p e R s m args below meth c9 B9.U.heap B9.locs ls B hr z1 z2 z3 hl B9.U rfl X'
  exact ⟨t, hsteps t a1, b1⟩
/-- a constructor -/
theorem zr_callI {md' : zD} {d' idx a n : Nat} {As : List Value} {Q' : zOut → zM → Prop} (hd : decode md.2.1 pc = .ok (.invokespecial idx, 3)) (hlk : Cond.methodLink md.1.cls idx md'.1 ∈ lw_tbl ∨ Cond.methodLinkNest md.1.cls idx md'.1 "LsmStore" ∈ lw_tbl) (hok : zmOk md' n) (hnil : md'.2.2.2.2 = []) (hret : md'.2.2.2.1 = none) (hnm : md'.1.name = "<init>") (hin : Cond.instanceMethod md'.1 ∈ lw_tbl)
    (hn : As.length = n) (hdep : d' + 1 ≤ d) (hst : (st.map fun v => v.category).sum ≤ 8) (hb : zC M ≤ 600128 ∧ zS M ≤ 7301098) (hM : zMet G md' d' (.ref a :: As) M Q') (kx : ∀ k M', ¬ Q' (.inr k) M') (kk : ∀ v M', Q' (.inl v) M' → zw G md d k0 n0 Q (pc + 3) lv (v.toList ++ st) M') : zw G md d k0 n0 Q pc lv (As.reverse ++ .ref a :: st) M := by
  intro p e R s m args below meth c9 H locs ls B hr hm hw hS hl T hT X
  have hO := B.2.2.2.2.2.2.2.2
  have hback := z_backR (z_back (R := R) (p := p) (e := e) (below := below) (s := s) (sargs := args) (len := 3) (W9 := 8) hM (by omega) (by have := hok.2.2.2.2.2; omega) (fun a' U hW => zgw_use hok.2.1 (zgw_warm hok.2.1 hW (hO.1 _ hok.1 hok.2.1)) a') (fun a' U hW => zgw_use rfl (zgw_warm rfl hW (hO.1 _ hok.2.2.1 rfl)) a')) (fun A a q B h => by obtain ⟨k, M', ce, h1, -⟩ := h; exact kx k M' h1)
  have hcode : (Cond.code md'.1 md'.2.1 md'.2.2.1 none).before args s = true := by
    have := zgw_use hok.2.1 (hO.1 _ hok.1 hok.2.1) args
    unfold zcode at this
    rw [hnil, hret] at this
    exact this
  have fin : ∀ (v : Option Value) (vm₁ : Vm) (B9 : Pt), Stand p (gL G) e R s m args below meth c9 B9.U B9.locs B9.cells B9.slots → zPost G M Q' ⟨T.setVm vm₁, locs, zC M - k0, zS M - n0⟩ (Value.ref a :: As).toArray v B9 → (∀ target, Steps p.tables e below (B9.U.setTop { (F0 m pc ls (As.reverse ++ .ref a :: st)) with pc := pc + 3, stack := v.toList ++ st }) target → Steps p.tables e below (T.setTop (F0 m pc ls (As.reverse ++ .ref a :: st))) target) → ∃ t, Steps p.tables e below (T.setTop (F0 m pc ls (As.reverse ++ .ref a :: st))) t ∧ zZ G k0 n0 Q below s t := by
    intro v vm₁ B9 X' ⟨M', hq', haft⟩ hsteps
    obtain ⟨z1, z2, z3, z4, z5⟩ := zaft (p := p) (m := m) (meth := meth) (c := c9) hm hS (show (T.setVm vm₁).heap = H from hT) rfl rfl rfl haft
    rw [z4, z5] at X'
    obtain ⟨t, a1, b1⟩ := kk v M' hq' p e R s m args below meth c9 B9.U.heap B9.locs ls B hr z1 z2 z3 hl B9.U rfl X'
    exact ⟨t, hsteps t a1, b1⟩
  rcases hlk with hlk | hlk
  · obtain ⟨v, vm₁, B9, hW₁, X', hpost, hsteps⟩ := callI X B.1 B.2.2.2.2.2.1 hnm (zgw_use rfl (hO.1 _ hlk rfl) args) (zgw_use rfl (hO.1 _ hin rfl) args) hcode hok.2.2.2.1 hback (g := F0 m pc ls (As.reverse ++ .ref a :: st)) rfl (by show ls.size = _; rw [hl.1, B.2.2.2.2.1]) (a := a) (argsL := As) (rest := st) (fun sig h => hn.trans (hok.len sig h)) rfl (lv_room hst) (by rw [B.2.1]; exact hd) (zpre B hr hm hb hw hS hT)
    exact fin v vm₁ B9 X' hpost hsteps
  · obtain ⟨v, vm₁, B9, hW₁, X', hpost, hsteps⟩ := va_callIN X B.1 B.2.2.2.2.2.1 hnm (zgw_use rfl (hO.1 _ hlk rfl) args) (zgw_use rfl (hO.1 _ hin rfl) args) hcode hok.2.2.2.1 hback (g := F0 m pc ls (As.reverse ++ .ref a :: st)) rfl (by show ls.size = _; rw [hl.1, B.2.2.2.2.1]) (a := a) (argsL := As) (rest := st) (fun sig h => hn.trans (hok.len sig h)) rfl (lv_room hst) (by rw [B.2.1]; exact hd) (zpre B hr hm hb hw hS hT)
    exact fin v vm₁ B9 X' hpost hsteps
/-- a static method with a table of its own, that never throws -/
theorem zr_callSW {md' : zD} {d' idx n : Nat} {As : List Value} {Q' : zOut → zM → Prop} (hd : decode md.2.1 pc = .ok (.invokestatic idx, 3)) (hlk : Cond.methodLink md.1.cls idx md'.1 ∈ lw_tbl) (hok : zmOk md' n) (hcons : md'.2.2.2.2 ≠ []) (hin : Cond.static md'.1 ∈ lw_tbl)
    (hn : As.length = n) (hdep : d' + 1 ≤ d) (hst : (st.map fun v => v.category).sum ≤ 8) (hb : zC M ≤ 600128 ∧ zS M ≤ 7301098) (hM : zMet G md' d' As M Q') (kx : ∀ k M', ¬ Q' (.inr k) M') (kk : ∀ v M', Q' (.inl v) M' → zw G md d k0 n0 Q (pc + 3) lv (v.toList ++ st) M') : zw G md d k0 n0 Q pc lv (As.reverse ++ st) M := by
  intro p e R s m args below meth c9 H locs ls B hr hm hw hS hl T hT X
  have hO := B.2.2.2.2.2.2.2.2
  have hback := z_backR (z_back (R := R) (p := p) (e := e) (below := below) (s := s) (sargs := args) (len := 3) (W9 := 8) hM (by omega) (by have := hok.2.2.2.2.2; omega) (fun a' U hW => zgw_use hok.2.1 (zgw_warm hok.2.1 hW (hO.1 _ hok.1 hok.2.1)) a') (fun a' U hW => zgw_use rfl (zgw_warm rfl hW (hO.1 _ hok.2.2.1 rfl)) a')) (fun A a q B h => by obtain ⟨k, M', ce, h1, -⟩ := h; exact kx k M' h1)
  have hcode : (Cond.codeWith md'.1 md'.2.1 md'.2.2.1 md'.2.2.2.1 md'.2.2.2.2).before args s = true := by
    have := zgw_use hok.2.1 (hO.1 _ hok.1 hok.2.1) args
    unfold zcode at this
    split at this
    · rename_i e9; exact absurd e9 hcons
    · rename_i e9; rw [e9]; exact this
  obtain ⟨v, vm₁, B9, hW₁, X', ⟨M', hq', haft⟩, hsteps⟩ := vx_callSW X B.1 B.2.2.2.2.2.1 (zgw_use rfl (hO.1 _ hlk rfl) args) (zgw_use rfl (hO.1 _ hin rfl) args) (zgw_use rfl (hO.1 _ hok.2.2.1 rfl) args) hcode hok.2.2.2.1 hback (g := F0 m pc ls (As.reverse ++ st)) rfl (by show ls.size = _; rw [hl.1, B.2.2.2.2.1]) (argsL := As) (rest := st) (fun sig h => hn.trans (hok.len sig h)) rfl (lv_room hst) (by rw [B.2.1]; exact hd) (zpre B hr hm hb hw hS hT)
  obtain ⟨z1, z2, z3, z4, z5⟩ := zaft (p := p) (m := m) (meth := meth) (c := c9) hm hS (show (T.setVm vm₁).heap = H from hT) rfl rfl rfl haft
  rw [z4, z5] at X'
  obtain ⟨t, a1, b1⟩ := kk v M' hq' p e R s m args below meth c9 B9.U.heap B9.locs ls B hr z1 z2 z3 hl B9.U rfl X'
  exact ⟨t, hsteps t a1, b1⟩
end ZV
end
