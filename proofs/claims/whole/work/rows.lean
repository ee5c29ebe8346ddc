section
-- ===== PART A: goes FIRST, ahead of the names: the tables' words, and 'selects' of the private methods out of them =====
/-- a private method of a class that the tables say can be made, by its rows of tables_1 -/
def lw_okq (q : MethodName × Nat) : Prop := (q.1.cls ≠ "java/lang/invoke/MethodHandle" ∧ q.1.cls ≠ "java/lang/invoke/VarHandle") ∧ Cond.instantiable q.1.cls q.2 ∈ tables_1 ∧ Cond.privateMethod q.1 ∈ tables_1 ∧ Cond.instanceMethod q.1 ∈ tables_1
theorem lw_p0 : lw_okq (⟨"java/lang/Throwable", "fillInStackTrace", "(I)Ljava/lang/Throwable;"⟩, 6) := ⟨⟨by decide +kernel, by decide +kernel⟩, List.mem_of_getElem? (i := 456) (by decide +kernel), List.mem_of_getElem? (i := 454) (by decide +kernel), List.mem_of_getElem? (i := 455) (by decide +kernel)⟩
theorem lw_p1 : lw_okq (⟨"LsmStore", "requireOn", "()V"⟩, 18) := ⟨⟨by decide +kernel, by decide +kernel⟩, List.mem_of_getElem? (i := 25) (by decide +kernel), List.mem_of_getElem? (i := 505) (by decide +kernel), List.mem_of_getElem? (i := 506) (by decide +kernel)⟩
theorem lw_p2 : lw_okq (⟨"LsmStore", "addStep", "(I)V"⟩, 18) := ⟨⟨by decide +kernel, by decide +kernel⟩, List.mem_of_getElem? (i := 25) (by decide +kernel), List.mem_of_getElem? (i := 538) (by decide +kernel), List.mem_of_getElem? (i := 539) (by decide +kernel)⟩
theorem lw_p3 : lw_okq (⟨"LsmStore", "finish", "()I"⟩, 18) := ⟨⟨by decide +kernel, by decide +kernel⟩, List.mem_of_getElem? (i := 25) (by decide +kernel), List.mem_of_getElem? (i := 551) (by decide +kernel), List.mem_of_getElem? (i := 552) (by decide +kernel)⟩
theorem lw_p4 : lw_okq (⟨"LsmStore", "weigh", "()V"⟩, 18) := ⟨⟨by decide +kernel, by decide +kernel⟩, List.mem_of_getElem? (i := 25) (by decide +kernel), List.mem_of_getElem? (i := 555) (by decide +kernel), List.mem_of_getElem? (i := 556) (by decide +kernel)⟩
theorem lw_p5 : lw_okq (⟨"LsmStore$Batch", "haveSameKey", "(II)Z"⟩, 5) := ⟨⟨by decide +kernel, by decide +kernel⟩, List.mem_of_getElem? (i := 93) (by decide +kernel), List.mem_of_getElem? (i := 563) (by decide +kernel), List.mem_of_getElem? (i := 564) (by decide +kernel)⟩
theorem lw_p6 : lw_okq (⟨"LsmStore", "find", "(LLsmStore$Row;I)I"⟩, 18) := ⟨⟨by decide +kernel, by decide +kernel⟩, List.mem_of_getElem? (i := 25) (by decide +kernel), List.mem_of_getElem? (i := 577) (by decide +kernel), List.mem_of_getElem? (i := 578) (by decide +kernel)⟩
theorem lw_p7 : lw_okq (⟨"LsmStore$Log", "countBefore", "(LLsmStore$Row;I)I"⟩, 7) := ⟨⟨by decide +kernel, by decide +kernel⟩, List.mem_of_getElem? (i := 131) (by decide +kernel), List.mem_of_getElem? (i := 585) (by decide +kernel), List.mem_of_getElem? (i := 586) (by decide +kernel)⟩
theorem lw_p8 : lw_okq (⟨"LsmStore$Level", "tableFrom", "(LLsmStore$Row;I)I"⟩, 6) := ⟨⟨by decide +kernel, by decide +kernel⟩, List.mem_of_getElem? (i := 316) (by decide +kernel), List.mem_of_getElem? (i := 610) (by decide +kernel), List.mem_of_getElem? (i := 611) (by decide +kernel)⟩
theorem lw_p9 : lw_okq (⟨"LsmStore$Level", "table", "(I)LLsmStore$Table;"⟩, 6) := ⟨⟨by decide +kernel, by decide +kernel⟩, List.mem_of_getElem? (i := 316) (by decide +kernel), List.mem_of_getElem? (i := 614) (by decide +kernel), List.mem_of_getElem? (i := 615) (by decide +kernel)⟩
theorem lw_p10 : lw_okq (⟨"LsmStore$Disk", "goOff", "()V"⟩, 8) := ⟨⟨by decide +kernel, by decide +kernel⟩, List.mem_of_getElem? (i := 33) (by decide +kernel), List.mem_of_getElem? (i := 692) (by decide +kernel), List.mem_of_getElem? (i := 693) (by decide +kernel)⟩
theorem lw_p11 : lw_okq (⟨"LsmStore$Log", "enlist", "(II)V"⟩, 7) := ⟨⟨by decide +kernel, by decide +kernel⟩, List.mem_of_getElem? (i := 131) (by decide +kernel), List.mem_of_getElem? (i := 713) (by decide +kernel), List.mem_of_getElem? (i := 714) (by decide +kernel)⟩
theorem lw_p12 : lw_okq (⟨"LsmStore$Log", "enlistOne", "(I)V"⟩, 7) := ⟨⟨by decide +kernel, by decide +kernel⟩, List.mem_of_getElem? (i := 131) (by decide +kernel), List.mem_of_getElem? (i := 717) (by decide +kernel), List.mem_of_getElem? (i := 718) (by decide +kernel)⟩
theorem lw_p13 : lw_okq (⟨"LsmStore", "settle", "(I)V"⟩, 18) := ⟨⟨by decide +kernel, by decide +kernel⟩, List.mem_of_getElem? (i := 25) (by decide +kernel), List.mem_of_getElem? (i := 731) (by decide +kernel), List.mem_of_getElem? (i := 732) (by decide +kernel)⟩
theorem lw_p14 : lw_okq (⟨"LsmStore", "pickNone", "()V"⟩, 18) := ⟨⟨by decide +kernel, by decide +kernel⟩, List.mem_of_getElem? (i := 25) (by decide +kernel), List.mem_of_getElem? (i := 735) (by decide +kernel), List.mem_of_getElem? (i := 736) (by decide +kernel)⟩
theorem lw_p15 : lw_okq (⟨"LsmStore", "join", "(IZ)Z"⟩, 18) := ⟨⟨by decide +kernel, by decide +kernel⟩, List.mem_of_getElem? (i := 25) (by decide +kernel), List.mem_of_getElem? (i := 761) (by decide +kernel), List.mem_of_getElem? (i := 762) (by decide +kernel)⟩
def lw_privs_1 : List (MethodName × Nat) := [(⟨"java/lang/Throwable", "fillInStackTrace", "(I)Ljava/lang/Throwable;"⟩, 6), (⟨"LsmStore", "requireOn", "()V"⟩, 18), (⟨"LsmStore", "addStep", "(I)V"⟩, 18), (⟨"LsmStore", "finish", "()I"⟩, 18), (⟨"LsmStore", "weigh", "()V"⟩, 18), (⟨"LsmStore$Batch", "haveSameKey", "(II)Z"⟩, 5), (⟨"LsmStore", "find", "(LLsmStore$Row;I)I"⟩, 18), (⟨"LsmStore$Log", "countBefore", "(LLsmStore$Row;I)I"⟩, 7), (⟨"LsmStore$Level", "tableFrom", "(LLsmStore$Row;I)I"⟩, 6), (⟨"LsmStore$Level", "table", "(I)LLsmStore$Table;"⟩, 6), (⟨"LsmStore$Disk", "goOff", "()V"⟩, 8), (⟨"LsmStore$Log", "enlist", "(II)V"⟩, 7), (⟨"LsmStore$Log", "enlistOne", "(I)V"⟩, 7), (⟨"LsmStore", "settle", "(I)V"⟩, 18), (⟨"LsmStore", "pickNone", "()V"⟩, 18), (⟨"LsmStore", "join", "(IZ)Z"⟩, 18)]
theorem lw_r1 : ∀ q ∈ lw_privs_1, lw_okq q := List.forall_mem_cons.mpr ⟨lw_p0, List.forall_mem_cons.mpr ⟨lw_p1, List.forall_mem_cons.mpr ⟨lw_p2, List.forall_mem_cons.mpr ⟨lw_p3, List.forall_mem_cons.mpr ⟨lw_p4, List.forall_mem_cons.mpr ⟨lw_p5, List.forall_mem_cons.mpr ⟨lw_p6, List.forall_mem_cons.mpr ⟨lw_p7, List.forall_mem_cons.mpr ⟨lw_p8, List.forall_mem_cons.mpr ⟨lw_p9, List.forall_mem_cons.mpr ⟨lw_p10, List.forall_mem_cons.mpr ⟨lw_p11, List.forall_mem_cons.mpr ⟨lw_p12, List.forall_mem_cons.mpr ⟨lw_p13, List.forall_mem_cons.mpr ⟨lw_p14, List.forall_mem_cons.mpr ⟨lw_p15, fun _ h => absurd h List.not_mem_nil⟩⟩⟩⟩⟩⟩⟩⟩⟩⟩⟩⟩⟩⟩⟩⟩
theorem lw_p16 : lw_okq (⟨"LsmStore", "gather", "(Z)V"⟩, 18) := ⟨⟨by decide +kernel, by decide +kernel⟩, List.mem_of_getElem? (i := 25) (by decide +kernel), List.mem_of_getElem? (i := 765) (by decide +kernel), List.mem_of_getElem? (i := 766) (by decide +kernel)⟩
theorem lw_p17 : lw_okq (⟨"LsmStore$Rows", "withoutRemoves", "(I)I"⟩, 5) := ⟨⟨by decide +kernel, by decide +kernel⟩, List.mem_of_getElem? (i := 226) (by decide +kernel), List.mem_of_getElem? (i := 798) (by decide +kernel), List.mem_of_getElem? (i := 799) (by decide +kernel)⟩
theorem lw_p18 : lw_okq (⟨"LsmStore$Writer", "stepTo", "(LLsmStore$Rows;I)I"⟩, 8) := ⟨⟨by decide +kernel, by decide +kernel⟩, List.mem_of_getElem? (i := 253) (by decide +kernel), List.mem_of_getElem? (i := 811) (by decide +kernel), List.mem_of_getElem? (i := 812) (by decide +kernel)⟩
theorem lw_p19 : lw_okq (⟨"LsmStore$Writer", "advance", "(II)V"⟩, 8) := ⟨⟨by decide +kernel, by decide +kernel⟩, List.mem_of_getElem? (i := 253) (by decide +kernel), List.mem_of_getElem? (i := 817) (by decide +kernel), List.mem_of_getElem? (i := 818) (by decide +kernel)⟩
theorem lw_p20 : lw_okq (⟨"LsmStore$Writer", "writeOut", "([B)V"⟩, 8) := ⟨⟨by decide +kernel, by decide +kernel⟩, List.mem_of_getElem? (i := 253) (by decide +kernel), List.mem_of_getElem? (i := 825) (by decide +kernel), List.mem_of_getElem? (i := 826) (by decide +kernel)⟩
theorem lw_p21 : lw_okq (⟨"LsmStore$Writer", "current", "()LLsmStore$Table;"⟩, 8) := ⟨⟨by decide +kernel, by decide +kernel⟩, List.mem_of_getElem? (i := 253) (by decide +kernel), List.mem_of_getElem? (i := 829) (by decide +kernel), List.mem_of_getElem? (i := 830) (by decide +kernel)⟩
theorem lw_p22 : lw_okq (⟨"LsmStore$Files", "mark", "(I)V"⟩, 8) := ⟨⟨by decide +kernel, by decide +kernel⟩, List.mem_of_getElem? (i := 161) (by decide +kernel), List.mem_of_getElem? (i := 840) (by decide +kernel), List.mem_of_getElem? (i := 841) (by decide +kernel)⟩
theorem lw_p23 : lw_okq (⟨"LsmStore$Writer", "closeTable", "()V"⟩, 8) := ⟨⟨by decide +kernel, by decide +kernel⟩, List.mem_of_getElem? (i := 253) (by decide +kernel), List.mem_of_getElem? (i := 849) (by decide +kernel), List.mem_of_getElem? (i := 850) (by decide +kernel)⟩
theorem lw_p24 : lw_okq (⟨"LsmStore$Writer", "open", "(I)V"⟩, 8) := ⟨⟨by decide +kernel, by decide +kernel⟩, List.mem_of_getElem? (i := 253) (by decide +kernel), List.mem_of_getElem? (i := 857) (by decide +kernel), List.mem_of_getElem? (i := 858) (by decide +kernel)⟩
theorem lw_p25 : lw_okq (⟨"LsmStore$Writer", "copyEntry", "(I)V"⟩, 8) := ⟨⟨by decide +kernel, by decide +kernel⟩, List.mem_of_getElem? (i := 253) (by decide +kernel), List.mem_of_getElem? (i := 869) (by decide +kernel), List.mem_of_getElem? (i := 870) (by decide +kernel)⟩
theorem lw_p26 : lw_okq (⟨"LsmStore$Head", "describe", "(II[LLsmStore$Level;)V"⟩, 7) := ⟨⟨by decide +kernel, by decide +kernel⟩, List.mem_of_getElem? (i := 287) (by decide +kernel), List.mem_of_getElem? (i := 906) (by decide +kernel), List.mem_of_getElem? (i := 907) (by decide +kernel)⟩
theorem lw_p27 : lw_okq (⟨"LsmStore$Head", "addNumber", "(II)V"⟩, 7) := ⟨⟨by decide +kernel, by decide +kernel⟩, List.mem_of_getElem? (i := 287) (by decide +kernel), List.mem_of_getElem? (i := 910) (by decide +kernel), List.mem_of_getElem? (i := 911) (by decide +kernel)⟩
theorem lw_p28 : lw_okq (⟨"LsmStore$Head", "addTable", "(LLsmStore$Table;)V"⟩, 7) := ⟨⟨by decide +kernel, by decide +kernel⟩, List.mem_of_getElem? (i := 287) (by decide +kernel), List.mem_of_getElem? (i := 915) (by decide +kernel), List.mem_of_getElem? (i := 916) (by decide +kernel)⟩
theorem lw_p29 : lw_okq (⟨"LsmStore$Files", "free", "(LLsmStore$Table;)V"⟩, 8) := ⟨⟨by decide +kernel, by decide +kernel⟩, List.mem_of_getElem? (i := 161) (by decide +kernel), List.mem_of_getElem? (i := 927) (by decide +kernel), List.mem_of_getElem? (i := 928) (by decide +kernel)⟩
theorem lw_p30 : lw_okq (⟨"LsmStore", "requireBatch", "()V"⟩, 18) := ⟨⟨by decide +kernel, by decide +kernel⟩, List.mem_of_getElem? (i := 25) (by decide +kernel), List.mem_of_getElem? (i := 975) (by decide +kernel), List.mem_of_getElem? (i := 976) (by decide +kernel)⟩
theorem lw_p31 : lw_okq (⟨"LsmStore", "viewOf", "(I)I"⟩, 18) := ⟨⟨by decide +kernel, by decide +kernel⟩, List.mem_of_getElem? (i := 25) (by decide +kernel), List.mem_of_getElem? (i := 1038) (by decide +kernel), List.mem_of_getElem? (i := 1039) (by decide +kernel)⟩
def lw_privs_2 : List (MethodName × Nat) := [(⟨"LsmStore", "gather", "(Z)V"⟩, 18), (⟨"LsmStore$Rows", "withoutRemoves", "(I)I"⟩, 5), (⟨"LsmStore$Writer", "stepTo", "(LLsmStore$Rows;I)I"⟩, 8), (⟨"LsmStore$Writer", "advance", "(II)V"⟩, 8), (⟨"LsmStore$Writer", "writeOut", "([B)V"⟩, 8), (⟨"LsmStore$Writer", "current", "()LLsmStore$Table;"⟩, 8), (⟨"LsmStore$Files", "mark", "(I)V"⟩, 8), (⟨"LsmStore$Writer", "closeTable", "()V"⟩, 8), (⟨"LsmStore$Writer", "open", "(I)V"⟩, 8), (⟨"LsmStore$Writer", "copyEntry", "(I)V"⟩, 8), (⟨"LsmStore$Head", "describe", "(II[LLsmStore$Level;)V"⟩, 7), (⟨"LsmStore$Head", "addNumber", "(II)V"⟩, 7), (⟨"LsmStore$Head", "addTable", "(LLsmStore$Table;)V"⟩, 7), (⟨"LsmStore$Files", "free", "(LLsmStore$Table;)V"⟩, 8), (⟨"LsmStore", "requireBatch", "()V"⟩, 18), (⟨"LsmStore", "viewOf", "(I)I"⟩, 18)]
theorem lw_r2 : ∀ q ∈ lw_privs_2, lw_okq q := List.forall_mem_cons.mpr ⟨lw_p16, List.forall_mem_cons.mpr ⟨lw_p17, List.forall_mem_cons.mpr ⟨lw_p18, List.forall_mem_cons.mpr ⟨lw_p19, List.forall_mem_cons.mpr ⟨lw_p20, List.forall_mem_cons.mpr ⟨lw_p21, List.forall_mem_cons.mpr ⟨lw_p22, List.forall_mem_cons.mpr ⟨lw_p23, List.forall_mem_cons.mpr ⟨lw_p24, List.forall_mem_cons.mpr ⟨lw_p25, List.forall_mem_cons.mpr ⟨lw_p26, List.forall_mem_cons.mpr ⟨lw_p27, List.forall_mem_cons.mpr ⟨lw_p28, List.forall_mem_cons.mpr ⟨lw_p29, List.forall_mem_cons.mpr ⟨lw_p30, List.forall_mem_cons.mpr ⟨lw_p31, fun _ h => absurd h List.not_mem_nil⟩⟩⟩⟩⟩⟩⟩⟩⟩⟩⟩⟩⟩⟩⟩⟩
theorem lw_p32 : lw_okq (⟨"LsmStore", "nearest", "(II)I"⟩, 18) := ⟨⟨by decide +kernel, by decide +kernel⟩, List.mem_of_getElem? (i := 25) (by decide +kernel), List.mem_of_getElem? (i := 1054) (by decide +kernel), List.mem_of_getElem? (i := 1055) (by decide +kernel)⟩
theorem lw_p33 : lw_okq (⟨"LsmStore", "firstFrom", "(LLsmStore$Row;I)I"⟩, 18) := ⟨⟨by decide +kernel, by decide +kernel⟩, List.mem_of_getElem? (i := 25) (by decide +kernel), List.mem_of_getElem? (i := 1060) (by decide +kernel), List.mem_of_getElem? (i := 1061) (by decide +kernel)⟩
theorem lw_p34 : lw_okq (⟨"LsmStore", "take", "(I)I"⟩, 18) := ⟨⟨by decide +kernel, by decide +kernel⟩, List.mem_of_getElem? (i := 25) (by decide +kernel), List.mem_of_getElem? (i := 1077) (by decide +kernel), List.mem_of_getElem? (i := 1078) (by decide +kernel)⟩
theorem lw_p35 : lw_okq (⟨"LsmStore", "nearestBefore", "(I)I"⟩, 18) := ⟨⟨by decide +kernel, by decide +kernel⟩, List.mem_of_getElem? (i := 25) (by decide +kernel), List.mem_of_getElem? (i := 1088) (by decide +kernel), List.mem_of_getElem? (i := 1089) (by decide +kernel)⟩
theorem lw_p36 : lw_okq (⟨"LsmStore", "lastBefore", "(LLsmStore$Row;)I"⟩, 18) := ⟨⟨by decide +kernel, by decide +kernel⟩, List.mem_of_getElem? (i := 25) (by decide +kernel), List.mem_of_getElem? (i := 1092) (by decide +kernel), List.mem_of_getElem? (i := 1093) (by decide +kernel)⟩
theorem lw_p37 : lw_okq (⟨"LsmStore", "load", "()V"⟩, 18) := ⟨⟨by decide +kernel, by decide +kernel⟩, List.mem_of_getElem? (i := 25) (by decide +kernel), List.mem_of_getElem? (i := 1158) (by decide +kernel), List.mem_of_getElem? (i := 1159) (by decide +kernel)⟩
theorem lw_p38 : lw_okq (⟨"LsmStore$Head", "generationAt", "(I)I"⟩, 7) := ⟨⟨by decide +kernel, by decide +kernel⟩, List.mem_of_getElem? (i := 287) (by decide +kernel), List.mem_of_getElem? (i := 1174) (by decide +kernel), List.mem_of_getElem? (i := 1175) (by decide +kernel)⟩
theorem lw_p39 : lw_okq (⟨"LsmStore$Head", "read", "(I)I"⟩, 7) := ⟨⟨by decide +kernel, by decide +kernel⟩, List.mem_of_getElem? (i := 287) (by decide +kernel), List.mem_of_getElem? (i := 1181) (by decide +kernel), List.mem_of_getElem? (i := 1182) (by decide +kernel)⟩
theorem lw_p40 : lw_okq (⟨"LsmStore$Head", "readTable", "(LLsmStore$Level;LLsmStore$Files;)V"⟩, 7) := ⟨⟨by decide +kernel, by decide +kernel⟩, List.mem_of_getElem? (i := 287) (by decide +kernel), List.mem_of_getElem? (i := 1185) (by decide +kernel), List.mem_of_getElem? (i := 1186) (by decide +kernel)⟩
theorem lw_p41 : lw_okq (⟨"LsmStore", "recount", "()V"⟩, 18) := ⟨⟨by decide +kernel, by decide +kernel⟩, List.mem_of_getElem? (i := 25) (by decide +kernel), List.mem_of_getElem? (i := 1210) (by decide +kernel), List.mem_of_getElem? (i := 1211) (by decide +kernel)⟩
theorem lw_p42 : lw_okq (⟨"LsmStore", "gatherAll", "()V"⟩, 18) := ⟨⟨by decide +kernel, by decide +kernel⟩, List.mem_of_getElem? (i := 25) (by decide +kernel), List.mem_of_getElem? (i := 1214) (by decide +kernel), List.mem_of_getElem? (i := 1215) (by decide +kernel)⟩
theorem lw_p43 : lw_okq (⟨"LsmStore$Rows", "hasNewer", "(II)Z"⟩, 5) := ⟨⟨by decide +kernel, by decide +kernel⟩, List.mem_of_getElem? (i := 226) (by decide +kernel), List.mem_of_getElem? (i := 1223) (by decide +kernel), List.mem_of_getElem? (i := 1224) (by decide +kernel)⟩
theorem lw_p44 : lw_okq (⟨"LsmStore$Disk", "mixRow", "(JII)J"⟩, 8) := ⟨⟨by decide +kernel, by decide +kernel⟩, List.mem_of_getElem? (i := 33) (by decide +kernel), List.mem_of_getElem? (i := 1251) (by decide +kernel), List.mem_of_getElem? (i := 1252) (by decide +kernel)⟩
theorem lw_p45 : lw_okq (⟨"LsmStore$Files", "own", "(LLsmStore$Table;)I"⟩, 8) := ⟨⟨by decide +kernel, by decide +kernel⟩, List.mem_of_getElem? (i := 161) (by decide +kernel), List.mem_of_getElem? (i := 1268) (by decide +kernel), List.mem_of_getElem? (i := 1269) (by decide +kernel)⟩
theorem lw_p46 : lw_okq (⟨"LsmStoreModel", "change", "(Z)I"⟩, 19) := ⟨⟨by decide +kernel, by decide +kernel⟩, List.mem_of_getElem? (i := 1288) (by decide +kernel), List.mem_of_getElem? (i := 1374) (by decide +kernel), List.mem_of_getElem? (i := 1375) (by decide +kernel)⟩
theorem lw_p47 : lw_okq (⟨"LsmStoreModel", "begun", "()V"⟩, 19) := ⟨⟨by decide +kernel, by decide +kernel⟩, List.mem_of_getElem? (i := 1288) (by decide +kernel), List.mem_of_getElem? (i := 1379) (by decide +kernel), List.mem_of_getElem? (i := 1380) (by decide +kernel)⟩
def lw_privs_3 : List (MethodName × Nat) := [(⟨"LsmStore", "nearest", "(II)I"⟩, 18), (⟨"LsmStore", "firstFrom", "(LLsmStore$Row;I)I"⟩, 18), (⟨"LsmStore", "take", "(I)I"⟩, 18), (⟨"LsmStore", "nearestBefore", "(I)I"⟩, 18), (⟨"LsmStore", "lastBefore", "(LLsmStore$Row;)I"⟩, 18), (⟨"LsmStore", "load", "()V"⟩, 18), (⟨"LsmStore$Head", "generationAt", "(I)I"⟩, 7), (⟨"LsmStore$Head", "read", "(I)I"⟩, 7), (⟨"LsmStore$Head", "readTable", "(LLsmStore$Level;LLsmStore$Files;)V"⟩, 7), (⟨"LsmStore", "recount", "()V"⟩, 18), (⟨"LsmStore", "gatherAll", "()V"⟩, 18), (⟨"LsmStore$Rows", "hasNewer", "(II)Z"⟩, 5), (⟨"LsmStore$Disk", "mixRow", "(JII)J"⟩, 8), (⟨"LsmStore$Files", "own", "(LLsmStore$Table;)I"⟩, 8), (⟨"LsmStoreModel", "change", "(Z)I"⟩, 19), (⟨"LsmStoreModel", "begun", "()V"⟩, 19)]
theorem lw_r3 : ∀ q ∈ lw_privs_3, lw_okq q := List.forall_mem_cons.mpr ⟨lw_p32, List.forall_mem_cons.mpr ⟨lw_p33, List.forall_mem_cons.mpr ⟨lw_p34, List.forall_mem_cons.mpr ⟨lw_p35, List.forall_mem_cons.mpr ⟨lw_p36, List.forall_mem_cons.mpr ⟨lw_p37, List.forall_mem_cons.mpr ⟨lw_p38, List.forall_mem_cons.mpr ⟨lw_p39, List.forall_mem_cons.mpr ⟨lw_p40, List.forall_mem_cons.mpr ⟨lw_p41, List.forall_mem_cons.mpr ⟨lw_p42, List.forall_mem_cons.mpr ⟨lw_p43, List.forall_mem_cons.mpr ⟨lw_p44, List.forall_mem_cons.mpr ⟨lw_p45, List.forall_mem_cons.mpr ⟨lw_p46, List.forall_mem_cons.mpr ⟨lw_p47, fun _ h => absurd h List.not_mem_nil⟩⟩⟩⟩⟩⟩⟩⟩⟩⟩⟩⟩⟩⟩⟩⟩
theorem lw_p48 : lw_okq (⟨"LsmStoreModel", "set", "([BII[BII)V"⟩, 19) := ⟨⟨by decide +kernel, by decide +kernel⟩, List.mem_of_getElem? (i := 1288) (by decide +kernel), List.mem_of_getElem? (i := 1383) (by decide +kernel), List.mem_of_getElem? (i := 1384) (by decide +kernel)⟩
theorem lw_p49 : lw_okq (⟨"LsmStoreModel", "done", "()I"⟩, 19) := ⟨⟨by decide +kernel, by decide +kernel⟩, List.mem_of_getElem? (i := 1288) (by decide +kernel), List.mem_of_getElem? (i := 1396) (by decide +kernel), List.mem_of_getElem? (i := 1397) (by decide +kernel)⟩
theorem lw_p50 : lw_okq (⟨"LsmStoreModel", "fall", "()V"⟩, 19) := ⟨⟨by decide +kernel, by decide +kernel⟩, List.mem_of_getElem? (i := 1288) (by decide +kernel), List.mem_of_getElem? (i := 1400) (by decide +kernel), List.mem_of_getElem? (i := 1401) (by decide +kernel)⟩
theorem lw_p51 : lw_okq (⟨"LsmStoreModel", "lost", "()V"⟩, 19) := ⟨⟨by decide +kernel, by decide +kernel⟩, List.mem_of_getElem? (i := 1288) (by decide +kernel), List.mem_of_getElem? (i := 1404) (by decide +kernel), List.mem_of_getElem? (i := 1405) (by decide +kernel)⟩
theorem lw_p52 : lw_okq (⟨"LsmStoreModel", "failed", "()I"⟩, 19) := ⟨⟨by decide +kernel, by decide +kernel⟩, List.mem_of_getElem? (i := 1288) (by decide +kernel), List.mem_of_getElem? (i := 1408) (by decide +kernel), List.mem_of_getElem? (i := 1409) (by decide +kernel)⟩
theorem lw_p53 : lw_okq (⟨"LsmStoreModel", "isThere", "(I)Z"⟩, 19) := ⟨⟨by decide +kernel, by decide +kernel⟩, List.mem_of_getElem? (i := 1288) (by decide +kernel), List.mem_of_getElem? (i := 1436) (by decide +kernel), List.mem_of_getElem? (i := 1437) (by decide +kernel)⟩
theorem lw_p54 : lw_okq (⟨"LsmStoreModel", "rowOf", "(I)[B"⟩, 19) := ⟨⟨by decide +kernel, by decide +kernel⟩, List.mem_of_getElem? (i := 1288) (by decide +kernel), List.mem_of_getElem? (i := 1440) (by decide +kernel), List.mem_of_getElem? (i := 1441) (by decide +kernel)⟩
theorem lw_p55 : lw_okq (⟨"LsmStoreModel", "from", "(I)I"⟩, 19) := ⟨⟨by decide +kernel, by decide +kernel⟩, List.mem_of_getElem? (i := 1288) (by decide +kernel), List.mem_of_getElem? (i := 1444) (by decide +kernel), List.mem_of_getElem? (i := 1445) (by decide +kernel)⟩
theorem lw_p56 : lw_okq (⟨"LsmStoreModel", "end", "(I)I"⟩, 19) := ⟨⟨by decide +kernel, by decide +kernel⟩, List.mem_of_getElem? (i := 1288) (by decide +kernel), List.mem_of_getElem? (i := 1448) (by decide +kernel), List.mem_of_getElem? (i := 1449) (by decide +kernel)⟩
theorem lw_p57 : lw_okq (⟨"LsmStoreModel", "taken", "([BIZ)V"⟩, 19) := ⟨⟨by decide +kernel, by decide +kernel⟩, List.mem_of_getElem? (i := 1288) (by decide +kernel), List.mem_of_getElem? (i := 1452) (by decide +kernel), List.mem_of_getElem? (i := 1453) (by decide +kernel)⟩
theorem lw_p58 : lw_okq (⟨"LsmStoreModel", "works", "()V"⟩, 19) := ⟨⟨by decide +kernel, by decide +kernel⟩, List.mem_of_getElem? (i := 1288) (by decide +kernel), List.mem_of_getElem? (i := 1472) (by decide +kernel), List.mem_of_getElem? (i := 1473) (by decide +kernel)⟩
def lw_privs_4 : List (MethodName × Nat) := [(⟨"LsmStoreModel", "set", "([BII[BII)V"⟩, 19), (⟨"LsmStoreModel", "done", "()I"⟩, 19), (⟨"LsmStoreModel", "fall", "()V"⟩, 19), (⟨"LsmStoreModel", "lost", "()V"⟩, 19), (⟨"LsmStoreModel", "failed", "()I"⟩, 19), (⟨"LsmStoreModel", "isThere", "(I)Z"⟩, 19), (⟨"LsmStoreModel", "rowOf", "(I)[B"⟩, 19), (⟨"LsmStoreModel", "from", "(I)I"⟩, 19), (⟨"LsmStoreModel", "end", "(I)I"⟩, 19), (⟨"LsmStoreModel", "taken", "([BIZ)V"⟩, 19), (⟨"LsmStoreModel", "works", "()V"⟩, 19)]
theorem lw_r4 : ∀ q ∈ lw_privs_4, lw_okq q := List.forall_mem_cons.mpr ⟨lw_p48, List.forall_mem_cons.mpr ⟨lw_p49, List.forall_mem_cons.mpr ⟨lw_p50, List.forall_mem_cons.mpr ⟨lw_p51, List.forall_mem_cons.mpr ⟨lw_p52, List.forall_mem_cons.mpr ⟨lw_p53, List.forall_mem_cons.mpr ⟨lw_p54, List.forall_mem_cons.mpr ⟨lw_p55, List.forall_mem_cons.mpr ⟨lw_p56, List.forall_mem_cons.mpr ⟨lw_p57, List.forall_mem_cons.mpr ⟨lw_p58, fun _ h => absurd h List.not_mem_nil⟩⟩⟩⟩⟩⟩⟩⟩⟩⟩⟩
def lw_privs : List (MethodName × Nat) := lw_privs_1 ++ (lw_privs_2 ++ (lw_privs_3 ++ (lw_privs_4)))
def lw_tbl : List Cond := k2_sels lw_privs ++ tables_1
theorem lw_privs_ok : ∀ q ∈ lw_privs, lw_okq q := by
  show ∀ q ∈ lw_privs_1 ++ (lw_privs_2 ++ (lw_privs_3 ++ (lw_privs_4))), lw_okq q
  exact List.forall_mem_append.mpr ⟨lw_r1, List.forall_mem_append.mpr ⟨lw_r2, List.forall_mem_append.mpr ⟨lw_r3, lw_r4⟩⟩⟩
-- ===== end of PART A; then your names; then what follows =====
end
section
/-! ===== BEGIN words of one list among another's, by their places ===== -/
theorem goodIn_r {big : List Cond} (ws : List Cond) (ps : List Nat) (hp : ws = ps.filterMap (fun i => big[i]?)) (h : ws.all goodWord = true) : GoodIn big ws := by
  intro w hw
  have h1 := List.all_eq_true.mp h w hw
  rw [hp] at hw
  obtain ⟨i, -, hi⟩ := List.mem_filterMap.mp hw
  have hm : w ∈ big := by first | exact List.mem_of_getElem? hi | exact List.getElem?_mem hi
  exact ⟨hm, good_of_word h1⟩
theorem goodIn_app {big a b : List Cond} (ha : GoodIn big a) (hb : GoodIn big b) : GoodIn big (a ++ b) := fun w h => (List.mem_append.mp h).elim (ha w) (hb w)
theorem goodIn_ca {big a b : List Cond} {c : Cond} (ha : GoodIn big (c :: a)) (hb : GoodIn big b) : GoodIn big (c :: (a ++ b)) := fun w h => (List.mem_cons.mp h).elim (fun e => ha w (List.mem_cons.mpr (Or.inl e))) (fun h => (List.mem_append.mp h).elim (fun h => ha w (List.mem_cons.mpr (Or.inr h))) (hb w))
theorem goodIn_sub {big ws : List Cond} (hm : ∀ w ∈ ws, w ∈ big) (h : ws.all goodWord = true) : GoodIn big ws := fun w hw => ⟨hm w hw, good_of_word (List.all_eq_true.mp h w hw)⟩
/-! ===== END ===== -/

/-! ===== BEGIN exceptions that leave a method, and their catching by the caller (launches without stack traces) ===== -/
section VXA
/-! The laws vx_back, vx_callV, vx_callS, vx_callSW, vx_throw0, vx_throwS follow proofs of the library, with one case more: JvmDerived/Free/Laws.lean (Back.of_free), Shelf42/LK1.lean (callV, callS), Shelf/KitTraced.lean (throwNew0V, throwNewS). -/
/-- where a method has thrown q: the class by its name, the cell, what was written, the world -/
def vx_T (XC : String → State → State → Prop) (st : State) (q : Addr) (t : State) (mc ms : Nat) (free : Addr → Prop) : Prop :=
  ∃ (E : String) (ce : Cell) (L : List Loc), XC E st t ∧ t.heap[q]? = some ce ∧ ce.vm = .none ∧ st.vm.findClass E = some ce.cls ∧ st.WarmedH t.vm ∧ st.sameButNew ({ t with vm := st.vm } : State) L mc ms ∧ ∀ z ∈ L, free z.base
def vx_Q (Qc : Array Value → State → Outcome → State → Prop) (XC : String → State → State → Prop) (mc ms : Nat) (free : Addr → Prop) : Array Value → State → Outcome → State → Prop := fun a st o t =>
  (Qc a st o t ∧ ∃ L, FrameEnd st o t L mc ms ∧ ∀ q ∈ L, free q.base) ∨ ∃ q, o = .threw q ∧ vx_T XC st q t mc ms free
/-- a callee that returns or throws -/
def vx_Met (l : Launch) (y : MethodName) (ws : List Cond) (rm : Room) (Pc : Array Value → State → Prop) (Qc : Array Value → State → Outcome → State → Prop) (XC : String → State → State → Prop) (mc ms : Nat) (free : Addr → Prop) : Prop :=
  MetFree l y (headSpec ws rm) Pc (fun _ _ _ _ _ => True) (vx_Q Qc XC mc ms free)
def vx_Post (XC : String → State → State → Prop) (mc ms : Nat) (free : Addr → Prop) : Pt → Array Value → Addr → Pt → Prop := fun A a q B =>
  ∃ (g : JFrame) (mk : MethodId) (t : State) (L : List Loc) (E : String) (ce : Cell), B.U.heap = t.heap ∧ B.U.vm = t.vm ∧ XC E (A.U.calling g mk a) t ∧ t.heap[q]? = some ce ∧ ce.vm = .none ∧ A.U.vm.findClass E = some ce.cls ∧ B.locs = A.locs ++ L ∧ (∀ z ∈ L, free z.base) ∧ B.cells = A.cells + mc ∧ B.slots = A.slots + ms
def vx_Back (l : Launch) (R : Room) (p : Program) (e : Env) (below : List Frame) (s : State) (sargs : Array Value) (y : MethodName) (len W9 : Nat)
    (Pre : Pt → Array Value → Prop) (Post : Pt → Array Value → Option Value → Pt → Prop) (PostX : Pt → Array Value → Addr → Pt → Prop) : Prop :=
  ∀ (m : MethodId) (meth : Method) (c : Code) (A : Pt) (g : JFrame) (ig : Instr) (mk : MethodId) (a : Array Value),
    Stand p l e R s m sargs below meth c A.U A.locs A.cells A.slots → g.method = m → g.locals.size = c.maxLocals → decode c.code g.pc = .ok (ig, len) →
    2 * g.monitorRoom + (g.stack.map fun v => v.category).sum ≤ W9 → A.U.methodNamed? y = some mk → Pre A a →
    (∃ (v : Option Value) (B : Pt), Stand p l e R s m sargs below meth c B.U B.locs B.cells B.slots ∧ Post A a v B ∧
      Steps p.tables e below (doInvoke e (A.U.setTop g) [] mk a).1 (B.U.setTop { g with pc := g.pc + len, stack := v.toList ++ g.stack })) ∨
    (∃ (q : Addr) (B : Pt), Stand p l e R s m sargs below meth c B.U B.locs B.cells B.slots ∧ PostX A a q B ∧
      Steps p.tables e below (doInvoke e (A.U.setTop g) [] mk a).1 ((B.U.setTop g).pushFrame (.throwing q)))
section Payer
variable {l : Launch} {R : Room} {p : Program} {e : Env} {below : List Frame} {s : State} {sargs : Array Value} {y : MethodName} {len W9 : Nat}
theorem vx_back {ws : List Cond} {rm : Room} {Pc : Array Value → State → Prop} {Qc : Array Value → State → Outcome → State → Prop} {XC : String → State → State → Prop} {mc ms : Nat} {free : Addr → Prop} {bytes : ByteArray} {maxL : Nat} {ret : Option FieldType}
    (hM : vx_Met l y ws rm Pc Qc XC mc ms free) (hblind : FrameBlind Pc) (hrc : rm.cells = mc) (hrs : rm.slots = ms)
    (hframes : rm.frames + 1 ≤ R.frames) (hlocals : W9 + (maxL + 11) + rm.locals ≤ R.locals)
    (hws : ∀ w ∈ ws, ∀ a' U, s.WarmedH U.vm → w.before a' U = true) (hcode : Cond.code y bytes maxL ret ∈ ws) (hinit : ∀ a' U, s.WarmedH U.vm → (Cond.initialized y.cls).before a' U = true) :
    vx_Back l R p e below s sargs y len W9 (PreOf R mc ms Pc) (PostOf Qc mc ms free) (vx_Post XC mc ms free) := by
  intro m meth c A g ig mk a X hg hsize hdg hW hn hp
  have h1 : (headSpec ws rm).pre.before a A.U = true := atoms_intro fun w hw => hws w hw _ _ X.warmed
  have h2 : (Cond.code y bytes maxL ret).before a A.U = true := hws _ hcode _ _ X.warmed
  have h3 : (Cond.initialized y.cls).before a A.U = true := hinit _ _ X.warmed
  have h4 : A.cells + (headSpec ws rm).room.cells ≤ R.cells := by rw [show (headSpec ws rm).room.cells = mc from hrc]; exact hp.1
  have h5 : A.slots + (headSpec ws rm).room.slots ≤ R.slots := by rw [show (headSpec ws rm).room.slots = ms from hrs]; exact hp.2.1
  have hPc : Pc a (A.U.calling g mk a) := hblind _ _ _ _ hp.2.2
  obtain ⟨U, Ls, c0, s0⟩ := A
  dsimp only [Pt.U, Pt.locs, Pt.cells, Pt.slots] at h1 h2 h3 h4 h5 X hn hPc ⊢
  obtain ⟨methY, cY, hmY, hcY, -, hlY, -, -, -, -⟩ := Cond.code_spec hn h2
  obtain ⟨kY, hkY, -⟩ := className_of_methodNamed hn
  have hinitY : kY.init = .initialized := Cond.initialized_spec (findClass_of_methodNamed hn) hkY h3
  have h : At U g.method c below := by rw [hg]; exact X.here
  have hlocals9 : W9 + (maxL + 11) + (headSpec ws rm).room.locals ≤ R.locals := hlocals
  have happ : (headSpec ws rm).appliesLoose y e.platform (U.calling g mk a) = true :=
    Spec.appliesLoose_calling (g := g) h hdg hn hkY hinitY
      (X.room_calling (g := g) (R' := (headSpec ws rm).room) hsize hmY hcY hframes (by rw [hlY]; omega) h4 h5) h1
  obtain ⟨mid, hmid⟩ := h.above
  have hfr : (U.setTop g).frames = (.java g :: mid) ++ below := by rw [State.frames_setTop' g h.top, hmid]; rfl
  obtain ⟨o, s₂, hsteps, -, hend, hq⟩ := Steps.callFree hM p X.admits X.cas X.clock (acts := []) hfr happ hPc trivial
  have hq' : vx_Q Qc XC mc ms free a (U.calling g mk a) o s₂ := hq
  rw [State.frames_setTop' g h.top] at hend
  obtain ⟨g₀, hg0⟩ := Option.isSome_iff_exists.mp h.top
  obtain ⟨r, hr⟩ := State.topJava?_eq_some.mp hg0
  have hr' : (({ U with heap := s₂.heap, slotsUsed := s₂.slotsUsed } : State).setVm s₂.vm).frames = .java g₀ :: r := hr
  rcases hq' with ⟨hqc, L, hfe, hL⟩ | ⟨q, rfl, E, ce, L, hx, hce, hcv, hcl, hW₂, hsm, hL⟩
  · obtain ⟨⟨v, rfl⟩, hW₂, e2, q2, q3, q4, q5, q6⟩ := id hfe
    have e3 : s₂ = ({ (U.calling g mk a).setFrames s₂.frames with heap := s₂.heap, slotsUsed := s₂.slotsUsed } : State).setVm s₂.vm := by
      have : s₂ = ({ s₂ with vm := (U.calling g mk a).vm } : State).setVm s₂.vm := rfl
      rw [e2] at this
      exact this
    obtain ⟨c₂, i₂, len₂, hc₂, hd₂, hf₂⟩ := hend
    have hW' : U.WarmedH s₂.vm := hW₂
    have hcc : c₂ = c := by
      have h1 : s₂.code? g.method = U.code? g.method := by
        rw [State.code?_eq, State.code?_eq, hW'.alike.method?]
      exact Option.some.inj (hc₂.symm.trans (h1.trans h.code))
    subst hcc
    have hlen : len₂ = len := by rw [hdg] at hd₂; cases hd₂; rfl
    subst hlen
    have hs₂ : s₂ = (({ U with heap := s₂.heap, slotsUsed := s₂.slotsUsed } : State).setVm s₂.vm).setTop { g with pc := g.pc + len₂, stack := v.toList ++ g.stack } := by
      refine e3.trans ?_
      rw [hf₂, State.calling_eq h.top, State.setFrames_setFrames, State.setTop_of_frames _ hr', hr]
      rfl
    have hsame : U.sameButNew ({ U with heap := s₂.heap, slotsUsed := s₂.slotsUsed } : State) L mc ms := by
      refine ⟨?_, q2, q3, q4, q5, q6⟩
      obtain ⟨t, ht, -⟩ := State.frames_cons hr
      show ({ U with heap := s₂.heap, slotsUsed := s₂.slotsUsed } : State) = { U.setFrames U.frames with heap := s₂.heap, slotsUsed := s₂.slotsUsed }
      rw [State.setFrames_self ht]
    subst hg
    refine Or.inl ⟨v, ⟨(({ U with heap := s₂.heap, slotsUsed := s₂.slotsUsed } : State).setVm s₂.vm), Ls ++ L, c0 + mc, s0 + ms⟩,
      ⟨X.admits, X.cas, X.clock, X.frames, X.room, X.hears, X.method, X.code, (X.here.setHeapUsed s₂.heap s₂.slotsUsed).setVm hW'.alike, X.tail, State.WarmedH.trans X.warmed hW', X.limits, X.bytes, X.same.trans (hsame.setVm s.vm)⟩,
      ⟨g, mk, s₂, L, rfl, rfl, hqc, rfl, hL, rfl, rfl⟩, ?_⟩
    show Steps p.tables e below _ ((({ U with heap := s₂.heap, slotsUsed := s₂.slotsUsed } : State).setVm s₂.vm).setTop { g with pc := g.pc + len₂, stack := v.toList ++ g.stack })
    rw [← hs₂]
    exact hsteps
  · obtain ⟨e2, q2, q3, q4, q5, q6⟩ := id hsm
    have e3 : s₂ = ({ (U.calling g mk a).setFrames s₂.frames with heap := s₂.heap, slotsUsed := s₂.slotsUsed } : State).setVm s₂.vm := by
      have : s₂ = ({ s₂ with vm := (U.calling g mk a).vm } : State).setVm s₂.vm := rfl
      rw [e2] at this
      exact this
    have hf₂ : s₂.frames = .throwing q :: .java g :: U.frames.tail := hend
    have hW' : U.WarmedH s₂.vm := hW₂
    have hs₂ : s₂ = ((({ U with heap := s₂.heap, slotsUsed := s₂.slotsUsed } : State).setVm s₂.vm).setTop g).pushFrame (.throwing q) := by
      refine e3.trans ?_
      rw [hf₂, State.calling_eq h.top, State.setFrames_setFrames, State.pushFrame, State.frames_setTop _ hr', State.setTop_of_frames _ hr', State.setFrames_setFrames, hr]
      rfl
    have hsame : U.sameButNew ({ U with heap := s₂.heap, slotsUsed := s₂.slotsUsed } : State) L mc ms := by
      refine ⟨?_, q2, q3, q4, q5, q6⟩
      obtain ⟨t, ht, -⟩ := State.frames_cons hr
      show ({ U with heap := s₂.heap, slotsUsed := s₂.slotsUsed } : State) = { U.setFrames U.frames with heap := s₂.heap, slotsUsed := s₂.slotsUsed }
      rw [State.setFrames_self ht]
    subst hg
    refine Or.inr ⟨q, ⟨(({ U with heap := s₂.heap, slotsUsed := s₂.slotsUsed } : State).setVm s₂.vm), Ls ++ L, c0 + mc, s0 + ms⟩,
      ⟨X.admits, X.cas, X.clock, X.frames, X.room, X.hears, X.method, X.code, (X.here.setHeapUsed s₂.heap s₂.slotsUsed).setVm hW'.alike, X.tail, State.WarmedH.trans X.warmed hW', X.limits, X.bytes, X.same.trans (hsame.setVm s.vm)⟩,
      ⟨g, mk, s₂, L, E, ce, rfl, rfl, hx, hce, hcv, hcl, rfl, hL, rfl, rfl⟩, ?_⟩
    show Steps p.tables e below _ (((({ U with heap := s₂.heap, slotsUsed := s₂.slotsUsed } : State).setVm s₂.vm).setTop g).pushFrame (.throwing q))
    rw [← hs₂]
    exact hsteps
end Payer
section Calls
variable {p : Program} {l : Launch} {e : Env} {R : Room} {s : State} {m : MethodId} {args : Array Value} {below : List Frame} {meth : Method} {c : Code} {T : State} {locs : List Loc} {cells slots : Nat}
theorem vx_callV (X : Stand p l e R s m args below meth c T locs cells slots) (hexec : p.tables.exec = Jvm.exec) {own C : String} {index : Nat} {y : MethodName} {bytes : ByteArray} {maxL : Nat} {ret : Option FieldType}
    (hown : s.vm.findClass own = some m.cls) (hlink : (Cond.methodLink own index y).before args s = true) (hinst : (Cond.instanceMethod y).before args s = true) (hsel : (Cond.selects C y y).before args s = true)
    (hcode : (Cond.code y bytes maxL ret).before args s = true) (hy : y.cls ≠ "java/lang/invoke/MethodHandle" ∧ y.cls ≠ "java/lang/invoke/VarHandle")
    {W9 : Nat} {Pre : Pt → Array Value → Prop} {Post : Pt → Array Value → Option Value → Pt → Prop} {PostX : Pt → Array Value → Addr → Pt → Prop} (hK : vx_Back l R p e below s args y 3 W9 Pre Post PostX)
    {b : Addr} {cellB : Cell} (hcell : T.heap[b]? = some cellB) (hobj : cellB.vm.isStatics = false) (hcls : s.vm.findClass C = some cellB.cls)
    {g : JFrame} (hg : g.method = m) (hsize : g.locals.size = c.maxLocals) {argsL rest : List Value} (hlen : ∀ sig, parseMethodDescriptor y.desc = some sig → argsL.length = sig.parameters.length)
    (hstack : g.stack = argsL.reverse ++ .ref b :: rest) (hW : 2 * g.monitorRoom + (rest.map fun v => v.category).sum ≤ W9) (hdg : decode c.code g.pc = .ok (.invokevirtual index, 3))
    (hpre : ∀ vm₁, s.WarmedH vm₁ → Pre ⟨T.setVm vm₁, locs, cells, slots⟩ (Value.ref b :: argsL).toArray) :
    (∃ (v : Option Value) (vm₁ : Vm) (B : Pt), s.WarmedH vm₁ ∧ Stand p l e R s m args below meth c B.U B.locs B.cells B.slots ∧ Post ⟨T.setVm vm₁, locs, cells, slots⟩ (Value.ref b :: argsL).toArray v B ∧
      ∀ target, Steps p.tables e below (B.U.setTop { g with pc := g.pc + 3, stack := v.toList ++ rest }) target → Steps p.tables e below (T.setTop g) target) ∨
    (∃ (q : Addr) (vm₁ : Vm) (B : Pt), s.WarmedH vm₁ ∧ Stand p l e R s m args below meth c B.U B.locs B.cells B.slots ∧ PostX ⟨T.setVm vm₁, locs, cells, slots⟩ (Value.ref b :: argsL).toArray q B ∧
      Steps p.tables e below (T.setTop g) ((B.U.setTop { g with stack := rest }).pushFrame (.throwing q))) := by
  obtain ⟨mk, methM, hnamed, hmethM, hstM, habM⟩ := Cond.instanceMethod_spec hinst
  obtain ⟨methM', cM, hmethM', -, -, -, -, -, -, hsigM⟩ := Cond.code_spec hnamed hcode
  cases hmethM.symm.trans hmethM'
  obtain ⟨c2, r2, m2, q1, q2, q3, q4, kP, hkP, hkPi⟩ := Cond.selects_spec hsel
  cases hcls.symm.trans q1
  cases (State.methodFound?_of_named hnamed hy).symm.trans q2
  cases hnamed.symm.trans q3
  have hselP : selectMethod e.platform s.vm cellB.cls mk = .method mk := by rw [Launch.admits_selectMethod X.admits]; exact q4
  obtain ⟨vm₁, X₁, hstep₁⟩ := X.invokevirtual hexec hown hlink hnamed hmethM hstM hkP hkPi hy (a := b) (cell := cellB) hcell
    (fun z h => by rw [h] at hobj; cases hobj) hselP hmethM habM hkP hkPi (g := g) hg (argsL := argsL) (rest := rest) (hlen _ hsigM) hstack hdg
  rcases hK m meth c ⟨T.setVm vm₁, locs, cells, slots⟩ { g with stack := rest } (.invokevirtual index) mk (Value.ref b :: argsL).toArray X₁ hg hsize hdg hW (X₁.named hnamed) (hpre vm₁ X₁.warmed) with ⟨v, B, X', hpost, hsteps⟩ | ⟨q, B, X', hpost, hsteps⟩
  · exact Or.inl ⟨v, vm₁, B, X₁.warmed, X', hpost, fun target h => hstep₁ _ fun acts => by rw [doInvoke_state]; exact hsteps.trans h⟩
  · exact Or.inr ⟨q, vm₁, B, X₁.warmed, X', hpost, hstep₁ _ fun acts => by rw [doInvoke_state]; exact hsteps⟩
theorem vx_callS (X : Stand p l e R s m args below meth c T locs cells slots) (hexec : p.tables.exec = Jvm.exec) {own : String} {index : Nat} {y : MethodName} {bytes : ByteArray} {maxL : Nat} {ret : Option FieldType}
    (hown : s.vm.findClass own = some m.cls) (hlink : (Cond.methodLink own index y).before args s = true) (hstat : (Cond.static y).before args s = true) (hinit : (Cond.initialized y.cls).before args s = true)
    (hcode : (Cond.code y bytes maxL ret).before args s = true) (hy : y.cls ≠ "java/lang/invoke/MethodHandle" ∧ y.cls ≠ "java/lang/invoke/VarHandle")
    {W9 : Nat} {Pre : Pt → Array Value → Prop} {Post : Pt → Array Value → Option Value → Pt → Prop} {PostX : Pt → Array Value → Addr → Pt → Prop} (hK : vx_Back l R p e below s args y 3 W9 Pre Post PostX)
    {g : JFrame} (hg : g.method = m) (hsize : g.locals.size = c.maxLocals) {argsL rest : List Value} (hlen : ∀ sig, parseMethodDescriptor y.desc = some sig → argsL.length = sig.parameters.length)
    (hstack : g.stack = argsL.reverse ++ rest) (hW : 2 * g.monitorRoom + (rest.map fun v => v.category).sum ≤ W9) (hdg : decode c.code g.pc = .ok (.invokestatic index, 3))
    (hpre : ∀ vm₁, s.WarmedH vm₁ → Pre ⟨T.setVm vm₁, locs, cells, slots⟩ argsL.toArray) :
    (∃ (v : Option Value) (vm₁ : Vm) (B : Pt), s.WarmedH vm₁ ∧ Stand p l e R s m args below meth c B.U B.locs B.cells B.slots ∧ Post ⟨T.setVm vm₁, locs, cells, slots⟩ argsL.toArray v B ∧
      ∀ target, Steps p.tables e below (B.U.setTop { g with pc := g.pc + 3, stack := v.toList ++ rest }) target → Steps p.tables e below (T.setTop g) target) ∨
    (∃ (q : Addr) (vm₁ : Vm) (B : Pt), s.WarmedH vm₁ ∧ Stand p l e R s m args below meth c B.U B.locs B.cells B.slots ∧ PostX ⟨T.setVm vm₁, locs, cells, slots⟩ argsL.toArray q B ∧
      Steps p.tables e below (T.setTop g) ((B.U.setTop { g with stack := rest }).pushFrame (.throwing q))) := by
  obtain ⟨mk, hnamed⟩ := Cond.code_named hcode
  obtain ⟨methM, cM, hmethM, -, -, -, -, -, -, hsigM⟩ := Cond.code_spec hnamed hcode
  have hstatic : methM.isStatic = true := Cond.static_spec hnamed hmethM hstat
  obtain ⟨kP, hkP, -⟩ := className_of_methodNamed hnamed
  have hinitP : kP.init = .initialized := Cond.initialized_spec (findClass_of_methodNamed hnamed) hkP hinit
  obtain ⟨vm₁, X₁, hstep₁⟩ := X.invokestatic hexec hown hlink hnamed hmethM hstatic hkP hinitP hy (g := g) hg (argsL := argsL) (rest := rest) (hlen _ hsigM) hstack hdg
  rcases hK m meth c ⟨T.setVm vm₁, locs, cells, slots⟩ { g with stack := rest } (.invokestatic index) mk argsL.toArray X₁ hg hsize hdg hW (X₁.named hnamed) (hpre vm₁ X₁.warmed) with ⟨v, B, X', hpost, hsteps⟩ | ⟨q, B, X', hpost, hsteps⟩
  · exact Or.inl ⟨v, vm₁, B, X₁.warmed, X', hpost, fun target h => hstep₁ _ fun acts => by rw [doInvoke_state]; exact hsteps.trans h⟩
  · exact Or.inr ⟨q, vm₁, B, X₁.warmed, X', hpost, hstep₁ _ fun acts => by rw [doInvoke_state]; exact hsteps⟩
end Calls
theorem vx_cls {s : State} {T : State} {vm₁ : Vm} {E : String} {k : ClassId} (hW : s.WarmedH vm₁) (h : (T.setVm vm₁).vm.findClass E = some k) : s.vm.findClass E = some k := by
  have h1 : vm₁.findClass E = some k := h
  rw [hW.alike.findClass] at h1
  exact h1
/-- the method's frame g, with q thrown over it -/
def vx_W (p : Program) (l : Launch) (e : Env) (R : Room) (s : State) (m : MethodId) (args : Array Value) (below : List Frame) (meth : Method) (c : Code) (H : Heap) (locs : List Loc) (cells slots : Nat) (Q : State → Prop) (g : JFrame) (q : Addr) : Prop :=
  ∀ T : State, T.heap = H → Stand p l e R s m args below meth c T locs cells slots → ∃ t, Steps p.tables e below ((T.setTop g).pushFrame (.throwing q)) t ∧ Q t
def vx_Run (p : Program) (l : Launch) (e : Env) (R : Room) (s : State) (m : MethodId) (args : Array Value) (below : List Frame) (meth : Method) (c : Code) (H : Heap) (locs : List Loc) (cells slots mc ms : Nat) (g : JFrame) (rest : List Value) (Qa : State → Outcome → State → Prop) (XC : String → State → State → Prop) (free : Addr → Prop) : Prop :=
  ∀ T : State, T.heap = H → Stand p l e R s m args below meth c T locs cells slots →
    (∃ (v : Option Value) (st₀ t T' : State) (L : List Loc), st₀.heap = H ∧ Stand p l e R s m args below meth c T' (locs ++ L) (cells + mc) (slots + ms) ∧ (∀ q ∈ L, free q.base) ∧ T'.heap = t.heap ∧ T'.vm = t.vm ∧ Qa st₀ (.returned v) t ∧
      Goes p e below T g T' { g with pc := g.pc + 3, stack := v.toList ++ rest }) ∨
    (∃ (q : Addr) (st₀ t T' : State) (L : List Loc) (E : String) (ce : Cell), st₀.heap = H ∧ Stand p l e R s m args below meth c T' (locs ++ L) (cells + mc) (slots + ms) ∧ (∀ z ∈ L, free z.base) ∧ T'.heap = t.heap ∧ T'.vm = t.vm ∧ XC E st₀ t ∧ t.heap[q]? = some ce ∧ ce.vm = .none ∧ s.vm.findClass E = some ce.cls ∧
      Steps p.tables e below (T.setTop g) ((T'.setTop { g with stack := rest }).pushFrame (.throwing q)))
def vx_X {S : Type} (px : S → Prop) (B : String → S → State → Prop) (A : Nat → Prop) : String → State → State → Prop := fun E st t => ∃ u : S, px u ∧ B E u t ∧ va_F A st t
section Runs
variable {p : Program} {l : Launch} {e : Env} {R : Room} {s : State} {m : MethodId} {args : Array Value} {below : List Frame} {meth : Method} {c : Code} {H : Heap} {locs : List Loc} {cells slots : Nat}
variable {y : MethodName} {bytes cc : ByteArray} {maxL nL mc ms n index : Nat} {ret : Option FieldType} {ws : List Cond} {rm : Room} {Pc : Array Value → State → Prop} {Qc : Array Value → State → Outcome → State → Prop} {XC : String → State → State → Prop} {free : Addr → Prop} {Ts : List Cond} {own C : String} {b : Addr} {As rest : List Value} {g : JFrame}
theorem vx_callBack (cb : CallB R s args own index y bytes maxL ret ws rm mc ms n) (hM : vx_Met l y ws rm Pc Qc XC mc ms free) (hbl : FrameBlind Pc) : vx_Back l R p e below s args y 3 8 (PreOf R mc ms Pc) (PostOf Qc mc ms free) (vx_Post XC mc ms free) := by
  obtain ⟨hrc, hrs, hfr, hlo, hws, hcw, -, hini, -⟩ := cb
  exact vx_back (bytes := bytes) (maxL := maxL) (ret := ret) hM hbl hrc hrs hfr hlo hws hcw (fun a' U hW => word_at hW (Or.inl (by first | rfl | simp [Cond.onTables, Cond.keeps, Cond.steady])) hini)
theorem vx_runV (S : CallFix p m c cc nL s args Ts own) (hM : vx_Met l y ws rm Pc Qc XC mc ms free) (cw : CallW R s args own C index y bytes maxL ret ws rm mc ms n) (hp : PreV s H C b Pc As)
    (hg : g.method = m) (hn : As.length = n) (hsize : g.locals.size = nL) (hstack : g.stack = As.reverse ++ .ref b :: rest) (hW : 2 * g.monitorRoom + (rest.map fun v => v.category).sum ≤ 8) (hdg : decode cc g.pc = .ok (.invokevirtual index, 3)) (hf : cells + mc ≤ R.cells ∧ slots + ms ≤ R.slots) :
    vx_Run p l e R s m args below meth c H locs cells slots mc ms g rest (Qc (Value.ref b :: As).toArray) XC free := by
  have hK : vx_Back l R p e below s args y 3 8 (PreOf R mc ms Pc) (PostOf Qc mc ms free) (vx_Post XC mc ms free) := vx_callBack cw.1 hM hp.1
  obtain ⟨⟨-, -, -, -, -, -, hcode, -, hy, hlen, hl⟩, hin, hse⟩ := cw
  obtain ⟨hx, hb, hml, ho, -⟩ := S
  obtain ⟨-, ⟨cellB, hcB, hoB, hclB⟩, hPc⟩ := hp
  intro T hT X
  rcases vx_callV X hx (C := C) (bytes := bytes) (maxL := maxL) (ret := ret) ho hl hin hse hcode hy hK (by rw [hT]; exact hcB) hoB hclB hg (hsize.trans hml.symm) (argsL := As) (rest := rest) (fun sig h => hn.trans (hlen sig h)) hstack hW (by rw [hb]; exact hdg)
    (fun vm₁ hW₁ => ⟨hf.1, hf.2, hPc (T.setVm vm₁) hT hW₁⟩) with ⟨v, vm₁, ⟨U', l2, c2, s2⟩, hW₁, X', ⟨g', mk, t, L, e1, e2, hq, h1, hL, h2, h3⟩, st⟩ | ⟨q, vm₁, ⟨U', l2, c2, s2⟩, hW₁, X', ⟨g', mk, t, L, E, ce, e1, e2, hq, hce, hcv, hcl, h1, hL, h2, h3⟩, st⟩
  · dsimp only [Pt.U, Pt.locs, Pt.cells, Pt.slots] at X' e1 e2 h1 h2 h3 st
    subst h1; subst h2; subst h3
    exact Or.inl ⟨v, (T.setVm vm₁).calling g' mk (Value.ref b :: As).toArray, t, U', L, hT, X', hL, e1, e2, hq, st⟩
  · dsimp only [Pt.U, Pt.locs, Pt.cells, Pt.slots] at X' e1 e2 h1 h2 h3 st hcl
    subst h1; subst h2; subst h3
    exact Or.inr ⟨q, (T.setVm vm₁).calling g' mk (Value.ref b :: As).toArray, t, U', L, E, ce, hT, X', hL, e1, e2, hq, hce, hcv, vx_cls hW₁ hcl, st⟩
theorem vx_runS (S : CallFix p m c cc nL s args Ts own) (hM : vx_Met l y ws rm Pc Qc XC mc ms free) (cw : CallB R s args own index y bytes maxL ret ws rm mc ms n ∧ (Cond.static y).before args s = true) (hp : PreS s H Pc As)
    (hg : g.method = m) (hn : As.length = n) (hsize : g.locals.size = nL) (hstack : g.stack = As.reverse ++ rest) (hW : 2 * g.monitorRoom + (rest.map fun v => v.category).sum ≤ 8) (hdg : decode cc g.pc = .ok (.invokestatic index, 3)) (hf : cells + mc ≤ R.cells ∧ slots + ms ≤ R.slots) :
    vx_Run p l e R s m args below meth c H locs cells slots mc ms g rest (Qc As.toArray) XC free := by
  have hK : vx_Back l R p e below s args y 3 8 (PreOf R mc ms Pc) (PostOf Qc mc ms free) (vx_Post XC mc ms free) := vx_callBack cw.1 hM hp.1
  obtain ⟨⟨-, -, -, -, -, -, hcode, hini, hy, hlen, hl⟩, hstt⟩ := cw
  obtain ⟨hx, hb, hml, ho, -⟩ := S
  intro T hT X
  rcases vx_callS X hx (bytes := bytes) (maxL := maxL) (ret := ret) ho hl hstt hini hcode hy hK hg (hsize.trans hml.symm) (argsL := As) (rest := rest) (fun sig h => hn.trans (hlen sig h)) hstack hW (by rw [hb]; exact hdg)
    (fun vm₁ hW₁ => ⟨hf.1, hf.2, hp.2 (T.setVm vm₁) hT hW₁⟩) with ⟨v, vm₁, ⟨U', l2, c2, s2⟩, hW₁, X', ⟨g', mk, t, L, e1, e2, hq, h1, hL, h2, h3⟩, st⟩ | ⟨q, vm₁, ⟨U', l2, c2, s2⟩, hW₁, X', ⟨g', mk, t, L, E, ce, e1, e2, hq, hce, hcv, hcl, h1, hL, h2, h3⟩, st⟩
  · dsimp only [Pt.U, Pt.locs, Pt.cells, Pt.slots] at X' e1 e2 h1 h2 h3 st
    subst h1; subst h2; subst h3
    exact Or.inl ⟨v, (T.setVm vm₁).calling g' mk As.toArray, t, U', L, hT, X', hL, e1, e2, hq, st⟩
  · dsimp only [Pt.U, Pt.locs, Pt.cells, Pt.slots] at X' e1 e2 h1 h2 h3 st hcl
    subst h1; subst h2; subst h3
    exact Or.inr ⟨q, (T.setVm vm₁).calling g' mk As.toArray, t, U', L, E, ce, hT, X', hL, e1, e2, hq, hce, hcv, vx_cls hW₁ hcl, st⟩
end Runs
section Rows
variable {p : Program} {l : Launch} {e : Env} {R : Room} {s : State} {m : MethodId} {args : Array Value} {below : List Frame} {meth : Method} {c : Code} {H : Heap} {locs : List Loc} {cells slots : Nat} {Q : State → Prop}
variable {mc ms : Nat} {free : Addr → Prop} {A0 A1 : Nat → Prop} {H0 : Heap} {a : Array Value} {pc : Nat} {ls : Array Slot} {st0 rest : List Value}
theorem vx_keep {st₀ t T' : State} {L : List Loc} (h0 : st₀.heap = H) (e1 : T'.heap = t.heap) (hS : va_S A0 H0 H locs) (hA : ∀ q, q < H.size → A1 q → A0 q) (hf : ∀ q, free q → A0 q) (hL : ∀ q ∈ L, free q.base) (hF : va_F A1 st₀ t) :
    H.size ≤ T'.heap.size ∧ (∀ q : Nat, q < H.size → ¬ A1 q → T'.heap[q]? = H[q]?) ∧ va_S A0 H0 T'.heap (locs ++ L) := by
  obtain ⟨hz, hk⟩ := hF
  rw [h0] at hz hk
  exact ⟨by rw [e1]; exact hz, fun q h1 h2 => by rw [e1]; exact hk q h1 h2,
    ⟨Nat.le_trans hS.1 (by rw [e1]; exact hz), fun q h1 h2 => by rw [e1, hk q (Nat.lt_of_lt_of_le h1 hS.1) (fun z => h2 (hA q (Nat.lt_of_lt_of_le h1 hS.1) z))]; exact hS.2.1 q h1 h2, fun q hq => by
      rcases List.mem_append.mp hq with h | h
      · exact hS.2.2 q h
      · exact hf _ (hL q h)⟩⟩
theorem vx_calli {S SX : Type} {post : Int32 → S → Prop} {px : SX → Prop} {B : S → State → Prop} {BX : String → SX → State → Prop} {AX : Nat → Prop} (hr : vx_Run p l e R s m args below meth c H locs cells slots mc ms (F0 m pc ls st0) rest (va_Qi post B A1 a) (vx_X px BX AX) free) (hS : va_S A0 H0 H locs) (hA : ∀ q, q < H.size → A1 q → A0 q) (hf : ∀ q, free q → A0 q) (hAX : ∀ q, q < H.size → AX q → A0 q)
    (kx : ∀ (E : String) (ce : Cell) (q9 : Addr) (u : SX) (t : State) (H1 : Heap) (locs1 : List Loc), t.heap = H1 → s.vm.Alike t.vm → px u → BX E u t → H.size ≤ H1.size → (∀ q : Nat, q < H.size → ¬ AX q → H1[q]? = H[q]?) → va_S A0 H0 H1 locs1 → H1[q9]? = some ce → ce.vm = .none → s.vm.findClass E = some ce.cls → vx_W p l e R s m args below meth c H1 locs1 (cells + mc) (slots + ms) Q (F0 m pc ls rest) q9)
    (kk : ∀ (r : Int32) (u : S) (t : State) (H1 : Heap) (locs1 : List Loc), t.heap = H1 → s.vm.Alike t.vm → post r u → B u t → H.size ≤ H1.size → (∀ q : Nat, q < H.size → ¬ A1 q → H1[q]? = H[q]?) → va_S A0 H0 H1 locs1 → W p l e R s m args below meth c H1 locs1 (cells + mc) (slots + ms) Q (F0 m (pc + 3) ls (.int r :: rest))) : W p l e R s m args below meth c H locs cells slots Q (F0 m pc ls st0) := by
  intro T hT X
  rcases hr T hT X with ⟨v, st₀, t, T', L, h0, X', hL, e1, e2, ⟨⟨r, u, hv, hp, hb⟩, hF⟩, st⟩ | ⟨q, st₀, t, T', L, E, ce, h0, X', hL, e1, e2, ⟨u, hp, hb, hF⟩, hce, hcv, hcl, st⟩
  · cases hv
    obtain ⟨k1, k2, k3⟩ := vx_keep h0 e1 hS hA hf hL hF
    obtain ⟨t2, a1, b1⟩ := kk r u t T'.heap (locs ++ L) e1.symm (by rw [← e2]; exact X'.warmed.alike) hp hb k1 k2 k3 T' rfl X'
    exact ⟨t2, st t2 a1, b1⟩
  · obtain ⟨k1, k2, k3⟩ := vx_keep h0 e1 hS hAX hf hL hF
    obtain ⟨t2, a1, b1⟩ := kx E ce q u t T'.heap (locs ++ L) e1.symm (by rw [← e2]; exact X'.warmed.alike) hp hb k1 k2 k3 (by rw [e1]; exact hce) hcv hcl T' rfl X'
    exact ⟨t2, st.trans a1, b1⟩
theorem vx_calll {S SX : Type} {post : Int64 → S → Prop} {px : SX → Prop} {B : S → State → Prop} {BX : String → SX → State → Prop} {AX : Nat → Prop} (hr : vx_Run p l e R s m args below meth c H locs cells slots mc ms (F0 m pc ls st0) rest (va_Ql post B A1 a) (vx_X px BX AX) free) (hS : va_S A0 H0 H locs) (hA : ∀ q, q < H.size → A1 q → A0 q) (hf : ∀ q, free q → A0 q) (hAX : ∀ q, q < H.size → AX q → A0 q)
    (kx : ∀ (E : String) (ce : Cell) (q9 : Addr) (u : SX) (t : State) (H1 : Heap) (locs1 : List Loc), t.heap = H1 → s.vm.Alike t.vm → px u → BX E u t → H.size ≤ H1.size → (∀ q : Nat, q < H.size → ¬ AX q → H1[q]? = H[q]?) → va_S A0 H0 H1 locs1 → H1[q9]? = some ce → ce.vm = .none → s.vm.findClass E = some ce.cls → vx_W p l e R s m args below meth c H1 locs1 (cells + mc) (slots + ms) Q (F0 m pc ls rest) q9)
    (kk : ∀ (r : Int64) (u : S) (t : State) (H1 : Heap) (locs1 : List Loc), t.heap = H1 → s.vm.Alike t.vm → post r u → B u t → H.size ≤ H1.size → (∀ q : Nat, q < H.size → ¬ A1 q → H1[q]? = H[q]?) → va_S A0 H0 H1 locs1 → W p l e R s m args below meth c H1 locs1 (cells + mc) (slots + ms) Q (F0 m (pc + 3) ls (.long r :: rest))) : W p l e R s m args below meth c H locs cells slots Q (F0 m pc ls st0) := by
  intro T hT X
  rcases hr T hT X with ⟨v, st₀, t, T', L, h0, X', hL, e1, e2, ⟨⟨r, u, hv, hp, hb⟩, hF⟩, st⟩ | ⟨q, st₀, t, T', L, E, ce, h0, X', hL, e1, e2, ⟨u, hp, hb, hF⟩, hce, hcv, hcl, st⟩
  · cases hv
    obtain ⟨k1, k2, k3⟩ := vx_keep h0 e1 hS hA hf hL hF
    obtain ⟨t2, a1, b1⟩ := kk r u t T'.heap (locs ++ L) e1.symm (by rw [← e2]; exact X'.warmed.alike) hp hb k1 k2 k3 T' rfl X'
    exact ⟨t2, st t2 a1, b1⟩
  · obtain ⟨k1, k2, k3⟩ := vx_keep h0 e1 hS hAX hf hL hF
    obtain ⟨t2, a1, b1⟩ := kx E ce q u t T'.heap (locs ++ L) e1.symm (by rw [← e2]; exact X'.warmed.alike) hp hb k1 k2 k3 (by rw [e1]; exact hce) hcv hcl T' rfl X'
    exact ⟨t2, st.trans a1, b1⟩
theorem vx_callf {S SX : Type} {post : UInt32 → S → Prop} {px : SX → Prop} {B : S → State → Prop} {BX : String → SX → State → Prop} {AX : Nat → Prop} (hr : vx_Run p l e R s m args below meth c H locs cells slots mc ms (F0 m pc ls st0) rest (va_Qf post B A1 a) (vx_X px BX AX) free) (hS : va_S A0 H0 H locs) (hA : ∀ q, q < H.size → A1 q → A0 q) (hf : ∀ q, free q → A0 q) (hAX : ∀ q, q < H.size → AX q → A0 q)
    (kx : ∀ (E : String) (ce : Cell) (q9 : Addr) (u : SX) (t : State) (H1 : Heap) (locs1 : List Loc), t.heap = H1 → s.vm.Alike t.vm → px u → BX E u t → H.size ≤ H1.size → (∀ q : Nat, q < H.size → ¬ AX q → H1[q]? = H[q]?) → va_S A0 H0 H1 locs1 → H1[q9]? = some ce → ce.vm = .none → s.vm.findClass E = some ce.cls → vx_W p l e R s m args below meth c H1 locs1 (cells + mc) (slots + ms) Q (F0 m pc ls rest) q9)
    (kk : ∀ (r : UInt32) (u : S) (t : State) (H1 : Heap) (locs1 : List Loc), t.heap = H1 → s.vm.Alike t.vm → post r u → B u t → H.size ≤ H1.size → (∀ q : Nat, q < H.size → ¬ A1 q → H1[q]? = H[q]?) → va_S A0 H0 H1 locs1 → W p l e R s m args below meth c H1 locs1 (cells + mc) (slots + ms) Q (F0 m (pc + 3) ls (.float r :: rest))) : W p l e R s m args below meth c H locs cells slots Q (F0 m pc ls st0) := by
  intro T hT X
  rcases hr T hT X with ⟨v, st₀, t, T', L, h0, X', hL, e1, e2, ⟨⟨r, u, hv, hp, hb⟩, hF⟩, st⟩ | ⟨q, st₀, t, T', L, E, ce, h0, X', hL, e1, e2, ⟨u, hp, hb, hF⟩, hce, hcv, hcl, st⟩
  · cases hv
    obtain ⟨k1, k2, k3⟩ := vx_keep h0 e1 hS hA hf hL hF
    obtain ⟨t2, a1, b1⟩ := kk r u t T'.heap (locs ++ L) e1.symm (by rw [← e2]; exact X'.warmed.alike) hp hb k1 k2 k3 T' rfl X'
    exact ⟨t2, st t2 a1, b1⟩
  · obtain ⟨k1, k2, k3⟩ := vx_keep h0 e1 hS hAX hf hL hF
    obtain ⟨t2, a1, b1⟩ := kx E ce q u t T'.heap (locs ++ L) e1.symm (by rw [← e2]; exact X'.warmed.alike) hp hb k1 k2 k3 (by rw [e1]; exact hce) hcv hcl T' rfl X'
    exact ⟨t2, st.trans a1, b1⟩
theorem vx_calld {S SX : Type} {post : UInt64 → S → Prop} {px : SX → Prop} {B : S → State → Prop} {BX : String → SX → State → Prop} {AX : Nat → Prop} (hr : vx_Run p l e R s m args below meth c H locs cells slots mc ms (F0 m pc ls st0) rest (va_Qd post B A1 a) (vx_X px BX AX) free) (hS : va_S A0 H0 H locs) (hA : ∀ q, q < H.size → A1 q → A0 q) (hf : ∀ q, free q → A0 q) (hAX : ∀ q, q < H.size → AX q → A0 q)
    (kx : ∀ (E : String) (ce : Cell) (q9 : Addr) (u : SX) (t : State) (H1 : Heap) (locs1 : List Loc), t.heap = H1 → s.vm.Alike t.vm → px u → BX E u t → H.size ≤ H1.size → (∀ q : Nat, q < H.size → ¬ AX q → H1[q]? = H[q]?) → va_S A0 H0 H1 locs1 → H1[q9]? = some ce → ce.vm = .none → s.vm.findClass E = some ce.cls → vx_W p l e R s m args below meth c H1 locs1 (cells + mc) (slots + ms) Q (F0 m pc ls rest) q9)
    (kk : ∀ (r : UInt64) (u : S) (t : State) (H1 : Heap) (locs1 : List Loc), t.heap = H1 → s.vm.Alike t.vm → post r u → B u t → H.size ≤ H1.size → (∀ q : Nat, q < H.size → ¬ A1 q → H1[q]? = H[q]?) → va_S A0 H0 H1 locs1 → W p l e R s m args below meth c H1 locs1 (cells + mc) (slots + ms) Q (F0 m (pc + 3) ls (.double r :: rest))) : W p l e R s m args below meth c H locs cells slots Q (F0 m pc ls st0) := by
  intro T hT X
  rcases hr T hT X with ⟨v, st₀, t, T', L, h0, X', hL, e1, e2, ⟨⟨r, u, hv, hp, hb⟩, hF⟩, st⟩ | ⟨q, st₀, t, T', L, E, ce, h0, X', hL, e1, e2, ⟨u, hp, hb, hF⟩, hce, hcv, hcl, st⟩
  · cases hv
    obtain ⟨k1, k2, k3⟩ := vx_keep h0 e1 hS hA hf hL hF
    obtain ⟨t2, a1, b1⟩ := kk r u t T'.heap (locs ++ L) e1.symm (by rw [← e2]; exact X'.warmed.alike) hp hb k1 k2 k3 T' rfl X'
    exact ⟨t2, st t2 a1, b1⟩
  · obtain ⟨k1, k2, k3⟩ := vx_keep h0 e1 hS hAX hf hL hF
    obtain ⟨t2, a1, b1⟩ := kx E ce q u t T'.heap (locs ++ L) e1.symm (by rw [← e2]; exact X'.warmed.alike) hp hb k1 k2 k3 (by rw [e1]; exact hce) hcv hcl T' rfl X'
    exact ⟨t2, st.trans a1, b1⟩
theorem vx_callv {S SX : Type} {post : S → Prop} {px : SX → Prop} {B : S → State → Prop} {BX : String → SX → State → Prop} {AX : Nat → Prop} (hr : vx_Run p l e R s m args below meth c H locs cells slots mc ms (F0 m pc ls st0) rest (va_Qv post B A1 a) (vx_X px BX AX) free) (hS : va_S A0 H0 H locs) (hA : ∀ q, q < H.size → A1 q → A0 q) (hf : ∀ q, free q → A0 q) (hAX : ∀ q, q < H.size → AX q → A0 q)
    (kx : ∀ (E : String) (ce : Cell) (q9 : Addr) (u : SX) (t : State) (H1 : Heap) (locs1 : List Loc), t.heap = H1 → s.vm.Alike t.vm → px u → BX E u t → H.size ≤ H1.size → (∀ q : Nat, q < H.size → ¬ AX q → H1[q]? = H[q]?) → va_S A0 H0 H1 locs1 → H1[q9]? = some ce → ce.vm = .none → s.vm.findClass E = some ce.cls → vx_W p l e R s m args below meth c H1 locs1 (cells + mc) (slots + ms) Q (F0 m pc ls rest) q9)
    (kk : ∀ (u : S) (t : State) (H1 : Heap) (locs1 : List Loc), t.heap = H1 → s.vm.Alike t.vm → post u → B u t → H.size ≤ H1.size → (∀ q : Nat, q < H.size → ¬ A1 q → H1[q]? = H[q]?) → va_S A0 H0 H1 locs1 → W p l e R s m args below meth c H1 locs1 (cells + mc) (slots + ms) Q (F0 m (pc + 3) ls (rest))) : W p l e R s m args below meth c H locs cells slots Q (F0 m pc ls st0) := by
  intro T hT X
  rcases hr T hT X with ⟨v, st₀, t, T', L, h0, X', hL, e1, e2, ⟨⟨u, hv, hp, hb⟩, hF⟩, st⟩ | ⟨q, st₀, t, T', L, E, ce, h0, X', hL, e1, e2, ⟨u, hp, hb, hF⟩, hce, hcv, hcl, st⟩
  · cases hv
    obtain ⟨k1, k2, k3⟩ := vx_keep h0 e1 hS hA hf hL hF
    obtain ⟨t2, a1, b1⟩ := kk u t T'.heap (locs ++ L) e1.symm (by rw [← e2]; exact X'.warmed.alike) hp hb k1 k2 k3 T' rfl X'
    exact ⟨t2, st t2 a1, b1⟩
  · obtain ⟨k1, k2, k3⟩ := vx_keep h0 e1 hS hAX hf hL hF
    obtain ⟨t2, a1, b1⟩ := kx E ce q u t T'.heap (locs ++ L) e1.symm (by rw [← e2]; exact X'.warmed.alike) hp hb k1 k2 k3 (by rw [e1]; exact hce) hcv hcl T' rfl X'
    exact ⟨t2, st.trans a1, b1⟩
end Rows
section Ends
variable {p : Program} {l : Launch} {e : Env} {R : Room} {s : State} {m : MethodId} {args : Array Value} {below : List Frame} {meth : Method} {c : Code} {H : Heap} {locs : List Loc} {cells slots : Nat} {Q : State → Prop}
variable {mc ms : Nat} {free : Addr → Prop} {A0 A1 : Nat → Prop} {H0 : Heap} {a : Array Value} {ls : Array Slot} {st0 rest : List Value}
variable {Qc : Array Value → State → Outcome → State → Prop} {XC : String → State → State → Prop}
/-- what a body that may throw owes at its end -/
def vx_MQ (below : List Frame) (Qc : Array Value → State → Outcome → State → Prop) (XC : String → State → State → Prop) (a : Array Value) (s : State) (mc ms : Nat) (free : Addr → Prop) : State → Prop := fun t =>
  ∃ o, t.status = .running ∧ Ended t below o ∧ vx_Q Qc XC mc ms free a s o t
theorem vx_ret {g : JFrame} {mc ms : Nat} (k : W p l e R s m args below meth c H locs cells slots (MQ below Qc args s mc ms free) g) : W p l e R s m args below meth c H locs cells slots (vx_MQ below Qc XC args s mc ms free) g := by
  intro T hT X
  obtain ⟨t, a1, o, b1, b2, b3, b4⟩ := k T hT X
  exact ⟨t, a1, o, b1, b2, Or.inl ⟨b3, b4⟩⟩
/-- not caught here: it goes on to the caller -/
theorem vx_widen {g : JFrame} {q : Addr} {k n : Nat} (h1 : cells ≤ k) (h2 : slots ≤ n) (kk : vx_W p l e R s m args below meth c H locs k n Q g q) : vx_W p l e R s m args below meth c H locs cells slots Q g q := fun T hT X => kk T hT (stand_widen X h1 h2)
theorem vx_out {pc : Nat} {E : String} {ce : Cell} {q : Addr} {mc ms : Nat} (hout : ∀ x ∈ c.exceptionTable.toList, covers x pc = false) (hlocks : meth.locks = false) (hcell : H[q]? = some ce) (hv : ce.vm = .none) (hcl : s.vm.findClass E = some ce.cls)
    (hx : ∀ t : State, t.heap = H → s.vm.Alike t.vm → XC E s t) (hf : ∀ z ∈ locs, free z.base) (hc : cells ≤ mc) (hs : slots ≤ ms) :
    vx_W p l e R s m args below meth c H locs cells slots (vx_MQ below Qc XC args s mc ms free) (F0 m pc ls rest) q := by
  intro T hT X
  obtain ⟨st1, hrun, hend, hW, hsm⟩ := X.leaveThrown q (g := F0 m pc ls rest) rfl rfl rfl hout hlocks
  have hcell9 : (T.setFrames (.throwing q :: below)).heap[q]? = some ce := by
    show T.heap[q]? = some ce
    rw [hT]; exact hcell
  exact ⟨_, st1, .threw q, hrun, hend, Or.inr ⟨q, rfl, E, ce, locs, hx _ hT hW.alike, hcell9, hv, hcl, hW, hsm.mono hc hs, hf⟩⟩
theorem vx_frame {U : State} {k n : Nat} (h : s.sameButNew ({ U with vm := s.vm } : State) locs k n) : s.heap.size ≤ U.heap.size ∧ ∀ q : Nat, q < s.heap.size → (∀ z ∈ locs, z.base ≠ q) → U.heap[q]? = s.heap[q]? := by
  obtain ⟨-, h2, -, -, -, h6⟩ := h
  refine ⟨h2, fun q hq hz => ?_⟩
  obtain ⟨c9, e1, e2, e3, e4⟩ := h6 q _ (Array.getElem?_eq_getElem hq)
  have hs : c9.slots = (s.heap[q]).slots := Array.ext_getElem? fun i => e4 i fun hm => hz _ hm rfl
  have h9 : c9 = s.heap[q] := by
    rw [hs] at e2
    exact e2
  have e5 : U.heap[q]? = some c9 := e1
  rw [e5, h9, Array.getElem?_eq_getElem hq]
/-- the words of a throw but the four that speak of the heap -/
def vx_no (w : Cond) : Bool := decide (w ≠ .isRef (.static Bundle.tN "UNASSIGNED_STACK" Bundle.steD)) && decide (w ≠ .isRef (.static Bundle.tN "SUPPRESSED_SENTINEL" Bundle.listD)) && decide (w ≠ .laysStatic Bundle.tN "UNASSIGNED_STACK" Bundle.steD) && decide (w ≠ .laysStatic Bundle.tN "SUPPRESSED_SENTINEL" Bundle.listD)
def vx_at0 (own : String) (ic : Nat) (X : String) (names : List String) : List Cond := (Bundle.ownAtoms0 own ic X names).filter vx_no
def vx_atS (own : String) (ic : Nat) (X : String) (names : List String) : List Cond := (Bundle.ownAtoms own ic X names).filter vx_no
/-- a word that the tables alone decide, or a good one -/
def vx_ot (w : Cond) : Bool := w.onTables || goodWord w
theorem vx_ot_at {args a' : Array Value} {s U : State} {w : Cond} (hW : s.WarmedH U.vm) (hvm : s.vm = U.vm) (hg : vx_ot w = true) (h : w.before args s = true) : w.before a' U = true := by
  simp only [vx_ot, Bool.or_eq_true] at hg
  rcases hg with hg | hg
  · exact va_tabs hg hvm h
  · exact word_at hW (good_of_word hg) h
/-- a list's words: the good ones out of the method's own list, the others by premises of their own -/
theorem vx_hat {args : Array Value} {s : State} {L B : List Cond} (h1 : ∀ w ∈ L.filter goodWord, w.before args s = true) (h2 : ∀ w ∈ L.filter (fun w => !goodWord w), w ∈ B) (h3 : ∀ w ∈ B, w.before args s = true) : ∀ w ∈ L, w.before args s = true := by
  intro w hw
  by_cases g : goodWord w = true
  · exact h1 w (List.mem_filter.mpr ⟨hw, g⟩)
  · refine h3 w (h2 w (List.mem_filter.mpr ⟨hw, ?_⟩))
    show (!goodWord w) = true
    cases hgw : goodWord w
    · rfl
    · exact absurd hgw g
theorem vx_c {args : Array Value} {s : State} {w : Cond} {B : List Cond} (h : w.before args s = true) (t : ∀ w ∈ B, w.before args s = true) : ∀ w' ∈ w :: B, w'.before args s = true := fun w' h' => (List.mem_cons.mp h').elim (fun e => by rw [e]; exact h) (t w')
theorem vx_n {args : Array Value} {s : State} : ∀ w ∈ ([] : List Cond), w.before args s = true := fun _ h => nomatch h
theorem vx_own {args : Array Value} {s : State} {L : List Cond} (h1 : ∀ w ∈ L.filter vx_no, w.before args s = true)
    (hU : (Cond.isRef (.static Bundle.tN "UNASSIGNED_STACK" Bundle.steD)).before args s = true) (hN : (Cond.isRef (.static Bundle.tN "SUPPRESSED_SENTINEL" Bundle.listD)).before args s = true)
    (lU : (Cond.laysStatic Bundle.tN "UNASSIGNED_STACK" Bundle.steD).before args s = true) (lN : (Cond.laysStatic Bundle.tN "SUPPRESSED_SENTINEL" Bundle.listD).before args s = true) : ∀ w ∈ L, w.before args s = true := by
  intro w hw
  by_cases e1 : w = .isRef (.static Bundle.tN "UNASSIGNED_STACK" Bundle.steD)
  · rw [e1]; exact hU
  · by_cases e2 : w = .isRef (.static Bundle.tN "SUPPRESSED_SENTINEL" Bundle.listD)
    · rw [e2]; exact hN
    · by_cases e3 : w = .laysStatic Bundle.tN "UNASSIGNED_STACK" Bundle.steD
      · rw [e3]; exact lU
      · by_cases e4 : w = .laysStatic Bundle.tN "SUPPRESSED_SENTINEL" Bundle.listD
        · rw [e4]; exact lN
        · exact h1 w (List.mem_filter.mpr ⟨hw, by unfold vx_no; rw [decide_eq_true e1, decide_eq_true e2, decide_eq_true e3, decide_eq_true e4]; rfl⟩)
/-- where a static field lies, its class's statics cell in H -/
def vx_L (C n d : String) (A : Nat → Prop) (U : State) (H : Heap) : Prop := ∃ (c : ClassId) (k : Class) (i : Nat) (f : Field) (a : Nat) (cell : Cell), U.vm.findClass C = some c ∧ U.fieldFound? C n d = some (c, k, i, f) ∧ f.isStatic = true ∧ k.statics = some a ∧ H[a]? = some cell ∧ cell.vm.isStatics = true ∧ cell.cls = c ∧ f.slot < cell.slots.size ∧ k.staticTypes[f.slot]? = some f.type ∧ ¬ A a
theorem vx_L.moved {C n d : String} {A : Nat → Prop} {u U : State} {H : Heap} (hvm : u.vm.Alike U.vm) (h : vx_L C n d A u H) : vx_L C n d A U H := by
  obtain ⟨c, k, i, f, a, cell, h1, h2, h3, h4, h5, h6, h7, h8, h9, h10⟩ := h
  obtain ⟨k', hi', he⟩ := State.fieldFound?_setVm hvm h2
  exact ⟨c, k', i, f, a, cell, by rw [hvm.findClass]; exact h1, hi', h3, by rw [he]; exact h4, h5, h6, h7, h8, by rw [he]; exact h9, h10⟩
theorem vx_L.kept {C n d : String} {A : Nat → Prop} {U : State} {H H1 : Heap} (h : vx_L C n d A U H) (hq : ∀ a : Nat, a < H.size → ¬ A a → H1[a]? = H[a]?) : vx_L C n d A U H1 := by
  obtain ⟨c, k, i, f, a, cell, h1, h2, h3, h4, h5, h6, h7, h8, h9, h10⟩ := h
  exact ⟨c, k, i, f, a, cell, h1, h2, h3, h4, by rw [hq a (Array.getElem?_eq_some_iff.mp h5).1 h10]; exact h5, h6, h7, h8, h9, h10⟩
theorem vx_L.narrow {C n d : String} {A B : Nat → Prop} {U : State} {H : Heap} (h : vx_L C n d A U H) (hAB : ∀ q, B q → A q) : vx_L C n d B U H := by
  obtain ⟨c, k, i, f, a, cell, h1, h2, h3, h4, h5, h6, h7, h8, h9, h10⟩ := h
  exact ⟨c, k, i, f, a, cell, h1, h2, h3, h4, h5, h6, h7, h8, h9, fun z => h10 (hAB _ z)⟩
theorem vx_L.word {C n d : String} {A : Nat → Prop} {s : State} {args : Array Value} (h : vx_L C n d A s s.heap) : (Cond.laysStatic C n d).before args s = true := by
  obtain ⟨c, k, i, f, a, cell, h1, h2, h3, h4, h5, h6, h7, h8, h9, -⟩ := h
  show (Cond.laysStatic C n d).holds args s none s [] = true
  exact Cond.laysStatic_of h1 h2 h3 h4 h5 h6 h7 h8 h9
/-- .. and what it holds: null or some reference -/
def vx_Zq (C n d : String) (A : Nat → Prop) (U : State) (H : Heap) : Prop := va_Zq C n d A U H ∧ vx_L C n d A U H
theorem vx_Zq.moved {C n d : String} {A : Nat → Prop} {u U : State} {H : Heap} (hvm : u.vm.Alike U.vm) (h : vx_Zq C n d A u H) : vx_Zq C n d A U H := ⟨va_Zq.moved hvm h.1, vx_L.moved hvm h.2⟩
theorem vx_Zq.kept {C n d : String} {A : Nat → Prop} {U : State} {H H1 : Heap} (h : vx_Zq C n d A U H) (hq : ∀ a : Nat, a < H.size → ¬ A a → H1[a]? = H[a]?) : vx_Zq C n d A U H1 := ⟨va_Zq.kept h.1 hq, vx_L.kept h.2 hq⟩
theorem vx_Zq.narrow {C n d : String} {A B : Nat → Prop} {U : State} {H : Heap} (h : vx_Zq C n d A U H) (hAB : ∀ q, B q → A q) : vx_Zq C n d B U H := ⟨va_Zq.narrow h.1 hAB, vx_L.narrow h.2 hAB⟩
theorem vx_Zqof {args : Array Value} {s : State} {C n d : String} {A : Nat → Prop} (hl : (Cond.laysStatic C n d).before args s = true) (hini : (Cond.initialized C).before args s = true) (h : (Cond.isRef (.static C n d)).before args s = true) (hA : ∀ a : Nat, a < s.heap.size → ¬ A a) : vx_Zq C n d A s s.heap := by
  refine ⟨va_Zqof hl hini h hA, ?_⟩
  obtain ⟨c, k, i, f, a, cell, h1, h2, h3, h4, h5, h6, h7, h8, h9⟩ := Cond.laysStatic_spec hl
  exact ⟨c, k, i, f, a, cell, h1, h2, h3, h4, h5, h6, h7, h8, h9, hA a (Array.getElem?_eq_some_iff.mp h5).1⟩
theorem vx_isRef {C n d : String} {v : Value} {A : Nat → Prop} {s : State} {args : Array Value} (h : va_Z C n d v A s s.heap) (hv : v.isRef = true) : (Cond.isRef (.static C n d)).before args s = true := by
  obtain ⟨cf, kf, fi, f, a, cell, h1, h2, h3, h4, h5, h6, h7, -⟩ := h
  have he : (Term.static C n d).eval args s none [] s = some v := by
    simp [Term.eval, State.fieldNamed?, h1, h2, h4, h5, h6, h7]
  simp only [Cond.before, Cond.holds, Cond.value, he]
  cases v <;> simp_all [Value.isRef]
theorem vx_isRefq {C n d : String} {A : Nat → Prop} {s : State} {args : Array Value} (h : va_Zq C n d A s s.heap) : (Cond.isRef (.static C n d)).before args s = true := by
  rcases h with h | ⟨t, h⟩
  · exact vx_isRef h rfl
  · exact vx_isRef h rfl
/-- the same frame, seen from here: as if the method were called anew in this heap -/
theorem vx_rebase {T : State} (X : Stand p l e R s m args below meth c T locs cells slots) {R' : Room} (hf : R'.frames ≤ R.frames) (hl : R'.locals ≤ R.locals) (hc : cells + R'.cells ≤ R.cells) (hs : slots + R'.slots ≤ R.slots) :
    Stand p l e R' ((T.setVm s.vm).setFrames (.invoking m args :: below)) m args below meth c T [] 0 0 := by
  have htop : (T.setVm s.vm).topJava?.isSome := X.here.top
  have hF : ((T.setVm s.vm).setFrames (.invoking m args :: below)).frames = .invoking m args :: below := State.frames_setFrames _ (State.cur_lt_of_top htop)
  obtain ⟨g₀, hg0⟩ := Option.isSome_iff_exists.mp htop
  obtain ⟨r, hr⟩ := State.topJava?_eq_some.mp hg0
  have hl9 : e.platform.stackLimits (T.setVm s.vm).me = e.platform.stackLimits s.me := X.limits
  have hb9 : (T.setVm s.vm).me.stackBytes = s.me.stackBytes := X.bytes
  refine ⟨X.admits, X.cas, X.clock, hF, ?_, X.hears, X.method, X.code, X.here, X.tail, X.warmed, ?_, ?_, ?_⟩
  · have h := X.room
    have hU : ((T.setVm s.vm).setFrames (.invoking m args :: below)).localsInUse = s.localsInUse := by
      rw [State.localsInUse_invoking hF (meth := meth) (c := c) X.method X.code, State.localsInUse_invoking X.frames X.method X.code]
    simp only [State.hasRoom, Bool.and_eq_true, decide_eq_true_eq] at h ⊢
    obtain ⟨⟨⟨⟨h1, h2, h3, h4, h5, h6⟩, h7⟩, h8⟩, h9⟩ := h
    rw [X.frames, List.length_cons] at h2 h3
    have q1 := X.heapSize
    have q2 := X.used
    simp only [hF, hU, List.length_cons, State.stackLimits_setFrames, State.stackBytes_setFrames, hl9, hb9]
    refine ⟨⟨⟨⟨by omega, by omega, by omega, by omega, by omega, h6⟩, ?_⟩, ?_⟩, X.book⟩
    · show T.heap.size + R'.cells ≤ e.platform.maxCells
      omega
    · show T.slotsUsed + R'.slots ≤ e.platform.maxSlots
      omega
  · rw [State.stackLimits_setFrames]; rfl
  · rw [State.stackBytes_setFrames]; rfl
  · refine ⟨?_, Nat.le_refl _, Nat.le_refl _, ?_, ?_, fun a c9 h9 => ⟨c9, h9, rfl, rfl, fun _ _ => rfl⟩⟩
    · obtain ⟨t, ht, -⟩ := State.frames_cons hr
      show T.setVm s.vm = { ((T.setVm s.vm).setFrames (.invoking m args :: below)).setFrames (T.setVm s.vm).frames with heap := T.heap, slotsUsed := T.slotsUsed }
      rw [State.setFrames_setFrames, State.setFrames_self ht]
      rfl
    · show T.slotsUsed = T.slotsUsed + ((T.heap.toList.drop T.heap.size).map (·.slots.size)).sum
      rw [List.drop_eq_nil_of_le (Nat.le_of_eq Array.length_toList)]
      rfl
    · show ((T.heap.toList.drop T.heap.size).map (·.slots.size)).sum ≤ 0
      rw [List.drop_eq_nil_of_le (Nat.le_of_eq Array.length_toList)]
      exact Nat.le_refl _
/-- 'throw new E()': new; dup; invokespecial; athrow -/
theorem vx_throw0 {cc : ByteArray} {pc : Nat} (hexec : p.tables.exec = Jvm.exec) (hb : c.code = cc) (hl : l.stackTraces = false) {own cls : String} {names : List String} {ik ic mc ms : Nat} {A : Nat → Prop}
    (hown : s.vm.findClass own = some m.cls) (hcls : Bundle.fit cls = true) (hnames : ∀ n ∈ names, Bundle.fit n = true)
    (hk : (Cond.classLink own ik cls).before args s = true) (hini : (Cond.initialized cls).before args s = true) (hat : ∀ w ∈ vx_at0 own ic cls names, w.before args s = true)
    (hgood : ∀ w ∈ Cond.classLink own ik cls :: Cond.initialized cls :: vx_at0 own ic cls names, vx_ot w = true)
    (hU : vx_Zq Bundle.tN "UNASSIGNED_STACK" Bundle.steD A s s.heap) (hN : vx_Zq Bundle.tN "SUPPRESSED_SENTINEL" Bundle.listD A s s.heap) (hS : va_S A s.heap H locs) (hsize : ls.size = c.maxLocals)
    (d0 : decode cc pc = .ok (.new ik, 3)) (d3 : decode cc (pc + 3) = .ok (.dup, 1)) (d4 : decode cc (pc + 4) = .ok (.invokespecial ic, 3)) (d7 : decode cc (pc + 7) = .ok (.athrow, 1))
    (hout : ∀ x ∈ c.exceptionTable.toList, covers x (pc + 7) = false)
    (hRframes : names.length + 3 < R.frames) (hRlocals : (rest.map fun v => v.category).sum + (13 * (names.length + 1) + 42) ≤ R.locals) (hRcells : cells + 1 ≤ R.cells) (hRslots : slots + 6 ≤ R.slots) (hlocks : meth.locks = false)
    (hx : ∀ t : State, s.vm.Alike t.vm → H.size ≤ t.heap.size → (∀ q : Nat, q < H.size → t.heap[q]? = H[q]?) → XC cls s t)
    (hf : ∀ z ∈ locs, free z.base) (hc : cells + 1 ≤ mc) (hs : slots + 6 ≤ ms) :
    W p l e R s m args below meth c H locs cells slots (vx_MQ below Qc XC args s mc ms free) (F0 m pc ls rest) := by
  intro T hT X
  have htr : e.platform.stackTraces = false := (show e.platform.stackTraces = l.stackTraces by rw [X.admits.platform]).trans hl
  have Y := vx_rebase X (R' := { frames := R.frames, locals := R.locals, cells := 1, slots := 6 }) (Nat.le_refl _) (Nat.le_refl _) hRcells hRslots
  obtain ⟨s', hA⟩ : ∃ z, z = (T.setVm s.vm).setFrames (.invoking m args :: below) := ⟨_, rfl⟩
  rw [← hA] at Y
  have hvm : s'.vm = s.vm := by rw [hA]; rfl
  have hhp : s'.heap = H := by rw [hA]; exact hT
  have hW0 : s.WarmedH s'.vm := by rw [hvm]; exact State.WarmedH.refl s
  have hat' : ∀ w ∈ vx_at0 own ic cls names, w.before args s' = true := fun w hw => vx_ot_at hW0 hvm.symm (hgood w (List.mem_cons_of_mem _ (List.mem_cons_of_mem _ hw))) (hat w hw)
  have hk' : (Cond.classLink own ik cls).before args s' = true := vx_ot_at hW0 hvm.symm (hgood _ List.mem_cons_self) hk
  have hini' : (Cond.initialized cls).before args s' = true := vx_ot_at hW0 hvm.symm (hgood _ (List.mem_cons_of_mem _ List.mem_cons_self)) hini
  have hU' : vx_Zq Bundle.tN "UNASSIGNED_STACK" Bundle.steD A s' s'.heap := by rw [hhp]; exact vx_Zq.moved hW0.alike (hU.kept hS.2.1)
  have hN' : vx_Zq Bundle.tN "SUPPRESSED_SENTINEL" Bundle.listD A s' s'.heap := by rw [hhp]; exact vx_Zq.moved hW0.alike (hN.kept hS.2.1)
  have h : ∀ w ∈ Bundle.ownAtoms0 own ic cls names, w.before args s' = true := vx_own hat' (vx_isRefq hU'.1) (vx_isRefq hN'.1) hU'.2.word hN'.2.word
  have hown' : s'.vm.findClass own = some m.cls := by rw [hvm]; exact hown
  have hins : (Cond.instantiable cls 6).before args s' = true := h _ (by simp [Bundle.ownAtoms0])
  obtain ⟨vm₁, cX, kX, hfX, hkX, -, -, X₁, st1⟩ := Y.newCold hexec (own := own) (C := cls) (index := ik) (n := 6) hown' hk' hins hini'
    (g := F0 m pc ls rest) rfl (by rw [hb]; exact d0) (Nat.le_refl _) (Nat.le_refl _)
  generalize hT1 : (T.setVm vm₁).pushCell { cls := cX, slots := kX.instanceTypes.map defaultValue, vm := .none } = T1 at X₁ st1
  have hcat : (Value.ref T.heap.size).category = 1 := rfl
  have hcellA : T1.heap[T.heap.size]? = some (freshCell cX kX) := by rw [← hT1]; exact State.heap_pushCell_size _ _
  have d3' : decode c.code (pc + 3) = .ok (.dup, 1) := by rw [hb]; exact d3
  obtain ⟨U, hsteps, hrun, hend, hW, hsame, ce, hce, hO⟩ := X₁.ctorThrow0 hexec htr (own := own) (cls := cls) (names := names) (ic := ic) hown' hcls hnames h (fun x hx => nomatch hx) hfX hkX hcellA (by rw [hhp, hT]; exact Nat.le_refl _)
    (g := { method := m, pc := pc + 4, locals := ls, stack := .ref T.heap.size :: .ref T.heap.size :: rest, locked := none }) rfl hsize rfl rfl (rest := rest) rfl
    (by rw [hb]; exact d4) (by rw [hb]; exact d7) hout hRframes (by simp only [List.map_cons, List.sum_cons, hcat]; omega) hlocks
  obtain ⟨f1, f2⟩ := vx_frame hsame
  rw [hhp] at f1 f2
  have hWs : s.WarmedH U.vm := State.WarmedH.trans hW0 hW
  have hcl : s.vm.findClass cls = some ce.cls := by
    have h9 := hO.cls
    rw [hvm] at h9
    exact h9
  have hall : s.sameButNew ({ U with vm := s.vm } : State) locs mc ms := by
    subst hA
    obtain ⟨e1, e2⟩ := hsame
    rw [State.setFrames_setFrames] at e1
    have h2 : (T.setVm s.vm).sameButNew ({ U with vm := s.vm } : State) [] (0 + 1) (0 + 6) := ⟨e1, e2⟩
    have h3 := X.same.trans h2
    rw [List.append_nil] at h3
    exact h3.mono hc hs
  refine ⟨U, ?_, .threw T.heap.size, hrun, hend, Or.inr ⟨T.heap.size, rfl, cls, ce, locs, hx U hWs.alike f1 (fun q hq => f2 q hq (fun z hz => nomatch hz)), hce, hO.vm, hcl, hWs, hall, hf⟩⟩
  refine st1 _ ?_
  show Steps p.tables e below (T1.setTop { method := m, pc := pc + 3, locals := ls, stack := .ref T.heap.size :: rest, locked := none }) _
  jvm_step X₁.here [X₁.here.top, hexec, d3', Value.category]
  exact hsteps
/-- 'throw new E("text")': new; dup; ldc; invokespecial; athrow -/
theorem vx_throwS {cc : ByteArray} {pc : Nat} (hexec : p.tables.exec = Jvm.exec) (hb : c.code = cc) (hl : l.stackTraces = false) {own cls text : String} {names : List String} {ik is ic mc ms sa : Nat} {A : Nat → Prop}
    (hown : s.vm.findClass own = some m.cls) (hcls : Bundle.fit cls = true) (hnames : ∀ n ∈ names, Bundle.fit n = true)
    (hk : (Cond.classLink own ik cls).before args s = true) (hini : (Cond.initialized cls).before args s = true) (hstr : vk_R own is text sa s) (hat : ∀ w ∈ vx_atS own ic cls names, w.before args s = true)
    (hgood : ∀ w ∈ Cond.classLink own ik cls :: Cond.initialized cls :: vx_atS own ic cls names, vx_ot w = true)
    (hU : vx_Zq Bundle.tN "UNASSIGNED_STACK" Bundle.steD A s s.heap) (hN : vx_Zq Bundle.tN "SUPPRESSED_SENTINEL" Bundle.listD A s s.heap) (hS : va_S A s.heap H locs) (hsize : ls.size = c.maxLocals)
    (d0 : decode cc pc = .ok (.new ik, 3)) (d3 : decode cc (pc + 3) = .ok (.dup, 1)) (d4 : decode cc (pc + 4) = .ok (.ldc is, 2)) (d6 : decode cc (pc + 6) = .ok (.invokespecial ic, 3)) (d9 : decode cc (pc + 9) = .ok (.athrow, 1))
    (hout : ∀ x ∈ c.exceptionTable.toList, covers x (pc + 9) = false)
    (hRframes : names.length + 3 < R.frames) (hRlocals : (rest.map fun v => v.category).sum + (13 * (names.length + 1) + 43) ≤ R.locals) (hRcells : cells + 1 ≤ R.cells) (hRslots : slots + 6 ≤ R.slots) (hlocks : meth.locks = false)
    (hx : ∀ t : State, s.vm.Alike t.vm → H.size ≤ t.heap.size → (∀ q : Nat, q < H.size → t.heap[q]? = H[q]?) → XC cls s t)
    (hf : ∀ z ∈ locs, free z.base) (hc : cells + 1 ≤ mc) (hs : slots + 6 ≤ ms) :
    W p l e R s m args below meth c H locs cells slots (vx_MQ below Qc XC args s mc ms free) (F0 m pc ls rest) := by
  intro T hT X
  have htr : e.platform.stackTraces = false := (show e.platform.stackTraces = l.stackTraces by rw [X.admits.platform]).trans hl
  have Y := vx_rebase X (R' := { frames := R.frames, locals := R.locals, cells := 1, slots := 6 }) (Nat.le_refl _) (Nat.le_refl _) hRcells hRslots
  obtain ⟨s', hA⟩ : ∃ z, z = (T.setVm s.vm).setFrames (.invoking m args :: below) := ⟨_, rfl⟩
  rw [← hA] at Y
  have hvm : s'.vm = s.vm := by rw [hA]; rfl
  have hhp : s'.heap = H := by rw [hA]; exact hT
  have hW0 : s.WarmedH s'.vm := by rw [hvm]; exact State.WarmedH.refl s
  have hat' : ∀ w ∈ vx_atS own ic cls names, w.before args s' = true := fun w hw => vx_ot_at hW0 hvm.symm (hgood w (List.mem_cons_of_mem _ (List.mem_cons_of_mem _ hw))) (hat w hw)
  have hk' : (Cond.classLink own ik cls).before args s' = true := vx_ot_at hW0 hvm.symm (hgood _ List.mem_cons_self) hk
  have hini' : (Cond.initialized cls).before args s' = true := vx_ot_at hW0 hvm.symm (hgood _ (List.mem_cons_of_mem _ List.mem_cons_self)) hini
  have hU' : vx_Zq Bundle.tN "UNASSIGNED_STACK" Bundle.steD A s' s'.heap := by rw [hhp]; exact vx_Zq.moved hW0.alike (hU.kept hS.2.1)
  have hN' : vx_Zq Bundle.tN "SUPPRESSED_SENTINEL" Bundle.listD A s' s'.heap := by rw [hhp]; exact vx_Zq.moved hW0.alike (hN.kept hS.2.1)
  have h : ∀ w ∈ Bundle.ownAtoms own ic cls names, w.before args s' = true := vx_own hat' (vx_isRefq hU'.1) (vx_isRefq hN'.1) hU'.2.word hN'.2.word
  have hown' : s'.vm.findClass own = some m.cls := by rw [hvm]; exact hown
  have hins : (Cond.instantiable cls 6).before args s' = true := h _ (by simp [Bundle.ownAtoms])
  obtain ⟨vm₁, cX, kX, hfX, hkX, -, -, X₁, st1⟩ := Y.newCold hexec (own := own) (C := cls) (index := ik) (n := 6) hown' hk' hins hini'
    (g := F0 m pc ls rest) rfl (by rw [hb]; exact d0) (Nat.le_refl _) (Nat.le_refl _)
  generalize hT1 : (T.setVm vm₁).pushCell { cls := cX, slots := kX.instanceTypes.map defaultValue, vm := .none } = T1 at X₁ st1
  have hcat : (Value.ref T.heap.size).category = 1 := rfl
  have hcellA : T1.heap[T.heap.size]? = some (freshCell cX kX) := by rw [← hT1]; exact State.heap_pushCell_size _ _
  have d3' : decode c.code (pc + 3) = .ok (.dup, 1) := by rw [hb]; exact d3
  have d4' : decode c.code (pc + 4) = .ok (.ldc is, 2) := by rw [hb]; exact d4
  have hstr' : vk_R own is text sa s' := vk_R.warm hW0 hstr
  obtain ⟨U, hsteps, hrun, hend, hW, hsame, ce, hce, hO⟩ := X₁.ctorThrowS hexec htr (own := own) (cls := cls) (names := names) (ic := ic) hown' hcls hnames h (fun x hx => nomatch hx) hfX hkX hcellA (by rw [hhp, hT]; exact Nat.le_refl _) (msg := .ref sa) rfl
    (g := { method := m, pc := pc + 6, locals := ls, stack := .ref sa :: .ref T.heap.size :: .ref T.heap.size :: rest, locked := none }) rfl hsize rfl rfl (rest := rest) rfl
    (by rw [hb]; exact d6) (by rw [hb]; exact d9) hout hRframes (by simp only [List.map_cons, List.sum_cons, hcat]; omega) hlocks
  obtain ⟨f1, f2⟩ := vx_frame hsame
  rw [hhp] at f1 f2
  have hWs : s.WarmedH U.vm := State.WarmedH.trans hW0 hW
  have hcl : s.vm.findClass cls = some ce.cls := by
    have h9 := hO.cls
    rw [hvm] at h9
    exact h9
  have hall : s.sameButNew ({ U with vm := s.vm } : State) locs mc ms := by
    subst hA
    obtain ⟨e1, e2⟩ := hsame
    rw [State.setFrames_setFrames] at e1
    have h2 : (T.setVm s.vm).sameButNew ({ U with vm := s.vm } : State) [] (0 + 1) (0 + 6) := ⟨e1, e2⟩
    have h3 := X.same.trans h2
    rw [List.append_nil] at h3
    exact h3.mono hc hs
  refine ⟨U, ?_, .threw T.heap.size, hrun, hend, Or.inr ⟨T.heap.size, rfl, cls, ce, locs, hx U hWs.alike f1 (fun q hq => f2 q hq (fun z hz => nomatch hz)), hce, hO.vm, hcl, hWs, hall, hf⟩⟩
  refine st1 _ ?_
  show Steps p.tables e below (T1.setTop { method := m, pc := pc + 3, locals := ls, stack := .ref T.heap.size :: rest, locked := none }) _
  jvm_step X₁.here [X₁.here.top, hexec, d3', Value.category]
  exact X₁.ldcString hexec (own := own) (text := text) (index := is) (a := sa) hown' hstr'.1 hstr'.2
    (g := { method := m, pc := pc + 4, locals := ls, stack := .ref T.heap.size :: .ref T.heap.size :: rest, locked := none }) rfl d4' _ hsteps
/-- 'throw new E("text")', the text by a wide index -/
theorem vx_throwSW {cc : ByteArray} {pc : Nat} (hexec : p.tables.exec = Jvm.exec) (hb : c.code = cc) (hl : l.stackTraces = false) {own cls text : String} {names : List String} {ik is ic mc ms sa : Nat} {A : Nat → Prop}
    (hown : s.vm.findClass own = some m.cls) (hcls : Bundle.fit cls = true) (hnames : ∀ n ∈ names, Bundle.fit n = true)
    (hk : (Cond.classLink own ik cls).before args s = true) (hini : (Cond.initialized cls).before args s = true) (hstr : vk_R own is text sa s) (hat : ∀ w ∈ vx_atS own ic cls names, w.before args s = true)
    (hgood : ∀ w ∈ Cond.classLink own ik cls :: Cond.initialized cls :: vx_atS own ic cls names, vx_ot w = true)
    (hU : vx_Zq Bundle.tN "UNASSIGNED_STACK" Bundle.steD A s s.heap) (hN : vx_Zq Bundle.tN "SUPPRESSED_SENTINEL" Bundle.listD A s s.heap) (hS : va_S A s.heap H locs) (hsize : ls.size = c.maxLocals)
    (d0 : decode cc pc = .ok (.new ik, 3)) (d3 : decode cc (pc + 3) = .ok (.dup, 1)) (d4 : decode cc (pc + 4) = .ok (.ldc_w is, 3)) (d7 : decode cc (pc + 7) = .ok (.invokespecial ic, 3)) (d10 : decode cc (pc + 10) = .ok (.athrow, 1))
    (hout : ∀ x ∈ c.exceptionTable.toList, covers x (pc + 10) = false)
    (hRframes : names.length + 3 < R.frames) (hRlocals : (rest.map fun v => v.category).sum + (13 * (names.length + 1) + 43) ≤ R.locals) (hRcells : cells + 1 ≤ R.cells) (hRslots : slots + 6 ≤ R.slots) (hlocks : meth.locks = false)
    (hx : ∀ t : State, s.vm.Alike t.vm → H.size ≤ t.heap.size → (∀ q : Nat, q < H.size → t.heap[q]? = H[q]?) → XC cls s t)
    (hf : ∀ z ∈ locs, free z.base) (hc : cells + 1 ≤ mc) (hs : slots + 6 ≤ ms) :
    W p l e R s m args below meth c H locs cells slots (vx_MQ below Qc XC args s mc ms free) (F0 m pc ls rest) := by
  intro T hT X
  have htr : e.platform.stackTraces = false := (show e.platform.stackTraces = l.stackTraces by rw [X.admits.platform]).trans hl
  have Y := vx_rebase X (R' := { frames := R.frames, locals := R.locals, cells := 1, slots := 6 }) (Nat.le_refl _) (Nat.le_refl _) hRcells hRslots
  obtain ⟨s', hA⟩ : ∃ z, z = (T.setVm s.vm).setFrames (.invoking m args :: below) := ⟨_, rfl⟩
  rw [← hA] at Y
  have hvm : s'.vm = s.vm := by rw [hA]; rfl
  have hhp : s'.heap = H := by rw [hA]; exact hT
  have hW0 : s.WarmedH s'.vm := by rw [hvm]; exact State.WarmedH.refl s
  have hat' : ∀ w ∈ vx_atS own ic cls names, w.before args s' = true := fun w hw => vx_ot_at hW0 hvm.symm (hgood w (List.mem_cons_of_mem _ (List.mem_cons_of_mem _ hw))) (hat w hw)
  have hk' : (Cond.classLink own ik cls).before args s' = true := vx_ot_at hW0 hvm.symm (hgood _ List.mem_cons_self) hk
  have hini' : (Cond.initialized cls).before args s' = true := vx_ot_at hW0 hvm.symm (hgood _ (List.mem_cons_of_mem _ List.mem_cons_self)) hini
  have hU' : vx_Zq Bundle.tN "UNASSIGNED_STACK" Bundle.steD A s' s'.heap := by rw [hhp]; exact vx_Zq.moved hW0.alike (hU.kept hS.2.1)
  have hN' : vx_Zq Bundle.tN "SUPPRESSED_SENTINEL" Bundle.listD A s' s'.heap := by rw [hhp]; exact vx_Zq.moved hW0.alike (hN.kept hS.2.1)
  have h : ∀ w ∈ Bundle.ownAtoms own ic cls names, w.before args s' = true := vx_own hat' (vx_isRefq hU'.1) (vx_isRefq hN'.1) hU'.2.word hN'.2.word
  have hown' : s'.vm.findClass own = some m.cls := by rw [hvm]; exact hown
  have hins : (Cond.instantiable cls 6).before args s' = true := h _ (by simp [Bundle.ownAtoms])
  obtain ⟨vm₁, cX, kX, hfX, hkX, -, -, X₁, st1⟩ := Y.newCold hexec (own := own) (C := cls) (index := ik) (n := 6) hown' hk' hins hini'
    (g := F0 m pc ls rest) rfl (by rw [hb]; exact d0) (Nat.le_refl _) (Nat.le_refl _)
  generalize hT1 : (T.setVm vm₁).pushCell { cls := cX, slots := kX.instanceTypes.map defaultValue, vm := .none } = T1 at X₁ st1
  have hcat : (Value.ref T.heap.size).category = 1 := rfl
  have hcellA : T1.heap[T.heap.size]? = some (freshCell cX kX) := by rw [← hT1]; exact State.heap_pushCell_size _ _
  have d3' : decode c.code (pc + 3) = .ok (.dup, 1) := by rw [hb]; exact d3
  have d4' : decode c.code (pc + 4) = .ok (.ldc_w is, 3) := by rw [hb]; exact d4
  have hstr' : vk_R own is text sa s' := vk_R.warm hW0 hstr
  obtain ⟨U, hsteps, hrun, hend, hW, hsame, ce, hce, hO⟩ := X₁.ctorThrowS hexec htr (own := own) (cls := cls) (names := names) (ic := ic) hown' hcls hnames h (fun x hx => nomatch hx) hfX hkX hcellA (by rw [hhp, hT]; exact Nat.le_refl _) (msg := .ref sa) rfl
    (g := { method := m, pc := pc + 7, locals := ls, stack := .ref sa :: .ref T.heap.size :: .ref T.heap.size :: rest, locked := none }) rfl hsize rfl rfl (rest := rest) rfl
    (by rw [hb]; exact d7) (by rw [hb]; exact d10) hout hRframes (by simp only [List.map_cons, List.sum_cons, hcat]; omega) hlocks
  obtain ⟨f1, f2⟩ := vx_frame hsame
  rw [hhp] at f1 f2
  have hWs : s.WarmedH U.vm := State.WarmedH.trans hW0 hW
  have hcl : s.vm.findClass cls = some ce.cls := by
    have h9 := hO.cls
    rw [hvm] at h9
    exact h9
  have hall : s.sameButNew ({ U with vm := s.vm } : State) locs mc ms := by
    subst hA
    obtain ⟨e1, e2⟩ := hsame
    rw [State.setFrames_setFrames] at e1
    have h2 : (T.setVm s.vm).sameButNew ({ U with vm := s.vm } : State) [] (0 + 1) (0 + 6) := ⟨e1, e2⟩
    have h3 := X.same.trans h2
    rw [List.append_nil] at h3
    exact h3.mono hc hs
  refine ⟨U, ?_, .threw T.heap.size, hrun, hend, Or.inr ⟨T.heap.size, rfl, cls, ce, locs, hx U hWs.alike f1 (fun q hq => f2 q hq (fun z hz => nomatch hz)), hce, hO.vm, hcl, hWs, hall, hf⟩⟩
  refine st1 _ ?_
  show Steps p.tables e below (T1.setTop { method := m, pc := pc + 3, locals := ls, stack := .ref T.heap.size :: rest, locked := none }) _
  jvm_step X₁.here [X₁.here.top, hexec, d3', Value.category]
  exact X₁.ldcStringW hexec (own := own) (text := text) (index := is) (a := sa) hown' hstr'.1 hstr'.2
    (g := { method := m, pc := pc + 4, locals := ls, stack := .ref T.heap.size :: .ref T.heap.size :: rest, locked := none }) rfl d4' _ hsteps
end Ends
section Bodies
variable {l : Launch}
theorem vx_ofW {y : MethodName} {ws ws' : List Cond} {rm : Room} {Pc : Array Value → State → Prop} {Qc : Array Value → State → Outcome → State → Prop} {XC : String → State → State → Prop} {mc ms : Nat} {free : Addr → Prop} {cc : ByteArray} {maxL : Nat} {ret : Option FieldType}
    (hy : plainName y.cls = true) (hw : ws = Cond.code y cc maxL ret :: ws')
    (body : ∀ p e s m args below meth c s₁, BodyLoose p l y (headSpec ws rm) cc maxL ret e s m args below meth c s₁ → c.maxLocals = maxL → (∀ x ∈ c.exceptionTable.toList, False) → Pc args s →
      W p l e (headSpec ws rm).room s m args below meth c s.heap [] 0 0 (vx_MQ below Qc XC args s mc ms free) (entryFrame m args maxL)) : vx_Met l y ws rm Pc Qc XC mc ms free := by
  refine MetFree.of_bodyS (code := cc) (maxLocals := maxL) (ret := ret) hy ?_ ?_
  · intro args s m h hn
    obtain ⟨meth, c, h1, h2, h3, h4, h5, h6, -, -⟩ := Cond.code_spec hn (atoms_spec (ws := ws) h _ (by rw [hw]; exact List.mem_cons_self))
    exact ⟨meth, c, h1, h2, h3, h4, h5, h6⟩
  · intro p e s m args below meth c s₁ B hml hP _
    have hh0 : s₁.heap = s.heap := by rw [B.state]; rfl
    have ht : ∀ x ∈ c.exceptionTable.toList, False := by
      obtain ⟨meth9, c9, h1, h2, -, -, -, -, h7, -⟩ := Cond.code_spec B.named (atoms_spec (ws := ws) B.pre _ (by rw [hw]; exact List.mem_cons_self))
      cases Option.some.inj (h1.symm.trans B.method)
      cases Option.some.inj (h2.symm.trans (Stand.of_body B).code)
      intro x hx
      rw [Array.isEmpty_iff.mp h7] at hx
      cases hx
    obtain ⟨t, a1, o, b1, b2, b3⟩ := body p e s m args below meth c s₁ B hml ht hP s₁ hh0 (Stand.of_body B)
    exact ⟨t, o, a1, b1, b2, b3⟩
/-- the table of a body with handlers -/
theorem vx_table {p : Program} {x y : MethodName} {S : Spec} {cc bytes : ByteArray} {maxL maxL' : Nat} {ret ret' : Option FieldType} {e : Env} {s s₁ : State} {m : MethodId} {args : Array Value} {below : List Frame} {meth : Method} {c : Code} {hh : List (Nat × Nat × Nat × Nat)}
    (B : BodyLoose p l y S cc maxL ret e s m args below meth c s₁) (h : (Cond.codeWith y bytes maxL' ret' hh).before args s = true) : c.exceptionTable.toList = tableOf hh := by
  obtain ⟨m9, meth9, c9, hn9, h1, h2, -, -, h6, -⟩ := Cond.codeWith_spec h
  cases Option.some.inj (hn9.symm.trans B.named)
  cases Option.some.inj (h1.symm.trans B.method)
  cases Option.some.inj (h2.symm.trans (Stand.of_body B).code)
  rw [← h6, table_eq]
end Bodies
end VXA
/-! ===== END ===== -/
/-! ===== BEGIN a static call of a method with an exception table ===== -/
section VXS
variable {p : Program} {l : Launch} {e : Env} {R : Room} {s : State} {m : MethodId} {args : Array Value} {below : List Frame} {meth : Method} {c : Code} {T : State} {H : Heap} {locs : List Loc} {cells slots : Nat}
abbrev vx_CSW (R : Room) (s : State) (args : Array Value) (own : String) (index : Nat) (y : MethodName) (bytes : ByteArray) (maxL : Nat) (ret : Option FieldType) (hh : List (Nat × Nat × Nat × Nat)) (ws : List Cond) (rm : Room) (mc ms n : Nat) : Prop :=
  (rm.cells = mc ∧ rm.slots = ms ∧ rm.frames + 1 ≤ R.frames ∧ 8 + (maxL + 11) + rm.locals ≤ R.locals ∧ (∀ w ∈ ws, ∀ (a' : Array Value) (U : State), s.WarmedH U.vm → w.before a' U = true) ∧ Cond.codeWith y bytes maxL ret hh ∈ ws) ∧
  (Cond.codeWith y bytes maxL ret hh).before args s = true ∧ (Cond.initialized y.cls).before args s = true ∧ (y.cls ≠ "java/lang/invoke/MethodHandle" ∧ y.cls ≠ "java/lang/invoke/VarHandle") ∧
  (∀ sig, parseMethodDescriptor y.desc = some sig → n = sig.parameters.length) ∧ (Cond.methodLink own index y).before args s = true ∧ (Cond.static y).before args s = true
theorem vx_cwSW {own : String} {index maxL mc ms : Nat} {y : MethodName} {bytes : ByteArray} {ret : Option FieldType} {hh : List (Nat × Nat × Nat × Nat)} {Ts ws ws' : List Cond} {rm : Room} (n : Nat) (ht : ∀ w ∈ Ts, w.before args s = true) (hT : GoodIn Ts (va_wsS own index y ws)) (hw : ws = Cond.codeWith y bytes maxL ret hh :: ws') (hrc : rm.cells = mc) (hrs : rm.slots = ms)
    (hd : y.cls ≠ "java/lang/invoke/MethodHandle" ∧ y.cls ≠ "java/lang/invoke/VarHandle" ∧ (parseMethodDescriptor y.desc).map (fun d => d.parameters.length) = some n) (hR : rm.frames + 1 ≤ R.frames ∧ 8 + (maxL + 11) + rm.locals ≤ R.locals) :
    vx_CSW R s args own index y bytes maxL ret hh ws rm mc ms n := by
  have ok : ∀ w ∈ va_wsS own index y ws, w.before args s = true := fun w h => ht w (hT w h).1
  have hG : GoodIn Ts ws := fun w h => hT w (by unfold va_wsS; exact List.mem_append_right _ h)
  have hc : Cond.codeWith y bytes maxL ret hh ∈ ws := by rw [hw]; exact List.mem_cons_self
  refine ⟨⟨hrc, hrs, hR.1, hR.2, pay_in ht hG, hc⟩, ht _ (hG _ hc).1, ok _ (by simp [va_wsS]), ⟨hd.1, hd.2.1⟩, fun sig h => ?_, ok _ (by simp [va_wsS]), ok _ (by simp [va_wsS])⟩
  have h2 := hd.2.2
  rw [h] at h2
  exact (Option.some.inj h2).symm
theorem vx_callSW (X : Stand p l e R s m args below meth c T locs cells slots) (hexec : p.tables.exec = Jvm.exec) {own : String} {index : Nat} {y : MethodName} {bytes : ByteArray} {maxL : Nat} {ret : Option FieldType} {hh : List (Nat × Nat × Nat × Nat)}
    (hown : s.vm.findClass own = some m.cls) (hlink : (Cond.methodLink own index y).before args s = true) (hstat : (Cond.static y).before args s = true) (hinit : (Cond.initialized y.cls).before args s = true)
    (hcode : (Cond.codeWith y bytes maxL ret hh).before args s = true) (hy : y.cls ≠ "java/lang/invoke/MethodHandle" ∧ y.cls ≠ "java/lang/invoke/VarHandle")
    {W9 : Nat} {Pre : Pt → Array Value → Prop} {Post : Pt → Array Value → Option Value → Pt → Prop} (hK : Back l R p e below s args y 3 W9 Pre Post)
    {g : JFrame} (hg : g.method = m) (hsize : g.locals.size = c.maxLocals) {argsL rest : List Value} (hlen : ∀ sig, parseMethodDescriptor y.desc = some sig → argsL.length = sig.parameters.length)
    (hstack : g.stack = argsL.reverse ++ rest) (hW : 2 * g.monitorRoom + (rest.map fun v => v.category).sum ≤ W9) (hdg : decode c.code g.pc = .ok (.invokestatic index, 3))
    (hpre : ∀ vm₁, s.WarmedH vm₁ → Pre ⟨T.setVm vm₁, locs, cells, slots⟩ argsL.toArray) :
    ∃ (v : Option Value) (vm₁ : Vm) (B : Pt), s.WarmedH vm₁ ∧ Stand p l e R s m args below meth c B.U B.locs B.cells B.slots ∧ Post ⟨T.setVm vm₁, locs, cells, slots⟩ argsL.toArray v B ∧
      ∀ target, Steps p.tables e below (B.U.setTop { g with pc := g.pc + 3, stack := v.toList ++ rest }) target → Steps p.tables e below (T.setTop g) target := by
  obtain ⟨mk, methM, cM, hnamed, hmethM, -, -, -, -, -, -, hsigM⟩ := Cond.codeWith_spec hcode
  have hstatic : methM.isStatic = true := Cond.static_spec hnamed hmethM hstat
  obtain ⟨kP, hkP, -⟩ := className_of_methodNamed hnamed
  have hinitP : kP.init = .initialized := Cond.initialized_spec (findClass_of_methodNamed hnamed) hkP hinit
  obtain ⟨vm₁, X₁, hstep₁⟩ := X.invokestatic hexec hown hlink hnamed hmethM hstatic hkP hinitP hy (g := g) hg (argsL := argsL) (rest := rest) (hlen _ hsigM) hstack hdg
  obtain ⟨v, B, X', hpost, hsteps⟩ := hK m meth c ⟨T.setVm vm₁, locs, cells, slots⟩ { g with stack := rest } (.invokestatic index) mk argsL.toArray X₁ hg hsize hdg hW (X₁.named hnamed) (hpre vm₁ X₁.warmed)
  exact ⟨v, vm₁, B, X₁.warmed, X', hpost, fun target h => hstep₁ _ fun acts => by rw [doInvoke_state]; exact hsteps.trans h⟩
theorem vx_runSW {y : MethodName} {bytes cc : ByteArray} {maxL nL mc ms n index : Nat} {ret : Option FieldType} {hh : List (Nat × Nat × Nat × Nat)} {ws : List Cond} {rm : Room} {Pc : Array Value → State → Prop} {Qc : Array Value → State → Outcome → State → Prop} {free : Addr → Prop} {Ts : List Cond} {own : String} {As rest : List Value} {g : JFrame}
    (S : CallFix p m c cc nL s args Ts own) (hM : Met l y ws rm Pc Qc mc ms free) (cw : vx_CSW R s args own index y bytes maxL ret hh ws rm mc ms n) (hp : PreS s H Pc As)
    (hg : g.method = m) (hn : As.length = n) (hsize : g.locals.size = nL) (hstack : g.stack = As.reverse ++ rest) (hW : 2 * g.monitorRoom + (rest.map fun v => v.category).sum ≤ 8) (hdg : decode cc g.pc = .ok (.invokestatic index, 3)) (hf : cells + mc ≤ R.cells ∧ slots + ms ≤ R.slots) :
    va_Run p l e R s m args below meth c H locs cells slots mc ms g rest (Qc As.toArray) (free) := by
  obtain ⟨⟨hrc, hrs, hfr, hlo, hws, hcw⟩, hcode, hini, hy, hlen, hl, hstt⟩ := cw
  have hK : Back l R p e below s args y 3 8 (PreOf R mc ms Pc) (PostOf Qc mc ms free) := va_backW (hh := hh) (bytes := bytes) (maxL := maxL) (ret := ret) hM hp.1 hrc hrs hfr hlo hws hcw (fun a' U hW => word_at hW (Or.inl (by first | rfl | simp [Cond.onTables, Cond.keeps, Cond.steady])) hini)
  obtain ⟨hx, hb, hml, ho, -⟩ := S
  intro T hT X
  obtain ⟨v, vm₁, ⟨U', l2, c2, s2⟩, hW₁, X', ⟨g', mk, t, L, e1, e2, hq, h1, hL, h2, h3⟩, st⟩ := vx_callSW X hx (hh := hh) (bytes := bytes) (maxL := maxL) (ret := ret) ho hl hstt hini hcode hy hK hg (hsize.trans hml.symm) (argsL := As) (rest := rest) (fun sig h => hn.trans (hlen sig h)) hstack hW (by rw [hb]; exact hdg)
    (fun vm₁ hW₁ => ⟨hf.1, hf.2, hp.2 (T.setVm vm₁) hT hW₁⟩)
  dsimp only [Pt.U, Pt.locs, Pt.cells, Pt.slots] at X' e1 e2 h1 h2 h3 st
  subst h1; subst h2; subst h3
  exact ⟨v, (T.setVm vm₁).calling g' mk As.toArray, t, U', L, hT, X', hL, e1, e2, hq, st⟩
/-- a thing of a world lies in the heap -/
theorem vx_lt {D : va_G} {cl : List vw_C} {ws : va_W} {H1 : Heap} (h : va_P D cl ws H1) {k : Nat} {q : Nat × va_E} (hk : ws[k]? = some q) : q.1 < H1.size := (h k q hk).lt
end VXS
/-! ===== END ===== -/
/-! ===== BEGIN methods with a table of their own: called by a name, returning or throwing ===== -/
section VXH
/-! vx_backW, vx_callVX, vx_callSX, vx_callVW, vx_runVW, vx_runVX, vx_runSX, vx_ofWH follow the same proofs as their sisters above (Free/Laws.lean, Shelf42/LK1.lean); vx_outP calls Shelf42/NT130.lean (outThrough). -/
section
variable {l : Launch} {R : Room} {p : Program} {e : Env} {below : List Frame} {s : State} {sargs : Array Value} {y : MethodName} {len W9 : Nat}
theorem vx_backW {ws : List Cond} {rm : Room} {Pc : Array Value → State → Prop} {Qc : Array Value → State → Outcome → State → Prop} {XC : String → State → State → Prop} {mc ms : Nat} {free : Addr → Prop} {bytes : ByteArray} {maxL : Nat} {ret : Option FieldType} {hh : List (Nat × Nat × Nat × Nat)}
    (hM : vx_Met l y ws rm Pc Qc XC mc ms free) (hblind : FrameBlind Pc) (hrc : rm.cells = mc) (hrs : rm.slots = ms)
    (hframes : rm.frames + 1 ≤ R.frames) (hlocals : W9 + (maxL + 11) + rm.locals ≤ R.locals)
    (hws : ∀ w ∈ ws, ∀ a' U, s.WarmedH U.vm → w.before a' U = true) (hcode : Cond.codeWith y bytes maxL ret hh ∈ ws) (hinit : ∀ a' U, s.WarmedH U.vm → (Cond.initialized y.cls).before a' U = true) :
    vx_Back l R p e below s sargs y len W9 (PreOf R mc ms Pc) (PostOf Qc mc ms free) (vx_Post XC mc ms free) := by
  intro m meth c A g ig mk a X hg hsize hdg hW hn hp
  have h1 : (headSpec ws rm).pre.before a A.U = true := atoms_intro fun w hw => hws w hw _ _ X.warmed
  have h2 : (Cond.codeWith y bytes maxL ret hh).before a A.U = true := hws _ hcode _ _ X.warmed
  have h3 : (Cond.initialized y.cls).before a A.U = true := hinit _ _ X.warmed
  have h4 : A.cells + (headSpec ws rm).room.cells ≤ R.cells := by rw [show (headSpec ws rm).room.cells = mc from hrc]; exact hp.1
  have h5 : A.slots + (headSpec ws rm).room.slots ≤ R.slots := by rw [show (headSpec ws rm).room.slots = ms from hrs]; exact hp.2.1
  have hPc : Pc a (A.U.calling g mk a) := hblind _ _ _ _ hp.2.2
  obtain ⟨U, Ls, c0, s0⟩ := A
  dsimp only [Pt.U, Pt.locs, Pt.cells, Pt.slots] at h1 h2 h3 h4 h5 X hn hPc ⊢
  obtain ⟨m9, methY, cY, hn9, hmY, hcY, -, hlY, -⟩ := Cond.codeWith_spec h2
  cases Option.some.inj (hn9.symm.trans hn)
  obtain ⟨kY, hkY, -⟩ := className_of_methodNamed hn
  have hinitY : kY.init = .initialized := Cond.initialized_spec (findClass_of_methodNamed hn) hkY h3
  have h : At U g.method c below := by rw [hg]; exact X.here
  have hlocals9 : W9 + (maxL + 11) + (headSpec ws rm).room.locals ≤ R.locals := hlocals
  have happ : (headSpec ws rm).appliesLoose y e.platform (U.calling g mk a) = true :=
    Spec.appliesLoose_calling (g := g) h hdg hn hkY hinitY
      (X.room_calling (g := g) (R' := (headSpec ws rm).room) hsize hmY hcY hframes (by rw [hlY]; omega) h4 h5) h1
  obtain ⟨mid, hmid⟩ := h.above
  have hfr : (U.setTop g).frames = (.java g :: mid) ++ below := by rw [State.frames_setTop' g h.top, hmid]; rfl
  obtain ⟨o, s₂, hsteps, -, hend, hq⟩ := Steps.callFree hM p X.admits X.cas X.clock (acts := []) hfr happ hPc trivial
  have hq' : vx_Q Qc XC mc ms free a (U.calling g mk a) o s₂ := hq
  rw [State.frames_setTop' g h.top] at hend
  obtain ⟨g₀, hg0⟩ := Option.isSome_iff_exists.mp h.top
  obtain ⟨r, hr⟩ := State.topJava?_eq_some.mp hg0
  have hr' : (({ U with heap := s₂.heap, slotsUsed := s₂.slotsUsed } : State).setVm s₂.vm).frames = .java g₀ :: r := hr
  rcases hq' with ⟨hqc, L, hfe, hL⟩ | ⟨q, rfl, E, ce, L, hx, hce, hcv, hcl, hW₂, hsm, hL⟩
  · obtain ⟨⟨v, rfl⟩, hW₂, e2, q2, q3, q4, q5, q6⟩ := id hfe
    have e3 : s₂ = ({ (U.calling g mk a).setFrames s₂.frames with heap := s₂.heap, slotsUsed := s₂.slotsUsed } : State).setVm s₂.vm := by
      have : s₂ = ({ s₂ with vm := (U.calling g mk a).vm } : State).setVm s₂.vm := rfl
      rw [e2] at this
      exact this
    obtain ⟨c₂, i₂, len₂, hc₂, hd₂, hf₂⟩ := hend
    have hW' : U.WarmedH s₂.vm := hW₂
    have hcc : c₂ = c := by
      have h1 : s₂.code? g.method = U.code? g.method := by
        rw [State.code?_eq, State.code?_eq, hW'.alike.method?]
      exact Option.some.inj (hc₂.symm.trans (h1.trans h.code))
    subst hcc
    have hlen : len₂ = len := by rw [hdg] at hd₂; cases hd₂; rfl
    subst hlen
    have hs₂ : s₂ = (({ U with heap := s₂.heap, slotsUsed := s₂.slotsUsed } : State).setVm s₂.vm).setTop { g with pc := g.pc + len₂, stack := v.toList ++ g.stack } := by
      refine e3.trans ?_
      rw [hf₂, State.calling_eq h.top, State.setFrames_setFrames, State.setTop_of_frames _ hr', hr]
      rfl
    have hsame : U.sameButNew ({ U with heap := s₂.heap, slotsUsed := s₂.slotsUsed } : State) L mc ms := by
      refine ⟨?_, q2, q3, q4, q5, q6⟩
      obtain ⟨t, ht, -⟩ := State.frames_cons hr
      show ({ U with heap := s₂.heap, slotsUsed := s₂.slotsUsed } : State) = { U.setFrames U.frames with heap := s₂.heap, slotsUsed := s₂.slotsUsed }
      rw [State.setFrames_self ht]
    subst hg
    refine Or.inl ⟨v, ⟨(({ U with heap := s₂.heap, slotsUsed := s₂.slotsUsed } : State).setVm s₂.vm), Ls ++ L, c0 + mc, s0 + ms⟩,
      ⟨X.admits, X.cas, X.clock, X.frames, X.room, X.hears, X.method, X.code, (X.here.setHeapUsed s₂.heap s₂.slotsUsed).setVm hW'.alike, X.tail, State.WarmedH.trans X.warmed hW', X.limits, X.bytes, X.same.trans (hsame.setVm s.vm)⟩,
      ⟨g, mk, s₂, L, rfl, rfl, hqc, rfl, hL, rfl, rfl⟩, ?_⟩
    show Steps p.tables e below _ ((({ U with heap := s₂.heap, slotsUsed := s₂.slotsUsed } : State).setVm s₂.vm).setTop { g with pc := g.pc + len₂, stack := v.toList ++ g.stack })
    rw [← hs₂]
    exact hsteps
  · obtain ⟨e2, q2, q3, q4, q5, q6⟩ := id hsm
    have e3 : s₂ = ({ (U.calling g mk a).setFrames s₂.frames with heap := s₂.heap, slotsUsed := s₂.slotsUsed } : State).setVm s₂.vm := by
      have : s₂ = ({ s₂ with vm := (U.calling g mk a).vm } : State).setVm s₂.vm := rfl
      rw [e2] at this
      exact this
    have hf₂ : s₂.frames = .throwing q :: .java g :: U.frames.tail := hend
    have hW' : U.WarmedH s₂.vm := hW₂
    have hs₂ : s₂ = ((({ U with heap := s₂.heap, slotsUsed := s₂.slotsUsed } : State).setVm s₂.vm).setTop g).pushFrame (.throwing q) := by
      refine e3.trans ?_
      rw [hf₂, State.calling_eq h.top, State.setFrames_setFrames, State.pushFrame, State.frames_setTop _ hr', State.setTop_of_frames _ hr', State.setFrames_setFrames, hr]
      rfl
    have hsame : U.sameButNew ({ U with heap := s₂.heap, slotsUsed := s₂.slotsUsed } : State) L mc ms := by
      refine ⟨?_, q2, q3, q4, q5, q6⟩
      obtain ⟨t, ht, -⟩ := State.frames_cons hr
      show ({ U with heap := s₂.heap, slotsUsed := s₂.slotsUsed } : State) = { U.setFrames U.frames with heap := s₂.heap, slotsUsed := s₂.slotsUsed }
      rw [State.setFrames_self ht]
    subst hg
    refine Or.inr ⟨q, ⟨(({ U with heap := s₂.heap, slotsUsed := s₂.slotsUsed } : State).setVm s₂.vm), Ls ++ L, c0 + mc, s0 + ms⟩,
      ⟨X.admits, X.cas, X.clock, X.frames, X.room, X.hears, X.method, X.code, (X.here.setHeapUsed s₂.heap s₂.slotsUsed).setVm hW'.alike, X.tail, State.WarmedH.trans X.warmed hW', X.limits, X.bytes, X.same.trans (hsame.setVm s.vm)⟩,
      ⟨g, mk, s₂, L, E, ce, rfl, rfl, hx, hce, hcv, hcl, rfl, hL, rfl, rfl⟩, ?_⟩
    show Steps p.tables e below _ (((({ U with heap := s₂.heap, slotsUsed := s₂.slotsUsed } : State).setVm s₂.vm).setTop g).pushFrame (.throwing q))
    rw [← hs₂]
    exact hsteps
end
variable {p : Program} {l : Launch} {e : Env} {R : Room} {s : State} {m : MethodId} {args : Array Value} {below : List Frame} {meth : Method} {c : Code} {T : State} {H : Heap} {locs : List Loc} {cells slots : Nat}
theorem vx_callVX (X : Stand p l e R s m args below meth c T locs cells slots) (hexec : p.tables.exec = Jvm.exec) {own C : String} {index : Nat} {y : MethodName} {bytes : ByteArray} {maxL : Nat} {ret : Option FieldType} {hh : List (Nat × Nat × Nat × Nat)}
    (hown : s.vm.findClass own = some m.cls) (hlink : (Cond.methodLink own index y).before args s = true) (hinst : (Cond.instanceMethod y).before args s = true) (hsel : (Cond.selects C y y).before args s = true)
    (hcode : (Cond.codeWith y bytes maxL ret hh).before args s = true) (hy : y.cls ≠ "java/lang/invoke/MethodHandle" ∧ y.cls ≠ "java/lang/invoke/VarHandle")
    {W9 : Nat} {Pre : Pt → Array Value → Prop} {Post : Pt → Array Value → Option Value → Pt → Prop} {PostX : Pt → Array Value → Addr → Pt → Prop} (hK : vx_Back l R p e below s args y 3 W9 Pre Post PostX)
    {b : Addr} {cellB : Cell} (hcell : T.heap[b]? = some cellB) (hobj : cellB.vm.isStatics = false) (hcls : s.vm.findClass C = some cellB.cls)
    {g : JFrame} (hg : g.method = m) (hsize : g.locals.size = c.maxLocals) {argsL rest : List Value} (hlen : ∀ sig, parseMethodDescriptor y.desc = some sig → argsL.length = sig.parameters.length)
    (hstack : g.stack = argsL.reverse ++ .ref b :: rest) (hW : 2 * g.monitorRoom + (rest.map fun v => v.category).sum ≤ W9) (hdg : decode c.code g.pc = .ok (.invokevirtual index, 3))
    (hpre : ∀ vm₁, s.WarmedH vm₁ → Pre ⟨T.setVm vm₁, locs, cells, slots⟩ (Value.ref b :: argsL).toArray) :
    (∃ (v : Option Value) (vm₁ : Vm) (B : Pt), s.WarmedH vm₁ ∧ Stand p l e R s m args below meth c B.U B.locs B.cells B.slots ∧ Post ⟨T.setVm vm₁, locs, cells, slots⟩ (Value.ref b :: argsL).toArray v B ∧
      ∀ target, Steps p.tables e below (B.U.setTop { g with pc := g.pc + 3, stack := v.toList ++ rest }) target → Steps p.tables e below (T.setTop g) target) ∨
    (∃ (q : Addr) (vm₁ : Vm) (B : Pt), s.WarmedH vm₁ ∧ Stand p l e R s m args below meth c B.U B.locs B.cells B.slots ∧ PostX ⟨T.setVm vm₁, locs, cells, slots⟩ (Value.ref b :: argsL).toArray q B ∧
      Steps p.tables e below (T.setTop g) ((B.U.setTop { g with stack := rest }).pushFrame (.throwing q))) := by
  obtain ⟨mk, methM, hnamed, hmethM, hstM, habM⟩ := Cond.instanceMethod_spec hinst
  obtain ⟨m8, methM', cM, hn8, hmethM', -, -, -, -, -, -, hsigM⟩ := Cond.codeWith_spec hcode
  cases Option.some.inj (hn8.symm.trans hnamed)
  cases hmethM.symm.trans hmethM'
  obtain ⟨c2, r2, m2, q1, q2, q3, q4, kP, hkP, hkPi⟩ := Cond.selects_spec hsel
  cases hcls.symm.trans q1
  cases (State.methodFound?_of_named hnamed hy).symm.trans q2
  cases hnamed.symm.trans q3
  have hselP : selectMethod e.platform s.vm cellB.cls mk = .method mk := by rw [Launch.admits_selectMethod X.admits]; exact q4
  obtain ⟨vm₁, X₁, hstep₁⟩ := X.invokevirtual hexec hown hlink hnamed hmethM hstM hkP hkPi hy (a := b) (cell := cellB) hcell
    (fun z h => by rw [h] at hobj; cases hobj) hselP hmethM habM hkP hkPi (g := g) hg (argsL := argsL) (rest := rest) (hlen _ hsigM) hstack hdg
  rcases hK m meth c ⟨T.setVm vm₁, locs, cells, slots⟩ { g with stack := rest } (.invokevirtual index) mk (Value.ref b :: argsL).toArray X₁ hg hsize hdg hW (X₁.named hnamed) (hpre vm₁ X₁.warmed) with ⟨v, B, X', hpost, hsteps⟩ | ⟨q, B, X', hpost, hsteps⟩
  · exact Or.inl ⟨v, vm₁, B, X₁.warmed, X', hpost, fun target h => hstep₁ _ fun acts => by rw [doInvoke_state]; exact hsteps.trans h⟩
  · exact Or.inr ⟨q, vm₁, B, X₁.warmed, X', hpost, hstep₁ _ fun acts => by rw [doInvoke_state]; exact hsteps⟩
theorem vx_callSX (X : Stand p l e R s m args below meth c T locs cells slots) (hexec : p.tables.exec = Jvm.exec) {own : String} {index : Nat} {y : MethodName} {bytes : ByteArray} {maxL : Nat} {ret : Option FieldType} {hh : List (Nat × Nat × Nat × Nat)}
    (hown : s.vm.findClass own = some m.cls) (hlink : (Cond.methodLink own index y).before args s = true) (hstat : (Cond.static y).before args s = true) (hinit : (Cond.initialized y.cls).before args s = true)
    (hcode : (Cond.codeWith y bytes maxL ret hh).before args s = true) (hy : y.cls ≠ "java/lang/invoke/MethodHandle" ∧ y.cls ≠ "java/lang/invoke/VarHandle")
    {W9 : Nat} {Pre : Pt → Array Value → Prop} {Post : Pt → Array Value → Option Value → Pt → Prop} {PostX : Pt → Array Value → Addr → Pt → Prop} (hK : vx_Back l R p e below s args y 3 W9 Pre Post PostX)
    {g : JFrame} (hg : g.method = m) (hsize : g.locals.size = c.maxLocals) {argsL rest : List Value} (hlen : ∀ sig, parseMethodDescriptor y.desc = some sig → argsL.length = sig.parameters.length)
    (hstack : g.stack = argsL.reverse ++ rest) (hW : 2 * g.monitorRoom + (rest.map fun v => v.category).sum ≤ W9) (hdg : decode c.code g.pc = .ok (.invokestatic index, 3))
    (hpre : ∀ vm₁, s.WarmedH vm₁ → Pre ⟨T.setVm vm₁, locs, cells, slots⟩ argsL.toArray) :
    (∃ (v : Option Value) (vm₁ : Vm) (B : Pt), s.WarmedH vm₁ ∧ Stand p l e R s m args below meth c B.U B.locs B.cells B.slots ∧ Post ⟨T.setVm vm₁, locs, cells, slots⟩ argsL.toArray v B ∧
      ∀ target, Steps p.tables e below (B.U.setTop { g with pc := g.pc + 3, stack := v.toList ++ rest }) target → Steps p.tables e below (T.setTop g) target) ∨
    (∃ (q : Addr) (vm₁ : Vm) (B : Pt), s.WarmedH vm₁ ∧ Stand p l e R s m args below meth c B.U B.locs B.cells B.slots ∧ PostX ⟨T.setVm vm₁, locs, cells, slots⟩ argsL.toArray q B ∧
      Steps p.tables e below (T.setTop g) ((B.U.setTop { g with stack := rest }).pushFrame (.throwing q))) := by
  obtain ⟨mk, methM, cM, hnamed, hmethM, -, -, -, -, -, -, hsigM⟩ := Cond.codeWith_spec hcode
  have hstatic : methM.isStatic = true := Cond.static_spec hnamed hmethM hstat
  obtain ⟨kP, hkP, -⟩ := className_of_methodNamed hnamed
  have hinitP : kP.init = .initialized := Cond.initialized_spec (findClass_of_methodNamed hnamed) hkP hinit
  obtain ⟨vm₁, X₁, hstep₁⟩ := X.invokestatic hexec hown hlink hnamed hmethM hstatic hkP hinitP hy (g := g) hg (argsL := argsL) (rest := rest) (hlen _ hsigM) hstack hdg
  rcases hK m meth c ⟨T.setVm vm₁, locs, cells, slots⟩ { g with stack := rest } (.invokestatic index) mk argsL.toArray X₁ hg hsize hdg hW (X₁.named hnamed) (hpre vm₁ X₁.warmed) with ⟨v, B, X', hpost, hsteps⟩ | ⟨q, B, X', hpost, hsteps⟩
  · exact Or.inl ⟨v, vm₁, B, X₁.warmed, X', hpost, fun target h => hstep₁ _ fun acts => by rw [doInvoke_state]; exact hsteps.trans h⟩
  · exact Or.inr ⟨q, vm₁, B, X₁.warmed, X', hpost, hstep₁ _ fun acts => by rw [doInvoke_state]; exact hsteps⟩
theorem vx_callVW (X : Stand p l e R s m args below meth c T locs cells slots) (hexec : p.tables.exec = Jvm.exec) {own C : String} {index : Nat} {y : MethodName} {bytes : ByteArray} {maxL : Nat} {ret : Option FieldType} {hh : List (Nat × Nat × Nat × Nat)}
    (hown : s.vm.findClass own = some m.cls) (hlink : (Cond.methodLink own index y).before args s = true) (hinst : (Cond.instanceMethod y).before args s = true) (hsel : (Cond.selects C y y).before args s = true)
    (hcode : (Cond.codeWith y bytes maxL ret hh).before args s = true) (hy : y.cls ≠ "java/lang/invoke/MethodHandle" ∧ y.cls ≠ "java/lang/invoke/VarHandle")
    {W9 : Nat} {Pre : Pt → Array Value → Prop} {Post : Pt → Array Value → Option Value → Pt → Prop} (hK : Back l R p e below s args y 3 W9 Pre Post)
    {b : Addr} {cellB : Cell} (hcell : T.heap[b]? = some cellB) (hobj : cellB.vm.isStatics = false) (hcls : s.vm.findClass C = some cellB.cls)
    {g : JFrame} (hg : g.method = m) (hsize : g.locals.size = c.maxLocals) {argsL rest : List Value} (hlen : ∀ sig, parseMethodDescriptor y.desc = some sig → argsL.length = sig.parameters.length)
    (hstack : g.stack = argsL.reverse ++ .ref b :: rest) (hW : 2 * g.monitorRoom + (rest.map fun v => v.category).sum ≤ W9) (hdg : decode c.code g.pc = .ok (.invokevirtual index, 3))
    (hpre : ∀ vm₁, s.WarmedH vm₁ → Pre ⟨T.setVm vm₁, locs, cells, slots⟩ (Value.ref b :: argsL).toArray) :
    ∃ (v : Option Value) (vm₁ : Vm) (B : Pt), s.WarmedH vm₁ ∧ Stand p l e R s m args below meth c B.U B.locs B.cells B.slots ∧ Post ⟨T.setVm vm₁, locs, cells, slots⟩ (Value.ref b :: argsL).toArray v B ∧
      ∀ target, Steps p.tables e below (B.U.setTop { g with pc := g.pc + 3, stack := v.toList ++ rest }) target → Steps p.tables e below (T.setTop g) target := by
  obtain ⟨mk, methM, hnamed, hmethM, hstM, habM⟩ := Cond.instanceMethod_spec hinst
  obtain ⟨m8, methM', cM, hn8, hmethM', -, -, -, -, -, -, hsigM⟩ := Cond.codeWith_spec hcode
  cases Option.some.inj (hn8.symm.trans hnamed)
  cases hmethM.symm.trans hmethM'
  obtain ⟨c2, r2, m2, q1, q2, q3, q4, kP, hkP, hkPi⟩ := Cond.selects_spec hsel
  cases hcls.symm.trans q1
  cases (State.methodFound?_of_named hnamed hy).symm.trans q2
  cases hnamed.symm.trans q3
  have hselP : selectMethod e.platform s.vm cellB.cls mk = .method mk := by rw [Launch.admits_selectMethod X.admits]; exact q4
  obtain ⟨vm₁, X₁, hstep₁⟩ := X.invokevirtual hexec hown hlink hnamed hmethM hstM hkP hkPi hy (a := b) (cell := cellB) hcell
    (fun z h => by rw [h] at hobj; cases hobj) hselP hmethM habM hkP hkPi (g := g) hg (argsL := argsL) (rest := rest) (hlen _ hsigM) hstack hdg
  obtain ⟨v, B, X', hpost, hsteps⟩ := hK m meth c ⟨T.setVm vm₁, locs, cells, slots⟩ { g with stack := rest } (.invokevirtual index) mk (Value.ref b :: argsL).toArray X₁ hg hsize hdg hW (X₁.named hnamed) (hpre vm₁ X₁.warmed)
  exact ⟨v, vm₁, B, X₁.warmed, X', hpost, fun target h => hstep₁ _ fun acts => by rw [doInvoke_state]; exact hsteps.trans h⟩
abbrev vx_CVW (R : Room) (s : State) (args : Array Value) (own C : String) (index : Nat) (y : MethodName) (bytes : ByteArray) (maxL : Nat) (ret : Option FieldType) (hh : List (Nat × Nat × Nat × Nat)) (ws : List Cond) (rm : Room) (mc ms n : Nat) : Prop :=
  (rm.cells = mc ∧ rm.slots = ms ∧ rm.frames + 1 ≤ R.frames ∧ 8 + (maxL + 11) + rm.locals ≤ R.locals ∧ (∀ w ∈ ws, ∀ (a' : Array Value) (U : State), s.WarmedH U.vm → w.before a' U = true) ∧ Cond.codeWith y bytes maxL ret hh ∈ ws) ∧
  (Cond.codeWith y bytes maxL ret hh).before args s = true ∧ (Cond.initialized y.cls).before args s = true ∧ (y.cls ≠ "java/lang/invoke/MethodHandle" ∧ y.cls ≠ "java/lang/invoke/VarHandle") ∧
  (∀ sig, parseMethodDescriptor y.desc = some sig → n = sig.parameters.length) ∧ (Cond.methodLink own index y).before args s = true ∧ (Cond.instanceMethod y).before args s = true ∧ (Cond.selects C y y).before args s = true
theorem vx_cwVW {own C : String} {index maxL mc ms : Nat} {y : MethodName} {bytes : ByteArray} {ret : Option FieldType} {hh : List (Nat × Nat × Nat × Nat)} {Ts ws ws' : List Cond} {rm : Room} (n : Nat) (ht : ∀ w ∈ Ts, w.before args s = true) (hT : GoodIn Ts (wsV own index C y ws)) (hw : ws = Cond.codeWith y bytes maxL ret hh :: ws') (hrc : rm.cells = mc) (hrs : rm.slots = ms)
    (hd : y.cls = C ∧ y.cls ≠ "java/lang/invoke/MethodHandle" ∧ y.cls ≠ "java/lang/invoke/VarHandle" ∧ (parseMethodDescriptor y.desc).map (fun d => d.parameters.length) = some n) (hR : rm.frames + 1 ≤ R.frames ∧ 8 + (maxL + 11) + rm.locals ≤ R.locals) :
    vx_CVW R s args own C index y bytes maxL ret hh ws rm mc ms n := by
  obtain ⟨hC, hd⟩ := hd
  subst hC
  have ok : ∀ w ∈ wsV own index y.cls y ws, w.before args s = true := fun w h => ht w (hT w h).1
  have hG : GoodIn Ts ws := fun w h => hT w (by unfold wsV; exact List.mem_append_right _ h)
  have hc : Cond.codeWith y bytes maxL ret hh ∈ ws := by rw [hw]; exact List.mem_cons_self
  refine ⟨⟨hrc, hrs, hR.1, hR.2, pay_in ht hG, hc⟩, ht _ (hG _ hc).1, ok _ (by simp [wsV]), ⟨hd.1, hd.2.1⟩, fun sig h => ?_, ok _ (by simp [wsV]), ok _ (by simp [wsV]), ok _ (by simp [wsV])⟩
  have h2 := hd.2.2
  rw [h] at h2
  exact (Option.some.inj h2).symm
theorem vx_runVW {y : MethodName} {bytes cc : ByteArray} {maxL nL mc ms n index : Nat} {ret : Option FieldType} {hh : List (Nat × Nat × Nat × Nat)} {ws : List Cond} {rm : Room} {Pc : Array Value → State → Prop} {Qc : Array Value → State → Outcome → State → Prop} {free : Addr → Prop} {Ts : List Cond} {own C : String} {b : Addr} {As rest : List Value} {g : JFrame}
    (S : CallFix p m c cc nL s args Ts own) (hM : Met l y ws rm Pc Qc mc ms free) (cw : vx_CVW R s args own C index y bytes maxL ret hh ws rm mc ms n) (hp : PreV s H C b Pc As)
    (hg : g.method = m) (hn : As.length = n) (hsize : g.locals.size = nL) (hstack : g.stack = As.reverse ++ .ref b :: rest) (hW : 2 * g.monitorRoom + (rest.map fun v => v.category).sum ≤ 8) (hdg : decode cc g.pc = .ok (.invokevirtual index, 3)) (hf : cells + mc ≤ R.cells ∧ slots + ms ≤ R.slots) :
    va_Run p l e R s m args below meth c H locs cells slots mc ms g rest (Qc (Value.ref b :: As).toArray) free := by
  obtain ⟨⟨hrc, hrs, hfr, hlo, hws, hcw⟩, hcode, hini, hy, hlen, hl, hin, hse⟩ := cw
  have hK : Back l R p e below s args y 3 8 (PreOf R mc ms Pc) (PostOf Qc mc ms free) := va_backW (hh := hh) (bytes := bytes) (maxL := maxL) (ret := ret) hM hp.1 hrc hrs hfr hlo hws hcw (fun a' U hW => word_at hW (Or.inl (by first | rfl | simp [Cond.onTables, Cond.keeps, Cond.steady])) hini)
  obtain ⟨hx, hb, hml, ho, -⟩ := S
  obtain ⟨-, ⟨cellB, hcB, hoB, hclB⟩, hPc⟩ := hp
  intro T hT X
  obtain ⟨v, vm₁, ⟨U', l2, c2, s2⟩, hW₁, X', ⟨g', mk, t, L, e1, e2, hq, h1, hL, h2, h3⟩, st⟩ := vx_callVW X hx (C := C) (hh := hh) (bytes := bytes) (maxL := maxL) (ret := ret) ho hl hin hse hcode hy hK (by rw [hT]; exact hcB) hoB hclB hg (hsize.trans hml.symm) (argsL := As) (rest := rest) (fun sig h => hn.trans (hlen sig h)) hstack hW (by rw [hb]; exact hdg)
    (fun vm₁ hW₁ => ⟨hf.1, hf.2, hPc (T.setVm vm₁) hT hW₁⟩)
  dsimp only [Pt.U, Pt.locs, Pt.cells, Pt.slots] at X' e1 e2 h1 h2 h3 st
  subst h1; subst h2; subst h3
  exact ⟨v, (T.setVm vm₁).calling g' mk (Value.ref b :: As).toArray, t, U', L, hT, X', hL, e1, e2, hq, st⟩
section
variable {y : MethodName} {bytes cc : ByteArray} {maxL nL mc ms n index : Nat} {ret : Option FieldType} {ws : List Cond} {rm : Room} {Pc : Array Value → State → Prop} {Qc : Array Value → State → Outcome → State → Prop} {XC : String → State → State → Prop} {free : Addr → Prop} {Ts : List Cond} {own C : String} {b : Addr} {As rest : List Value} {g : JFrame}
theorem vx_runVX {hh : List (Nat × Nat × Nat × Nat)} (S : CallFix p m c cc nL s args Ts own) (hM : vx_Met l y ws rm Pc Qc XC mc ms free) (cw : vx_CVW R s args own C index y bytes maxL ret hh ws rm mc ms n) (hp : PreV s H C b Pc As)
    (hg : g.method = m) (hn : As.length = n) (hsize : g.locals.size = nL) (hstack : g.stack = As.reverse ++ .ref b :: rest) (hW : 2 * g.monitorRoom + (rest.map fun v => v.category).sum ≤ 8) (hdg : decode cc g.pc = .ok (.invokevirtual index, 3)) (hf : cells + mc ≤ R.cells ∧ slots + ms ≤ R.slots) :
    vx_Run p l e R s m args below meth c H locs cells slots mc ms g rest (Qc (Value.ref b :: As).toArray) XC free := by
  obtain ⟨⟨hrc, hrs, hfr, hlo, hws, hcw⟩, hcode, hini, hy, hlen, hl, hin, hse⟩ := cw
  have hK : vx_Back l R p e below s args y 3 8 (PreOf R mc ms Pc) (PostOf Qc mc ms free) (vx_Post XC mc ms free) := vx_backW (hh := hh) (bytes := bytes) (maxL := maxL) (ret := ret) hM hp.1 hrc hrs hfr hlo hws hcw (fun a' U hW => word_at hW (Or.inl (by first | rfl | simp [Cond.onTables, Cond.keeps, Cond.steady])) hini)
  obtain ⟨hx, hb, hml, ho, -⟩ := S
  obtain ⟨-, ⟨cellB, hcB, hoB, hclB⟩, hPc⟩ := hp
  intro T hT X
  rcases vx_callVX X hx (C := C) (hh := hh) (bytes := bytes) (maxL := maxL) (ret := ret) ho hl hin hse hcode hy hK (by rw [hT]; exact hcB) hoB hclB hg (hsize.trans hml.symm) (argsL := As) (rest := rest) (fun sig h => hn.trans (hlen sig h)) hstack hW (by rw [hb]; exact hdg)
    (fun vm₁ hW₁ => ⟨hf.1, hf.2, hPc (T.setVm vm₁) hT hW₁⟩) with ⟨v, vm₁, ⟨U', l2, c2, s2⟩, hW₁, X', ⟨g', mk, t, L, e1, e2, hq, h1, hL, h2, h3⟩, st⟩ | ⟨q, vm₁, ⟨U', l2, c2, s2⟩, hW₁, X', ⟨g', mk, t, L, E, ce, e1, e2, hq, hce, hcv, hcl, h1, hL, h2, h3⟩, st⟩
  · dsimp only [Pt.U, Pt.locs, Pt.cells, Pt.slots] at X' e1 e2 h1 h2 h3 st
    subst h1; subst h2; subst h3
    exact Or.inl ⟨v, (T.setVm vm₁).calling g' mk (Value.ref b :: As).toArray, t, U', L, hT, X', hL, e1, e2, hq, st⟩
  · dsimp only [Pt.U, Pt.locs, Pt.cells, Pt.slots] at X' e1 e2 h1 h2 h3 st hcl
    subst h1; subst h2; subst h3
    exact Or.inr ⟨q, (T.setVm vm₁).calling g' mk (Value.ref b :: As).toArray, t, U', L, E, ce, hT, X', hL, e1, e2, hq, hce, hcv, vx_cls hW₁ hcl, st⟩
theorem vx_runSX {hh : List (Nat × Nat × Nat × Nat)} (S : CallFix p m c cc nL s args Ts own) (hM : vx_Met l y ws rm Pc Qc XC mc ms free) (cw : vx_CSW R s args own index y bytes maxL ret hh ws rm mc ms n) (hp : PreS s H Pc As)
    (hg : g.method = m) (hn : As.length = n) (hsize : g.locals.size = nL) (hstack : g.stack = As.reverse ++ rest) (hW : 2 * g.monitorRoom + (rest.map fun v => v.category).sum ≤ 8) (hdg : decode cc g.pc = .ok (.invokestatic index, 3)) (hf : cells + mc ≤ R.cells ∧ slots + ms ≤ R.slots) :
    vx_Run p l e R s m args below meth c H locs cells slots mc ms g rest (Qc As.toArray) XC free := by
  obtain ⟨⟨hrc, hrs, hfr, hlo, hws, hcw⟩, hcode, hini, hy, hlen, hl, hstt⟩ := cw
  have hK : vx_Back l R p e below s args y 3 8 (PreOf R mc ms Pc) (PostOf Qc mc ms free) (vx_Post XC mc ms free) := vx_backW (hh := hh) (bytes := bytes) (maxL := maxL) (ret := ret) hM hp.1 hrc hrs hfr hlo hws hcw (fun a' U hW => word_at hW (Or.inl (by first | rfl | simp [Cond.onTables, Cond.keeps, Cond.steady])) hini)
  obtain ⟨hx, hb, hml, ho, -⟩ := S
  intro T hT X
  rcases vx_callSX X hx (hh := hh) (bytes := bytes) (maxL := maxL) (ret := ret) ho hl hstt hini hcode hy hK hg (hsize.trans hml.symm) (argsL := As) (rest := rest) (fun sig h => hn.trans (hlen sig h)) hstack hW (by rw [hb]; exact hdg)
    (fun vm₁ hW₁ => ⟨hf.1, hf.2, hp.2 (T.setVm vm₁) hT hW₁⟩) with ⟨v, vm₁, ⟨U', l2, c2, s2⟩, hW₁, X', ⟨g', mk, t, L, e1, e2, hq, h1, hL, h2, h3⟩, st⟩ | ⟨q, vm₁, ⟨U', l2, c2, s2⟩, hW₁, X', ⟨g', mk, t, L, E, ce, e1, e2, hq, hce, hcv, hcl, h1, hL, h2, h3⟩, st⟩
  · dsimp only [Pt.U, Pt.locs, Pt.cells, Pt.slots] at X' e1 e2 h1 h2 h3 st
    subst h1; subst h2; subst h3
    exact Or.inl ⟨v, (T.setVm vm₁).calling g' mk As.toArray, t, U', L, hT, X', hL, e1, e2, hq, st⟩
  · dsimp only [Pt.U, Pt.locs, Pt.cells, Pt.slots] at X' e1 e2 h1 h2 h3 st hcl
    subst h1; subst h2; subst h3
    exact Or.inr ⟨q, (T.setVm vm₁).calling g' mk As.toArray, t, U', L, E, ce, hT, X', hL, e1, e2, hq, hce, hcv, vx_cls hW₁ hcl, st⟩
end
end VXH
theorem vx_ofWH {l : Launch} {y : MethodName} {ws ws' : List Cond} {rm : Room} {Pc : Array Value → State → Prop} {Qc : Array Value → State → Outcome → State → Prop} {XC : String → State → State → Prop} {mc ms : Nat} {free : Addr → Prop} {cc : ByteArray} {maxL : Nat} {ret : Option FieldType} {hh : List (Nat × Nat × Nat × Nat)}
    (hy : plainName y.cls = true) (hw : ws = Cond.codeWith y cc maxL ret hh :: ws')
    (body : ∀ p e s m args below meth c s₁, BodyLoose p l y (headSpec ws rm) cc maxL ret e s m args below meth c s₁ → c.maxLocals = maxL → Pc args s →
      W p l e (headSpec ws rm).room s m args below meth c s.heap [] 0 0 (vx_MQ below Qc XC args s mc ms free) (entryFrame m args maxL)) : vx_Met l y ws rm Pc Qc XC mc ms free := by
  refine MetFree.of_bodyS (code := cc) (maxLocals := maxL) (ret := ret) hy ?_ ?_
  · intro args s m h hn
    obtain ⟨m9, meth, c, hn9, h1, h2, h3, h4, -, h5, h6, -⟩ := Cond.codeWith_spec (atoms_spec (ws := ws) h _ (by rw [hw]; exact List.mem_cons_self))
    cases hn.symm.trans hn9
    exact ⟨meth, c, h1, h2, h3, h4, h5, h6⟩
  · intro p e s m args below meth c s₁ B hml hP _
    have hh0 : s₁.heap = s.heap := by rw [B.state]; rfl
    obtain ⟨t, a1, o, b1, b2, b3⟩ := body p e s m args below meth c s₁ B hml hP s₁ hh0 (Stand.of_body B)
    exact ⟨t, o, a1, b1, b2, b3⟩
/-! ===== END ===== -/
end
section
def RX0 : String := "LsmStore$Batch"
def TX0 : u_T := fun k => match k with
  | 0 => ("LsmStore$Batch", "record", "[B", true)
  | 1 => ("LsmStore$Batch", "starts", "[I", true)
  | 2 => ("LsmStore$Batch", "steps", "I", false)
  | 3 => ("LsmStore$Batch", "length", "I", false)
  | _ => ("LsmStore$Batch", "open", "Z", false)
def tyX0 : Nat → FieldType := fun k => match k with
  | 0 => .array .byte
  | 1 => .array .int
  | 2 => .int
  | 3 => .int
  | _ => .boolean
abbrev wsX00 : List Cond := u_ws RX0 TX0 5
theorem nmX0 : ∀ a, a < 5 → ∀ b, b < 5 → a ≠ b → (TX0 a).2.1 ≠ (TX0 b).2.1 := by decide +kernel
theorem tyX0_ok : ∀ k, k < 5 → parseFieldDescriptor (TX0 k).2.2.1 = some (tyX0 k) := by decide +kernel
abbrev cX0_init : ByteArray := prog_2_method_1_code
def yX0_init : MethodName := ⟨RX0, "<init>", "()V"⟩
abbrev cX0_start : ByteArray := prog_2_method_2_code
def yX0_start : MethodName := ⟨RX0, "start", "()V"⟩
abbrev cX0_add : ByteArray := prog_2_method_3_code
def yX0_add : MethodName := ⟨RX0, "add", "(ILLsmStore$Row;LLsmStore$Row;)V"⟩
abbrev cX0_seal : ByteArray := prog_2_method_4_code
def yX0_seal : MethodName := ⟨RX0, "seal", "(I)V"⟩
abbrev cX0_kind : ByteArray := prog_2_method_5_code
def yX0_kind : MethodName := ⟨RX0, "kind", "(I)I"⟩
abbrev cX0_entryLength : ByteArray := prog_2_method_6_code
def yX0_entryLength : MethodName := ⟨RX0, "entryLength", "(I)I"⟩
abbrev cX0_copyKey : ByteArray := prog_2_method_7_code
def yX0_copyKey : MethodName := ⟨RX0, "copyKey", "(ILLsmStore$Row;)V"⟩
abbrev cX0_isLastOfItsKey : ByteArray := prog_2_method_8_code
def yX0_isLastOfItsKey : MethodName := ⟨RX0, "isLastOfItsKey", "(I)Z"⟩
abbrev cX0_haveSameKey : ByteArray := prog_2_method_9_code
def yX0_haveSameKey : MethodName := ⟨RX0, "haveSameKey", "(II)Z"⟩
def RX1 : String := "LsmStore$Disk"
def TX1 : u_T := fun k => match k with
  | 0 => ("LsmStore$Disk", "cells", "[B", true)
  | 1 => ("LsmStore$Disk", "blank", "[B", true)
  | 2 => ("LsmStore$Disk", "on", "Z", false)
  | 3 => ("LsmStore$Disk", "when", "I", false)
  | 4 => ("LsmStore$Disk", "left", "I", false)
  | 5 => ("LsmStore$Disk", "cut", "I", false)
  | 6 => ("LsmStore$Disk", "due", "Z", false)
  | _ => ("LsmStore$Disk", "counting", "Z", false)
def tyX1 : Nat → FieldType := fun k => match k with
  | 0 => .array .byte
  | 1 => .array .byte
  | 2 => .boolean
  | 3 => .int
  | 4 => .int
  | 5 => .int
  | 6 => .boolean
  | _ => .boolean
abbrev wsX10 : List Cond := u_ws RX1 TX1 8
theorem nmX1 : ∀ a, a < 8 → ∀ b, b < 8 → a ≠ b → (TX1 a).2.1 ≠ (TX1 b).2.1 := by decide +kernel
theorem tyX1_ok : ∀ k, k < 8 → parseFieldDescriptor (TX1 k).2.2.1 = some (tyX1 k) := by decide +kernel
abbrev cX1_init : ByteArray := prog_3_method_1_code
def yX1_init : MethodName := ⟨RX1, "<init>", "()V"⟩
abbrev cX1_plan : ByteArray := prog_3_method_2_code
def yX1_plan : MethodName := ⟨RX1, "plan", "(III)V"⟩
abbrev cX1_enter : ByteArray := prog_3_method_3_code
def yX1_enter : MethodName := ⟨RX1, "enter", "(Z)V"⟩
abbrev cX1_leave : ByteArray := prog_3_method_4_code
def yX1_leave : MethodName := ⟨RX1, "leave", "()V"⟩
abbrev cX1_write : ByteArray := prog_3_method_5_code
def yX1_write : MethodName := ⟨RX1, "write", "(I[BIIZ)V"⟩
abbrev cX1_erase : ByteArray := prog_3_method_6_code
def yX1_erase : MethodName := ⟨RX1, "erase", "(I)V"⟩
abbrev cX1_goOff : ByteArray := prog_3_method_7_code
def yX1_goOff : MethodName := ⟨RX1, "goOff", "()V"⟩
abbrev cX1_number : ByteArray := prog_3_method_8_code
def yX1_number : MethodName := ⟨RX1, "number", "(II)I"⟩
abbrev cX1_kind : ByteArray := prog_3_method_9_code
def yX1_kind : MethodName := ⟨RX1, "kind", "(I)I"⟩
abbrev cX1_entryLength : ByteArray := prog_3_method_10_code
def yX1_entryLength : MethodName := ⟨RX1, "entryLength", "(I)I"⟩
abbrev cX1_nextInBlock : ByteArray := prog_3_method_11_code
def yX1_nextInBlock : MethodName := ⟨RX1, "nextInBlock", "(I)I"⟩
abbrev cX1_copyKey : ByteArray := prog_3_method_12_code
def yX1_copyKey : MethodName := ⟨RX1, "copyKey", "(ILLsmStore$Row;)V"⟩
abbrev cX1_copyValue : ByteArray := prog_3_method_13_code
def yX1_copyValue : MethodName := ⟨RX1, "copyValue", "(ILLsmStore$Row;)V"⟩
abbrev cX1_order : ByteArray := prog_3_method_14_code
def yX1_order : MethodName := ⟨RX1, "order", "(II)I"⟩
abbrev cX1_precedes : ByteArray := prog_3_method_15_code
def yX1_precedes : MethodName := ⟨RX1, "precedes", "(II)Z"⟩
abbrev cX1_isBefore : ByteArray := prog_3_method_16_code
def yX1_isBefore : MethodName := ⟨RX1, "isBefore", "(ILLsmStore$Row;I)Z"⟩
abbrev cX1_hasKey : ByteArray := prog_3_method_17_code
def yX1_hasKey : MethodName := ⟨RX1, "hasKey", "(ILLsmStore$Row;)Z"⟩
abbrev cX1_mix : ByteArray := prog_3_method_18_code
def yX1_mix : MethodName := ⟨RX1, "mix", "(JI)J"⟩
abbrev cX1_mixRow : ByteArray := prog_3_method_19_code
def yX1_mixRow : MethodName := ⟨RX1, "mixRow", "(JII)J"⟩
def RX2 : String := "LsmStore$Files"
def TX2 : u_T := fun k => match k with
  | 0 => ("LsmStore$Files", "taken", "[Z", true)
  | 1 => ("LsmStore$Files", "owners", "[I", true)
  | 2 => ("LsmStore$Files", "pool", "[LLsmStore$Table;", true)
  | 3 => ("LsmStore$Files", "retired", "[LLsmStore$Table;", true)
  | 4 => ("LsmStore$Files", "retiredCount", "I", false)
  | 5 => ("LsmStore$Files", "freeBlocks", "I", false)
  | 6 => ("LsmStore$Files", "freeTables", "I", false)
  | _ => ("LsmStore$Files", "next", "I", false)
def tyX2 : Nat → FieldType := fun k => match k with
  | 0 => .array .boolean
  | 1 => .array .int
  | 2 => .array (.object "LsmStore$Table")
  | 3 => .array (.object "LsmStore$Table")
  | 4 => .int
  | 5 => .int
  | 6 => .int
  | _ => .int
abbrev wsX20 : List Cond := u_ws RX2 TX2 8
theorem nmX2 : ∀ a, a < 8 → ∀ b, b < 8 → a ≠ b → (TX2 a).2.1 ≠ (TX2 b).2.1 := by decide +kernel
theorem tyX2_ok : ∀ k, k < 8 → parseFieldDescriptor (TX2 k).2.2.1 = some (tyX2 k) := by decide +kernel
abbrev cX2_init : ByteArray := prog_4_method_1_code
def yX2_init : MethodName := ⟨RX2, "<init>", "(LLsmStore$Disk;)V"⟩
abbrev cX2_clear : ByteArray := prog_4_method_2_code
def yX2_clear : MethodName := ⟨RX2, "clear", "()V"⟩
abbrev cX2_takeBlock : ByteArray := prog_4_method_3_code
def yX2_takeBlock : MethodName := ⟨RX2, "takeBlock", "()I"⟩
abbrev cX2_takeThis : ByteArray := prog_4_method_4_code
def yX2_takeThis : MethodName := ⟨RX2, "takeThis", "(I)Z"⟩
abbrev cX2_mark : ByteArray := prog_4_method_5_code
def yX2_mark : MethodName := ⟨RX2, "mark", "(I)V"⟩
abbrev cX2_takeTable : ByteArray := prog_4_method_6_code
def yX2_takeTable : MethodName := ⟨RX2, "takeTable", "()LLsmStore$Table;"⟩
abbrev cX2_retire : ByteArray := prog_4_method_7_code
def yX2_retire : MethodName := ⟨RX2, "retire", "(LLsmStore$Table;)V"⟩
abbrev cX2_freeRetired : ByteArray := prog_4_method_8_code
def yX2_freeRetired : MethodName := ⟨RX2, "freeRetired", "()V"⟩
abbrev cX2_free : ByteArray := prog_4_method_9_code
def yX2_free : MethodName := ⟨RX2, "free", "(LLsmStore$Table;)V"⟩
abbrev cX2_strayBlocks : ByteArray := prog_4_method_10_code
def yX2_strayBlocks : MethodName := ⟨RX2, "strayBlocks", "([LLsmStore$Level;)I"⟩
abbrev cX2_own : ByteArray := prog_4_method_11_code
def yX2_own : MethodName := ⟨RX2, "own", "(LLsmStore$Table;)I"⟩
def RX3 : String := "LsmStore$Head"
def TX3 : u_T := fun k => match k with
  | 0 => ("LsmStore$Head", "disk", "LLsmStore$Disk;", true)
  | 1 => ("LsmStore$Head", "record", "[B", true)
  | 2 => ("LsmStore$Head", "length", "I", false)
  | 3 => ("LsmStore$Head", "cursor", "I", false)
  | 4 => ("LsmStore$Head", "generation", "I", false)
  | 5 => ("LsmStore$Head", "area", "I", false)
  | _ => ("LsmStore$Head", "commits", "I", false)
def tyX3 : Nat → FieldType := fun k => match k with
  | 0 => .object "LsmStore$Disk"
  | 1 => .array .byte
  | 2 => .int
  | 3 => .int
  | 4 => .int
  | 5 => .int
  | _ => .int
abbrev wsX30 : List Cond := u_ws RX3 TX3 7
theorem nmX3 : ∀ a, a < 7 → ∀ b, b < 7 → a ≠ b → (TX3 a).2.1 ≠ (TX3 b).2.1 := by decide +kernel
theorem tyX3_ok : ∀ k, k < 7 → parseFieldDescriptor (TX3 k).2.2.1 = some (tyX3 k) := by decide +kernel
abbrev cX3_init : ByteArray := prog_5_method_1_code
def yX3_init : MethodName := ⟨RX3, "<init>", "(LLsmStore$Disk;)V"⟩
abbrev cX3_install : ByteArray := prog_5_method_2_code
def yX3_install : MethodName := ⟨RX3, "install", "(II[LLsmStore$Level;)V"⟩
abbrev cX3_describe : ByteArray := prog_5_method_3_code
def yX3_describe : MethodName := ⟨RX3, "describe", "(II[LLsmStore$Level;)V"⟩
abbrev cX3_addTable : ByteArray := prog_5_method_4_code
def yX3_addTable : MethodName := ⟨RX3, "addTable", "(LLsmStore$Table;)V"⟩
abbrev cX3_addNumber : ByteArray := prog_5_method_5_code
def yX3_addNumber : MethodName := ⟨RX3, "addNumber", "(II)V"⟩
abbrev cX3_load : ByteArray := prog_5_method_6_code
def yX3_load : MethodName := ⟨RX3, "load", "([LLsmStore$Level;LLsmStore$Files;)V"⟩
abbrev cX3_generationAt : ByteArray := prog_5_method_7_code
def yX3_generationAt : MethodName := ⟨RX3, "generationAt", "(I)I"⟩
abbrev cX3_readTable : ByteArray := prog_5_method_8_code
def yX3_readTable : MethodName := ⟨RX3, "readTable", "(LLsmStore$Level;LLsmStore$Files;)V"⟩
abbrev cX3_read : ByteArray := prog_5_method_9_code
def yX3_read : MethodName := ⟨RX3, "read", "(I)I"⟩
def RX4 : String := "LsmStore$Level"
def TX4 : u_T := fun k => match k with
  | 0 => ("LsmStore$Level", "disk", "LLsmStore$Disk;", true)
  | 1 => ("LsmStore$Level", "none", "LLsmStore$Table;", true)
  | 2 => ("LsmStore$Level", "tables", "[LLsmStore$Table;", true)
  | 3 => ("LsmStore$Level", "count", "I", false)
  | 4 => ("LsmStore$Level", "low", "I", false)
  | _ => ("LsmStore$Level", "high", "I", false)
def tyX4 : Nat → FieldType := fun k => match k with
  | 0 => .object "LsmStore$Disk"
  | 1 => .object "LsmStore$Table"
  | 2 => .array (.object "LsmStore$Table")
  | 3 => .int
  | 4 => .int
  | _ => .int
abbrev wsX40 : List Cond := u_ws RX4 TX4 6
theorem nmX4 : ∀ a, a < 6 → ∀ b, b < 6 → a ≠ b → (TX4 a).2.1 ≠ (TX4 b).2.1 := by decide +kernel
theorem tyX4_ok : ∀ k, k < 6 → parseFieldDescriptor (TX4 k).2.2.1 = some (tyX4 k) := by decide +kernel
abbrev cX4_init : ByteArray := prog_6_method_1_code
def yX4_init : MethodName := ⟨RX4, "<init>", "(LLsmStore$Disk;)V"⟩
abbrev cX4_clear : ByteArray := prog_6_method_2_code
def yX4_clear : MethodName := ⟨RX4, "clear", "()V"⟩
abbrev cX4_table : ByteArray := prog_6_method_3_code
def yX4_table : MethodName := ⟨RX4, "table", "(I)LLsmStore$Table;"⟩
abbrev cX4_add : ByteArray := prog_6_method_4_code
def yX4_add : MethodName := ⟨RX4, "add", "(LLsmStore$Table;)V"⟩
abbrev cX4_blocks : ByteArray := prog_6_method_5_code
def yX4_blocks : MethodName := ⟨RX4, "blocks", "()I"⟩
abbrev cX4_firstOf : ByteArray := prog_6_method_6_code
def yX4_firstOf : MethodName := ⟨RX4, "firstOf", "(I)I"⟩
abbrev cX4_lastOf : ByteArray := prog_6_method_7_code
def yX4_lastOf : MethodName := ⟨RX4, "lastOf", "(I)I"⟩
abbrev cX4_pickNone : ByteArray := prog_6_method_8_code
def yX4_pickNone : MethodName := ⟨RX4, "pickNone", "()V"⟩
abbrev cX4_pickAll : ByteArray := prog_6_method_9_code
def yX4_pickAll : MethodName := ⟨RX4, "pickAll", "()V"⟩
abbrev cX4_pickOne : ByteArray := prog_6_method_10_code
def yX4_pickOne : MethodName := ⟨RX4, "pickOne", "(I)V"⟩
abbrev cX4_pickOver : ByteArray := prog_6_method_11_code
def yX4_pickOver : MethodName := ⟨RX4, "pickOver", "(II)V"⟩
abbrev cX4_collect : ByteArray := prog_6_method_12_code
def yX4_collect : MethodName := ⟨RX4, "collect", "(LLsmStore$Rows;)V"⟩
abbrev cX4_cut : ByteArray := prog_6_method_13_code
def yX4_cut : MethodName := ⟨RX4, "cut", "(LLsmStore$Files;)V"⟩
abbrev cX4_insert : ByteArray := prog_6_method_14_code
def yX4_insert : MethodName := ⟨RX4, "insert", "([LLsmStore$Table;I)V"⟩
abbrev cX4_tableFrom : ByteArray := prog_6_method_15_code
def yX4_tableFrom : MethodName := ⟨RX4, "tableFrom", "(LLsmStore$Row;I)I"⟩
abbrev cX4_find : ByteArray := prog_6_method_16_code
def yX4_find : MethodName := ⟨RX4, "find", "(LLsmStore$Row;I)I"⟩
abbrev cX4_from : ByteArray := prog_6_method_17_code
def yX4_from : MethodName := ⟨RX4, "from", "(LLsmStore$Row;I)I"⟩
abbrev cX4_lastBefore : ByteArray := prog_6_method_18_code
def yX4_lastBefore : MethodName := ⟨RX4, "lastBefore", "(LLsmStore$Row;)I"⟩
abbrev cX4_overlaps : ByteArray := prog_6_method_19_code
def yX4_overlaps : MethodName := ⟨RX4, "overlaps", "()I"⟩
abbrev cX4_faults : ByteArray := prog_6_method_20_code
def yX4_faults : MethodName := ⟨RX4, "faults", "()I"⟩
def RX5 : String := "LsmStore$Log"
def TX5 : u_T := fun k => match k with
  | 0 => ("LsmStore$Log", "disk", "LLsmStore$Disk;", true)
  | 1 => ("LsmStore$Log", "index", "[I", true)
  | 2 => ("LsmStore$Log", "count", "I", false)
  | 3 => ("LsmStore$Log", "used", "I", false)
  | 4 => ("LsmStore$Log", "area", "I", false)
  | 5 => ("LsmStore$Log", "touched", "I", false)
  | _ => ("LsmStore$Log", "touchedOther", "I", false)
def tyX5 : Nat → FieldType := fun k => match k with
  | 0 => .object "LsmStore$Disk"
  | 1 => .array .int
  | 2 => .int
  | 3 => .int
  | 4 => .int
  | 5 => .int
  | _ => .int
abbrev wsX50 : List Cond := u_ws RX5 TX5 7
theorem nmX5 : ∀ a, a < 7 → ∀ b, b < 7 → a ≠ b → (TX5 a).2.1 ≠ (TX5 b).2.1 := by decide +kernel
theorem tyX5_ok : ∀ k, k < 7 → parseFieldDescriptor (TX5 k).2.2.1 = some (tyX5 k) := by decide +kernel
abbrev cX5_init : ByteArray := prog_7_method_1_code
def yX5_init : MethodName := ⟨RX5, "<init>", "(LLsmStore$Disk;)V"⟩
abbrev cX5_other : ByteArray := prog_7_method_2_code
def yX5_other : MethodName := ⟨RX5, "other", "()I"⟩
abbrev cX5_hasRoom : ByteArray := prog_7_method_3_code
def yX5_hasRoom : MethodName := ⟨RX5, "hasRoom", "(LLsmStore$Batch;)Z"⟩
abbrev cX5_append : ByteArray := prog_7_method_4_code
def yX5_append : MethodName := ⟨RX5, "append", "(LLsmStore$Batch;)V"⟩
abbrev cX5_enlist : ByteArray := prog_7_method_5_code
def yX5_enlist : MethodName := ⟨RX5, "enlist", "(II)V"⟩
abbrev cX5_enlistOne : ByteArray := prog_7_method_6_code
def yX5_enlistOne : MethodName := ⟨RX5, "enlistOne", "(I)V"⟩
abbrev cX5_open : ByteArray := prog_7_method_7_code
def yX5_open : MethodName := ⟨RX5, "open", "(I)V"⟩
abbrev cX5_replay : ByteArray := prog_7_method_8_code
def yX5_replay : MethodName := ⟨RX5, "replay", "()I"⟩
abbrev cX5_clearOther : ByteArray := prog_7_method_9_code
def yX5_clearOther : MethodName := ⟨RX5, "clearOther", "()V"⟩
abbrev cX5_change : ByteArray := prog_7_method_10_code
def yX5_change : MethodName := ⟨RX5, "change", "()V"⟩
abbrev cX5_first : ByteArray := prog_7_method_11_code
def yX5_first : MethodName := ⟨RX5, "first", "()I"⟩
abbrev cX5_last : ByteArray := prog_7_method_12_code
def yX5_last : MethodName := ⟨RX5, "last", "()I"⟩
abbrev cX5_find : ByteArray := prog_7_method_13_code
def yX5_find : MethodName := ⟨RX5, "find", "(LLsmStore$Row;I)I"⟩
abbrev cX5_from : ByteArray := prog_7_method_14_code
def yX5_from : MethodName := ⟨RX5, "from", "(LLsmStore$Row;I)I"⟩
abbrev cX5_lastBefore : ByteArray := prog_7_method_15_code
def yX5_lastBefore : MethodName := ⟨RX5, "lastBefore", "(LLsmStore$Row;)I"⟩
abbrev cX5_countBefore : ByteArray := prog_7_method_16_code
def yX5_countBefore : MethodName := ⟨RX5, "countBefore", "(LLsmStore$Row;I)I"⟩
abbrev cX5_collect : ByteArray := prog_7_method_17_code
def yX5_collect : MethodName := ⟨RX5, "collect", "(LLsmStore$Rows;)V"⟩
def RX6 : String := "LsmStore$Row"
def TX6 : u_T := fun k => match k with
  | 0 => ("LsmStore$Row", "cells", "[B", true)
  | _ => ("LsmStore$Row", "length", "I", false)
def tyX6 : Nat → FieldType := fun k => match k with
  | 0 => .array .byte
  | _ => .int
abbrev wsX60 : List Cond := u_ws RX6 TX6 2
theorem nmX6 : ∀ a, a < 2 → ∀ b, b < 2 → a ≠ b → (TX6 a).2.1 ≠ (TX6 b).2.1 := by decide +kernel
theorem tyX6_ok : ∀ k, k < 2 → parseFieldDescriptor (TX6 k).2.2.1 = some (tyX6 k) := by decide +kernel
abbrev cX6_init : ByteArray := prog_8_method_1_code
def yX6_init : MethodName := ⟨RX6, "<init>", "(I)V"⟩
abbrev cX6_accepts : ByteArray := prog_8_method_2_code
def yX6_accepts : MethodName := ⟨RX6, "accepts", "(IZ)Z"⟩
abbrev cX6_append : ByteArray := prog_8_method_3_code
def yX6_append : MethodName := ⟨RX6, "append", "(JIZ)I"⟩
abbrev cX6_word : ByteArray := prog_8_method_4_code
def yX6_word : MethodName := ⟨RX6, "word", "(I)J"⟩
abbrev cX6_copy : ByteArray := prog_8_method_5_code
def yX6_copy : MethodName := ⟨RX6, "copy", "([BII)V"⟩
def RX7 : String := "LsmStore$Rows"
def TX7 : u_T := fun k => match k with
  | 0 => ("LsmStore$Rows", "disk", "LLsmStore$Disk;", true)
  | 1 => ("LsmStore$Rows", "list", "[I", true)
  | 2 => ("LsmStore$Rows", "spare", "[I", true)
  | 3 => ("LsmStore$Rows", "count", "I", false)
  | _ => ("LsmStore$Rows", "whole", "Z", false)
def tyX7 : Nat → FieldType := fun k => match k with
  | 0 => .object "LsmStore$Disk"
  | 1 => .array .int
  | 2 => .array .int
  | 3 => .int
  | _ => .boolean
abbrev wsX70 : List Cond := u_ws RX7 TX7 5
theorem nmX7 : ∀ a, a < 5 → ∀ b, b < 5 → a ≠ b → (TX7 a).2.1 ≠ (TX7 b).2.1 := by decide +kernel
theorem tyX7_ok : ∀ k, k < 5 → parseFieldDescriptor (TX7 k).2.2.1 = some (tyX7 k) := by decide +kernel
abbrev cX7_init : ByteArray := prog_9_method_1_code
def yX7_init : MethodName := ⟨RX7, "<init>", "(LLsmStore$Disk;)V"⟩
abbrev cX7_clear : ByteArray := prog_9_method_2_code
def yX7_clear : MethodName := ⟨RX7, "clear", "()V"⟩
abbrev cX7_add : ByteArray := prog_9_method_3_code
def yX7_add : MethodName := ⟨RX7, "add", "(I)V"⟩
abbrev cX7_blend : ByteArray := prog_9_method_4_code
def yX7_blend : MethodName := ⟨RX7, "blend", "(I)V"⟩
abbrev cX7_thin : ByteArray := prog_9_method_5_code
def yX7_thin : MethodName := ⟨RX7, "thin", "(LLsmStore$Views;Z)V"⟩
abbrev cX7_withoutRemoves : ByteArray := prog_9_method_6_code
def yX7_withoutRemoves : MethodName := ⟨RX7, "withoutRemoves", "(I)I"⟩
abbrev cX7_firstSeen : ByteArray := prog_9_method_7_code
def yX7_firstSeen : MethodName := ⟨RX7, "firstSeen", "(II)I"⟩
abbrev cX7_hasNewer : ByteArray := prog_9_method_8_code
def yX7_hasNewer : MethodName := ⟨RX7, "hasNewer", "(II)Z"⟩
def RX8 : String := "LsmStore$Table"
def TX8 : u_T := fun k => match k with
  | 0 => ("LsmStore$Table", "disk", "LLsmStore$Disk;", true)
  | 1 => ("LsmStore$Table", "blocks", "[I", true)
  | 2 => ("LsmStore$Table", "count", "I", false)
  | 3 => ("LsmStore$Table", "last", "I", false)
  | _ => ("LsmStore$Table", "used", "Z", false)
def tyX8 : Nat → FieldType := fun k => match k with
  | 0 => .object "LsmStore$Disk"
  | 1 => .array .int
  | 2 => .int
  | 3 => .int
  | _ => .boolean
abbrev wsX80 : List Cond := u_ws RX8 TX8 5
theorem nmX8 : ∀ a, a < 5 → ∀ b, b < 5 → a ≠ b → (TX8 a).2.1 ≠ (TX8 b).2.1 := by decide +kernel
theorem tyX8_ok : ∀ k, k < 5 → parseFieldDescriptor (TX8 k).2.2.1 = some (tyX8 k) := by decide +kernel
abbrev cX8_init : ByteArray := prog_10_method_1_code
def yX8_init : MethodName := ⟨RX8, "<init>", "(LLsmStore$Disk;)V"⟩
abbrev cX8_start : ByteArray := prog_10_method_2_code
def yX8_start : MethodName := ⟨RX8, "start", "()V"⟩
abbrev cX8_addBlock : ByteArray := prog_10_method_3_code
def yX8_addBlock : MethodName := ⟨RX8, "addBlock", "(I)V"⟩
abbrev cX8_close : ByteArray := prog_10_method_4_code
def yX8_close : MethodName := ⟨RX8, "close", "()V"⟩
abbrev cX8_isSmall : ByteArray := prog_10_method_5_code
def yX8_isSmall : MethodName := ⟨RX8, "isSmall", "()Z"⟩
abbrev cX8_startOf : ByteArray := prog_10_method_6_code
def yX8_startOf : MethodName := ⟨RX8, "startOf", "(I)I"⟩
abbrev cX8_following : ByteArray := prog_10_method_7_code
def yX8_following : MethodName := ⟨RX8, "following", "(I)I"⟩
abbrev cX8_lastBefore : ByteArray := prog_10_method_8_code
def yX8_lastBefore : MethodName := ⟨RX8, "lastBefore", "(LLsmStore$Row;I)I"⟩
abbrev cX8_allows : ByteArray := prog_10_method_9_code
def yX8_allows : MethodName := ⟨RX8, "allows", "([BII)Z"⟩
abbrev cX8_faults : ByteArray := prog_10_method_10_code
def yX8_faults : MethodName := ⟨RX8, "faults", "()I"⟩
abbrev cX8_hash : ByteArray := prog_10_method_11_code
def yX8_hash : MethodName := ⟨RX8, "hash", "([BII)I"⟩
abbrev cX8_strideOf : ByteArray := prog_10_method_12_code
def yX8_strideOf : MethodName := ⟨RX8, "strideOf", "(I)I"⟩
def RX9 : String := "LsmStore$Views"
def TX9 : u_T := fun k => match k with
  | _ => ("LsmStore$Views", "commits", "[I", true)
def tyX9 : Nat → FieldType := fun k => match k with
  | _ => .array .int
abbrev wsX90 : List Cond := u_ws RX9 TX9 1
theorem nmX9 : ∀ a, a < 1 → ∀ b, b < 1 → a ≠ b → (TX9 a).2.1 ≠ (TX9 b).2.1 := by decide +kernel
theorem tyX9_ok : ∀ k, k < 1 → parseFieldDescriptor (TX9 k).2.2.1 = some (tyX9 k) := by decide +kernel
abbrev cX9_init : ByteArray := prog_11_method_1_code
def yX9_init : MethodName := ⟨RX9, "<init>", "()V"⟩
abbrev cX9_take : ByteArray := prog_11_method_2_code
def yX9_take : MethodName := ⟨RX9, "take", "(I)I"⟩
abbrev cX9_has : ByteArray := prog_11_method_3_code
def yX9_has : MethodName := ⟨RX9, "has", "(I)Z"⟩
abbrev cX9_drop : ByteArray := prog_11_method_4_code
def yX9_drop : MethodName := ⟨RX9, "drop", "(I)V"⟩
abbrev cX9_clear : ByteArray := prog_11_method_5_code
def yX9_clear : MethodName := ⟨RX9, "clear", "()V"⟩
abbrev cX9_bits : ByteArray := prog_11_method_6_code
def yX9_bits : MethodName := ⟨RX9, "bits", "()I"⟩
abbrev cX9_see : ByteArray := prog_11_method_7_code
def yX9_see : MethodName := ⟨RX9, "see", "(II)Z"⟩
def RX10 : String := "LsmStore$Writer"
def TX10 : u_T := fun k => match k with
  | 0 => ("LsmStore$Writer", "disk", "LLsmStore$Disk;", true)
  | 1 => ("LsmStore$Writer", "files", "LLsmStore$Files;", true)
  | 2 => ("LsmStore$Writer", "block", "[B", true)
  | 3 => ("LsmStore$Writer", "filter", "[B", true)
  | 4 => ("LsmStore$Writer", "made", "[LLsmStore$Table;", true)
  | 5 => ("LsmStore$Writer", "count", "I", false)
  | 6 => ("LsmStore$Writer", "started", "I", false)
  | _ => ("LsmStore$Writer", "fill", "I", false)
def tyX10 : Nat → FieldType := fun k => match k with
  | 0 => .object "LsmStore$Disk"
  | 1 => .object "LsmStore$Files"
  | 2 => .array .byte
  | 3 => .array .byte
  | 4 => .array (.object "LsmStore$Table")
  | 5 => .int
  | 6 => .int
  | _ => .int
abbrev wsX100 : List Cond := u_ws RX10 TX10 8
theorem nmX10 : ∀ a, a < 8 → ∀ b, b < 8 → a ≠ b → (TX10 a).2.1 ≠ (TX10 b).2.1 := by decide +kernel
theorem tyX10_ok : ∀ k, k < 8 → parseFieldDescriptor (TX10 k).2.2.1 = some (tyX10 k) := by decide +kernel
abbrev cX10_init : ByteArray := prog_12_method_1_code
def yX10_init : MethodName := ⟨RX10, "<init>", "(LLsmStore$Disk;LLsmStore$Files;)V"⟩
abbrev cX10_stepTo : ByteArray := prog_12_method_2_code
def yX10_stepTo : MethodName := ⟨RX10, "stepTo", "(LLsmStore$Rows;I)I"⟩
abbrev cX10_advance : ByteArray := prog_12_method_3_code
def yX10_advance : MethodName := ⟨RX10, "advance", "(II)V"⟩
abbrev cX10_hasRoom : ByteArray := prog_12_method_4_code
def yX10_hasRoom : MethodName := ⟨RX10, "hasRoom", "(LLsmStore$Rows;)Z"⟩
abbrev cX10_store : ByteArray := prog_12_method_5_code
def yX10_store : MethodName := ⟨RX10, "store", "(LLsmStore$Rows;)V"⟩
abbrev cX10_open : ByteArray := prog_12_method_6_code
def yX10_open : MethodName := ⟨RX10, "open", "(I)V"⟩
abbrev cX10_copyEntry : ByteArray := prog_12_method_7_code
def yX10_copyEntry : MethodName := ⟨RX10, "copyEntry", "(I)V"⟩
abbrev cX10_current : ByteArray := prog_12_method_8_code
def yX10_current : MethodName := ⟨RX10, "current", "()LLsmStore$Table;"⟩
abbrev cX10_closeTable : ByteArray := prog_12_method_9_code
def yX10_closeTable : MethodName := ⟨RX10, "closeTable", "()V"⟩
abbrev cX10_writeOut : ByteArray := prog_12_method_10_code
def yX10_writeOut : MethodName := ⟨RX10, "writeOut", "([B)V"⟩
def RX11 : String := "LsmStore"
def TX11 : u_T := fun k => match k with
  | 0 => ("LsmStore", "disk", "LLsmStore$Disk;", true)
  | 1 => ("LsmStore", "theKey", "LLsmStore$Row;", true)
  | 2 => ("LsmStore", "theValue", "LLsmStore$Row;", true)
  | 3 => ("LsmStore", "probe", "LLsmStore$Row;", true)
  | 4 => ("LsmStore", "batch", "LLsmStore$Batch;", true)
  | 5 => ("LsmStore", "views", "LLsmStore$Views;", true)
  | 6 => ("LsmStore", "log", "LLsmStore$Log;", true)
  | 7 => ("LsmStore", "files", "LLsmStore$Files;", true)
  | 8 => ("LsmStore", "levels", "[LLsmStore$Level;", true)
  | 9 => ("LsmStore", "rows", "LLsmStore$Rows;", true)
  | 10 => ("LsmStore", "writer", "LLsmStore$Writer;", true)
  | 11 => ("LsmStore", "head", "LLsmStore$Head;", true)
  | 12 => ("LsmStore", "size", "I", false)
  | 13 => ("LsmStore", "keys", "I", false)
  | 14 => ("LsmStore", "commits", "I", false)
  | 15 => ("LsmStore", "nextSize", "I", false)
  | 16 => ("LsmStore", "nextKeys", "I", false)
  | _ => ("LsmStore", "turn", "I", false)
def tyX11 : Nat → FieldType := fun k => match k with
  | 0 => .object "LsmStore$Disk"
  | 1 => .object "LsmStore$Row"
  | 2 => .object "LsmStore$Row"
  | 3 => .object "LsmStore$Row"
  | 4 => .object "LsmStore$Batch"
  | 5 => .object "LsmStore$Views"
  | 6 => .object "LsmStore$Log"
  | 7 => .object "LsmStore$Files"
  | 8 => .array (.object "LsmStore$Level")
  | 9 => .object "LsmStore$Rows"
  | 10 => .object "LsmStore$Writer"
  | 11 => .object "LsmStore$Head"
  | 12 => .int
  | 13 => .int
  | 14 => .int
  | 15 => .int
  | 16 => .int
  | _ => .int
abbrev wsX110 : List Cond := u_ws RX11 TX11 18
theorem nmX11 : ∀ a, a < 18 → ∀ b, b < 18 → a ≠ b → (TX11 a).2.1 ≠ (TX11 b).2.1 := by decide +kernel
theorem tyX11_ok : ∀ k, k < 18 → parseFieldDescriptor (TX11 k).2.2.1 = some (tyX11 k) := by decide +kernel
abbrev cX11_init : ByteArray := prog_1_method_1_code
def yX11_init : MethodName := ⟨RX11, "<init>", "()V"⟩
abbrev cX11_key : ByteArray := prog_1_method_2_code
def yX11_key : MethodName := ⟨RX11, "key", "(JIZ)I"⟩
abbrev cX11_value : ByteArray := prog_1_method_3_code
def yX11_value : MethodName := ⟨RX11, "value", "(JIZ)I"⟩
abbrev cX11_begin : ByteArray := prog_1_method_4_code
def yX11_begin : MethodName := ⟨RX11, "begin", "()V"⟩
abbrev cX11_put : ByteArray := prog_1_method_5_code
def yX11_put : MethodName := ⟨RX11, "put", "()I"⟩
abbrev cX11_remove : ByteArray := prog_1_method_6_code
def yX11_remove : MethodName := ⟨RX11, "remove", "()I"⟩
abbrev cX11_commit : ByteArray := prog_1_method_7_code
def yX11_commit : MethodName := ⟨RX11, "commit", "()I"⟩
abbrev cX11_cancel : ByteArray := prog_1_method_8_code
def yX11_cancel : MethodName := ⟨RX11, "cancel", "()I"⟩
abbrev cX11_snapshot : ByteArray := prog_1_method_9_code
def yX11_snapshot : MethodName := ⟨RX11, "snapshot", "()I"⟩
abbrev cX11_release : ByteArray := prog_1_method_10_code
def yX11_release : MethodName := ⟨RX11, "release", "(I)V"⟩
abbrev cX11_get : ByteArray := prog_1_method_11_code
def yX11_get : MethodName := ⟨RX11, "get", "(I)I"⟩
abbrev cX11_seek : ByteArray := prog_1_method_12_code
def yX11_seek : MethodName := ⟨RX11, "seek", "(IZ)I"⟩
abbrev cX11_before : ByteArray := prog_1_method_13_code
def yX11_before : MethodName := ⟨RX11, "before", "(I)I"⟩
abbrev cX11_bytes : ByteArray := prog_1_method_14_code
def yX11_bytes : MethodName := ⟨RX11, "bytes", "(ZI)J"⟩
abbrev cX11_flush : ByteArray := prog_1_method_15_code
def yX11_flush : MethodName := ⟨RX11, "flush", "()V"⟩
abbrev cX11_compact : ByteArray := prog_1_method_16_code
def yX11_compact : MethodName := ⟨RX11, "compact", "()V"⟩
abbrev cX11_power : ByteArray := prog_1_method_17_code
def yX11_power : MethodName := ⟨RX11, "power", "(III)V"⟩
abbrev cX11_reopen : ByteArray := prog_1_method_18_code
def yX11_reopen : MethodName := ⟨RX11, "reopen", "()I"⟩
abbrev cX11_told : ByteArray := prog_1_method_19_code
def yX11_told : MethodName := ⟨RX11, "told", "(I)I"⟩
abbrev cX11_digest : ByteArray := prog_1_method_20_code
def yX11_digest : MethodName := ⟨RX11, "digest", "(I)J"⟩
abbrev cX11_check : ByteArray := prog_1_method_21_code
def yX11_check : MethodName := ⟨RX11, "check", "()I"⟩
abbrev cX11_requireOn : ByteArray := prog_1_method_22_code
def yX11_requireOn : MethodName := ⟨RX11, "requireOn", "()V"⟩
abbrev cX11_requireBatch : ByteArray := prog_1_method_23_code
def yX11_requireBatch : MethodName := ⟨RX11, "requireBatch", "()V"⟩
abbrev cX11_viewOf : ByteArray := prog_1_method_24_code
def yX11_viewOf : MethodName := ⟨RX11, "viewOf", "(I)I"⟩
abbrev cX11_addStep : ByteArray := prog_1_method_25_code
def yX11_addStep : MethodName := ⟨RX11, "addStep", "(I)V"⟩
abbrev cX11_finish : ByteArray := prog_1_method_26_code
def yX11_finish : MethodName := ⟨RX11, "finish", "()I"⟩
abbrev cX11_weigh : ByteArray := prog_1_method_27_code
def yX11_weigh : MethodName := ⟨RX11, "weigh", "()V"⟩
abbrev cX11_take : ByteArray := prog_1_method_28_code
def yX11_take : MethodName := ⟨RX11, "take", "(I)I"⟩
abbrev cX11_find : ByteArray := prog_1_method_29_code
def yX11_find : MethodName := ⟨RX11, "find", "(LLsmStore$Row;I)I"⟩
abbrev cX11_nearest : ByteArray := prog_1_method_30_code
def yX11_nearest : MethodName := ⟨RX11, "nearest", "(II)I"⟩
abbrev cX11_nearestBefore : ByteArray := prog_1_method_31_code
def yX11_nearestBefore : MethodName := ⟨RX11, "nearestBefore", "(I)I"⟩
abbrev cX11_firstFrom : ByteArray := prog_1_method_32_code
def yX11_firstFrom : MethodName := ⟨RX11, "firstFrom", "(LLsmStore$Row;I)I"⟩
abbrev cX11_lastBefore : ByteArray := prog_1_method_33_code
def yX11_lastBefore : MethodName := ⟨RX11, "lastBefore", "(LLsmStore$Row;)I"⟩
abbrev cX11_load : ByteArray := prog_1_method_34_code
def yX11_load : MethodName := ⟨RX11, "load", "()V"⟩
abbrev cX11_recount : ByteArray := prog_1_method_35_code
def yX11_recount : MethodName := ⟨RX11, "recount", "()V"⟩
abbrev cX11_settle : ByteArray := prog_1_method_36_code
def yX11_settle : MethodName := ⟨RX11, "settle", "(I)V"⟩
abbrev cX11_pickNone : ByteArray := prog_1_method_37_code
def yX11_pickNone : MethodName := ⟨RX11, "pickNone", "()V"⟩
abbrev cX11_join : ByteArray := prog_1_method_38_code
def yX11_join : MethodName := ⟨RX11, "join", "(IZ)Z"⟩
abbrev cX11_gatherAll : ByteArray := prog_1_method_39_code
def yX11_gatherAll : MethodName := ⟨RX11, "gatherAll", "()V"⟩
abbrev cX11_gather : ByteArray := prog_1_method_40_code
def yX11_gather : MethodName := ⟨RX11, "gather", "(Z)V"⟩
def RX12 : String := "LsmStoreModel"
def TX12 : u_T := fun k => match k with
  | 0 => ("LsmStoreModel", "key", "[B", true)
  | 1 => ("LsmStoreModel", "value", "[B", true)
  | 2 => ("LsmStoreModel", "keys", "I", false)
  | 3 => ("LsmStoreModel", "values", "I", false)
  | 4 => ("LsmStoreModel", "map", "[B", true)
  | 5 => ("LsmStoreModel", "next", "[B", true)
  | 6 => ("LsmStoreModel", "snap", "[B", true)
  | 7 => ("LsmStoreModel", "used", "I", false)
  | 8 => ("LsmStoreModel", "nextUsed", "I", false)
  | 9 => ("LsmStoreModel", "snapUsed", "[I", true)
  | 10 => ("LsmStoreModel", "snaps", "I", false)
  | 11 => ("LsmStoreModel", "batch", "[B", true)
  | 12 => ("LsmStoreModel", "batchUsed", "I", false)
  | 13 => ("LsmStoreModel", "batched", "I", false)
  | 14 => ("LsmStoreModel", "isOpen", "Z", false)
  | 15 => ("LsmStoreModel", "isOff", "Z", false)
  | 16 => ("LsmStoreModel", "commits", "I", false)
  | 17 => ("LsmStoreModel", "when", "I", false)
  | _ => ("LsmStoreModel", "thrown", "I", false)
def tyX12 : Nat → FieldType := fun k => match k with
  | 0 => .array .byte
  | 1 => .array .byte
  | 2 => .int
  | 3 => .int
  | 4 => .array .byte
  | 5 => .array .byte
  | 6 => .array .byte
  | 7 => .int
  | 8 => .int
  | 9 => .array .int
  | 10 => .int
  | 11 => .array .byte
  | 12 => .int
  | 13 => .int
  | 14 => .boolean
  | 15 => .boolean
  | 16 => .int
  | 17 => .int
  | _ => .int
abbrev wsX120 : List Cond := u_ws RX12 TX12 19
theorem nmX12 : ∀ a, a < 19 → ∀ b, b < 19 → a ≠ b → (TX12 a).2.1 ≠ (TX12 b).2.1 := by decide +kernel
theorem tyX12_ok : ∀ k, k < 19 → parseFieldDescriptor (TX12 k).2.2.1 = some (tyX12 k) := by decide +kernel
abbrev cX12_init : ByteArray := prog_14_method_1_code
def yX12_init : MethodName := ⟨RX12, "<init>", "()V"⟩
abbrev cX12_thrown : ByteArray := prog_14_method_2_code
def yX12_thrown : MethodName := ⟨RX12, "thrown", "()I"⟩
abbrev cX12_behind : ByteArray := prog_14_method_3_code
def yX12_behind : MethodName := ⟨RX12, "behind", "([BI)I"⟩
abbrev cX12_size : ByteArray := prog_14_method_4_code
def yX12_size : MethodName := ⟨RX12, "size", "([BII)I"⟩
abbrev cX12_many : ByteArray := prog_14_method_5_code
def yX12_many : MethodName := ⟨RX12, "many", "([BII)I"⟩
abbrev cX12_compare : ByteArray := prog_14_method_6_code
def yX12_compare : MethodName := ⟨RX12, "compare", "([BI[BII)I"⟩
abbrev cX12_set : ByteArray := prog_14_method_7_code
def yX12_set : MethodName := ⟨RX12, "set", "([BII[BII)V"⟩
abbrev cX12_begun : ByteArray := prog_14_method_8_code
def yX12_begun : MethodName := ⟨RX12, "begun", "()V"⟩
abbrev cX12_done : ByteArray := prog_14_method_9_code
def yX12_done : MethodName := ⟨RX12, "done", "()I"⟩
abbrev cX12_failed : ByteArray := prog_14_method_10_code
def yX12_failed : MethodName := ⟨RX12, "failed", "()I"⟩
abbrev cX12_fall : ByteArray := prog_14_method_11_code
def yX12_fall : MethodName := ⟨RX12, "fall", "()V"⟩
abbrev cX12_lost : ByteArray := prog_14_method_12_code
def yX12_lost : MethodName := ⟨RX12, "lost", "()V"⟩
abbrev cX12_key : ByteArray := prog_14_method_13_code
def yX12_key : MethodName := ⟨RX12, "key", "(JIZ)I"⟩
abbrev cX12_value : ByteArray := prog_14_method_14_code
def yX12_value : MethodName := ⟨RX12, "value", "(JIZ)I"⟩
abbrev cX12_begin : ByteArray := prog_14_method_15_code
def yX12_begin : MethodName := ⟨RX12, "begin", "()V"⟩
abbrev cX12_change : ByteArray := prog_14_method_16_code
def yX12_change : MethodName := ⟨RX12, "change", "(Z)I"⟩
abbrev cX12_put : ByteArray := prog_14_method_17_code
def yX12_put : MethodName := ⟨RX12, "put", "()I"⟩
abbrev cX12_remove : ByteArray := prog_14_method_18_code
def yX12_remove : MethodName := ⟨RX12, "remove", "()I"⟩
abbrev cX12_commit : ByteArray := prog_14_method_19_code
def yX12_commit : MethodName := ⟨RX12, "commit", "()I"⟩
abbrev cX12_cancel : ByteArray := prog_14_method_20_code
def yX12_cancel : MethodName := ⟨RX12, "cancel", "()I"⟩
abbrev cX12_snapshot : ByteArray := prog_14_method_21_code
def yX12_snapshot : MethodName := ⟨RX12, "snapshot", "()I"⟩
abbrev cX12_isThere : ByteArray := prog_14_method_22_code
def yX12_isThere : MethodName := ⟨RX12, "isThere", "(I)Z"⟩
abbrev cX12_release : ByteArray := prog_14_method_23_code
def yX12_release : MethodName := ⟨RX12, "release", "(I)V"⟩
abbrev cX12_rowOf : ByteArray := prog_14_method_24_code
def yX12_rowOf : MethodName := ⟨RX12, "rowOf", "(I)[B"⟩
abbrev cX12_from : ByteArray := prog_14_method_25_code
def yX12_from : MethodName := ⟨RX12, "from", "(I)I"⟩
abbrev cX12_end : ByteArray := prog_14_method_26_code
def yX12_end : MethodName := ⟨RX12, "end", "(I)I"⟩
abbrev cX12_taken : ByteArray := prog_14_method_27_code
def yX12_taken : MethodName := ⟨RX12, "taken", "([BIZ)V"⟩
abbrev cX12_get : ByteArray := prog_14_method_28_code
def yX12_get : MethodName := ⟨RX12, "get", "(I)I"⟩
abbrev cX12_seek : ByteArray := prog_14_method_29_code
def yX12_seek : MethodName := ⟨RX12, "seek", "(IZ)I"⟩
abbrev cX12_before : ByteArray := prog_14_method_30_code
def yX12_before : MethodName := ⟨RX12, "before", "(I)I"⟩
abbrev cX12_bytes : ByteArray := prog_14_method_31_code
def yX12_bytes : MethodName := ⟨RX12, "bytes", "(ZI)J"⟩
abbrev cX12_works : ByteArray := prog_14_method_32_code
def yX12_works : MethodName := ⟨RX12, "works", "()V"⟩
abbrev cX12_flush : ByteArray := prog_14_method_33_code
def yX12_flush : MethodName := ⟨RX12, "flush", "()V"⟩
abbrev cX12_compact : ByteArray := prog_14_method_34_code
def yX12_compact : MethodName := ⟨RX12, "compact", "()V"⟩
abbrev cX12_power : ByteArray := prog_14_method_35_code
def yX12_power : MethodName := ⟨RX12, "power", "(III)V"⟩
abbrev cX12_reopen : ByteArray := prog_14_method_36_code
def yX12_reopen : MethodName := ⟨RX12, "reopen", "()I"⟩
abbrev cX12_told : ByteArray := prog_14_method_37_code
def yX12_told : MethodName := ⟨RX12, "told", "(I)I"⟩
abbrev cX12_digest : ByteArray := prog_14_method_38_code
def yX12_digest : MethodName := ⟨RX12, "digest", "(I)J"⟩
abbrev cX12_check : ByteArray := prog_14_method_39_code
def yX12_check : MethodName := ⟨RX12, "check", "()I"⟩
def RJ9 : String := "java/lang/Math"
def TJ9 : u_T := fun k => match k with
  | _ => ("", "", "", false)
def tyJ9 : Nat → FieldType := fun k => match k with
  | _ => .int
abbrev wsJ90 : List Cond := u_ws RJ9 TJ9 0
theorem nmJ9 : ∀ a, a < 0 → ∀ b, b < 0 → a ≠ b → (TJ9 a).2.1 ≠ (TJ9 b).2.1 := by decide +kernel
theorem tyJ9_ok : ∀ k, k < 0 → parseFieldDescriptor (TJ9 k).2.2.1 = some (tyJ9 k) := by decide +kernel
abbrev cJ9_floorMod_7cf53 : ByteArray := prog_19_method_50_code
def yJ9_floorMod_7cf53 : MethodName := ⟨RJ9, "floorMod", "(II)I"⟩
abbrev cJ9_max_7cf53 : ByteArray := prog_19_method_65_code
def yJ9_max_7cf53 : MethodName := ⟨RJ9, "max", "(II)I"⟩
abbrev cJ9_min_7cf53 : ByteArray := prog_19_method_69_code
def yJ9_min_7cf53 : MethodName := ⟨RJ9, "min", "(II)I"⟩
def RJ0 : String := "java/lang/String"
def TJ0 : u_T := fun k => match k with
  | _ => ("", "", "", false)
def tyJ0 : Nat → FieldType := fun k => match k with
  | _ => .int
abbrev wsJ00 : List Cond := u_ws RJ0 TJ0 0
theorem nmJ0 : ∀ a, a < 0 → ∀ b, b < 0 → a ≠ b → (TJ0 a).2.1 ≠ (TJ0 b).2.1 := by decide +kernel
theorem tyJ0_ok : ∀ k, k < 0 → parseFieldDescriptor (TJ0 k).2.2.1 = some (tyJ0 k) := by decide +kernel
def RJ10 : String := "java/lang/System"
def TJ10 : u_T := fun k => match k with
  | _ => ("", "", "", false)
def tyJ10 : Nat → FieldType := fun k => match k with
  | _ => .int
abbrev wsJ100 : List Cond := u_ws RJ10 TJ10 0
theorem nmJ10 : ∀ a, a < 0 → ∀ b, b < 0 → a ≠ b → (TJ10 a).2.1 ≠ (TJ10 b).2.1 := by decide +kernel
theorem tyJ10_ok : ∀ k, k < 0 → parseFieldDescriptor (TJ10 k).2.2.1 = some (tyJ10 k) := by decide +kernel
def RJ7 : String := "java/util/Arrays"
def TJ7 : u_T := fun k => match k with
  | _ => ("", "", "", false)
def tyJ7 : Nat → FieldType := fun k => match k with
  | _ => .int
abbrev wsJ70 : List Cond := u_ws RJ7 TJ7 0
theorem nmJ7 : ∀ a, a < 0 → ∀ b, b < 0 → a ≠ b → (TJ7 a).2.1 ≠ (TJ7 b).2.1 := by decide +kernel
theorem tyJ7_ok : ∀ k, k < 0 → parseFieldDescriptor (TJ7 k).2.2.1 = some (tyJ7 k) := by decide +kernel
abbrev cJ7_fill_031fb : ByteArray := prog_24_method_109_code
def yJ7_fill_031fb : MethodName := ⟨RJ7, "fill", "([BB)V"⟩
def RL : String := "LsmStoreLaw"
abbrev cL_key : ByteArray := method_3_code
def yL_key : MethodName := ⟨RL, "key", "(LLsmStore;JIZ[J)I"⟩
abbrev cL_value : ByteArray := method_4_code
def yL_value : MethodName := ⟨RL, "value", "(LLsmStore;JIZ[J)I"⟩
abbrev cL_begin : ByteArray := method_5_code
def yL_begin : MethodName := ⟨RL, "begin", "(LLsmStore;)I"⟩
abbrev cL_put : ByteArray := method_6_code
def yL_put : MethodName := ⟨RL, "put", "(LLsmStore;[J)I"⟩
abbrev cL_remove : ByteArray := method_7_code
def yL_remove : MethodName := ⟨RL, "remove", "(LLsmStore;[J)I"⟩
abbrev cL_commit : ByteArray := method_8_code
def yL_commit : MethodName := ⟨RL, "commit", "(LLsmStore;[J)I"⟩
abbrev cL_cancel : ByteArray := method_9_code
def yL_cancel : MethodName := ⟨RL, "cancel", "(LLsmStore;[J)I"⟩
abbrev cL_snapshot : ByteArray := method_10_code
def yL_snapshot : MethodName := ⟨RL, "snapshot", "(LLsmStore;[J)I"⟩
abbrev cL_release : ByteArray := method_11_code
def yL_release : MethodName := ⟨RL, "release", "(LLsmStore;I)I"⟩
abbrev cL_get : ByteArray := method_12_code
def yL_get : MethodName := ⟨RL, "get", "(LLsmStore;I[J)I"⟩
abbrev cL_seek : ByteArray := method_13_code
def yL_seek : MethodName := ⟨RL, "seek", "(LLsmStore;IZ[J)I"⟩
abbrev cL_before : ByteArray := method_14_code
def yL_before : MethodName := ⟨RL, "before", "(LLsmStore;I[J)I"⟩
abbrev cL_bytes : ByteArray := method_15_code
def yL_bytes : MethodName := ⟨RL, "bytes", "(LLsmStore;ZI[J)I"⟩
abbrev cL_flush : ByteArray := method_16_code
def yL_flush : MethodName := ⟨RL, "flush", "(LLsmStore;)I"⟩
abbrev cL_compact : ByteArray := method_17_code
def yL_compact : MethodName := ⟨RL, "compact", "(LLsmStore;)I"⟩
abbrev cL_power : ByteArray := method_18_code
def yL_power : MethodName := ⟨RL, "power", "(LLsmStore;III)I"⟩
abbrev cL_reopen : ByteArray := method_19_code
def yL_reopen : MethodName := ⟨RL, "reopen", "(LLsmStore;[J)I"⟩
abbrev cL_told : ByteArray := method_20_code
def yL_told : MethodName := ⟨RL, "told", "(LLsmStore;I[J)I"⟩
abbrev cL_digest : ByteArray := method_21_code
def yL_digest : MethodName := ⟨RL, "digest", "(LLsmStore;I[J)I"⟩
abbrev cL_check : ByteArray := method_22_code
def yL_check : MethodName := ⟨RL, "check", "(LLsmStore;[J)I"⟩
abbrev cL_law : ByteArray := code
def yL_law : MethodName := ⟨RL, "law", "([I)Z"⟩
abbrev vwCl : List vw_C := [(RX0, TX0, 5), (RX1, TX1, 8), (RX2, TX2, 8), (RX3, TX3, 7), (RX4, TX4, 6), (RX5, TX5, 7), (RX6, TX6, 2), (RX7, TX7, 5), (RX8, TX8, 5), (RX9, TX9, 1), (RX10, TX10, 8), (RX11, TX11, 18), (RX12, TX12, 19)]
end
section
/-! ===== THE CORE: one memory for the whole system, one judgement zw ('from here the method comes to Q'), its rows ===== -/
/-- fields of ints (field, address), fields of references, rows of ints, rows of references, rows of longs, the kind of each address (0: none; c + 1: an object of vwCl's class c; 14 byte[], 15 int[], 16 boolean[], 17 long[], 18 Level[], 19 Table[]), lengths, cells and slots made so far -/
abbrev zM : Type := (Nat → Nat → Int32) × (Nat → Nat → Option Nat) × (Nat → Nat → Int32) × (Nat → Nat → Option Nat) × (Nat → Nat → Int64) × (Nat → Nat) × (Nat → Nat) × Nat × Nat
def zI (M : zM) : Nat → Nat → Int32 := M.1
def zR (M : zM) : Nat → Nat → Option Nat := M.2.1
def zA (M : zM) : Nat → Nat → Int32 := M.2.2.1
def zB (M : zM) : Nat → Nat → Option Nat := M.2.2.2.1
def zJ (M : zM) : Nat → Nat → Int64 := M.2.2.2.2.1
def zK (M : zM) : Nat → Nat := M.2.2.2.2.2.1
def zN (M : zM) : Nat → Nat := M.2.2.2.2.2.2.1
def zC (M : zM) : Nat := M.2.2.2.2.2.2.2.1
def zS (M : zM) : Nat := M.2.2.2.2.2.2.2.2
def zput (M : zM) (f a : Nat) (v : Int32) : zM := (fun x y => if x = f ∧ y = a then v else zI M x y, M.2)
def zputR (M : zM) (f a : Nat) (v : Option Nat) : zM := (M.1, fun x y => if x = f ∧ y = a then v else zR M x y, M.2.2)
def zsetA (M : zM) (a : Nat) (g : Nat → Int32) : zM := (M.1, M.2.1, va_up (zA M) a g, M.2.2.2)
def zsetB (M : zM) (a : Nat) (g : Nat → Option Nat) : zM := (M.1, M.2.1, M.2.2.1, va_up (zB M) a g, M.2.2.2.2)
def zsetJ (M : zM) (a : Nat) (g : Nat → Int64) : zM := (M.1, M.2.1, M.2.2.1, M.2.2.2.1, va_up (zJ M) a g, M.2.2.2.2.2)
def znewO (M : zM) (a c n : Nat) : zM := (fun x y => if y = a then 0 else zI M x y, fun x y => if y = a then none else zR M x y, zA M, zB M, zJ M, va_up (zK M) a (c + 1), zN M, zC M + 1, zS M + n)
def znewA (M : zM) (a κ n : Nat) : zM := (zI M, zR M, va_up (zA M) a (fun _ => 0), va_up (zB M) a (fun _ => none), va_up (zJ M) a (fun _ => 0), va_up (zK M) a κ, va_up (zN M) a n, zC M + 1, zS M + n)
def zthr (M : zM) : zM := (zI M, zR M, zA M, zB M, zJ M, zK M, zN M, zC M + 1, zS M + 6)
-- the classes
def zRX (c : Nat) : String := match c with | 0 => RX0 | 1 => RX1 | 2 => RX2 | 3 => RX3 | 4 => RX4 | 5 => RX5 | 6 => RX6 | 7 => RX7 | 8 => RX8 | 9 => RX9 | 10 => RX10 | 11 => RX11 | _ => RX12
def zTX (c : Nat) : u_T := match c with | 0 => TX0 | 1 => TX1 | 2 => TX2 | 3 => TX3 | 4 => TX4 | 5 => TX5 | 6 => TX6 | 7 => TX7 | 8 => TX8 | 9 => TX9 | 10 => TX10 | 11 => TX11 | _ => TX12
def zty (c : Nat) : Nat → FieldType := match c with | 0 => tyX0 | 1 => tyX1 | 2 => tyX2 | 3 => tyX3 | 4 => tyX4 | 5 => tyX5 | 6 => tyX6 | 7 => tyX7 | 8 => tyX8 | 9 => tyX9 | 10 => tyX10 | 11 => tyX11 | _ => tyX12
def zn (c : Nat) : Nat := match c with | 0 => 5 | 1 => 8 | 2 => 8 | 3 => 7 | 4 => 6 | 5 => 7 | 6 => 2 | 7 => 5 | 8 => 5 | 9 => 1 | 10 => 8 | 11 => 18 | _ => 19
theorem zc_cases {P : Nat → Prop} (h0 : P 0) (h1 : P 1) (h2 : P 2) (h3 : P 3) (h4 : P 4) (h5 : P 5) (h6 : P 6) (h7 : P 7) (h8 : P 8) (h9 : P 9) (h10 : P 10) (h11 : P 11) (h12 : P 12) : ∀ c, c < 13 → P c := by
  intro c hc
  match c, hc with
  | 0, _ => exact h0
  | 1, _ => exact h1
  | 2, _ => exact h2
  | 3, _ => exact h3
  | 4, _ => exact h4
  | 5, _ => exact h5
  | 6, _ => exact h6
  | 7, _ => exact h7
  | 8, _ => exact h8
  | 9, _ => exact h9
  | 10, _ => exact h10
  | 11, _ => exact h11
  | 12, _ => exact h12
  | k + 13, h => omega
theorem zc_cl : ∀ c, c < 13 → vwCl[c]? = some (zRX c, zTX c, zn c) := zc_cases rfl rfl rfl rfl rfl rfl rfl rfl rfl rfl rfl rfl rfl
theorem zc_ty : ∀ c, c < 13 → ∀ k, k < zn c → parseFieldDescriptor (zTX c k).2.2.1 = some (zty c k) := zc_cases tyX0_ok tyX1_ok tyX2_ok tyX3_ok tyX4_ok tyX5_ok tyX6_ok tyX7_ok tyX8_ok tyX9_ok tyX10_ok tyX11_ok tyX12_ok
theorem zc_nm : ∀ c, c < 13 → ∀ a, a < zn c → ∀ b, b < zn c → a ≠ b → (zTX c a).2.1 ≠ (zTX c b).2.1 := zc_cases nmX0 nmX1 nmX2 nmX3 nmX4 nmX5 nmX6 nmX7 nmX8 nmX9 nmX10 nmX11 nmX12
theorem zc_own : ∀ c, c < 13 → ∀ k, k < zn c → (zTX c k).1 = zRX c := by
  refine zc_cases ?_ ?_ ?_ ?_ ?_ ?_ ?_ ?_ ?_ ?_ ?_ ?_ ?_ <;> decide +kernel
theorem zc_in : ∀ c, c < 13 → ∀ w ∈ u_ws (zRX c) (zTX c) (zn c), w ∈ lw_tbl := by
  refine zc_cases ?_ ?_ ?_ ?_ ?_ ?_ ?_ ?_ ?_ ?_ ?_ ?_ ?_ <;> decide +kernel
/-- words that hold on, however warm the tables get -/
def zgw : Cond → Bool
  | .fieldLinkNest _ _ _ _ _ _ => true
  | .methodLinkNest _ _ _ _ => true
  | .castable _ _ => true
  | .arrayOver (.object _) => true
  | .declares _ => true
  | w => goodWord w
theorem zgw_warm {w : Cond} (h : zgw w = true) {s U : State} (hW : s.WarmedH U.vm) (hz : va_Nw w s) : va_Nw w U := by
  unfold zgw at h
  split at h
  · exact va_Nw.warmF hW hz
  · exact va_Nw.warmM hW hz
  · exact va_Nw.warmC hW hz
  · exact va_AO.moved hW.alike hz
  · exact va_Nw.warmD hW hz
  · exact word_at hW (good_of_word h) hz
theorem zgw_use {w : Cond} (h : zgw w = true) {s : State} (hz : va_Nw w s) (a : Array Value) : w.before a s = true := by
  unfold zgw at h
  split at h
  · exact va_Nw.use rfl hz
  · exact va_Nw.use rfl hz
  · exact va_Nw.use rfl hz
  · exact hz
  · exact va_Nw.use rfl hz
  · exact word_at (State.WarmedH.refl s) (good_of_word h) hz
theorem zc_gw : ∀ c, c < 13 → ∀ w ∈ u_ws (zRX c) (zTX c) (zn c), zgw w = true := by
  refine zc_cases ?_ ?_ ?_ ?_ ?_ ?_ ?_ ?_ ?_ ?_ ?_ ?_ ?_ <;> decide +kernel
def zref (t : FieldType) : Bool := match t with | .array _ => true | .object _ => true | _ => false
def zfld (c : Nat) (M : zM) (a k : Nat) : Value := if zref (zty c k) = true then va_rf (zR M (c * 32 + k) a) else .int (zI M (c * 32 + k) a)
def zflds (c : Nat) (M : zM) (a : Nat) : List Value := (List.range (zn c)).map (zfld c M a)
/-- what stands at an address -/
def zE (ids : Nat → ClassId) (M : zM) (a : Nat) : va_E :=
  if zK M a = 14 then .inl (ids 0, zN M a, .inl (zA M a))
  else if zK M a = 15 then .inl (ids 1, zN M a, .inl (zA M a))
  else if zK M a = 16 then .inl (ids 2, zN M a, .inl (zA M a))
  else if zK M a = 17 then .inl (ids 3, zN M a, .inr (.inl (zJ M a)))
  else if zK M a = 18 then .inl (ids 4, zN M a, .inr (.inr (.inr (.inr (zB M a)))))
  else if zK M a = 19 then .inl (ids 5, zN M a, .inr (.inr (.inr (.inr (zB M a)))))
  else .inr (zK M a - 1, zflds (zK M a - 1) M a)
def zTys (ids : Nat → ClassId) : List (ClassId × FieldType) := [(ids 0, .byte), (ids 1, .int), (ids 2, .boolean), (ids 3, .long), (ids 4, .object RX4), (ids 5, .object RX8)]
/-- what is fixed while the law runs: the launch, the classes' numbers, the array classes, how large the heap was at the law's start, where LEVEL_FULL lies, the script, the String constants -/
abbrev zG : Type := Launch × va_G × (Nat → ClassId) × Nat × Nat × (Nat × Nat × (Nat → Int32)) × (Nat → Nat)
def gL (G : zG) : Launch := G.1
def gD (G : zG) : va_G := G.2.1
def gi (G : zG) : Nat → ClassId := G.2.2.1
def gh (G : zG) : Nat := G.2.2.2.1
def gf (G : zG) : Nat := G.2.2.2.2.1
def gb (G : zG) : Nat := G.2.2.2.2.2.1.1
def gn (G : zG) : Nat := G.2.2.2.2.2.1.2.1
def gx (G : zG) : Nat → Int32 := G.2.2.2.2.2.1.2.2
def gs (G : zG) : Nat → Nat := G.2.2.2.2.2.2
def gA (G : zG) : Nat → Prop := fun q => gh G ≤ q
def zlf : Nat → Int32 := fun j => if j = 0 then 10 else 25
/-- the String constants of the throws: class, entry, text -/
def zstr : List (String × Nat × String) := [(RX1, 44, "power failed"), (RX11, 97, "a key takes 0 to 8 bytes at once, 32 in all"), (RX11, 106, "a value takes 0 to 8 bytes at once, 200 in all"), (RX11, 117, "a batch is open"), (RX11, 144, "there are eight snapshots"), (RX11, 152, "no such snapshot"), (RX11, 184, "a byte's place is 0 to 200"), (RX11, 209, "when is 0 to 3, k 0 to 400, b 0 to 300"), (RX11, 236, "what is told is 0 to 7"), (RX11, 264, "it is off"), (RX11, 266, "no batch is open"), (RX11, 270, "the key is empty"), (RX11, 272, "the batch is full"), (RX11, 284, "the map would be larger than 16000"), (RX11, 290, "the disk is full")]
def zW (G : zG) (M : zM) (H : Heap) : Prop := ∃ L : List Nat, (∀ a, a ∈ L ↔ zK M a ≠ 0) ∧ va_P (gD G) vwCl (va_pl L (zE (gi G) M)) H ∧ va_D (gA G) (va_pl L (zE (gi G) M)) ∧ (∀ a i, zK M a = 14 → fits .byte (.int (zA M a i)) = true) ∧ ∀ a, zN M a < 2 ^ 31
/-- what holds of the tables and of the old heap, all the while -/
def zO (G : zG) (U : State) (H : Heap) : Prop :=
  (∀ w ∈ lw_tbl, zgw w = true → va_Nw w U) ∧ va_K (gD G) vwCl (zTys (gi G)) U ∧ va_Z "LsmStore" "LEVEL_FULL" "[I" (.ref (gf G)) (gA G) U H ∧
  va_X (gb G) (gn G) (gx G) U H ∧ va_X (gf G) 2 zlf U H ∧ vx_Zq Bundle.tN "UNASSIGNED_STACK" Bundle.steD (gA G) U H ∧ vx_Zq Bundle.tN "SUPPRESSED_SENTINEL" Bundle.listD (gA G) U H ∧
  (∀ (k : Nat) (q : String × Nat × String), zstr[k]? = some q → vk_R q.1 q.2.1 q.2.2 (gs G k) U) ∧ gh G ≤ H.size ∧ gb G < gh G ∧ gf G < gh G ∧ (gL G).stackTraces = false
theorem zO.moved {G : zG} {u U : State} {H H1 : Heap} (hW : u.WarmedH U.vm) (hq : H.size ≤ H1.size ∧ ∀ q : Nat, q < H.size → ¬ gA G q → H1[q]? = H[q]?) (h : zO G u H) : zO G U H1 := by
  obtain ⟨h1, h2, h3, h4, h5, h6, h7, h8, h9, h10, h11, h12⟩ := h
  have hvm := hW.alike
  refine ⟨fun w hw hg => zgw_warm hg hW (h1 w hw hg), va_K.moved hvm h2, va_Z.moved hvm (h3.kept hq.2), va_X.moved hvm (h4.kept (hq.2 _ (by omega) (Nat.not_le.mpr h10))), va_X.moved hvm (h5.kept (hq.2 _ (by omega) (Nat.not_le.mpr h11))), vx_Zq.moved hvm (h6.kept hq.2), vx_Zq.moved hvm (h7.kept hq.2), fun k q hk => vk_R.warm hW (h8 k q hk), by omega, h10, h11, h12⟩
/-- a method: its name, its code, its locals, what it returns, its table -/
abbrev zD : Type := MethodName × ByteArray × Nat × Option FieldType × List (Nat × Nat × Nat × Nat)
def zBd (G : zG) (md : zD) (p : Program) (s : State) (m : MethodId) (meth : Method) (c : Code) : Prop :=
  p.tables.exec = Jvm.exec ∧ c.code = md.2.1 ∧ meth.sig.returnType = md.2.2.2.1 ∧ meth.locks = false ∧ c.maxLocals = md.2.2.1 ∧ s.vm.findClass md.1.cls = some m.cls ∧ meth.name = md.1.name ∧ c.exceptionTable.toList = tableOf md.2.2.2.2 ∧ zO G s s.heap
def zlv (ls : Array Slot) (n : Nat) (lv : List (Option Value)) : Prop := ls.size = n ∧ lv_wf ls ∧ ∀ (i : Nat) (v : Value), lv[i]? = some (some v) → ls[i]? = some (.val v)
/-- how a method ends: it returns, or throws an exception of a class -/
abbrev zOut : Type := Option Value ⊕ Nat
def zex (k : Nat) : String := match k with | 0 => "java/lang/IllegalStateException" | 1 => "java/lang/IllegalArgumentException" | 2 => "java/lang/ArithmeticException" | _ => "java/util/NoSuchElementException"
def zOk (s : State) (r : zOut) (o : Outcome) (t : State) : Prop := match r with
  | .inl v => o = .returned v
  | .inr k => ∃ (q : Addr) (ce : Cell), o = .threw q ∧ t.heap[q]? = some ce ∧ ce.vm = .none ∧ s.vm.findClass (zex k) = some ce.cls
def zQ (G : zG) (k0 n0 : Nat) (Q : zOut → zM → Prop) (s : State) (o : Outcome) (t : State) : Prop :=
  ∃ (r : zOut) (M' : zM) (Ls : List Loc), zOk s r o t ∧ Q r M' ∧ zW G M' t.heap ∧ k0 ≤ zC M' ∧ n0 ≤ zS M' ∧ s.WarmedH t.vm ∧ s.sameButNew ({ t with vm := s.vm } : State) Ls (zC M' - k0) (zS M' - n0) ∧ ∀ z ∈ Ls, gh G ≤ z.base
def zZ (G : zG) (k0 n0 : Nat) (Q : zOut → zM → Prop) (below : List Frame) (s : State) : State → Prop := fun t => ∃ o, t.status = .running ∧ Ended t below o ∧ zQ G k0 n0 Q s o t
/-- FROM HERE (program counter, locals, operand stack, memory) THE METHOD COMES TO Q -/
def zw (G : zG) (md : zD) (d k0 n0 : Nat) (Q : zOut → zM → Prop) (pc : Nat) (lv : List (Option Value)) (st : List Value) (M : zM) : Prop :=
  ∀ (p : Program) (e : Env) (R : Room) (s : State) (m : MethodId) (args : Array Value) (below : List Frame) (meth : Method) (c : Code) (H : Heap) (locs : List Loc) (ls : Array Slot),
    zBd G md p s m meth c → (d ≤ R.frames ∧ 38 * d ≤ R.locals ∧ 600128 ≤ k0 + R.cells ∧ 7301098 ≤ n0 + R.slots) → (k0 ≤ zC M ∧ n0 ≤ zS M) → zW G M H → va_S (gA G) s.heap H locs → zlv ls md.2.2.1 lv →
    W p (gL G) e R s m args below meth c H locs (zC M - k0) (zS M - n0) (zZ G k0 n0 Q below s) (F0 m pc ls st)
end
section
/-! ===== ROWS of zw: an instruction each ===== -/
section ZR
variable {G : zG} {md : zD} {d k0 n0 : Nat} {Q : zOut → zM → Prop} {pc : Nat} {lv : List (Option Value)} {st : List Value} {M : zM}
theorem zr_iconst {n : Int} {v : Int32} (hd : decode md.2.1 pc = .ok (.iconst n, 1)) (hv : Int32.ofInt n = v) (k : zw G md d k0 n0 Q (pc + 1) lv (.int v :: st) M) : zw G md d k0 n0 Q pc lv (st) M := by
  intro p e R s m args below meth c H locs ls B hr hm hw hS hl
  exact lv_iconst B.1 B.2.1 hd hv (k p e R s m args below meth c H locs ls B hr hm hw hS hl)
theorem zr_bipush {n : Int} {v : Int32} (hd : decode md.2.1 pc = .ok (.bipush n, 2)) (hv : (Int8.ofInt n).toInt32 = v) (k : zw G md d k0 n0 Q (pc + 2) lv (.int v :: st) M) : zw G md d k0 n0 Q pc lv (st) M := by
  intro p e R s m args below meth c H locs ls B hr hm hw hS hl
  exact lv_bipush B.1 B.2.1 hd hv (k p e R s m args below meth c H locs ls B hr hm hw hS hl)
theorem zr_sipush {n : Int} {v : Int32} (hd : decode md.2.1 pc = .ok (.sipush n, 3)) (hv : (Int16.ofInt n).toInt32 = v) (k : zw G md d k0 n0 Q (pc + 3) lv (.int v :: st) M) : zw G md d k0 n0 Q pc lv (st) M := by
  intro p e R s m args below meth c H locs ls B hr hm hw hS hl
  exact lv_sipush B.1 B.2.1 hd hv (k p e R s m args below meth c H locs ls B hr hm hw hS hl)
theorem zr_lconst {n : Fin 2} {v : Int64} (hd : decode md.2.1 pc = .ok (.lconst n, 1)) (hv : Int64.ofNat (n : Nat) = v) (k : zw G md d k0 n0 Q (pc + 1) lv (.long v :: st) M) : zw G md d k0 n0 Q pc lv (st) M := by
  intro p e R s m args below meth c H locs ls B hr hm hw hS hl
  exact lv_lconst B.1 B.2.1 hd hv (k p e R s m args below meth c H locs ls B hr hm hw hS hl)
theorem zr_null (hd : decode md.2.1 pc = .ok (.aconst_null, 1)) (k : zw G md d k0 n0 Q (pc + 1) lv (.null :: st) M) : zw G md d k0 n0 Q pc lv (st) M := by
  intro p e R s m args below meth c H locs ls B hr hm hw hS hl
  exact lv_null B.1 B.2.1 hd (k p e R s m args below meth c H locs ls B hr hm hw hS hl)
theorem zr_iadd {x y : Int32} (hd : decode md.2.1 pc = .ok (.iadd, 1)) (k : zw G md d k0 n0 Q (pc + 1) lv (.int (x + y) :: st) M) : zw G md d k0 n0 Q pc lv (.int y :: .int x :: st) M := by
  intro p e R s m args below meth c H locs ls B hr hm hw hS hl
  exact lv_iadd B.1 B.2.1 hd (k p e R s m args below meth c H locs ls B hr hm hw hS hl)
theorem zr_isub {x y : Int32} (hd : decode md.2.1 pc = .ok (.isub, 1)) (k : zw G md d k0 n0 Q (pc + 1) lv (.int (x - y) :: st) M) : zw G md d k0 n0 Q pc lv (.int y :: .int x :: st) M := by
  intro p e R s m args below meth c H locs ls B hr hm hw hS hl
  exact lv_isub B.1 B.2.1 hd (k p e R s m args below meth c H locs ls B hr hm hw hS hl)
theorem zr_imul {x y : Int32} (hd : decode md.2.1 pc = .ok (.imul, 1)) (k : zw G md d k0 n0 Q (pc + 1) lv (.int (x * y) :: st) M) : zw G md d k0 n0 Q pc lv (.int y :: .int x :: st) M := by
  intro p e R s m args below meth c H locs ls B hr hm hw hS hl
  exact lv_imul B.1 B.2.1 hd (k p e R s m args below meth c H locs ls B hr hm hw hS hl)
theorem zr_iand {x y : Int32} (hd : decode md.2.1 pc = .ok (.iand, 1)) (k : zw G md d k0 n0 Q (pc + 1) lv (.int (x &&& y) :: st) M) : zw G md d k0 n0 Q pc lv (.int y :: .int x :: st) M := by
  intro p e R s m args below meth c H locs ls B hr hm hw hS hl
  exact lv_iand B.1 B.2.1 hd (k p e R s m args below meth c H locs ls B hr hm hw hS hl)
theorem zr_ior {x y : Int32} (hd : decode md.2.1 pc = .ok (.ior, 1)) (k : zw G md d k0 n0 Q (pc + 1) lv (.int (x ||| y) :: st) M) : zw G md d k0 n0 Q pc lv (.int y :: .int x :: st) M := by
  intro p e R s m args below meth c H locs ls B hr hm hw hS hl
  exact lv_ior B.1 B.2.1 hd (k p e R s m args below meth c H locs ls B hr hm hw hS hl)
theorem zr_ixor {x y : Int32} (hd : decode md.2.1 pc = .ok (.ixor, 1)) (k : zw G md d k0 n0 Q (pc + 1) lv (.int (x ^^^ y) :: st) M) : zw G md d k0 n0 Q pc lv (.int y :: .int x :: st) M := by
  intro p e R s m args below meth c H locs ls B hr hm hw hS hl
  exact lv_ixor B.1 B.2.1 hd (k p e R s m args below meth c H locs ls B hr hm hw hS hl)
theorem zr_ishl {x y : Int32} (hd : decode md.2.1 pc = .ok (.ishl, 1)) (k : zw G md d k0 n0 Q (pc + 1) lv (.int (x <<< (y &&& 31)) :: st) M) : zw G md d k0 n0 Q pc lv (.int y :: .int x :: st) M := by
  intro p e R s m args below meth c H locs ls B hr hm hw hS hl
  exact lv_ishl B.1 B.2.1 hd (k p e R s m args below meth c H locs ls B hr hm hw hS hl)
theorem zr_ishr {x y : Int32} (hd : decode md.2.1 pc = .ok (.ishr, 1)) (k : zw G md d k0 n0 Q (pc + 1) lv (.int (x >>> (y &&& 31)) :: st) M) : zw G md d k0 n0 Q pc lv (.int y :: .int x :: st) M := by
  intro p e R s m args below meth c H locs ls B hr hm hw hS hl
  exact lv_ishr B.1 B.2.1 hd (k p e R s m args below meth c H locs ls B hr hm hw hS hl)
theorem zr_iushr {x y : Int32} (hd : decode md.2.1 pc = .ok (.iushr, 1)) (k : zw G md d k0 n0 Q (pc + 1) lv (.int ((x.toUInt32 >>> (y.toUInt32 &&& Int32.toUInt32 31)).toInt32) :: st) M) : zw G md d k0 n0 Q pc lv (.int y :: .int x :: st) M := by
  intro p e R s m args below meth c H locs ls B hr hm hw hS hl
  exact lv_iushr B.1 B.2.1 hd rfl (k p e R s m args below meth c H locs ls B hr hm hw hS hl)
theorem zr_idiv {x y : Int32} (hd : decode md.2.1 pc = .ok (.idiv, 1)) (hne : ¬ y = 0) (k : zw G md d k0 n0 Q (pc + 1) lv (.int (x / y) :: st) M) : zw G md d k0 n0 Q pc lv (.int y :: .int x :: st) M := by
  intro p e R s m args below meth c H locs ls B hr hm hw hS hl
  exact lv_idiv B.1 B.2.1 hd hne (k p e R s m args below meth c H locs ls B hr hm hw hS hl)
theorem zr_irem {x y : Int32} (hd : decode md.2.1 pc = .ok (.irem, 1)) (hne : ¬ y = 0) (k : zw G md d k0 n0 Q (pc + 1) lv (.int (x - x / y * y) :: st) M) : zw G md d k0 n0 Q pc lv (.int y :: .int x :: st) M := by
  intro p e R s m args below meth c H locs ls B hr hm hw hS hl
  exact lv_irem B.1 B.2.1 hd hne (k p e R s m args below meth c H locs ls B hr hm hw hS hl)
theorem zr_ladd {x y : Int64} (hd : decode md.2.1 pc = .ok (.ladd, 1)) (k : zw G md d k0 n0 Q (pc + 1) lv (.long (x + y) :: st) M) : zw G md d k0 n0 Q pc lv (.long y :: .long x :: st) M := by
  intro p e R s m args below meth c H locs ls B hr hm hw hS hl
  exact lv_ladd B.1 B.2.1 hd (k p e R s m args below meth c H locs ls B hr hm hw hS hl)
theorem zr_lmul {x y : Int64} (hd : decode md.2.1 pc = .ok (.lmul, 1)) (k : zw G md d k0 n0 Q (pc + 1) lv (.long (x * y) :: st) M) : zw G md d k0 n0 Q pc lv (.long y :: .long x :: st) M := by
  intro p e R s m args below meth c H locs ls B hr hm hw hS hl
  exact lv_lmul B.1 B.2.1 hd (k p e R s m args below meth c H locs ls B hr hm hw hS hl)
theorem zr_land {x y : Int64} (hd : decode md.2.1 pc = .ok (.land, 1)) (k : zw G md d k0 n0 Q (pc + 1) lv (.long (x &&& y) :: st) M) : zw G md d k0 n0 Q pc lv (.long y :: .long x :: st) M := by
  intro p e R s m args below meth c H locs ls B hr hm hw hS hl
  exact lv_land B.1 B.2.1 hd (k p e R s m args below meth c H locs ls B hr hm hw hS hl)
theorem zr_lor {x y : Int64} (hd : decode md.2.1 pc = .ok (.lor, 1)) (k : zw G md d k0 n0 Q (pc + 1) lv (.long (x ||| y) :: st) M) : zw G md d k0 n0 Q pc lv (.long y :: .long x :: st) M := by
  intro p e R s m args below meth c H locs ls B hr hm hw hS hl
  exact lv_lor B.1 B.2.1 hd (k p e R s m args below meth c H locs ls B hr hm hw hS hl)
theorem zr_lshl {x : Int64} {y : Int32} (hd : decode md.2.1 pc = .ok (.lshl, 1)) (k : zw G md d k0 n0 Q (pc + 1) lv (.long (x <<< (y.toInt64 &&& 63)) :: st) M) : zw G md d k0 n0 Q pc lv (.int y :: .long x :: st) M := by
  intro p e R s m args below meth c H locs ls B hr hm hw hS hl
  exact lv_lshl B.1 B.2.1 hd rfl (k p e R s m args below meth c H locs ls B hr hm hw hS hl)
theorem zr_lshr {x : Int64} {y : Int32} (hd : decode md.2.1 pc = .ok (.lshr, 1)) (k : zw G md d k0 n0 Q (pc + 1) lv (.long (x >>> (y.toInt64 &&& 63)) :: st) M) : zw G md d k0 n0 Q pc lv (.int y :: .long x :: st) M := by
  intro p e R s m args below meth c H locs ls B hr hm hw hS hl
  exact lv_lshr B.1 B.2.1 hd rfl (k p e R s m args below meth c H locs ls B hr hm hw hS hl)
theorem zr_i2l {x : Int32} (hd : decode md.2.1 pc = .ok (.i2l, 1)) (k : zw G md d k0 n0 Q (pc + 1) lv (.long x.toInt64 :: st) M) : zw G md d k0 n0 Q pc lv (.int x :: st) M := by
  intro p e R s m args below meth c H locs ls B hr hm hw hS hl
  exact lv_i2l B.1 B.2.1 hd rfl (k p e R s m args below meth c H locs ls B hr hm hw hS hl)
theorem zr_l2i {x : Int64} (hd : decode md.2.1 pc = .ok (.l2i, 1)) (k : zw G md d k0 n0 Q (pc + 1) lv (.int x.toInt32 :: st) M) : zw G md d k0 n0 Q pc lv (.long x :: st) M := by
  intro p e R s m args below meth c H locs ls B hr hm hw hS hl
  exact lv_l2i B.1 B.2.1 hd rfl (k p e R s m args below meth c H locs ls B hr hm hw hS hl)
theorem zr_i2b {x : Int32} (hd : decode md.2.1 pc = .ok (.i2b, 1)) (k : zw G md d k0 n0 Q (pc + 1) lv (.int x.toInt8.toInt32 :: st) M) : zw G md d k0 n0 Q pc lv (.int x :: st) M := by
  intro p e R s m args below meth c H locs ls B hr hm hw hS hl
  exact lv_i2b B.1 B.2.1 hd rfl (k p e R s m args below meth c H locs ls B hr hm hw hS hl)
theorem zr_lcmp {x y : Int64} (hd : decode md.2.1 pc = .ok (.lcmp, 1)) (k : zw G md d k0 n0 Q (pc + 1) lv (.int (lg_cmp x y) :: st) M) : zw G md d k0 n0 Q pc lv (.long y :: .long x :: st) M := by
  intro p e R s m args below meth c H locs ls B hr hm hw hS hl
  exact W.lcmp B.1 B.2.1 hd (k p e R s m args below meth c H locs ls B hr hm hw hS hl)
theorem zr_dup {a : Value} (hd : decode md.2.1 pc = .ok (.dup, 1)) (ha : a.category = 1) (k : zw G md d k0 n0 Q (pc + 1) lv (a :: a :: st) M) : zw G md d k0 n0 Q pc lv (a :: st) M := by
  intro p e R s m args below meth c H locs ls B hr hm hw hS hl
  exact lv_dup B.1 B.2.1 hd ha (k p e R s m args below meth c H locs ls B hr hm hw hS hl)
theorem zr_pop {a : Value} (hd : decode md.2.1 pc = .ok (.pop, 1)) (ha : a.category = 1) (k : zw G md d k0 n0 Q (pc + 1) lv (st) M) : zw G md d k0 n0 Q pc lv (a :: st) M := by
  intro p e R s m args below meth c H locs ls B hr hm hw hS hl
  exact lv_pop B.1 B.2.1 hd ha (k p e R s m args below meth c H locs ls B hr hm hw hS hl)
theorem zr_dup_x1 {a b : Value} (hd : decode md.2.1 pc = .ok (.dup_x1, 1)) (ha : a.category = 1) (hb : b.category = 1) (k : zw G md d k0 n0 Q (pc + 1) lv (a :: b :: a :: st) M) : zw G md d k0 n0 Q pc lv (a :: b :: st) M := by
  intro p e R s m args below meth c H locs ls B hr hm hw hS hl
  exact lv_dup_x1 B.1 B.2.1 hd ha hb (k p e R s m args below meth c H locs ls B hr hm hw hS hl)
theorem zr_dup2 {a b : Value} (hd : decode md.2.1 pc = .ok (.dup2, 1)) (ha : a.category = 1) (hb : b.category = 1) (k : zw G md d k0 n0 Q (pc + 1) lv (a :: b :: a :: b :: st) M) : zw G md d k0 n0 Q pc lv (a :: b :: st) M := by
  intro p e R s m args below meth c H locs ls B hr hm hw hS hl
  exact lv_dup2_11 B.1 B.2.1 hd ha hb (k p e R s m args below meth c H locs ls B hr hm hw hS hl)
theorem zr_iload_n {i : Fin 4} {x : Int32} (hd : decode md.2.1 pc = .ok (.iload_n i, 1)) (hx : lv[(i : Nat)]? = some (some (.int x))) (k : zw G md d k0 n0 Q (pc + 1) lv (.int x :: st) M) : zw G md d k0 n0 Q pc lv (st) M := by
  intro p e R s m args below meth c H locs ls B hr hm hw hS hl
  exact lv_iload_n B.1 B.2.1 hd rfl (hl.2.2 _ _ hx) (k p e R s m args below meth c H locs ls B hr hm hw hS hl)
theorem zr_iload {i : Nat} {x : Int32} (hd : decode md.2.1 pc = .ok (.iload i, 2)) (hx : lv[i]? = some (some (.int x))) (k : zw G md d k0 n0 Q (pc + 2) lv (.int x :: st) M) : zw G md d k0 n0 Q pc lv (st) M := by
  intro p e R s m args below meth c H locs ls B hr hm hw hS hl
  exact lv_iload B.1 B.2.1 hd (hl.2.2 _ _ hx) (k p e R s m args below meth c H locs ls B hr hm hw hS hl)
theorem zr_lload_n {i : Fin 4} {x : Int64} (hd : decode md.2.1 pc = .ok (.lload_n i, 1)) (hx : lv[(i : Nat)]? = some (some (.long x))) (k : zw G md d k0 n0 Q (pc + 1) lv (.long x :: st) M) : zw G md d k0 n0 Q pc lv (st) M := by
  intro p e R s m args below meth c H locs ls B hr hm hw hS hl
  exact lv_lload_n B.1 B.2.1 hd rfl (hl.2.2 _ _ hx) (k p e R s m args below meth c H locs ls B hr hm hw hS hl)
theorem zr_lload {i : Nat} {x : Int64} (hd : decode md.2.1 pc = .ok (.lload i, 2)) (hx : lv[i]? = some (some (.long x))) (k : zw G md d k0 n0 Q (pc + 2) lv (.long x :: st) M) : zw G md d k0 n0 Q pc lv (st) M := by
  intro p e R s m args below meth c H locs ls B hr hm hw hS hl
  exact lv_lload B.1 B.2.1 hd (hl.2.2 _ _ hx) (k p e R s m args below meth c H locs ls B hr hm hw hS hl)
theorem zr_aload_n {i : Fin 4} {x : Nat} (hd : decode md.2.1 pc = .ok (.aload_n i, 1)) (hx : lv[(i : Nat)]? = some (some (.ref x))) (k : zw G md d k0 n0 Q (pc + 1) lv (.ref x :: st) M) : zw G md d k0 n0 Q pc lv (st) M := by
  intro p e R s m args below meth c H locs ls B hr hm hw hS hl
  exact lv_aload_n B.1 B.2.1 hd rfl (hl.2.2 _ _ hx) (k p e R s m args below meth c H locs ls B hr hm hw hS hl)
theorem zr_aload {i : Nat} {x : Nat} (hd : decode md.2.1 pc = .ok (.aload i, 2)) (hx : lv[i]? = some (some (.ref x))) (k : zw G md d k0 n0 Q (pc + 2) lv (.ref x :: st) M) : zw G md d k0 n0 Q pc lv (st) M := by
  intro p e R s m args below meth c H locs ls B hr hm hw hS hl
  exact lv_aload B.1 B.2.1 hd (hl.2.2 _ _ hx) (k p e R s m args below meth c H locs ls B hr hm hw hS hl)
theorem zr_aload_nN {i : Fin 4} (hd : decode md.2.1 pc = .ok (.aload_n i, 1)) (hx : lv[(i : Nat)]? = some (some .null)) (k : zw G md d k0 n0 Q (pc + 1) lv (.null :: st) M) : zw G md d k0 n0 Q pc lv (st) M := by
  intro p e R s m args below meth c H locs ls B hr hm hw hS hl
  exact lv_aload_nN B.1 B.2.1 hd rfl (hl.2.2 _ _ hx) (k p e R s m args below meth c H locs ls B hr hm hw hS hl)
theorem zr_aloadN {i : Nat} (hd : decode md.2.1 pc = .ok (.aload i, 2)) (hx : lv[i]? = some (some .null)) (k : zw G md d k0 n0 Q (pc + 2) lv (.null :: st) M) : zw G md d k0 n0 Q pc lv (st) M := by
  intro p e R s m args below meth c H locs ls B hr hm hw hS hl
  exact lv_aloadN B.1 B.2.1 hd (hl.2.2 _ _ hx) (k p e R s m args below meth c H locs ls B hr hm hw hS hl)
/-- no long ends where this local begins -/
def zc1 (lv : List (Option Value)) (i : Nat) : Bool := match i with
  | 0 => true
  | j + 1 => match lv[j]? with
    | some (some w) => w.category != 2
    | _ => true
def zas (n : Nat) (lv : List (Option Value)) : List (Nat × Value) := (List.range n).filterMap (fun j => match lv[j]? with | some (some w) => some (j, w) | _ => none)
theorem zas_mem {n : Nat} {lv : List (Option Value)} {j : Nat} {w : Value} : (j, w) ∈ zas n lv ↔ j < n ∧ lv[j]? = some (some w) := by
  unfold zas
  rw [List.mem_filterMap]
  constructor
  · rintro ⟨k, hk, h⟩
    split at h
    · rename_i w' e
      simp only [Option.some.injEq, Prod.mk.injEq] at h
      obtain ⟨rfl, rfl⟩ := h
      exact ⟨List.mem_range.mp hk, e⟩
    · cases h
  · rintro ⟨h1, h2⟩
    exact ⟨j, List.mem_range.mpr h1, by simp [h2]⟩
theorem zlv.has {ls : Array Slot} {n : Nat} {lv : List (Option Value)} (h : zlv ls n lv) : lv_has ls n (zas n lv) := ⟨h.1, h.2.1, fun q hq => h.2.2 q.1 q.2 (zas_mem.mp hq).2⟩
theorem zlv.st1 {ls : Array Slot} {n i : Nat} {v : Value} {lv lv' : List (Option Value)} (hlen : lv.length ≤ n) (hc : zc1 lv i = true) (he : lv.set i (some v) = lv') (h : lv_has ls n ((i, v) :: (zas n lv).filter (fun q => !(q.1 == i) && !(q.1 + 1 == i && q.2.category == 2)))) : zlv ls n lv' := by
  refine ⟨h.1, h.2.1, fun j w hj => ?_⟩
  subst he
  by_cases e : i = j
  · subst e
    by_cases hi : i < lv.length
    · rw [List.getElem?_set_self hi] at hj
      cases hj
      exact h.2.2 (i, v) List.mem_cons_self
    · rw [List.getElem?_eq_none (by rw [List.length_set]; omega)] at hj
      cases hj
  · rw [List.getElem?_set_ne e] at hj
    have hjl : j < lv.length := (List.getElem?_eq_some_iff.mp hj).1
    refine h.2.2 (j, w) (List.mem_cons_of_mem _ (List.mem_filter.mpr ⟨zas_mem.mpr ⟨by omega, hj⟩, ?_⟩))
    simp only [Bool.and_eq_true, Bool.not_eq_true', beq_eq_false_iff_ne, Bool.and_eq_false_iff, ne_eq]
    refine ⟨fun z => e z.symm, ?_⟩
    by_cases e2 : j + 1 = i
    · subst e2
      right
      simp only [zc1, hj, bne_iff_ne, ne_eq] at hc
      exact hc
    · exact Or.inl e2
theorem zlv.st2 {ls : Array Slot} {n i : Nat} {v : Value} {lv lv' : List (Option Value)} (hlen : lv.length ≤ n) (hc : zc1 lv i = true) (he : (lv.set i (some v)).set (i + 1) none = lv') (h : lv_has ls n ((i, v) :: (zas n lv).filter (fun q => !(q.1 == i) && (!(q.1 == i + 1) && !(q.1 + 1 == i && q.2.category == 2))))) : zlv ls n lv' := by
  refine ⟨h.1, h.2.1, fun j w hj => ?_⟩
  subst he
  by_cases e1 : i + 1 = j
  · subst e1
    by_cases hi : i + 1 < lv.length
    · rw [List.getElem?_set_self (by rw [List.length_set]; exact hi)] at hj
      cases hj
    · rw [List.getElem?_eq_none (by rw [List.length_set, List.length_set]; omega)] at hj
      cases hj
  · rw [List.getElem?_set_ne e1] at hj
    by_cases e : i = j
    · subst e
      by_cases hi : i < lv.length
      · rw [List.getElem?_set_self hi] at hj
        cases hj
        exact h.2.2 (i, v) List.mem_cons_self
      · rw [List.getElem?_eq_none (by rw [List.length_set]; omega)] at hj
        cases hj
    · rw [List.getElem?_set_ne e] at hj
      have hjl : j < lv.length := (List.getElem?_eq_some_iff.mp hj).1
      refine h.2.2 (j, w) (List.mem_cons_of_mem _ (List.mem_filter.mpr ⟨zas_mem.mpr ⟨by omega, hj⟩, ?_⟩))
      simp only [Bool.and_eq_true, Bool.not_eq_true', beq_eq_false_iff_ne, Bool.and_eq_false_iff, ne_eq]
      refine ⟨fun z => e z.symm, fun z => e1 z.symm, ?_⟩
      by_cases e2 : j + 1 = i
      · subst e2
        right
        simp only [zc1, hj, bne_iff_ne, ne_eq] at hc
        exact hc
      · exact Or.inl e2
/-- less is known of the locals -/
theorem zr_forget {lv' : List (Option Value)} (hs : ∀ (i : Nat) (v : Value), lv'[i]? = some (some v) → lv[i]? = some (some v)) (k : zw G md d k0 n0 Q pc lv' st M) : zw G md d k0 n0 Q pc lv st M := by
  intro p e R s m args below meth c H locs ls B hr hm hw hS hl
  exact k p e R s m args below meth c H locs ls B hr hm hw hS ⟨hl.1, hl.2.1, fun i v h => hl.2.2 i v (hs i v h)⟩
/-- a local that is known no more -/
theorem zr_drop (i : Nat) {lv' : List (Option Value)} (he : lv.set i none = lv') (k : zw G md d k0 n0 Q pc lv' st M) : zw G md d k0 n0 Q pc lv st M := by
  refine zr_forget (fun j v h => ?_) k
  subst he
  by_cases e : i = j
  · subst e
    by_cases hi : i < lv.length
    · rw [List.getElem?_set_self hi] at h
      cases h
    · rw [List.getElem?_eq_none (by rw [List.length_set]; omega)] at h
      cases h
  · rw [List.getElem?_set_ne e] at h
    exact h
theorem zr_istore_n {i : Fin 4} {x : Int32} {lv' : List (Option Value)} (hd : decode md.2.1 pc = .ok (.istore_n i, 1)) (hlen : lv.length ≤ md.2.2.1) (hn : (i : Nat) < md.2.2.1) (hc : zc1 lv (i : Nat) = true) (he : lv.set (i : Nat) (some (.int x)) = lv') (k : zw G md d k0 n0 Q (pc + 1) lv' st M) : zw G md d k0 n0 Q pc lv (.int x :: st) M := by
  intro p e R s m args below meth c H locs ls B hr hm hw hS hl
  exact lv_istore_n B.1 B.2.1 hd rfl hl.has hn rfl (fun ls' h' => k p e R s m args below meth c H locs ls' B hr hm hw hS (zlv.st1 hlen hc he h'))
theorem zr_istore {i : Nat} {x : Int32} {lv' : List (Option Value)} (hd : decode md.2.1 pc = .ok (.istore i, 2)) (hlen : lv.length ≤ md.2.2.1) (hn : i < md.2.2.1) (hc : zc1 lv i = true) (he : lv.set i (some (.int x)) = lv') (k : zw G md d k0 n0 Q (pc + 2) lv' st M) : zw G md d k0 n0 Q pc lv (.int x :: st) M := by
  intro p e R s m args below meth c H locs ls B hr hm hw hS hl
  exact lv_istore B.1 B.2.1 hd hl.has hn rfl (fun ls' h' => k p e R s m args below meth c H locs ls' B hr hm hw hS (zlv.st1 hlen hc he h'))
theorem zr_lstore_n {i : Fin 4} {x : Int64} {lv' : List (Option Value)} (hd : decode md.2.1 pc = .ok (.lstore_n i, 1)) (hlen : lv.length ≤ md.2.2.1) (hn : (i : Nat) + 1 < md.2.2.1) (hc : zc1 lv (i : Nat) = true) (he : (lv.set (i : Nat) (some (.long x))).set ((i : Nat) + 1) none = lv') (k : zw G md d k0 n0 Q (pc + 1) lv' st M) : zw G md d k0 n0 Q pc lv (.long x :: st) M := by
  intro p e R s m args below meth c H locs ls B hr hm hw hS hl
  exact lv_lstore_n B.1 B.2.1 hd rfl hl.has hn rfl (fun ls' h' => k p e R s m args below meth c H locs ls' B hr hm hw hS (zlv.st2 hlen hc he h'))
theorem zr_lstore {i : Nat} {x : Int64} {lv' : List (Option Value)} (hd : decode md.2.1 pc = .ok (.lstore i, 2)) (hlen : lv.length ≤ md.2.2.1) (hn : i + 1 < md.2.2.1) (hc : zc1 lv i = true) (he : (lv.set i (some (.long x))).set (i + 1) none = lv') (k : zw G md d k0 n0 Q (pc + 2) lv' st M) : zw G md d k0 n0 Q pc lv (.long x :: st) M := by
  intro p e R s m args below meth c H locs ls B hr hm hw hS hl
  exact lv_lstore B.1 B.2.1 hd hl.has hn rfl (fun ls' h' => k p e R s m args below meth c H locs ls' B hr hm hw hS (zlv.st2 hlen hc he h'))
theorem zr_astore_n {i : Fin 4} {x : Nat} {lv' : List (Option Value)} (hd : decode md.2.1 pc = .ok (.astore_n i, 1)) (hlen : lv.length ≤ md.2.2.1) (hn : (i : Nat) < md.2.2.1) (hc : zc1 lv (i : Nat) = true) (he : lv.set (i : Nat) (some (.ref x)) = lv') (k : zw G md d k0 n0 Q (pc + 1) lv' st M) : zw G md d k0 n0 Q pc lv (.ref x :: st) M := by
  intro p e R s m args below meth c H locs ls B hr hm hw hS hl
  exact lv_astore_n B.1 B.2.1 hd rfl hl.has hn rfl (fun ls' h' => k p e R s m args below meth c H locs ls' B hr hm hw hS (zlv.st1 hlen hc he h'))
theorem zr_astore {i : Nat} {x : Nat} {lv' : List (Option Value)} (hd : decode md.2.1 pc = .ok (.astore i, 2)) (hlen : lv.length ≤ md.2.2.1) (hn : i < md.2.2.1) (hc : zc1 lv i = true) (he : lv.set i (some (.ref x)) = lv') (k : zw G md d k0 n0 Q (pc + 2) lv' st M) : zw G md d k0 n0 Q pc lv (.ref x :: st) M := by
  intro p e R s m args below meth c H locs ls B hr hm hw hS hl
  exact lv_astore B.1 B.2.1 hd hl.has hn rfl (fun ls' h' => k p e R s m args below meth c H locs ls' B hr hm hw hS (zlv.st1 hlen hc he h'))
theorem zr_astore_nN {i : Fin 4} {lv' : List (Option Value)} (hd : decode md.2.1 pc = .ok (.astore_n i, 1)) (hlen : lv.length ≤ md.2.2.1) (hn : (i : Nat) < md.2.2.1) (hc : zc1 lv (i : Nat) = true) (he : lv.set (i : Nat) (some (.null)) = lv') (k : zw G md d k0 n0 Q (pc + 1) lv' st M) : zw G md d k0 n0 Q pc lv (.null :: st) M := by
  intro p e R s m args below meth c H locs ls B hr hm hw hS hl
  exact lv_astore_nN B.1 B.2.1 hd rfl hl.has hn rfl (fun ls' h' => k p e R s m args below meth c H locs ls' B hr hm hw hS (zlv.st1 hlen hc he h'))
theorem zr_astoreN {i : Nat} {lv' : List (Option Value)} (hd : decode md.2.1 pc = .ok (.astore i, 2)) (hlen : lv.length ≤ md.2.2.1) (hn : i < md.2.2.1) (hc : zc1 lv i = true) (he : lv.set i (some (.null)) = lv') (k : zw G md d k0 n0 Q (pc + 2) lv' st M) : zw G md d k0 n0 Q pc lv (.null :: st) M := by
  intro p e R s m args below meth c H locs ls B hr hm hw hS hl
  exact lv_astoreN B.1 B.2.1 hd hl.has hn rfl (fun ls' h' => k p e R s m args below meth c H locs ls' B hr hm hw hS (zlv.st1 hlen hc he h'))
theorem zr_iinc {i : Nat} {n : Int} {x w : Int32} {lv' : List (Option Value)} (hd : decode md.2.1 pc = .ok (.iinc i n, 3)) (hlen : lv.length ≤ md.2.2.1) (hn : i < md.2.2.1) (hc : zc1 lv i = true) (hx : lv[i]? = some (some (.int x))) (hv : x + Int32.ofInt n = w) (he : lv.set i (some (.int w)) = lv') (k : zw G md d k0 n0 Q (pc + 3) lv' st M) : zw G md d k0 n0 Q pc lv st M := by
  intro p e R s m args below meth c H locs ls B hr hm hw hS hl
  obtain ⟨j, hj⟩ := List.getElem?_of_mem (zas_mem.mpr ⟨hn, hx⟩)
  exact lv_iinc B.1 B.2.1 hd hl.has hj hv hn rfl (fun ls' h' => k p e R s m args below meth c H locs ls' B hr hm hw hS (zlv.st1 hlen hc he h'))
theorem zr_iincW {i : Nat} {n : Int} {x w : Int32} {lv' : List (Option Value)} (hd : decode md.2.1 pc = .ok (.iinc i n, 6)) (hlen : lv.length ≤ md.2.2.1) (hn : i < md.2.2.1) (hc : zc1 lv i = true) (hx : lv[i]? = some (some (.int x))) (hv : x + Int32.ofInt n = w) (he : lv.set i (some (.int w)) = lv') (k : zw G md d k0 n0 Q (pc + 6) lv' st M) : zw G md d k0 n0 Q pc lv st M := by
  intro p e R s m args below meth c H locs ls B hr hm hw hS hl
  obtain ⟨j, hj⟩ := List.getElem?_of_mem (zas_mem.mpr ⟨hn, hx⟩)
  exact lv_iincW B.1 B.2.1 hd hl.has hj hv hn rfl (fun ls' h' => k p e R s m args below meth c H locs ls' B hr hm hw hS (zlv.st1 hlen hc he h'))
theorem zr_if_eq {x : Int32} {off : Int} (tgt : Nat) (hd : decode md.2.1 pc = .ok (.ifCond .eq off, 3)) (ht : (pc : Int) + off = (tgt : Int)) (k1 : x = 0 → zw G md d k0 n0 Q tgt lv st M) (k2 : ¬ x = 0 → zw G md d k0 n0 Q (pc + 3) lv st M) : zw G md d k0 n0 Q pc lv (.int x :: st) M := by
  intro p e R s m args below meth c H locs ls B hr hm hw hS hl
  exact lv_if_eq B.1 B.2.1 hd ht (fun q => k1 q p e R s m args below meth c H locs ls B hr hm hw hS hl) (fun q => k2 q p e R s m args below meth c H locs ls B hr hm hw hS hl)
theorem zr_icmp_eq {x y : Int32} {off : Int} (tgt : Nat) (hd : decode md.2.1 pc = .ok (.if_icmp .eq off, 3)) (ht : (pc : Int) + off = (tgt : Int)) (k1 : x = y → zw G md d k0 n0 Q tgt lv st M) (k2 : ¬ x = y → zw G md d k0 n0 Q (pc + 3) lv st M) : zw G md d k0 n0 Q pc lv (.int y :: .int x :: st) M := by
  intro p e R s m args below meth c H locs ls B hr hm hw hS hl
  exact lv_icmp_eq B.1 B.2.1 hd ht (fun q => k1 q p e R s m args below meth c H locs ls B hr hm hw hS hl) (fun q => k2 q p e R s m args below meth c H locs ls B hr hm hw hS hl)
theorem zr_if_ne {x : Int32} {off : Int} (tgt : Nat) (hd : decode md.2.1 pc = .ok (.ifCond .ne off, 3)) (ht : (pc : Int) + off = (tgt : Int)) (k1 : ¬ x = 0 → zw G md d k0 n0 Q tgt lv st M) (k2 : x = 0 → zw G md d k0 n0 Q (pc + 3) lv st M) : zw G md d k0 n0 Q pc lv (.int x :: st) M := by
  intro p e R s m args below meth c H locs ls B hr hm hw hS hl
  exact lv_if_ne B.1 B.2.1 hd ht (fun q => k1 q p e R s m args below meth c H locs ls B hr hm hw hS hl) (fun q => k2 q p e R s m args below meth c H locs ls B hr hm hw hS hl)
theorem zr_icmp_ne {x y : Int32} {off : Int} (tgt : Nat) (hd : decode md.2.1 pc = .ok (.if_icmp .ne off, 3)) (ht : (pc : Int) + off = (tgt : Int)) (k1 : ¬ x = y → zw G md d k0 n0 Q tgt lv st M) (k2 : x = y → zw G md d k0 n0 Q (pc + 3) lv st M) : zw G md d k0 n0 Q pc lv (.int y :: .int x :: st) M := by
  intro p e R s m args below meth c H locs ls B hr hm hw hS hl
  exact lv_icmp_ne B.1 B.2.1 hd ht (fun q => k1 q p e R s m args below meth c H locs ls B hr hm hw hS hl) (fun q => k2 q p e R s m args below meth c H locs ls B hr hm hw hS hl)
theorem zr_if_lt {x : Int32} {off : Int} (tgt : Nat) (hd : decode md.2.1 pc = .ok (.ifCond .lt off, 3)) (ht : (pc : Int) + off = (tgt : Int)) (k1 : x < 0 → zw G md d k0 n0 Q tgt lv st M) (k2 : ¬ x < 0 → zw G md d k0 n0 Q (pc + 3) lv st M) : zw G md d k0 n0 Q pc lv (.int x :: st) M := by
  intro p e R s m args below meth c H locs ls B hr hm hw hS hl
  exact lv_if_lt B.1 B.2.1 hd ht (fun q => k1 q p e R s m args below meth c H locs ls B hr hm hw hS hl) (fun q => k2 q p e R s m args below meth c H locs ls B hr hm hw hS hl)
theorem zr_icmp_lt {x y : Int32} {off : Int} (tgt : Nat) (hd : decode md.2.1 pc = .ok (.if_icmp .lt off, 3)) (ht : (pc : Int) + off = (tgt : Int)) (k1 : x < y → zw G md d k0 n0 Q tgt lv st M) (k2 : ¬ x < y → zw G md d k0 n0 Q (pc + 3) lv st M) : zw G md d k0 n0 Q pc lv (.int y :: .int x :: st) M := by
  intro p e R s m args below meth c H locs ls B hr hm hw hS hl
  exact lv_icmp_lt B.1 B.2.1 hd ht (fun q => k1 q p e R s m args below meth c H locs ls B hr hm hw hS hl) (fun q => k2 q p e R s m args below meth c H locs ls B hr hm hw hS hl)
theorem zr_if_ge {x : Int32} {off : Int} (tgt : Nat) (hd : decode md.2.1 pc = .ok (.ifCond .ge off, 3)) (ht : (pc : Int) + off = (tgt : Int)) (k1 : 0 ≤ x → zw G md d k0 n0 Q tgt lv st M) (k2 : ¬ 0 ≤ x → zw G md d k0 n0 Q (pc + 3) lv st M) : zw G md d k0 n0 Q pc lv (.int x :: st) M := by
  intro p e R s m args below meth c H locs ls B hr hm hw hS hl
  exact lv_if_ge B.1 B.2.1 hd ht (fun q => k1 q p e R s m args below meth c H locs ls B hr hm hw hS hl) (fun q => k2 q p e R s m args below meth c H locs ls B hr hm hw hS hl)
theorem zr_icmp_ge {x y : Int32} {off : Int} (tgt : Nat) (hd : decode md.2.1 pc = .ok (.if_icmp .ge off, 3)) (ht : (pc : Int) + off = (tgt : Int)) (k1 : y ≤ x → zw G md d k0 n0 Q tgt lv st M) (k2 : ¬ y ≤ x → zw G md d k0 n0 Q (pc + 3) lv st M) : zw G md d k0 n0 Q pc lv (.int y :: .int x :: st) M := by
  intro p e R s m args below meth c H locs ls B hr hm hw hS hl
  exact lv_icmp_ge B.1 B.2.1 hd ht (fun q => k1 q p e R s m args below meth c H locs ls B hr hm hw hS hl) (fun q => k2 q p e R s m args below meth c H locs ls B hr hm hw hS hl)
theorem zr_if_gt {x : Int32} {off : Int} (tgt : Nat) (hd : decode md.2.1 pc = .ok (.ifCond .gt off, 3)) (ht : (pc : Int) + off = (tgt : Int)) (k1 : 0 < x → zw G md d k0 n0 Q tgt lv st M) (k2 : ¬ 0 < x → zw G md d k0 n0 Q (pc + 3) lv st M) : zw G md d k0 n0 Q pc lv (.int x :: st) M := by
  intro p e R s m args below meth c H locs ls B hr hm hw hS hl
  exact lv_if_gt B.1 B.2.1 hd ht (fun q => k1 q p e R s m args below meth c H locs ls B hr hm hw hS hl) (fun q => k2 q p e R s m args below meth c H locs ls B hr hm hw hS hl)
theorem zr_icmp_gt {x y : Int32} {off : Int} (tgt : Nat) (hd : decode md.2.1 pc = .ok (.if_icmp .gt off, 3)) (ht : (pc : Int) + off = (tgt : Int)) (k1 : y < x → zw G md d k0 n0 Q tgt lv st M) (k2 : ¬ y < x → zw G md d k0 n0 Q (pc + 3) lv st M) : zw G md d k0 n0 Q pc lv (.int y :: .int x :: st) M := by
  intro p e R s m args below meth c H locs ls B hr hm hw hS hl
  exact lv_icmp_gt B.1 B.2.1 hd ht (fun q => k1 q p e R s m args below meth c H locs ls B hr hm hw hS hl) (fun q => k2 q p e R s m args below meth c H locs ls B hr hm hw hS hl)
theorem zr_if_le {x : Int32} {off : Int} (tgt : Nat) (hd : decode md.2.1 pc = .ok (.ifCond .le off, 3)) (ht : (pc : Int) + off = (tgt : Int)) (k1 : x ≤ 0 → zw G md d k0 n0 Q tgt lv st M) (k2 : ¬ x ≤ 0 → zw G md d k0 n0 Q (pc + 3) lv st M) : zw G md d k0 n0 Q pc lv (.int x :: st) M := by
  intro p e R s m args below meth c H locs ls B hr hm hw hS hl
  exact lv_if_le B.1 B.2.1 hd ht (fun q => k1 q p e R s m args below meth c H locs ls B hr hm hw hS hl) (fun q => k2 q p e R s m args below meth c H locs ls B hr hm hw hS hl)
theorem zr_icmp_le {x y : Int32} {off : Int} (tgt : Nat) (hd : decode md.2.1 pc = .ok (.if_icmp .le off, 3)) (ht : (pc : Int) + off = (tgt : Int)) (k1 : x ≤ y → zw G md d k0 n0 Q tgt lv st M) (k2 : ¬ x ≤ y → zw G md d k0 n0 Q (pc + 3) lv st M) : zw G md d k0 n0 Q pc lv (.int y :: .int x :: st) M := by
  intro p e R s m args below meth c H locs ls B hr hm hw hS hl
  exact lv_icmp_le B.1 B.2.1 hd ht (fun q => k1 q p e R s m args below meth c H locs ls B hr hm hw hS hl) (fun q => k2 q p e R s m args below meth c H locs ls B hr hm hw hS hl)
theorem zr_goto {off : Int} (tgt : Nat) (hd : decode md.2.1 pc = .ok (.goto off, 3)) (ht : (pc : Int) + off = (tgt : Int)) (k : zw G md d k0 n0 Q tgt lv st M) : zw G md d k0 n0 Q pc lv st M := by
  intro p e R s m args below meth c H locs ls B hr hm hw hS hl
  exact lv_goto B.1 B.2.1 hd ht (k p e R s m args below meth c H locs ls B hr hm hw hS hl)
theorem zr_ifnull {x : Nat} {off : Int} (hd : decode md.2.1 pc = .ok (.ifnull off, 3)) (k : zw G md d k0 n0 Q (pc + 3) lv st M) : zw G md d k0 n0 Q pc lv (.ref x :: st) M := by
  intro p e R s m args below meth c H locs ls B hr hm hw hS hl
  exact lv_ifnull B.1 B.2.1 hd (k p e R s m args below meth c H locs ls B hr hm hw hS hl)
theorem zr_ifnullN {off : Int} (tgt : Nat) (hd : decode md.2.1 pc = .ok (.ifnull off, 3)) (ht : (pc : Int) + off = (tgt : Int)) (k : zw G md d k0 n0 Q tgt lv st M) : zw G md d k0 n0 Q pc lv (.null :: st) M := by
  intro p e R s m args below meth c H locs ls B hr hm hw hS hl
  exact lv_ifnullN B.1 B.2.1 hd ht (k p e R s m args below meth c H locs ls B hr hm hw hS hl)
theorem zr_ifnonnull {x : Nat} {off : Int} (tgt : Nat) (hd : decode md.2.1 pc = .ok (.ifnonnull off, 3)) (ht : (pc : Int) + off = (tgt : Int)) (k : zw G md d k0 n0 Q tgt lv st M) : zw G md d k0 n0 Q pc lv (.ref x :: st) M := by
  intro p e R s m args below meth c H locs ls B hr hm hw hS hl
  exact lv_ifnonnull B.1 B.2.1 hd ht (k p e R s m args below meth c H locs ls B hr hm hw hS hl)
theorem zr_ifnonnullN {off : Int} (hd : decode md.2.1 pc = .ok (.ifnonnull off, 3)) (k : zw G md d k0 n0 Q (pc + 3) lv st M) : zw G md d k0 n0 Q pc lv (.null :: st) M := by
  intro p e R s m args below meth c H locs ls B hr hm hw hS hl
  exact lv_ifnonnullN B.1 B.2.1 hd (k p e R s m args below meth c H locs ls B hr hm hw hS hl)
theorem zr_switchOut {dflt lo hi : Int} {offs : Array Int} {len : Nat} {x : Int32} (tgt : Nat) (hd : decode md.2.1 pc = .ok (.tableswitch dflt lo hi offs, len)) (h : x.toInt < lo ∨ hi < x.toInt) (ht : (pc : Int) + dflt = (tgt : Int)) (k : zw G md d k0 n0 Q tgt lv st M) : zw G md d k0 n0 Q pc lv (.int x :: st) M := by
  intro p e R s m args below meth c H locs ls B hr hm hw hS hl
  exact lv_tableOut B.1 B.2.1 hd h ht (k p e R s m args below meth c H locs ls B hr hm hw hS hl)
theorem zr_switchIn {dflt lo hi : Int} {offs : Array Int} {len : Nat} {x : Int32} {off : Int} (tgt : Nat) (hd : decode md.2.1 pc = .ok (.tableswitch dflt lo hi offs, len)) (h1 : ¬ x.toInt < lo) (h2 : ¬ hi < x.toInt) (ho : offs[(x.toInt - lo).toNat]? = some off) (ht : (pc : Int) + off = (tgt : Int)) (k : zw G md d k0 n0 Q tgt lv st M) : zw G md d k0 n0 Q pc lv (.int x :: st) M := by
  intro p e R s m args below meth c H locs ls B hr hm hw hS hl
  exact lv_tableIn B.1 B.2.1 hd h1 h2 ho ht (k p e R s m args below meth c H locs ls B hr hm hw hS hl)
theorem zr_ldc {idx : Nat} {v : Int32} (hd : decode md.2.1 pc = .ok (.ldc idx, 2)) (hw : Cond.constant md.1.cls idx v ∈ lw_tbl) (k : zw G md d k0 n0 Q (pc + 2) lv (.int v :: st) M) : zw G md d k0 n0 Q pc lv st M := by
  intro p e R s m args below meth c H locs ls B hr hm hw0 hS hl
  exact lv_ldc B.1 B.2.1 B.2.2.2.2.2.1 (zgw_use rfl (B.2.2.2.2.2.2.2.2.1 _ hw rfl) _) hd (k p e R s m args below meth c H locs ls B hr hm hw0 hS hl)
theorem zr_ldcw {idx : Nat} {v : Int32} (hd : decode md.2.1 pc = .ok (.ldc_w idx, 3)) (hw : Cond.constant md.1.cls idx v ∈ lw_tbl) (k : zw G md d k0 n0 Q (pc + 3) lv (.int v :: st) M) : zw G md d k0 n0 Q pc lv st M := by
  intro p e R s m args below meth c H locs ls B hr hm hw0 hS hl
  exact lv_ldcw B.1 B.2.1 B.2.2.2.2.2.1 (zgw_use rfl (B.2.2.2.2.2.2.2.2.1 _ hw rfl) _) hd (k p e R s m args below meth c H locs ls B hr hm hw0 hS hl)
theorem zr_ldc2 {idx : Nat} {v : Int64} (hd : decode md.2.1 pc = .ok (.ldc2_w idx, 3)) (hw : Cond.constantLong md.1.cls idx v ∈ lw_tbl) (k : zw G md d k0 n0 Q (pc + 3) lv (.long v :: st) M) : zw G md d k0 n0 Q pc lv st M := by
  intro p e R s m args below meth c H locs ls B hr hm hw0 hS hl
  exact lv_ldc2 B.1 B.2.1 B.2.2.2.2.2.1 (zgw_use rfl (B.2.2.2.2.2.2.2.2.1 _ hw rfl) _) hd (k p e R s m args below meth c H locs ls B hr hm hw0 hS hl)
end ZR
end
section
/-! ===== ROWS of zw that touch the heap ===== -/
theorem zE_obj {ids : Nat → ClassId} {M : zM} {a c : Nat} (h : zK M a = c + 1) (hc : c < 13) : zE ids M a = .inr (c, zflds c M a) := by
  unfold zE
  rw [if_neg (by omega), if_neg (by omega), if_neg (by omega), if_neg (by omega), if_neg (by omega), if_neg (by omega), h, Nat.add_sub_cancel]
theorem zE_B {ids : Nat → ClassId} {M : zM} {a : Nat} (h : zK M a = 14) : zE ids M a = .inl (ids 0, zN M a, .inl (zA M a)) := by simp [zE, h]
theorem zE_I {ids : Nat → ClassId} {M : zM} {a : Nat} (h : zK M a = 15) : zE ids M a = .inl (ids 1, zN M a, .inl (zA M a)) := by simp [zE, h]
theorem zE_Z {ids : Nat → ClassId} {M : zM} {a : Nat} (h : zK M a = 16) : zE ids M a = .inl (ids 2, zN M a, .inl (zA M a)) := by simp [zE, h]
theorem zE_J {ids : Nat → ClassId} {M : zM} {a : Nat} (h : zK M a = 17) : zE ids M a = .inl (ids 3, zN M a, .inr (.inl (zJ M a))) := by simp [zE, h]
theorem zE_V {ids : Nat → ClassId} {M : zM} {a : Nat} (h : zK M a = 18) : zE ids M a = .inl (ids 4, zN M a, .inr (.inr (.inr (.inr (zB M a))))) := by simp [zE, h]
theorem zE_T {ids : Nat → ClassId} {M : zM} {a : Nat} (h : zK M a = 19) : zE ids M a = .inl (ids 5, zN M a, .inr (.inr (.inr (.inr (zB M a))))) := by simp [zE, h]
theorem zE_congr {ids : Nat → ClassId} {M M' : zM} {b : Nat} (hK : zK M' b = zK M b) (hN : zN M' b = zN M b) (hA : zA M' b = zA M b) (hB : zB M' b = zB M b) (hJ : zJ M' b = zJ M b) (hI : ∀ x, zI M' x b = zI M x b) (hR : ∀ x, zR M' x b = zR M x b) : zE ids M' b = zE ids M b := by
  have hf : ∀ c, zflds c M' b = zflds c M b := fun c => by
    unfold zflds
    refine List.map_congr_left (fun j _ => ?_)
    unfold zfld
    rw [hI, hR]
  unfold zE
  rw [hK, hN, hA, hB, hJ, hf]
theorem zat {L : List Nat} {f : Nat → va_E} {a : Nat} (h : a ∈ L) : ∃ q : Nat, (va_pl L f)[q]? = some (a, f a) := by
  obtain ⟨q, hq⟩ := va_pl_get (X := []) (f := f) h
  exact ⟨q, hq⟩
theorem zset {A : Nat → Prop} {L : List Nat} {f : Nat → va_E} {a q : Nat} {e : va_E} (hD : va_D A (va_pl L f)) (h : a ∈ L) (hq : (va_pl L f)[q]? = some (a, f a)) : (va_pl L f).set q (a, e) = va_pl L (va_up f a e) := va_pl_set (X := []) hD h hq
theorem zup {ids : Nat → ClassId} {M M' : zM} {a : Nat} {e : va_E} (hE : zE ids M' a = e) (hO : ∀ b, b ≠ a → zE ids M' b = zE ids M b) (L : List Nat) : va_pl L (va_up (zE ids M) a e) = va_pl L (zE ids M') := va_pl_congr fun b => by
  by_cases hb : b = a
  · subst hb
    rw [va_up_self, hE]
  · rw [va_up_ne _ _ hb, hO b hb]
/-- a field's link -/
def zlk (own : String) (idx c k : Nat) : Prop := Cond.fieldLink own idx (zRX c) (zTX c k).2.1 (zTX c k).2.2.1 ∈ lw_tbl ∨ Cond.fieldLinkNest own idx (zRX c) (zTX c k).2.1 (zTX c k).2.2.1 "LsmStore" ∈ lw_tbl
theorem zflds_at {c : Nat} {M : zM} {a k : Nat} (hk : k < zn c) : (zflds c M a)[k]? = some (zfld c M a k) := by
  unfold zflds
  rw [List.getElem?_map, List.getElem?_range hk]
  rfl
theorem zflds_len (c : Nat) (M : zM) (a : Nat) : (zflds c M a).length = zn c := by simp [zflds]
theorem zn_lt : ∀ c, c < 13 → zn c ≤ 32 := by
  refine zc_cases ?_ ?_ ?_ ?_ ?_ ?_ ?_ ?_ ?_ ?_ ?_ ?_ ?_ <;> decide
section ZH
variable {G : zG} {md : zD} {d k0 n0 : Nat} {Q : zOut → zM → Prop} {pc : Nat} {lv : List (Option Value)} {st : List Value} {M : zM}
theorem zr_get {idx c k a : Nat} {v : Value} (hd : decode md.2.1 pc = .ok (.getfield idx, 3)) (hlk : zlk md.1.cls idx c k) (hc : c < 13) (hk : k < zn c) (hK : zK M a = c + 1) (hv : zfld c M a k = v)
    (kk : zw G md d k0 n0 Q (pc + 3) lv (v :: st) M) : zw G md d k0 n0 Q pc lv (.ref a :: st) M := by
  intro p e R s m args below meth c9 H locs ls B hr hm hw hS hl
  have kk' := kk p e R s m args below meth c9 H locs ls B hr hm hw hS hl
  obtain ⟨L, hL, hP, hD, hF, hN⟩ := hw
  obtain ⟨q, hq⟩ := zat (f := zE (gi G) M) ((hL a).mpr (by omega))
  rw [zE_obj hK hc] at hq
  have hO := B.2.2.2.2.2.2.2.2
  have hts : ∀ w ∈ u_ws (zRX c) (zTX c) (zn c), w.before args s = true := fun w h => zgw_use (zc_gw c hc w h) (hO.1 w (zc_in c hc w h) (zc_gw c hc w h)) args
  have hsame : ∀ x, s.fieldFound? (zTX c k).1 (zTX c k).2.1 (zTX c k).2.2.1 = some x → s.fieldFound? (zRX c) (zTX c k).2.1 (zTX c k).2.2.1 = some x := fun x h => by rw [zc_own c hc k hk] at h; exact h
  rcases hlk with h | h
  · exact va_get B.1 B.2.1 hts (fun _ h => h) B.2.2.2.2.2.1 hO.2.1 hP q hq (zc_cl c hc) k hk (zgw_use rfl (hO.1 _ h rfl) args) hsame (by rw [zflds_at hk, hv]) hd kk'
  · exact va_getN B.1 B.2.1 hts (fun _ h => h) B.2.2.2.2.2.1 hO.2.1 hP q hq (zc_cl c hc) k hk (zgw_use rfl (hO.1 _ h rfl) args) hsame (by rw [zflds_at hk, hv]) hd kk'
theorem zr_getI {idx c k a : Nat} (hd : decode md.2.1 pc = .ok (.getfield idx, 3)) (hlk : zlk md.1.cls idx c k) (hc : c < 13) (hk : k < zn c) (ht : zref (zty c k) = false) (hK : zK M a = c + 1)
    (kk : zw G md d k0 n0 Q (pc + 3) lv (.int (zI M (c * 32 + k) a) :: st) M) : zw G md d k0 n0 Q pc lv (.ref a :: st) M :=
  zr_get hd hlk hc hk hK (by unfold zfld; rw [if_neg (by rw [ht]; decide)]) kk
theorem zr_getR {idx c k a b : Nat} (hd : decode md.2.1 pc = .ok (.getfield idx, 3)) (hlk : zlk md.1.cls idx c k) (hc : c < 13) (hk : k < zn c) (ht : zref (zty c k) = true) (hK : zK M a = c + 1) (hb : zR M (c * 32 + k) a = some b)
    (kk : zw G md d k0 n0 Q (pc + 3) lv (.ref b :: st) M) : zw G md d k0 n0 Q pc lv (.ref a :: st) M :=
  zr_get hd hlk hc hk hK (by unfold zfld; rw [if_pos ht, hb]; rfl) kk
theorem zflds_set {c : Nat} {M M' : zM} {a k : Nat} {v : Value} (hk : k < zn c) (h1 : zfld c M' a k = v) (h2 : ∀ j, j < zn c → j ≠ k → zfld c M' a j = zfld c M a j) : (zflds c M a).set k v = zflds c M' a := by
  apply List.ext_getElem?
  intro j
  by_cases hj : j < zn c
  · rw [zflds_at hj]
    by_cases e : k = j
    · subst e
      rw [List.getElem?_set_self (by rw [zflds_len]; exact hk), h1]
    · rw [List.getElem?_set_ne e, zflds_at hj, h2 j hj (fun z => e z.symm)]
  · rw [List.getElem?_eq_none (by rw [List.length_set, zflds_len]; omega), List.getElem?_eq_none (by rw [zflds_len]; omega)]
theorem zr_putV {M' : zM} {idx c k a : Nat} {v : Value} (hd : decode md.2.1 pc = .ok (.putfield idx, 3)) (hlk : zlk md.1.cls idx c k) (hc : c < 13) (hk : k < zn c) (hK : zK M a = c + 1)
    (hfin : (zTX c k).2.2.2 = false ∨ (md.1.name = "<init>" ∧ zRX c = md.1.cls ∧ Cond.fieldLink md.1.cls idx (zRX c) (zTX c k).2.1 (zTX c k).2.2.1 ∈ lw_tbl)) (hn : narrow (zty c k) v = v) (hf : fits (zty c k) v = true)
    (h1 : zfld c M' a k = v) (h2 : ∀ j, j < zn c → j ≠ k → zfld c M' a j = zfld c M a j) (hKK : zK M' = zK M) (hNN : zN M' = zN M) (hAA : zA M' = zA M) (hBB : zB M' = zB M) (hJJ : zJ M' = zJ M) (hCC : zC M' = zC M) (hSS : zS M' = zS M) (hI : ∀ x b, b ≠ a → zI M' x b = zI M x b) (hR : ∀ x b, b ≠ a → zR M' x b = zR M x b)
    (kk : zw G md d k0 n0 Q (pc + 3) lv st M') : zw G md d k0 n0 Q pc lv (v :: .ref a :: st) M := by
  intro p e R s m args below meth c9 H locs ls B hr hm hw hS hl
  obtain ⟨L, hL, hP, hD, hF, hN⟩ := hw
  have ha : a ∈ L := (hL a).mpr (by omega)
  obtain ⟨q, hq⟩ := zat (f := zE (gi G) M) ha
  have hq0 := hq
  rw [zE_obj hK hc] at hq
  have hO := B.2.2.2.2.2.2.2.2
  have hts : ∀ w ∈ u_ws (zRX c) (zTX c) (zn c), w.before args s = true := fun w h => zgw_use (zc_gw c hc w h) (hO.1 w (zc_in c hc w h) (zc_gw c hc w h)) args
  have hsame : ∀ x, s.fieldFound? (zTX c k).1 (zTX c k).2.1 (zTX c k).2.2.1 = some x → s.fieldFound? (zRX c) (zTX c k).2.1 (zTX c k).2.2.1 = some x := fun x h => by rw [zc_own c hc k hk] at h; exact h
  have hE : zE (gi G) M' a = .inr (c, (zflds c M a).set k v) := by rw [zE_obj (by rw [hKK]; exact hK) hc, zflds_set hk h1 h2]
  have hOth : ∀ b, b ≠ a → zE (gi G) M' b = zE (gi G) M b := fun b hb => zE_congr (by rw [hKK]) (by rw [hNN]) (by rw [hAA]) (by rw [hBB]) (by rw [hJJ]) (fun x => hI x b hb) (fun x => hR x b hb)
  have kk' : ∀ (H1 : Heap) (locs1 : List Loc), va_P (gD G) vwCl ((va_pl L (zE (gi G) M)).set q (a, .inr (c, (zflds c M a).set k v))) H1 → va_D (gA G) ((va_pl L (zE (gi G) M)).set q (a, .inr (c, (zflds c M a).set k v))) → va_S (gA G) s.heap H1 locs1 → W p (gL G) e R s m args below meth c9 H1 locs1 (zC M - k0) (zS M - n0) (zZ G k0 n0 Q below s) (F0 m (pc + 3) ls st) := by
    intro H1 locs1 hP1 hD1 hS1
    rw [zset hD ha hq0, zup hE hOth] at hP1 hD1
    have := kk p e R s m args below meth c9 H1 locs1 ls B hr (by rw [hCC, hSS]; exact hm) ⟨L, fun b => by rw [hKK]; exact hL b, hP1, hD1, fun b i hb => by rw [hAA]; exact hF b i (by rw [← hKK]; exact hb), fun b => by rw [hNN]; exact hN b⟩ hS1 hl
    rw [hCC, hSS] at this
    exact this
  have hlen : k < (zflds c M a).length := by rw [zflds_len]; exact hk
  rcases hfin with hfin | ⟨hi1, hi2, hi3⟩
  · rcases hlk with h | h
    · exact va_put B.1 B.2.1 hts (fun _ h => h) (zty c) (zc_ty c hc) (zc_nm c hc) B.2.2.2.2.2.1 hO.2.1 hP hD hS q hq (zc_cl c hc) k hk (zgw_use rfl (hO.1 _ h rfl) args) hsame hfin (zc_ty c hc k hk) hn hf hlen hd kk'
    · exact va_putN B.1 B.2.1 hts (fun _ h => h) (zty c) (zc_ty c hc) (zc_nm c hc) B.2.2.2.2.2.1 hO.2.1 hP hD hS q hq (zc_cl c hc) k hk (zgw_use rfl (hO.1 _ h rfl) args) hsame hfin (zc_ty c hc k hk) hn hf hlen hd kk'
  · by_cases hfin : (zTX c k).2.2.2 = true
    · exact va_putF B.1 B.2.1 hts (fun _ h => h) (zty c) (zc_ty c hc) (zc_nm c hc) B.2.2.2.2.2.1 hO.2.1 hP hD hS q hq (zc_cl c hc) k hk (zgw_use rfl (hO.1 _ hi3 rfl) args) hsame hfin (by rw [B.2.2.2.2.2.2.1]; exact hi1) (by rw [zc_own c hc k hk]; exact hi2) (zc_ty c hc k hk) hn hf hlen hd kk'
    · exact va_put B.1 B.2.1 hts (fun _ h => h) (zty c) (zc_ty c hc) (zc_nm c hc) B.2.2.2.2.2.1 hO.2.1 hP hD hS q hq (zc_cl c hc) k hk (zgw_use rfl (hO.1 _ hi3 rfl) args) hsame (by cases h9 : (zTX c k).2.2.2 with | false => rfl | true => exact absurd h9 hfin) (zc_ty c hc k hk) hn hf hlen hd kk'
theorem zput_I (M : zM) (f a : Nat) (v : Int32) (x y : Nat) : zI (zput M f a v) x y = if x = f ∧ y = a then v else zI M x y := rfl
theorem zputR_R (M : zM) (f a : Nat) (v : Option Nat) (x y : Nat) : zR (zputR M f a v) x y = if x = f ∧ y = a then v else zR M x y := rfl
theorem zfld_put {c k a j : Nat} {M : zM} {v : Int32} (hj : j ≠ k) : zfld c (zput M (c * 32 + k) a v) a j = zfld c M a j := by
  have h1 : zI (zput M (c * 32 + k) a v) (c * 32 + j) a = zI M (c * 32 + j) a := by rw [zput_I, if_neg (by omega)]
  unfold zfld
  rw [h1]
  rfl
theorem zfld_putR {c k a j : Nat} {M : zM} {v : Option Nat} (hj : j ≠ k) : zfld c (zputR M (c * 32 + k) a v) a j = zfld c M a j := by
  have h1 : zR (zputR M (c * 32 + k) a v) (c * 32 + j) a = zR M (c * 32 + j) a := by rw [zputR_R, if_neg (by omega)]
  unfold zfld
  rw [h1]
  rfl
/-- an int field that isn't final -/
theorem zr_putI {idx c k a : Nat} {v : Int32} (hd : decode md.2.1 pc = .ok (.putfield idx, 3)) (hlk : zlk md.1.cls idx c k) (hc : c < 13) (hk : k < zn c) (ht : zty c k = .int) (hfin : (zTX c k).2.2.2 = false) (hK : zK M a = c + 1)
    (kk : zw G md d k0 n0 Q (pc + 3) lv st (zput M (c * 32 + k) a v)) : zw G md d k0 n0 Q pc lv (.int v :: .ref a :: st) M := by
  refine zr_putV hd hlk hc hk hK (Or.inl hfin) (by rw [ht]; rfl) (by rw [ht]; rfl) ?_ (fun j _ hj => zfld_put hj) rfl rfl rfl rfl rfl rfl rfl (fun x b hb => by rw [zput_I, if_neg (fun z => hb z.2)]) (fun _ _ _ => rfl) kk
  unfold zfld
  rw [if_neg (by rw [ht]; decide), zput_I, if_pos ⟨rfl, rfl⟩]
/-- a boolean field that isn't final -/
theorem zr_putZ {idx c k a : Nat} {v : Int32} (hd : decode md.2.1 pc = .ok (.putfield idx, 3)) (hlk : zlk md.1.cls idx c k) (hc : c < 13) (hk : k < zn c) (ht : zty c k = .boolean) (hfin : (zTX c k).2.2.2 = false) (hv : v = 0 ∨ v = 1) (hK : zK M a = c + 1)
    (kk : zw G md d k0 n0 Q (pc + 3) lv st (zput M (c * 32 + k) a v)) : zw G md d k0 n0 Q pc lv (.int v :: .ref a :: st) M := by
  refine zr_putV hd hlk hc hk hK (Or.inl hfin) (by rw [ht]; rcases hv with rfl | rfl <;> rfl) (by rw [ht]; rcases hv with rfl | rfl <;> rfl) ?_ (fun j _ hj => zfld_put hj) rfl rfl rfl rfl rfl rfl rfl (fun x b hb => by rw [zput_I, if_neg (fun z => hb z.2)]) (fun _ _ _ => rfl) kk
  unfold zfld
  rw [if_neg (by rw [ht]; decide), zput_I, if_pos ⟨rfl, rfl⟩]
theorem zfits_ref {t : FieldType} (h : zref t = true) (b : Nat) : narrow t (.ref b) = .ref b ∧ fits t (.ref b) = true := by
  cases t <;> first | (simp [zref] at h; done) | exact ⟨rfl, rfl⟩
/-- a field of references, in the constructor -/
theorem zr_putR {idx c k a b : Nat} (hd : decode md.2.1 pc = .ok (.putfield idx, 3)) (hlk : Cond.fieldLink md.1.cls idx (zRX c) (zTX c k).2.1 (zTX c k).2.2.1 ∈ lw_tbl) (hin : md.1.name = "<init>") (hown : zRX c = md.1.cls) (hc : c < 13) (hk : k < zn c) (ht : zref (zty c k) = true) (hK : zK M a = c + 1)
    (kk : zw G md d k0 n0 Q (pc + 3) lv st (zputR M (c * 32 + k) a (some b))) : zw G md d k0 n0 Q pc lv (.ref b :: .ref a :: st) M := by
  refine zr_putV hd (Or.inl hlk) hc hk hK (Or.inr ⟨hin, hown, hlk⟩) (zfits_ref ht b).1 (zfits_ref ht b).2 ?_ (fun j _ hj => zfld_putR hj) rfl rfl rfl rfl rfl rfl rfl (fun _ _ _ => rfl) (fun x b9 hb => by rw [zputR_R, if_neg (fun z => hb z.2)]) kk
  unfold zfld
  rw [if_pos ht, zputR_R, if_pos ⟨rfl, rfl⟩]
  rfl
end ZH
end
section
/-! ===== ROWS of zw: arrays, new, static, copying ===== -/
theorem zsetA_A (M : zM) (a : Nat) (g : Nat → Int32) : zA (zsetA M a g) = va_up (zA M) a g := rfl
theorem zfitU {M : zM} {a : Nat} {g : Nat → Int32} (hF : ∀ b i, zK M b = 14 → fits .byte (.int (zA M b i)) = true) (hg : zK M a = 14 → ∀ i, fits .byte (.int (g i)) = true) : ∀ b i, zK (zsetA M a g) b = 14 → fits .byte (.int (zA (zsetA M a g) b i)) = true := by
  intro b i hb
  rw [zsetA_A]
  by_cases e : b = a
  · subst e
    rw [va_up_self]
    exact hg hb i
  · rw [va_up_ne _ _ e]
    exact hF b i hb
section ZA
variable {G : zG} {md : zD} {d k0 n0 : Nat} {Q : zOut → zM → Prop} {pc : Nat} {lv : List (Option Value)} {st : List Value} {M : zM}
theorem zr_iald {a : Nat} {i : Int32} (hd : decode md.2.1 pc = .ok (.iaload, 1)) (hK : zK M a = 15) (hi : vp_in i (zN M a)) (kk : zw G md d k0 n0 Q (pc + 1) lv (.int (zA M a i.toNatClampNeg) :: st) M) : zw G md d k0 n0 Q pc lv (.int i :: .ref a :: st) M := by
  intro p e R s m args below meth c9 H locs ls B hr hm hw hS hl
  have kk' := kk p e R s m args below meth c9 H locs ls B hr hm hw hS hl
  obtain ⟨L, hL, hP, hD, hF, hN⟩ := hw
  obtain ⟨q, hq⟩ := zat (f := zE (gi G) M) ((hL a).mpr (by omega))
  rw [zE_I hK] at hq
  exact va_iald B.1 B.2.1 B.2.2.2.2.2.2.2.2.2.1 hP q 1 hq rfl hi hd kk'
theorem zr_bald {a : Nat} {i : Int32} (hd : decode md.2.1 pc = .ok (.baload, 1)) (hK : zK M a = 14) (hi : vp_in i (zN M a)) (kk : fits .byte (.int (zA M a i.toNatClampNeg)) = true → zw G md d k0 n0 Q (pc + 1) lv (.int (zA M a i.toNatClampNeg) :: st) M) : zw G md d k0 n0 Q pc lv (.int i :: .ref a :: st) M := by
  intro p e R s m args below meth c9 H locs ls B hr hm hw hS hl
  have hw0 := hw
  obtain ⟨L, hL, hP, hD, hF, hN⟩ := hw
  have kk' := kk (hF a _ hK) p e R s m args below meth c9 H locs ls B hr hm hw0 hS hl
  obtain ⟨q, hq⟩ := zat (f := zE (gi G) M) ((hL a).mpr (by omega))
  rw [zE_B hK] at hq
  exact va_bald B.1 B.2.1 B.2.2.2.2.2.2.2.2.2.1 hP q 0 hq rfl hi hd kk'
theorem zr_zald {a : Nat} {i : Int32} (hd : decode md.2.1 pc = .ok (.baload, 1)) (hK : zK M a = 16) (hi : vp_in i (zN M a)) (kk : zw G md d k0 n0 Q (pc + 1) lv (.int (zA M a i.toNatClampNeg) :: st) M) : zw G md d k0 n0 Q pc lv (.int i :: .ref a :: st) M := by
  intro p e R s m args below meth c9 H locs ls B hr hm hw hS hl
  have kk' := kk p e R s m args below meth c9 H locs ls B hr hm hw hS hl
  obtain ⟨L, hL, hP, hD, hF, hN⟩ := hw
  obtain ⟨q, hq⟩ := zat (f := zE (gi G) M) ((hL a).mpr (by omega))
  rw [zE_Z hK] at hq
  exact va_zald B.1 B.2.1 B.2.2.2.2.2.2.2.2.2.1 hP q 2 hq rfl hi hd kk'
theorem zr_lald {a : Nat} {i : Int32} (hd : decode md.2.1 pc = .ok (.laload, 1)) (hK : zK M a = 17) (hi : vp_in i (zN M a)) (kk : zw G md d k0 n0 Q (pc + 1) lv (.long (zJ M a i.toNatClampNeg) :: st) M) : zw G md d k0 n0 Q pc lv (.int i :: .ref a :: st) M := by
  intro p e R s m args below meth c9 H locs ls B hr hm hw hS hl
  have kk' := kk p e R s m args below meth c9 H locs ls B hr hm hw hS hl
  obtain ⟨L, hL, hP, hD, hF, hN⟩ := hw
  obtain ⟨q, hq⟩ := zat (f := zE (gi G) M) ((hL a).mpr (by omega))
  rw [zE_J hK] at hq
  exact va_lald B.1 B.2.1 B.2.2.2.2.2.2.2.2.2.1 hP q 3 hq rfl hi hd kk'
theorem zr_aald {a b : Nat} {i : Int32} (hd : decode md.2.1 pc = .ok (.aaload, 1)) (hK : zK M a = 18 ∨ zK M a = 19) (hi : vp_in i (zN M a)) (hb : zB M a i.toNatClampNeg = some b) (kk : zw G md d k0 n0 Q (pc + 1) lv (.ref b :: st) M) : zw G md d k0 n0 Q pc lv (.int i :: .ref a :: st) M := by
  intro p e R s m args below meth c9 H locs ls B hr hm hw hS hl
  have kk' := kk p e R s m args below meth c9 H locs ls B hr hm hw hS hl
  obtain ⟨L, hL, hP, hD, hF, hN⟩ := hw
  obtain ⟨q, hq⟩ := zat (f := zE (gi G) M) ((hL a).mpr (by omega))
  rcases hK with hK | hK
  · rw [zE_V hK] at hq
    exact va_aldq B.1 B.2.1 B.2.2.2.2.2.2.2.2.2.1 hP q 4 hq rfl hi hd (by rw [hb]; exact kk')
  · rw [zE_T hK] at hq
    exact va_aldq B.1 B.2.1 B.2.2.2.2.2.2.2.2.2.1 hP q 5 hq rfl hi hd (by rw [hb]; exact kk')
theorem zr_aaldN {a : Nat} {i : Int32} (hd : decode md.2.1 pc = .ok (.aaload, 1)) (hK : zK M a = 18 ∨ zK M a = 19) (hi : vp_in i (zN M a)) (hb : zB M a i.toNatClampNeg = none) (kk : zw G md d k0 n0 Q (pc + 1) lv (.null :: st) M) : zw G md d k0 n0 Q pc lv (.int i :: .ref a :: st) M := by
  intro p e R s m args below meth c9 H locs ls B hr hm hw hS hl
  have kk' := kk p e R s m args below meth c9 H locs ls B hr hm hw hS hl
  obtain ⟨L, hL, hP, hD, hF, hN⟩ := hw
  obtain ⟨q, hq⟩ := zat (f := zE (gi G) M) ((hL a).mpr (by omega))
  rcases hK with hK | hK
  · rw [zE_V hK] at hq
    exact va_aldq B.1 B.2.1 B.2.2.2.2.2.2.2.2.2.1 hP q 4 hq rfl hi hd (by rw [hb]; exact kk')
  · rw [zE_T hK] at hq
    exact va_aldq B.1 B.2.1 B.2.2.2.2.2.2.2.2.2.1 hP q 5 hq rfl hi hd (by rw [hb]; exact kk')
theorem zr_alen {a : Nat} (hd : decode md.2.1 pc = .ok (.arraylength, 1)) (hK : 14 ≤ zK M a ∧ zK M a ≤ 19) (kk : zw G md d k0 n0 Q (pc + 1) lv (.int (nI (zN M a)) :: st) M) : zw G md d k0 n0 Q pc lv (.ref a :: st) M := by
  intro p e R s m args below meth c9 H locs ls B hr hm hw hS hl
  have kk' := kk p e R s m args below meth c9 H locs ls B hr hm hw hS hl
  obtain ⟨L, hL, hP, hD, hF, hN⟩ := hw
  obtain ⟨q, hq⟩ := zat (f := zE (gi G) M) ((hL a).mpr (by omega))
  have hT := B.2.2.2.2.2.2.2.2.2.1
  rcases (show zK M a = 14 ∨ zK M a = 15 ∨ zK M a = 16 ∨ zK M a = 17 ∨ zK M a = 18 ∨ zK M a = 19 by omega) with h | h | h | h | h | h
  · rw [zE_B h] at hq; exact va_alen B.1 B.2.1 hT hP q 0 hq rfl rfl hd kk'
  · rw [zE_I h] at hq; exact va_alen B.1 B.2.1 hT hP q 1 hq rfl rfl hd kk'
  · rw [zE_Z h] at hq; exact va_alen B.1 B.2.1 hT hP q 2 hq rfl rfl hd kk'
  · rw [zE_J h] at hq; exact va_alen B.1 B.2.1 hT hP q 3 hq rfl rfl hd kk'
  · rw [zE_V h] at hq; exact va_alen B.1 B.2.1 hT hP q 4 hq rfl rfl hd kk'
  · rw [zE_T h] at hq; exact va_alen B.1 B.2.1 hT hP q 5 hq rfl rfl hd kk'
/-- the script, and LEVEL_FULL -/
theorem zr_sld {i : Int32} (hd : decode md.2.1 pc = .ok (.iaload, 1)) (hi : vp_in i (gn G)) (kk : zw G md d k0 n0 Q (pc + 1) lv (.int (gx G i.toNatClampNeg) :: st) M) : zw G md d k0 n0 Q pc lv (.int i :: .ref (gb G) :: st) M := by
  intro p e R s m args below meth c9 H locs ls B hr hm hw hS hl
  have hO := B.2.2.2.2.2.2.2.2
  obtain ⟨h1, h2, h3, h4, h5, h6, h7, h8, h9, h10, h11, h12⟩ := id hO
  exact va_sld B.1 B.2.1 h4 (by omega) (Nat.not_le.mpr h10) hS hi hd (kk p e R s m args below meth c9 H locs ls B hr hm hw hS hl)
theorem zr_slen (hd : decode md.2.1 pc = .ok (.arraylength, 1)) (kk : zw G md d k0 n0 Q (pc + 1) lv (.int (nI (gn G)) :: st) M) : zw G md d k0 n0 Q pc lv (.ref (gb G) :: st) M := by
  intro p e R s m args below meth c9 H locs ls B hr hm hw hS hl
  have hO := B.2.2.2.2.2.2.2.2
  obtain ⟨h1, h2, h3, h4, h5, h6, h7, h8, h9, h10, h11, h12⟩ := id hO
  exact va_slen B.1 B.2.1 h4 (by omega) (Nat.not_le.mpr h10) hS hd (kk p e R s m args below meth c9 H locs ls B hr hm hw hS hl)
theorem zr_fld {i : Int32} (hd : decode md.2.1 pc = .ok (.iaload, 1)) (hi : vp_in i 2) (kk : zw G md d k0 n0 Q (pc + 1) lv (.int (zlf i.toNatClampNeg) :: st) M) : zw G md d k0 n0 Q pc lv (.int i :: .ref (gf G) :: st) M := by
  intro p e R s m args below meth c9 H locs ls B hr hm hw hS hl
  have hO := B.2.2.2.2.2.2.2.2
  obtain ⟨h1, h2, h3, h4, h5, h6, h7, h8, h9, h10, h11, h12⟩ := id hO
  exact va_sld B.1 B.2.1 h5 (by omega) (Nat.not_le.mpr h11) hS hi hd (kk p e R s m args below meth c9 H locs ls B hr hm hw hS hl)
theorem zr_gets {idx : Nat} (hd : decode md.2.1 pc = .ok (.getstatic idx, 3)) (hlk : Cond.fieldLink md.1.cls idx "LsmStore" "LEVEL_FULL" "[I" ∈ lw_tbl) (kk : zw G md d k0 n0 Q (pc + 3) lv (.ref (gf G) :: st) M) : zw G md d k0 n0 Q pc lv st M := by
  intro p e R s m args below meth c9 H locs ls B hr hm hw hS hl
  have hO := B.2.2.2.2.2.2.2.2
  obtain ⟨h1, h2, h3, h4, h5, h6, h7, h8, h9, h10, h11, h12⟩ := id hO
  exact va_gets B.1 B.2.1 h3 hS B.2.2.2.2.2.1 (zgw_use rfl (h1 _ hlk rfl) args) (fun x h => h) hd (kk p e R s m args below meth c9 H locs ls B hr hm hw hS hl)
/-- a row of ints, bytes or booleans is written -/
theorem zr_iast {a : Nat} {i x : Int32} (hd : decode md.2.1 pc = .ok (.iastore, 1)) (hK : zK M a = 15) (hi : vp_in i (zN M a)) (kk : zw G md d k0 n0 Q (pc + 1) lv st (zsetA M a (upd (zA M a) i.toNatClampNeg x))) : zw G md d k0 n0 Q pc lv (.int x :: .int i :: .ref a :: st) M := by
  intro p e R s m args below meth c9 H locs ls B hr hm hw hS hl
  obtain ⟨L, hL, hP, hD, hF, hN⟩ := hw
  have ha : a ∈ L := (hL a).mpr (by omega)
  obtain ⟨q, hq⟩ := zat (f := zE (gi G) M) ha
  have hq0 := hq
  rw [zE_I hK] at hq
  refine va_iast B.1 B.2.1 B.2.2.2.2.2.2.2.2.2.1 hP hD hS q 1 hq rfl hi hd (fun H1 locs1 hP1 hD1 hS1 => ?_)
  rw [zset hD ha hq0, zup (ids := gi G) (M := M) (M' := zsetA M a (upd (zA M a) i.toNatClampNeg x)) (by rw [zE_I (by exact hK), zsetA_A, va_up_self]; rfl) (fun b hb => zE_congr rfl rfl (by rw [zsetA_A, va_up_ne _ _ hb]) rfl rfl (fun _ => rfl) (fun _ => rfl))] at hP1 hD1
  exact kk p e R s m args below meth c9 H1 locs1 ls B hr hm ⟨L, hL, hP1, hD1, zfitU hF (fun h => by omega), hN⟩ hS1 hl
theorem zfit_nar (x : Int32) : fits .byte (.int (vp_nar .byte x)) = true := by rw [vp_nar_byte]; exact pk_fb x
theorem zr_bast {a : Nat} {i x : Int32} (hd : decode md.2.1 pc = .ok (.bastore, 1)) (hK : zK M a = 14) (hi : vp_in i (zN M a)) (kk : zw G md d k0 n0 Q (pc + 1) lv st (zsetA M a (upd (zA M a) i.toNatClampNeg (vp_nar .byte x)))) : zw G md d k0 n0 Q pc lv (.int x :: .int i :: .ref a :: st) M := by
  intro p e R s m args below meth c9 H locs ls B hr hm hw hS hl
  obtain ⟨L, hL, hP, hD, hF, hN⟩ := hw
  have ha : a ∈ L := (hL a).mpr (by omega)
  obtain ⟨q, hq⟩ := zat (f := zE (gi G) M) ha
  have hq0 := hq
  rw [zE_B hK] at hq
  refine va_bast B.1 B.2.1 B.2.2.2.2.2.2.2.2.2.1 hP hD hS q 0 hq rfl hi hd (fun H1 locs1 hP1 hD1 hS1 => ?_)
  rw [zset hD ha hq0, zup (ids := gi G) (M := M) (M' := zsetA M a (upd (zA M a) i.toNatClampNeg (vp_nar .byte x))) (by rw [zE_B (by exact hK), zsetA_A, va_up_self]; rfl) (fun b hb => zE_congr rfl rfl (by rw [zsetA_A, va_up_ne _ _ hb]) rfl rfl (fun _ => rfl) (fun _ => rfl))] at hP1 hD1
  refine kk p e R s m args below meth c9 H1 locs1 ls B hr hm ⟨L, hL, hP1, hD1, zfitU hF (fun h j => ?_), hN⟩ hS1 hl
  unfold upd
  split
  · exact zfit_nar x
  · exact hF a j hK
theorem zr_zast {a : Nat} {i x : Int32} (hd : decode md.2.1 pc = .ok (.bastore, 1)) (hK : zK M a = 16) (hi : vp_in i (zN M a)) (kk : zw G md d k0 n0 Q (pc + 1) lv st (zsetA M a (upd (zA M a) i.toNatClampNeg (vp_nar .boolean x)))) : zw G md d k0 n0 Q pc lv (.int x :: .int i :: .ref a :: st) M := by
  intro p e R s m args below meth c9 H locs ls B hr hm hw hS hl
  obtain ⟨L, hL, hP, hD, hF, hN⟩ := hw
  have ha : a ∈ L := (hL a).mpr (by omega)
  obtain ⟨q, hq⟩ := zat (f := zE (gi G) M) ha
  have hq0 := hq
  rw [zE_Z hK] at hq
  refine va_zast B.1 B.2.1 B.2.2.2.2.2.2.2.2.2.1 hP hD hS q 2 hq rfl hi hd (fun H1 locs1 hP1 hD1 hS1 => ?_)
  rw [zset hD ha hq0, zup (ids := gi G) (M := M) (M' := zsetA M a (upd (zA M a) i.toNatClampNeg (vp_nar .boolean x))) (by rw [zE_Z (by exact hK), zsetA_A, va_up_self]; rfl) (fun b hb => zE_congr rfl rfl (by rw [zsetA_A, va_up_ne _ _ hb]) rfl rfl (fun _ => rfl) (fun _ => rfl))] at hP1 hD1
  exact kk p e R s m args below meth c9 H1 locs1 ls B hr hm ⟨L, hL, hP1, hD1, zfitU hF (fun h => by omega), hN⟩ hS1 hl
theorem zsetJ_J (M : zM) (a : Nat) (g : Nat → Int64) : zJ (zsetJ M a g) = va_up (zJ M) a g := rfl
theorem zsetB_B (M : zM) (a : Nat) (g : Nat → Option Nat) : zB (zsetB M a g) = va_up (zB M) a g := rfl
theorem zr_last {a : Nat} {i : Int32} {x : Int64} (hd : decode md.2.1 pc = .ok (.lastore, 1)) (hK : zK M a = 17) (hi : vp_in i (zN M a)) (kk : zw G md d k0 n0 Q (pc + 1) lv st (zsetJ M a (vp_updL (zJ M a) i.toNatClampNeg x))) : zw G md d k0 n0 Q pc lv (.long x :: .int i :: .ref a :: st) M := by
  intro p e R s m args below meth c9 H locs ls B hr hm hw hS hl
  obtain ⟨L, hL, hP, hD, hF, hN⟩ := hw
  have ha : a ∈ L := (hL a).mpr (by omega)
  obtain ⟨q, hq⟩ := zat (f := zE (gi G) M) ha
  have hq0 := hq
  rw [zE_J hK] at hq
  refine va_last B.1 B.2.1 B.2.2.2.2.2.2.2.2.2.1 hP hD hS q 3 hq rfl hi hd (fun H1 locs1 hP1 hD1 hS1 => ?_)
  rw [zset hD ha hq0, zup (ids := gi G) (M := M) (M' := zsetJ M a (vp_updL (zJ M a) i.toNatClampNeg x)) (by rw [zE_J (by exact hK), zsetJ_J, va_up_self]; rfl) (fun b hb => zE_congr rfl rfl rfl rfl (by rw [zsetJ_J, va_up_ne _ _ hb]) (fun _ => rfl) (fun _ => rfl))] at hP1 hD1
  exact kk p e R s m args below meth c9 H1 locs1 ls B hr hm ⟨L, hL, hP1, hD1, hF, hN⟩ hS1 hl
theorem zr_aast {a v : Nat} {i : Int32} (hd : decode md.2.1 pc = .ok (.aastore, 1)) (hK : (zK M a = 18 ∧ zK M v = 5) ∨ (zK M a = 19 ∧ zK M v = 9)) (hi : vp_in i (zN M a)) (kk : zw G md d k0 n0 Q (pc + 1) lv st (zsetB M a (va_up (zB M a) i.toNatClampNeg (some v)))) : zw G md d k0 n0 Q pc lv (.ref v :: .int i :: .ref a :: st) M := by
  intro p e R s m args below meth c9 H locs ls B hr hm hw hS hl
  obtain ⟨L, hL, hP, hD, hF, hN⟩ := hw
  have ha : a ∈ L := (hL a).mpr (by omega)
  have hva : v ∈ L := (hL v).mpr (by omega)
  obtain ⟨q, hq⟩ := zat (f := zE (gi G) M) ha
  obtain ⟨qv, hqv⟩ := zat (f := zE (gi G) M) hva
  have hq0 := hq
  have hT := B.2.2.2.2.2.2.2.2.2.1
  have fin : ∀ (H1 : Heap) (locs1 : List Loc), va_P (gD G) vwCl (va_pl L (zE (gi G) (zsetB M a (va_up (zB M a) i.toNatClampNeg (some v))))) H1 → va_D (gA G) (va_pl L (zE (gi G) (zsetB M a (va_up (zB M a) i.toNatClampNeg (some v))))) → va_S (gA G) s.heap H1 locs1 → W p (gL G) e R s m args below meth c9 H1 locs1 (zC M - k0) (zS M - n0) (zZ G k0 n0 Q below s) (F0 m (pc + 1) ls st) :=
    fun H1 locs1 hP1 hD1 hS1 => kk p e R s m args below meth c9 H1 locs1 ls B hr hm ⟨L, hL, hP1, hD1, hF, hN⟩ hS1 hl
  have oth : ∀ b, b ≠ a → zE (gi G) (zsetB M a (va_up (zB M a) i.toNatClampNeg (some v))) b = zE (gi G) M b := fun b hb => zE_congr rfl rfl rfl (by rw [zsetB_B, va_up_ne _ _ hb]) rfl (fun _ => rfl) (fun _ => rfl)
  rcases hK with ⟨hK, hKv⟩ | ⟨hK, hKv⟩
  · rw [zE_V hK] at hq
    rw [zE_obj (c := 4) hKv (by omega)] at hqv
    refine va_astq B.1 B.2.1 hT hP hD hS q 4 qv 4 (r := (RX4, TX4, 6)) hq rfl hqv rfl hi hd (fun H1 locs1 hP1 hD1 hS1 => ?_)
    rw [zset hD ha hq0, zup (ids := gi G) (M := M) (M' := zsetB M a (va_up (zB M a) i.toNatClampNeg (some v))) (by rw [zE_V (by exact hK), zsetB_B, va_up_self]; rfl) oth] at hP1 hD1
    exact fin H1 locs1 hP1 hD1 hS1
  · rw [zE_T hK] at hq
    rw [zE_obj (c := 8) hKv (by omega)] at hqv
    refine va_astq B.1 B.2.1 hT hP hD hS q 5 qv 8 (r := (RX8, TX8, 5)) hq rfl hqv rfl hi hd (fun H1 locs1 hP1 hD1 hS1 => ?_)
    rw [zset hD ha hq0, zup (ids := gi G) (M := M) (M' := zsetB M a (va_up (zB M a) i.toNatClampNeg (some v))) (by rw [zE_T (by exact hK), zsetB_B, va_up_self]; rfl) oth] at hP1 hD1
    exact fin H1 locs1 hP1 hD1 hS1
/-- System.arraycopy of bytes or ints -/
theorem zr_copy {idx a b : Nat} {sp dp n : Int32} (hd : decode md.2.1 pc = .ok (.invokestatic idx, 3)) (hlk : Cond.methodLink md.1.cls idx arraycopyName ∈ lw_tbl) (hK : (zK M a = 14 ∧ zK M b = 14) ∨ (zK M a = 15 ∧ zK M b = 15))
    (h1 : ¬ sp < 0) (h2 : ¬ dp < 0) (h3 : ¬ n < 0) (h4 : sp.toNatClampNeg + n.toNatClampNeg ≤ zN M a) (h5 : dp.toNatClampNeg + n.toNatClampNeg ≤ zN M b) (hd1 : 2 ≤ d) (hst : (st.map fun v => v.category).sum ≤ 8)
    (kk : zw G md d k0 n0 Q (pc + 3) lv st (zsetA M b (va_cpy (zA M a) (zA M b) sp.toNatClampNeg dp.toNatClampNeg n.toNatClampNeg))) : zw G md d k0 n0 Q pc lv (.int n :: .int dp :: .ref b :: .int sp :: .ref a :: st) M := by
  intro p e R s m args below meth c9 H locs ls B hr hm hw hS hl
  obtain ⟨L, hL, hP, hD, hF, hN⟩ := hw
  have ha : a ∈ L := (hL a).mpr (by omega)
  have hb : b ∈ L := (hL b).mpr (by omega)
  obtain ⟨qa, hqa⟩ := zat (f := zE (gi G) M) ha
  obtain ⟨qb, hqb⟩ := zat (f := zE (gi G) M) hb
  have hq0 := hqb
  have hO := B.2.2.2.2.2.2.2.2
  have hT := hO.2.1
  have oth : ∀ x, x ≠ b → zE (gi G) (zsetA M b (va_cpy (zA M a) (zA M b) sp.toNatClampNeg dp.toNatClampNeg n.toNatClampNeg)) x = zE (gi G) M x := fun x hx => zE_congr rfl rfl (by rw [zsetA_A, va_up_ne _ _ hx]) rfl rfl (fun _ => rfl) (fun _ => rfl)
  have hml : c9.maxLocals = ls.size := by rw [B.2.2.2.2.1, hl.1]
  have hnw : nativeFrameWords "java/lang/System" "arraycopy" 5 + 11 ≤ 68 := by decide +kernel
  have hfr : 1 ≤ R.frames := by omega
  have hlo : (st.map fun v => v.category).sum + (nativeFrameWords "java/lang/System" "arraycopy" 5 + 11) ≤ R.locals := by omega
  have hfit : ∀ x i, zK M x = 14 → fits .byte (.int (zA M x i)) = true := hF
  rcases hK with ⟨hKa, hKb⟩ | ⟨hKa, hKb⟩
  · rw [zE_B hKa] at hqa
    rw [zE_B hKb] at hqb
    refine va_copyi B.1 B.2.1 hml B.2.2.2.2.2.1 (zgw_use rfl (hO.1 _ hlk rfl) args) (zgw_use rfl (hO.1 _ (show Cond.native arraycopyName ∈ lw_tbl by decide +kernel) rfl) args) (zgw_use rfl (hO.1 _ (show Cond.static arraycopyName ∈ lw_tbl by decide +kernel) rfl) args) (zgw_use rfl (hO.1 _ (show Cond.initialized "java/lang/System" ∈ lw_tbl by decide +kernel) rfl) args) hT hP hD hS qa qb 0 0 hqa hqb rfl rfl rfl h1 h2 h3 h4 h5 (fun i _ => hF a _ hKa) hfr hlo hd (fun H1 locs1 hP1 hD1 hS1 => ?_)
    rw [zset hD hb hq0, zup (ids := gi G) (M := M) (M' := zsetA M b (va_cpy (zA M a) (zA M b) sp.toNatClampNeg dp.toNatClampNeg n.toNatClampNeg)) (by rw [zE_B (by exact hKb), zsetA_A, va_up_self]; rfl) oth] at hP1 hD1
    refine kk p e R s m args below meth c9 H1 locs1 ls B hr hm ⟨L, hL, hP1, hD1, zfitU hF (fun h j => ?_), hN⟩ hS1 hl
    unfold va_cpy
    split
    · exact hF a _ hKa
    · exact hF b _ hKb
  · rw [zE_I hKa] at hqa
    rw [zE_I hKb] at hqb
    refine va_copyi B.1 B.2.1 hml B.2.2.2.2.2.1 (zgw_use rfl (hO.1 _ hlk rfl) args) (zgw_use rfl (hO.1 _ (show Cond.native arraycopyName ∈ lw_tbl by decide +kernel) rfl) args) (zgw_use rfl (hO.1 _ (show Cond.static arraycopyName ∈ lw_tbl by decide +kernel) rfl) args) (zgw_use rfl (hO.1 _ (show Cond.initialized "java/lang/System" ∈ lw_tbl by decide +kernel) rfl) args) hT hP hD hS qa qb 1 1 hqa hqb rfl rfl rfl h1 h2 h3 h4 h5 (fun i _ => rfl) hfr hlo hd (fun H1 locs1 hP1 hD1 hS1 => ?_)
    rw [zset hD hb hq0, zup (ids := gi G) (M := M) (M' := zsetA M b (va_cpy (zA M a) (zA M b) sp.toNatClampNeg dp.toNatClampNeg n.toNatClampNeg)) (by rw [zE_I (by exact hKb), zsetA_A, va_up_self]; rfl) oth] at hP1 hD1
    exact kk p e R s m args below meth c9 H1 locs1 ls B hr hm ⟨L, hL, hP1, hD1, zfitU hF (fun h => by omega), hN⟩ hS1 hl
end ZA
end
section
/-! ===== ROWS of zw: what is made; returns ===== -/
theorem zc_ins : ∀ c, c < 13 → Cond.instantiable (zRX c) (zn c) ∈ lw_tbl := by
  refine zc_cases ?_ ?_ ?_ ?_ ?_ ?_ ?_ ?_ ?_ ?_ ?_ ?_ ?_ <;> decide +kernel
theorem zc_ini : ∀ c, c < 13 → Cond.initialized (zRX c) ∈ lw_tbl := by
  refine zc_cases ?_ ?_ ?_ ?_ ?_ ?_ ?_ ?_ ?_ ?_ ?_ ?_ ?_ <;> decide +kernel
def zdef (c : Nat) : List Value := (List.range (zn c)).map (fun k => if zref (zty c k) = true then .null else .int 0)
theorem zdef_ok : ∀ c, c < 13 → ∀ j, j < zn c → defaultValue (zty c j) = vp_V (zdef c) j := by
  refine zc_cases ?_ ?_ ?_ ?_ ?_ ?_ ?_ ?_ ?_ ?_ ?_ ?_ ?_ <;> decide +kernel
theorem znewO_K (M : zM) (q c n : Nat) : zK (znewO M q c n) q = c + 1 := va_up_self _ _ _
theorem znewA_K (M : zM) (q κ n : Nat) : zK (znewA M q κ n) q = κ := va_up_self _ _ _
theorem znewA_N (M : zM) (q κ n : Nat) : zN (znewA M q κ n) q = n := va_up_self _ _ _
theorem znewA_A (M : zM) (q κ n : Nat) : zA (znewA M q κ n) q = (fun _ => 0) := va_up_self _ _ _
theorem znewA_B (M : zM) (q κ n : Nat) : zB (znewA M q κ n) q = (fun _ => none) := va_up_self _ _ _
theorem znewA_J (M : zM) (q κ n : Nat) : zJ (znewA M q κ n) q = (fun _ => 0) := va_up_self _ _ _
theorem znewO_E {ids : Nat → ClassId} {M : zM} {q c n : Nat} (hc : c < 13) : zE ids (znewO M q c n) q = .inr (c, zdef c) := by
  rw [zE_obj (znewO_K M q c n) hc]
  congr 2
  unfold zflds zdef
  refine List.map_congr_left (fun j _ => ?_)
  unfold zfld
  have h1 : zI (znewO M q c n) (c * 32 + j) q = 0 := if_pos rfl
  have h2 : zR (znewO M q c n) (c * 32 + j) q = none := if_pos rfl
  rw [h1, h2]
  rfl
theorem zfresh {A : Nat → Prop} {L : List Nat} {f : Nat → va_E} {q : Nat} {e : va_E} (hD : va_D A (va_pl L f ++ [(q, e)])) : q ∉ L := by
  intro h
  obtain ⟨i, hi⟩ := zat (f := f) h
  have hl := (List.getElem?_eq_some_iff.mp hi).1
  have h1 : (va_pl L f ++ [(q, e)])[i]? = some (q, f q) := by rw [List.getElem?_append_left hl]; exact hi
  have h2 : (va_pl L f ++ [(q, e)])[(va_pl L f).length]? = some (q, e) := by rw [List.getElem?_append_right (Nat.le_refl _), Nat.sub_self]; rfl
  have := hD.1 _ _ _ _ h1 h2 rfl
  omega
theorem zpush {ids : Nat → ClassId} {M M' : zM} {L : List Nat} {q : Nat} {e : va_E} (h : q ∉ L) (hE : zE ids M' q = e) (hO : ∀ b, b ≠ q → zE ids M' b = zE ids M b) : va_pl L (zE ids M) ++ [(q, e)] = va_pl (L ++ [q]) (zE ids M') := by
  rw [va_pl_push h]
  exact zup hE hO _
section ZN
variable {G : zG} {md : zD} {d k0 n0 : Nat} {Q : zOut → zM → Prop} {pc : Nat} {lv : List (Option Value)} {st : List Value} {M : zM}
theorem zr_new {idx c : Nat} (hd : decode md.2.1 pc = .ok (.new idx, 3)) (hlk : Cond.classLink md.1.cls idx (zRX c) ∈ lw_tbl) (hc : c < 13) (hb : zC M + 1 ≤ 600128 ∧ zS M + zn c ≤ 7301098)
    (kk : ∀ q, zK M q = 0 → zw G md d k0 n0 Q (pc + 3) lv (.ref q :: st) (znewO M q c (zn c))) : zw G md d k0 n0 Q pc lv st M := by
  intro p e R s m args below meth c9 H locs ls B hr hm hw hS hl
  obtain ⟨L, hL, hP, hD, hF, hN⟩ := hw
  have hO := B.2.2.2.2.2.2.2.2
  have hts : ∀ w ∈ u_ws (zRX c) (zTX c) (zn c), w.before args s = true := fun w h => zgw_use (zc_gw c hc w h) (hO.1 w (zc_in c hc w h) (zc_gw c hc w h)) args
  refine va_new (ci := c) (fs := zdef c) B.1 B.2.1 hts (fun _ h => h) (zty c) (zc_ty c hc) B.2.2.2.2.2.1 (zgw_use rfl (hO.1 _ hlk rfl) args) (zgw_use rfl (hO.1 _ (zc_ins c hc) rfl) args) (zgw_use rfl (hO.1 _ (zc_ini c hc) rfl) args) hO.2.1 hP hD hS (fun q h => Nat.le_trans hO.2.2.2.2.2.2.2.2.1 h) (zc_cl c hc) (zdef_ok c hc) (by omega) (by omega) hd (fun q H1 hP1 hD1 hS1 => ?_)
  have hq := zfresh hD1
  have hK0 : zK M q = 0 := by
    by_cases h : zK M q = 0
    · exact h
    · exact absurd ((hL q).mpr h) hq
  have oth : ∀ b, b ≠ q → zE (gi G) (znewO M q c (zn c)) b = zE (gi G) M b := fun b hb => zE_congr (va_up_ne _ _ hb) rfl rfl rfl rfl (fun _ => if_neg hb) (fun _ => if_neg hb)
  rw [zpush (M' := znewO M q c (zn c)) hq (znewO_E hc) oth] at hP1 hD1
  have e1 : zC M - k0 + 1 = zC (znewO M q c (zn c)) - k0 := by show _ = zC M + 1 - k0; omega
  have e2 : zS M - n0 + zn c = zS (znewO M q c (zn c)) - n0 := by show _ = zS M + zn c - n0; omega
  rw [e1, e2]
  refine kk q hK0 p e R s m args below meth c9 H1 locs ls B hr ⟨by show _ ≤ zC M + 1; omega, by show _ ≤ zS M + zn c; omega⟩ ⟨L ++ [q], fun b => ?_, hP1, hD1, fun b i hb => ?_, hN⟩ hS1 hl
  · show b ∈ L ++ [q] ↔ va_up (zK M) q (c + 1) b ≠ 0
    by_cases h : b = q
    · subst h
      rw [va_up_self]
      simp
    · rw [va_up_ne _ _ h, ← hL b]
      simp [h]
  · have hb' : va_up (zK M) q (c + 1) b = 14 := hb
    by_cases h : b = q
    · subst h
      rw [va_up_self] at hb'
      omega
    · rw [va_up_ne _ _ h] at hb'
      exact hF b i hb'
/-- the end of what makes a row: kind κ, length n -/
theorem znewA_end {q κ n : Nat} {locs : List Loc} {p : Program} {e : Env} {R : Room} {s : State} {m : MethodId} {args : Array Value} {below : List Frame} {meth : Method} {c9 : Code} {H1 : Heap} {ls : Array Slot} {L : List Nat} {pc2 : Nat} {e0 : va_E}
    (B : zBd G md p s m meth c9) (hr : d ≤ R.frames ∧ 38 * d ≤ R.locals ∧ 600128 ≤ k0 + R.cells ∧ 7301098 ≤ n0 + R.slots) (hm : k0 ≤ zC M ∧ n0 ≤ zS M) (hκ : 14 ≤ κ ∧ κ ≤ 19) (hn : n < 2 ^ 31)
    (hL : ∀ a, a ∈ L ↔ zK M a ≠ 0) (hF : ∀ b i, zK M b = 14 → fits .byte (.int (zA M b i)) = true) (hN : ∀ a, zN M a < 2 ^ 31) (hE : zE (gi G) (znewA M q κ n) q = e0)
    (hP1 : va_P (gD G) vwCl (va_pl L (zE (gi G) M) ++ [(q, e0)]) H1) (hD1 : va_D (gA G) (va_pl L (zE (gi G) M) ++ [(q, e0)])) (hS1 : va_S (gA G) s.heap H1 locs) (hl : zlv ls md.2.2.1 lv)
    (kk : ∀ q, zK M q = 0 → zw G md d k0 n0 Q pc2 lv (.ref q :: st) (znewA M q κ n)) : W p (gL G) e R s m args below meth c9 H1 locs (zC M - k0 + 1) (zS M - n0 + n) (zZ G k0 n0 Q below s) (F0 m pc2 ls (.ref q :: st)) := by
  have hq := zfresh hD1
  have hK0 : zK M q = 0 := by
    by_cases h : zK M q = 0
    · exact h
    · exact absurd ((hL q).mpr h) hq
  have oth : ∀ b, b ≠ q → zE (gi G) (znewA M q κ n) b = zE (gi G) M b := fun b hb => zE_congr (va_up_ne _ _ hb) (va_up_ne _ _ hb) (va_up_ne _ _ hb) (va_up_ne _ _ hb) (va_up_ne _ _ hb) (fun _ => rfl) (fun _ => rfl)
  rw [zpush (M' := znewA M q κ n) hq hE oth] at hP1 hD1
  have e1 : zC M - k0 + 1 = zC (znewA M q κ n) - k0 := by show _ = zC M + 1 - k0; omega
  have e2 : zS M - n0 + n = zS (znewA M q κ n) - n0 := by show _ = zS M + n - n0; omega
  rw [e1, e2]
  refine kk q hK0 p e R s m args below meth c9 H1 locs ls B hr ⟨by show _ ≤ zC M + 1; omega, by show _ ≤ zS M + n; omega⟩ ⟨L ++ [q], fun b => ?_, hP1, hD1, fun b i hb => ?_, fun b => ?_⟩ hS1 hl
  · show b ∈ L ++ [q] ↔ va_up (zK M) q κ b ≠ 0
    by_cases h : b = q
    · subst h
      rw [va_up_self]
      simp
      omega
    · rw [va_up_ne _ _ h, ← hL b]
      simp [h]
  · have hb' : va_up (zK M) q κ b = 14 := hb
    show fits .byte (.int (va_up (zA M) q (fun _ => 0) b i)) = true
    by_cases h : b = q
    · subst h
      rw [va_up_self]
      rfl
    · rw [va_up_ne _ _ h] at hb' ⊢
      exact hF b i hb'
  · show va_up (zN M) q n b < 2 ^ 31
    by_cases h : b = q
    · subst h
      rw [va_up_self]
      exact hn
    · rw [va_up_ne _ _ h]
      exact hN b
theorem zr_newP {atype : ArrayType} {ty : FieldType} {κ t0 : Nat} {n : Int32} (hd : decode md.2.1 pc = .ok (.newarray atype, 2)) (hty : newarray.typeOf atype = ty) (hk : (ty = .byte ∧ κ = 14 ∧ t0 = 0) ∨ (ty = .int ∧ κ = 15 ∧ t0 = 1) ∨ (ty = .boolean ∧ κ = 16 ∧ t0 = 2) ∨ (ty = .long ∧ κ = 17 ∧ t0 = 3))
    (hlk : Cond.arrayClass ty ∈ lw_tbl) (hn : ¬ n < 0) (hb : zC M + 1 ≤ 600128 ∧ zS M + n.toNatClampNeg ≤ 7301098) (kk : ∀ q, zK M q = 0 → zw G md d k0 n0 Q (pc + 2) lv (.ref q :: st) (znewA M q κ n.toNatClampNeg)) : zw G md d k0 n0 Q pc lv (.int n :: st) M := by
  intro p e R s m args below meth c9 H locs ls B hr hm hw hS hl
  obtain ⟨L, hL, hP, hD, hF, hN⟩ := hw
  have hO := B.2.2.2.2.2.2.2.2
  have hsz : n.toNatClampNeg < 2 ^ 31 := by omega
  have harr : (Cond.arrayClass (newarray.typeOf atype)).before args s = true := by rw [hty]; exact zgw_use rfl (hO.1 _ hlk rfl) args
  have hA : ∀ q, s.heap.size ≤ q → gA G q := fun q h => Nat.le_trans hO.2.2.2.2.2.2.2.2.1 h
  have hcl : ∀ (cA : ClassId) (k : Nat) (t : FieldType), va_K (gD G) vwCl (zTys (gi G) ++ [(cA, t)]) s → (zTys (gi G))[k]? = some (gi G k, t) → (∀ C, t ≠ .object C) → cA = gi G k := by
    intro cA k t hK hk ht
    have h1 := (hK.2 (zTys (gi G)).length (cA, t) (by rw [List.getElem?_append_right (Nat.le_refl _), Nat.sub_self]; rfl)).2
    have h2 := (hO.2.1.2 k (gi G k, t) hk).2
    cases t with
    | object C => exact absurd rfl (ht C)
    | _ => exact Option.some.inj (h1.symm.trans h2)
  rcases hk with ⟨rfl, rfl, rfl⟩ | ⟨rfl, rfl, rfl⟩ | ⟨rfl, rfl, rfl⟩ | ⟨rfl, rfl, rfl⟩
  · refine va_newa (a0 := (n.toNatClampNeg, .inl (fun _ => 0))) B.1 B.2.1 harr hty hO.2.1 hP hD hS hA (fun _ => rfl) hn rfl (by simp only [componentBytes]; omega) (by omega) (by omega) hd (fun q cA H1 hK1 hP1 hD1 hS1 => ?_)
    have e0 := hcl cA 0 _ hK1 rfl (fun _ h => by cases h)
    subst e0
    exact znewA_end B hr hm (by omega) hsz hL hF hN (by rw [zE_B (znewA_K M q 14 _), znewA_N, znewA_A]) hP1 hD1 hS1 hl kk
  · refine va_newa (a0 := (n.toNatClampNeg, .inl (fun _ => 0))) B.1 B.2.1 harr hty hO.2.1 hP hD hS hA (fun _ => rfl) hn rfl (by simp only [componentBytes]; omega) (by omega) (by omega) hd (fun q cA H1 hK1 hP1 hD1 hS1 => ?_)
    have e0 := hcl cA 1 _ hK1 rfl (fun _ h => by cases h)
    subst e0
    exact znewA_end B hr hm (by omega) hsz hL hF hN (by rw [zE_I (znewA_K M q 15 _), znewA_N, znewA_A]) hP1 hD1 hS1 hl kk
  · refine va_newa (a0 := (n.toNatClampNeg, .inl (fun _ => 0))) B.1 B.2.1 harr hty hO.2.1 hP hD hS hA (fun _ => rfl) hn rfl (by simp only [componentBytes]; omega) (by omega) (by omega) hd (fun q cA H1 hK1 hP1 hD1 hS1 => ?_)
    have e0 := hcl cA 2 _ hK1 rfl (fun _ h => by cases h)
    subst e0
    exact znewA_end B hr hm (by omega) hsz hL hF hN (by rw [zE_Z (znewA_K M q 16 _), znewA_N, znewA_A]) hP1 hD1 hS1 hl kk
  · refine va_newa (a0 := (n.toNatClampNeg, .inr (.inl (fun _ => 0)))) B.1 B.2.1 harr hty hO.2.1 hP hD hS hA (fun _ => rfl) hn rfl (by simp only [componentBytes]; omega) (by omega) (by omega) hd (fun q cA H1 hK1 hP1 hD1 hS1 => ?_)
    have e0 := hcl cA 3 _ hK1 rfl (fun _ h => by cases h)
    subst e0
    exact znewA_end B hr hm (by omega) hsz hL hF hN (by rw [zE_J (znewA_K M q 17 _), znewA_N, znewA_J]) hP1 hD1 hS1 hl kk
theorem zr_newQ {idx κ t0 : Nat} {C : String} {n : Int32} (hd : decode md.2.1 pc = .ok (.anewarray idx, 3)) (hk : (C = RX4 ∧ κ = 18 ∧ t0 = 4) ∨ (C = RX8 ∧ κ = 19 ∧ t0 = 5)) (hlk : Cond.classLink md.1.cls idx C ∈ lw_tbl) (hlk2 : Cond.arrayOver (.object C) ∈ lw_tbl)
    (hn : ¬ n < 0) (hb : zC M + 1 ≤ 600128 ∧ zS M + n.toNatClampNeg ≤ 7301098) (kk : ∀ q, zK M q = 0 → zw G md d k0 n0 Q (pc + 3) lv (.ref q :: st) (znewA M q κ n.toNatClampNeg)) : zw G md d k0 n0 Q pc lv (.int n :: st) M := by
  intro p e R s m args below meth c9 H locs ls B hr hm hw hS hl
  obtain ⟨L, hL, hP, hD, hF, hN⟩ := hw
  have hO := B.2.2.2.2.2.2.2.2
  have hsz : n.toNatClampNeg < 2 ^ 31 := by omega
  have hA : ∀ q, s.heap.size ≤ q → gA G q := fun q h => Nat.le_trans hO.2.2.2.2.2.2.2.2.1 h
  refine va_newq B.1 B.2.1 B.2.2.2.2.2.1 (zgw_use rfl (hO.1 _ hlk rfl) args) (show va_AO C s from hO.1 _ hlk2 rfl) hO.2.1 hP hD hS hA hn rfl (by omega) (by omega) (by omega) hd (fun q cA H1 hK1 hP1 hD1 hS1 => ?_)
  have h1 := (hK1.2 (zTys (gi G)).length (cA, .object C) (by rw [List.getElem?_append_right (Nat.le_refl _), Nat.sub_self]; rfl)).2
  obtain ⟨_, _, _, _, _, h1⟩ := h1
  rcases hk with ⟨rfl, rfl, rfl⟩ | ⟨rfl, rfl, rfl⟩
  · obtain ⟨_, _, _, _, _, h2⟩ := (hO.2.1.2 4 (gi G 4, .object RX4) rfl).2
    have e0 : cA = gi G 4 := Option.some.inj (h1.symm.trans h2)
    subst e0
    exact znewA_end B hr hm (by omega) hsz hL hF hN (by rw [zE_V (znewA_K M q 18 _), znewA_N, znewA_B]) hP1 hD1 hS1 hl kk
  · obtain ⟨_, _, _, _, _, h2⟩ := (hO.2.1.2 5 (gi G 5, .object RX8) rfl).2
    have e0 : cA = gi G 5 := Option.some.inj (h1.symm.trans h2)
    subst e0
    exact znewA_end B hr hm (by omega) hsz hL hF hN (by rw [zE_T (znewA_K M q 19 _), znewA_N, znewA_B]) hP1 hD1 hS1 hl kk
theorem zr_objInit {idx a : Nat} (hd : decode md.2.1 pc = .ok (.invokespecial idx, 3)) (hlk : Cond.methodLink md.1.cls idx Lib.objectInit ∈ lw_tbl) (hst : (st.map fun v => v.category).sum ≤ 8) (hd1 : 1 ≤ d) (kk : zw G md d k0 n0 Q (pc + 3) lv st M) : zw G md d k0 n0 Q pc lv (.ref a :: st) M := by
  intro p e R s m args below meth c9 H locs ls B hr hm hw hS hl
  have hO := B.2.2.2.2.2.2.2.2
  refine W.objInit B.1 B.2.1 B.2.2.2.2.2.1 (zgw_use rfl (hO.1 _ hlk rfl) args) (zgw_use rfl (hO.1 _ (show Cond.instanceMethod Lib.objectInit ∈ lw_tbl by decide +kernel) rfl) args) (zgw_use rfl (hO.1 _ (show Cond.code Lib.objectInit ⟨#[0xb1]⟩ 1 none ∈ lw_tbl by decide +kernel) rfl) args) rfl (by show ls.size = _; rw [hl.1, B.2.2.2.2.1]) rfl hd (by omega) ?_ (kk p e R s m args below meth c9 H locs ls B hr hm hw hS hl)
  have := lv_room (m := m) (pc := pc) (ls := ls) (rest := (.ref a :: st)) (st := st) hst
  omega
/-- a return: what the row of the kit gives, as zZ -/
theorem zret {M : zM} {p : Program} {e : Env} {R : Room} {s : State} {m : MethodId} {args : Array Value} {below : List Frame} {meth : Method} {c9 : Code} {H : Heap} {locs : List Loc} {v : Option Value} {g : JFrame} (hm : k0 ≤ zC M ∧ n0 ≤ zS M) (hw : zW G M H) (hq : Q (.inl v) M)
    (h : W p (gL G) e R s m args below meth c9 H locs (zC M - k0) (zS M - n0) (MQ below (fun _ _ o t => o = .returned v ∧ t.heap = H) args s (zC M - k0) (zS M - n0) (gA G)) g) : W p (gL G) e R s m args below meth c9 H locs (zC M - k0) (zS M - n0) (zZ G k0 n0 Q below s) g := by
  intro T hT X
  obtain ⟨t, a1, o, b1, b2, ⟨b3, b4⟩, L, b5, b6⟩ := h T hT X
  exact ⟨t, a1, o, b1, b2, .inl v, M, L, b3, hq, by rw [b4]; exact hw, hm.1, hm.2, b5.2.1, b5.2.2, b6⟩
theorem zr_iret {v : Int32} (hd : decode md.2.1 pc = .ok (.ireturn, 1)) (ht : md.2.2.2.1 = some .int) (hq : Q (.inl (some (.int v))) M) : zw G md d k0 n0 Q pc lv [.int v] M := by
  intro p e R s m args below meth c9 H locs ls B hr hm hw hS hl
  exact zret hm hw hq (W.iret B.1 B.2.1 (B.2.2.1.trans ht) (fun t h _ => ⟨rfl, h⟩) hS.2.2 hd B.2.2.2.1)
theorem zr_zret {v : Int32} (hd : decode md.2.1 pc = .ok (.ireturn, 1)) (ht : md.2.2.2.1 = some .boolean) (hv : v = 0 ∨ v = 1) (hq : Q (.inl (some (.int v))) M) : zw G md d k0 n0 Q pc lv [.int v] M := by
  intro p e R s m args below meth c9 H locs ls B hr hm hw hS hl
  exact zret hm hw hq (W.zret B.1 B.2.1 (B.2.2.1.trans ht) (by rcases hv with rfl | rfl <;> rfl) (fun t h _ => ⟨rfl, h⟩) hS.2.2 hd B.2.2.2.1)
theorem zr_lret {v : Int64} (hd : decode md.2.1 pc = .ok (.lreturn, 1)) (ht : md.2.2.2.1 = some .long) (hq : Q (.inl (some (.long v))) M) : zw G md d k0 n0 Q pc lv [.long v] M := by
  intro p e R s m args below meth c9 H locs ls B hr hm hw hS hl
  exact zret hm hw hq (W.lret B.1 B.2.1 (B.2.2.1.trans ht) (fun t h _ => ⟨rfl, h⟩) hS.2.2 hd B.2.2.2.1)
theorem zr_vret (hd : decode md.2.1 pc = .ok (.return_, 1)) (ht : md.2.2.2.1 = none) (hq : Q (.inl none) M) : zw G md d k0 n0 Q pc lv [] M := by
  intro p e R s m args below meth c9 H locs ls B hr hm hw hS hl
  exact zret hm hw hq (W.vret B.1 B.2.1 (B.2.2.1.trans ht) (fun t h _ => ⟨rfl, h⟩) hS.2.2 hd B.2.2.2.1)
theorem zr_aret {v : Value} {rt : FieldType} (hd : decode md.2.1 pc = .ok (.areturn, 1)) (ht : md.2.2.2.1 = some rt) (hrt : (∃ n, rt = .object n) ∨ ∃ t, rt = .array t) (hv : v = .null ∨ ∃ a, v = .ref a) (hq : Q (.inl (some v)) M) : zw G md d k0 n0 Q pc lv [v] M := by
  intro p e R s m args below meth c9 H locs ls B hr hm hw hS hl
  exact zret hm hw hq (W.aret B.1 B.2.1 (B.2.2.1.trans ht) hrt hv (fun t h _ => ⟨rfl, h⟩) hS.2.2 hd B.2.2.2.1)
end ZN
end
section
/-! ===== CONTRACTS, CALLS, THROWS ===== -/
def zcode (md : zD) : Cond := match md.2.2.2.2 with
  | [] => .code md.1 md.2.1 md.2.2.1 md.2.2.2.1
  | h :: t => .codeWith md.1 md.2.1 md.2.2.1 md.2.2.2.1 (h :: t)
theorem zcode_spec {md : zD} {a : Array Value} {U : State} {mk : MethodId} (h : (zcode md).before a U = true) (hn : U.methodNamed? md.1 = some mk) :
    ∃ (meth : Method) (c : Code), U.vm.method? mk = some meth ∧ meth.code = some c ∧ c.code = md.2.1 ∧ c.maxLocals = md.2.2.1 ∧ meth.sig.returnType = md.2.2.2.1 ∧ meth.locks = false ∧ c.exceptionTable.toList = tableOf md.2.2.2.2 ∧ parseMethodDescriptor md.1.desc = some meth.sig := by
  unfold zcode at h
  split at h
  · rename_i e
    obtain ⟨meth, c, h1, h2, h3, h4, h5, h6, h7, h8⟩ := Cond.code_spec hn h
    refine ⟨meth, c, h1, h2, h3, h4, h5, h6, ?_, h8⟩
    rw [e, Array.isEmpty_iff.mp h7]
    rfl
  · rename_i x t e
    obtain ⟨m9, meth, c, hn9, h1, h2, h3, h4, h5, h6, h7, h8⟩ := Cond.codeWith_spec h
    cases Option.some.inj (hn9.symm.trans hn)
    refine ⟨meth, c, h1, h2, h3, h4, h6, h7, ?_, h8⟩
    rw [e, ← h5, table_eq]
abbrev zroom (d : Nat) (M : zM) : Room := { frames := d, cells := 600128 - zC M, slots := 7301098 - zS M, locals := 38 * d }
def zPc (G : zG) (As : List Value) (M : zM) : Array Value → State → Prop := fun a U => a = As.toArray ∧ zO G U U.heap ∧ zW G M U.heap
/-- THE CONTRACT: called with As in the memory M, d frames deep, md comes to Q -/
def zMet (G : zG) (md : zD) (d : Nat) (As : List Value) (M : zM) (Q : zOut → zM → Prop) : Prop :=
  MetFree (gL G) md.1 (headSpec [zcode md] (zroom d M)) (zPc G As M) (fun _ _ _ _ _ => True) (fun _ st o t => zQ G (zC M) (zS M) Q st o t)
def zsl (x : Slot) : Option Value := match x with
  | .val v => some v
  | _ => none
def zent (As : List Value) (n : Nat) : List (Option Value) := (lg_sl As ++ List.replicate (n - (lg_sl As).length) Slot.unset).map zsl
theorem zMet_of {G : zG} {md : zD} {d : Nat} {As : List Value} {M : zM} {Q : zOut → zM → Prop} {lv : List (Option Value)} (hpl : plainName md.1.cls = true) (hlen : (lg_sl As).length ≤ md.2.2.1) (he : zent As md.2.2.1 = lv) (hc : zC M ≤ 600128 ∧ zS M ≤ 7301098)
    (k : zw G md d (zC M) (zS M) Q 0 lv [] M) : zMet G md d As M Q := by
  refine MetFree.of_bodyS (code := md.2.1) (maxLocals := md.2.2.1) (ret := md.2.2.2.1) hpl ?_ ?_
  · intro args s m h hn
    obtain ⟨meth, c, h1, h2, h3, h4, h5, h6, -, -⟩ := zcode_spec (atoms_spec (ws := [zcode md]) h _ List.mem_cons_self) hn
    exact ⟨meth, c, h1, h2, h3, h4, h5, h6⟩
  · intro p e s m args below meth c s₁ B hml hP _
    obtain ⟨rfl, hO, hw⟩ := hP
    have hh0 : s₁.heap = s.heap := by rw [B.state]; rfl
    obtain ⟨meth9, c9, h1, h2, h3, h4, h5, h6, h7, -⟩ := zcode_spec (atoms_spec (ws := [zcode md]) B.pre _ List.mem_cons_self) B.named
    cases Option.some.inj (h1.symm.trans B.method)
    cases Option.some.inj (h2.symm.trans (Stand.of_body B).code)
    have hl := lv_entry As (n := md.2.2.1) hlen
    have hz : zlv ((lg_sl As ++ List.replicate (md.2.2.1 - (lg_sl As).length) Slot.unset).toArray) md.2.2.1 lv := by
      refine ⟨hl.1, hl.2.1, fun i v h => ?_⟩
      subst he
      unfold zent at h
      rw [List.getElem?_map] at h
      rw [List.getElem?_toArray]
      cases hx : (lg_sl As ++ List.replicate (md.2.2.1 - (lg_sl As).length) Slot.unset)[i]? with
      | none => rw [hx] at h; cases h
      | some x =>
        rw [hx] at h
        cases x <;> simp [zsl] at h
        rw [h]
    have K := k p e (headSpec [zcode md] (zroom d M)).room s m As.toArray below meth c s.heap [] _ ⟨B.exec, B.bytes, B.returns, B.notSynchronized, hml, findClass_of_methodNamed B.named, (name_of_methodNamed B.named B.method).1, h7, hO⟩ ⟨Nat.le_refl _, Nat.le_refl _, by show _ ≤ zC M + (600128 - zC M); omega, by show _ ≤ zS M + (7301098 - zS M); omega⟩ ⟨Nat.le_refl _, Nat.le_refl _⟩ hw va_S.rf hz
    rw [Nat.sub_self, Nat.sub_self, ← lg_entry_eq] at K
    obtain ⟨t, a1, o, b1, b2, b3⟩ := K s₁ hh0 (Stand.of_body B)
    exact ⟨t, o, a1, b1, b2, b3⟩
theorem zMet.mono {G : zG} {md : zD} {d : Nat} {As : List Value} {M : zM} {Q Q' : zOut → zM → Prop} (h : zMet G md d As M Q) (hq : ∀ r M', Q r M' → Q' r M') : zMet G md d As M Q' := by
  intro p e ha hc hk s m args below hf happ hP hK
  obtain ⟨n, o, h1, h2, h3, r, M', Ls, q1, q2, q3⟩ := h p e ha hc hk s m args below hf happ hP hK
  exact ⟨n, o, h1, h2, h3, r, M', Ls, q1, hq r M' q2, q3⟩
/-- what a call leaves behind it, seen from the caller's point A -/
def zAft (G : zG) (M M' : zM) (A B : Pt) : Prop := zW G M' B.U.heap ∧ zC M ≤ zC M' ∧ zS M ≤ zS M' ∧ (∃ Ls, B.locs = A.locs ++ Ls ∧ ∀ z ∈ Ls, gh G ≤ z.base) ∧ B.cells = A.cells + (zC M' - zC M) ∧ B.slots = A.slots + (zS M' - zS M) ∧ A.U.heap.size ≤ B.U.heap.size ∧ ∀ q : Nat, q < A.U.heap.size → ¬ gA G q → B.U.heap[q]? = A.U.heap[q]?
def zPre (G : zG) (R : Room) (As : List Value) (M : zM) : Pt → Array Value → Prop := fun A a => A.cells + (600128 - zC M) ≤ R.cells ∧ A.slots + (7301098 - zS M) ≤ R.slots ∧ zPc G As M a A.U
def zPost (G : zG) (M : zM) (Q' : zOut → zM → Prop) : Pt → Array Value → Option Value → Pt → Prop := fun A _ v B => ∃ M', Q' (.inl v) M' ∧ zAft G M M' A B
def zPostX (G : zG) (M : zM) (Q' : zOut → zM → Prop) : Pt → Array Value → Addr → Pt → Prop := fun A _ q B => ∃ (k : Nat) (M' : zM) (ce : Cell), Q' (.inr k) M' ∧ zAft G M M' A B ∧ B.U.heap[q]? = some ce ∧ ce.vm = .none ∧ A.U.vm.findClass (zex k) = some ce.cls
section ZB
variable {G : zG} {R : Room} {p : Program} {e : Env} {below : List Frame} {s : State} {sargs : Array Value}
theorem z_back {md : zD} {d : Nat} {As : List Value} {M : zM} {Q' : zOut → zM → Prop} {len W9 : Nat} (hM : zMet G md d As M Q') (hframes : d + 1 ≤ R.frames) (hlocals : W9 + (md.2.2.1 + 11) + 38 * d ≤ R.locals)
    (hcode : ∀ (a' : Array Value) (U : State), s.WarmedH U.vm → (zcode md).before a' U = true) (hinit : ∀ (a' : Array Value) (U : State), s.WarmedH U.vm → (Cond.initialized md.1.cls).before a' U = true) :
    vx_Back (gL G) R p e below s sargs md.1 len W9 (zPre G R As M) (zPost G M Q') (zPostX G M Q') := by
  intro m meth c A g ig mk a X hg hsize hdg hW hn hp
  have h1 : (headSpec [zcode md] (zroom d M)).pre.before a A.U = true := atoms_intro fun w hw => by
    rw [List.mem_singleton] at hw
    rw [hw]
    exact hcode _ _ X.warmed
  have h2 : (zcode md).before a A.U = true := hcode _ _ X.warmed
  have h3 : (Cond.initialized md.1.cls).before a A.U = true := hinit _ _ X.warmed
  have h4 : A.cells + (headSpec [zcode md] (zroom d M)).room.cells ≤ R.cells := hp.1
  have h5 : A.slots + (headSpec [zcode md] (zroom d M)).room.slots ≤ R.slots := hp.2.1
  have hPc : zPc G As M a (A.U.calling g mk a) := ⟨hp.2.2.1, zO.moved (u := A.U) (U := A.U.calling g mk a) (State.WarmedH.refl _) ⟨Nat.le_refl _, fun _ _ _ => rfl⟩ hp.2.2.2.1, hp.2.2.2.2⟩
  obtain ⟨U, Ls, c0, s0⟩ := A
  dsimp only [Pt.U, Pt.locs, Pt.cells, Pt.slots] at h1 h2 h3 h4 h5 X hn hPc ⊢
  obtain ⟨methY, cY, hmY, hcY, -, hlY, -, -, -, -⟩ := zcode_spec h2 hn
  obtain ⟨kY, hkY, -⟩ := className_of_methodNamed hn
  have hinitY : kY.init = .initialized := Cond.initialized_spec (findClass_of_methodNamed hn) hkY h3
  have h : At U g.method c below := by rw [hg]; exact X.here
  have hlocals9 : W9 + (md.2.2.1 + 11) + (headSpec [zcode md] (zroom d M)).room.locals ≤ R.locals := hlocals
  have happ : (headSpec [zcode md] (zroom d M)).appliesLoose md.1 e.platform (U.calling g mk a) = true :=
    Spec.appliesLoose_calling (g := g) h hdg hn hkY hinitY
      (X.room_calling (g := g) (R' := (headSpec [zcode md] (zroom d M)).room) hsize hmY hcY hframes (by rw [hlY]; omega) h4 h5) h1
  obtain ⟨mid, hmid⟩ := h.above
  have hfr : (U.setTop g).frames = (.java g :: mid) ++ below := by rw [State.frames_setTop' g h.top, hmid]; rfl
  obtain ⟨o, s₂, hsteps, -, hend, hq⟩ := Steps.callFree hM p X.admits X.cas X.clock (acts := []) hfr happ hPc trivial
  have hq' : zQ G (zC M) (zS M) Q' (U.calling g mk a) o s₂ := hq
  rw [State.frames_setTop' g h.top] at hend
  obtain ⟨g₀, hg0⟩ := Option.isSome_iff_exists.mp h.top
  obtain ⟨r, hr⟩ := State.topJava?_eq_some.mp hg0
  have hr' : (({ U with heap := s₂.heap, slotsUsed := s₂.slotsUsed } : State).setVm s₂.vm).frames = .java g₀ :: r := hr
  obtain ⟨out, M', L, hok, hqm, hwm, hk1, hk2, hW₂, hsm, hL⟩ := hq'
  obtain ⟨e2, q2, q3, q4, q5, q6⟩ := id hsm
  have e3 : s₂ = ({ (U.calling g mk a).setFrames s₂.frames with heap := s₂.heap, slotsUsed := s₂.slotsUsed } : State).setVm s₂.vm := by
    have : s₂ = ({ s₂ with vm := (U.calling g mk a).vm } : State).setVm s₂.vm := rfl
    rw [e2] at this
    exact this
  have hW' : U.WarmedH s₂.vm := hW₂
  have hfrm := vx_frame hsm
  have hsame : U.sameButNew ({ U with heap := s₂.heap, slotsUsed := s₂.slotsUsed } : State) L (zC M' - zC M) (zS M' - zS M) := by
    refine ⟨?_, q2, q3, q4, q5, q6⟩
    obtain ⟨t, ht, -⟩ := State.frames_cons hr
    show ({ U with heap := s₂.heap, slotsUsed := s₂.slotsUsed } : State) = { U.setFrames U.frames with heap := s₂.heap, slotsUsed := s₂.slotsUsed }
    rw [State.setFrames_self ht]
  have haft : zAft G M M' ⟨U, Ls, c0, s0⟩ ⟨(({ U with heap := s₂.heap, slotsUsed := s₂.slotsUsed } : State).setVm s₂.vm), Ls ++ L, c0 + (zC M' - zC M), s0 + (zS M' - zS M)⟩ :=
    ⟨hwm, hk1, hk2, ⟨L, rfl, hL⟩, rfl, rfl, hfrm.1, fun q h1 h2 => hfrm.2 q h1 (fun z hz e9 => h2 (by rw [← e9]; exact hL z hz))⟩
  cases out with
  | inl v =>
    have ho : o = .returned v := hok
    subst ho
    obtain ⟨c₂, i₂, len₂, hc₂, hd₂, hf₂⟩ := hend
    have hcc : c₂ = c := by
      have h1 : s₂.code? g.method = U.code? g.method := by
        rw [State.code?_eq, State.code?_eq, hW'.alike.method?]
      exact Option.some.inj (hc₂.symm.trans (h1.trans h.code))
    subst hcc
    have hlen : len₂ = len := by rw [hdg] at hd₂; cases hd₂; rfl
    subst hlen
    have hs₂ : s₂ = (({ U with heap := s₂.heap, slotsUsed := s₂.slotsUsed } : State).setVm s₂.vm).setTop { g with pc := g.pc + len₂, stack := v.toList ++ g.stack } := by
      refine e3.trans ?_
      rw [hf₂, State.calling_eq h.top, State.setFrames_setFrames, State.setTop_of_frames _ hr', hr]
      rfl
    subst hg
    refine Or.inl ⟨v, ⟨(({ U with heap := s₂.heap, slotsUsed := s₂.slotsUsed } : State).setVm s₂.vm), Ls ++ L, c0 + (zC M' - zC M), s0 + (zS M' - zS M)⟩,
      ⟨X.admits, X.cas, X.clock, X.frames, X.room, X.hears, X.method, X.code, (X.here.setHeapUsed s₂.heap s₂.slotsUsed).setVm hW'.alike, X.tail, State.WarmedH.trans X.warmed hW', X.limits, X.bytes, X.same.trans (hsame.setVm s.vm)⟩,
      ⟨M', hqm, haft⟩, ?_⟩
    show Steps p.tables e below _ ((({ U with heap := s₂.heap, slotsUsed := s₂.slotsUsed } : State).setVm s₂.vm).setTop { g with pc := g.pc + len₂, stack := v.toList ++ g.stack })
    rw [← hs₂]
    exact hsteps
  | inr k =>
    obtain ⟨q, ce, rfl, hce, hcv, hcl⟩ := hok
    have hf₂ : s₂.frames = .throwing q :: .java g :: U.frames.tail := hend
    have hs₂ : s₂ = ((({ U with heap := s₂.heap, slotsUsed := s₂.slotsUsed } : State).setVm s₂.vm).setTop g).pushFrame (.throwing q) := by
      refine e3.trans ?_
      rw [hf₂, State.calling_eq h.top, State.setFrames_setFrames, State.pushFrame, State.frames_setTop _ hr', State.setTop_of_frames _ hr', State.setFrames_setFrames, hr]
      rfl
    subst hg
    refine Or.inr ⟨q, ⟨(({ U with heap := s₂.heap, slotsUsed := s₂.slotsUsed } : State).setVm s₂.vm), Ls ++ L, c0 + (zC M' - zC M), s0 + (zS M' - zS M)⟩,
      ⟨X.admits, X.cas, X.clock, X.frames, X.room, X.hears, X.method, X.code, (X.here.setHeapUsed s₂.heap s₂.slotsUsed).setVm hW'.alike, X.tail, State.WarmedH.trans X.warmed hW', X.limits, X.bytes, X.same.trans (hsame.setVm s.vm)⟩,
      ⟨k, M', ce, hqm, haft, hce, hcv, hcl⟩, ?_⟩
    show Steps p.tables e below _ (((({ U with heap := s₂.heap, slotsUsed := s₂.slotsUsed } : State).setVm s₂.vm).setTop g).pushFrame (.throwing q))
    rw [← hs₂]
    exact hsteps
end ZB
end
section
/-! ===== ROWS of zw: calls and throws ===== -/
/-- a method that can be called: its words stand in the tables; n: how many arguments -/
def zmOk (md : zD) (n : Nat) : Prop := zcode md ∈ lw_tbl ∧ zgw (zcode md) = true ∧ Cond.initialized md.1.cls ∈ lw_tbl ∧ (md.1.cls ≠ "java/lang/invoke/MethodHandle" ∧ md.1.cls ≠ "java/lang/invoke/VarHandle") ∧ (parseMethodDescriptor md.1.desc).map (fun d => d.parameters.length) = some n ∧ md.2.2.1 ≤ 19
theorem zmOk.len {md : zD} {n : Nat} (h : zmOk md n) : ∀ sig, parseMethodDescriptor md.1.desc = some sig → n = sig.parameters.length := fun sig h9 => by
  have h2 := h.2.2.2.2.1
  rw [h9] at h2
  exact (Option.some.inj h2).symm
section ZV
variable {G : zG} {md : zD} {d k0 n0 : Nat} {Q : zOut → zM → Prop} {pc : Nat} {lv : List (Option Value)} {st : List Value} {M : zM}
/-- an exception of class k stands over the frame at pc -/
def zt (G : zG) (md : zD) (d k0 n0 : Nat) (Q : zOut → zM → Prop) (pc : Nat) (lv : List (Option Value)) (k : Nat) (M : zM) : Prop :=
  ∀ (p : Program) (e : Env) (R : Room) (s : State) (m : MethodId) (args : Array Value) (below : List Frame) (meth : Method) (c : Code) (H : Heap) (locs : List Loc) (ls : Array Slot) (st : List Value) (q : Addr) (ce : Cell),
    zBd G md p s m meth c → (d ≤ R.frames ∧ 38 * d ≤ R.locals ∧ 600128 ≤ k0 + R.cells ∧ 7301098 ≤ n0 + R.slots) → (k0 ≤ zC M ∧ n0 ≤ zS M) → zW G M H → va_S (gA G) s.heap H locs → zlv ls md.2.2.1 lv → H[q]? = some ce → ce.vm = .none → s.vm.findClass (zex k) = some ce.cls →
    vx_W p (gL G) e R s m args below meth c H locs (zC M - k0) (zS M - n0) (zZ G k0 n0 Q below s) (F0 m pc ls st) q
theorem zt_out {k : Nat} (hh : md.2.2.2.2 = []) (hq : Q (.inr k) M) : zt G md d k0 n0 Q pc lv k M := by
  intro p e R s m args below meth c H locs ls st q ce B hr hm hw hS hl hce hcv hcl T hT X
  obtain ⟨st1, hrun, hend, hW, hsm⟩ := X.leaveThrown q (g := F0 m pc ls st) rfl rfl rfl (fun x hx => by rw [B.2.2.2.2.2.2.2.1, hh] at hx; cases hx) B.2.2.2.1
  refine ⟨_, st1, .threw q, hrun, hend, .inr k, M, locs, ⟨q, ce, rfl, ?_, hcv, hcl⟩, hq, ?_, hm.1, hm.2, hW, hsm, hS.2.2⟩
  · show T.heap[q]? = some ce
    rw [hT]; exact hce
  · show zW G M T.heap
    rw [hT]; exact hw
theorem zpre {p : Program} {R : Room} {s : State} {m : MethodId} {meth : Method} {c : Code} {H : Heap} {locs : List Loc} {As : List Value} (B : zBd G md p s m meth c) (hr : d ≤ R.frames ∧ 38 * d ≤ R.locals ∧ 600128 ≤ k0 + R.cells ∧ 7301098 ≤ n0 + R.slots) (hm : k0 ≤ zC M ∧ n0 ≤ zS M) (hb : zC M ≤ 600128 ∧ zS M ≤ 7301098) (hw : zW G M H) (hS : va_S (gA G) s.heap H locs) {T : State} (hT : T.heap = H) :
    ∀ vm₁, s.WarmedH vm₁ → zPre G R As M ⟨T.setVm vm₁, locs, zC M - k0, zS M - n0⟩ As.toArray := by
  intro vm₁ hW₁
  refine ⟨by show zC M - k0 + (600128 - zC M) ≤ R.cells; omega, by show zS M - n0 + (7301098 - zS M) ≤ R.slots; omega, rfl, ?_, ?_⟩
  · refine zO.moved (u := s) (H := s.heap) hW₁ ⟨?_, ?_⟩ B.2.2.2.2.2.2.2.2
    · show s.heap.size ≤ T.heap.size
      rw [hT]; exact hS.1
    · show ∀ q : Nat, q < s.heap.size → ¬ gA G q → T.heap[q]? = s.heap[q]?
      rw [hT]; exact hS.2.1
  · show zW G M T.heap
    rw [hT]; exact hw
theorem zaft {p : Program} {s : State} {m : MethodId} {meth : Method} {c : Code} {H : Heap} {locs : List Loc} {M' : zM} {A B9 : Pt} (hm : k0 ≤ zC M ∧ n0 ≤ zS M) (hS : va_S (gA G) s.heap H locs) (hA : A.U.heap = H) (hAl : A.locs = locs) (hAc : A.cells = zC M - k0) (hAs : A.slots = zS M - n0) (h : zAft G M M' A B9) :
    (k0 ≤ zC M' ∧ n0 ≤ zS M') ∧ zW G M' B9.U.heap ∧ va_S (gA G) s.heap B9.U.heap B9.locs ∧ B9.cells = zC M' - k0 ∧ B9.slots = zS M' - n0 := by
  obtain ⟨h1, h2, h3, ⟨Ls, h4, h5⟩, h6, h7, h8, h9⟩ := h
  rw [hA] at h8 h9
  refine ⟨⟨by omega, by omega⟩, h1, ⟨Nat.le_trans hS.1 h8, fun q hq hn => ?_, fun l hl => ?_⟩, by omega, by omega⟩
  · rw [h9 q (Nat.lt_of_lt_of_le hq hS.1) hn]
    exact hS.2.1 q hq hn
  · rw [h4, hAl] at hl
    rcases List.mem_append.mp hl with h | h
    · exact hS.2.2 l h
    · exact h5 l h
theorem zr_callV {md' : zD} {d' idx c a n : Nat} {As : List Value} {Q' : zOut → zM → Prop} (hd : decode md.2.1 pc = .ok (.invokevirtual idx, 3)) (hlk : Cond.methodLink md.1.cls idx md'.1 ∈ lw_tbl) (hok : zmOk md' n) (hnil : md'.2.2.2.2 = []) (hin : Cond.instanceMethod md'.1 ∈ lw_tbl) (hsel : Cond.selects (zRX c) md'.1 md'.1 ∈ lw_tbl) (hc : c < 13) (hK : zK M a = c + 1)
    (hn : As.length = n) (hdep : d' + 1 ≤ d) (hst : (st.map fun v => v.category).sum ≤ 8) (hb : zC M ≤ 600128 ∧ zS M ≤ 7301098) (hM : zMet G md' d' (.ref a :: As) M Q') (kx : ∀ k M', Q' (.inr k) M' → zt G md d k0 n0 Q pc lv k M') (kk : ∀ v M', Q' (.inl v) M' → zw G md d k0 n0 Q (pc + 3) lv (v.toList ++ st) M') : zw G md d k0 n0 Q pc lv (As.reverse ++ .ref a :: st) M := by
  intro p e R s m args below meth c9 H locs ls B hr hm hw hS hl T hT X
  have hO := B.2.2.2.2.2.2.2.2
  have hw0 := hw
  obtain ⟨L, hL, hP, hD, hF, hN⟩ := hw0
  obtain ⟨q, hq⟩ := zat (f := zE (gi G) M) ((hL a).mpr (by omega))
  rw [zE_obj hK hc] at hq
  obtain ⟨r, g1, cell, g2, g3, g4, g5⟩ := hP q _ hq
  have hr9 : r = (zRX c, zTX c, zn c) := Option.some.inj (g1.symm.trans (zc_cl c hc))
  subst hr9
  obtain ⟨hSl, hfc, kC, hkC, hkind⟩ := hO.2.1.1 c _ (zc_cl c hc)
  have hback := z_back (R := R) (p := p) (e := e) (below := below) (s := s) (sargs := args) (len := 3) (W9 := 8) hM (by omega) (by have := hok.2.2.2.2.2; omega) (fun a' U hW => zgw_use hok.2.1 (zgw_warm hok.2.1 hW (hO.1 _ hok.1 hok.2.1)) a') (fun a' U hW => zgw_use rfl (zgw_warm rfl hW (hO.1 _ hok.2.2.1 rfl)) a')
  have hcode : (Cond.code md'.1 md'.2.1 md'.2.2.1 md'.2.2.2.1).before args s = true := by
    have := zgw_use hok.2.1 (hO.1 _ hok.1 hok.2.1) args
    unfold zcode at this
    rw [hnil] at this
    exact this
  rcases vx_callV X B.1 (C := zRX c) B.2.2.2.2.2.1 (zgw_use rfl (hO.1 _ hlk rfl) args) (zgw_use rfl (hO.1 _ hin rfl) args) (zgw_use rfl (hO.1 _ hsel rfl) args) hcode hok.2.2.2.1 hback (b := a) (cellB := cell) (by rw [hT]; exact g2) (by rw [g4]; rfl) (by rw [g3]; exact hfc) (g := F0 m pc ls (As.reverse ++ .ref a :: st)) rfl (by show ls.size = _; rw [hl.1, B.2.2.2.2.1]) (argsL := As) (rest := st) (fun sig h => hn.trans (hok.len sig h)) rfl (lv_room hst) (by rw [B.2.1]; exact hd) (zpre B hr hm hb hw hS hT) with ⟨v, vm₁, B9, hW₁, X', ⟨M', hq', haft⟩, hsteps⟩ | ⟨q9, vm₁, B9, hW₁, X', ⟨k, M', ce, hq', haft, hce, hcv, hcl⟩, hsteps⟩
  · obtain ⟨z1, z2, z3, z4, z5⟩ := zaft (p := p) (m := m) (meth := meth) (c := c9) hm hS (show (T.setVm vm₁).heap = H from hT) rfl rfl rfl haft
    rw [z4, z5] at X'
    obtain ⟨t, a1, b1⟩ := kk v M' hq' p e R s m args below meth c9 B9.U.heap B9.locs ls B hr z1 z2 z3 hl B9.U rfl X'
    exact ⟨t, hsteps t a1, b1⟩
  · obtain ⟨z1, z2, z3, z4, z5⟩ := zaft (p := p) (m := m) (meth := meth) (c := c9) hm hS (show (T.setVm vm₁).heap = H from hT) rfl rfl rfl haft
    rw [z4, z5] at X'
    obtain ⟨t, a1, b1⟩ := kx k M' hq' p e R s m args below meth c9 B9.U.heap B9.locs ls st q9 ce B hr z1 z2 z3 hl hce hcv (vx_cls hW₁ hcl) B9.U rfl X'
    exact ⟨t, hsteps.trans a1, b1⟩
theorem zr_callS {md' : zD} {d' idx n : Nat} {As : List Value} {Q' : zOut → zM → Prop} (hd : decode md.2.1 pc = .ok (.invokestatic idx, 3)) (hlk : Cond.methodLink md.1.cls idx md'.1 ∈ lw_tbl) (hok : zmOk md' n) (hnil : md'.2.2.2.2 = []) (hin : Cond.static md'.1 ∈ lw_tbl)
    (hn : As.length = n) (hdep : d' + 1 ≤ d) (hst : (st.map fun v => v.category).sum ≤ 8) (hb : zC M ≤ 600128 ∧ zS M ≤ 7301098) (hM : zMet G md' d' As M Q') (kx : ∀ k M', Q' (.inr k) M' → zt G md d k0 n0 Q pc lv k M') (kk : ∀ v M', Q' (.inl v) M' → zw G md d k0 n0 Q (pc + 3) lv (v.toList ++ st) M') : zw G md d k0 n0 Q pc lv (As.reverse ++ st) M := by
  intro p e R s m args below meth c9 H locs ls B hr hm hw hS hl T hT X
  have hO := B.2.2.2.2.2.2.2.2
  have hback := z_back (R := R) (p := p) (e := e) (below := below) (s := s) (sargs := args) (len := 3) (W9 := 8) hM (by omega) (by have := hok.2.2.2.2.2; omega) (fun a' U hW => zgw_use hok.2.1 (zgw_warm hok.2.1 hW (hO.1 _ hok.1 hok.2.1)) a') (fun a' U hW => zgw_use rfl (zgw_warm rfl hW (hO.1 _ hok.2.2.1 rfl)) a')
  have hcode : (Cond.code md'.1 md'.2.1 md'.2.2.1 md'.2.2.2.1).before args s = true := by
    have := zgw_use hok.2.1 (hO.1 _ hok.1 hok.2.1) args
    unfold zcode at this
    rw [hnil] at this
    exact this
  rcases vx_callS X B.1 B.2.2.2.2.2.1 (zgw_use rfl (hO.1 _ hlk rfl) args) (zgw_use rfl (hO.1 _ hin rfl) args) (zgw_use rfl (hO.1 _ hok.2.2.1 rfl) args) hcode hok.2.2.2.1 hback (g := F0 m pc ls (As.reverse ++ st)) rfl (by show ls.size = _; rw [hl.1, B.2.2.2.2.1]) (argsL := As) (rest := st) (fun sig h => hn.trans (hok.len sig h)) rfl (lv_room hst) (by rw [B.2.1]; exact hd) (zpre B hr hm hb hw hS hT) with ⟨v, vm₁, B9, hW₁, X', ⟨M', hq', haft⟩, hsteps⟩ | ⟨q9, vm₁, B9, hW₁, X', ⟨k, M', ce, hq', haft, hce, hcv, hcl⟩, hsteps⟩
  · obtain ⟨z1, z2, z3, z4, z5⟩ := zaft (p := p) (m := m) (meth := meth) (c := c9) hm hS (show (T.setVm vm₁).heap = H from hT) rfl rfl rfl haft
    rw [z4, z5] at X'
    obtain ⟨t, a1, b1⟩ := kk v M' hq' p e R s m args below meth c9 B9.U.heap B9.locs ls B hr z1 z2 z3 hl B9.U rfl X'
    exact ⟨t, hsteps t a1, b1⟩
  · obtain ⟨z1, z2, z3, z4, z5⟩ := zaft (p := p) (m := m) (meth := meth) (c := c9) hm hS (show (T.setVm vm₁).heap = H from hT) rfl rfl rfl haft
    rw [z4, z5] at X'
    obtain ⟨t, a1, b1⟩ := kx k M' hq' p e R s m args below meth c9 B9.U.heap B9.locs ls st q9 ce B hr z1 z2 z3 hl hce hcv (vx_cls hW₁ hcl) B9.U rfl X'
    exact ⟨t, hsteps.trans a1, b1⟩
/-- a callee that never throws -/
theorem z_backR {R : Room} {p : Program} {e : Env} {below : List Frame} {s : State} {sargs : Array Value} {y : MethodName} {len W9 : Nat} {l : Launch} {Pre : Pt → Array Value → Prop} {Post : Pt → Array Value → Option Value → Pt → Prop} {PostX : Pt → Array Value → Addr → Pt → Prop} (h : vx_Back l R p e below s sargs y len W9 Pre Post PostX) (hx : ∀ A a q B, ¬ PostX A a q B) : Back l R p e below s sargs y len W9 Pre Post := by
  intro m meth c A g ig mk a X hg hsize hdg hW hn hp
  rcases h m meth c A g ig mk a X hg hsize hdg hW hn hp with h1 | ⟨q, B, -, h1, -⟩
  · exact h1
  · exact absurd h1 (hx _ _ _ _)
/-- a private method of a nest mate -/
theorem zr_callVN {md' : zD} {d' idx c a n : Nat} {As : List Value} {Q' : zOut → zM → Prop} (hd : decode md.2.1 pc = .ok (.invokevirtual idx, 3)) (hlk : Cond.methodLinkNest md.1.cls idx md'.1 "LsmStore" ∈ lw_tbl) (hok : zmOk md' n) (hnil : md'.2.2.2.2 = []) (hin : Cond.instanceMethod md'.1 ∈ lw_tbl) (hsel : Cond.selects (zRX c) md'.1 md'.1 ∈ lw_tbl) (hc : c < 13) (hK : zK M a = c + 1)
    (hn : As.length = n) (hdep : d' + 1 ≤ d) (hst : (st.map fun v => v.category).sum ≤ 8) (hb : zC M ≤ 600128 ∧ zS M ≤ 7301098) (hM : zMet G md' d' (.ref a :: As) M Q') (kx : ∀ k M', ¬ Q' (.inr k) M') (kk : ∀ v M', Q' (.inl v) M' → zw G md d k0 n0 Q (pc + 3) lv (v.toList ++ st) M') : zw G md d k0 n0 Q pc lv (As.reverse ++ .ref a :: st) M := by
  intro p e R s m args below meth c9 H locs ls B hr hm hw hS hl T hT X
  have hO := B.2.2.2.2.2.2.2.2
  have hw0 := hw
  obtain ⟨L, hL, hP, hD, hF, hN⟩ := hw0
  obtain ⟨q, hq⟩ := zat (f := zE (gi G) M) ((hL a).mpr (by omega))
  rw [zE_obj hK hc] at hq
  obtain ⟨r, g1, cell, g2, g3, g4, g5⟩ := hP q _ hq
  have hr9 : r = (zRX c, zTX c, zn c) := Option.some.inj (g1.symm.trans (zc_cl c hc))
  subst hr9
  obtain ⟨hSl, hfc, kC, hkC, hkind⟩ := hO.2.1.1 c _ (zc_cl c hc)
  have hback := z_backR (z_back (R := R) (p := p) (e := e) (below := below) (s := s) (sargs := args) (len := 3) (W9 := 8) hM (by omega) (by have := hok.2.2.2.2.2; omega) (fun a' U hW => zgw_use hok.2.1 (zgw_warm hok.2.1 hW (hO.1 _ hok.1 hok.2.1)) a') (fun a' U hW => zgw_use rfl (zgw_warm rfl hW (hO.1 _ hok.2.2.1 rfl)) a')) (fun A a q B h => by obtain ⟨k, M', ce, h1, -⟩ := h; exact kx k M' h1)
  have hcode : (Cond.code md'.1 md'.2.1 md'.2.2.1 md'.2.2.2.1).before args s = true := by
    have := zgw_use hok.2.1 (hO.1 _ hok.1 hok.2.1) args
    unfold zcode at this
    rw [hnil] at this
    exact this
  obtain ⟨v, vm₁, B9, hW₁, X', ⟨M', hq', haft⟩, hsteps⟩ := va_callVN X B.1 (C := zRX c) B.2.2.2.2.2.1 (zgw_use rfl (hO.1 _ hlk rfl) args) (zgw_use rfl (hO.1 _ hin rfl) args) (zgw_use rfl (hO.1 _ hsel rfl) args) hcode hok.2.2.2.1 hback (b := a) (cellB := cell) (by rw [hT]; exact g2) (by rw [g4]; rfl) (by rw [g3]; exact hfc) (g := F0 m pc ls (As.reverse ++ .ref a :: st)) rfl (by show ls.size = _; rw [hl.1, B.2.2.2.2.1]) (argsL := As) (rest := st) (fun sig h => hn.trans (hok.len sig h)) rfl (lv_room hst) (by rw [B.2.1]; exact hd) (zpre B hr hm hb hw hS hT)
  obtain ⟨z1, z2, z3, z4, z5⟩ := zaft (p := p) (m := m) (meth := meth) (c := c9) hm hS (show (T.setVm vm₁).heap = H from hT) rfl rfl rfl haft
  rw [z4, z5] at X'
  obtain ⟨t, a1, b1⟩ := kk v M' hq' p e R s m args below meth c9 B9.U.heap B9.locs ls B hr z1 z2 z3 hl B9.U rfl X'
  exact ⟨t, hsteps t a1, b1⟩
/-- a constructor -/
theorem zr_callI {md' : zD} {d' idx a n : Nat} {As : List Value} {Q' : zOut → zM → Prop} (hd : decode md.2.1 pc = .ok (.invokespecial idx, 3)) (hlk : Cond.methodLink md.1.cls idx md'.1 ∈ lw_tbl ∨ Cond.methodLinkNest md.1.cls idx md'.1 "LsmStore" ∈ lw_tbl) (hok : zmOk md' n) (hnil : md'.2.2.2.2 = []) (hret : md'.2.2.2.1 = none) (hnm : md'.1.name = "<init>") (hin : Cond.instanceMethod md'.1 ∈ lw_tbl)
    (hn : As.length = n) (hdep : d' + 1 ≤ d) (hst : (st.map fun v => v.category).sum ≤ 8) (hb : zC M ≤ 600128 ∧ zS M ≤ 7301098) (hM : zMet G md' d' (.ref a :: As) M Q') (kx : ∀ k M', ¬ Q' (.inr k) M') (kk : ∀ v M', Q' (.inl v) M' → zw G md d k0 n0 Q (pc + 3) lv (v.toList ++ st) M') : zw G md d k0 n0 Q pc lv (As.reverse ++ .ref a :: st) M := by
  intro p e R s m args below meth c9 H locs ls B hr hm hw hS hl T hT X
  have hO := B.2.2.2.2.2.2.2.2
  have hback := z_backR (z_back (R := R) (p := p) (e := e) (below := below) (s := s) (sargs := args) (len := 3) (W9 := 8) hM (by omega) (by have := hok.2.2.2.2.2; omega) (fun a' U hW => zgw_use hok.2.1 (zgw_warm hok.2.1 hW (hO.1 _ hok.1 hok.2.1)) a') (fun a' U hW => zgw_use rfl (zgw_warm rfl hW (hO.1 _ hok.2.2.1 rfl)) a')) (fun A a q B h => by obtain ⟨k, M', ce, h1, -⟩ := h; exact kx k M' h1)
  have hcode : (Cond.code md'.1 md'.2.1 md'.2.2.1 none).before args s = true := by
    have := zgw_use hok.2.1 (hO.1 _ hok.1 hok.2.1) args
    unfold zcode at this
    rw [hnil, hret] at this
    exact this
  have fin : ∀ (v : Option Value) (vm₁ : Vm) (B9 : Pt), Stand p (gL G) e R s m args below meth c9 B9.U B9.locs B9.cells B9.slots → zPost G M Q' ⟨T.setVm vm₁, locs, zC M - k0, zS M - n0⟩ (Value.ref a :: As).toArray v B9 → (∀ target, Steps p.tables e below (B9.U.setTop { (F0 m pc ls (As.reverse ++ .ref a :: st)) with pc := pc + 3, stack := v.toList ++ st }) target → Steps p.tables e below (T.setTop (F0 m pc ls (As.reverse ++ .ref a :: st))) target) → ∃ t, Steps p.tables e below (T.setTop (F0 m pc ls (As.reverse ++ .ref a :: st))) t ∧ zZ G k0 n0 Q below s t := by
    intro v vm₁ B9 X' ⟨M', hq', haft⟩ hsteps
    obtain ⟨z1, z2, z3, z4, z5⟩ := zaft (p := p) (m := m) (meth := meth) (c := c9) hm hS (show (T.setVm vm₁).heap = H from hT) rfl rfl rfl haft
    rw [z4, z5] at X'
    obtain ⟨t, a1, b1⟩ := kk v M' hq' p e R s m args below meth c9 B9.U.heap B9.locs ls B hr z1 z2 z3 hl B9.U rfl X'
    exact ⟨t, hsteps t a1, b1⟩
  rcases hlk with hlk | hlk
  · obtain ⟨v, vm₁, B9, hW₁, X', hpost, hsteps⟩ := callI X B.1 B.2.2.2.2.2.1 hnm (zgw_use rfl (hO.1 _ hlk rfl) args) (zgw_use rfl (hO.1 _ hin rfl) args) hcode hok.2.2.2.1 hback (g := F0 m pc ls (As.reverse ++ .ref a :: st)) rfl (by show ls.size = _; rw [hl.1, B.2.2.2.2.1]) (a := a) (argsL := As) (rest := st) (fun sig h => hn.trans (hok.len sig h)) rfl (lv_room hst) (by rw [B.2.1]; exact hd) (zpre B hr hm hb hw hS hT)
    exact fin v vm₁ B9 X' hpost hsteps
  · obtain ⟨v, vm₁, B9, hW₁, X', hpost, hsteps⟩ := va_callIN X B.1 B.2.2.2.2.2.1 hnm (zgw_use rfl (hO.1 _ hlk rfl) args) (zgw_use rfl (hO.1 _ hin rfl) args) hcode hok.2.2.2.1 hback (g := F0 m pc ls (As.reverse ++ .ref a :: st)) rfl (by show ls.size = _; rw [hl.1, B.2.2.2.2.1]) (a := a) (argsL := As) (rest := st) (fun sig h => hn.trans (hok.len sig h)) rfl (lv_room hst) (by rw [B.2.1]; exact hd) (zpre B hr hm hb hw hS hT)
    exact fin v vm₁ B9 X' hpost hsteps
/-- a static method with a table of its own, that never throws -/
theorem zr_callSW {md' : zD} {d' idx n : Nat} {As : List Value} {Q' : zOut → zM → Prop} (hd : decode md.2.1 pc = .ok (.invokestatic idx, 3)) (hlk : Cond.methodLink md.1.cls idx md'.1 ∈ lw_tbl) (hok : zmOk md' n) (hcons : md'.2.2.2.2 ≠ []) (hin : Cond.static md'.1 ∈ lw_tbl)
    (hn : As.length = n) (hdep : d' + 1 ≤ d) (hst : (st.map fun v => v.category).sum ≤ 8) (hb : zC M ≤ 600128 ∧ zS M ≤ 7301098) (hM : zMet G md' d' As M Q') (kx : ∀ k M', ¬ Q' (.inr k) M') (kk : ∀ v M', Q' (.inl v) M' → zw G md d k0 n0 Q (pc + 3) lv (v.toList ++ st) M') : zw G md d k0 n0 Q pc lv (As.reverse ++ st) M := by
  intro p e R s m args below meth c9 H locs ls B hr hm hw hS hl T hT X
  have hO := B.2.2.2.2.2.2.2.2
  have hback := z_backR (z_back (R := R) (p := p) (e := e) (below := below) (s := s) (sargs := args) (len := 3) (W9 := 8) hM (by omega) (by have := hok.2.2.2.2.2; omega) (fun a' U hW => zgw_use hok.2.1 (zgw_warm hok.2.1 hW (hO.1 _ hok.1 hok.2.1)) a') (fun a' U hW => zgw_use rfl (zgw_warm rfl hW (hO.1 _ hok.2.2.1 rfl)) a')) (fun A a q B h => by obtain ⟨k, M', ce, h1, -⟩ := h; exact kx k M' h1)
  have hcode : (Cond.codeWith md'.1 md'.2.1 md'.2.2.1 md'.2.2.2.1 md'.2.2.2.2).before args s = true := by
    have := zgw_use hok.2.1 (hO.1 _ hok.1 hok.2.1) args
    unfold zcode at this
    split at this
    · rename_i e9; exact absurd e9 hcons
    · rename_i e9; rw [e9]; exact this
  obtain ⟨v, vm₁, B9, hW₁, X', ⟨M', hq', haft⟩, hsteps⟩ := vx_callSW X B.1 B.2.2.2.2.2.1 (zgw_use rfl (hO.1 _ hlk rfl) args) (zgw_use rfl (hO.1 _ hin rfl) args) (zgw_use rfl (hO.1 _ hok.2.2.1 rfl) args) hcode hok.2.2.2.1 hback (g := F0 m pc ls (As.reverse ++ st)) rfl (by show ls.size = _; rw [hl.1, B.2.2.2.2.1]) (argsL := As) (rest := st) (fun sig h => hn.trans (hok.len sig h)) rfl (lv_room hst) (by rw [B.2.1]; exact hd) (zpre B hr hm hb hw hS hT)
  obtain ⟨z1, z2, z3, z4, z5⟩ := zaft (p := p) (m := m) (meth := meth) (c := c9) hm hS (show (T.setVm vm₁).heap = H from hT) rfl rfl rfl haft
  rw [z4, z5] at X'
  obtain ⟨t, a1, b1⟩ := kk v M' hq' p e R s m args below meth c9 B9.U.heap B9.locs ls B hr z1 z2 z3 hl B9.U rfl X'
  exact ⟨t, hsteps t a1, b1⟩
end ZV
end
section
/-! ===== ROW of zw: throw new E("text") ===== -/
def zNs : List String := ["java/lang/RuntimeException", "java/lang/Exception"]
/-- the words of a throw: k the exception, ik its class's entry, ic its constructor's -/
def zthOk (own : String) (ik ic k : Nat) : Prop := Cond.classLink own ik (zex k) ∈ lw_tbl ∧ Cond.initialized (zex k) ∈ lw_tbl ∧ (∀ w ∈ vx_atS own ic (zex k) zNs, w ∈ lw_tbl ∧ zgw w = true) ∧ ∀ w ∈ Cond.classLink own ik (zex k) :: Cond.initialized (zex k) :: vx_atS own ic (zex k) zNs, vx_ot w = true
theorem zfit_ex (k : Nat) : Bundle.fit (zex k) = true := by
  unfold zex
  split <;> decide +kernel
theorem zfit_ns : ∀ n ∈ zNs, Bundle.fit n = true := by decide +kernel
section ZT
variable {G : zG} {md : zD} {d k0 n0 : Nat} {Q : zOut → zM → Prop} {pc : Nat} {lv : List (Option Value)} {st : List Value} {M : zM}
theorem zW_kept {H H1 : Heap} (hw : zW G M H) (hq : ∀ q : Nat, q < H.size → H1[q]? = H[q]?) : zW G M H1 := by
  obtain ⟨L, hL, hP, hD, hF, hN⟩ := hw
  exact ⟨L, hL, hP.kept (fun k q hk => hq _ (hP k q hk).lt), hD, hF, hN⟩
theorem zthrow {k : Nat} {p : Program} {e : Env} {R : Room} {s : State} {m : MethodId} {args : Array Value} {below : List Frame} {meth : Method} {c9 : Code} {H : Heap} {locs : List Loc} {g : JFrame} (hm : k0 ≤ zC M ∧ n0 ≤ zS M) (hw : zW G M H) (hq : Q (.inr k) (zthr M))
    (h : W p (gL G) e R s m args below meth c9 H locs (zC M - k0) (zS M - n0) (vx_MQ below (fun _ _ _ _ => False) (fun E _ t => E = zex k ∧ ∀ q : Nat, q < H.size → t.heap[q]? = H[q]?) args s (zC M - k0 + 1) (zS M - n0 + 6) (gA G)) g) : W p (gL G) e R s m args below meth c9 H locs (zC M - k0) (zS M - n0) (zZ G k0 n0 Q below s) g := by
  intro T hT X
  obtain ⟨t, a1, o, b1, b2, b3⟩ := h T hT X
  rcases b3 with ⟨h9, -⟩ | ⟨q, rfl, E, ce, L, ⟨rfl, hk⟩, hce, hcv, hcl, hW, hsm, hL⟩
  · exact h9.elim
  · have e1 : zC M - k0 + 1 = zC (zthr M) - k0 := by show _ = zC M + 1 - k0; omega
    have e2 : zS M - n0 + 6 = zS (zthr M) - n0 := by show _ = zS M + 6 - n0; omega
    rw [e1, e2] at hsm
    exact ⟨t, a1, .threw q, b1, b2, .inr k, zthr M, L, ⟨q, ce, rfl, hce, hcv, hcl⟩, hq, zW_kept (M := M) hw hk, by show _ ≤ zC M + 1; omega, by show _ ≤ zS M + 6; omega, hW, hsm, hL⟩
theorem zr_throw {k ik is ic sk : Nat} {text : String} (d0 : decode md.2.1 pc = .ok (.new ik, 3)) (d3 : decode md.2.1 (pc + 3) = .ok (.dup, 1)) (d4 : decode md.2.1 (pc + 4) = .ok (.ldc is, 2)) (d6 : decode md.2.1 (pc + 6) = .ok (.invokespecial ic, 3)) (d9 : decode md.2.1 (pc + 9) = .ok (.athrow, 1))
    (hok : zthOk md.1.cls ik ic k) (hs : zstr[sk]? = some (md.1.cls, is, text)) (hh : md.2.2.2.2 = []) (hd6 : 6 ≤ d) (hst : (st.map fun v => v.category).sum ≤ 8) (hb : zC M + 1 ≤ 600128 ∧ zS M + 6 ≤ 7301098) (hq : Q (.inr k) (zthr M)) : zw G md d k0 n0 Q pc lv st M := by
  intro p e R s m args below meth c9 H locs ls B hr hm hw hS hl
  have hO := B.2.2.2.2.2.2.2.2
  obtain ⟨h1, h2, h3, h4, h5, h6, h7, h8, h9, h10, h11, h12⟩ := id hO
  refine zthrow hm hw hq ?_
  exact vx_throwS B.1 B.2.1 h12 (own := md.1.cls) (cls := zex k) (text := text) (names := zNs) (ik := ik) (is := is) (ic := ic) (sa := gs G sk) B.2.2.2.2.2.1 (zfit_ex k) zfit_ns (zgw_use rfl (h1 _ hok.1 rfl) args) (zgw_use rfl (h1 _ hok.2.1 rfl) args) (h8 sk _ hs) (fun w h => zgw_use (hok.2.2.1 w h).2 (h1 w (hok.2.2.1 w h).1 (hok.2.2.1 w h).2) args) hok.2.2.2 h6 h7 hS (by rw [hl.1, B.2.2.2.2.1]) d0 d3 d4 d6 d9
    (fun x hx => by rw [B.2.2.2.2.2.2.2.1, hh] at hx; cases hx) (by show 2 + 3 < R.frames; omega) (by show _ + (13 * (2 + 1) + 43) ≤ R.locals; omega) (by omega) (by omega) B.2.2.2.1 (fun t _ _ h => ⟨rfl, h⟩) hS.2.2 (Nat.le_refl _) (Nat.le_refl _)
theorem zr_throwW {k ik is ic sk : Nat} {text : String} (d0 : decode md.2.1 pc = .ok (.new ik, 3)) (d3 : decode md.2.1 (pc + 3) = .ok (.dup, 1)) (d4 : decode md.2.1 (pc + 4) = .ok (.ldc_w is, 3)) (d7 : decode md.2.1 (pc + 7) = .ok (.invokespecial ic, 3)) (d10 : decode md.2.1 (pc + 10) = .ok (.athrow, 1))
    (hok : zthOk md.1.cls ik ic k) (hs : zstr[sk]? = some (md.1.cls, is, text)) (hh : md.2.2.2.2 = []) (hd6 : 6 ≤ d) (hst : (st.map fun v => v.category).sum ≤ 8) (hb : zC M + 1 ≤ 600128 ∧ zS M + 6 ≤ 7301098) (hq : Q (.inr k) (zthr M)) : zw G md d k0 n0 Q pc lv st M := by
  intro p e R s m args below meth c9 H locs ls B hr hm hw hS hl
  have hO := B.2.2.2.2.2.2.2.2
  obtain ⟨h1, h2, h3, h4, h5, h6, h7, h8, h9, h10, h11, h12⟩ := id hO
  refine zthrow hm hw hq ?_
  exact vx_throwSW B.1 B.2.1 h12 (own := md.1.cls) (cls := zex k) (text := text) (names := zNs) (ik := ik) (is := is) (ic := ic) (sa := gs G sk) B.2.2.2.2.2.1 (zfit_ex k) zfit_ns (zgw_use rfl (h1 _ hok.1 rfl) args) (zgw_use rfl (h1 _ hok.2.1 rfl) args) (h8 sk _ hs) (fun w h => zgw_use (hok.2.2.1 w h).2 (h1 w (hok.2.2.1 w h).1 (hok.2.2.1 w h).2) args) hok.2.2.2 h6 h7 hS (by rw [hl.1, B.2.2.2.2.1]) d0 d3 d4 d7 d10
    (fun x hx => by rw [B.2.2.2.2.2.2.2.1, hh] at hx; cases hx) (by show 2 + 3 < R.frames; omega) (by show _ + (13 * (2 + 1) + 43) ≤ R.locals; omega) (by omega) (by omega) B.2.2.2.1 (fun t _ _ h => ⟨rfl, h⟩) hS.2.2 (Nat.le_refl _) (Nat.le_refl _)
end ZT
end
section
/-! ===== PRINTED BY PROGRAM: methods and links (positions in lw_tbl) ===== -/
theorem zat_tbl {w : Cond} (i : Nat) (h : lw_tbl[i]? = some w) : w ∈ lw_tbl := List.mem_of_getElem? h
abbrev mX11_init : zD := (yX11_init, cX11_init, 2, none, [])
theorem okX11_init : zmOk mX11_init 0 := ⟨zat_tbl 87 (by decide +kernel), rfl, zat_tbl 60 (by decide +kernel), ⟨by decide +kernel, by decide +kernel⟩, by decide +kernel, by decide⟩
abbrev mX1_init : zD := (yX1_init, cX1_init, 1, none, [])
theorem okX1_init : zmOk mX1_init 0 := ⟨zat_tbl 95 (by decide +kernel), rfl, zat_tbl 61 (by decide +kernel), ⟨by decide +kernel, by decide +kernel⟩, by decide +kernel, by decide⟩
abbrev mX6_init : zD := (yX6_init, cX6_init, 2, none, [])
theorem okX6_init : zmOk mX6_init 1 := ⟨zat_tbl 131 (by decide +kernel), rfl, zat_tbl 62 (by decide +kernel), ⟨by decide +kernel, by decide +kernel⟩, by decide +kernel, by decide⟩
abbrev mJ9_max_7cf53 : zD := (yJ9_max_7cf53, cJ9_max_7cf53, 2, (some .int), [])
theorem okJ9_max_7cf53 : zmOk mJ9_max_7cf53 2 := ⟨zat_tbl 135 (by decide +kernel), rfl, zat_tbl 63 (by decide +kernel), ⟨by decide +kernel, by decide +kernel⟩, by decide +kernel, by decide⟩
abbrev mX0_init : zD := (yX0_init, cX0_init, 1, none, [])
theorem okX0_init : zmOk mX0_init 0 := ⟨zat_tbl 155 (by decide +kernel), rfl, zat_tbl 64 (by decide +kernel), ⟨by decide +kernel, by decide +kernel⟩, by decide +kernel, by decide⟩
abbrev mX9_init : zD := (yX9_init, cX9_init, 1, none, [])
theorem okX9_init : zmOk mX9_init 0 := ⟨zat_tbl 182 (by decide +kernel), rfl, zat_tbl 65 (by decide +kernel), ⟨by decide +kernel, by decide +kernel⟩, by decide +kernel, by decide⟩
abbrev mX5_init : zD := (yX5_init, cX5_init, 2, none, [])
theorem okX5_init : zmOk mX5_init 1 := ⟨zat_tbl 193 (by decide +kernel), rfl, zat_tbl 66 (by decide +kernel), ⟨by decide +kernel, by decide +kernel⟩, by decide +kernel, by decide⟩
abbrev mX2_init : zD := (yX2_init, cX2_init, 3, none, [])
theorem okX2_init : zmOk mX2_init 1 := ⟨zat_tbl 223 (by decide +kernel), rfl, zat_tbl 67 (by decide +kernel), ⟨by decide +kernel, by decide +kernel⟩, by decide +kernel, by decide⟩
abbrev mX8_init : zD := (yX8_init, cX8_init, 2, none, [])
theorem okX8_init : zmOk mX8_init 1 := ⟨zat_tbl 230 (by decide +kernel), rfl, zat_tbl 68 (by decide +kernel), ⟨by decide +kernel, by decide +kernel⟩, by decide +kernel, by decide⟩
abbrev mX7_init : zD := (yX7_init, cX7_init, 2, none, [])
theorem okX7_init : zmOk mX7_init 1 := ⟨zat_tbl 288 (by decide +kernel), rfl, zat_tbl 69 (by decide +kernel), ⟨by decide +kernel, by decide +kernel⟩, by decide +kernel, by decide⟩
abbrev mX10_init : zD := (yX10_init, cX10_init, 3, none, [])
theorem okX10_init : zmOk mX10_init 2 := ⟨zat_tbl 315 (by decide +kernel), rfl, zat_tbl 70 (by decide +kernel), ⟨by decide +kernel, by decide +kernel⟩, by decide +kernel, by decide⟩
abbrev mX3_init : zD := (yX3_init, cX3_init, 2, none, [])
theorem okX3_init : zmOk mX3_init 1 := ⟨zat_tbl 349 (by decide +kernel), rfl, zat_tbl 71 (by decide +kernel), ⟨by decide +kernel, by decide +kernel⟩, by decide +kernel, by decide⟩
abbrev mX4_init : zD := (yX4_init, cX4_init, 2, none, [])
theorem okX4_init : zmOk mX4_init 1 := ⟨zat_tbl 378 (by decide +kernel), rfl, zat_tbl 72 (by decide +kernel), ⟨by decide +kernel, by decide +kernel⟩, by decide +kernel, by decide⟩
abbrev mX8_start : zD := (yX8_start, cX8_start, 1, none, [])
theorem okX8_start : zmOk mX8_start 0 := ⟨zat_tbl 385 (by decide +kernel), rfl, zat_tbl 68 (by decide +kernel), ⟨by decide +kernel, by decide +kernel⟩, by decide +kernel, by decide⟩
abbrev mL_key : zD := (yL_key, cL_key, 7, (some .int), [(0, 13, 16, 13)])
theorem okL_key : zmOk mL_key 5 := ⟨zat_tbl 465 (by decide +kernel), rfl, zat_tbl 59 (by decide +kernel), ⟨by decide +kernel, by decide +kernel⟩, by decide +kernel, by decide⟩
abbrev mX11_key : zD := (yX11_key, cX11_key, 5, (some .int), [])
theorem okX11_key : zmOk mX11_key 3 := ⟨zat_tbl 470 (by decide +kernel), rfl, zat_tbl 60 (by decide +kernel), ⟨by decide +kernel, by decide +kernel⟩, by decide +kernel, by decide⟩
abbrev mX6_accepts : zD := (yX6_accepts, cX6_accepts, 3, (some .boolean), [])
theorem okX6_accepts : zmOk mX6_accepts 2 := ⟨zat_tbl 474 (by decide +kernel), rfl, zat_tbl 62 (by decide +kernel), ⟨by decide +kernel, by decide +kernel⟩, by decide +kernel, by decide⟩
abbrev mX6_append : zD := (yX6_append, cX6_append, 6, (some .int), [])
theorem okX6_append : zmOk mX6_append 3 := ⟨zat_tbl 546 (by decide +kernel), rfl, zat_tbl 62 (by decide +kernel), ⟨by decide +kernel, by decide +kernel⟩, by decide +kernel, by decide⟩
abbrev mL_value : zD := (yL_value, cL_value, 7, (some .int), [(0, 13, 16, 13)])
theorem okL_value : zmOk mL_value 5 := ⟨zat_tbl 549 (by decide +kernel), rfl, zat_tbl 59 (by decide +kernel), ⟨by decide +kernel, by decide +kernel⟩, by decide +kernel, by decide⟩
abbrev mX11_value : zD := (yX11_value, cX11_value, 5, (some .int), [])
theorem okX11_value : zmOk mX11_value 3 := ⟨zat_tbl 553 (by decide +kernel), rfl, zat_tbl 60 (by decide +kernel), ⟨by decide +kernel, by decide +kernel⟩, by decide +kernel, by decide⟩
abbrev mL_begin : zD := (yL_begin, cL_begin, 2, (some .int), [(0, 4, 7, 21)])
theorem okL_begin : zmOk mL_begin 1 := ⟨zat_tbl 557 (by decide +kernel), rfl, zat_tbl 59 (by decide +kernel), ⟨by decide +kernel, by decide +kernel⟩, by decide +kernel, by decide⟩
abbrev mX11_begin : zD := (yX11_begin, cX11_begin, 1, none, [])
theorem okX11_begin : zmOk mX11_begin 0 := ⟨zat_tbl 562 (by decide +kernel), rfl, zat_tbl 60 (by decide +kernel), ⟨by decide +kernel, by decide +kernel⟩, by decide +kernel, by decide⟩
abbrev mX11_requireOn : zD := (yX11_requireOn, cX11_requireOn, 1, none, [])
theorem okX11_requireOn : zmOk mX11_requireOn 0 := ⟨zat_tbl 566 (by decide +kernel), rfl, zat_tbl 60 (by decide +kernel), ⟨by decide +kernel, by decide +kernel⟩, by decide +kernel, by decide⟩
abbrev mX0_start : zD := (yX0_start, cX0_start, 1, none, [])
theorem okX0_start : zmOk mX0_start 0 := ⟨zat_tbl 587 (by decide +kernel), rfl, zat_tbl 64 (by decide +kernel), ⟨by decide +kernel, by decide +kernel⟩, by decide +kernel, by decide⟩
abbrev mL_put : zD := (yL_put, cL_put, 3, (some .int), [(0, 8, 11, 21), (0, 8, 14, 13), (0, 8, 17, 27)])
theorem okL_put : zmOk mL_put 2 := ⟨zat_tbl 590 (by decide +kernel), rfl, zat_tbl 59 (by decide +kernel), ⟨by decide +kernel, by decide +kernel⟩, by decide +kernel, by decide⟩
abbrev mX11_put : zD := (yX11_put, cX11_put, 1, (some .int), [])
theorem okX11_put : zmOk mX11_put 0 := ⟨zat_tbl 595 (by decide +kernel), rfl, zat_tbl 60 (by decide +kernel), ⟨by decide +kernel, by decide +kernel⟩, by decide +kernel, by decide⟩
abbrev mX11_addStep : zD := (yX11_addStep, cX11_addStep, 2, none, [])
theorem okX11_addStep : zmOk mX11_addStep 1 := ⟨zat_tbl 599 (by decide +kernel), rfl, zat_tbl 60 (by decide +kernel), ⟨by decide +kernel, by decide +kernel⟩, by decide +kernel, by decide⟩
abbrev mX0_add : zD := (yX0_add, cX0_add, 6, none, [])
theorem okX0_add : zmOk mX0_add 3 := ⟨zat_tbl 605 (by decide +kernel), rfl, zat_tbl 64 (by decide +kernel), ⟨by decide +kernel, by decide +kernel⟩, by decide +kernel, by decide⟩
abbrev mX11_finish : zD := (yX11_finish, cX11_finish, 1, (some .int), [])
theorem okX11_finish : zmOk mX11_finish 0 := ⟨zat_tbl 612 (by decide +kernel), rfl, zat_tbl 60 (by decide +kernel), ⟨by decide +kernel, by decide +kernel⟩, by decide +kernel, by decide⟩
abbrev mX11_weigh : zD := (yX11_weigh, cX11_weigh, 3, none, [])
theorem okX11_weigh : zmOk mX11_weigh 0 := ⟨zat_tbl 616 (by decide +kernel), rfl, zat_tbl 60 (by decide +kernel), ⟨by decide +kernel, by decide +kernel⟩, by decide +kernel, by decide⟩
abbrev mX0_isLastOfItsKey : zD := (yX0_isLastOfItsKey, cX0_isLastOfItsKey, 3, (some .boolean), [])
theorem okX0_isLastOfItsKey : zmOk mX0_isLastOfItsKey 1 := ⟨zat_tbl 620 (by decide +kernel), rfl, zat_tbl 64 (by decide +kernel), ⟨by decide +kernel, by decide +kernel⟩, by decide +kernel, by decide⟩
abbrev mX0_haveSameKey : zD := (yX0_haveSameKey, cX0_haveSameKey, 6, (some .boolean), [])
theorem okX0_haveSameKey : zmOk mX0_haveSameKey 2 := ⟨zat_tbl 624 (by decide +kernel), rfl, zat_tbl 64 (by decide +kernel), ⟨by decide +kernel, by decide +kernel⟩, by decide +kernel, by decide⟩
abbrev mX0_copyKey : zD := (yX0_copyKey, cX0_copyKey, 3, none, [])
theorem okX0_copyKey : zmOk mX0_copyKey 2 := ⟨zat_tbl 628 (by decide +kernel), rfl, zat_tbl 64 (by decide +kernel), ⟨by decide +kernel, by decide +kernel⟩, by decide +kernel, by decide⟩
abbrev mX6_copy : zD := (yX6_copy, cX6_copy, 4, none, [])
theorem okX6_copy : zmOk mX6_copy 3 := ⟨zat_tbl 632 (by decide +kernel), rfl, zat_tbl 62 (by decide +kernel), ⟨by decide +kernel, by decide +kernel⟩, by decide +kernel, by decide⟩
abbrev mX11_find : zD := (yX11_find, cX11_find, 5, (some .int), [])
theorem okX11_find : zmOk mX11_find 2 := ⟨zat_tbl 638 (by decide +kernel), rfl, zat_tbl 60 (by decide +kernel), ⟨by decide +kernel, by decide +kernel⟩, by decide +kernel, by decide⟩
abbrev mX5_find : zD := (yX5_find, cX5_find, 4, (some .int), [])
theorem okX5_find : zmOk mX5_find 2 := ⟨zat_tbl 642 (by decide +kernel), rfl, zat_tbl 66 (by decide +kernel), ⟨by decide +kernel, by decide +kernel⟩, by decide +kernel, by decide⟩
abbrev mX5_countBefore : zD := (yX5_countBefore, cX5_countBefore, 7, (some .int), [])
theorem okX5_countBefore : zmOk mX5_countBefore 2 := ⟨zat_tbl 646 (by decide +kernel), rfl, zat_tbl 66 (by decide +kernel), ⟨by decide +kernel, by decide +kernel⟩, by decide +kernel, by decide⟩
abbrev mX1_isBefore : zD := (yX1_isBefore, cX1_isBefore, 8, (some .boolean), [])
theorem okX1_isBefore : zmOk mX1_isBefore 3 := ⟨zat_tbl 650 (by decide +kernel), rfl, zat_tbl 61 (by decide +kernel), ⟨by decide +kernel, by decide +kernel⟩, by decide +kernel, by decide⟩
abbrev mJ9_min_7cf53 : zD := (yJ9_min_7cf53, cJ9_min_7cf53, 2, (some .int), [])
theorem okJ9_min_7cf53 : zmOk mJ9_min_7cf53 2 := ⟨zat_tbl 654 (by decide +kernel), rfl, zat_tbl 63 (by decide +kernel), ⟨by decide +kernel, by decide +kernel⟩, by decide +kernel, by decide⟩
abbrev mX1_number : zD := (yX1_number, cX1_number, 5, (some .int), [])
theorem okX1_number : zmOk mX1_number 2 := ⟨zat_tbl 658 (by decide +kernel), rfl, zat_tbl 61 (by decide +kernel), ⟨by decide +kernel, by decide +kernel⟩, by decide +kernel, by decide⟩
abbrev mX1_hasKey : zD := (yX1_hasKey, cX1_hasKey, 4, (some .boolean), [])
theorem okX1_hasKey : zmOk mX1_hasKey 2 := ⟨zat_tbl 662 (by decide +kernel), rfl, zat_tbl 61 (by decide +kernel), ⟨by decide +kernel, by decide +kernel⟩, by decide +kernel, by decide⟩
abbrev mX4_find : zD := (yX4_find, cX4_find, 6, (some .int), [])
theorem okX4_find : zmOk mX4_find 2 := ⟨zat_tbl 666 (by decide +kernel), rfl, zat_tbl 72 (by decide +kernel), ⟨by decide +kernel, by decide +kernel⟩, by decide +kernel, by decide⟩
abbrev mX4_tableFrom : zD := (yX4_tableFrom, cX4_tableFrom, 7, (some .int), [])
theorem okX4_tableFrom : zmOk mX4_tableFrom 2 := ⟨zat_tbl 671 (by decide +kernel), rfl, zat_tbl 72 (by decide +kernel), ⟨by decide +kernel, by decide +kernel⟩, by decide +kernel, by decide⟩
abbrev mX4_table : zD := (yX4_table, cX4_table, 2, (some (.object "LsmStore$Table")), [])
theorem okX4_table : zmOk mX4_table 1 := ⟨zat_tbl 675 (by decide +kernel), rfl, zat_tbl 72 (by decide +kernel), ⟨by decide +kernel, by decide +kernel⟩, by decide +kernel, by decide⟩
abbrev mX8_allows : zD := (yX8_allows, cX8_allows, 9, (some .boolean), [])
theorem okX8_allows : zmOk mX8_allows 3 := ⟨zat_tbl 680 (by decide +kernel), rfl, zat_tbl 68 (by decide +kernel), ⟨by decide +kernel, by decide +kernel⟩, by decide +kernel, by decide⟩
abbrev mX8_hash : zD := (yX8_hash, cX8_hash, 5, (some .int), [])
theorem okX8_hash : zmOk mX8_hash 3 := ⟨zat_tbl 683 (by decide +kernel), rfl, zat_tbl 68 (by decide +kernel), ⟨by decide +kernel, by decide +kernel⟩, by decide +kernel, by decide⟩
abbrev mX8_strideOf : zD := (yX8_strideOf, cX8_strideOf, 1, (some .int), [])
theorem okX8_strideOf : zmOk mX8_strideOf 1 := ⟨zat_tbl 689 (by decide +kernel), rfl, zat_tbl 68 (by decide +kernel), ⟨by decide +kernel, by decide +kernel⟩, by decide +kernel, by decide⟩
abbrev mX1_kind : zD := (yX1_kind, cX1_kind, 2, (some .int), [])
theorem okX1_kind : zmOk mX1_kind 1 := ⟨zat_tbl 693 (by decide +kernel), rfl, zat_tbl 61 (by decide +kernel), ⟨by decide +kernel, by decide +kernel⟩, by decide +kernel, by decide⟩
abbrev mX8_lastBefore : zD := (yX8_lastBefore, cX8_lastBefore, 6, (some .int), [])
theorem okX8_lastBefore : zmOk mX8_lastBefore 2 := ⟨zat_tbl 697 (by decide +kernel), rfl, zat_tbl 68 (by decide +kernel), ⟨by decide +kernel, by decide +kernel⟩, by decide +kernel, by decide⟩
abbrev mX1_nextInBlock : zD := (yX1_nextInBlock, cX1_nextInBlock, 3, (some .int), [])
theorem okX1_nextInBlock : zmOk mX1_nextInBlock 1 := ⟨zat_tbl 702 (by decide +kernel), rfl, zat_tbl 61 (by decide +kernel), ⟨by decide +kernel, by decide +kernel⟩, by decide +kernel, by decide⟩
abbrev mX8_startOf : zD := (yX8_startOf, cX8_startOf, 2, (some .int), [])
theorem okX8_startOf : zmOk mX8_startOf 1 := ⟨zat_tbl 706 (by decide +kernel), rfl, zat_tbl 68 (by decide +kernel), ⟨by decide +kernel, by decide +kernel⟩, by decide +kernel, by decide⟩
abbrev mX8_following : zD := (yX8_following, cX8_following, 4, (some .int), [])
theorem okX8_following : zmOk mX8_following 1 := ⟨zat_tbl 710 (by decide +kernel), rfl, zat_tbl 68 (by decide +kernel), ⟨by decide +kernel, by decide +kernel⟩, by decide +kernel, by decide⟩
abbrev mX1_entryLength : zD := (yX1_entryLength, cX1_entryLength, 2, (some .int), [])
theorem okX1_entryLength : zmOk mX1_entryLength 1 := ⟨zat_tbl 717 (by decide +kernel), rfl, zat_tbl 61 (by decide +kernel), ⟨by decide +kernel, by decide +kernel⟩, by decide +kernel, by decide⟩
abbrev mX0_kind : zD := (yX0_kind, cX0_kind, 2, (some .int), [])
theorem okX0_kind : zmOk mX0_kind 1 := ⟨zat_tbl 721 (by decide +kernel), rfl, zat_tbl 64 (by decide +kernel), ⟨by decide +kernel, by decide +kernel⟩, by decide +kernel, by decide⟩
abbrev mX0_entryLength : zD := (yX0_entryLength, cX0_entryLength, 2, (some .int), [])
theorem okX0_entryLength : zmOk mX0_entryLength 1 := ⟨zat_tbl 725 (by decide +kernel), rfl, zat_tbl 64 (by decide +kernel), ⟨by decide +kernel, by decide +kernel⟩, by decide +kernel, by decide⟩
abbrev mX5_hasRoom : zD := (yX5_hasRoom, cX5_hasRoom, 2, (some .boolean), [])
theorem okX5_hasRoom : zmOk mX5_hasRoom 1 := ⟨zat_tbl 730 (by decide +kernel), rfl, zat_tbl 66 (by decide +kernel), ⟨by decide +kernel, by decide +kernel⟩, by decide +kernel, by decide⟩
abbrev mX1_enter : zD := (yX1_enter, cX1_enter, 2, none, [])
theorem okX1_enter : zmOk mX1_enter 1 := ⟨zat_tbl 735 (by decide +kernel), rfl, zat_tbl 61 (by decide +kernel), ⟨by decide +kernel, by decide +kernel⟩, by decide +kernel, by decide⟩
abbrev mX0_seal : zD := (yX0_seal, cX0_seal, 5, none, [])
theorem okX0_seal : zmOk mX0_seal 1 := ⟨zat_tbl 739 (by decide +kernel), rfl, zat_tbl 64 (by decide +kernel), ⟨by decide +kernel, by decide +kernel⟩, by decide +kernel, by decide⟩
abbrev mX5_append : zD := (yX5_append, cX5_append, 7, none, [])
theorem okX5_append : zmOk mX5_append 1 := ⟨zat_tbl 743 (by decide +kernel), rfl, zat_tbl 66 (by decide +kernel), ⟨by decide +kernel, by decide +kernel⟩, by decide +kernel, by decide⟩
abbrev mX1_write : zD := (yX1_write, cX1_write, 8, none, [])
theorem okX1_write : zmOk mX1_write 5 := ⟨zat_tbl 748 (by decide +kernel), rfl, zat_tbl 61 (by decide +kernel), ⟨by decide +kernel, by decide +kernel⟩, by decide +kernel, by decide⟩
abbrev mX1_goOff : zD := (yX1_goOff, cX1_goOff, 1, none, [])
theorem okX1_goOff : zmOk mX1_goOff 0 := ⟨zat_tbl 753 (by decide +kernel), rfl, zat_tbl 61 (by decide +kernel), ⟨by decide +kernel, by decide +kernel⟩, by decide +kernel, by decide⟩
abbrev mX5_enlist : zD := (yX5_enlist, cX5_enlist, 5, none, [])
theorem okX5_enlist : zmOk mX5_enlist 2 := ⟨zat_tbl 774 (by decide +kernel), rfl, zat_tbl 66 (by decide +kernel), ⟨by decide +kernel, by decide +kernel⟩, by decide +kernel, by decide⟩
abbrev mX5_enlistOne : zD := (yX5_enlistOne, cX5_enlistOne, 6, none, [])
theorem okX5_enlistOne : zmOk mX5_enlistOne 1 := ⟨zat_tbl 778 (by decide +kernel), rfl, zat_tbl 66 (by decide +kernel), ⟨by decide +kernel, by decide +kernel⟩, by decide +kernel, by decide⟩
abbrev mX1_precedes : zD := (yX1_precedes, cX1_precedes, 4, (some .boolean), [])
theorem okX1_precedes : zmOk mX1_precedes 2 := ⟨zat_tbl 782 (by decide +kernel), rfl, zat_tbl 61 (by decide +kernel), ⟨by decide +kernel, by decide +kernel⟩, by decide +kernel, by decide⟩
abbrev mX1_order : zD := (yX1_order, cX1_order, 8, (some .int), [])
theorem okX1_order : zmOk mX1_order 2 := ⟨zat_tbl 786 (by decide +kernel), rfl, zat_tbl 61 (by decide +kernel), ⟨by decide +kernel, by decide +kernel⟩, by decide +kernel, by decide⟩
abbrev mX11_settle : zD := (yX11_settle, cX11_settle, 6, none, [])
theorem okX11_settle : zmOk mX11_settle 1 := ⟨zat_tbl 792 (by decide +kernel), rfl, zat_tbl 60 (by decide +kernel), ⟨by decide +kernel, by decide +kernel⟩, by decide +kernel, by decide⟩
abbrev mX11_pickNone : zD := (yX11_pickNone, cX11_pickNone, 2, none, [])
theorem okX11_pickNone : zmOk mX11_pickNone 0 := ⟨zat_tbl 796 (by decide +kernel), rfl, zat_tbl 60 (by decide +kernel), ⟨by decide +kernel, by decide +kernel⟩, by decide +kernel, by decide⟩
abbrev mX4_pickNone : zD := (yX4_pickNone, cX4_pickNone, 1, none, [])
theorem okX4_pickNone : zmOk mX4_pickNone 0 := ⟨zat_tbl 800 (by decide +kernel), rfl, zat_tbl 72 (by decide +kernel), ⟨by decide +kernel, by decide +kernel⟩, by decide +kernel, by decide⟩
abbrev mX5_first : zD := (yX5_first, cX5_first, 1, (some .int), [])
theorem okX5_first : zmOk mX5_first 0 := ⟨zat_tbl 804 (by decide +kernel), rfl, zat_tbl 66 (by decide +kernel), ⟨by decide +kernel, by decide +kernel⟩, by decide +kernel, by decide⟩
abbrev mX5_last : zD := (yX5_last, cX5_last, 1, (some .int), [])
theorem okX5_last : zmOk mX5_last 0 := ⟨zat_tbl 808 (by decide +kernel), rfl, zat_tbl 66 (by decide +kernel), ⟨by decide +kernel, by decide +kernel⟩, by decide +kernel, by decide⟩
abbrev mX4_pickOver : zD := (yX4_pickOver, cX4_pickOver, 3, none, [])
theorem okX4_pickOver : zmOk mX4_pickOver 2 := ⟨zat_tbl 812 (by decide +kernel), rfl, zat_tbl 72 (by decide +kernel), ⟨by decide +kernel, by decide +kernel⟩, by decide +kernel, by decide⟩
abbrev mX8_isSmall : zD := (yX8_isSmall, cX8_isSmall, 1, (some .boolean), [])
theorem okX8_isSmall : zmOk mX8_isSmall 0 := ⟨zat_tbl 818 (by decide +kernel), rfl, zat_tbl 68 (by decide +kernel), ⟨by decide +kernel, by decide +kernel⟩, by decide +kernel, by decide⟩
abbrev mX11_join : zD := (yX11_join, cX11_join, 4, (some .boolean), [])
theorem okX11_join : zmOk mX11_join 2 := ⟨zat_tbl 822 (by decide +kernel), rfl, zat_tbl 60 (by decide +kernel), ⟨by decide +kernel, by decide +kernel⟩, by decide +kernel, by decide⟩
abbrev mX11_gather : zD := (yX11_gather, cX11_gather, 4, none, [])
theorem okX11_gather : zmOk mX11_gather 1 := ⟨zat_tbl 826 (by decide +kernel), rfl, zat_tbl 60 (by decide +kernel), ⟨by decide +kernel, by decide +kernel⟩, by decide +kernel, by decide⟩
abbrev mX7_clear : zD := (yX7_clear, cX7_clear, 1, none, [])
theorem okX7_clear : zmOk mX7_clear 0 := ⟨zat_tbl 830 (by decide +kernel), rfl, zat_tbl 69 (by decide +kernel), ⟨by decide +kernel, by decide +kernel⟩, by decide +kernel, by decide⟩
abbrev mX5_collect : zD := (yX5_collect, cX5_collect, 3, none, [])
theorem okX5_collect : zmOk mX5_collect 1 := ⟨zat_tbl 834 (by decide +kernel), rfl, zat_tbl 66 (by decide +kernel), ⟨by decide +kernel, by decide +kernel⟩, by decide +kernel, by decide⟩
abbrev mX7_add : zD := (yX7_add, cX7_add, 2, none, [])
theorem okX7_add : zmOk mX7_add 1 := ⟨zat_tbl 838 (by decide +kernel), rfl, zat_tbl 69 (by decide +kernel), ⟨by decide +kernel, by decide +kernel⟩, by decide +kernel, by decide⟩
abbrev mX4_collect : zD := (yX4_collect, cX4_collect, 6, none, [])
theorem okX4_collect : zmOk mX4_collect 1 := ⟨zat_tbl 842 (by decide +kernel), rfl, zat_tbl 72 (by decide +kernel), ⟨by decide +kernel, by decide +kernel⟩, by decide +kernel, by decide⟩
abbrev mX7_blend : zD := (yX7_blend, cX7_blend, 5, none, [])
theorem okX7_blend : zmOk mX7_blend 1 := ⟨zat_tbl 847 (by decide +kernel), rfl, zat_tbl 69 (by decide +kernel), ⟨by decide +kernel, by decide +kernel⟩, by decide +kernel, by decide⟩
abbrev mX7_thin : zD := (yX7_thin, cX7_thin, 10, none, [])
theorem okX7_thin : zmOk mX7_thin 2 := ⟨zat_tbl 853 (by decide +kernel), rfl, zat_tbl 69 (by decide +kernel), ⟨by decide +kernel, by decide +kernel⟩, by decide +kernel, by decide⟩
abbrev mX7_withoutRemoves : zD := (yX7_withoutRemoves, cX7_withoutRemoves, 3, (some .int), [])
theorem okX7_withoutRemoves : zmOk mX7_withoutRemoves 1 := ⟨zat_tbl 859 (by decide +kernel), rfl, zat_tbl 69 (by decide +kernel), ⟨by decide +kernel, by decide +kernel⟩, by decide +kernel, by decide⟩
abbrev mX9_see : zD := (yX9_see, cX9_see, 4, (some .boolean), [])
theorem okX9_see : zmOk mX9_see 2 := ⟨zat_tbl 864 (by decide +kernel), rfl, zat_tbl 65 (by decide +kernel), ⟨by decide +kernel, by decide +kernel⟩, by decide +kernel, by decide⟩
abbrev mX10_hasRoom : zD := (yX10_hasRoom, cX10_hasRoom, 6, (some .boolean), [])
theorem okX10_hasRoom : zmOk mX10_hasRoom 1 := ⟨zat_tbl 868 (by decide +kernel), rfl, zat_tbl 70 (by decide +kernel), ⟨by decide +kernel, by decide +kernel⟩, by decide +kernel, by decide⟩
abbrev mX10_stepTo : zD := (yX10_stepTo, cX10_stepTo, 6, (some .int), [])
theorem okX10_stepTo : zmOk mX10_stepTo 2 := ⟨zat_tbl 872 (by decide +kernel), rfl, zat_tbl 70 (by decide +kernel), ⟨by decide +kernel, by decide +kernel⟩, by decide +kernel, by decide⟩
abbrev mX10_advance : zD := (yX10_advance, cX10_advance, 3, none, [])
theorem okX10_advance : zmOk mX10_advance 2 := ⟨zat_tbl 878 (by decide +kernel), rfl, zat_tbl 70 (by decide +kernel), ⟨by decide +kernel, by decide +kernel⟩, by decide +kernel, by decide⟩
abbrev mX10_store : zD := (yX10_store, cX10_store, 4, none, [])
theorem okX10_store : zmOk mX10_store 1 := ⟨zat_tbl 882 (by decide +kernel), rfl, zat_tbl 70 (by decide +kernel), ⟨by decide +kernel, by decide +kernel⟩, by decide +kernel, by decide⟩
abbrev mX10_writeOut : zD := (yX10_writeOut, cX10_writeOut, 4, none, [])
theorem okX10_writeOut : zmOk mX10_writeOut 1 := ⟨zat_tbl 886 (by decide +kernel), rfl, zat_tbl 70 (by decide +kernel), ⟨by decide +kernel, by decide +kernel⟩, by decide +kernel, by decide⟩
abbrev mX10_current : zD := (yX10_current, cX10_current, 1, (some (.object "LsmStore$Table")), [])
theorem okX10_current : zmOk mX10_current 0 := ⟨zat_tbl 890 (by decide +kernel), rfl, zat_tbl 70 (by decide +kernel), ⟨by decide +kernel, by decide +kernel⟩, by decide +kernel, by decide⟩
abbrev mX2_takeBlock : zD := (yX2_takeBlock, cX2_takeBlock, 3, (some .int), [])
theorem okX2_takeBlock : zmOk mX2_takeBlock 0 := ⟨zat_tbl 894 (by decide +kernel), rfl, zat_tbl 67 (by decide +kernel), ⟨by decide +kernel, by decide +kernel⟩, by decide +kernel, by decide⟩
abbrev mJ9_floorMod_7cf53 : zD := (yJ9_floorMod_7cf53, cJ9_floorMod_7cf53, 3, (some .int), [])
theorem okJ9_floorMod_7cf53 : zmOk mJ9_floorMod_7cf53 2 := ⟨zat_tbl 897 (by decide +kernel), rfl, zat_tbl 63 (by decide +kernel), ⟨by decide +kernel, by decide +kernel⟩, by decide +kernel, by decide⟩
abbrev mX2_mark : zD := (yX2_mark, cX2_mark, 2, none, [])
theorem okX2_mark : zmOk mX2_mark 1 := ⟨zat_tbl 901 (by decide +kernel), rfl, zat_tbl 67 (by decide +kernel), ⟨by decide +kernel, by decide +kernel⟩, by decide +kernel, by decide⟩
abbrev mX8_addBlock : zD := (yX8_addBlock, cX8_addBlock, 2, none, [])
theorem okX8_addBlock : zmOk mX8_addBlock 1 := ⟨zat_tbl 905 (by decide +kernel), rfl, zat_tbl 68 (by decide +kernel), ⟨by decide +kernel, by decide +kernel⟩, by decide +kernel, by decide⟩
abbrev mX10_closeTable : zD := (yX10_closeTable, cX10_closeTable, 2, none, [])
theorem okX10_closeTable : zmOk mX10_closeTable 0 := ⟨zat_tbl 910 (by decide +kernel), rfl, zat_tbl 70 (by decide +kernel), ⟨by decide +kernel, by decide +kernel⟩, by decide +kernel, by decide⟩
abbrev mX8_close : zD := (yX8_close, cX8_close, 3, none, [])
theorem okX8_close : zmOk mX8_close 0 := ⟨zat_tbl 914 (by decide +kernel), rfl, zat_tbl 68 (by decide +kernel), ⟨by decide +kernel, by decide +kernel⟩, by decide +kernel, by decide⟩
abbrev mX10_open : zD := (yX10_open, cX10_open, 3, none, [])
theorem okX10_open : zmOk mX10_open 1 := ⟨zat_tbl 918 (by decide +kernel), rfl, zat_tbl 70 (by decide +kernel), ⟨by decide +kernel, by decide +kernel⟩, by decide +kernel, by decide⟩
abbrev mJ7_fill_031fb : zD := (yJ7_fill_031fb, cJ7_fill_031fb, 4, none, [])
theorem okJ7_fill_031fb : zmOk mJ7_fill_031fb 2 := ⟨zat_tbl 921 (by decide +kernel), rfl, zat_tbl 81 (by decide +kernel), ⟨by decide +kernel, by decide +kernel⟩, by decide +kernel, by decide⟩
abbrev mX2_takeTable : zD := (yX2_takeTable, cX2_takeTable, 2, (some (.object "LsmStore$Table")), [])
theorem okX2_takeTable : zmOk mX2_takeTable 0 := ⟨zat_tbl 925 (by decide +kernel), rfl, zat_tbl 67 (by decide +kernel), ⟨by decide +kernel, by decide +kernel⟩, by decide +kernel, by decide⟩
abbrev mX10_copyEntry : zD := (yX10_copyEntry, cX10_copyEntry, 8, none, [])
theorem okX10_copyEntry : zmOk mX10_copyEntry 1 := ⟨zat_tbl 930 (by decide +kernel), rfl, zat_tbl 70 (by decide +kernel), ⟨by decide +kernel, by decide +kernel⟩, by decide +kernel, by decide⟩
abbrev mX4_cut : zD := (yX4_cut, cX4_cut, 4, none, [])
theorem okX4_cut : zmOk mX4_cut 1 := ⟨zat_tbl 938 (by decide +kernel), rfl, zat_tbl 72 (by decide +kernel), ⟨by decide +kernel, by decide +kernel⟩, by decide +kernel, by decide⟩
abbrev mX2_retire : zD := (yX2_retire, cX2_retire, 2, none, [])
theorem okX2_retire : zmOk mX2_retire 1 := ⟨zat_tbl 942 (by decide +kernel), rfl, zat_tbl 67 (by decide +kernel), ⟨by decide +kernel, by decide +kernel⟩, by decide +kernel, by decide⟩
abbrev mX4_insert : zD := (yX4_insert, cX4_insert, 4, none, [])
theorem okX4_insert : zmOk mX4_insert 2 := ⟨zat_tbl 946 (by decide +kernel), rfl, zat_tbl 72 (by decide +kernel), ⟨by decide +kernel, by decide +kernel⟩, by decide +kernel, by decide⟩
abbrev mX5_clearOther : zD := (yX5_clearOther, cX5_clearOther, 3, none, [])
theorem okX5_clearOther : zmOk mX5_clearOther 0 := ⟨zat_tbl 950 (by decide +kernel), rfl, zat_tbl 66 (by decide +kernel), ⟨by decide +kernel, by decide +kernel⟩, by decide +kernel, by decide⟩
abbrev mX1_erase : zD := (yX1_erase, cX1_erase, 2, none, [])
theorem okX1_erase : zmOk mX1_erase 1 := ⟨zat_tbl 954 (by decide +kernel), rfl, zat_tbl 61 (by decide +kernel), ⟨by decide +kernel, by decide +kernel⟩, by decide +kernel, by decide⟩
abbrev mX5_other : zD := (yX5_other, cX5_other, 1, (some .int), [])
theorem okX5_other : zmOk mX5_other 0 := ⟨zat_tbl 959 (by decide +kernel), rfl, zat_tbl 66 (by decide +kernel), ⟨by decide +kernel, by decide +kernel⟩, by decide +kernel, by decide⟩
abbrev mX3_install : zD := (yX3_install, cX3_install, 6, none, [])
theorem okX3_install : zmOk mX3_install 3 := ⟨zat_tbl 963 (by decide +kernel), rfl, zat_tbl 71 (by decide +kernel), ⟨by decide +kernel, by decide +kernel⟩, by decide +kernel, by decide⟩
abbrev mX3_describe : zD := (yX3_describe, cX3_describe, 6, none, [])
theorem okX3_describe : zmOk mX3_describe 3 := ⟨zat_tbl 967 (by decide +kernel), rfl, zat_tbl 71 (by decide +kernel), ⟨by decide +kernel, by decide +kernel⟩, by decide +kernel, by decide⟩
abbrev mX3_addNumber : zD := (yX3_addNumber, cX3_addNumber, 4, none, [])
theorem okX3_addNumber : zmOk mX3_addNumber 2 := ⟨zat_tbl 971 (by decide +kernel), rfl, zat_tbl 71 (by decide +kernel), ⟨by decide +kernel, by decide +kernel⟩, by decide +kernel, by decide⟩
abbrev mX3_addTable : zD := (yX3_addTable, cX3_addTable, 3, none, [])
theorem okX3_addTable : zmOk mX3_addTable 1 := ⟨zat_tbl 976 (by decide +kernel), rfl, zat_tbl 71 (by decide +kernel), ⟨by decide +kernel, by decide +kernel⟩, by decide +kernel, by decide⟩
abbrev mX2_freeRetired : zD := (yX2_freeRetired, cX2_freeRetired, 3, none, [])
theorem okX2_freeRetired : zmOk mX2_freeRetired 0 := ⟨zat_tbl 984 (by decide +kernel), rfl, zat_tbl 67 (by decide +kernel), ⟨by decide +kernel, by decide +kernel⟩, by decide +kernel, by decide⟩
abbrev mX2_free : zD := (yX2_free, cX2_free, 4, none, [])
theorem okX2_free : zmOk mX2_free 1 := ⟨zat_tbl 988 (by decide +kernel), rfl, zat_tbl 67 (by decide +kernel), ⟨by decide +kernel, by decide +kernel⟩, by decide +kernel, by decide⟩
abbrev mX5_change : zD := (yX5_change, cX5_change, 1, none, [])
theorem okX5_change : zmOk mX5_change 0 := ⟨zat_tbl 992 (by decide +kernel), rfl, zat_tbl 66 (by decide +kernel), ⟨by decide +kernel, by decide +kernel⟩, by decide +kernel, by decide⟩
abbrev mX4_blocks : zD := (yX4_blocks, cX4_blocks, 3, (some .int), [])
theorem okX4_blocks : zmOk mX4_blocks 0 := ⟨zat_tbl 996 (by decide +kernel), rfl, zat_tbl 72 (by decide +kernel), ⟨by decide +kernel, by decide +kernel⟩, by decide +kernel, by decide⟩
abbrev mX4_pickOne : zD := (yX4_pickOne, cX4_pickOne, 2, none, [])
theorem okX4_pickOne : zmOk mX4_pickOne 1 := ⟨zat_tbl 1004 (by decide +kernel), rfl, zat_tbl 72 (by decide +kernel), ⟨by decide +kernel, by decide +kernel⟩, by decide +kernel, by decide⟩
abbrev mX4_firstOf : zD := (yX4_firstOf, cX4_firstOf, 2, (some .int), [])
theorem okX4_firstOf : zmOk mX4_firstOf 1 := ⟨zat_tbl 1010 (by decide +kernel), rfl, zat_tbl 72 (by decide +kernel), ⟨by decide +kernel, by decide +kernel⟩, by decide +kernel, by decide⟩
abbrev mX4_lastOf : zD := (yX4_lastOf, cX4_lastOf, 2, (some .int), [])
theorem okX4_lastOf : zmOk mX4_lastOf 1 := ⟨zat_tbl 1014 (by decide +kernel), rfl, zat_tbl 72 (by decide +kernel), ⟨by decide +kernel, by decide +kernel⟩, by decide +kernel, by decide⟩
abbrev mX1_leave : zD := (yX1_leave, cX1_leave, 1, none, [])
theorem okX1_leave : zmOk mX1_leave 0 := ⟨zat_tbl 1018 (by decide +kernel), rfl, zat_tbl 61 (by decide +kernel), ⟨by decide +kernel, by decide +kernel⟩, by decide +kernel, by decide⟩
abbrev mL_remove : zD := (yL_remove, cL_remove, 3, (some .int), [(0, 8, 11, 21), (0, 8, 14, 13), (0, 8, 17, 27)])
theorem okL_remove : zmOk mL_remove 2 := ⟨zat_tbl 1021 (by decide +kernel), rfl, zat_tbl 59 (by decide +kernel), ⟨by decide +kernel, by decide +kernel⟩, by decide +kernel, by decide⟩
abbrev mX11_remove : zD := (yX11_remove, cX11_remove, 1, (some .int), [])
theorem okX11_remove : zmOk mX11_remove 0 := ⟨zat_tbl 1025 (by decide +kernel), rfl, zat_tbl 60 (by decide +kernel), ⟨by decide +kernel, by decide +kernel⟩, by decide +kernel, by decide⟩
abbrev mL_commit : zD := (yL_commit, cL_commit, 3, (some .int), [(0, 8, 11, 21), (0, 8, 14, 27)])
theorem okL_commit : zmOk mL_commit 2 := ⟨zat_tbl 1028 (by decide +kernel), rfl, zat_tbl 59 (by decide +kernel), ⟨by decide +kernel, by decide +kernel⟩, by decide +kernel, by decide⟩
abbrev mX11_commit : zD := (yX11_commit, cX11_commit, 1, (some .int), [])
theorem okX11_commit : zmOk mX11_commit 0 := ⟨zat_tbl 1032 (by decide +kernel), rfl, zat_tbl 60 (by decide +kernel), ⟨by decide +kernel, by decide +kernel⟩, by decide +kernel, by decide⟩
abbrev mX11_requireBatch : zD := (yX11_requireBatch, cX11_requireBatch, 1, none, [])
theorem okX11_requireBatch : zmOk mX11_requireBatch 0 := ⟨zat_tbl 1036 (by decide +kernel), rfl, zat_tbl 60 (by decide +kernel), ⟨by decide +kernel, by decide +kernel⟩, by decide +kernel, by decide⟩
abbrev mL_cancel : zD := (yL_cancel, cL_cancel, 3, (some .int), [(0, 8, 11, 21)])
theorem okL_cancel : zmOk mL_cancel 2 := ⟨zat_tbl 1040 (by decide +kernel), rfl, zat_tbl 59 (by decide +kernel), ⟨by decide +kernel, by decide +kernel⟩, by decide +kernel, by decide⟩
abbrev mX11_cancel : zD := (yX11_cancel, cX11_cancel, 1, (some .int), [])
theorem okX11_cancel : zmOk mX11_cancel 0 := ⟨zat_tbl 1044 (by decide +kernel), rfl, zat_tbl 60 (by decide +kernel), ⟨by decide +kernel, by decide +kernel⟩, by decide +kernel, by decide⟩
abbrev mL_snapshot : zD := (yL_snapshot, cL_snapshot, 3, (some .int), [(0, 8, 11, 21)])
theorem okL_snapshot : zmOk mL_snapshot 2 := ⟨zat_tbl 1047 (by decide +kernel), rfl, zat_tbl 59 (by decide +kernel), ⟨by decide +kernel, by decide +kernel⟩, by decide +kernel, by decide⟩
abbrev mX11_snapshot : zD := (yX11_snapshot, cX11_snapshot, 2, (some .int), [])
theorem okX11_snapshot : zmOk mX11_snapshot 0 := ⟨zat_tbl 1051 (by decide +kernel), rfl, zat_tbl 60 (by decide +kernel), ⟨by decide +kernel, by decide +kernel⟩, by decide +kernel, by decide⟩
abbrev mX9_take : zD := (yX9_take, cX9_take, 3, (some .int), [])
theorem okX9_take : zmOk mX9_take 1 := ⟨zat_tbl 1055 (by decide +kernel), rfl, zat_tbl 65 (by decide +kernel), ⟨by decide +kernel, by decide +kernel⟩, by decide +kernel, by decide⟩
abbrev mL_release : zD := (yL_release, cL_release, 3, (some .int), [(0, 5, 8, 21), (0, 5, 11, 45)])
theorem okL_release : zmOk mL_release 2 := ⟨zat_tbl 1059 (by decide +kernel), rfl, zat_tbl 59 (by decide +kernel), ⟨by decide +kernel, by decide +kernel⟩, by decide +kernel, by decide⟩
abbrev mX11_release : zD := (yX11_release, cX11_release, 2, none, [])
theorem okX11_release : zmOk mX11_release 1 := ⟨zat_tbl 1064 (by decide +kernel), rfl, zat_tbl 60 (by decide +kernel), ⟨by decide +kernel, by decide +kernel⟩, by decide +kernel, by decide⟩
abbrev mX9_has : zD := (yX9_has, cX9_has, 2, (some .boolean), [])
theorem okX9_has : zmOk mX9_has 1 := ⟨zat_tbl 1068 (by decide +kernel), rfl, zat_tbl 65 (by decide +kernel), ⟨by decide +kernel, by decide +kernel⟩, by decide +kernel, by decide⟩
abbrev mX9_drop : zD := (yX9_drop, cX9_drop, 2, none, [])
theorem okX9_drop : zmOk mX9_drop 1 := ⟨zat_tbl 1088 (by decide +kernel), rfl, zat_tbl 65 (by decide +kernel), ⟨by decide +kernel, by decide +kernel⟩, by decide +kernel, by decide⟩
abbrev mL_get : zD := (yL_get, cL_get, 4, (some .int), [(0, 9, 12, 21), (0, 9, 15, 45)])
theorem okL_get : zmOk mL_get 3 := ⟨zat_tbl 1091 (by decide +kernel), rfl, zat_tbl 59 (by decide +kernel), ⟨by decide +kernel, by decide +kernel⟩, by decide +kernel, by decide⟩
abbrev mX11_get : zD := (yX11_get, cX11_get, 4, (some .int), [])
theorem okX11_get : zmOk mX11_get 1 := ⟨zat_tbl 1095 (by decide +kernel), rfl, zat_tbl 60 (by decide +kernel), ⟨by decide +kernel, by decide +kernel⟩, by decide +kernel, by decide⟩
abbrev mX11_viewOf : zD := (yX11_viewOf, cX11_viewOf, 2, (some .int), [])
theorem okX11_viewOf : zmOk mX11_viewOf 1 := ⟨zat_tbl 1099 (by decide +kernel), rfl, zat_tbl 60 (by decide +kernel), ⟨by decide +kernel, by decide +kernel⟩, by decide +kernel, by decide⟩
abbrev mX1_copyValue : zD := (yX1_copyValue, cX1_copyValue, 4, none, [])
theorem okX1_copyValue : zmOk mX1_copyValue 2 := ⟨zat_tbl 1103 (by decide +kernel), rfl, zat_tbl 61 (by decide +kernel), ⟨by decide +kernel, by decide +kernel⟩, by decide +kernel, by decide⟩
abbrev mL_seek : zD := (yL_seek, cL_seek, 5, (some .int), [(0, 10, 13, 21), (0, 10, 17, 45)])
theorem okL_seek : zmOk mL_seek 4 := ⟨zat_tbl 1107 (by decide +kernel), rfl, zat_tbl 59 (by decide +kernel), ⟨by decide +kernel, by decide +kernel⟩, by decide +kernel, by decide⟩
abbrev mX11_seek : zD := (yX11_seek, cX11_seek, 4, (some .int), [])
theorem okX11_seek : zmOk mX11_seek 2 := ⟨zat_tbl 1111 (by decide +kernel), rfl, zat_tbl 60 (by decide +kernel), ⟨by decide +kernel, by decide +kernel⟩, by decide +kernel, by decide⟩
abbrev mX11_nearest : zD := (yX11_nearest, cX11_nearest, 7, (some .int), [])
theorem okX11_nearest : zmOk mX11_nearest 2 := ⟨zat_tbl 1115 (by decide +kernel), rfl, zat_tbl 60 (by decide +kernel), ⟨by decide +kernel, by decide +kernel⟩, by decide +kernel, by decide⟩
abbrev mX11_firstFrom : zD := (yX11_firstFrom, cX11_firstFrom, 6, (some .int), [])
theorem okX11_firstFrom : zmOk mX11_firstFrom 2 := ⟨zat_tbl 1121 (by decide +kernel), rfl, zat_tbl 60 (by decide +kernel), ⟨by decide +kernel, by decide +kernel⟩, by decide +kernel, by decide⟩
abbrev mX5_from : zD := (yX5_from, cX5_from, 4, (some .int), [])
theorem okX5_from : zmOk mX5_from 2 := ⟨zat_tbl 1125 (by decide +kernel), rfl, zat_tbl 66 (by decide +kernel), ⟨by decide +kernel, by decide +kernel⟩, by decide +kernel, by decide⟩
abbrev mX4_from : zD := (yX4_from, cX4_from, 5, (some .int), [])
theorem okX4_from : zmOk mX4_from 2 := ⟨zat_tbl 1129 (by decide +kernel), rfl, zat_tbl 72 (by decide +kernel), ⟨by decide +kernel, by decide +kernel⟩, by decide +kernel, by decide⟩
abbrev mX1_copyKey : zD := (yX1_copyKey, cX1_copyKey, 3, none, [])
theorem okX1_copyKey : zmOk mX1_copyKey 2 := ⟨zat_tbl 1134 (by decide +kernel), rfl, zat_tbl 61 (by decide +kernel), ⟨by decide +kernel, by decide +kernel⟩, by decide +kernel, by decide⟩
abbrev mX11_take : zD := (yX11_take, cX11_take, 2, (some .int), [])
theorem okX11_take : zmOk mX11_take 1 := ⟨zat_tbl 1138 (by decide +kernel), rfl, zat_tbl 60 (by decide +kernel), ⟨by decide +kernel, by decide +kernel⟩, by decide +kernel, by decide⟩
abbrev mL_before : zD := (yL_before, cL_before, 4, (some .int), [(0, 9, 12, 21), (0, 9, 15, 45)])
theorem okL_before : zmOk mL_before 3 := ⟨zat_tbl 1141 (by decide +kernel), rfl, zat_tbl 59 (by decide +kernel), ⟨by decide +kernel, by decide +kernel⟩, by decide +kernel, by decide⟩
abbrev mX11_before : zD := (yX11_before, cX11_before, 3, (some .int), [])
theorem okX11_before : zmOk mX11_before 1 := ⟨zat_tbl 1145 (by decide +kernel), rfl, zat_tbl 60 (by decide +kernel), ⟨by decide +kernel, by decide +kernel⟩, by decide +kernel, by decide⟩
abbrev mX11_nearestBefore : zD := (yX11_nearestBefore, cX11_nearestBefore, 5, (some .int), [])
theorem okX11_nearestBefore : zmOk mX11_nearestBefore 1 := ⟨zat_tbl 1149 (by decide +kernel), rfl, zat_tbl 60 (by decide +kernel), ⟨by decide +kernel, by decide +kernel⟩, by decide +kernel, by decide⟩
abbrev mX11_lastBefore : zD := (yX11_lastBefore, cX11_lastBefore, 5, (some .int), [])
theorem okX11_lastBefore : zmOk mX11_lastBefore 1 := ⟨zat_tbl 1153 (by decide +kernel), rfl, zat_tbl 60 (by decide +kernel), ⟨by decide +kernel, by decide +kernel⟩, by decide +kernel, by decide⟩
abbrev mX5_lastBefore : zD := (yX5_lastBefore, cX5_lastBefore, 3, (some .int), [])
theorem okX5_lastBefore : zmOk mX5_lastBefore 1 := ⟨zat_tbl 1157 (by decide +kernel), rfl, zat_tbl 66 (by decide +kernel), ⟨by decide +kernel, by decide +kernel⟩, by decide +kernel, by decide⟩
abbrev mX4_lastBefore : zD := (yX4_lastBefore, cX4_lastBefore, 4, (some .int), [])
theorem okX4_lastBefore : zmOk mX4_lastBefore 1 := ⟨zat_tbl 1162 (by decide +kernel), rfl, zat_tbl 72 (by decide +kernel), ⟨by decide +kernel, by decide +kernel⟩, by decide +kernel, by decide⟩
abbrev mL_bytes : zD := (yL_bytes, cL_bytes, 5, (some .int), [(0, 9, 12, 13)])
theorem okL_bytes : zmOk mL_bytes 4 := ⟨zat_tbl 1165 (by decide +kernel), rfl, zat_tbl 59 (by decide +kernel), ⟨by decide +kernel, by decide +kernel⟩, by decide +kernel, by decide⟩
abbrev mX11_bytes : zD := (yX11_bytes, cX11_bytes, 3, (some .long), [])
theorem okX11_bytes : zmOk mX11_bytes 2 := ⟨zat_tbl 1169 (by decide +kernel), rfl, zat_tbl 60 (by decide +kernel), ⟨by decide +kernel, by decide +kernel⟩, by decide +kernel, by decide⟩
abbrev mX6_word : zD := (yX6_word, cX6_word, 6, (some .long), [])
theorem okX6_word : zmOk mX6_word 1 := ⟨zat_tbl 1174 (by decide +kernel), rfl, zat_tbl 62 (by decide +kernel), ⟨by decide +kernel, by decide +kernel⟩, by decide +kernel, by decide⟩
abbrev mL_flush : zD := (yL_flush, cL_flush, 2, (some .int), [(0, 4, 7, 21), (0, 4, 10, 27)])
theorem okL_flush : zmOk mL_flush 1 := ⟨zat_tbl 1177 (by decide +kernel), rfl, zat_tbl 59 (by decide +kernel), ⟨by decide +kernel, by decide +kernel⟩, by decide +kernel, by decide⟩
abbrev mX11_flush : zD := (yX11_flush, cX11_flush, 1, none, [])
theorem okX11_flush : zmOk mX11_flush 0 := ⟨zat_tbl 1181 (by decide +kernel), rfl, zat_tbl 60 (by decide +kernel), ⟨by decide +kernel, by decide +kernel⟩, by decide +kernel, by decide⟩
abbrev mL_compact : zD := (yL_compact, cL_compact, 2, (some .int), [(0, 4, 7, 21), (0, 4, 10, 27)])
theorem okL_compact : zmOk mL_compact 1 := ⟨zat_tbl 1184 (by decide +kernel), rfl, zat_tbl 59 (by decide +kernel), ⟨by decide +kernel, by decide +kernel⟩, by decide +kernel, by decide⟩
abbrev mX11_compact : zD := (yX11_compact, cX11_compact, 2, none, [])
theorem okX11_compact : zmOk mX11_compact 0 := ⟨zat_tbl 1188 (by decide +kernel), rfl, zat_tbl 60 (by decide +kernel), ⟨by decide +kernel, by decide +kernel⟩, by decide +kernel, by decide⟩
abbrev mX4_pickAll : zD := (yX4_pickAll, cX4_pickAll, 1, none, [])
theorem okX4_pickAll : zmOk mX4_pickAll 0 := ⟨zat_tbl 1192 (by decide +kernel), rfl, zat_tbl 72 (by decide +kernel), ⟨by decide +kernel, by decide +kernel⟩, by decide +kernel, by decide⟩
abbrev mL_power : zD := (yL_power, cL_power, 5, (some .int), [(0, 7, 10, 13)])
theorem okL_power : zmOk mL_power 4 := ⟨zat_tbl 1195 (by decide +kernel), rfl, zat_tbl 59 (by decide +kernel), ⟨by decide +kernel, by decide +kernel⟩, by decide +kernel, by decide⟩
abbrev mX11_power : zD := (yX11_power, cX11_power, 4, none, [])
theorem okX11_power : zmOk mX11_power 3 := ⟨zat_tbl 1199 (by decide +kernel), rfl, zat_tbl 60 (by decide +kernel), ⟨by decide +kernel, by decide +kernel⟩, by decide +kernel, by decide⟩
abbrev mX1_plan : zD := (yX1_plan, cX1_plan, 4, none, [])
theorem okX1_plan : zmOk mX1_plan 3 := ⟨zat_tbl 1204 (by decide +kernel), rfl, zat_tbl 61 (by decide +kernel), ⟨by decide +kernel, by decide +kernel⟩, by decide +kernel, by decide⟩
abbrev mL_reopen : zD := (yL_reopen, cL_reopen, 3, (some .int), [(0, 8, 11, 27)])
theorem okL_reopen : zmOk mL_reopen 2 := ⟨zat_tbl 1207 (by decide +kernel), rfl, zat_tbl 59 (by decide +kernel), ⟨by decide +kernel, by decide +kernel⟩, by decide +kernel, by decide⟩
abbrev mX11_reopen : zD := (yX11_reopen, cX11_reopen, 1, (some .int), [])
theorem okX11_reopen : zmOk mX11_reopen 0 := ⟨zat_tbl 1211 (by decide +kernel), rfl, zat_tbl 60 (by decide +kernel), ⟨by decide +kernel, by decide +kernel⟩, by decide +kernel, by decide⟩
abbrev mX9_clear : zD := (yX9_clear, cX9_clear, 2, none, [])
theorem okX9_clear : zmOk mX9_clear 0 := ⟨zat_tbl 1215 (by decide +kernel), rfl, zat_tbl 65 (by decide +kernel), ⟨by decide +kernel, by decide +kernel⟩, by decide +kernel, by decide⟩
abbrev mX11_load : zD := (yX11_load, cX11_load, 2, none, [])
theorem okX11_load : zmOk mX11_load 0 := ⟨zat_tbl 1219 (by decide +kernel), rfl, zat_tbl 60 (by decide +kernel), ⟨by decide +kernel, by decide +kernel⟩, by decide +kernel, by decide⟩
abbrev mX2_clear : zD := (yX2_clear, cX2_clear, 2, none, [])
theorem okX2_clear : zmOk mX2_clear 0 := ⟨zat_tbl 1223 (by decide +kernel), rfl, zat_tbl 67 (by decide +kernel), ⟨by decide +kernel, by decide +kernel⟩, by decide +kernel, by decide⟩
abbrev mX4_clear : zD := (yX4_clear, cX4_clear, 1, none, [])
theorem okX4_clear : zmOk mX4_clear 0 := ⟨zat_tbl 1227 (by decide +kernel), rfl, zat_tbl 72 (by decide +kernel), ⟨by decide +kernel, by decide +kernel⟩, by decide +kernel, by decide⟩
abbrev mX3_load : zD := (yX3_load, cX3_load, 8, none, [])
theorem okX3_load : zmOk mX3_load 2 := ⟨zat_tbl 1231 (by decide +kernel), rfl, zat_tbl 71 (by decide +kernel), ⟨by decide +kernel, by decide +kernel⟩, by decide +kernel, by decide⟩
abbrev mX3_generationAt : zD := (yX3_generationAt, cX3_generationAt, 3, (some .int), [])
theorem okX3_generationAt : zmOk mX3_generationAt 1 := ⟨zat_tbl 1235 (by decide +kernel), rfl, zat_tbl 71 (by decide +kernel), ⟨by decide +kernel, by decide +kernel⟩, by decide +kernel, by decide⟩
abbrev mX3_read : zD := (yX3_read, cX3_read, 3, (some .int), [])
theorem okX3_read : zmOk mX3_read 1 := ⟨zat_tbl 1242 (by decide +kernel), rfl, zat_tbl 71 (by decide +kernel), ⟨by decide +kernel, by decide +kernel⟩, by decide +kernel, by decide⟩
abbrev mX3_readTable : zD := (yX3_readTable, cX3_readTable, 7, none, [])
theorem okX3_readTable : zmOk mX3_readTable 2 := ⟨zat_tbl 1246 (by decide +kernel), rfl, zat_tbl 71 (by decide +kernel), ⟨by decide +kernel, by decide +kernel⟩, by decide +kernel, by decide⟩
abbrev mX2_takeThis : zD := (yX2_takeThis, cX2_takeThis, 3, (some .boolean), [])
theorem okX2_takeThis : zmOk mX2_takeThis 1 := ⟨zat_tbl 1251 (by decide +kernel), rfl, zat_tbl 67 (by decide +kernel), ⟨by decide +kernel, by decide +kernel⟩, by decide +kernel, by decide⟩
abbrev mX4_add : zD := (yX4_add, cX4_add, 2, none, [])
theorem okX4_add : zmOk mX4_add 1 := ⟨zat_tbl 1257 (by decide +kernel), rfl, zat_tbl 72 (by decide +kernel), ⟨by decide +kernel, by decide +kernel⟩, by decide +kernel, by decide⟩
abbrev mX5_open : zD := (yX5_open, cX5_open, 2, none, [])
theorem okX5_open : zmOk mX5_open 1 := ⟨zat_tbl 1261 (by decide +kernel), rfl, zat_tbl 66 (by decide +kernel), ⟨by decide +kernel, by decide +kernel⟩, by decide +kernel, by decide⟩
abbrev mX5_replay : zD := (yX5_replay, cX5_replay, 6, (some .int), [])
theorem okX5_replay : zmOk mX5_replay 0 := ⟨zat_tbl 1265 (by decide +kernel), rfl, zat_tbl 66 (by decide +kernel), ⟨by decide +kernel, by decide +kernel⟩, by decide +kernel, by decide⟩
abbrev mX11_recount : zD := (yX11_recount, cX11_recount, 3, none, [])
theorem okX11_recount : zmOk mX11_recount 0 := ⟨zat_tbl 1271 (by decide +kernel), rfl, zat_tbl 60 (by decide +kernel), ⟨by decide +kernel, by decide +kernel⟩, by decide +kernel, by decide⟩
abbrev mX11_gatherAll : zD := (yX11_gatherAll, cX11_gatherAll, 2, none, [])
theorem okX11_gatherAll : zmOk mX11_gatherAll 0 := ⟨zat_tbl 1275 (by decide +kernel), rfl, zat_tbl 60 (by decide +kernel), ⟨by decide +kernel, by decide +kernel⟩, by decide +kernel, by decide⟩
abbrev mX7_firstSeen : zD := (yX7_firstSeen, cX7_firstSeen, 6, (some .int), [])
theorem okX7_firstSeen : zmOk mX7_firstSeen 2 := ⟨zat_tbl 1279 (by decide +kernel), rfl, zat_tbl 69 (by decide +kernel), ⟨by decide +kernel, by decide +kernel⟩, by decide +kernel, by decide⟩
abbrev mX7_hasNewer : zD := (yX7_hasNewer, cX7_hasNewer, 3, (some .boolean), [])
theorem okX7_hasNewer : zmOk mX7_hasNewer 2 := ⟨zat_tbl 1284 (by decide +kernel), rfl, zat_tbl 69 (by decide +kernel), ⟨by decide +kernel, by decide +kernel⟩, by decide +kernel, by decide⟩
abbrev mL_told : zD := (yL_told, cL_told, 4, (some .int), [(0, 9, 12, 13)])
theorem okL_told : zmOk mL_told 3 := ⟨zat_tbl 1287 (by decide +kernel), rfl, zat_tbl 59 (by decide +kernel), ⟨by decide +kernel, by decide +kernel⟩, by decide +kernel, by decide⟩
abbrev mX11_told : zD := (yX11_told, cX11_told, 3, (some .int), [])
theorem okX11_told : zmOk mX11_told 1 := ⟨zat_tbl 1291 (by decide +kernel), rfl, zat_tbl 60 (by decide +kernel), ⟨by decide +kernel, by decide +kernel⟩, by decide +kernel, by decide⟩
abbrev mX9_bits : zD := (yX9_bits, cX9_bits, 3, (some .int), [])
theorem okX9_bits : zmOk mX9_bits 0 := ⟨zat_tbl 1295 (by decide +kernel), rfl, zat_tbl 65 (by decide +kernel), ⟨by decide +kernel, by decide +kernel⟩, by decide +kernel, by decide⟩
abbrev mL_digest : zD := (yL_digest, cL_digest, 4, (some .int), [(0, 8, 11, 21), (0, 8, 14, 45)])
theorem okL_digest : zmOk mL_digest 3 := ⟨zat_tbl 1299 (by decide +kernel), rfl, zat_tbl 59 (by decide +kernel), ⟨by decide +kernel, by decide +kernel⟩, by decide +kernel, by decide⟩
abbrev mX11_digest : zD := (yX11_digest, cX11_digest, 7, (some .long), [])
theorem okX11_digest : zmOk mX11_digest 1 := ⟨zat_tbl 1303 (by decide +kernel), rfl, zat_tbl 60 (by decide +kernel), ⟨by decide +kernel, by decide +kernel⟩, by decide +kernel, by decide⟩
abbrev mX1_mix : zD := (yX1_mix, cX1_mix, 7, (some .long), [])
theorem okX1_mix : zmOk mX1_mix 2 := ⟨zat_tbl 1308 (by decide +kernel), rfl, zat_tbl 61 (by decide +kernel), ⟨by decide +kernel, by decide +kernel⟩, by decide +kernel, by decide⟩
abbrev mX1_mixRow : zD := (yX1_mixRow, cX1_mixRow, 8, (some .long), [])
theorem okX1_mixRow : zmOk mX1_mixRow 3 := ⟨zat_tbl 1312 (by decide +kernel), rfl, zat_tbl 61 (by decide +kernel), ⟨by decide +kernel, by decide +kernel⟩, by decide +kernel, by decide⟩
abbrev mL_check : zD := (yL_check, cL_check, 3, (some .int), [(0, 8, 11, 21)])
theorem okL_check : zmOk mL_check 2 := ⟨zat_tbl 1316 (by decide +kernel), rfl, zat_tbl 59 (by decide +kernel), ⟨by decide +kernel, by decide +kernel⟩, by decide +kernel, by decide⟩
abbrev mX11_check : zD := (yX11_check, cX11_check, 3, (some .int), [])
theorem okX11_check : zmOk mX11_check 0 := ⟨zat_tbl 1320 (by decide +kernel), rfl, zat_tbl 60 (by decide +kernel), ⟨by decide +kernel, by decide +kernel⟩, by decide +kernel, by decide⟩
abbrev mX2_strayBlocks : zD := (yX2_strayBlocks, cX2_strayBlocks, 5, (some .int), [])
theorem okX2_strayBlocks : zmOk mX2_strayBlocks 1 := ⟨zat_tbl 1324 (by decide +kernel), rfl, zat_tbl 67 (by decide +kernel), ⟨by decide +kernel, by decide +kernel⟩, by decide +kernel, by decide⟩
abbrev mX2_own : zD := (yX2_own, cX2_own, 5, (some .int), [])
theorem okX2_own : zmOk mX2_own 1 := ⟨zat_tbl 1329 (by decide +kernel), rfl, zat_tbl 67 (by decide +kernel), ⟨by decide +kernel, by decide +kernel⟩, by decide +kernel, by decide⟩
abbrev mX4_overlaps : zD := (yX4_overlaps, cX4_overlaps, 3, (some .int), [])
theorem okX4_overlaps : zmOk mX4_overlaps 0 := ⟨zat_tbl 1333 (by decide +kernel), rfl, zat_tbl 72 (by decide +kernel), ⟨by decide +kernel, by decide +kernel⟩, by decide +kernel, by decide⟩
abbrev mX4_faults : zD := (yX4_faults, cX4_faults, 3, (some .int), [])
theorem okX4_faults : zmOk mX4_faults 0 := ⟨zat_tbl 1337 (by decide +kernel), rfl, zat_tbl 72 (by decide +kernel), ⟨by decide +kernel, by decide +kernel⟩, by decide +kernel, by decide⟩
abbrev mX8_faults : zD := (yX8_faults, cX8_faults, 5, (some .int), [])
theorem okX8_faults : zmOk mX8_faults 0 := ⟨zat_tbl 1341 (by decide +kernel), rfl, zat_tbl 68 (by decide +kernel), ⟨by decide +kernel, by decide +kernel⟩, by decide +kernel, by decide⟩
abbrev mX12_init : zD := (yX12_init, cX12_init, 1, none, [])
theorem okX12_init : zmOk mX12_init 0 := ⟨zat_tbl 1350 (by decide +kernel), rfl, zat_tbl 73 (by decide +kernel), ⟨by decide +kernel, by decide +kernel⟩, by decide +kernel, by decide⟩
abbrev mX12_thrown : zD := (yX12_thrown, cX12_thrown, 1, (some .int), [])
theorem okX12_thrown : zmOk mX12_thrown 0 := ⟨zat_tbl 1415 (by decide +kernel), rfl, zat_tbl 73 (by decide +kernel), ⟨by decide +kernel, by decide +kernel⟩, by decide +kernel, by decide⟩
abbrev mX12_key : zD := (yX12_key, cX12_key, 7, (some .int), [])
theorem okX12_key : zmOk mX12_key 3 := ⟨zat_tbl 1419 (by decide +kernel), rfl, zat_tbl 73 (by decide +kernel), ⟨by decide +kernel, by decide +kernel⟩, by decide +kernel, by decide⟩
abbrev mX12_value : zD := (yX12_value, cX12_value, 7, (some .int), [])
theorem okX12_value : zmOk mX12_value 3 := ⟨zat_tbl 1423 (by decide +kernel), rfl, zat_tbl 73 (by decide +kernel), ⟨by decide +kernel, by decide +kernel⟩, by decide +kernel, by decide⟩
abbrev mX12_begin : zD := (yX12_begin, cX12_begin, 1, none, [])
theorem okX12_begin : zmOk mX12_begin 0 := ⟨zat_tbl 1427 (by decide +kernel), rfl, zat_tbl 73 (by decide +kernel), ⟨by decide +kernel, by decide +kernel⟩, by decide +kernel, by decide⟩
abbrev mX12_put : zD := (yX12_put, cX12_put, 1, (some .int), [])
theorem okX12_put : zmOk mX12_put 0 := ⟨zat_tbl 1431 (by decide +kernel), rfl, zat_tbl 73 (by decide +kernel), ⟨by decide +kernel, by decide +kernel⟩, by decide +kernel, by decide⟩
abbrev mX12_change : zD := (yX12_change, cX12_change, 2, (some .int), [])
theorem okX12_change : zmOk mX12_change 1 := ⟨zat_tbl 1435 (by decide +kernel), rfl, zat_tbl 73 (by decide +kernel), ⟨by decide +kernel, by decide +kernel⟩, by decide +kernel, by decide⟩
abbrev mX12_begun : zD := (yX12_begun, cX12_begun, 1, none, [])
theorem okX12_begun : zmOk mX12_begun 0 := ⟨zat_tbl 1440 (by decide +kernel), rfl, zat_tbl 73 (by decide +kernel), ⟨by decide +kernel, by decide +kernel⟩, by decide +kernel, by decide⟩
abbrev mX12_set : zD := (yX12_set, cX12_set, 9, none, [])
theorem okX12_set : zmOk mX12_set 6 := ⟨zat_tbl 1444 (by decide +kernel), rfl, zat_tbl 73 (by decide +kernel), ⟨by decide +kernel, by decide +kernel⟩, by decide +kernel, by decide⟩
abbrev mX12_compare : zD := (yX12_compare, cX12_compare, 8, (some .int), [])
theorem okX12_compare : zmOk mX12_compare 5 := ⟨zat_tbl 1447 (by decide +kernel), rfl, zat_tbl 73 (by decide +kernel), ⟨by decide +kernel, by decide +kernel⟩, by decide +kernel, by decide⟩
abbrev mX12_behind : zD := (yX12_behind, cX12_behind, 2, (some .int), [])
theorem okX12_behind : zmOk mX12_behind 2 := ⟨zat_tbl 1450 (by decide +kernel), rfl, zat_tbl 73 (by decide +kernel), ⟨by decide +kernel, by decide +kernel⟩, by decide +kernel, by decide⟩
abbrev mX12_size : zD := (yX12_size, cX12_size, 5, (some .int), [])
theorem okX12_size : zmOk mX12_size 3 := ⟨zat_tbl 1453 (by decide +kernel), rfl, zat_tbl 73 (by decide +kernel), ⟨by decide +kernel, by decide +kernel⟩, by decide +kernel, by decide⟩
abbrev mX12_done : zD := (yX12_done, cX12_done, 2, (some .int), [])
theorem okX12_done : zmOk mX12_done 0 := ⟨zat_tbl 1457 (by decide +kernel), rfl, zat_tbl 73 (by decide +kernel), ⟨by decide +kernel, by decide +kernel⟩, by decide +kernel, by decide⟩
abbrev mX12_fall : zD := (yX12_fall, cX12_fall, 1, none, [])
theorem okX12_fall : zmOk mX12_fall 0 := ⟨zat_tbl 1461 (by decide +kernel), rfl, zat_tbl 73 (by decide +kernel), ⟨by decide +kernel, by decide +kernel⟩, by decide +kernel, by decide⟩
abbrev mX12_lost : zD := (yX12_lost, cX12_lost, 1, none, [])
theorem okX12_lost : zmOk mX12_lost 0 := ⟨zat_tbl 1465 (by decide +kernel), rfl, zat_tbl 73 (by decide +kernel), ⟨by decide +kernel, by decide +kernel⟩, by decide +kernel, by decide⟩
abbrev mX12_failed : zD := (yX12_failed, cX12_failed, 1, (some .int), [])
theorem okX12_failed : zmOk mX12_failed 0 := ⟨zat_tbl 1469 (by decide +kernel), rfl, zat_tbl 73 (by decide +kernel), ⟨by decide +kernel, by decide +kernel⟩, by decide +kernel, by decide⟩
abbrev mX12_remove : zD := (yX12_remove, cX12_remove, 1, (some .int), [])
theorem okX12_remove : zmOk mX12_remove 0 := ⟨zat_tbl 1473 (by decide +kernel), rfl, zat_tbl 73 (by decide +kernel), ⟨by decide +kernel, by decide +kernel⟩, by decide +kernel, by decide⟩
abbrev mX12_commit : zD := (yX12_commit, cX12_commit, 8, (some .int), [])
theorem okX12_commit : zmOk mX12_commit 0 := ⟨zat_tbl 1477 (by decide +kernel), rfl, zat_tbl 73 (by decide +kernel), ⟨by decide +kernel, by decide +kernel⟩, by decide +kernel, by decide⟩
abbrev mX12_cancel : zD := (yX12_cancel, cX12_cancel, 2, (some .int), [])
theorem okX12_cancel : zmOk mX12_cancel 0 := ⟨zat_tbl 1481 (by decide +kernel), rfl, zat_tbl 73 (by decide +kernel), ⟨by decide +kernel, by decide +kernel⟩, by decide +kernel, by decide⟩
abbrev mX12_snapshot : zD := (yX12_snapshot, cX12_snapshot, 2, (some .int), [])
theorem okX12_snapshot : zmOk mX12_snapshot 0 := ⟨zat_tbl 1485 (by decide +kernel), rfl, zat_tbl 73 (by decide +kernel), ⟨by decide +kernel, by decide +kernel⟩, by decide +kernel, by decide⟩
abbrev mX12_release : zD := (yX12_release, cX12_release, 2, none, [])
theorem okX12_release : zmOk mX12_release 1 := ⟨zat_tbl 1489 (by decide +kernel), rfl, zat_tbl 73 (by decide +kernel), ⟨by decide +kernel, by decide +kernel⟩, by decide +kernel, by decide⟩
abbrev mX12_get : zD := (yX12_get, cX12_get, 4, (some .int), [])
theorem okX12_get : zmOk mX12_get 1 := ⟨zat_tbl 1493 (by decide +kernel), rfl, zat_tbl 73 (by decide +kernel), ⟨by decide +kernel, by decide +kernel⟩, by decide +kernel, by decide⟩
abbrev mX12_isThere : zD := (yX12_isThere, cX12_isThere, 2, (some .boolean), [])
theorem okX12_isThere : zmOk mX12_isThere 1 := ⟨zat_tbl 1497 (by decide +kernel), rfl, zat_tbl 73 (by decide +kernel), ⟨by decide +kernel, by decide +kernel⟩, by decide +kernel, by decide⟩
abbrev mX12_rowOf : zD := (yX12_rowOf, cX12_rowOf, 2, (some (.array .byte)), [])
theorem okX12_rowOf : zmOk mX12_rowOf 1 := ⟨zat_tbl 1501 (by decide +kernel), rfl, zat_tbl 73 (by decide +kernel), ⟨by decide +kernel, by decide +kernel⟩, by decide +kernel, by decide⟩
abbrev mX12_from : zD := (yX12_from, cX12_from, 2, (some .int), [])
theorem okX12_from : zmOk mX12_from 1 := ⟨zat_tbl 1505 (by decide +kernel), rfl, zat_tbl 73 (by decide +kernel), ⟨by decide +kernel, by decide +kernel⟩, by decide +kernel, by decide⟩
abbrev mX12_end : zD := (yX12_end, cX12_end, 2, (some .int), [])
theorem okX12_end : zmOk mX12_end 1 := ⟨zat_tbl 1509 (by decide +kernel), rfl, zat_tbl 73 (by decide +kernel), ⟨by decide +kernel, by decide +kernel⟩, by decide +kernel, by decide⟩
abbrev mX12_taken : zD := (yX12_taken, cX12_taken, 5, none, [])
theorem okX12_taken : zmOk mX12_taken 3 := ⟨zat_tbl 1513 (by decide +kernel), rfl, zat_tbl 73 (by decide +kernel), ⟨by decide +kernel, by decide +kernel⟩, by decide +kernel, by decide⟩
abbrev mX12_seek : zD := (yX12_seek, cX12_seek, 6, (some .int), [])
theorem okX12_seek : zmOk mX12_seek 2 := ⟨zat_tbl 1517 (by decide +kernel), rfl, zat_tbl 73 (by decide +kernel), ⟨by decide +kernel, by decide +kernel⟩, by decide +kernel, by decide⟩
abbrev mX12_before : zD := (yX12_before, cX12_before, 5, (some .int), [])
theorem okX12_before : zmOk mX12_before 1 := ⟨zat_tbl 1521 (by decide +kernel), rfl, zat_tbl 73 (by decide +kernel), ⟨by decide +kernel, by decide +kernel⟩, by decide +kernel, by decide⟩
abbrev mX12_bytes : zD := (yX12_bytes, cX12_bytes, 6, (some .long), [])
theorem okX12_bytes : zmOk mX12_bytes 2 := ⟨zat_tbl 1525 (by decide +kernel), rfl, zat_tbl 73 (by decide +kernel), ⟨by decide +kernel, by decide +kernel⟩, by decide +kernel, by decide⟩
abbrev mX12_flush : zD := (yX12_flush, cX12_flush, 1, none, [])
theorem okX12_flush : zmOk mX12_flush 0 := ⟨zat_tbl 1529 (by decide +kernel), rfl, zat_tbl 73 (by decide +kernel), ⟨by decide +kernel, by decide +kernel⟩, by decide +kernel, by decide⟩
abbrev mX12_works : zD := (yX12_works, cX12_works, 1, none, [])
theorem okX12_works : zmOk mX12_works 0 := ⟨zat_tbl 1533 (by decide +kernel), rfl, zat_tbl 73 (by decide +kernel), ⟨by decide +kernel, by decide +kernel⟩, by decide +kernel, by decide⟩
abbrev mX12_compact : zD := (yX12_compact, cX12_compact, 1, none, [])
theorem okX12_compact : zmOk mX12_compact 0 := ⟨zat_tbl 1537 (by decide +kernel), rfl, zat_tbl 73 (by decide +kernel), ⟨by decide +kernel, by decide +kernel⟩, by decide +kernel, by decide⟩
abbrev mX12_power : zD := (yX12_power, cX12_power, 4, none, [])
theorem okX12_power : zmOk mX12_power 3 := ⟨zat_tbl 1541 (by decide +kernel), rfl, zat_tbl 73 (by decide +kernel), ⟨by decide +kernel, by decide +kernel⟩, by decide +kernel, by decide⟩
abbrev mX12_reopen : zD := (yX12_reopen, cX12_reopen, 2, (some .int), [])
theorem okX12_reopen : zmOk mX12_reopen 0 := ⟨zat_tbl 1545 (by decide +kernel), rfl, zat_tbl 73 (by decide +kernel), ⟨by decide +kernel, by decide +kernel⟩, by decide +kernel, by decide⟩
abbrev mX12_told : zD := (yX12_told, cX12_told, 2, (some .int), [])
theorem okX12_told : zmOk mX12_told 1 := ⟨zat_tbl 1549 (by decide +kernel), rfl, zat_tbl 73 (by decide +kernel), ⟨by decide +kernel, by decide +kernel⟩, by decide +kernel, by decide⟩
abbrev mX12_many : zD := (yX12_many, cX12_many, 5, (some .int), [])
theorem okX12_many : zmOk mX12_many 3 := ⟨zat_tbl 1552 (by decide +kernel), rfl, zat_tbl 73 (by decide +kernel), ⟨by decide +kernel, by decide +kernel⟩, by decide +kernel, by decide⟩
abbrev mX12_digest : zD := (yX12_digest, cX12_digest, 10, (some .long), [])
theorem okX12_digest : zmOk mX12_digest 1 := ⟨zat_tbl 1556 (by decide +kernel), rfl, zat_tbl 73 (by decide +kernel), ⟨by decide +kernel, by decide +kernel⟩, by decide +kernel, by decide⟩
abbrev mX12_check : zD := (yX12_check, cX12_check, 1, (some .int), [])
theorem okX12_check : zmOk mX12_check 0 := ⟨zat_tbl 1562 (by decide +kernel), rfl, zat_tbl 73 (by decide +kernel), ⟨by decide +kernel, by decide +kernel⟩, by decide +kernel, by decide⟩
theorem slX11_requireOn : Cond.selects (zRX 11) yX11_requireOn yX11_requireOn ∈ lw_tbl := zat_tbl 1 (by decide +kernel)
theorem slX11_addStep : Cond.selects (zRX 11) yX11_addStep yX11_addStep ∈ lw_tbl := zat_tbl 2 (by decide +kernel)
theorem slX11_finish : Cond.selects (zRX 11) yX11_finish yX11_finish ∈ lw_tbl := zat_tbl 3 (by decide +kernel)
theorem slX11_weigh : Cond.selects (zRX 11) yX11_weigh yX11_weigh ∈ lw_tbl := zat_tbl 4 (by decide +kernel)
theorem slX0_haveSameKey : Cond.selects (zRX 0) yX0_haveSameKey yX0_haveSameKey ∈ lw_tbl := zat_tbl 5 (by decide +kernel)
theorem slX11_find : Cond.selects (zRX 11) yX11_find yX11_find ∈ lw_tbl := zat_tbl 6 (by decide +kernel)
theorem slX5_countBefore : Cond.selects (zRX 5) yX5_countBefore yX5_countBefore ∈ lw_tbl := zat_tbl 7 (by decide +kernel)
theorem slX4_tableFrom : Cond.selects (zRX 4) yX4_tableFrom yX4_tableFrom ∈ lw_tbl := zat_tbl 8 (by decide +kernel)
theorem slX4_table : Cond.selects (zRX 4) yX4_table yX4_table ∈ lw_tbl := zat_tbl 9 (by decide +kernel)
theorem slX1_goOff : Cond.selects (zRX 1) yX1_goOff yX1_goOff ∈ lw_tbl := zat_tbl 10 (by decide +kernel)
theorem slX5_enlist : Cond.selects (zRX 5) yX5_enlist yX5_enlist ∈ lw_tbl := zat_tbl 11 (by decide +kernel)
theorem slX5_enlistOne : Cond.selects (zRX 5) yX5_enlistOne yX5_enlistOne ∈ lw_tbl := zat_tbl 12 (by decide +kernel)
theorem slX11_settle : Cond.selects (zRX 11) yX11_settle yX11_settle ∈ lw_tbl := zat_tbl 13 (by decide +kernel)
theorem slX11_pickNone : Cond.selects (zRX 11) yX11_pickNone yX11_pickNone ∈ lw_tbl := zat_tbl 14 (by decide +kernel)
theorem slX11_join : Cond.selects (zRX 11) yX11_join yX11_join ∈ lw_tbl := zat_tbl 15 (by decide +kernel)
theorem slX11_gather : Cond.selects (zRX 11) yX11_gather yX11_gather ∈ lw_tbl := zat_tbl 16 (by decide +kernel)
theorem slX7_withoutRemoves : Cond.selects (zRX 7) yX7_withoutRemoves yX7_withoutRemoves ∈ lw_tbl := zat_tbl 17 (by decide +kernel)
theorem slX10_stepTo : Cond.selects (zRX 10) yX10_stepTo yX10_stepTo ∈ lw_tbl := zat_tbl 18 (by decide +kernel)
theorem slX10_advance : Cond.selects (zRX 10) yX10_advance yX10_advance ∈ lw_tbl := zat_tbl 19 (by decide +kernel)
theorem slX10_writeOut : Cond.selects (zRX 10) yX10_writeOut yX10_writeOut ∈ lw_tbl := zat_tbl 20 (by decide +kernel)
theorem slX10_current : Cond.selects (zRX 10) yX10_current yX10_current ∈ lw_tbl := zat_tbl 21 (by decide +kernel)
theorem slX2_mark : Cond.selects (zRX 2) yX2_mark yX2_mark ∈ lw_tbl := zat_tbl 22 (by decide +kernel)
theorem slX10_closeTable : Cond.selects (zRX 10) yX10_closeTable yX10_closeTable ∈ lw_tbl := zat_tbl 23 (by decide +kernel)
theorem slX10_open : Cond.selects (zRX 10) yX10_open yX10_open ∈ lw_tbl := zat_tbl 24 (by decide +kernel)
theorem slX10_copyEntry : Cond.selects (zRX 10) yX10_copyEntry yX10_copyEntry ∈ lw_tbl := zat_tbl 25 (by decide +kernel)
theorem slX3_describe : Cond.selects (zRX 3) yX3_describe yX3_describe ∈ lw_tbl := zat_tbl 26 (by decide +kernel)
theorem slX3_addNumber : Cond.selects (zRX 3) yX3_addNumber yX3_addNumber ∈ lw_tbl := zat_tbl 27 (by decide +kernel)
theorem slX3_addTable : Cond.selects (zRX 3) yX3_addTable yX3_addTable ∈ lw_tbl := zat_tbl 28 (by decide +kernel)
theorem slX2_free : Cond.selects (zRX 2) yX2_free yX2_free ∈ lw_tbl := zat_tbl 29 (by decide +kernel)
theorem slX11_requireBatch : Cond.selects (zRX 11) yX11_requireBatch yX11_requireBatch ∈ lw_tbl := zat_tbl 30 (by decide +kernel)
theorem slX11_viewOf : Cond.selects (zRX 11) yX11_viewOf yX11_viewOf ∈ lw_tbl := zat_tbl 31 (by decide +kernel)
theorem slX11_nearest : Cond.selects (zRX 11) yX11_nearest yX11_nearest ∈ lw_tbl := zat_tbl 32 (by decide +kernel)
theorem slX11_firstFrom : Cond.selects (zRX 11) yX11_firstFrom yX11_firstFrom ∈ lw_tbl := zat_tbl 33 (by decide +kernel)
theorem slX11_take : Cond.selects (zRX 11) yX11_take yX11_take ∈ lw_tbl := zat_tbl 34 (by decide +kernel)
theorem slX11_nearestBefore : Cond.selects (zRX 11) yX11_nearestBefore yX11_nearestBefore ∈ lw_tbl := zat_tbl 35 (by decide +kernel)
theorem slX11_lastBefore : Cond.selects (zRX 11) yX11_lastBefore yX11_lastBefore ∈ lw_tbl := zat_tbl 36 (by decide +kernel)
theorem slX11_load : Cond.selects (zRX 11) yX11_load yX11_load ∈ lw_tbl := zat_tbl 37 (by decide +kernel)
theorem slX3_generationAt : Cond.selects (zRX 3) yX3_generationAt yX3_generationAt ∈ lw_tbl := zat_tbl 38 (by decide +kernel)
theorem slX3_read : Cond.selects (zRX 3) yX3_read yX3_read ∈ lw_tbl := zat_tbl 39 (by decide +kernel)
theorem slX3_readTable : Cond.selects (zRX 3) yX3_readTable yX3_readTable ∈ lw_tbl := zat_tbl 40 (by decide +kernel)
theorem slX11_recount : Cond.selects (zRX 11) yX11_recount yX11_recount ∈ lw_tbl := zat_tbl 41 (by decide +kernel)
theorem slX11_gatherAll : Cond.selects (zRX 11) yX11_gatherAll yX11_gatherAll ∈ lw_tbl := zat_tbl 42 (by decide +kernel)
theorem slX7_hasNewer : Cond.selects (zRX 7) yX7_hasNewer yX7_hasNewer ∈ lw_tbl := zat_tbl 43 (by decide +kernel)
theorem slX1_mixRow : Cond.selects (zRX 1) yX1_mixRow yX1_mixRow ∈ lw_tbl := zat_tbl 44 (by decide +kernel)
theorem slX2_own : Cond.selects (zRX 2) yX2_own yX2_own ∈ lw_tbl := zat_tbl 45 (by decide +kernel)
theorem slX12_change : Cond.selects (zRX 12) yX12_change yX12_change ∈ lw_tbl := zat_tbl 46 (by decide +kernel)
theorem slX12_begun : Cond.selects (zRX 12) yX12_begun yX12_begun ∈ lw_tbl := zat_tbl 47 (by decide +kernel)
theorem slX12_set : Cond.selects (zRX 12) yX12_set yX12_set ∈ lw_tbl := zat_tbl 48 (by decide +kernel)
theorem slX12_done : Cond.selects (zRX 12) yX12_done yX12_done ∈ lw_tbl := zat_tbl 49 (by decide +kernel)
theorem slX12_fall : Cond.selects (zRX 12) yX12_fall yX12_fall ∈ lw_tbl := zat_tbl 50 (by decide +kernel)
theorem slX12_lost : Cond.selects (zRX 12) yX12_lost yX12_lost ∈ lw_tbl := zat_tbl 51 (by decide +kernel)
theorem slX12_failed : Cond.selects (zRX 12) yX12_failed yX12_failed ∈ lw_tbl := zat_tbl 52 (by decide +kernel)
theorem slX12_isThere : Cond.selects (zRX 12) yX12_isThere yX12_isThere ∈ lw_tbl := zat_tbl 53 (by decide +kernel)
theorem slX12_rowOf : Cond.selects (zRX 12) yX12_rowOf yX12_rowOf ∈ lw_tbl := zat_tbl 54 (by decide +kernel)
theorem slX12_from : Cond.selects (zRX 12) yX12_from yX12_from ∈ lw_tbl := zat_tbl 55 (by decide +kernel)
theorem slX12_end : Cond.selects (zRX 12) yX12_end yX12_end ∈ lw_tbl := zat_tbl 56 (by decide +kernel)
theorem slX12_taken : Cond.selects (zRX 12) yX12_taken yX12_taken ∈ lw_tbl := zat_tbl 57 (by decide +kernel)
theorem slX12_works : Cond.selects (zRX 12) yX12_works yX12_works ∈ lw_tbl := zat_tbl 58 (by decide +kernel)
theorem clL_8 : Cond.classLink RL 8 (zRX 11) ∈ lw_tbl := zat_tbl 83 (by decide +kernel)
theorem mlL_85 : Cond.methodLink RL 85 yX11_init ∈ lw_tbl := zat_tbl 85 (by decide +kernel)
theorem inX11_init : Cond.instanceMethod yX11_init ∈ lw_tbl := zat_tbl 86 (by decide +kernel)
theorem mlX11_3 : Cond.methodLink RX11 3 Lib.objectInit ∈ lw_tbl := zat_tbl 88 (by decide +kernel)
theorem clX11_9 : Cond.classLink RX11 9 (zRX 1) ∈ lw_tbl := zat_tbl 91 (by decide +kernel)
theorem mlX11_11 : Cond.methodLinkNest RX11 11 yX1_init "LsmStore" ∈ lw_tbl := zat_tbl 93 (by decide +kernel)
theorem inX1_init : Cond.instanceMethod yX1_init ∈ lw_tbl := zat_tbl 94 (by decide +kernel)
theorem mlX1_3 : Cond.methodLink RX1 3 Lib.objectInit ∈ lw_tbl := zat_tbl 96 (by decide +kernel)
theorem ctX1_9 : Cond.constant RX1 9 (304128) ∈ lw_tbl := zat_tbl 97 (by decide +kernel)
theorem lkX1_10 : zlk RX1 10 1 0 := Or.inl (zat_tbl 98 (by decide +kernel))
theorem lkX10_99 : zlk RX10 99 1 0 := Or.inr (zat_tbl 99 (by decide +kernel))
theorem lkX8_53 : zlk RX8 53 1 0 := Or.inr (zat_tbl 100 (by decide +kernel))
theorem lkX1_16 : zlk RX1 16 1 1 := Or.inl (zat_tbl 101 (by decide +kernel))
theorem lkX1_19 : zlk RX1 19 1 2 := Or.inl (zat_tbl 102 (by decide +kernel))
theorem lkX11_224 : zlk RX11 224 1 2 := Or.inr (zat_tbl 103 (by decide +kernel))
theorem lkX1_23 : zlk RX1 23 1 3 := Or.inl (zat_tbl 104 (by decide +kernel))
theorem lkX1_27 : zlk RX1 27 1 4 := Or.inl (zat_tbl 105 (by decide +kernel))
theorem lkX1_30 : zlk RX1 30 1 5 := Or.inl (zat_tbl 106 (by decide +kernel))
theorem lkX1_33 : zlk RX1 33 1 6 := Or.inl (zat_tbl 107 (by decide +kernel))
theorem lkX1_36 : zlk RX1 36 1 7 := Or.inl (zat_tbl 108 (by decide +kernel))
theorem clX11_16 : Cond.classLink RX11 16 (zRX 6) ∈ lw_tbl := zat_tbl 127 (by decide +kernel)
theorem mlX11_18 : Cond.methodLink RX11 18 yX6_init ∈ lw_tbl := zat_tbl 129 (by decide +kernel)
theorem inX6_init : Cond.instanceMethod yX6_init ∈ lw_tbl := zat_tbl 130 (by decide +kernel)
theorem mlX6_3 : Cond.methodLink RX6 3 Lib.objectInit ∈ lw_tbl := zat_tbl 132 (by decide +kernel)
theorem mlX6_9 : Cond.methodLink RX6 9 yJ9_max_7cf53 ∈ lw_tbl := zat_tbl 133 (by decide +kernel)
theorem stJ9_max_7cf53 : Cond.static yJ9_max_7cf53 ∈ lw_tbl := zat_tbl 134 (by decide +kernel)
theorem lkX6_15 : zlk RX6 15 6 0 := Or.inl (zat_tbl 136 (by decide +kernel))
theorem lkX0_29 : zlk RX0 29 6 0 := Or.inr (zat_tbl 137 (by decide +kernel))
theorem lkX4_98 : zlk RX4 98 6 0 := Or.inr (zat_tbl 138 (by decide +kernel))
theorem lkX1_81 : zlk RX1 81 6 0 := Or.inr (zat_tbl 139 (by decide +kernel))
theorem lkX11_315 : zlk RX11 315 6 0 := Or.inr (zat_tbl 140 (by decide +kernel))
theorem lkX6_21 : zlk RX6 21 6 1 := Or.inl (zat_tbl 141 (by decide +kernel))
theorem lkX0_26 : zlk RX0 26 6 1 := Or.inr (zat_tbl 142 (by decide +kernel))
theorem lkX11_172 : zlk RX11 172 6 1 := Or.inr (zat_tbl 143 (by decide +kernel))
theorem lkX4_104 : zlk RX4 104 6 1 := Or.inr (zat_tbl 144 (by decide +kernel))
theorem lkX1_78 : zlk RX1 78 6 1 := Or.inr (zat_tbl 145 (by decide +kernel))
theorem clX11_31 : Cond.classLink RX11 31 (zRX 0) ∈ lw_tbl := zat_tbl 151 (by decide +kernel)
theorem mlX11_33 : Cond.methodLinkNest RX11 33 yX0_init "LsmStore" ∈ lw_tbl := zat_tbl 153 (by decide +kernel)
theorem inX0_init : Cond.instanceMethod yX0_init ∈ lw_tbl := zat_tbl 154 (by decide +kernel)
theorem mlX0_3 : Cond.methodLink RX0 3 Lib.objectInit ∈ lw_tbl := zat_tbl 156 (by decide +kernel)
theorem lkX0_9 : zlk RX0 9 0 0 := Or.inl (zat_tbl 157 (by decide +kernel))
theorem lkX5_43 : zlk RX5 43 0 0 := Or.inr (zat_tbl 158 (by decide +kernel))
theorem lkX0_15 : zlk RX0 15 0 1 := Or.inl (zat_tbl 159 (by decide +kernel))
theorem lkX0_19 : zlk RX0 19 0 2 := Or.inl (zat_tbl 160 (by decide +kernel))
theorem lkX5_34 : zlk RX5 34 0 2 := Or.inr (zat_tbl 161 (by decide +kernel))
theorem lkX11_126 : zlk RX11 126 0 2 := Or.inr (zat_tbl 162 (by decide +kernel))
theorem lkX0_23 : zlk RX0 23 0 3 := Or.inl (zat_tbl 163 (by decide +kernel))
theorem lkX5_26 : zlk RX5 26 0 3 := Or.inr (zat_tbl 164 (by decide +kernel))
theorem lkX11_111 : zlk RX11 111 0 4 := Or.inr (zat_tbl 165 (by decide +kernel))
theorem clX11_38 : Cond.classLink RX11 38 (zRX 9) ∈ lw_tbl := zat_tbl 178 (by decide +kernel)
theorem mlX11_40 : Cond.methodLinkNest RX11 40 yX9_init "LsmStore" ∈ lw_tbl := zat_tbl 180 (by decide +kernel)
theorem inX9_init : Cond.instanceMethod yX9_init ∈ lw_tbl := zat_tbl 181 (by decide +kernel)
theorem mlX9_3 : Cond.methodLink RX9 3 Lib.objectInit ∈ lw_tbl := zat_tbl 183 (by decide +kernel)
theorem lkX9_9 : zlk RX9 9 9 0 := Or.inl (zat_tbl 184 (by decide +kernel))
theorem lkX11_268 : zlk RX11 268 9 0 := Or.inr (zat_tbl 185 (by decide +kernel))
theorem clX11_45 : Cond.classLink RX11 45 (zRX 5) ∈ lw_tbl := zat_tbl 189 (by decide +kernel)
theorem mlX11_47 : Cond.methodLink RX11 47 yX5_init ∈ lw_tbl := zat_tbl 191 (by decide +kernel)
theorem inX5_init : Cond.instanceMethod yX5_init ∈ lw_tbl := zat_tbl 192 (by decide +kernel)
theorem mlX5_3 : Cond.methodLink RX5 3 Lib.objectInit ∈ lw_tbl := zat_tbl 194 (by decide +kernel)
theorem lkX5_15 : zlk RX5 15 5 0 := Or.inl (zat_tbl 195 (by decide +kernel))
theorem lkX5_9 : zlk RX5 9 5 1 := Or.inl (zat_tbl 196 (by decide +kernel))
theorem lkX5_31 : zlk RX5 31 5 2 := Or.inl (zat_tbl 197 (by decide +kernel))
theorem lkX5_23 : zlk RX5 23 5 3 := Or.inl (zat_tbl 198 (by decide +kernel))
theorem lkX11_203 : zlk RX11 203 5 3 := Or.inr (zat_tbl 199 (by decide +kernel))
theorem lkX5_19 : zlk RX5 19 5 4 := Or.inl (zat_tbl 200 (by decide +kernel))
theorem lkX11_433 : zlk RX11 433 5 4 := Or.inr (zat_tbl 201 (by decide +kernel))
theorem lkX5_53 : zlk RX5 53 5 5 := Or.inl (zat_tbl 202 (by decide +kernel))
theorem lkX5_81 : zlk RX5 81 5 6 := Or.inl (zat_tbl 203 (by decide +kernel))
theorem clX11_54 : Cond.classLink RX11 54 (zRX 2) ∈ lw_tbl := zat_tbl 219 (by decide +kernel)
theorem mlX11_56 : Cond.methodLink RX11 56 yX2_init ∈ lw_tbl := zat_tbl 221 (by decide +kernel)
theorem inX2_init : Cond.instanceMethod yX2_init ∈ lw_tbl := zat_tbl 222 (by decide +kernel)
theorem mlX2_3 : Cond.methodLink RX2 3 Lib.objectInit ∈ lw_tbl := zat_tbl 224 (by decide +kernel)
theorem clX2_19 : Cond.classLink RX2 19 (zRX 8) ∈ lw_tbl := zat_tbl 225 (by decide +kernel)
theorem mlX2_35 : Cond.methodLink RX2 35 yX8_init ∈ lw_tbl := zat_tbl 228 (by decide +kernel)
theorem inX8_init : Cond.instanceMethod yX8_init ∈ lw_tbl := zat_tbl 229 (by decide +kernel)
theorem mlX8_3 : Cond.methodLink RX8 3 Lib.objectInit ∈ lw_tbl := zat_tbl 231 (by decide +kernel)
theorem lkX8_15 : zlk RX8 15 8 0 := Or.inl (zat_tbl 232 (by decide +kernel))
theorem lkX8_9 : zlk RX8 9 8 1 := Or.inl (zat_tbl 233 (by decide +kernel))
theorem lkX3_75 : zlk RX3 75 8 1 := Or.inr (zat_tbl 234 (by decide +kernel))
theorem lkX2_68 : zlk RX2 68 8 1 := Or.inr (zat_tbl 235 (by decide +kernel))
theorem lkX8_19 : zlk RX8 19 8 2 := Or.inl (zat_tbl 236 (by decide +kernel))
theorem lkX3_72 : zlk RX3 72 8 2 := Or.inr (zat_tbl 237 (by decide +kernel))
theorem lkX4_45 : zlk RX4 45 8 2 := Or.inr (zat_tbl 238 (by decide +kernel))
theorem lkX2_65 : zlk RX2 65 8 2 := Or.inr (zat_tbl 239 (by decide +kernel))
theorem lkX8_23 : zlk RX8 23 8 3 := Or.inl (zat_tbl 240 (by decide +kernel))
theorem lkX4_50 : zlk RX4 50 8 3 := Or.inr (zat_tbl 241 (by decide +kernel))
theorem lkX2_38 : zlk RX2 38 8 4 := Or.inr (zat_tbl 242 (by decide +kernel))
theorem lkX2_9 : zlk RX2 9 2 0 := Or.inl (zat_tbl 255 (by decide +kernel))
theorem lkX2_15 : zlk RX2 15 2 1 := Or.inl (zat_tbl 256 (by decide +kernel))
theorem lkX2_21 : zlk RX2 21 2 2 := Or.inl (zat_tbl 257 (by decide +kernel))
theorem lkX2_25 : zlk RX2 25 2 3 := Or.inl (zat_tbl 258 (by decide +kernel))
theorem lkX2_42 : zlk RX2 42 2 4 := Or.inl (zat_tbl 259 (by decide +kernel))
theorem lkX2_28 : zlk RX2 28 2 5 := Or.inl (zat_tbl 260 (by decide +kernel))
theorem lkX10_66 : zlk RX10 66 2 5 := Or.inr (zat_tbl 261 (by decide +kernel))
theorem lkX2_32 : zlk RX2 32 2 6 := Or.inl (zat_tbl 262 (by decide +kernel))
theorem lkX10_71 : zlk RX10 71 2 6 := Or.inr (zat_tbl 263 (by decide +kernel))
theorem lkX2_45 : zlk RX2 45 2 7 := Or.inl (zat_tbl 264 (by decide +kernel))
theorem clX11_61 : Cond.classLink RX11 61 (zRX 4) ∈ lw_tbl := zat_tbl 282 (by decide +kernel)
theorem clX11_67 : Cond.classLink RX11 67 (zRX 7) ∈ lw_tbl := zat_tbl 284 (by decide +kernel)
theorem mlX11_69 : Cond.methodLink RX11 69 yX7_init ∈ lw_tbl := zat_tbl 286 (by decide +kernel)
theorem inX7_init : Cond.instanceMethod yX7_init ∈ lw_tbl := zat_tbl 287 (by decide +kernel)
theorem mlX7_3 : Cond.methodLink RX7 3 Lib.objectInit ∈ lw_tbl := zat_tbl 289 (by decide +kernel)
theorem lkX7_18 : zlk RX7 18 7 0 := Or.inl (zat_tbl 290 (by decide +kernel))
theorem lkX7_9 : zlk RX7 9 7 1 := Or.inl (zat_tbl 291 (by decide +kernel))
theorem lkX10_36 : zlk RX10 36 7 1 := Or.inr (zat_tbl 292 (by decide +kernel))
theorem lkX11_246 : zlk RX11 246 7 1 := Or.inr (zat_tbl 293 (by decide +kernel))
theorem lkX7_15 : zlk RX7 15 7 2 := Or.inl (zat_tbl 294 (by decide +kernel))
theorem lkX7_22 : zlk RX7 22 7 3 := Or.inl (zat_tbl 295 (by decide +kernel))
theorem lkX10_55 : zlk RX10 55 7 3 := Or.inr (zat_tbl 296 (by decide +kernel))
theorem lkX11_448 : zlk RX11 448 7 3 := Or.inr (zat_tbl 297 (by decide +kernel))
theorem lkX7_26 : zlk RX7 26 7 4 := Or.inl (zat_tbl 298 (by decide +kernel))
theorem lkX11_404 : zlk RX11 404 7 4 := Or.inr (zat_tbl 299 (by decide +kernel))
theorem clX11_74 : Cond.classLink RX11 74 (zRX 10) ∈ lw_tbl := zat_tbl 311 (by decide +kernel)
theorem mlX11_76 : Cond.methodLink RX11 76 yX10_init ∈ lw_tbl := zat_tbl 313 (by decide +kernel)
theorem inX10_init : Cond.instanceMethod yX10_init ∈ lw_tbl := zat_tbl 314 (by decide +kernel)
theorem mlX10_3 : Cond.methodLink RX10 3 Lib.objectInit ∈ lw_tbl := zat_tbl 316 (by decide +kernel)
theorem clX10_18 : Cond.classLink RX10 18 (zRX 8) ∈ lw_tbl := zat_tbl 317 (by decide +kernel)
theorem lkX10_24 : zlk RX10 24 10 0 := Or.inl (zat_tbl 318 (by decide +kernel))
theorem lkX10_28 : zlk RX10 28 10 1 := Or.inl (zat_tbl 319 (by decide +kernel))
theorem lkX10_9 : zlk RX10 9 10 2 := Or.inl (zat_tbl 320 (by decide +kernel))
theorem lkX10_15 : zlk RX10 15 10 3 := Or.inl (zat_tbl 321 (by decide +kernel))
theorem lkX10_20 : zlk RX10 20 10 4 := Or.inl (zat_tbl 322 (by decide +kernel))
theorem lkX11_418 : zlk RX11 418 10 4 := Or.inr (zat_tbl 323 (by decide +kernel))
theorem lkX10_74 : zlk RX10 74 10 5 := Or.inl (zat_tbl 324 (by decide +kernel))
theorem lkX11_422 : zlk RX11 422 10 5 := Or.inr (zat_tbl 325 (by decide +kernel))
theorem lkX10_52 : zlk RX10 52 10 6 := Or.inl (zat_tbl 326 (by decide +kernel))
theorem lkX10_32 : zlk RX10 32 10 7 := Or.inl (zat_tbl 327 (by decide +kernel))
theorem clX11_83 : Cond.classLink RX11 83 (zRX 3) ∈ lw_tbl := zat_tbl 345 (by decide +kernel)
theorem mlX11_85 : Cond.methodLink RX11 85 yX3_init ∈ lw_tbl := zat_tbl 347 (by decide +kernel)
theorem inX3_init : Cond.instanceMethod yX3_init ∈ lw_tbl := zat_tbl 348 (by decide +kernel)
theorem mlX3_3 : Cond.methodLink RX3 3 Lib.objectInit ∈ lw_tbl := zat_tbl 350 (by decide +kernel)
theorem lkX3_15 : zlk RX3 15 3 0 := Or.inl (zat_tbl 351 (by decide +kernel))
theorem lkX3_9 : zlk RX3 9 3 1 := Or.inl (zat_tbl 352 (by decide +kernel))
theorem lkX3_39 : zlk RX3 39 3 2 := Or.inl (zat_tbl 353 (by decide +kernel))
theorem lkX3_86 : zlk RX3 86 3 3 := Or.inl (zat_tbl 354 (by decide +kernel))
theorem lkX3_23 : zlk RX3 23 3 4 := Or.inl (zat_tbl 355 (by decide +kernel))
theorem lkX3_49 : zlk RX3 49 3 5 := Or.inl (zat_tbl 356 (by decide +kernel))
theorem lkX11_345 : zlk RX11 345 3 5 := Or.inr (zat_tbl 357 (by decide +kernel))
theorem lkX3_52 : zlk RX3 52 3 6 := Or.inl (zat_tbl 358 (by decide +kernel))
theorem lkX11_350 : zlk RX11 350 3 6 := Or.inr (zat_tbl 359 (by decide +kernel))
theorem mlX11_90 : Cond.methodLink RX11 90 yX4_init ∈ lw_tbl := zat_tbl 376 (by decide +kernel)
theorem inX4_init : Cond.instanceMethod yX4_init ∈ lw_tbl := zat_tbl 377 (by decide +kernel)
theorem mlX4_3 : Cond.methodLink RX4 3 Lib.objectInit ∈ lw_tbl := zat_tbl 379 (by decide +kernel)
theorem clX4_9 : Cond.classLink RX4 9 (zRX 8) ∈ lw_tbl := zat_tbl 380 (by decide +kernel)
theorem mlX4_21 : Cond.methodLink RX4 21 yX8_init ∈ lw_tbl := zat_tbl 381 (by decide +kernel)
theorem mlX4_28 : Cond.methodLink RX4 28 yX8_start ∈ lw_tbl := zat_tbl 382 (by decide +kernel)
theorem inX8_start : Cond.instanceMethod yX8_start ∈ lw_tbl := zat_tbl 383 (by decide +kernel)
theorem slX8_start : Cond.selects (zRX 8) yX8_start yX8_start ∈ lw_tbl := zat_tbl 384 (by decide +kernel)
theorem lkX4_17 : zlk RX4 17 4 0 := Or.inl (zat_tbl 386 (by decide +kernel))
theorem lkX4_24 : zlk RX4 24 4 1 := Or.inl (zat_tbl 387 (by decide +kernel))
theorem lkX4_11 : zlk RX4 11 4 2 := Or.inl (zat_tbl 388 (by decide +kernel))
theorem lkX4_31 : zlk RX4 31 4 3 := Or.inl (zat_tbl 389 (by decide +kernel))
theorem lkX3_59 : zlk RX3 59 4 3 := Or.inr (zat_tbl 390 (by decide +kernel))
theorem lkX2_71 : zlk RX2 71 4 3 := Or.inr (zat_tbl 391 (by decide +kernel))
theorem lkX11_376 : zlk RX11 376 4 3 := Or.inr (zat_tbl 392 (by decide +kernel))
theorem lkX4_35 : zlk RX4 35 4 4 := Or.inl (zat_tbl 393 (by decide +kernel))
theorem lkX4_38 : zlk RX4 38 4 5 := Or.inl (zat_tbl 394 (by decide +kernel))
theorem lkX11_12 : zlk RX11 12 11 0 := Or.inl (zat_tbl 408 (by decide +kernel))
theorem lkX11_21 : zlk RX11 21 11 1 := Or.inl (zat_tbl 409 (by decide +kernel))
theorem lkX11_25 : zlk RX11 25 11 2 := Or.inl (zat_tbl 410 (by decide +kernel))
theorem lkX11_28 : zlk RX11 28 11 3 := Or.inl (zat_tbl 411 (by decide +kernel))
theorem lkX11_34 : zlk RX11 34 11 4 := Or.inl (zat_tbl 412 (by decide +kernel))
theorem lkX11_41 : zlk RX11 41 11 5 := Or.inl (zat_tbl 413 (by decide +kernel))
theorem lkX11_50 : zlk RX11 50 11 6 := Or.inl (zat_tbl 414 (by decide +kernel))
theorem lkX11_57 : zlk RX11 57 11 7 := Or.inl (zat_tbl 415 (by decide +kernel))
theorem lkX11_63 : zlk RX11 63 11 8 := Or.inl (zat_tbl 416 (by decide +kernel))
theorem lkX11_70 : zlk RX11 70 11 9 := Or.inl (zat_tbl 417 (by decide +kernel))
theorem lkX11_79 : zlk RX11 79 11 10 := Or.inl (zat_tbl 418 (by decide +kernel))
theorem lkX11_86 : zlk RX11 86 11 11 := Or.inl (zat_tbl 419 (by decide +kernel))
theorem lkX11_227 : zlk RX11 227 11 12 := Or.inl (zat_tbl 420 (by decide +kernel))
theorem lkX11_230 : zlk RX11 230 11 13 := Or.inl (zat_tbl 421 (by decide +kernel))
theorem lkX11_137 : zlk RX11 137 11 14 := Or.inl (zat_tbl 422 (by decide +kernel))
theorem lkX11_281 : zlk RX11 281 11 15 := Or.inl (zat_tbl 423 (by decide +kernel))
theorem lkX11_298 : zlk RX11 298 11 16 := Or.inl (zat_tbl 424 (by decide +kernel))
theorem lkX11_373 : zlk RX11 373 11 17 := Or.inl (zat_tbl 425 (by decide +kernel))
theorem mlL_91 : Cond.methodLink RL 91 yL_key ∈ lw_tbl := zat_tbl 463 (by decide +kernel)
theorem stL_key : Cond.static yL_key ∈ lw_tbl := zat_tbl 464 (by decide +kernel)
theorem clL_13 : Cond.classLink RL 13 "java/lang/IllegalArgumentException" ∈ lw_tbl := zat_tbl 466 (by decide +kernel)
theorem mlL_7 : Cond.methodLink RL 7 yX11_key ∈ lw_tbl := zat_tbl 467 (by decide +kernel)
theorem inX11_key : Cond.instanceMethod yX11_key ∈ lw_tbl := zat_tbl 468 (by decide +kernel)
theorem slX11_key : Cond.selects (zRX 11) yX11_key yX11_key ∈ lw_tbl := zat_tbl 469 (by decide +kernel)
theorem mlX11_91 : Cond.methodLink RX11 91 yX6_accepts ∈ lw_tbl := zat_tbl 471 (by decide +kernel)
theorem inX6_accepts : Cond.instanceMethod yX6_accepts ∈ lw_tbl := zat_tbl 472 (by decide +kernel)
theorem slX6_accepts : Cond.selects (zRX 6) yX6_accepts yX6_accepts ∈ lw_tbl := zat_tbl 473 (by decide +kernel)
theorem clX11_95 : Cond.classLink RX11 95 "java/lang/IllegalArgumentException" ∈ lw_tbl := zat_tbl 475 (by decide +kernel)
theorem mlX11_102 : Cond.methodLink RX11 102 yX6_append ∈ lw_tbl := zat_tbl 543 (by decide +kernel)
theorem inX6_append : Cond.instanceMethod yX6_append ∈ lw_tbl := zat_tbl 544 (by decide +kernel)
theorem slX6_append : Cond.selects (zRX 6) yX6_append yX6_append ∈ lw_tbl := zat_tbl 545 (by decide +kernel)
theorem mlL_100 : Cond.methodLink RL 100 yL_value ∈ lw_tbl := zat_tbl 547 (by decide +kernel)
theorem stL_value : Cond.static yL_value ∈ lw_tbl := zat_tbl 548 (by decide +kernel)
theorem mlL_15 : Cond.methodLink RL 15 yX11_value ∈ lw_tbl := zat_tbl 550 (by decide +kernel)
theorem inX11_value : Cond.instanceMethod yX11_value ∈ lw_tbl := zat_tbl 551 (by decide +kernel)
theorem slX11_value : Cond.selects (zRX 11) yX11_value yX11_value ∈ lw_tbl := zat_tbl 552 (by decide +kernel)
theorem mlL_103 : Cond.methodLink RL 103 yL_begin ∈ lw_tbl := zat_tbl 555 (by decide +kernel)
theorem stL_begin : Cond.static yL_begin ∈ lw_tbl := zat_tbl 556 (by decide +kernel)
theorem clL_21 : Cond.classLink RL 21 "java/lang/IllegalStateException" ∈ lw_tbl := zat_tbl 558 (by decide +kernel)
theorem mlL_18 : Cond.methodLink RL 18 yX11_begin ∈ lw_tbl := zat_tbl 559 (by decide +kernel)
theorem inX11_begin : Cond.instanceMethod yX11_begin ∈ lw_tbl := zat_tbl 560 (by decide +kernel)
theorem slX11_begin : Cond.selects (zRX 11) yX11_begin yX11_begin ∈ lw_tbl := zat_tbl 561 (by decide +kernel)
theorem mlX11_108 : Cond.methodLink RX11 108 yX11_requireOn ∈ lw_tbl := zat_tbl 563 (by decide +kernel)
theorem inX11_requireOn : Cond.instanceMethod yX11_requireOn ∈ lw_tbl := zat_tbl 565 (by decide +kernel)
theorem clX11_115 : Cond.classLink RX11 115 "java/lang/IllegalStateException" ∈ lw_tbl := zat_tbl 567 (by decide +kernel)
theorem mlX11_120 : Cond.methodLink RX11 120 yX0_start ∈ lw_tbl := zat_tbl 584 (by decide +kernel)
theorem inX0_start : Cond.instanceMethod yX0_start ∈ lw_tbl := zat_tbl 585 (by decide +kernel)
theorem slX0_start : Cond.selects (zRX 0) yX0_start yX0_start ∈ lw_tbl := zat_tbl 586 (by decide +kernel)
theorem mlL_107 : Cond.methodLink RL 107 yL_put ∈ lw_tbl := zat_tbl 588 (by decide +kernel)
theorem stL_put : Cond.static yL_put ∈ lw_tbl := zat_tbl 589 (by decide +kernel)
theorem clL_27 : Cond.classLink RL 27 "java/lang/ArithmeticException" ∈ lw_tbl := zat_tbl 591 (by decide +kernel)
theorem mlL_23 : Cond.methodLink RL 23 yX11_put ∈ lw_tbl := zat_tbl 592 (by decide +kernel)
theorem inX11_put : Cond.instanceMethod yX11_put ∈ lw_tbl := zat_tbl 593 (by decide +kernel)
theorem slX11_put : Cond.selects (zRX 11) yX11_put yX11_put ∈ lw_tbl := zat_tbl 594 (by decide +kernel)
theorem mlX11_123 : Cond.methodLink RX11 123 yX11_addStep ∈ lw_tbl := zat_tbl 596 (by decide +kernel)
theorem inX11_addStep : Cond.instanceMethod yX11_addStep ∈ lw_tbl := zat_tbl 598 (by decide +kernel)
theorem mlX11_274 : Cond.methodLink RX11 274 yX0_add ∈ lw_tbl := zat_tbl 602 (by decide +kernel)
theorem inX0_add : Cond.instanceMethod yX0_add ∈ lw_tbl := zat_tbl 603 (by decide +kernel)
theorem slX0_add : Cond.selects (zRX 0) yX0_add yX0_add ∈ lw_tbl := zat_tbl 604 (by decide +kernel)
theorem mlX0_32 : Cond.methodLink RX0 32 arraycopyName ∈ lw_tbl := zat_tbl 606 (by decide +kernel)
theorem mlX11_130 : Cond.methodLink RX11 130 yX11_finish ∈ lw_tbl := zat_tbl 609 (by decide +kernel)
theorem inX11_finish : Cond.instanceMethod yX11_finish ∈ lw_tbl := zat_tbl 611 (by decide +kernel)
theorem mlX11_278 : Cond.methodLink RX11 278 yX11_weigh ∈ lw_tbl := zat_tbl 613 (by decide +kernel)
theorem inX11_weigh : Cond.instanceMethod yX11_weigh ∈ lw_tbl := zat_tbl 615 (by decide +kernel)
theorem mlX11_301 : Cond.methodLink RX11 301 yX0_isLastOfItsKey ∈ lw_tbl := zat_tbl 617 (by decide +kernel)
theorem inX0_isLastOfItsKey : Cond.instanceMethod yX0_isLastOfItsKey ∈ lw_tbl := zat_tbl 618 (by decide +kernel)
theorem slX0_isLastOfItsKey : Cond.selects (zRX 0) yX0_isLastOfItsKey yX0_isLastOfItsKey ∈ lw_tbl := zat_tbl 619 (by decide +kernel)
theorem mlX0_42 : Cond.methodLink RX0 42 yX0_haveSameKey ∈ lw_tbl := zat_tbl 621 (by decide +kernel)
theorem inX0_haveSameKey : Cond.instanceMethod yX0_haveSameKey ∈ lw_tbl := zat_tbl 623 (by decide +kernel)
theorem mlX11_304 : Cond.methodLink RX11 304 yX0_copyKey ∈ lw_tbl := zat_tbl 625 (by decide +kernel)
theorem inX0_copyKey : Cond.instanceMethod yX0_copyKey ∈ lw_tbl := zat_tbl 626 (by decide +kernel)
theorem slX0_copyKey : Cond.selects (zRX 0) yX0_copyKey yX0_copyKey ∈ lw_tbl := zat_tbl 627 (by decide +kernel)
theorem mlX0_38 : Cond.methodLink RX0 38 yX6_copy ∈ lw_tbl := zat_tbl 629 (by decide +kernel)
theorem inX6_copy : Cond.instanceMethod yX6_copy ∈ lw_tbl := zat_tbl 630 (by decide +kernel)
theorem slX6_copy : Cond.selects (zRX 6) yX6_copy yX6_copy ∈ lw_tbl := zat_tbl 631 (by decide +kernel)
theorem mlX6_25 : Cond.methodLink RX6 25 arraycopyName ∈ lw_tbl := zat_tbl 633 (by decide +kernel)
theorem ctX11_175 : Cond.constant RX11 175 (2147483647) ∈ lw_tbl := zat_tbl 634 (by decide +kernel)
theorem mlX11_161 : Cond.methodLink RX11 161 yX11_find ∈ lw_tbl := zat_tbl 635 (by decide +kernel)
theorem inX11_find : Cond.instanceMethod yX11_find ∈ lw_tbl := zat_tbl 637 (by decide +kernel)
theorem mlX11_313 : Cond.methodLink RX11 313 yX5_find ∈ lw_tbl := zat_tbl 639 (by decide +kernel)
theorem inX5_find : Cond.instanceMethod yX5_find ∈ lw_tbl := zat_tbl 640 (by decide +kernel)
theorem slX5_find : Cond.selects (zRX 5) yX5_find yX5_find ∈ lw_tbl := zat_tbl 641 (by decide +kernel)
theorem mlX5_93 : Cond.methodLink RX5 93 yX5_countBefore ∈ lw_tbl := zat_tbl 643 (by decide +kernel)
theorem inX5_countBefore : Cond.instanceMethod yX5_countBefore ∈ lw_tbl := zat_tbl 645 (by decide +kernel)
theorem mlX5_102 : Cond.methodLink RX5 102 yX1_isBefore ∈ lw_tbl := zat_tbl 647 (by decide +kernel)
theorem inX1_isBefore : Cond.instanceMethod yX1_isBefore ∈ lw_tbl := zat_tbl 648 (by decide +kernel)
theorem slX1_isBefore : Cond.selects (zRX 1) yX1_isBefore yX1_isBefore ∈ lw_tbl := zat_tbl 649 (by decide +kernel)
theorem ctX1_55 : Cond.constant RX1 55 (303104) ∈ lw_tbl := zat_tbl 651 (by decide +kernel)
theorem mlX1_49 : Cond.methodLink RX1 49 yJ9_min_7cf53 ∈ lw_tbl := zat_tbl 652 (by decide +kernel)
theorem stJ9_min_7cf53 : Cond.static yJ9_min_7cf53 ∈ lw_tbl := zat_tbl 653 (by decide +kernel)
theorem mlX1_75 : Cond.methodLink RX1 75 yX1_number ∈ lw_tbl := zat_tbl 655 (by decide +kernel)
theorem inX1_number : Cond.instanceMethod yX1_number ∈ lw_tbl := zat_tbl 656 (by decide +kernel)
theorem slX1_number : Cond.selects (zRX 1) yX1_number yX1_number ∈ lw_tbl := zat_tbl 657 (by decide +kernel)
theorem mlX5_97 : Cond.methodLink RX5 97 yX1_hasKey ∈ lw_tbl := zat_tbl 659 (by decide +kernel)
theorem inX1_hasKey : Cond.instanceMethod yX1_hasKey ∈ lw_tbl := zat_tbl 660 (by decide +kernel)
theorem slX1_hasKey : Cond.selects (zRX 1) yX1_hasKey yX1_hasKey ∈ lw_tbl := zat_tbl 661 (by decide +kernel)
theorem mlX11_314 : Cond.methodLink RX11 314 yX4_find ∈ lw_tbl := zat_tbl 663 (by decide +kernel)
theorem inX4_find : Cond.instanceMethod yX4_find ∈ lw_tbl := zat_tbl 664 (by decide +kernel)
theorem slX4_find : Cond.selects (zRX 4) yX4_find yX4_find ∈ lw_tbl := zat_tbl 665 (by decide +kernel)
theorem ctX4_93 : Cond.constant RX4 93 (2147483647) ∈ lw_tbl := zat_tbl 667 (by decide +kernel)
theorem mlX4_94 : Cond.methodLink RX4 94 yX4_tableFrom ∈ lw_tbl := zat_tbl 668 (by decide +kernel)
theorem inX4_tableFrom : Cond.instanceMethod yX4_tableFrom ∈ lw_tbl := zat_tbl 670 (by decide +kernel)
theorem mlX4_41 : Cond.methodLink RX4 41 yX4_table ∈ lw_tbl := zat_tbl 672 (by decide +kernel)
theorem inX4_table : Cond.instanceMethod yX4_table ∈ lw_tbl := zat_tbl 674 (by decide +kernel)
theorem mlX4_89 : Cond.methodLink RX4 89 yX1_isBefore ∈ lw_tbl := zat_tbl 676 (by decide +kernel)
theorem mlX4_107 : Cond.methodLink RX4 107 yX8_allows ∈ lw_tbl := zat_tbl 677 (by decide +kernel)
theorem inX8_allows : Cond.instanceMethod yX8_allows ∈ lw_tbl := zat_tbl 678 (by decide +kernel)
theorem slX8_allows : Cond.selects (zRX 8) yX8_allows yX8_allows ∈ lw_tbl := zat_tbl 679 (by decide +kernel)
theorem mlX8_39 : Cond.methodLink RX8 39 yX8_hash ∈ lw_tbl := zat_tbl 681 (by decide +kernel)
theorem stX8_hash : Cond.static yX8_hash ∈ lw_tbl := zat_tbl 682 (by decide +kernel)
theorem ctX8_68 : Cond.constant RX8 68 (-2128831035) ∈ lw_tbl := zat_tbl 684 (by decide +kernel)
theorem mlX8_69 : Cond.methodLink RX8 69 yJ9_max_7cf53 ∈ lw_tbl := zat_tbl 685 (by decide +kernel)
theorem ctX8_74 : Cond.constant RX8 74 (16777619) ∈ lw_tbl := zat_tbl 686 (by decide +kernel)
theorem mlX8_43 : Cond.methodLink RX8 43 yX8_strideOf ∈ lw_tbl := zat_tbl 687 (by decide +kernel)
theorem stX8_strideOf : Cond.static yX8_strideOf ∈ lw_tbl := zat_tbl 688 (by decide +kernel)
theorem mlX8_46 : Cond.methodLink RX8 46 yX1_kind ∈ lw_tbl := zat_tbl 690 (by decide +kernel)
theorem inX1_kind : Cond.instanceMethod yX1_kind ∈ lw_tbl := zat_tbl 691 (by decide +kernel)
theorem slX1_kind : Cond.selects (zRX 1) yX1_kind yX1_kind ∈ lw_tbl := zat_tbl 692 (by decide +kernel)
theorem mlX4_111 : Cond.methodLink RX4 111 yX8_lastBefore ∈ lw_tbl := zat_tbl 694 (by decide +kernel)
theorem inX8_lastBefore : Cond.instanceMethod yX8_lastBefore ∈ lw_tbl := zat_tbl 695 (by decide +kernel)
theorem slX8_lastBefore : Cond.selects (zRX 8) yX8_lastBefore yX8_lastBefore ∈ lw_tbl := zat_tbl 696 (by decide +kernel)
theorem mlX8_35 : Cond.methodLink RX8 35 yX1_isBefore ∈ lw_tbl := zat_tbl 698 (by decide +kernel)
theorem mlX8_30 : Cond.methodLink RX8 30 yX1_nextInBlock ∈ lw_tbl := zat_tbl 699 (by decide +kernel)
theorem inX1_nextInBlock : Cond.instanceMethod yX1_nextInBlock ∈ lw_tbl := zat_tbl 700 (by decide +kernel)
theorem slX1_nextInBlock : Cond.selects (zRX 1) yX1_nextInBlock yX1_nextInBlock ∈ lw_tbl := zat_tbl 701 (by decide +kernel)
theorem mlX4_46 : Cond.methodLink RX4 46 yX8_startOf ∈ lw_tbl := zat_tbl 703 (by decide +kernel)
theorem inX8_startOf : Cond.instanceMethod yX8_startOf ∈ lw_tbl := zat_tbl 704 (by decide +kernel)
theorem slX8_startOf : Cond.selects (zRX 8) yX8_startOf yX8_startOf ∈ lw_tbl := zat_tbl 705 (by decide +kernel)
theorem mlX4_80 : Cond.methodLink RX4 80 yX8_following ∈ lw_tbl := zat_tbl 707 (by decide +kernel)
theorem inX8_following : Cond.instanceMethod yX8_following ∈ lw_tbl := zat_tbl 708 (by decide +kernel)
theorem slX8_following : Cond.selects (zRX 8) yX8_following yX8_following ∈ lw_tbl := zat_tbl 709 (by decide +kernel)
theorem mlX8_26 : Cond.methodLink RX8 26 yX8_startOf ∈ lw_tbl := zat_tbl 711 (by decide +kernel)
theorem mlX4_114 : Cond.methodLink RX4 114 yX1_hasKey ∈ lw_tbl := zat_tbl 712 (by decide +kernel)
theorem mlX11_165 : Cond.methodLink RX11 165 yX1_kind ∈ lw_tbl := zat_tbl 713 (by decide +kernel)
theorem mlX11_307 : Cond.methodLink RX11 307 yX1_entryLength ∈ lw_tbl := zat_tbl 714 (by decide +kernel)
theorem inX1_entryLength : Cond.instanceMethod yX1_entryLength ∈ lw_tbl := zat_tbl 715 (by decide +kernel)
theorem slX1_entryLength : Cond.selects (zRX 1) yX1_entryLength yX1_entryLength ∈ lw_tbl := zat_tbl 716 (by decide +kernel)
theorem mlX11_310 : Cond.methodLink RX11 310 yX0_kind ∈ lw_tbl := zat_tbl 718 (by decide +kernel)
theorem inX0_kind : Cond.instanceMethod yX0_kind ∈ lw_tbl := zat_tbl 719 (by decide +kernel)
theorem slX0_kind : Cond.selects (zRX 0) yX0_kind yX0_kind ∈ lw_tbl := zat_tbl 720 (by decide +kernel)
theorem mlX11_311 : Cond.methodLink RX11 311 yX0_entryLength ∈ lw_tbl := zat_tbl 722 (by decide +kernel)
theorem inX0_entryLength : Cond.instanceMethod yX0_entryLength ∈ lw_tbl := zat_tbl 723 (by decide +kernel)
theorem slX0_entryLength : Cond.selects (zRX 0) yX0_entryLength yX0_entryLength ∈ lw_tbl := zat_tbl 724 (by decide +kernel)
theorem mlX11_286 : Cond.methodLink RX11 286 yX5_hasRoom ∈ lw_tbl := zat_tbl 727 (by decide +kernel)
theorem inX5_hasRoom : Cond.instanceMethod yX5_hasRoom ∈ lw_tbl := zat_tbl 728 (by decide +kernel)
theorem slX5_hasRoom : Cond.selects (zRX 5) yX5_hasRoom yX5_hasRoom ∈ lw_tbl := zat_tbl 729 (by decide +kernel)
theorem mlX11_190 : Cond.methodLink RX11 190 yX1_enter ∈ lw_tbl := zat_tbl 732 (by decide +kernel)
theorem inX1_enter : Cond.instanceMethod yX1_enter ∈ lw_tbl := zat_tbl 733 (by decide +kernel)
theorem slX1_enter : Cond.selects (zRX 1) yX1_enter yX1_enter ∈ lw_tbl := zat_tbl 734 (by decide +kernel)
theorem mlX11_292 : Cond.methodLink RX11 292 yX0_seal ∈ lw_tbl := zat_tbl 736 (by decide +kernel)
theorem inX0_seal : Cond.instanceMethod yX0_seal ∈ lw_tbl := zat_tbl 737 (by decide +kernel)
theorem slX0_seal : Cond.selects (zRX 0) yX0_seal yX0_seal ∈ lw_tbl := zat_tbl 738 (by decide +kernel)
theorem mlX11_295 : Cond.methodLink RX11 295 yX5_append ∈ lw_tbl := zat_tbl 740 (by decide +kernel)
theorem inX5_append : Cond.instanceMethod yX5_append ∈ lw_tbl := zat_tbl 741 (by decide +kernel)
theorem slX5_append : Cond.selects (zRX 5) yX5_append yX5_append ∈ lw_tbl := zat_tbl 742 (by decide +kernel)
theorem mlX5_37 : Cond.methodLink RX5 37 yJ9_min_7cf53 ∈ lw_tbl := zat_tbl 744 (by decide +kernel)
theorem mlX5_47 : Cond.methodLink RX5 47 yX1_write ∈ lw_tbl := zat_tbl 745 (by decide +kernel)
theorem inX1_write : Cond.instanceMethod yX1_write ∈ lw_tbl := zat_tbl 746 (by decide +kernel)
theorem slX1_write : Cond.selects (zRX 1) yX1_write yX1_write ∈ lw_tbl := zat_tbl 747 (by decide +kernel)
theorem mlX1_56 : Cond.methodLink RX1 56 arraycopyName ∈ lw_tbl := zat_tbl 749 (by decide +kernel)
theorem mlX1_39 : Cond.methodLink RX1 39 yX1_goOff ∈ lw_tbl := zat_tbl 750 (by decide +kernel)
theorem inX1_goOff : Cond.instanceMethod yX1_goOff ∈ lw_tbl := zat_tbl 752 (by decide +kernel)
theorem clX1_42 : Cond.classLink RX1 42 "java/lang/ArithmeticException" ∈ lw_tbl := zat_tbl 754 (by decide +kernel)
theorem mlX5_56 : Cond.methodLink RX5 56 yJ9_max_7cf53 ∈ lw_tbl := zat_tbl 770 (by decide +kernel)
theorem mlX5_59 : Cond.methodLink RX5 59 yX5_enlist ∈ lw_tbl := zat_tbl 771 (by decide +kernel)
theorem inX5_enlist : Cond.instanceMethod yX5_enlist ∈ lw_tbl := zat_tbl 773 (by decide +kernel)
theorem mlX5_63 : Cond.methodLink RX5 63 yX5_enlistOne ∈ lw_tbl := zat_tbl 775 (by decide +kernel)
theorem inX5_enlistOne : Cond.instanceMethod yX5_enlistOne ∈ lw_tbl := zat_tbl 777 (by decide +kernel)
theorem mlX5_71 : Cond.methodLink RX5 71 yX1_precedes ∈ lw_tbl := zat_tbl 779 (by decide +kernel)
theorem inX1_precedes : Cond.instanceMethod yX1_precedes ∈ lw_tbl := zat_tbl 780 (by decide +kernel)
theorem slX1_precedes : Cond.selects (zRX 1) yX1_precedes yX1_precedes ∈ lw_tbl := zat_tbl 781 (by decide +kernel)
theorem mlX1_72 : Cond.methodLink RX1 72 yX1_order ∈ lw_tbl := zat_tbl 783 (by decide +kernel)
theorem inX1_order : Cond.instanceMethod yX1_order ∈ lw_tbl := zat_tbl 784 (by decide +kernel)
theorem slX1_order : Cond.selects (zRX 1) yX1_order yX1_order ∈ lw_tbl := zat_tbl 785 (by decide +kernel)
theorem mlX5_75 : Cond.methodLink RX5 75 arraycopyName ∈ lw_tbl := zat_tbl 787 (by decide +kernel)
theorem mlX5_67 : Cond.methodLink RX5 67 yX1_entryLength ∈ lw_tbl := zat_tbl 788 (by decide +kernel)
theorem mlX11_194 : Cond.methodLink RX11 194 yX11_settle ∈ lw_tbl := zat_tbl 789 (by decide +kernel)
theorem inX11_settle : Cond.instanceMethod yX11_settle ∈ lw_tbl := zat_tbl 791 (by decide +kernel)
theorem mlX11_354 : Cond.methodLink RX11 354 yX11_pickNone ∈ lw_tbl := zat_tbl 793 (by decide +kernel)
theorem inX11_pickNone : Cond.instanceMethod yX11_pickNone ∈ lw_tbl := zat_tbl 795 (by decide +kernel)
theorem mlX11_396 : Cond.methodLink RX11 396 yX4_pickNone ∈ lw_tbl := zat_tbl 797 (by decide +kernel)
theorem inX4_pickNone : Cond.instanceMethod yX4_pickNone ∈ lw_tbl := zat_tbl 798 (by decide +kernel)
theorem slX4_pickNone : Cond.selects (zRX 4) yX4_pickNone yX4_pickNone ∈ lw_tbl := zat_tbl 799 (by decide +kernel)
theorem mlX11_357 : Cond.methodLink RX11 357 yX5_first ∈ lw_tbl := zat_tbl 801 (by decide +kernel)
theorem inX5_first : Cond.instanceMethod yX5_first ∈ lw_tbl := zat_tbl 802 (by decide +kernel)
theorem slX5_first : Cond.selects (zRX 5) yX5_first yX5_first ∈ lw_tbl := zat_tbl 803 (by decide +kernel)
theorem mlX11_360 : Cond.methodLink RX11 360 yX5_last ∈ lw_tbl := zat_tbl 805 (by decide +kernel)
theorem inX5_last : Cond.instanceMethod yX5_last ∈ lw_tbl := zat_tbl 806 (by decide +kernel)
theorem slX5_last : Cond.selects (zRX 5) yX5_last yX5_last ∈ lw_tbl := zat_tbl 807 (by decide +kernel)
theorem mlX11_363 : Cond.methodLink RX11 363 yX4_pickOver ∈ lw_tbl := zat_tbl 809 (by decide +kernel)
theorem inX4_pickOver : Cond.instanceMethod yX4_pickOver ∈ lw_tbl := zat_tbl 810 (by decide +kernel)
theorem slX4_pickOver : Cond.selects (zRX 4) yX4_pickOver yX4_pickOver ∈ lw_tbl := zat_tbl 811 (by decide +kernel)
theorem mlX4_62 : Cond.methodLink RX4 62 yX4_pickNone ∈ lw_tbl := zat_tbl 813 (by decide +kernel)
theorem mlX4_65 : Cond.methodLink RX4 65 yX1_order ∈ lw_tbl := zat_tbl 814 (by decide +kernel)
theorem mlX4_70 : Cond.methodLink RX4 70 yX8_isSmall ∈ lw_tbl := zat_tbl 815 (by decide +kernel)
theorem inX8_isSmall : Cond.instanceMethod yX8_isSmall ∈ lw_tbl := zat_tbl 816 (by decide +kernel)
theorem slX8_isSmall : Cond.selects (zRX 8) yX8_isSmall yX8_isSmall ∈ lw_tbl := zat_tbl 817 (by decide +kernel)
theorem mlX11_206 : Cond.methodLink RX11 206 yX11_join ∈ lw_tbl := zat_tbl 819 (by decide +kernel)
theorem inX11_join : Cond.instanceMethod yX11_join ∈ lw_tbl := zat_tbl 821 (by decide +kernel)
theorem mlX11_397 : Cond.methodLink RX11 397 yX11_gather ∈ lw_tbl := zat_tbl 823 (by decide +kernel)
theorem inX11_gather : Cond.instanceMethod yX11_gather ∈ lw_tbl := zat_tbl 825 (by decide +kernel)
theorem mlX11_444 : Cond.methodLink RX11 444 yX7_clear ∈ lw_tbl := zat_tbl 827 (by decide +kernel)
theorem inX7_clear : Cond.instanceMethod yX7_clear ∈ lw_tbl := zat_tbl 828 (by decide +kernel)
theorem slX7_clear : Cond.selects (zRX 7) yX7_clear yX7_clear ∈ lw_tbl := zat_tbl 829 (by decide +kernel)
theorem mlX11_445 : Cond.methodLink RX11 445 yX5_collect ∈ lw_tbl := zat_tbl 831 (by decide +kernel)
theorem inX5_collect : Cond.instanceMethod yX5_collect ∈ lw_tbl := zat_tbl 832 (by decide +kernel)
theorem slX5_collect : Cond.selects (zRX 5) yX5_collect yX5_collect ∈ lw_tbl := zat_tbl 833 (by decide +kernel)
theorem mlX5_106 : Cond.methodLink RX5 106 yX7_add ∈ lw_tbl := zat_tbl 835 (by decide +kernel)
theorem inX7_add : Cond.instanceMethod yX7_add ∈ lw_tbl := zat_tbl 836 (by decide +kernel)
theorem slX7_add : Cond.selects (zRX 7) yX7_add yX7_add ∈ lw_tbl := zat_tbl 837 (by decide +kernel)
theorem mlX11_449 : Cond.methodLink RX11 449 yX4_collect ∈ lw_tbl := zat_tbl 839 (by decide +kernel)
theorem inX4_collect : Cond.instanceMethod yX4_collect ∈ lw_tbl := zat_tbl 840 (by decide +kernel)
theorem slX4_collect : Cond.selects (zRX 4) yX4_collect yX4_collect ∈ lw_tbl := zat_tbl 841 (by decide +kernel)
theorem mlX4_74 : Cond.methodLink RX4 74 yX7_add ∈ lw_tbl := zat_tbl 843 (by decide +kernel)
theorem mlX11_450 : Cond.methodLink RX11 450 yX7_blend ∈ lw_tbl := zat_tbl 844 (by decide +kernel)
theorem inX7_blend : Cond.instanceMethod yX7_blend ∈ lw_tbl := zat_tbl 845 (by decide +kernel)
theorem slX7_blend : Cond.selects (zRX 7) yX7_blend yX7_blend ∈ lw_tbl := zat_tbl 846 (by decide +kernel)
theorem mlX7_30 : Cond.methodLink RX7 30 arraycopyName ∈ lw_tbl := zat_tbl 848 (by decide +kernel)
theorem mlX7_36 : Cond.methodLink RX7 36 yX1_precedes ∈ lw_tbl := zat_tbl 849 (by decide +kernel)
theorem mlX11_400 : Cond.methodLink RX11 400 yX7_thin ∈ lw_tbl := zat_tbl 850 (by decide +kernel)
theorem inX7_thin : Cond.instanceMethod yX7_thin ∈ lw_tbl := zat_tbl 851 (by decide +kernel)
theorem slX7_thin : Cond.selects (zRX 7) yX7_thin yX7_thin ∈ lw_tbl := zat_tbl 852 (by decide +kernel)
theorem mlX7_42 : Cond.methodLink RX7 42 yX1_number ∈ lw_tbl := zat_tbl 854 (by decide +kernel)
theorem mlX7_46 : Cond.methodLink RX7 46 yX1_order ∈ lw_tbl := zat_tbl 855 (by decide +kernel)
theorem mlX7_49 : Cond.methodLink RX7 49 yX7_withoutRemoves ∈ lw_tbl := zat_tbl 856 (by decide +kernel)
theorem inX7_withoutRemoves : Cond.instanceMethod yX7_withoutRemoves ∈ lw_tbl := zat_tbl 858 (by decide +kernel)
theorem mlX7_58 : Cond.methodLink RX7 58 yX1_kind ∈ lw_tbl := zat_tbl 860 (by decide +kernel)
theorem mlX7_53 : Cond.methodLink RX7 53 yX9_see ∈ lw_tbl := zat_tbl 861 (by decide +kernel)
theorem inX9_see : Cond.instanceMethod yX9_see ∈ lw_tbl := zat_tbl 862 (by decide +kernel)
theorem slX9_see : Cond.selects (zRX 9) yX9_see yX9_see ∈ lw_tbl := zat_tbl 863 (by decide +kernel)
theorem mlX11_407 : Cond.methodLink RX11 407 yX10_hasRoom ∈ lw_tbl := zat_tbl 865 (by decide +kernel)
theorem inX10_hasRoom : Cond.instanceMethod yX10_hasRoom ∈ lw_tbl := zat_tbl 866 (by decide +kernel)
theorem slX10_hasRoom : Cond.selects (zRX 10) yX10_hasRoom yX10_hasRoom ∈ lw_tbl := zat_tbl 867 (by decide +kernel)
theorem mlX10_58 : Cond.methodLink RX10 58 yX10_stepTo ∈ lw_tbl := zat_tbl 869 (by decide +kernel)
theorem inX10_stepTo : Cond.instanceMethod yX10_stepTo ∈ lw_tbl := zat_tbl 871 (by decide +kernel)
theorem mlX10_42 : Cond.methodLink RX10 42 yX1_entryLength ∈ lw_tbl := zat_tbl 873 (by decide +kernel)
theorem mlX10_48 : Cond.methodLink RX10 48 yX1_order ∈ lw_tbl := zat_tbl 874 (by decide +kernel)
theorem mlX10_62 : Cond.methodLink RX10 62 yX10_advance ∈ lw_tbl := zat_tbl 875 (by decide +kernel)
theorem inX10_advance : Cond.instanceMethod yX10_advance ∈ lw_tbl := zat_tbl 877 (by decide +kernel)
theorem mlX11_410 : Cond.methodLink RX11 410 yX10_store ∈ lw_tbl := zat_tbl 879 (by decide +kernel)
theorem inX10_store : Cond.instanceMethod yX10_store ∈ lw_tbl := zat_tbl 880 (by decide +kernel)
theorem slX10_store : Cond.selects (zRX 10) yX10_store yX10_store ∈ lw_tbl := zat_tbl 881 (by decide +kernel)
theorem mlX10_75 : Cond.methodLink RX10 75 yX10_writeOut ∈ lw_tbl := zat_tbl 883 (by decide +kernel)
theorem inX10_writeOut : Cond.instanceMethod yX10_writeOut ∈ lw_tbl := zat_tbl 885 (by decide +kernel)
theorem mlX10_115 : Cond.methodLink RX10 115 yX10_current ∈ lw_tbl := zat_tbl 887 (by decide +kernel)
theorem inX10_current : Cond.instanceMethod yX10_current ∈ lw_tbl := zat_tbl 889 (by decide +kernel)
theorem mlX10_121 : Cond.methodLink RX10 121 yX2_takeBlock ∈ lw_tbl := zat_tbl 891 (by decide +kernel)
theorem inX2_takeBlock : Cond.instanceMethod yX2_takeBlock ∈ lw_tbl := zat_tbl 892 (by decide +kernel)
theorem slX2_takeBlock : Cond.selects (zRX 2) yX2_takeBlock yX2_takeBlock ∈ lw_tbl := zat_tbl 893 (by decide +kernel)
theorem mlX2_48 : Cond.methodLink RX2 48 yJ9_floorMod_7cf53 ∈ lw_tbl := zat_tbl 895 (by decide +kernel)
theorem stJ9_floorMod_7cf53 : Cond.static yJ9_floorMod_7cf53 ∈ lw_tbl := zat_tbl 896 (by decide +kernel)
theorem mlX2_54 : Cond.methodLink RX2 54 yX2_mark ∈ lw_tbl := zat_tbl 898 (by decide +kernel)
theorem inX2_mark : Cond.instanceMethod yX2_mark ∈ lw_tbl := zat_tbl 900 (by decide +kernel)
theorem mlX10_125 : Cond.methodLink RX10 125 yX8_addBlock ∈ lw_tbl := zat_tbl 902 (by decide +kernel)
theorem inX8_addBlock : Cond.instanceMethod yX8_addBlock ∈ lw_tbl := zat_tbl 903 (by decide +kernel)
theorem slX8_addBlock : Cond.selects (zRX 8) yX8_addBlock yX8_addBlock ∈ lw_tbl := zat_tbl 904 (by decide +kernel)
theorem mlX10_128 : Cond.methodLink RX10 128 yX1_write ∈ lw_tbl := zat_tbl 906 (by decide +kernel)
theorem mlX10_79 : Cond.methodLink RX10 79 yX10_closeTable ∈ lw_tbl := zat_tbl 907 (by decide +kernel)
theorem inX10_closeTable : Cond.instanceMethod yX10_closeTable ∈ lw_tbl := zat_tbl 909 (by decide +kernel)
theorem mlX10_118 : Cond.methodLink RX10 118 yX8_close ∈ lw_tbl := zat_tbl 911 (by decide +kernel)
theorem inX8_close : Cond.instanceMethod yX8_close ∈ lw_tbl := zat_tbl 912 (by decide +kernel)
theorem slX8_close : Cond.selects (zRX 8) yX8_close yX8_close ∈ lw_tbl := zat_tbl 913 (by decide +kernel)
theorem mlX10_82 : Cond.methodLink RX10 82 yX10_open ∈ lw_tbl := zat_tbl 915 (by decide +kernel)
theorem inX10_open : Cond.instanceMethod yX10_open ∈ lw_tbl := zat_tbl 917 (by decide +kernel)
theorem mlX10_89 : Cond.methodLink RX10 89 yJ7_fill_031fb ∈ lw_tbl := zat_tbl 919 (by decide +kernel)
theorem stJ7_fill_031fb : Cond.static yJ7_fill_031fb ∈ lw_tbl := zat_tbl 920 (by decide +kernel)
theorem mlX10_94 : Cond.methodLink RX10 94 yX2_takeTable ∈ lw_tbl := zat_tbl 922 (by decide +kernel)
theorem inX2_takeTable : Cond.instanceMethod yX2_takeTable ∈ lw_tbl := zat_tbl 923 (by decide +kernel)
theorem slX2_takeTable : Cond.selects (zRX 2) yX2_takeTable yX2_takeTable ∈ lw_tbl := zat_tbl 924 (by decide +kernel)
theorem mlX2_58 : Cond.methodLink RX2 58 yX8_start ∈ lw_tbl := zat_tbl 926 (by decide +kernel)
theorem mlX10_86 : Cond.methodLink RX10 86 yX10_copyEntry ∈ lw_tbl := zat_tbl 927 (by decide +kernel)
theorem inX10_copyEntry : Cond.instanceMethod yX10_copyEntry ∈ lw_tbl := zat_tbl 929 (by decide +kernel)
theorem ctX10_98 : Cond.constant RX10 98 (303104) ∈ lw_tbl := zat_tbl 931 (by decide +kernel)
theorem mlX10_102 : Cond.methodLink RX10 102 arraycopyName ∈ lw_tbl := zat_tbl 932 (by decide +kernel)
theorem mlX10_108 : Cond.methodLink RX10 108 yX8_hash ∈ lw_tbl := zat_tbl 933 (by decide +kernel)
theorem mlX10_112 : Cond.methodLink RX10 112 yX8_strideOf ∈ lw_tbl := zat_tbl 934 (by decide +kernel)
theorem mlX11_414 : Cond.methodLink RX11 414 yX4_cut ∈ lw_tbl := zat_tbl 935 (by decide +kernel)
theorem inX4_cut : Cond.instanceMethod yX4_cut ∈ lw_tbl := zat_tbl 936 (by decide +kernel)
theorem slX4_cut : Cond.selects (zRX 4) yX4_cut yX4_cut ∈ lw_tbl := zat_tbl 937 (by decide +kernel)
theorem mlX4_83 : Cond.methodLink RX4 83 yX2_retire ∈ lw_tbl := zat_tbl 939 (by decide +kernel)
theorem inX2_retire : Cond.instanceMethod yX2_retire ∈ lw_tbl := zat_tbl 940 (by decide +kernel)
theorem slX2_retire : Cond.selects (zRX 2) yX2_retire yX2_retire ∈ lw_tbl := zat_tbl 941 (by decide +kernel)
theorem mlX11_423 : Cond.methodLink RX11 423 yX4_insert ∈ lw_tbl := zat_tbl 943 (by decide +kernel)
theorem inX4_insert : Cond.instanceMethod yX4_insert ∈ lw_tbl := zat_tbl 944 (by decide +kernel)
theorem slX4_insert : Cond.selects (zRX 4) yX4_insert yX4_insert ∈ lw_tbl := zat_tbl 945 (by decide +kernel)
theorem mlX11_427 : Cond.methodLink RX11 427 yX5_clearOther ∈ lw_tbl := zat_tbl 947 (by decide +kernel)
theorem inX5_clearOther : Cond.instanceMethod yX5_clearOther ∈ lw_tbl := zat_tbl 948 (by decide +kernel)
theorem slX5_clearOther : Cond.selects (zRX 5) yX5_clearOther yX5_clearOther ∈ lw_tbl := zat_tbl 949 (by decide +kernel)
theorem mlX5_90 : Cond.methodLink RX5 90 yX1_erase ∈ lw_tbl := zat_tbl 951 (by decide +kernel)
theorem inX1_erase : Cond.instanceMethod yX1_erase ∈ lw_tbl := zat_tbl 952 (by decide +kernel)
theorem slX1_erase : Cond.selects (zRX 1) yX1_erase yX1_erase ∈ lw_tbl := zat_tbl 953 (by decide +kernel)
theorem mlX1_62 : Cond.methodLink RX1 62 yX1_write ∈ lw_tbl := zat_tbl 955 (by decide +kernel)
theorem mlX11_430 : Cond.methodLink RX11 430 yX5_other ∈ lw_tbl := zat_tbl 956 (by decide +kernel)
theorem inX5_other : Cond.instanceMethod yX5_other ∈ lw_tbl := zat_tbl 957 (by decide +kernel)
theorem slX5_other : Cond.selects (zRX 5) yX5_other yX5_other ∈ lw_tbl := zat_tbl 958 (by decide +kernel)
theorem mlX11_434 : Cond.methodLink RX11 434 yX3_install ∈ lw_tbl := zat_tbl 960 (by decide +kernel)
theorem inX3_install : Cond.instanceMethod yX3_install ∈ lw_tbl := zat_tbl 961 (by decide +kernel)
theorem slX3_install : Cond.selects (zRX 3) yX3_install yX3_install ∈ lw_tbl := zat_tbl 962 (by decide +kernel)
theorem mlX3_19 : Cond.methodLink RX3 19 yX3_describe ∈ lw_tbl := zat_tbl 964 (by decide +kernel)
theorem inX3_describe : Cond.instanceMethod yX3_describe ∈ lw_tbl := zat_tbl 966 (by decide +kernel)
theorem mlX3_55 : Cond.methodLink RX3 55 yX3_addNumber ∈ lw_tbl := zat_tbl 968 (by decide +kernel)
theorem inX3_addNumber : Cond.instanceMethod yX3_addNumber ∈ lw_tbl := zat_tbl 970 (by decide +kernel)
theorem mlX3_64 : Cond.methodLinkNest RX3 64 yX4_table "LsmStore" ∈ lw_tbl := zat_tbl 972 (by decide +kernel)
theorem mlX3_68 : Cond.methodLink RX3 68 yX3_addTable ∈ lw_tbl := zat_tbl 973 (by decide +kernel)
theorem inX3_addTable : Cond.instanceMethod yX3_addTable ∈ lw_tbl := zat_tbl 975 (by decide +kernel)
theorem mlX3_27 : Cond.methodLink RX3 27 yJ9_floorMod_7cf53 ∈ lw_tbl := zat_tbl 977 (by decide +kernel)
theorem mlX3_33 : Cond.methodLink RX3 33 yX1_erase ∈ lw_tbl := zat_tbl 978 (by decide +kernel)
theorem mlX3_42 : Cond.methodLink RX3 42 yJ9_min_7cf53 ∈ lw_tbl := zat_tbl 979 (by decide +kernel)
theorem mlX3_45 : Cond.methodLink RX3 45 yX1_write ∈ lw_tbl := zat_tbl 980 (by decide +kernel)
theorem mlX11_438 : Cond.methodLink RX11 438 yX2_freeRetired ∈ lw_tbl := zat_tbl 981 (by decide +kernel)
theorem inX2_freeRetired : Cond.instanceMethod yX2_freeRetired ∈ lw_tbl := zat_tbl 982 (by decide +kernel)
theorem slX2_freeRetired : Cond.selects (zRX 2) yX2_freeRetired yX2_freeRetired ∈ lw_tbl := zat_tbl 983 (by decide +kernel)
theorem mlX2_61 : Cond.methodLink RX2 61 yX2_free ∈ lw_tbl := zat_tbl 985 (by decide +kernel)
theorem inX2_free : Cond.instanceMethod yX2_free ∈ lw_tbl := zat_tbl 987 (by decide +kernel)
theorem mlX11_441 : Cond.methodLink RX11 441 yX5_change ∈ lw_tbl := zat_tbl 989 (by decide +kernel)
theorem inX5_change : Cond.instanceMethod yX5_change ∈ lw_tbl := zat_tbl 990 (by decide +kernel)
theorem slX5_change : Cond.selects (zRX 5) yX5_change yX5_change ∈ lw_tbl := zat_tbl 991 (by decide +kernel)
theorem mlX11_367 : Cond.methodLink RX11 367 yX4_blocks ∈ lw_tbl := zat_tbl 993 (by decide +kernel)
theorem inX4_blocks : Cond.instanceMethod yX4_blocks ∈ lw_tbl := zat_tbl 994 (by decide +kernel)
theorem slX4_blocks : Cond.selects (zRX 4) yX4_blocks yX4_blocks ∈ lw_tbl := zat_tbl 995 (by decide +kernel)
theorem lkX11_370 : Cond.fieldLink RX11 370 "LsmStore" "LEVEL_FULL" "[I" ∈ lw_tbl := zat_tbl 997 (by decide +kernel)
theorem mlX11_379 : Cond.methodLink RX11 379 yJ9_max_7cf53 ∈ lw_tbl := zat_tbl 999 (by decide +kernel)
theorem mlX11_384 : Cond.methodLink RX11 384 yJ9_floorMod_7cf53 ∈ lw_tbl := zat_tbl 1000 (by decide +kernel)
theorem mlX11_387 : Cond.methodLink RX11 387 yX4_pickOne ∈ lw_tbl := zat_tbl 1001 (by decide +kernel)
theorem inX4_pickOne : Cond.instanceMethod yX4_pickOne ∈ lw_tbl := zat_tbl 1002 (by decide +kernel)
theorem slX4_pickOne : Cond.selects (zRX 4) yX4_pickOne yX4_pickOne ∈ lw_tbl := zat_tbl 1003 (by decide +kernel)
theorem mlX4_53 : Cond.methodLink RX4 53 yJ9_min_7cf53 ∈ lw_tbl := zat_tbl 1005 (by decide +kernel)
theorem mlX4_59 : Cond.methodLink RX4 59 yJ9_max_7cf53 ∈ lw_tbl := zat_tbl 1006 (by decide +kernel)
theorem mlX11_390 : Cond.methodLink RX11 390 yX4_firstOf ∈ lw_tbl := zat_tbl 1007 (by decide +kernel)
theorem inX4_firstOf : Cond.instanceMethod yX4_firstOf ∈ lw_tbl := zat_tbl 1008 (by decide +kernel)
theorem slX4_firstOf : Cond.selects (zRX 4) yX4_firstOf yX4_firstOf ∈ lw_tbl := zat_tbl 1009 (by decide +kernel)
theorem mlX11_393 : Cond.methodLink RX11 393 yX4_lastOf ∈ lw_tbl := zat_tbl 1011 (by decide +kernel)
theorem inX4_lastOf : Cond.instanceMethod yX4_lastOf ∈ lw_tbl := zat_tbl 1012 (by decide +kernel)
theorem slX4_lastOf : Cond.selects (zRX 4) yX4_lastOf yX4_lastOf ∈ lw_tbl := zat_tbl 1013 (by decide +kernel)
theorem mlX11_197 : Cond.methodLink RX11 197 yX1_leave ∈ lw_tbl := zat_tbl 1015 (by decide +kernel)
theorem inX1_leave : Cond.instanceMethod yX1_leave ∈ lw_tbl := zat_tbl 1016 (by decide +kernel)
theorem slX1_leave : Cond.selects (zRX 1) yX1_leave yX1_leave ∈ lw_tbl := zat_tbl 1017 (by decide +kernel)
theorem mlL_111 : Cond.methodLink RL 111 yL_remove ∈ lw_tbl := zat_tbl 1019 (by decide +kernel)
theorem stL_remove : Cond.static yL_remove ∈ lw_tbl := zat_tbl 1020 (by decide +kernel)
theorem mlL_29 : Cond.methodLink RL 29 yX11_remove ∈ lw_tbl := zat_tbl 1022 (by decide +kernel)
theorem inX11_remove : Cond.instanceMethod yX11_remove ∈ lw_tbl := zat_tbl 1023 (by decide +kernel)
theorem slX11_remove : Cond.selects (zRX 11) yX11_remove yX11_remove ∈ lw_tbl := zat_tbl 1024 (by decide +kernel)
theorem mlL_114 : Cond.methodLink RL 114 yL_commit ∈ lw_tbl := zat_tbl 1026 (by decide +kernel)
theorem stL_commit : Cond.static yL_commit ∈ lw_tbl := zat_tbl 1027 (by decide +kernel)
theorem mlL_32 : Cond.methodLink RL 32 yX11_commit ∈ lw_tbl := zat_tbl 1029 (by decide +kernel)
theorem inX11_commit : Cond.instanceMethod yX11_commit ∈ lw_tbl := zat_tbl 1030 (by decide +kernel)
theorem slX11_commit : Cond.selects (zRX 11) yX11_commit yX11_commit ∈ lw_tbl := zat_tbl 1031 (by decide +kernel)
theorem mlX11_134 : Cond.methodLink RX11 134 yX11_requireBatch ∈ lw_tbl := zat_tbl 1033 (by decide +kernel)
theorem inX11_requireBatch : Cond.instanceMethod yX11_requireBatch ∈ lw_tbl := zat_tbl 1035 (by decide +kernel)
theorem mlL_117 : Cond.methodLink RL 117 yL_cancel ∈ lw_tbl := zat_tbl 1038 (by decide +kernel)
theorem stL_cancel : Cond.static yL_cancel ∈ lw_tbl := zat_tbl 1039 (by decide +kernel)
theorem mlL_35 : Cond.methodLink RL 35 yX11_cancel ∈ lw_tbl := zat_tbl 1041 (by decide +kernel)
theorem inX11_cancel : Cond.instanceMethod yX11_cancel ∈ lw_tbl := zat_tbl 1042 (by decide +kernel)
theorem slX11_cancel : Cond.selects (zRX 11) yX11_cancel yX11_cancel ∈ lw_tbl := zat_tbl 1043 (by decide +kernel)
theorem mlL_120 : Cond.methodLink RL 120 yL_snapshot ∈ lw_tbl := zat_tbl 1045 (by decide +kernel)
theorem stL_snapshot : Cond.static yL_snapshot ∈ lw_tbl := zat_tbl 1046 (by decide +kernel)
theorem mlL_38 : Cond.methodLink RL 38 yX11_snapshot ∈ lw_tbl := zat_tbl 1048 (by decide +kernel)
theorem inX11_snapshot : Cond.instanceMethod yX11_snapshot ∈ lw_tbl := zat_tbl 1049 (by decide +kernel)
theorem slX11_snapshot : Cond.selects (zRX 11) yX11_snapshot yX11_snapshot ∈ lw_tbl := zat_tbl 1050 (by decide +kernel)
theorem mlX11_140 : Cond.methodLink RX11 140 yX9_take ∈ lw_tbl := zat_tbl 1052 (by decide +kernel)
theorem inX9_take : Cond.instanceMethod yX9_take ∈ lw_tbl := zat_tbl 1053 (by decide +kernel)
theorem slX9_take : Cond.selects (zRX 9) yX9_take yX9_take ∈ lw_tbl := zat_tbl 1054 (by decide +kernel)
theorem mlL_123 : Cond.methodLink RL 123 yL_release ∈ lw_tbl := zat_tbl 1057 (by decide +kernel)
theorem stL_release : Cond.static yL_release ∈ lw_tbl := zat_tbl 1058 (by decide +kernel)
theorem clL_45 : Cond.classLink RL 45 "java/util/NoSuchElementException" ∈ lw_tbl := zat_tbl 1060 (by decide +kernel)
theorem mlL_41 : Cond.methodLink RL 41 yX11_release ∈ lw_tbl := zat_tbl 1061 (by decide +kernel)
theorem inX11_release : Cond.instanceMethod yX11_release ∈ lw_tbl := zat_tbl 1062 (by decide +kernel)
theorem slX11_release : Cond.selects (zRX 11) yX11_release yX11_release ∈ lw_tbl := zat_tbl 1063 (by decide +kernel)
theorem mlX11_146 : Cond.methodLink RX11 146 yX9_has ∈ lw_tbl := zat_tbl 1065 (by decide +kernel)
theorem inX9_has : Cond.instanceMethod yX9_has ∈ lw_tbl := zat_tbl 1066 (by decide +kernel)
theorem slX9_has : Cond.selects (zRX 9) yX9_has yX9_has ∈ lw_tbl := zat_tbl 1067 (by decide +kernel)
theorem clX11_150 : Cond.classLink RX11 150 "java/util/NoSuchElementException" ∈ lw_tbl := zat_tbl 1069 (by decide +kernel)
theorem mlX11_155 : Cond.methodLink RX11 155 yX9_drop ∈ lw_tbl := zat_tbl 1085 (by decide +kernel)
theorem inX9_drop : Cond.instanceMethod yX9_drop ∈ lw_tbl := zat_tbl 1086 (by decide +kernel)
theorem slX9_drop : Cond.selects (zRX 9) yX9_drop yX9_drop ∈ lw_tbl := zat_tbl 1087 (by decide +kernel)
theorem mlL_127 : Cond.methodLink RL 127 yL_get ∈ lw_tbl := zat_tbl 1089 (by decide +kernel)
theorem stL_get : Cond.static yL_get ∈ lw_tbl := zat_tbl 1090 (by decide +kernel)
theorem mlL_47 : Cond.methodLink RL 47 yX11_get ∈ lw_tbl := zat_tbl 1092 (by decide +kernel)
theorem inX11_get : Cond.instanceMethod yX11_get ∈ lw_tbl := zat_tbl 1093 (by decide +kernel)
theorem slX11_get : Cond.selects (zRX 11) yX11_get yX11_get ∈ lw_tbl := zat_tbl 1094 (by decide +kernel)
theorem mlX11_158 : Cond.methodLink RX11 158 yX11_viewOf ∈ lw_tbl := zat_tbl 1096 (by decide +kernel)
theorem inX11_viewOf : Cond.instanceMethod yX11_viewOf ∈ lw_tbl := zat_tbl 1098 (by decide +kernel)
theorem mlX11_168 : Cond.methodLink RX11 168 yX1_copyValue ∈ lw_tbl := zat_tbl 1100 (by decide +kernel)
theorem inX1_copyValue : Cond.instanceMethod yX1_copyValue ∈ lw_tbl := zat_tbl 1101 (by decide +kernel)
theorem slX1_copyValue : Cond.selects (zRX 1) yX1_copyValue yX1_copyValue ∈ lw_tbl := zat_tbl 1102 (by decide +kernel)
theorem mlX1_66 : Cond.methodLink RX1 66 yX6_copy ∈ lw_tbl := zat_tbl 1104 (by decide +kernel)
theorem mlL_131 : Cond.methodLink RL 131 yL_seek ∈ lw_tbl := zat_tbl 1105 (by decide +kernel)
theorem stL_seek : Cond.static yL_seek ∈ lw_tbl := zat_tbl 1106 (by decide +kernel)
theorem mlL_51 : Cond.methodLink RL 51 yX11_seek ∈ lw_tbl := zat_tbl 1108 (by decide +kernel)
theorem inX11_seek : Cond.instanceMethod yX11_seek ∈ lw_tbl := zat_tbl 1109 (by decide +kernel)
theorem slX11_seek : Cond.selects (zRX 11) yX11_seek yX11_seek ∈ lw_tbl := zat_tbl 1110 (by decide +kernel)
theorem mlX11_176 : Cond.methodLink RX11 176 yX11_nearest ∈ lw_tbl := zat_tbl 1112 (by decide +kernel)
theorem inX11_nearest : Cond.instanceMethod yX11_nearest ∈ lw_tbl := zat_tbl 1114 (by decide +kernel)
theorem mlX11_319 : Cond.methodLink RX11 319 yX6_copy ∈ lw_tbl := zat_tbl 1116 (by decide +kernel)
theorem ctX11_323 : Cond.constant RX11 323 (1000000) ∈ lw_tbl := zat_tbl 1117 (by decide +kernel)
theorem mlX11_324 : Cond.methodLink RX11 324 yX11_firstFrom ∈ lw_tbl := zat_tbl 1118 (by decide +kernel)
theorem inX11_firstFrom : Cond.instanceMethod yX11_firstFrom ∈ lw_tbl := zat_tbl 1120 (by decide +kernel)
theorem mlX11_331 : Cond.methodLink RX11 331 yX5_from ∈ lw_tbl := zat_tbl 1122 (by decide +kernel)
theorem inX5_from : Cond.instanceMethod yX5_from ∈ lw_tbl := zat_tbl 1123 (by decide +kernel)
theorem slX5_from : Cond.selects (zRX 5) yX5_from yX5_from ∈ lw_tbl := zat_tbl 1124 (by decide +kernel)
theorem mlX11_334 : Cond.methodLink RX11 334 yX4_from ∈ lw_tbl := zat_tbl 1126 (by decide +kernel)
theorem inX4_from : Cond.instanceMethod yX4_from ∈ lw_tbl := zat_tbl 1127 (by decide +kernel)
theorem slX4_from : Cond.selects (zRX 4) yX4_from yX4_from ∈ lw_tbl := zat_tbl 1128 (by decide +kernel)
theorem mlX11_335 : Cond.methodLink RX11 335 yX1_order ∈ lw_tbl := zat_tbl 1130 (by decide +kernel)
theorem mlX11_312 : Cond.methodLink RX11 312 yX1_copyKey ∈ lw_tbl := zat_tbl 1131 (by decide +kernel)
theorem inX1_copyKey : Cond.instanceMethod yX1_copyKey ∈ lw_tbl := zat_tbl 1132 (by decide +kernel)
theorem slX1_copyKey : Cond.selects (zRX 1) yX1_copyKey yX1_copyKey ∈ lw_tbl := zat_tbl 1133 (by decide +kernel)
theorem mlX11_180 : Cond.methodLink RX11 180 yX11_take ∈ lw_tbl := zat_tbl 1135 (by decide +kernel)
theorem inX11_take : Cond.instanceMethod yX11_take ∈ lw_tbl := zat_tbl 1137 (by decide +kernel)
theorem mlL_135 : Cond.methodLink RL 135 yL_before ∈ lw_tbl := zat_tbl 1139 (by decide +kernel)
theorem stL_before : Cond.static yL_before ∈ lw_tbl := zat_tbl 1140 (by decide +kernel)
theorem mlL_55 : Cond.methodLink RL 55 yX11_before ∈ lw_tbl := zat_tbl 1142 (by decide +kernel)
theorem inX11_before : Cond.instanceMethod yX11_before ∈ lw_tbl := zat_tbl 1143 (by decide +kernel)
theorem slX11_before : Cond.selects (zRX 11) yX11_before yX11_before ∈ lw_tbl := zat_tbl 1144 (by decide +kernel)
theorem mlX11_181 : Cond.methodLink RX11 181 yX11_nearestBefore ∈ lw_tbl := zat_tbl 1146 (by decide +kernel)
theorem inX11_nearestBefore : Cond.instanceMethod yX11_nearestBefore ∈ lw_tbl := zat_tbl 1148 (by decide +kernel)
theorem mlX11_327 : Cond.methodLink RX11 327 yX11_lastBefore ∈ lw_tbl := zat_tbl 1150 (by decide +kernel)
theorem inX11_lastBefore : Cond.instanceMethod yX11_lastBefore ∈ lw_tbl := zat_tbl 1152 (by decide +kernel)
theorem mlX11_338 : Cond.methodLink RX11 338 yX5_lastBefore ∈ lw_tbl := zat_tbl 1154 (by decide +kernel)
theorem inX5_lastBefore : Cond.instanceMethod yX5_lastBefore ∈ lw_tbl := zat_tbl 1155 (by decide +kernel)
theorem slX5_lastBefore : Cond.selects (zRX 5) yX5_lastBefore yX5_lastBefore ∈ lw_tbl := zat_tbl 1156 (by decide +kernel)
theorem ctX5_101 : Cond.constant RX5 101 (2147483647) ∈ lw_tbl := zat_tbl 1158 (by decide +kernel)
theorem mlX11_339 : Cond.methodLink RX11 339 yX4_lastBefore ∈ lw_tbl := zat_tbl 1159 (by decide +kernel)
theorem inX4_lastBefore : Cond.instanceMethod yX4_lastBefore ∈ lw_tbl := zat_tbl 1160 (by decide +kernel)
theorem slX4_lastBefore : Cond.selects (zRX 4) yX4_lastBefore yX4_lastBefore ∈ lw_tbl := zat_tbl 1161 (by decide +kernel)
theorem mlL_138 : Cond.methodLink RL 138 yL_bytes ∈ lw_tbl := zat_tbl 1163 (by decide +kernel)
theorem stL_bytes : Cond.static yL_bytes ∈ lw_tbl := zat_tbl 1164 (by decide +kernel)
theorem mlL_58 : Cond.methodLink RL 58 yX11_bytes ∈ lw_tbl := zat_tbl 1166 (by decide +kernel)
theorem inX11_bytes : Cond.instanceMethod yX11_bytes ∈ lw_tbl := zat_tbl 1167 (by decide +kernel)
theorem slX11_bytes : Cond.selects (zRX 11) yX11_bytes yX11_bytes ∈ lw_tbl := zat_tbl 1168 (by decide +kernel)
theorem mlX11_186 : Cond.methodLink RX11 186 yX6_word ∈ lw_tbl := zat_tbl 1171 (by decide +kernel)
theorem inX6_word : Cond.instanceMethod yX6_word ∈ lw_tbl := zat_tbl 1172 (by decide +kernel)
theorem slX6_word : Cond.selects (zRX 6) yX6_word yX6_word ∈ lw_tbl := zat_tbl 1173 (by decide +kernel)
theorem mlL_142 : Cond.methodLink RL 142 yL_flush ∈ lw_tbl := zat_tbl 1175 (by decide +kernel)
theorem stL_flush : Cond.static yL_flush ∈ lw_tbl := zat_tbl 1176 (by decide +kernel)
theorem mlL_62 : Cond.methodLink RL 62 yX11_flush ∈ lw_tbl := zat_tbl 1178 (by decide +kernel)
theorem inX11_flush : Cond.instanceMethod yX11_flush ∈ lw_tbl := zat_tbl 1179 (by decide +kernel)
theorem slX11_flush : Cond.selects (zRX 11) yX11_flush yX11_flush ∈ lw_tbl := zat_tbl 1180 (by decide +kernel)
theorem mlL_145 : Cond.methodLink RL 145 yL_compact ∈ lw_tbl := zat_tbl 1182 (by decide +kernel)
theorem stL_compact : Cond.static yL_compact ∈ lw_tbl := zat_tbl 1183 (by decide +kernel)
theorem mlL_65 : Cond.methodLink RL 65 yX11_compact ∈ lw_tbl := zat_tbl 1185 (by decide +kernel)
theorem inX11_compact : Cond.instanceMethod yX11_compact ∈ lw_tbl := zat_tbl 1186 (by decide +kernel)
theorem slX11_compact : Cond.selects (zRX 11) yX11_compact yX11_compact ∈ lw_tbl := zat_tbl 1187 (by decide +kernel)
theorem mlX11_200 : Cond.methodLink RX11 200 yX4_pickAll ∈ lw_tbl := zat_tbl 1189 (by decide +kernel)
theorem inX4_pickAll : Cond.instanceMethod yX4_pickAll ∈ lw_tbl := zat_tbl 1190 (by decide +kernel)
theorem slX4_pickAll : Cond.selects (zRX 4) yX4_pickAll yX4_pickAll ∈ lw_tbl := zat_tbl 1191 (by decide +kernel)
theorem mlL_148 : Cond.methodLink RL 148 yL_power ∈ lw_tbl := zat_tbl 1193 (by decide +kernel)
theorem stL_power : Cond.static yL_power ∈ lw_tbl := zat_tbl 1194 (by decide +kernel)
theorem mlL_68 : Cond.methodLink RL 68 yX11_power ∈ lw_tbl := zat_tbl 1196 (by decide +kernel)
theorem inX11_power : Cond.instanceMethod yX11_power ∈ lw_tbl := zat_tbl 1197 (by decide +kernel)
theorem slX11_power : Cond.selects (zRX 11) yX11_power yX11_power ∈ lw_tbl := zat_tbl 1198 (by decide +kernel)
theorem mlX11_211 : Cond.methodLink RX11 211 yX1_plan ∈ lw_tbl := zat_tbl 1201 (by decide +kernel)
theorem inX1_plan : Cond.instanceMethod yX1_plan ∈ lw_tbl := zat_tbl 1202 (by decide +kernel)
theorem slX1_plan : Cond.selects (zRX 1) yX1_plan yX1_plan ∈ lw_tbl := zat_tbl 1203 (by decide +kernel)
theorem mlL_152 : Cond.methodLink RL 152 yL_reopen ∈ lw_tbl := zat_tbl 1205 (by decide +kernel)
theorem stL_reopen : Cond.static yL_reopen ∈ lw_tbl := zat_tbl 1206 (by decide +kernel)
theorem mlL_72 : Cond.methodLink RL 72 yX11_reopen ∈ lw_tbl := zat_tbl 1208 (by decide +kernel)
theorem inX11_reopen : Cond.instanceMethod yX11_reopen ∈ lw_tbl := zat_tbl 1209 (by decide +kernel)
theorem slX11_reopen : Cond.selects (zRX 11) yX11_reopen yX11_reopen ∈ lw_tbl := zat_tbl 1210 (by decide +kernel)
theorem mlX11_215 : Cond.methodLink RX11 215 yX9_clear ∈ lw_tbl := zat_tbl 1212 (by decide +kernel)
theorem inX9_clear : Cond.instanceMethod yX9_clear ∈ lw_tbl := zat_tbl 1213 (by decide +kernel)
theorem slX9_clear : Cond.selects (zRX 9) yX9_clear yX9_clear ∈ lw_tbl := zat_tbl 1214 (by decide +kernel)
theorem mlX11_218 : Cond.methodLink RX11 218 yX11_load ∈ lw_tbl := zat_tbl 1216 (by decide +kernel)
theorem inX11_load : Cond.instanceMethod yX11_load ∈ lw_tbl := zat_tbl 1218 (by decide +kernel)
theorem mlX11_340 : Cond.methodLink RX11 340 yX2_clear ∈ lw_tbl := zat_tbl 1220 (by decide +kernel)
theorem inX2_clear : Cond.instanceMethod yX2_clear ∈ lw_tbl := zat_tbl 1221 (by decide +kernel)
theorem slX2_clear : Cond.selects (zRX 2) yX2_clear yX2_clear ∈ lw_tbl := zat_tbl 1222 (by decide +kernel)
theorem mlX11_341 : Cond.methodLink RX11 341 yX4_clear ∈ lw_tbl := zat_tbl 1224 (by decide +kernel)
theorem inX4_clear : Cond.instanceMethod yX4_clear ∈ lw_tbl := zat_tbl 1225 (by decide +kernel)
theorem slX4_clear : Cond.selects (zRX 4) yX4_clear yX4_clear ∈ lw_tbl := zat_tbl 1226 (by decide +kernel)
theorem mlX11_342 : Cond.methodLink RX11 342 yX3_load ∈ lw_tbl := zat_tbl 1228 (by decide +kernel)
theorem inX3_load : Cond.instanceMethod yX3_load ∈ lw_tbl := zat_tbl 1229 (by decide +kernel)
theorem slX3_load : Cond.selects (zRX 3) yX3_load yX3_load ∈ lw_tbl := zat_tbl 1230 (by decide +kernel)
theorem mlX3_79 : Cond.methodLink RX3 79 yX3_generationAt ∈ lw_tbl := zat_tbl 1232 (by decide +kernel)
theorem inX3_generationAt : Cond.instanceMethod yX3_generationAt ∈ lw_tbl := zat_tbl 1234 (by decide +kernel)
theorem mlX3_96 : Cond.methodLink RX3 96 yX1_number ∈ lw_tbl := zat_tbl 1236 (by decide +kernel)
theorem mlX3_99 : Cond.methodLink RX3 99 yX1_kind ∈ lw_tbl := zat_tbl 1237 (by decide +kernel)
theorem mlX3_83 : Cond.methodLink RX3 83 yJ9_max_7cf53 ∈ lw_tbl := zat_tbl 1238 (by decide +kernel)
theorem mlX3_89 : Cond.methodLink RX3 89 yX3_read ∈ lw_tbl := zat_tbl 1239 (by decide +kernel)
theorem inX3_read : Cond.instanceMethod yX3_read ∈ lw_tbl := zat_tbl 1241 (by decide +kernel)
theorem mlX3_92 : Cond.methodLink RX3 92 yX3_readTable ∈ lw_tbl := zat_tbl 1243 (by decide +kernel)
theorem inX3_readTable : Cond.instanceMethod yX3_readTable ∈ lw_tbl := zat_tbl 1245 (by decide +kernel)
theorem mlX3_102 : Cond.methodLink RX3 102 yX2_takeTable ∈ lw_tbl := zat_tbl 1247 (by decide +kernel)
theorem mlX3_108 : Cond.methodLink RX3 108 yX2_takeThis ∈ lw_tbl := zat_tbl 1248 (by decide +kernel)
theorem inX2_takeThis : Cond.instanceMethod yX2_takeThis ∈ lw_tbl := zat_tbl 1249 (by decide +kernel)
theorem slX2_takeThis : Cond.selects (zRX 2) yX2_takeThis yX2_takeThis ∈ lw_tbl := zat_tbl 1250 (by decide +kernel)
theorem mlX3_112 : Cond.methodLink RX3 112 yX8_addBlock ∈ lw_tbl := zat_tbl 1252 (by decide +kernel)
theorem mlX3_115 : Cond.methodLink RX3 115 yX8_close ∈ lw_tbl := zat_tbl 1253 (by decide +kernel)
theorem mlX3_118 : Cond.methodLink RX3 118 yX4_add ∈ lw_tbl := zat_tbl 1254 (by decide +kernel)
theorem inX4_add : Cond.instanceMethod yX4_add ∈ lw_tbl := zat_tbl 1255 (by decide +kernel)
theorem slX4_add : Cond.selects (zRX 4) yX4_add yX4_add ∈ lw_tbl := zat_tbl 1256 (by decide +kernel)
theorem mlX11_348 : Cond.methodLink RX11 348 yX5_open ∈ lw_tbl := zat_tbl 1258 (by decide +kernel)
theorem inX5_open : Cond.instanceMethod yX5_open ∈ lw_tbl := zat_tbl 1259 (by decide +kernel)
theorem slX5_open : Cond.selects (zRX 5) yX5_open yX5_open ∈ lw_tbl := zat_tbl 1260 (by decide +kernel)
theorem mlX11_351 : Cond.methodLink RX11 351 yX5_replay ∈ lw_tbl := zat_tbl 1262 (by decide +kernel)
theorem inX5_replay : Cond.instanceMethod yX5_replay ∈ lw_tbl := zat_tbl 1263 (by decide +kernel)
theorem slX5_replay : Cond.selects (zRX 5) yX5_replay yX5_replay ∈ lw_tbl := zat_tbl 1264 (by decide +kernel)
theorem mlX5_84 : Cond.methodLink RX5 84 yX1_number ∈ lw_tbl := zat_tbl 1266 (by decide +kernel)
theorem mlX5_87 : Cond.methodLink RX5 87 yX1_kind ∈ lw_tbl := zat_tbl 1267 (by decide +kernel)
theorem mlX11_221 : Cond.methodLink RX11 221 yX11_recount ∈ lw_tbl := zat_tbl 1268 (by decide +kernel)
theorem inX11_recount : Cond.instanceMethod yX11_recount ∈ lw_tbl := zat_tbl 1270 (by decide +kernel)
theorem mlX11_238 : Cond.methodLink RX11 238 yX11_gatherAll ∈ lw_tbl := zat_tbl 1272 (by decide +kernel)
theorem inX11_gatherAll : Cond.instanceMethod yX11_gatherAll ∈ lw_tbl := zat_tbl 1274 (by decide +kernel)
theorem mlX11_243 : Cond.methodLink RX11 243 yX7_firstSeen ∈ lw_tbl := zat_tbl 1276 (by decide +kernel)
theorem inX7_firstSeen : Cond.instanceMethod yX7_firstSeen ∈ lw_tbl := zat_tbl 1277 (by decide +kernel)
theorem slX7_firstSeen : Cond.selects (zRX 7) yX7_firstSeen yX7_firstSeen ∈ lw_tbl := zat_tbl 1278 (by decide +kernel)
theorem mlX7_61 : Cond.methodLink RX7 61 yJ9_max_7cf53 ∈ lw_tbl := zat_tbl 1280 (by decide +kernel)
theorem mlX7_66 : Cond.methodLink RX7 66 yX7_hasNewer ∈ lw_tbl := zat_tbl 1281 (by decide +kernel)
theorem inX7_hasNewer : Cond.instanceMethod yX7_hasNewer ∈ lw_tbl := zat_tbl 1283 (by decide +kernel)
theorem mlL_155 : Cond.methodLink RL 155 yL_told ∈ lw_tbl := zat_tbl 1285 (by decide +kernel)
theorem stL_told : Cond.static yL_told ∈ lw_tbl := zat_tbl 1286 (by decide +kernel)
theorem mlL_75 : Cond.methodLink RL 75 yX11_told ∈ lw_tbl := zat_tbl 1288 (by decide +kernel)
theorem inX11_told : Cond.instanceMethod yX11_told ∈ lw_tbl := zat_tbl 1289 (by decide +kernel)
theorem slX11_told : Cond.selects (zRX 11) yX11_told yX11_told ∈ lw_tbl := zat_tbl 1290 (by decide +kernel)
theorem mlX11_233 : Cond.methodLink RX11 233 yX9_bits ∈ lw_tbl := zat_tbl 1292 (by decide +kernel)
theorem inX9_bits : Cond.instanceMethod yX9_bits ∈ lw_tbl := zat_tbl 1293 (by decide +kernel)
theorem slX9_bits : Cond.selects (zRX 9) yX9_bits yX9_bits ∈ lw_tbl := zat_tbl 1294 (by decide +kernel)
theorem mlL_158 : Cond.methodLink RL 158 yL_digest ∈ lw_tbl := zat_tbl 1297 (by decide +kernel)
theorem stL_digest : Cond.static yL_digest ∈ lw_tbl := zat_tbl 1298 (by decide +kernel)
theorem mlL_78 : Cond.methodLink RL 78 yX11_digest ∈ lw_tbl := zat_tbl 1300 (by decide +kernel)
theorem inX11_digest : Cond.instanceMethod yX11_digest ∈ lw_tbl := zat_tbl 1301 (by decide +kernel)
theorem slX11_digest : Cond.selects (zRX 11) yX11_digest yX11_digest ∈ lw_tbl := zat_tbl 1302 (by decide +kernel)
theorem ctX11_241 : Cond.constantLong RX11 241 (7) ∈ lw_tbl := zat_tbl 1304 (by decide +kernel)
theorem mlX11_250 : Cond.methodLink RX11 250 yX1_mix ∈ lw_tbl := zat_tbl 1305 (by decide +kernel)
theorem inX1_mix : Cond.instanceMethod yX1_mix ∈ lw_tbl := zat_tbl 1306 (by decide +kernel)
theorem slX1_mix : Cond.selects (zRX 1) yX1_mix yX1_mix ∈ lw_tbl := zat_tbl 1307 (by decide +kernel)
theorem mlX1_82 : Cond.methodLink RX1 82 yX1_mixRow ∈ lw_tbl := zat_tbl 1309 (by decide +kernel)
theorem inX1_mixRow : Cond.instanceMethod yX1_mixRow ∈ lw_tbl := zat_tbl 1311 (by decide +kernel)
theorem ctX1_86 : Cond.constantLong RX1 86 (31) ∈ lw_tbl := zat_tbl 1313 (by decide +kernel)
theorem mlL_161 : Cond.methodLink RL 161 yL_check ∈ lw_tbl := zat_tbl 1314 (by decide +kernel)
theorem stL_check : Cond.static yL_check ∈ lw_tbl := zat_tbl 1315 (by decide +kernel)
theorem mlL_82 : Cond.methodLink RL 82 yX11_check ∈ lw_tbl := zat_tbl 1317 (by decide +kernel)
theorem inX11_check : Cond.instanceMethod yX11_check ∈ lw_tbl := zat_tbl 1318 (by decide +kernel)
theorem slX11_check : Cond.selects (zRX 11) yX11_check yX11_check ∈ lw_tbl := zat_tbl 1319 (by decide +kernel)
theorem mlX11_254 : Cond.methodLink RX11 254 yX2_strayBlocks ∈ lw_tbl := zat_tbl 1321 (by decide +kernel)
theorem inX2_strayBlocks : Cond.instanceMethod yX2_strayBlocks ∈ lw_tbl := zat_tbl 1322 (by decide +kernel)
theorem slX2_strayBlocks : Cond.selects (zRX 2) yX2_strayBlocks yX2_strayBlocks ∈ lw_tbl := zat_tbl 1323 (by decide +kernel)
theorem mlX2_74 : Cond.methodLinkNest RX2 74 yX4_table "LsmStore" ∈ lw_tbl := zat_tbl 1325 (by decide +kernel)
theorem mlX2_78 : Cond.methodLink RX2 78 yX2_own ∈ lw_tbl := zat_tbl 1326 (by decide +kernel)
theorem inX2_own : Cond.instanceMethod yX2_own ∈ lw_tbl := zat_tbl 1328 (by decide +kernel)
theorem mlX11_258 : Cond.methodLink RX11 258 yX4_overlaps ∈ lw_tbl := zat_tbl 1330 (by decide +kernel)
theorem inX4_overlaps : Cond.instanceMethod yX4_overlaps ∈ lw_tbl := zat_tbl 1331 (by decide +kernel)
theorem slX4_overlaps : Cond.selects (zRX 4) yX4_overlaps yX4_overlaps ∈ lw_tbl := zat_tbl 1332 (by decide +kernel)
theorem mlX11_261 : Cond.methodLink RX11 261 yX4_faults ∈ lw_tbl := zat_tbl 1334 (by decide +kernel)
theorem inX4_faults : Cond.instanceMethod yX4_faults ∈ lw_tbl := zat_tbl 1335 (by decide +kernel)
theorem slX4_faults : Cond.selects (zRX 4) yX4_faults yX4_faults ∈ lw_tbl := zat_tbl 1336 (by decide +kernel)
theorem mlX4_118 : Cond.methodLink RX4 118 yX8_faults ∈ lw_tbl := zat_tbl 1338 (by decide +kernel)
theorem inX8_faults : Cond.instanceMethod yX8_faults ∈ lw_tbl := zat_tbl 1339 (by decide +kernel)
theorem slX8_faults : Cond.selects (zRX 8) yX8_faults yX8_faults ∈ lw_tbl := zat_tbl 1340 (by decide +kernel)
theorem mlX8_49 : Cond.methodLink RX8 49 yX1_precedes ∈ lw_tbl := zat_tbl 1342 (by decide +kernel)
theorem mlX8_57 : Cond.methodLink RX8 57 yX1_number ∈ lw_tbl := zat_tbl 1343 (by decide +kernel)
theorem mlX8_61 : Cond.methodLink RX8 61 yX8_allows ∈ lw_tbl := zat_tbl 1344 (by decide +kernel)
theorem mlX8_65 : Cond.methodLink RX8 65 yX8_following ∈ lw_tbl := zat_tbl 1345 (by decide +kernel)
theorem clL_86 : Cond.classLink RL 86 (zRX 12) ∈ lw_tbl := zat_tbl 1346 (by decide +kernel)
theorem mlL_88 : Cond.methodLink RL 88 yX12_init ∈ lw_tbl := zat_tbl 1348 (by decide +kernel)
theorem inX12_init : Cond.instanceMethod yX12_init ∈ lw_tbl := zat_tbl 1349 (by decide +kernel)
theorem mlX12_1 : Cond.methodLink RX12 1 Lib.objectInit ∈ lw_tbl := zat_tbl 1351 (by decide +kernel)
theorem ctX12_19 : Cond.constant RX12 19 (70000) ∈ lw_tbl := zat_tbl 1352 (by decide +kernel)
theorem ctX12_23 : Cond.constant RX12 23 (131200) ∈ lw_tbl := zat_tbl 1353 (by decide +kernel)
theorem lkX12_9 : zlk RX12 9 12 0 := Or.inl (zat_tbl 1354 (by decide +kernel))
theorem lkX12_13 : zlk RX12 13 12 1 := Or.inl (zat_tbl 1355 (by decide +kernel))
theorem lkX12_94 : zlk RX12 94 12 2 := Or.inl (zat_tbl 1356 (by decide +kernel))
theorem lkX12_97 : zlk RX12 97 12 3 := Or.inl (zat_tbl 1357 (by decide +kernel))
theorem lkX12_16 : zlk RX12 16 12 4 := Or.inl (zat_tbl 1358 (by decide +kernel))
theorem lkX12_20 : zlk RX12 20 12 5 := Or.inl (zat_tbl 1359 (by decide +kernel))
theorem lkX12_24 : zlk RX12 24 12 6 := Or.inl (zat_tbl 1360 (by decide +kernel))
theorem lkX12_58 : zlk RX12 58 12 7 := Or.inl (zat_tbl 1361 (by decide +kernel))
theorem lkX12_45 : zlk RX12 45 12 8 := Or.inl (zat_tbl 1362 (by decide +kernel))
theorem lkX12_27 : zlk RX12 27 12 9 := Or.inl (zat_tbl 1363 (by decide +kernel))
theorem lkX12_91 : zlk RX12 91 12 10 := Or.inl (zat_tbl 1364 (by decide +kernel))
theorem lkX12_31 : zlk RX12 31 12 11 := Or.inl (zat_tbl 1365 (by decide +kernel))
theorem lkX12_88 : zlk RX12 88 12 12 := Or.inl (zat_tbl 1366 (by decide +kernel))
theorem lkX12_85 : zlk RX12 85 12 13 := Or.inl (zat_tbl 1367 (by decide +kernel))
theorem lkX12_82 : zlk RX12 82 12 14 := Or.inl (zat_tbl 1368 (by decide +kernel))
theorem lkX12_75 : zlk RX12 75 12 15 := Or.inl (zat_tbl 1369 (by decide +kernel))
theorem lkX12_68 : zlk RX12 68 12 16 := Or.inl (zat_tbl 1370 (by decide +kernel))
theorem lkX12_34 : zlk RX12 34 12 17 := Or.inl (zat_tbl 1371 (by decide +kernel))
theorem lkX12_38 : zlk RX12 38 12 18 := Or.inl (zat_tbl 1372 (by decide +kernel))
theorem mlL_97 : Cond.methodLink RL 97 yX12_thrown ∈ lw_tbl := zat_tbl 1412 (by decide +kernel)
theorem inX12_thrown : Cond.instanceMethod yX12_thrown ∈ lw_tbl := zat_tbl 1413 (by decide +kernel)
theorem slX12_thrown : Cond.selects (zRX 12) yX12_thrown yX12_thrown ∈ lw_tbl := zat_tbl 1414 (by decide +kernel)
theorem mlL_96 : Cond.methodLink RL 96 yX12_key ∈ lw_tbl := zat_tbl 1416 (by decide +kernel)
theorem inX12_key : Cond.instanceMethod yX12_key ∈ lw_tbl := zat_tbl 1417 (by decide +kernel)
theorem slX12_key : Cond.selects (zRX 12) yX12_key yX12_key ∈ lw_tbl := zat_tbl 1418 (by decide +kernel)
theorem mlL_102 : Cond.methodLink RL 102 yX12_value ∈ lw_tbl := zat_tbl 1420 (by decide +kernel)
theorem inX12_value : Cond.instanceMethod yX12_value ∈ lw_tbl := zat_tbl 1421 (by decide +kernel)
theorem slX12_value : Cond.selects (zRX 12) yX12_value yX12_value ∈ lw_tbl := zat_tbl 1422 (by decide +kernel)
theorem mlL_106 : Cond.methodLink RL 106 yX12_begin ∈ lw_tbl := zat_tbl 1424 (by decide +kernel)
theorem inX12_begin : Cond.instanceMethod yX12_begin ∈ lw_tbl := zat_tbl 1425 (by decide +kernel)
theorem slX12_begin : Cond.selects (zRX 12) yX12_begin yX12_begin ∈ lw_tbl := zat_tbl 1426 (by decide +kernel)
theorem mlL_110 : Cond.methodLink RL 110 yX12_put ∈ lw_tbl := zat_tbl 1428 (by decide +kernel)
theorem inX12_put : Cond.instanceMethod yX12_put ∈ lw_tbl := zat_tbl 1429 (by decide +kernel)
theorem slX12_put : Cond.selects (zRX 12) yX12_put yX12_put ∈ lw_tbl := zat_tbl 1430 (by decide +kernel)
theorem mlX12_110 : Cond.methodLink RX12 110 yX12_change ∈ lw_tbl := zat_tbl 1432 (by decide +kernel)
theorem inX12_change : Cond.instanceMethod yX12_change ∈ lw_tbl := zat_tbl 1434 (by decide +kernel)
theorem mlX12_52 : Cond.methodLink RX12 52 arraycopyName ∈ lw_tbl := zat_tbl 1436 (by decide +kernel)
theorem mlX12_100 : Cond.methodLink RX12 100 yX12_begun ∈ lw_tbl := zat_tbl 1437 (by decide +kernel)
theorem inX12_begun : Cond.instanceMethod yX12_begun ∈ lw_tbl := zat_tbl 1439 (by decide +kernel)
theorem mlX12_103 : Cond.methodLink RX12 103 yX12_set ∈ lw_tbl := zat_tbl 1441 (by decide +kernel)
theorem inX12_set : Cond.instanceMethod yX12_set ∈ lw_tbl := zat_tbl 1443 (by decide +kernel)
theorem mlX12_48 : Cond.methodLink RX12 48 yX12_compare ∈ lw_tbl := zat_tbl 1445 (by decide +kernel)
theorem stX12_compare : Cond.static yX12_compare ∈ lw_tbl := zat_tbl 1446 (by decide +kernel)
theorem mlX12_41 : Cond.methodLink RX12 41 yX12_behind ∈ lw_tbl := zat_tbl 1448 (by decide +kernel)
theorem stX12_behind : Cond.static yX12_behind ∈ lw_tbl := zat_tbl 1449 (by decide +kernel)
theorem mlX12_71 : Cond.methodLink RX12 71 yX12_size ∈ lw_tbl := zat_tbl 1451 (by decide +kernel)
theorem stX12_size : Cond.static yX12_size ∈ lw_tbl := zat_tbl 1452 (by decide +kernel)
theorem mlX12_107 : Cond.methodLink RX12 107 yX12_done ∈ lw_tbl := zat_tbl 1454 (by decide +kernel)
theorem inX12_done : Cond.instanceMethod yX12_done ∈ lw_tbl := zat_tbl 1456 (by decide +kernel)
theorem mlX12_61 : Cond.methodLink RX12 61 yX12_fall ∈ lw_tbl := zat_tbl 1458 (by decide +kernel)
theorem inX12_fall : Cond.instanceMethod yX12_fall ∈ lw_tbl := zat_tbl 1460 (by decide +kernel)
theorem mlX12_79 : Cond.methodLink RX12 79 yX12_lost ∈ lw_tbl := zat_tbl 1462 (by decide +kernel)
theorem inX12_lost : Cond.instanceMethod yX12_lost ∈ lw_tbl := zat_tbl 1464 (by decide +kernel)
theorem mlX12_64 : Cond.methodLink RX12 64 yX12_failed ∈ lw_tbl := zat_tbl 1466 (by decide +kernel)
theorem inX12_failed : Cond.instanceMethod yX12_failed ∈ lw_tbl := zat_tbl 1468 (by decide +kernel)
theorem mlL_113 : Cond.methodLink RL 113 yX12_remove ∈ lw_tbl := zat_tbl 1470 (by decide +kernel)
theorem inX12_remove : Cond.instanceMethod yX12_remove ∈ lw_tbl := zat_tbl 1471 (by decide +kernel)
theorem slX12_remove : Cond.selects (zRX 12) yX12_remove yX12_remove ∈ lw_tbl := zat_tbl 1472 (by decide +kernel)
theorem mlL_116 : Cond.methodLink RL 116 yX12_commit ∈ lw_tbl := zat_tbl 1474 (by decide +kernel)
theorem inX12_commit : Cond.instanceMethod yX12_commit ∈ lw_tbl := zat_tbl 1475 (by decide +kernel)
theorem slX12_commit : Cond.selects (zRX 12) yX12_commit yX12_commit ∈ lw_tbl := zat_tbl 1476 (by decide +kernel)
theorem mlL_119 : Cond.methodLink RL 119 yX12_cancel ∈ lw_tbl := zat_tbl 1478 (by decide +kernel)
theorem inX12_cancel : Cond.instanceMethod yX12_cancel ∈ lw_tbl := zat_tbl 1479 (by decide +kernel)
theorem slX12_cancel : Cond.selects (zRX 12) yX12_cancel yX12_cancel ∈ lw_tbl := zat_tbl 1480 (by decide +kernel)
theorem mlL_122 : Cond.methodLink RL 122 yX12_snapshot ∈ lw_tbl := zat_tbl 1482 (by decide +kernel)
theorem inX12_snapshot : Cond.instanceMethod yX12_snapshot ∈ lw_tbl := zat_tbl 1483 (by decide +kernel)
theorem slX12_snapshot : Cond.selects (zRX 12) yX12_snapshot yX12_snapshot ∈ lw_tbl := zat_tbl 1484 (by decide +kernel)
theorem mlL_126 : Cond.methodLink RL 126 yX12_release ∈ lw_tbl := zat_tbl 1486 (by decide +kernel)
theorem inX12_release : Cond.instanceMethod yX12_release ∈ lw_tbl := zat_tbl 1487 (by decide +kernel)
theorem slX12_release : Cond.selects (zRX 12) yX12_release yX12_release ∈ lw_tbl := zat_tbl 1488 (by decide +kernel)
theorem mlL_130 : Cond.methodLink RL 130 yX12_get ∈ lw_tbl := zat_tbl 1490 (by decide +kernel)
theorem inX12_get : Cond.instanceMethod yX12_get ∈ lw_tbl := zat_tbl 1491 (by decide +kernel)
theorem slX12_get : Cond.selects (zRX 12) yX12_get yX12_get ∈ lw_tbl := zat_tbl 1492 (by decide +kernel)
theorem mlX12_114 : Cond.methodLink RX12 114 yX12_isThere ∈ lw_tbl := zat_tbl 1494 (by decide +kernel)
theorem inX12_isThere : Cond.instanceMethod yX12_isThere ∈ lw_tbl := zat_tbl 1496 (by decide +kernel)
theorem mlX12_118 : Cond.methodLink RX12 118 yX12_rowOf ∈ lw_tbl := zat_tbl 1498 (by decide +kernel)
theorem inX12_rowOf : Cond.instanceMethod yX12_rowOf ∈ lw_tbl := zat_tbl 1500 (by decide +kernel)
theorem mlX12_122 : Cond.methodLink RX12 122 yX12_from ∈ lw_tbl := zat_tbl 1502 (by decide +kernel)
theorem inX12_from : Cond.instanceMethod yX12_from ∈ lw_tbl := zat_tbl 1504 (by decide +kernel)
theorem mlX12_126 : Cond.methodLink RX12 126 yX12_end ∈ lw_tbl := zat_tbl 1506 (by decide +kernel)
theorem inX12_end : Cond.instanceMethod yX12_end ∈ lw_tbl := zat_tbl 1508 (by decide +kernel)
theorem mlX12_129 : Cond.methodLink RX12 129 yX12_taken ∈ lw_tbl := zat_tbl 1510 (by decide +kernel)
theorem inX12_taken : Cond.instanceMethod yX12_taken ∈ lw_tbl := zat_tbl 1512 (by decide +kernel)
theorem mlL_134 : Cond.methodLink RL 134 yX12_seek ∈ lw_tbl := zat_tbl 1514 (by decide +kernel)
theorem inX12_seek : Cond.instanceMethod yX12_seek ∈ lw_tbl := zat_tbl 1515 (by decide +kernel)
theorem slX12_seek : Cond.selects (zRX 12) yX12_seek yX12_seek ∈ lw_tbl := zat_tbl 1516 (by decide +kernel)
theorem mlL_137 : Cond.methodLink RL 137 yX12_before ∈ lw_tbl := zat_tbl 1518 (by decide +kernel)
theorem inX12_before : Cond.instanceMethod yX12_before ∈ lw_tbl := zat_tbl 1519 (by decide +kernel)
theorem slX12_before : Cond.selects (zRX 12) yX12_before yX12_before ∈ lw_tbl := zat_tbl 1520 (by decide +kernel)
theorem mlL_141 : Cond.methodLink RL 141 yX12_bytes ∈ lw_tbl := zat_tbl 1522 (by decide +kernel)
theorem inX12_bytes : Cond.instanceMethod yX12_bytes ∈ lw_tbl := zat_tbl 1523 (by decide +kernel)
theorem slX12_bytes : Cond.selects (zRX 12) yX12_bytes yX12_bytes ∈ lw_tbl := zat_tbl 1524 (by decide +kernel)
theorem mlL_144 : Cond.methodLink RL 144 yX12_flush ∈ lw_tbl := zat_tbl 1526 (by decide +kernel)
theorem inX12_flush : Cond.instanceMethod yX12_flush ∈ lw_tbl := zat_tbl 1527 (by decide +kernel)
theorem slX12_flush : Cond.selects (zRX 12) yX12_flush yX12_flush ∈ lw_tbl := zat_tbl 1528 (by decide +kernel)
theorem mlX12_133 : Cond.methodLink RX12 133 yX12_works ∈ lw_tbl := zat_tbl 1530 (by decide +kernel)
theorem inX12_works : Cond.instanceMethod yX12_works ∈ lw_tbl := zat_tbl 1532 (by decide +kernel)
theorem mlL_147 : Cond.methodLink RL 147 yX12_compact ∈ lw_tbl := zat_tbl 1534 (by decide +kernel)
theorem inX12_compact : Cond.instanceMethod yX12_compact ∈ lw_tbl := zat_tbl 1535 (by decide +kernel)
theorem slX12_compact : Cond.selects (zRX 12) yX12_compact yX12_compact ∈ lw_tbl := zat_tbl 1536 (by decide +kernel)
theorem mlL_151 : Cond.methodLink RL 151 yX12_power ∈ lw_tbl := zat_tbl 1538 (by decide +kernel)
theorem inX12_power : Cond.instanceMethod yX12_power ∈ lw_tbl := zat_tbl 1539 (by decide +kernel)
theorem slX12_power : Cond.selects (zRX 12) yX12_power yX12_power ∈ lw_tbl := zat_tbl 1540 (by decide +kernel)
theorem mlL_154 : Cond.methodLink RL 154 yX12_reopen ∈ lw_tbl := zat_tbl 1542 (by decide +kernel)
theorem inX12_reopen : Cond.instanceMethod yX12_reopen ∈ lw_tbl := zat_tbl 1543 (by decide +kernel)
theorem slX12_reopen : Cond.selects (zRX 12) yX12_reopen yX12_reopen ∈ lw_tbl := zat_tbl 1544 (by decide +kernel)
theorem mlL_157 : Cond.methodLink RL 157 yX12_told ∈ lw_tbl := zat_tbl 1546 (by decide +kernel)
theorem inX12_told : Cond.instanceMethod yX12_told ∈ lw_tbl := zat_tbl 1547 (by decide +kernel)
theorem slX12_told : Cond.selects (zRX 12) yX12_told yX12_told ∈ lw_tbl := zat_tbl 1548 (by decide +kernel)
theorem mlX12_136 : Cond.methodLink RX12 136 yX12_many ∈ lw_tbl := zat_tbl 1550 (by decide +kernel)
theorem stX12_many : Cond.static yX12_many ∈ lw_tbl := zat_tbl 1551 (by decide +kernel)
theorem mlL_160 : Cond.methodLink RL 160 yX12_digest ∈ lw_tbl := zat_tbl 1553 (by decide +kernel)
theorem inX12_digest : Cond.instanceMethod yX12_digest ∈ lw_tbl := zat_tbl 1554 (by decide +kernel)
theorem slX12_digest : Cond.selects (zRX 12) yX12_digest yX12_digest ∈ lw_tbl := zat_tbl 1555 (by decide +kernel)
theorem ctX12_139 : Cond.constantLong RX12 139 (7) ∈ lw_tbl := zat_tbl 1557 (by decide +kernel)
theorem ctX12_141 : Cond.constantLong RX12 141 (31) ∈ lw_tbl := zat_tbl 1558 (by decide +kernel)
theorem mlL_163 : Cond.methodLink RL 163 yX12_check ∈ lw_tbl := zat_tbl 1559 (by decide +kernel)
theorem inX12_check : Cond.instanceMethod yX12_check ∈ lw_tbl := zat_tbl 1560 (by decide +kernel)
theorem slX12_check : Cond.selects (zRX 12) yX12_check yX12_check ∈ lw_tbl := zat_tbl 1561 (by decide +kernel)
theorem ctL_89 : Cond.constantLong RL 89 (4294967295) ∈ lw_tbl := zat_tbl 1563 (by decide +kernel)
end
