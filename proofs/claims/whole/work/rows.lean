section
-- ===== PART A: goes FIRST, ahead of the names: the tables' words, and 'selects' of the private methods out of them =====
/-- a private method of a class that the tables say can be made, by its rows of tables_1 -/
def lw_okq (q : MethodName × Nat) : Prop := (q.1.cls ≠ "java/lang/invoke/MethodHandle" ∧ q.1.cls ≠ "java/lang/invoke/VarHandle") ∧ Cond.instantiable q.1.cls q.2 ∈ tables_1 ∧ Cond.privateMethod q.1 ∈ tables_1 ∧ Cond.instanceMethod q.1 ∈ tables_1
theorem lw_p0 : lw_okq (⟨"CommitIndex", "sheetAt", "(I)LCommitIndex$Sheet;"⟩, 8) := ⟨⟨by decide +kernel, by decide +kernel⟩, List.mem_of_getElem? (i := 14) (by decide +kernel), List.mem_of_getElem? (i := 295) (by decide +kernel), List.mem_of_getElem? (i := 296) (by decide +kernel)⟩
theorem lw_p1 : lw_okq (⟨"CommitIndex", "finding", "(I)I"⟩, 8) := ⟨⟨by decide +kernel, by decide +kernel⟩, List.mem_of_getElem? (i := 14) (by decide +kernel), List.mem_of_getElem? (i := 303) (by decide +kernel), List.mem_of_getElem? (i := 304) (by decide +kernel)⟩
theorem lw_p2 : lw_okq (⟨"CommitIndex$History", "joinLayers", "()V"⟩, 9) := ⟨⟨by decide +kernel, by decide +kernel⟩, List.mem_of_getElem? (i := 22) (by decide +kernel), List.mem_of_getElem? (i := 323) (by decide +kernel), List.mem_of_getElem? (i := 324) (by decide +kernel)⟩
theorem lw_p3 : lw_okq (⟨"CommitIndex$Painting", "passOn", "(IJ)V"⟩, 7) := ⟨⟨by decide +kernel, by decide +kernel⟩, List.mem_of_getElem? (i := 81) (by decide +kernel), List.mem_of_getElem? (i := 414) (by decide +kernel), List.mem_of_getElem? (i := 415) (by decide +kernel)⟩
theorem lw_p4 : lw_okq (⟨"CommitIndex$Paths", "passOn", "(II)V"⟩, 2) := ⟨⟨by decide +kernel, by decide +kernel⟩, List.mem_of_getElem? (i := 111) (by decide +kernel), List.mem_of_getElem? (i := 432) (by decide +kernel), List.mem_of_getElem? (i := 433) (by decide +kernel)⟩
theorem lw_p5 : lw_okq (⟨"CommitIndex", "walkPart", "(I)I"⟩, 8) := ⟨⟨by decide +kernel, by decide +kernel⟩, List.mem_of_getElem? (i := 14) (by decide +kernel), List.mem_of_getElem? (i := 494) (by decide +kernel), List.mem_of_getElem? (i := 495) (by decide +kernel)⟩
theorem lw_p6 : lw_okq (⟨"CommitIndex$Exchange", "tell", "(LCommitIndex$History;)V"⟩, 12) := ⟨⟨by decide +kernel, by decide +kernel⟩, List.mem_of_getElem? (i := 147) (by decide +kernel), List.mem_of_getElem? (i := 528) (by decide +kernel), List.mem_of_getElem? (i := 529) (by decide +kernel)⟩
theorem lw_p7 : lw_okq (⟨"CommitIndex$Exchange", "answer", "(LCommitIndex$History;I)V"⟩, 12) := ⟨⟨by decide +kernel, by decide +kernel⟩, List.mem_of_getElem? (i := 147) (by decide +kernel), List.mem_of_getElem? (i := 537) (by decide +kernel), List.mem_of_getElem? (i := 538) (by decide +kernel)⟩
theorem lw_p8 : lw_okq (⟨"CommitIndex$Exchange", "isServed", "(LCommitIndex$History;)Z"⟩, 12) := ⟨⟨by decide +kernel, by decide +kernel⟩, List.mem_of_getElem? (i := 147) (by decide +kernel), List.mem_of_getElem? (i := 543) (by decide +kernel), List.mem_of_getElem? (i := 544) (by decide +kernel)⟩
theorem lw_p9 : lw_okq (⟨"CommitIndex$Sheet", "narrowed", "(I)I"⟩, 3) := ⟨⟨by decide +kernel, by decide +kernel⟩, List.mem_of_getElem? (i := 197) (by decide +kernel), List.mem_of_getElem? (i := 604) (by decide +kernel), List.mem_of_getElem? (i := 605) (by decide +kernel)⟩
theorem lw_p10 : lw_okq (⟨"CommitIndex", "countPart", "(I)I"⟩, 8) := ⟨⟨by decide +kernel, by decide +kernel⟩, List.mem_of_getElem? (i := 14) (by decide +kernel), List.mem_of_getElem? (i := 637) (by decide +kernel), List.mem_of_getElem? (i := 638) (by decide +kernel)⟩
theorem lw_p11 : lw_okq (⟨"CommitIndex", "mixCounts", "(J)J"⟩, 8) := ⟨⟨by decide +kernel, by decide +kernel⟩, List.mem_of_getElem? (i := 14) (by decide +kernel), List.mem_of_getElem? (i := 646) (by decide +kernel), List.mem_of_getElem? (i := 647) (by decide +kernel)⟩
theorem lw_p12 : lw_okq (⟨"CommitIndex", "mixCommit", "(JI)J"⟩, 8) := ⟨⟨by decide +kernel, by decide +kernel⟩, List.mem_of_getElem? (i := 14) (by decide +kernel), List.mem_of_getElem? (i := 654) (by decide +kernel), List.mem_of_getElem? (i := 655) (by decide +kernel)⟩
theorem lw_p13 : lw_okq (⟨"CommitIndex", "mixKept", "(JI)J"⟩, 8) := ⟨⟨by decide +kernel, by decide +kernel⟩, List.mem_of_getElem? (i := 14) (by decide +kernel), List.mem_of_getElem? (i := 659) (by decide +kernel), List.mem_of_getElem? (i := 660) (by decide +kernel)⟩
theorem lw_p14 : lw_okq (⟨"CommitIndex", "mixPairs", "(JII)J"⟩, 8) := ⟨⟨by decide +kernel, by decide +kernel⟩, List.mem_of_getElem? (i := 14) (by decide +kernel), List.mem_of_getElem? (i := 664) (by decide +kernel), List.mem_of_getElem? (i := 665) (by decide +kernel)⟩
theorem lw_p15 : lw_okq (⟨"CommitIndex", "mixExchange", "(J)J"⟩, 8) := ⟨⟨by decide +kernel, by decide +kernel⟩, List.mem_of_getElem? (i := 14) (by decide +kernel), List.mem_of_getElem? (i := 668) (by decide +kernel), List.mem_of_getElem? (i := 669) (by decide +kernel)⟩
def lw_privs_1 : List (MethodName × Nat) := [(⟨"CommitIndex", "sheetAt", "(I)LCommitIndex$Sheet;"⟩, 8), (⟨"CommitIndex", "finding", "(I)I"⟩, 8), (⟨"CommitIndex$History", "joinLayers", "()V"⟩, 9), (⟨"CommitIndex$Painting", "passOn", "(IJ)V"⟩, 7), (⟨"CommitIndex$Paths", "passOn", "(II)V"⟩, 2), (⟨"CommitIndex", "walkPart", "(I)I"⟩, 8), (⟨"CommitIndex$Exchange", "tell", "(LCommitIndex$History;)V"⟩, 12), (⟨"CommitIndex$Exchange", "answer", "(LCommitIndex$History;I)V"⟩, 12), (⟨"CommitIndex$Exchange", "isServed", "(LCommitIndex$History;)Z"⟩, 12), (⟨"CommitIndex$Sheet", "narrowed", "(I)I"⟩, 3), (⟨"CommitIndex", "countPart", "(I)I"⟩, 8), (⟨"CommitIndex", "mixCounts", "(J)J"⟩, 8), (⟨"CommitIndex", "mixCommit", "(JI)J"⟩, 8), (⟨"CommitIndex", "mixKept", "(JI)J"⟩, 8), (⟨"CommitIndex", "mixPairs", "(JII)J"⟩, 8), (⟨"CommitIndex", "mixExchange", "(J)J"⟩, 8)]
theorem lw_r1 : ∀ q ∈ lw_privs_1, lw_okq q := List.forall_mem_cons.mpr ⟨lw_p0, List.forall_mem_cons.mpr ⟨lw_p1, List.forall_mem_cons.mpr ⟨lw_p2, List.forall_mem_cons.mpr ⟨lw_p3, List.forall_mem_cons.mpr ⟨lw_p4, List.forall_mem_cons.mpr ⟨lw_p5, List.forall_mem_cons.mpr ⟨lw_p6, List.forall_mem_cons.mpr ⟨lw_p7, List.forall_mem_cons.mpr ⟨lw_p8, List.forall_mem_cons.mpr ⟨lw_p9, List.forall_mem_cons.mpr ⟨lw_p10, List.forall_mem_cons.mpr ⟨lw_p11, List.forall_mem_cons.mpr ⟨lw_p12, List.forall_mem_cons.mpr ⟨lw_p13, List.forall_mem_cons.mpr ⟨lw_p14, List.forall_mem_cons.mpr ⟨lw_p15, fun _ h => absurd h List.not_mem_nil⟩⟩⟩⟩⟩⟩⟩⟩⟩⟩⟩⟩⟩⟩⟩⟩
theorem lw_p16 : lw_okq (⟨"CommitIndexModel", "finds", "(I)I"⟩, 31) := ⟨⟨by decide +kernel, by decide +kernel⟩, List.mem_of_getElem? (i := 672) (by decide +kernel), List.mem_of_getElem? (i := 784) (by decide +kernel), List.mem_of_getElem? (i := 785) (by decide +kernel)⟩
theorem lw_p17 : lw_okq (⟨"CommitIndexModel", "lacks", "(III)I"⟩, 31) := ⟨⟨by decide +kernel, by decide +kernel⟩, List.mem_of_getElem? (i := 672) (by decide +kernel), List.mem_of_getElem? (i := 796) (by decide +kernel), List.mem_of_getElem? (i := 797) (by decide +kernel)⟩
theorem lw_p18 : lw_okq (⟨"CommitIndexModel", "isNew", "(III)Z"⟩, 31) := ⟨⟨by decide +kernel, by decide +kernel⟩, List.mem_of_getElem? (i := 672) (by decide +kernel), List.mem_of_getElem? (i := 816) (by decide +kernel), List.mem_of_getElem? (i := 817) (by decide +kernel)⟩
theorem lw_p19 : lw_okq (⟨"CommitIndexModel", "layerBy", "(I)I"⟩, 31) := ⟨⟨by decide +kernel, by decide +kernel⟩, List.mem_of_getElem? (i := 672) (by decide +kernel), List.mem_of_getElem? (i := 843) (by decide +kernel), List.mem_of_getElem? (i := 844) (by decide +kernel)⟩
theorem lw_p20 : lw_okq (⟨"CommitIndexModel", "isCommit", "(I)Z"⟩, 31) := ⟨⟨by decide +kernel, by decide +kernel⟩, List.mem_of_getElem? (i := 672) (by decide +kernel), List.mem_of_getElem? (i := 860) (by decide +kernel), List.mem_of_getElem? (i := 861) (by decide +kernel)⟩
theorem lw_p21 : lw_okq (⟨"CommitIndexModel", "commitBy", "(II)I"⟩, 31) := ⟨⟨by decide +kernel, by decide +kernel⟩, List.mem_of_getElem? (i := 672) (by decide +kernel), List.mem_of_getElem? (i := 865) (by decide +kernel), List.mem_of_getElem? (i := 866) (by decide +kernel)⟩
theorem lw_p22 : lw_okq (⟨"CommitIndexModel", "generation", "(I)I"⟩, 31) := ⟨⟨by decide +kernel, by decide +kernel⟩, List.mem_of_getElem? (i := 672) (by decide +kernel), List.mem_of_getElem? (i := 869) (by decide +kernel), List.mem_of_getElem? (i := 870) (by decide +kernel)⟩
theorem lw_p23 : lw_okq (⟨"CommitIndexModel", "children", "(I)I"⟩, 31) := ⟨⟨by decide +kernel, by decide +kernel⟩, List.mem_of_getElem? (i := 672) (by decide +kernel), List.mem_of_getElem? (i := 873) (by decide +kernel), List.mem_of_getElem? (i := 874) (by decide +kernel)⟩
theorem lw_p24 : lw_okq (⟨"CommitIndexModel", "reachOf", "(I)J"⟩, 31) := ⟨⟨by decide +kernel, by decide +kernel⟩, List.mem_of_getElem? (i := 672) (by decide +kernel), List.mem_of_getElem? (i := 881) (by decide +kernel), List.mem_of_getElem? (i := 882) (by decide +kernel)⟩
theorem lw_p25 : lw_okq (⟨"CommitIndexModel", "parent", "(II)I"⟩, 31) := ⟨⟨by decide +kernel, by decide +kernel⟩, List.mem_of_getElem? (i := 672) (by decide +kernel), List.mem_of_getElem? (i := 885) (by decide +kernel), List.mem_of_getElem? (i := 886) (by decide +kernel)⟩
theorem lw_p26 : lw_okq (⟨"CommitIndexModel", "lookBy", "(III)I"⟩, 31) := ⟨⟨by decide +kernel, by decide +kernel⟩, List.mem_of_getElem? (i := 672) (by decide +kernel), List.mem_of_getElem? (i := 900) (by decide +kernel), List.mem_of_getElem? (i := 901) (by decide +kernel)⟩
theorem lw_p27 : lw_okq (⟨"CommitIndexModel", "looks", "(III)I"⟩, 31) := ⟨⟨by decide +kernel, by decide +kernel⟩, List.mem_of_getElem? (i := 672) (by decide +kernel), List.mem_of_getElem? (i := 904) (by decide +kernel), List.mem_of_getElem? (i := 905) (by decide +kernel)⟩
theorem lw_p28 : lw_okq (⟨"CommitIndexModel", "next", "(J)I"⟩, 31) := ⟨⟨by decide +kernel, by decide +kernel⟩, List.mem_of_getElem? (i := 672) (by decide +kernel), List.mem_of_getElem? (i := 908) (by decide +kernel), List.mem_of_getElem? (i := 909) (by decide +kernel)⟩
theorem lw_p29 : lw_okq (⟨"CommitIndexModel", "basesOf", "(II)J"⟩, 31) := ⟨⟨by decide +kernel, by decide +kernel⟩, List.mem_of_getElem? (i := 672) (by decide +kernel), List.mem_of_getElem? (i := 916) (by decide +kernel), List.mem_of_getElem? (i := 917) (by decide +kernel)⟩
theorem lw_p30 : lw_okq (⟨"CommitIndexModel", "paintsOf", "(II)I"⟩, 31) := ⟨⟨by decide +kernel, by decide +kernel⟩, List.mem_of_getElem? (i := 672) (by decide +kernel), List.mem_of_getElem? (i := 924) (by decide +kernel), List.mem_of_getElem? (i := 925) (by decide +kernel)⟩
theorem lw_p31 : lw_okq (⟨"CommitIndexModel", "waysOf", "(II)J"⟩, 31) := ⟨⟨by decide +kernel, by decide +kernel⟩, List.mem_of_getElem? (i := 672) (by decide +kernel), List.mem_of_getElem? (i := 932) (by decide +kernel), List.mem_of_getElem? (i := 933) (by decide +kernel)⟩
def lw_privs_2 : List (MethodName × Nat) := [(⟨"CommitIndexModel", "finds", "(I)I"⟩, 31), (⟨"CommitIndexModel", "lacks", "(III)I"⟩, 31), (⟨"CommitIndexModel", "isNew", "(III)Z"⟩, 31), (⟨"CommitIndexModel", "layerBy", "(I)I"⟩, 31), (⟨"CommitIndexModel", "isCommit", "(I)Z"⟩, 31), (⟨"CommitIndexModel", "commitBy", "(II)I"⟩, 31), (⟨"CommitIndexModel", "generation", "(I)I"⟩, 31), (⟨"CommitIndexModel", "children", "(I)I"⟩, 31), (⟨"CommitIndexModel", "reachOf", "(I)J"⟩, 31), (⟨"CommitIndexModel", "parent", "(II)I"⟩, 31), (⟨"CommitIndexModel", "lookBy", "(III)I"⟩, 31), (⟨"CommitIndexModel", "looks", "(III)I"⟩, 31), (⟨"CommitIndexModel", "next", "(J)I"⟩, 31), (⟨"CommitIndexModel", "basesOf", "(II)J"⟩, 31), (⟨"CommitIndexModel", "paintsOf", "(II)I"⟩, 31), (⟨"CommitIndexModel", "waysOf", "(II)J"⟩, 31)]
theorem lw_r2 : ∀ q ∈ lw_privs_2, lw_okq q := List.forall_mem_cons.mpr ⟨lw_p16, List.forall_mem_cons.mpr ⟨lw_p17, List.forall_mem_cons.mpr ⟨lw_p18, List.forall_mem_cons.mpr ⟨lw_p19, List.forall_mem_cons.mpr ⟨lw_p20, List.forall_mem_cons.mpr ⟨lw_p21, List.forall_mem_cons.mpr ⟨lw_p22, List.forall_mem_cons.mpr ⟨lw_p23, List.forall_mem_cons.mpr ⟨lw_p24, List.forall_mem_cons.mpr ⟨lw_p25, List.forall_mem_cons.mpr ⟨lw_p26, List.forall_mem_cons.mpr ⟨lw_p27, List.forall_mem_cons.mpr ⟨lw_p28, List.forall_mem_cons.mpr ⟨lw_p29, List.forall_mem_cons.mpr ⟨lw_p30, List.forall_mem_cons.mpr ⟨lw_p31, fun _ h => absurd h List.not_mem_nil⟩⟩⟩⟩⟩⟩⟩⟩⟩⟩⟩⟩⟩⟩⟩⟩
theorem lw_p32 : lw_okq (⟨"CommitIndexModel", "goesDown", "(I)V"⟩, 31) := ⟨⟨by decide +kernel, by decide +kernel⟩, List.mem_of_getElem? (i := 672) (by decide +kernel), List.mem_of_getElem? (i := 936) (by decide +kernel), List.mem_of_getElem? (i := 937) (by decide +kernel)⟩
theorem lw_p33 : lw_okq (⟨"CommitIndexModel", "farOf", "(II)I"⟩, 31) := ⟨⟨by decide +kernel, by decide +kernel⟩, List.mem_of_getElem? (i := 672) (by decide +kernel), List.mem_of_getElem? (i := 947) (by decide +kernel), List.mem_of_getElem? (i := 948) (by decide +kernel)⟩
theorem lw_p34 : lw_okq (⟨"CommitIndexModel", "keptBy", "(II)I"⟩, 31) := ⟨⟨by decide +kernel, by decide +kernel⟩, List.mem_of_getElem? (i := 672) (by decide +kernel), List.mem_of_getElem? (i := 955) (by decide +kernel), List.mem_of_getElem? (i := 956) (by decide +kernel)⟩
theorem lw_p35 : lw_okq (⟨"CommitIndexModel", "isKept", "(I)Z"⟩, 31) := ⟨⟨by decide +kernel, by decide +kernel⟩, List.mem_of_getElem? (i := 672) (by decide +kernel), List.mem_of_getElem? (i := 959) (by decide +kernel), List.mem_of_getElem? (i := 960) (by decide +kernel)⟩
theorem lw_p36 : lw_okq (⟨"CommitIndexModel", "rootOf", "(I)I"⟩, 31) := ⟨⟨by decide +kernel, by decide +kernel⟩, List.mem_of_getElem? (i := 672) (by decide +kernel), List.mem_of_getElem? (i := 963) (by decide +kernel), List.mem_of_getElem? (i := 964) (by decide +kernel)⟩
theorem lw_p37 : lw_okq (⟨"CommitIndexModel", "shareOf", "(I)I"⟩, 31) := ⟨⟨by decide +kernel, by decide +kernel⟩, List.mem_of_getElem? (i := 672) (by decide +kernel), List.mem_of_getElem? (i := 967) (by decide +kernel), List.mem_of_getElem? (i := 968) (by decide +kernel)⟩
theorem lw_p38 : lw_okq (⟨"CommitIndexModel", "rootsOf", "(I)I"⟩, 31) := ⟨⟨by decide +kernel, by decide +kernel⟩, List.mem_of_getElem? (i := 672) (by decide +kernel), List.mem_of_getElem? (i := 974) (by decide +kernel), List.mem_of_getElem? (i := 975) (by decide +kernel)⟩
theorem lw_p39 : lw_okq (⟨"CommitIndexModel", "walkBy", "(II)I"⟩, 31) := ⟨⟨by decide +kernel, by decide +kernel⟩, List.mem_of_getElem? (i := 672) (by decide +kernel), List.mem_of_getElem? (i := 982) (by decide +kernel), List.mem_of_getElem? (i := 983) (by decide +kernel)⟩
theorem lw_p40 : lw_okq (⟨"CommitIndexModel", "talks", "()V"⟩, 31) := ⟨⟨by decide +kernel, by decide +kernel⟩, List.mem_of_getElem? (i := 672) (by decide +kernel), List.mem_of_getElem? (i := 1002) (by decide +kernel), List.mem_of_getElem? (i := 1003) (by decide +kernel)⟩
theorem lw_p41 : lw_okq (⟨"CommitIndexModel", "reachAll", "(J)J"⟩, 31) := ⟨⟨by decide +kernel, by decide +kernel⟩, List.mem_of_getElem? (i := 672) (by decide +kernel), List.mem_of_getElem? (i := 1006) (by decide +kernel), List.mem_of_getElem? (i := 1007) (by decide +kernel)⟩
theorem lw_p42 : lw_okq (⟨"CommitIndexModel", "heads", "()J"⟩, 31) := ⟨⟨by decide +kernel, by decide +kernel⟩, List.mem_of_getElem? (i := 672) (by decide +kernel), List.mem_of_getElem? (i := 1010) (by decide +kernel), List.mem_of_getElem? (i := 1011) (by decide +kernel)⟩
theorem lw_p43 : lw_okq (⟨"CommitIndexModel", "nextTold", "()I"⟩, 31) := ⟨⟨by decide +kernel, by decide +kernel⟩, List.mem_of_getElem? (i := 672) (by decide +kernel), List.mem_of_getElem? (i := 1014) (by decide +kernel), List.mem_of_getElem? (i := 1015) (by decide +kernel)⟩
theorem lw_p44 : lw_okq (⟨"CommitIndexModel", "answers", "(I)V"⟩, 31) := ⟨⟨by decide +kernel, by decide +kernel⟩, List.mem_of_getElem? (i := 672) (by decide +kernel), List.mem_of_getElem? (i := 1018) (by decide +kernel), List.mem_of_getElem? (i := 1019) (by decide +kernel)⟩
theorem lw_p45 : lw_okq (⟨"CommitIndexModel", "isEnough", "()Z"⟩, 31) := ⟨⟨by decide +kernel, by decide +kernel⟩, List.mem_of_getElem? (i := 672) (by decide +kernel), List.mem_of_getElem? (i := 1022) (by decide +kernel), List.mem_of_getElem? (i := 1023) (by decide +kernel)⟩
theorem lw_p46 : lw_okq (⟨"CommitIndexModel", "setBy", "(I)J"⟩, 31) := ⟨⟨by decide +kernel, by decide +kernel⟩, List.mem_of_getElem? (i := 672) (by decide +kernel), List.mem_of_getElem? (i := 1027) (by decide +kernel), List.mem_of_getElem? (i := 1028) (by decide +kernel)⟩
theorem lw_p47 : lw_okq (⟨"CommitIndexModel", "toldBy", "(II)I"⟩, 31) := ⟨⟨by decide +kernel, by decide +kernel⟩, List.mem_of_getElem? (i := 672) (by decide +kernel), List.mem_of_getElem? (i := 1039) (by decide +kernel), List.mem_of_getElem? (i := 1040) (by decide +kernel)⟩
def lw_privs_3 : List (MethodName × Nat) := [(⟨"CommitIndexModel", "goesDown", "(I)V"⟩, 31), (⟨"CommitIndexModel", "farOf", "(II)I"⟩, 31), (⟨"CommitIndexModel", "keptBy", "(II)I"⟩, 31), (⟨"CommitIndexModel", "isKept", "(I)Z"⟩, 31), (⟨"CommitIndexModel", "rootOf", "(I)I"⟩, 31), (⟨"CommitIndexModel", "shareOf", "(I)I"⟩, 31), (⟨"CommitIndexModel", "rootsOf", "(I)I"⟩, 31), (⟨"CommitIndexModel", "walkBy", "(II)I"⟩, 31), (⟨"CommitIndexModel", "talks", "()V"⟩, 31), (⟨"CommitIndexModel", "reachAll", "(J)J"⟩, 31), (⟨"CommitIndexModel", "heads", "()J"⟩, 31), (⟨"CommitIndexModel", "nextTold", "()I"⟩, 31), (⟨"CommitIndexModel", "answers", "(I)V"⟩, 31), (⟨"CommitIndexModel", "isEnough", "()Z"⟩, 31), (⟨"CommitIndexModel", "setBy", "(I)J"⟩, 31), (⟨"CommitIndexModel", "toldBy", "(II)I"⟩, 31)]
theorem lw_r3 : ∀ q ∈ lw_privs_3, lw_okq q := List.forall_mem_cons.mpr ⟨lw_p32, List.forall_mem_cons.mpr ⟨lw_p33, List.forall_mem_cons.mpr ⟨lw_p34, List.forall_mem_cons.mpr ⟨lw_p35, List.forall_mem_cons.mpr ⟨lw_p36, List.forall_mem_cons.mpr ⟨lw_p37, List.forall_mem_cons.mpr ⟨lw_p38, List.forall_mem_cons.mpr ⟨lw_p39, List.forall_mem_cons.mpr ⟨lw_p40, List.forall_mem_cons.mpr ⟨lw_p41, List.forall_mem_cons.mpr ⟨lw_p42, List.forall_mem_cons.mpr ⟨lw_p43, List.forall_mem_cons.mpr ⟨lw_p44, List.forall_mem_cons.mpr ⟨lw_p45, List.forall_mem_cons.mpr ⟨lw_p46, List.forall_mem_cons.mpr ⟨lw_p47, fun _ h => absurd h List.not_mem_nil⟩⟩⟩⟩⟩⟩⟩⟩⟩⟩⟩⟩⟩⟩⟩⟩
theorem lw_p48 : lw_okq (⟨"CommitIndexModel", "thingsNow", "()I"⟩, 31) := ⟨⟨by decide +kernel, by decide +kernel⟩, List.mem_of_getElem? (i := 672) (by decide +kernel), List.mem_of_getElem? (i := 1047) (by decide +kernel), List.mem_of_getElem? (i := 1048) (by decide +kernel)⟩
theorem lw_p49 : lw_okq (⟨"CommitIndexModel", "tellsCommit", "(JII)J"⟩, 31) := ⟨⟨by decide +kernel, by decide +kernel⟩, List.mem_of_getElem? (i := 672) (by decide +kernel), List.mem_of_getElem? (i := 1066) (by decide +kernel), List.mem_of_getElem? (i := 1067) (by decide +kernel)⟩
def lw_privs_4 : List (MethodName × Nat) := [(⟨"CommitIndexModel", "thingsNow", "()I"⟩, 31), (⟨"CommitIndexModel", "tellsCommit", "(JII)J"⟩, 31)]
theorem lw_r4 : ∀ q ∈ lw_privs_4, lw_okq q := List.forall_mem_cons.mpr ⟨lw_p48, List.forall_mem_cons.mpr ⟨lw_p49, fun _ h => absurd h List.not_mem_nil⟩⟩
def lw_privs : List (MethodName × Nat) := lw_privs_1 ++ (lw_privs_2 ++ (lw_privs_3 ++ (lw_privs_4)))
def lw_tbl : List Cond := k2_sels lw_privs ++ tables_1
theorem lw_privs_ok : ∀ q ∈ lw_privs, lw_okq q := by
  show ∀ q ∈ lw_privs_1 ++ (lw_privs_2 ++ (lw_privs_3 ++ (lw_privs_4))), lw_okq q
  exact List.forall_mem_append.mpr ⟨lw_r1, List.forall_mem_append.mpr ⟨lw_r2, List.forall_mem_append.mpr ⟨lw_r3, lw_r4⟩⟩⟩

theorem goodIn_r {big : List Cond} (ws : List Cond) (ps : List Nat) (hp : ws = ps.filterMap (fun i => big[i]?)) (h : ws.all goodWord = true) : GoodIn big ws := by
  intro w hw
  have h1 := List.all_eq_true.mp h w hw
  rw [hp] at hw
  obtain ⟨i, -, hi⟩ := List.mem_filterMap.mp hw
  have hm : w ∈ big := by first | exact List.mem_of_getElem? hi | exact List.getElem?_mem hi
  exact ⟨hm, good_of_word h1⟩
theorem goodIn_app {big a b : List Cond} (ha : GoodIn big a) (hb : GoodIn big b) : GoodIn big (a ++ b) := fun w h => (List.mem_append.mp h).elim (ha w) (hb w)
theorem goodIn_ca {big a b : List Cond} {c : Cond} (ha : GoodIn big (c :: a)) (hb : GoodIn big b) : GoodIn big (c :: (a ++ b)) := fun w h => (List.mem_cons.mp h).elim (fun e => ha w (List.mem_cons.mpr (Or.inl e))) (fun h => (List.mem_append.mp h).elim (fun h => ha w (List.mem_cons.mpr (Or.inr h))) (hb w))
theorem goodIn_sub {big ws : List Cond} (hm : ∀ w ∈ ws, w ∈ big) (h : ws.all goodWord = true) : GoodIn big ws := fun w hw => ⟨hm w hw, good_of_word (List.all_eq_true.mp h w hw)⟩
def RX0 : String := "CommitIndex$Exchange"
def TX0 : u_T := fun k => match k with
  | 0 => ("CommitIndex$Exchange", "had", "J", false)
  | 1 => ("CommitIndex$Exchange", "wanted", "J", false)
  | 2 => ("CommitIndex$Exchange", "per", "I", false)
  | 3 => ("CommitIndex$Exchange", "haste", "I", false)
  | 4 => ("CommitIndex$Exchange", "toldCommits", "[I", true)
  | 5 => ("CommitIndex$Exchange", "toldRounds", "[I", true)
  | 6 => ("CommitIndex$Exchange", "tellings", "I", false)
  | 7 => ("CommitIndex$Exchange", "held", "I", false)
  | 8 => ("CommitIndex$Exchange", "pile", "J", false)
  | 9 => ("CommitIndex$Exchange", "been", "J", false)
  | 10 => ("CommitIndex$Exchange", "common", "J", false)
  | _ => ("CommitIndex$Exchange", "given", "J", false)
def tyX0 : Nat → FieldType := fun k => match k with
  | 0 => .long
  | 1 => .long
  | 2 => .int
  | 3 => .int
  | 4 => .array .int
  | 5 => .array .int
  | 6 => .int
  | 7 => .int
  | 8 => .long
  | 9 => .long
  | 10 => .long
  | _ => .long
abbrev wsX00 : List Cond := u_ws RX0 TX0 12
theorem nmX0 : ∀ a, a < 12 → ∀ b, b < 12 → a ≠ b → (TX0 a).2.1 ≠ (TX0 b).2.1 := by decide +kernel
theorem tyX0_ok : ∀ k, k < 12 → parseFieldDescriptor (TX0 k).2.2.1 = some (tyX0 k) := by decide +kernel
abbrev cX0_init : ByteArray := prog_2_method_1_code
def yX0_init : MethodName := ⟨RX0, "<init>", "()V"⟩
abbrev cX0_forget : ByteArray := prog_2_method_2_code
def yX0_forget : MethodName := ⟨RX0, "forget", "(I)V"⟩
abbrev cX0_talk : ByteArray := prog_2_method_3_code
def yX0_talk : MethodName := ⟨RX0, "talk", "(LCommitIndex$History;)V"⟩
abbrev cX0_tell : ByteArray := prog_2_method_4_code
def yX0_tell : MethodName := ⟨RX0, "tell", "(LCommitIndex$History;)V"⟩
abbrev cX0_answer : ByteArray := prog_2_method_5_code
def yX0_answer : MethodName := ⟨RX0, "answer", "(LCommitIndex$History;I)V"⟩
abbrev cX0_isServed : ByteArray := prog_2_method_6_code
def yX0_isServed : MethodName := ⟨RX0, "isServed", "(LCommitIndex$History;)Z"⟩
abbrev cX0_setOf : ByteArray := prog_2_method_7_code
def yX0_setOf : MethodName := ⟨RX0, "setOf", "(I)J"⟩
abbrev cX0_tellingPart : ByteArray := prog_2_method_8_code
def yX0_tellingPart : MethodName := ⟨RX0, "tellingPart", "(II)I"⟩
abbrev cX0_thingsSent : ByteArray := prog_2_method_9_code
def yX0_thingsSent : MethodName := ⟨RX0, "thingsSent", "(LCommitIndex$History;)I"⟩
def RX1 : String := "CommitIndex$History"
def TX1 : u_T := fun k => match k with
  | 0 => ("CommitIndex$History", "first", "[I", true)
  | 1 => ("CommitIndex$History", "second", "[I", true)
  | 2 => ("CommitIndex$History", "thingBits", "[I", true)
  | 3 => ("CommitIndex$History", "ranks", "[I", true)
  | 4 => ("CommitIndex$History", "reached", "[J", true)
  | 5 => ("CommitIndex$History", "layerSizes", "[I", true)
  | 6 => ("CommitIndex$History", "size", "I", false)
  | 7 => ("CommitIndex$History", "sealed", "I", false)
  | _ => ("CommitIndex$History", "layers", "I", false)
def tyX1 : Nat → FieldType := fun k => match k with
  | 0 => .array .int
  | 1 => .array .int
  | 2 => .array .int
  | 3 => .array .int
  | 4 => .array .long
  | 5 => .array .int
  | 6 => .int
  | 7 => .int
  | _ => .int
abbrev wsX10 : List Cond := u_ws RX1 TX1 9
theorem nmX1 : ∀ a, a < 9 → ∀ b, b < 9 → a ≠ b → (TX1 a).2.1 ≠ (TX1 b).2.1 := by decide +kernel
theorem tyX1_ok : ∀ k, k < 9 → parseFieldDescriptor (TX1 k).2.2.1 = some (tyX1 k) := by decide +kernel
abbrev cX1_init : ByteArray := prog_3_method_1_code
def yX1_init : MethodName := ⟨RX1, "<init>", "()V"⟩
abbrev cX1_holds : ByteArray := prog_3_method_2_code
def yX1_holds : MethodName := ⟨RX1, "holds", "(I)Z"⟩
abbrev cX1_isFull : ByteArray := prog_3_method_3_code
def yX1_isFull : MethodName := ⟨RX1, "isFull", "()Z"⟩
abbrev cX1_admits : ByteArray := prog_3_method_4_code
def yX1_admits : MethodName := ⟨RX1, "admits", "(III)Z"⟩
abbrev cX1_append : ByteArray := prog_3_method_5_code
def yX1_append : MethodName := ⟨RX1, "append", "(III)V"⟩
abbrev cX1_dropLast : ByteArray := prog_3_method_6_code
def yX1_dropLast : MethodName := ⟨RX1, "dropLast", "()V"⟩
abbrev cX1_sealRest : ByteArray := prog_3_method_7_code
def yX1_sealRest : MethodName := ⟨RX1, "sealRest", "()V"⟩
abbrev cX1_joinLayers : ByteArray := prog_3_method_8_code
def yX1_joinLayers : MethodName := ⟨RX1, "joinLayers", "()V"⟩
abbrev cX1_layerSize : ByteArray := prog_3_method_9_code
def yX1_layerSize : MethodName := ⟨RX1, "layerSize", "(I)I"⟩
abbrev cX1_firstParent : ByteArray := prog_3_method_10_code
def yX1_firstParent : MethodName := ⟨RX1, "firstParent", "(I)I"⟩
abbrev cX1_secondParent : ByteArray := prog_3_method_11_code
def yX1_secondParent : MethodName := ⟨RX1, "secondParent", "(I)I"⟩
abbrev cX1_parentsOf : ByteArray := prog_3_method_12_code
def yX1_parentsOf : MethodName := ⟨RX1, "parentsOf", "(I)J"⟩
abbrev cX1_childrenOf : ByteArray := prog_3_method_13_code
def yX1_childrenOf : MethodName := ⟨RX1, "childrenOf", "(I)I"⟩
abbrev cX1_rankOf : ByteArray := prog_3_method_14_code
def yX1_rankOf : MethodName := ⟨RX1, "rankOf", "(I)I"⟩
abbrev cX1_generationOf : ByteArray := prog_3_method_15_code
def yX1_generationOf : MethodName := ⟨RX1, "generationOf", "(I)I"⟩
abbrev cX1_reachOf : ByteArray := prog_3_method_16_code
def yX1_reachOf : MethodName := ⟨RX1, "reachOf", "(I)J"⟩
abbrev cX1_reachOfAll : ByteArray := prog_3_method_17_code
def yX1_reachOfAll : MethodName := ⟨RX1, "reachOfAll", "(J)J"⟩
abbrev cX1_tipsOf : ByteArray := prog_3_method_18_code
def yX1_tipsOf : MethodName := ⟨RX1, "tipsOf", "(J)J"⟩
abbrev cX1_thingsOf : ByteArray := prog_3_method_19_code
def yX1_thingsOf : MethodName := ⟨RX1, "thingsOf", "(J)I"⟩
abbrev cX1_fromGeneration : ByteArray := prog_3_method_20_code
def yX1_fromGeneration : MethodName := ⟨RX1, "fromGeneration", "(I)J"⟩
abbrev cX1_topByGeneration : ByteArray := prog_3_method_21_code
def yX1_topByGeneration : MethodName := ⟨RX1, "topByGeneration", "(J)I"⟩
abbrev cX1_topByRank : ByteArray := prog_3_method_22_code
def yX1_topByRank : MethodName := ⟨RX1, "topByRank", "(J)I"⟩
def RX2 : String := "CommitIndex$KeptSets"
def TX2 : u_T := fun k => match k with
  | 0 => ("CommitIndex$KeptSets", "every", "I", false)
  | 1 => ("CommitIndex$KeptSets", "looked", "I", false)
  | 2 => ("CommitIndex$KeptSets", "used", "I", false)
  | _ => ("CommitIndex$KeptSets", "found", "J", false)
def tyX2 : Nat → FieldType := fun k => match k with
  | 0 => .int
  | 1 => .int
  | 2 => .int
  | _ => .long
abbrev wsX20 : List Cond := u_ws RX2 TX2 4
theorem nmX2 : ∀ a, a < 4 → ∀ b, b < 4 → a ≠ b → (TX2 a).2.1 ≠ (TX2 b).2.1 := by decide +kernel
theorem tyX2_ok : ∀ k, k < 4 → parseFieldDescriptor (TX2 k).2.2.1 = some (tyX2 k) := by decide +kernel
abbrev cX2_init : ByteArray := prog_4_method_1_code
def yX2_init : MethodName := ⟨RX2, "<init>", "()V"⟩
abbrev cX2_isKept : ByteArray := prog_4_method_2_code
def yX2_isKept : MethodName := ⟨RX2, "isKept", "(I)Z"⟩
abbrev cX2_rootOf : ByteArray := prog_4_method_3_code
def yX2_rootOf : MethodName := ⟨RX2, "rootOf", "(LCommitIndex$History;I)I"⟩
abbrev cX2_shareSize : ByteArray := prog_4_method_4_code
def yX2_shareSize : MethodName := ⟨RX2, "shareSize", "(LCommitIndex$History;I)I"⟩
abbrev cX2_rootsBehind : ByteArray := prog_4_method_5_code
def yX2_rootsBehind : MethodName := ⟨RX2, "rootsBehind", "(LCommitIndex$History;I)I"⟩
abbrev cX2_descend : ByteArray := prog_4_method_6_code
def yX2_descend : MethodName := ⟨RX2, "descend", "(LCommitIndex$History;I)V"⟩
def RX3 : String := "CommitIndex$Looking"
def TX3 : u_T := fun k => match k with
  | 0 => ("CommitIndex$Looking", "order", "[I", true)
  | 1 => ("CommitIndex$Looking", "looked", "I", false)
  | _ => ("CommitIndex$Looking", "met", "Z", false)
def tyX3 : Nat → FieldType := fun k => match k with
  | 0 => .array .int
  | 1 => .int
  | _ => .boolean
abbrev wsX30 : List Cond := u_ws RX3 TX3 3
theorem nmX3 : ∀ a, a < 3 → ∀ b, b < 3 → a ≠ b → (TX3 a).2.1 ≠ (TX3 b).2.1 := by decide +kernel
theorem tyX3_ok : ∀ k, k < 3 → parseFieldDescriptor (TX3 k).2.2.1 = some (tyX3 k) := by decide +kernel
abbrev cX3_init : ByteArray := prog_5_method_1_code
def yX3_init : MethodName := ⟨RX3, "<init>", "()V"⟩
abbrev cX3_search : ByteArray := prog_5_method_2_code
def yX3_search : MethodName := ⟨RX3, "search", "(LCommitIndex$History;IIZ)V"⟩
abbrev cX3_lookedAt : ByteArray := prog_5_method_3_code
def yX3_lookedAt : MethodName := ⟨RX3, "lookedAt", "(I)I"⟩
def RX4 : String := "CommitIndex$Painting"
def TX4 : u_T := fun k => match k with
  | 0 => ("CommitIndex$Painting", "one", "J", false)
  | 1 => ("CommitIndex$Painting", "two", "J", false)
  | 2 => ("CommitIndex$Painting", "stale", "J", false)
  | 3 => ("CommitIndex$Painting", "pile", "J", false)
  | 4 => ("CommitIndex$Painting", "been", "J", false)
  | 5 => ("CommitIndex$Painting", "found", "J", false)
  | _ => ("CommitIndex$Painting", "looked", "I", false)
def tyX4 : Nat → FieldType := fun k => match k with
  | 0 => .long
  | 1 => .long
  | 2 => .long
  | 3 => .long
  | 4 => .long
  | 5 => .long
  | _ => .int
abbrev wsX40 : List Cond := u_ws RX4 TX4 7
theorem nmX4 : ∀ a, a < 7 → ∀ b, b < 7 → a ≠ b → (TX4 a).2.1 ≠ (TX4 b).2.1 := by decide +kernel
theorem tyX4_ok : ∀ k, k < 7 → parseFieldDescriptor (TX4 k).2.2.1 = some (tyX4 k) := by decide +kernel
abbrev cX4_init : ByteArray := prog_6_method_1_code
def yX4_init : MethodName := ⟨RX4, "<init>", "()V"⟩
abbrev cX4_paint : ByteArray := prog_6_method_2_code
def yX4_paint : MethodName := ⟨RX4, "paint", "(LCommitIndex$History;II)V"⟩
abbrev cX4_passOn : ByteArray := prog_6_method_3_code
def yX4_passOn : MethodName := ⟨RX4, "passOn", "(IJ)V"⟩
def RX5 : String := "CommitIndex$Paths"
def TX5 : u_T := fun k => match k with
  | 0 => ("CommitIndex$Paths", "ways", "[J", true)
  | _ => ("CommitIndex$Paths", "steps", "[I", true)
def tyX5 : Nat → FieldType := fun k => match k with
  | 0 => .array .long
  | _ => .array .int
abbrev wsX50 : List Cond := u_ws RX5 TX5 2
theorem nmX5 : ∀ a, a < 2 → ∀ b, b < 2 → a ≠ b → (TX5 a).2.1 ≠ (TX5 b).2.1 := by decide +kernel
theorem tyX5_ok : ∀ k, k < 2 → parseFieldDescriptor (TX5 k).2.2.1 = some (tyX5 k) := by decide +kernel
abbrev cX5_init : ByteArray := prog_7_method_1_code
def yX5_init : MethodName := ⟨RX5, "<init>", "()V"⟩
abbrev cX5_trace : ByteArray := prog_7_method_2_code
def yX5_trace : MethodName := ⟨RX5, "trace", "(LCommitIndex$History;I)V"⟩
abbrev cX5_passOn : ByteArray := prog_7_method_3_code
def yX5_passOn : MethodName := ⟨RX5, "passOn", "(II)V"⟩
abbrev cX5_waysTo : ByteArray := prog_7_method_4_code
def yX5_waysTo : MethodName := ⟨RX5, "waysTo", "(I)J"⟩
abbrev cX5_stepsTo : ByteArray := prog_7_method_5_code
def yX5_stepsTo : MethodName := ⟨RX5, "stepsTo", "(I)I"⟩
def RX6 : String := "CommitIndex$Sheet"
def TX6 : u_T := fun k => match k with
  | 0 => ("CommitIndex$Sheet", "items", "[I", true)
  | 1 => ("CommitIndex$Sheet", "form", "I", false)
  | _ => ("CommitIndex$Sheet", "length", "I", false)
def tyX6 : Nat → FieldType := fun k => match k with
  | 0 => .array .int
  | 1 => .int
  | _ => .int
abbrev wsX60 : List Cond := u_ws RX6 TX6 3
theorem nmX6 : ∀ a, a < 3 → ∀ b, b < 3 → a ≠ b → (TX6 a).2.1 ≠ (TX6 b).2.1 := by decide +kernel
theorem tyX6_ok : ∀ k, k < 3 → parseFieldDescriptor (TX6 k).2.2.1 = some (tyX6 k) := by decide +kernel
abbrev cX6_init : ByteArray := prog_8_method_1_code
def yX6_init : MethodName := ⟨RX6, "<init>", "()V"⟩
abbrev cX6_isLost : ByteArray := prog_8_method_2_code
def yX6_isLost : MethodName := ⟨RX6, "isLost", "()Z"⟩
abbrev cX6_renew : ByteArray := prog_8_method_3_code
def yX6_renew : MethodName := ⟨RX6, "renew", "(II)V"⟩
abbrev cX6_faultAt : ByteArray := prog_8_method_4_code
def yX6_faultAt : MethodName := ⟨RX6, "faultAt", "(II)I"⟩
abbrev cX6_hasItem : ByteArray := prog_8_method_5_code
def yX6_hasItem : MethodName := ⟨RX6, "hasItem", "(I)Z"⟩
abbrev cX6_hasRun : ByteArray := prog_8_method_6_code
def yX6_hasRun : MethodName := ⟨RX6, "hasRun", "(II)Z"⟩
abbrev cX6_itemAt : ByteArray := prog_8_method_7_code
def yX6_itemAt : MethodName := ⟨RX6, "itemAt", "(I)I"⟩
abbrev cX6_store : ByteArray := prog_8_method_8_code
def yX6_store : MethodName := ⟨RX6, "store", "(II)V"⟩
abbrev cX6_narrowed : ByteArray := prog_8_method_9_code
def yX6_narrowed : MethodName := ⟨RX6, "narrowed", "(I)I"⟩
def RX7 : String := "CommitIndex"
def TX7 : u_T := fun k => match k with
  | 0 => ("CommitIndex", "history", "LCommitIndex$History;", true)
  | 1 => ("CommitIndex", "looking", "LCommitIndex$Looking;", true)
  | 2 => ("CommitIndex", "painting", "LCommitIndex$Painting;", true)
  | 3 => ("CommitIndex", "paths", "LCommitIndex$Paths;", true)
  | 4 => ("CommitIndex", "keptSets", "LCommitIndex$KeptSets;", true)
  | 5 => ("CommitIndex", "exchange", "LCommitIndex$Exchange;", true)
  | 6 => ("CommitIndex", "rows", "[LCommitIndex$Sheet;", true)
  | _ => ("CommitIndex", "latestFinding", "I", false)
def tyX7 : Nat → FieldType := fun k => match k with
  | 0 => .object "CommitIndex$History"
  | 1 => .object "CommitIndex$Looking"
  | 2 => .object "CommitIndex$Painting"
  | 3 => .object "CommitIndex$Paths"
  | 4 => .object "CommitIndex$KeptSets"
  | 5 => .object "CommitIndex$Exchange"
  | 6 => .array (.object "CommitIndex$Sheet")
  | _ => .int
abbrev wsX70 : List Cond := u_ws RX7 TX7 8
theorem nmX7 : ∀ a, a < 8 → ∀ b, b < 8 → a ≠ b → (TX7 a).2.1 ≠ (TX7 b).2.1 := by decide +kernel
theorem tyX7_ok : ∀ k, k < 8 → parseFieldDescriptor (TX7 k).2.2.1 = some (tyX7 k) := by decide +kernel
abbrev cX7_init : ByteArray := prog_1_method_1_code
def yX7_init : MethodName := ⟨RX7, "<init>", "()V"⟩
abbrev cX7_add : ByteArray := prog_1_method_2_code
def yX7_add : MethodName := ⟨RX7, "add", "(III)I"⟩
abbrev cX7_back : ByteArray := prog_1_method_3_code
def yX7_back : MethodName := ⟨RX7, "back", "()I"⟩
abbrev cX7_read : ByteArray := prog_1_method_4_code
def yX7_read : MethodName := ⟨RX7, "read", "(I)I"⟩
abbrev cX7_seal : ByteArray := prog_1_method_5_code
def yX7_seal : MethodName := ⟨RX7, "seal", "()I"⟩
abbrev cX7_layer : ByteArray := prog_1_method_6_code
def yX7_layer : MethodName := ⟨RX7, "layer", "(I)I"⟩
abbrev cX7_set : ByteArray := prog_1_method_7_code
def yX7_set : MethodName := ⟨RX7, "set", "(II)I"⟩
abbrev cX7_commit : ByteArray := prog_1_method_8_code
def yX7_commit : MethodName := ⟨RX7, "commit", "(II)I"⟩
abbrev cX7_reach : ByteArray := prog_1_method_9_code
def yX7_reach : MethodName := ⟨RX7, "reach", "(I)J"⟩
abbrev cX7_look : ByteArray := prog_1_method_10_code
def yX7_look : MethodName := ⟨RX7, "look", "(III)I"⟩
abbrev cX7_bases : ByteArray := prog_1_method_11_code
def yX7_bases : MethodName := ⟨RX7, "bases", "(II)J"⟩
abbrev cX7_paints : ByteArray := prog_1_method_12_code
def yX7_paints : MethodName := ⟨RX7, "paints", "(II)I"⟩
abbrev cX7_ways : ByteArray := prog_1_method_13_code
def yX7_ways : MethodName := ⟨RX7, "ways", "(II)J"⟩
abbrev cX7_far : ByteArray := prog_1_method_14_code
def yX7_far : MethodName := ⟨RX7, "far", "(II)I"⟩
abbrev cX7_kept : ByteArray := prog_1_method_15_code
def yX7_kept : MethodName := ⟨RX7, "kept", "(II)I"⟩
abbrev cX7_walk : ByteArray := prog_1_method_16_code
def yX7_walk : MethodName := ⟨RX7, "walk", "(II)I"⟩
abbrev cX7_walkPart : ByteArray := prog_1_method_17_code
def yX7_walkPart : MethodName := ⟨RX7, "walkPart", "(I)I"⟩
abbrev cX7_has : ByteArray := prog_1_method_18_code
def yX7_has : MethodName := ⟨RX7, "has", "(I)I"⟩
abbrev cX7_want : ByteArray := prog_1_method_19_code
def yX7_want : MethodName := ⟨RX7, "want", "(I)I"⟩
abbrev cX7_clear : ByteArray := prog_1_method_20_code
def yX7_clear : MethodName := ⟨RX7, "clear", "(I)I"⟩
abbrev cX7_sets : ByteArray := prog_1_method_21_code
def yX7_sets : MethodName := ⟨RX7, "sets", "(I)J"⟩
abbrev cX7_rounds : ByteArray := prog_1_method_22_code
def yX7_rounds : MethodName := ⟨RX7, "rounds", "()I"⟩
abbrev cX7_told : ByteArray := prog_1_method_23_code
def yX7_told : MethodName := ⟨RX7, "told", "(II)I"⟩
abbrev cX7_things : ByteArray := prog_1_method_24_code
def yX7_things : MethodName := ⟨RX7, "things", "()I"⟩
abbrev cX7_sheet : ByteArray := prog_1_method_25_code
def yX7_sheet : MethodName := ⟨RX7, "sheet", "(III)I"⟩
abbrev cX7_lose : ByteArray := prog_1_method_26_code
def yX7_lose : MethodName := ⟨RX7, "lose", "(I)I"⟩
abbrev cX7_lay : ByteArray := prog_1_method_27_code
def yX7_lay : MethodName := ⟨RX7, "lay", "(IIII)I"⟩
abbrev cX7_get : ByteArray := prog_1_method_28_code
def yX7_get : MethodName := ⟨RX7, "get", "(III)I"⟩
abbrev cX7_copy : ByteArray := prog_1_method_29_code
def yX7_copy : MethodName := ⟨RX7, "copy", "(IIIII)I"⟩
abbrev cX7_write : ByteArray := prog_1_method_30_code
def yX7_write : MethodName := ⟨RX7, "write", "(III)I"⟩
abbrev cX7_count : ByteArray := prog_1_method_31_code
def yX7_count : MethodName := ⟨RX7, "count", "(I)I"⟩
abbrev cX7_digest : ByteArray := prog_1_method_32_code
def yX7_digest : MethodName := ⟨RX7, "digest", "()J"⟩
abbrev cX7_countPart : ByteArray := prog_1_method_33_code
def yX7_countPart : MethodName := ⟨RX7, "countPart", "(I)I"⟩
abbrev cX7_mixCounts : ByteArray := prog_1_method_34_code
def yX7_mixCounts : MethodName := ⟨RX7, "mixCounts", "(J)J"⟩
abbrev cX7_mixCommit : ByteArray := prog_1_method_35_code
def yX7_mixCommit : MethodName := ⟨RX7, "mixCommit", "(JI)J"⟩
abbrev cX7_mixKept : ByteArray := prog_1_method_36_code
def yX7_mixKept : MethodName := ⟨RX7, "mixKept", "(JI)J"⟩
abbrev cX7_mixPairs : ByteArray := prog_1_method_37_code
def yX7_mixPairs : MethodName := ⟨RX7, "mixPairs", "(JII)J"⟩
abbrev cX7_mixExchange : ByteArray := prog_1_method_38_code
def yX7_mixExchange : MethodName := ⟨RX7, "mixExchange", "(J)J"⟩
abbrev cX7_finding : ByteArray := prog_1_method_39_code
def yX7_finding : MethodName := ⟨RX7, "finding", "(I)I"⟩
abbrev cX7_sheetAt : ByteArray := prog_1_method_40_code
def yX7_sheetAt : MethodName := ⟨RX7, "sheetAt", "(I)LCommitIndex$Sheet;"⟩
abbrev cX7_isForm : ByteArray := prog_1_method_41_code
def yX7_isForm : MethodName := ⟨RX7, "isForm", "(I)Z"⟩
abbrev cX7_mix : ByteArray := prog_1_method_42_code
def yX7_mix : MethodName := ⟨RX7, "mix", "(JJ)J"⟩
abbrev cX7_bit : ByteArray := prog_1_method_43_code
def yX7_bit : MethodName := ⟨RX7, "bit", "(I)J"⟩
abbrev cX7_isIn : ByteArray := prog_1_method_44_code
def yX7_isIn : MethodName := ⟨RX7, "isIn", "(JI)Z"⟩
abbrev cX7_greatestIn : ByteArray := prog_1_method_45_code
def yX7_greatestIn : MethodName := ⟨RX7, "greatestIn", "(J)I"⟩
def RX8 : String := "CommitIndexModel"
def TX8 : u_T := fun k => match k with
  | 0 => ("CommitIndexModel", "forms", "[I", true)
  | 1 => ("CommitIndexModel", "sizes", "[I", true)
  | 2 => ("CommitIndexModel", "items", "[I", true)
  | 3 => ("CommitIndexModel", "moved", "[I", true)
  | 4 => ("CommitIndexModel", "latest", "I", false)
  | 5 => ("CommitIndexModel", "commits", "I", false)
  | 6 => ("CommitIndexModel", "first", "[I", true)
  | 7 => ("CommitIndexModel", "second", "[I", true)
  | 8 => ("CommitIndexModel", "rank", "[I", true)
  | 9 => ("CommitIndexModel", "things", "[I", true)
  | 10 => ("CommitIndexModel", "sealed", "I", false)
  | 11 => ("CommitIndexModel", "layers", "I", false)
  | 12 => ("CommitIndexModel", "layer", "[I", true)
  | 13 => ("CommitIndexModel", "every", "I", false)
  | 14 => ("CommitIndexModel", "per", "I", false)
  | 15 => ("CommitIndexModel", "haste", "I", false)
  | 16 => ("CommitIndexModel", "had", "J", false)
  | 17 => ("CommitIndexModel", "wanted", "J", false)
  | 18 => ("CommitIndexModel", "looked", "[I", true)
  | 19 => ("CommitIndexModel", "painted", "I", false)
  | 20 => ("CommitIndexModel", "many", "[J", true)
  | 21 => ("CommitIndexModel", "steps", "[I", true)
  | 22 => ("CommitIndexModel", "rounds", "I", false)
  | 23 => ("CommitIndexModel", "tells", "I", false)
  | 24 => ("CommitIndexModel", "told", "[I", true)
  | 25 => ("CommitIndexModel", "answer", "[I", true)
  | 26 => ("CommitIndexModel", "round", "[I", true)
  | 27 => ("CommitIndexModel", "common", "J", false)
  | 28 => ("CommitIndexModel", "given", "J", false)
  | 29 => ("CommitIndexModel", "pileNow", "J", false)
  | _ => ("CommitIndexModel", "everNow", "J", false)
def tyX8 : Nat → FieldType := fun k => match k with
  | 0 => .array .int
  | 1 => .array .int
  | 2 => .array .int
  | 3 => .array .int
  | 4 => .int
  | 5 => .int
  | 6 => .array .int
  | 7 => .array .int
  | 8 => .array .int
  | 9 => .array .int
  | 10 => .int
  | 11 => .int
  | 12 => .array .int
  | 13 => .int
  | 14 => .int
  | 15 => .int
  | 16 => .long
  | 17 => .long
  | 18 => .array .int
  | 19 => .int
  | 20 => .array .long
  | 21 => .array .int
  | 22 => .int
  | 23 => .int
  | 24 => .array .int
  | 25 => .array .int
  | 26 => .array .int
  | 27 => .long
  | 28 => .long
  | 29 => .long
  | _ => .long
abbrev wsX80 : List Cond := u_ws RX8 TX8 31
theorem nmX8 : ∀ a, a < 31 → ∀ b, b < 31 → a ≠ b → (TX8 a).2.1 ≠ (TX8 b).2.1 := by decide +kernel
theorem tyX8_ok : ∀ k, k < 31 → parseFieldDescriptor (TX8 k).2.2.1 = some (tyX8 k) := by decide +kernel
abbrev cX8_init : ByteArray := prog_10_method_1_code
def yX8_init : MethodName := ⟨RX8, "<init>", "()V"⟩
abbrev cX8_in : ByteArray := prog_10_method_3_code
def yX8_in : MethodName := ⟨RX8, "in", "(JJJ)Z"⟩
abbrev cX8_no : ByteArray := prog_10_method_4_code
def yX8_no : MethodName := ⟨RX8, "no", "(I)J"⟩
abbrev cX8_isTwo : ByteArray := prog_10_method_5_code
def yX8_isTwo : MethodName := ⟨RX8, "isTwo", "(I)Z"⟩
abbrev cX8_lesser : ByteArray := prog_10_method_7_code
def yX8_lesser : MethodName := ⟨RX8, "lesser", "(II)I"⟩
abbrev cX8_greater : ByteArray := prog_10_method_8_code
def yX8_greater : MethodName := ⟨RX8, "greater", "(II)I"⟩
abbrev cX8_finds : ByteArray := prog_10_method_10_code
def yX8_finds : MethodName := ⟨RX8, "finds", "(I)I"⟩
abbrev cX8_isSheet : ByteArray := prog_10_method_11_code
def yX8_isSheet : MethodName := ⟨RX8, "isSheet", "(I)Z"⟩
abbrev cX8_sheet : ByteArray := prog_10_method_12_code
def yX8_sheet : MethodName := ⟨RX8, "sheet", "(III)I"⟩
abbrev cX8_lose : ByteArray := prog_10_method_13_code
def yX8_lose : MethodName := ⟨RX8, "lose", "(I)I"⟩
abbrev cX8_lacks : ByteArray := prog_10_method_14_code
def yX8_lacks : MethodName := ⟨RX8, "lacks", "(III)I"⟩
abbrev cX8_cut : ByteArray := prog_10_method_15_code
def yX8_cut : MethodName := ⟨RX8, "cut", "(II)I"⟩
abbrev cX8_lay : ByteArray := prog_10_method_16_code
def yX8_lay : MethodName := ⟨RX8, "lay", "(IIII)I"⟩
abbrev cX8_get : ByteArray := prog_10_method_17_code
def yX8_get : MethodName := ⟨RX8, "get", "(III)I"⟩
abbrev cX8_copy : ByteArray := prog_10_method_18_code
def yX8_copy : MethodName := ⟨RX8, "copy", "(IIIII)I"⟩
abbrev cX8_isCommit : ByteArray := prog_10_method_19_code
def yX8_isCommit : MethodName := ⟨RX8, "isCommit", "(I)Z"⟩
abbrev cX8_holds : ByteArray := prog_10_method_20_code
def yX8_holds : MethodName := ⟨RX8, "holds", "(JI)Z"⟩
abbrev cX8_manyOf : ByteArray := prog_10_method_21_code
def yX8_manyOf : MethodName := ⟨RX8, "manyOf", "(J)I"⟩
abbrev cX8_isNew : ByteArray := prog_10_method_22_code
def yX8_isNew : MethodName := ⟨RX8, "isNew", "(III)Z"⟩
abbrev cX8_add : ByteArray := prog_10_method_23_code
def yX8_add : MethodName := ⟨RX8, "add", "(III)I"⟩
abbrev cX8_back : ByteArray := prog_10_method_24_code
def yX8_back : MethodName := ⟨RX8, "back", "()I"⟩
abbrev cX8_read : ByteArray := prog_10_method_25_code
def yX8_read : MethodName := ⟨RX8, "read", "(I)I"⟩
abbrev cX8_seal : ByteArray := prog_10_method_26_code
def yX8_seal : MethodName := ⟨RX8, "seal", "()I"⟩
abbrev cX8_layerBy : ByteArray := prog_10_method_27_code
def yX8_layerBy : MethodName := ⟨RX8, "layerBy", "(I)I"⟩
abbrev cX8_layer : ByteArray := prog_10_method_28_code
def yX8_layer : MethodName := ⟨RX8, "layer", "(I)I"⟩
abbrev cX8_set : ByteArray := prog_10_method_29_code
def yX8_set : MethodName := ⟨RX8, "set", "(II)I"⟩
abbrev cX8_generation : ByteArray := prog_10_method_30_code
def yX8_generation : MethodName := ⟨RX8, "generation", "(I)I"⟩
abbrev cX8_children : ByteArray := prog_10_method_31_code
def yX8_children : MethodName := ⟨RX8, "children", "(I)I"⟩
abbrev cX8_commitBy : ByteArray := prog_10_method_32_code
def yX8_commitBy : MethodName := ⟨RX8, "commitBy", "(II)I"⟩
abbrev cX8_commit : ByteArray := prog_10_method_33_code
def yX8_commit : MethodName := ⟨RX8, "commit", "(II)I"⟩
abbrev cX8_parent : ByteArray := prog_10_method_34_code
def yX8_parent : MethodName := ⟨RX8, "parent", "(II)I"⟩
abbrev cX8_reachOf : ByteArray := prog_10_method_35_code
def yX8_reachOf : MethodName := ⟨RX8, "reachOf", "(I)J"⟩
abbrev cX8_reach : ByteArray := prog_10_method_36_code
def yX8_reach : MethodName := ⟨RX8, "reach", "(I)J"⟩
abbrev cX8_next : ByteArray := prog_10_method_37_code
def yX8_next : MethodName := ⟨RX8, "next", "(J)I"⟩
abbrev cX8_looks : ByteArray := prog_10_method_38_code
def yX8_looks : MethodName := ⟨RX8, "looks", "(III)I"⟩
abbrev cX8_lookBy : ByteArray := prog_10_method_39_code
def yX8_lookBy : MethodName := ⟨RX8, "lookBy", "(III)I"⟩
abbrev cX8_look : ByteArray := prog_10_method_40_code
def yX8_look : MethodName := ⟨RX8, "look", "(III)I"⟩
abbrev cX8_basesOf : ByteArray := prog_10_method_41_code
def yX8_basesOf : MethodName := ⟨RX8, "basesOf", "(II)J"⟩
abbrev cX8_bases : ByteArray := prog_10_method_42_code
def yX8_bases : MethodName := ⟨RX8, "bases", "(II)J"⟩
abbrev cX8_paintsOf : ByteArray := prog_10_method_43_code
def yX8_paintsOf : MethodName := ⟨RX8, "paintsOf", "(II)I"⟩
abbrev cX8_paints : ByteArray := prog_10_method_44_code
def yX8_paints : MethodName := ⟨RX8, "paints", "(II)I"⟩
abbrev cX8_goesDown : ByteArray := prog_10_method_45_code
def yX8_goesDown : MethodName := ⟨RX8, "goesDown", "(I)V"⟩
abbrev cX8_waysOf : ByteArray := prog_10_method_46_code
def yX8_waysOf : MethodName := ⟨RX8, "waysOf", "(II)J"⟩
abbrev cX8_ways : ByteArray := prog_10_method_47_code
def yX8_ways : MethodName := ⟨RX8, "ways", "(II)J"⟩
abbrev cX8_farOf : ByteArray := prog_10_method_48_code
def yX8_farOf : MethodName := ⟨RX8, "farOf", "(II)I"⟩
abbrev cX8_far : ByteArray := prog_10_method_49_code
def yX8_far : MethodName := ⟨RX8, "far", "(II)I"⟩
abbrev cX8_isKept : ByteArray := prog_10_method_50_code
def yX8_isKept : MethodName := ⟨RX8, "isKept", "(I)Z"⟩
abbrev cX8_rootOf : ByteArray := prog_10_method_51_code
def yX8_rootOf : MethodName := ⟨RX8, "rootOf", "(I)I"⟩
abbrev cX8_shareOf : ByteArray := prog_10_method_52_code
def yX8_shareOf : MethodName := ⟨RX8, "shareOf", "(I)I"⟩
abbrev cX8_rootsOf : ByteArray := prog_10_method_53_code
def yX8_rootsOf : MethodName := ⟨RX8, "rootsOf", "(I)I"⟩
abbrev cX8_keptBy : ByteArray := prog_10_method_54_code
def yX8_keptBy : MethodName := ⟨RX8, "keptBy", "(II)I"⟩
abbrev cX8_kept : ByteArray := prog_10_method_55_code
def yX8_kept : MethodName := ⟨RX8, "kept", "(II)I"⟩
abbrev cX8_walkBy : ByteArray := prog_10_method_56_code
def yX8_walkBy : MethodName := ⟨RX8, "walkBy", "(II)I"⟩
abbrev cX8_walk : ByteArray := prog_10_method_57_code
def yX8_walk : MethodName := ⟨RX8, "walk", "(II)I"⟩
abbrev cX8_has : ByteArray := prog_10_method_58_code
def yX8_has : MethodName := ⟨RX8, "has", "(I)I"⟩
abbrev cX8_want : ByteArray := prog_10_method_59_code
def yX8_want : MethodName := ⟨RX8, "want", "(I)I"⟩
abbrev cX8_clear : ByteArray := prog_10_method_60_code
def yX8_clear : MethodName := ⟨RX8, "clear", "(I)I"⟩
abbrev cX8_reachAll : ByteArray := prog_10_method_61_code
def yX8_reachAll : MethodName := ⟨RX8, "reachAll", "(J)J"⟩
abbrev cX8_heads : ByteArray := prog_10_method_62_code
def yX8_heads : MethodName := ⟨RX8, "heads", "()J"⟩
abbrev cX8_nextTold : ByteArray := prog_10_method_63_code
def yX8_nextTold : MethodName := ⟨RX8, "nextTold", "()I"⟩
abbrev cX8_answers : ByteArray := prog_10_method_64_code
def yX8_answers : MethodName := ⟨RX8, "answers", "(I)V"⟩
abbrev cX8_isEnough : ByteArray := prog_10_method_65_code
def yX8_isEnough : MethodName := ⟨RX8, "isEnough", "()Z"⟩
abbrev cX8_talks : ByteArray := prog_10_method_66_code
def yX8_talks : MethodName := ⟨RX8, "talks", "()V"⟩
abbrev cX8_setBy : ByteArray := prog_10_method_67_code
def yX8_setBy : MethodName := ⟨RX8, "setBy", "(I)J"⟩
abbrev cX8_sets : ByteArray := prog_10_method_68_code
def yX8_sets : MethodName := ⟨RX8, "sets", "(I)J"⟩
abbrev cX8_rounds : ByteArray := prog_10_method_69_code
def yX8_rounds : MethodName := ⟨RX8, "rounds", "()I"⟩
abbrev cX8_toldBy : ByteArray := prog_10_method_70_code
def yX8_toldBy : MethodName := ⟨RX8, "toldBy", "(II)I"⟩
abbrev cX8_told : ByteArray := prog_10_method_71_code
def yX8_told : MethodName := ⟨RX8, "told", "(II)I"⟩
abbrev cX8_thingsNow : ByteArray := prog_10_method_72_code
def yX8_thingsNow : MethodName := ⟨RX8, "thingsNow", "()I"⟩
abbrev cX8_things : ByteArray := prog_10_method_73_code
def yX8_things : MethodName := ⟨RX8, "things", "()I"⟩
abbrev cX8_write : ByteArray := prog_10_method_74_code
def yX8_write : MethodName := ⟨RX8, "write", "(III)I"⟩
abbrev cX8_count : ByteArray := prog_10_method_75_code
def yX8_count : MethodName := ⟨RX8, "count", "(I)I"⟩
abbrev cX8_tellsCommit : ByteArray := prog_10_method_76_code
def yX8_tellsCommit : MethodName := ⟨RX8, "tellsCommit", "(JII)J"⟩
abbrev cX8_digest : ByteArray := prog_10_method_77_code
def yX8_digest : MethodName := ⟨RX8, "digest", "()J"⟩
def RJ13 : String := "java/lang/Long"
abbrev cJ13_bitCount_95d88 : ByteArray := prog_11_method_50_code
def yJ13_bitCount_95d88 : MethodName := ⟨RJ13, "bitCount", "(J)I"⟩
def RL : String := "CommitIndexLaw"
abbrev cL_law : ByteArray := code
def yL_law : MethodName := ⟨RL, "law", "([I)Z"⟩
abbrev vwCl : List vw_C := [(RX0, TX0, 12), (RX1, TX1, 9), (RX2, TX2, 4), (RX3, TX3, 3), (RX4, TX4, 7), (RX5, TX5, 2), (RX6, TX6, 3), (RX7, TX7, 8), (RX8, TX8, 31)]
end
section
/-! A MACHINE IN SMALL: a function over the bytecode itself, on a heap of which only the contents are told; its laws ('Ev') are equations. -/
abbrev mL : Type := List (Option Value)
abbrev mH : Type := (Nat → Nat → Int32) × (Nat → Nat → Int64)
def gI (h : mH) (k j : Nat) : Int32 := h.1 k j
def gJ (h : mH) (k j : Nat) : Int64 := h.2 k j
def sI (h : mH) (k j : Nat) (x : Int32) : mH := (fun a b => if a = k ∧ b = j then x else h.1 a b, h.2)
def sJ (h : mH) (k j : Nat) (x : Int64) : mH := (h.1, fun a b => if a = k ∧ b = j then x else h.2 a b)
def cpI (h : mH) (a sp b dp n : Nat) : mH := (fun p q => if p = b ∧ dp ≤ q ∧ q < dp + n then h.1 a (sp + (q - dp)) else h.1 p q, h.2)
theorem gI_sI (h : mH) (k j : Nat) (x : Int32) (a b : Nat) : gI (sI h k j x) a b = if a = k ∧ b = j then x else gI h a b := rfl
theorem gJ_sJ (h : mH) (k j : Nat) (x : Int64) (a b : Nat) : gJ (sJ h k j x) a b = if a = k ∧ b = j then x else gJ h a b := rfl
theorem gI_sJ (h : mH) (k j : Nat) (x : Int64) (a b : Nat) : gI (sJ h k j x) a b = gI h a b := rfl
theorem gJ_sI (h : mH) (k j : Nat) (x : Int32) (a b : Nat) : gJ (sI h k j x) a b = gJ h a b := rfl
theorem gJ_cpI (h : mH) (k sp l dp n : Nat) (a b : Nat) : gJ (cpI h k sp l dp n) a b = gJ h a b := rfl
theorem gI_cpI (h : mH) (k sp l dp n : Nat) (a b : Nat) : gI (cpI h k sp l dp n) a b = if a = l ∧ dp ≤ b ∧ b < dp + n then gI h k (sp + (b - dp)) else gI h a b := rfl
theorem gI_same (h : mH) (k j : Nat) (x : Int32) : gI (sI h k j x) k j = x := by simp [gI_sI]
theorem gI_else {h : mH} {k j : Nat} {x : Int32} {a b : Nat} (q : ¬ (a = k ∧ b = j)) : gI (sI h k j x) a b = gI h a b := by rw [gI_sI, if_neg q]
theorem gJ_same (h : mH) (k j : Nat) (x : Int64) : gJ (sJ h k j x) k j = x := by simp [gJ_sJ]
theorem gJ_else {h : mH} {k j : Nat} {x : Int64} {a b : Nat} (q : ¬ (a = k ∧ b = j)) : gJ (sJ h k j x) a b = gJ h a b := by rw [gJ_sJ, if_neg q]
/-- places: (0, class) an object, (1, n) ints, (2, n) longs, (3, n) sheets -/
def shpL : List (Nat × Nat) := [(0, 7), (0, 1), (1, 40), (1, 40), (1, 40), (1, 40), (2, 40), (1, 40), (0, 3), (1, 40), (0, 4), (0, 5), (2, 40), (1, 40), (0, 2), (0, 0), (1, 40), (1, 40), (3, 4), (0, 6), (0, 6), (0, 6), (0, 6), (1, 60), (1, 60), (1, 60), (1, 60), (0, 8), (1, 4), (1, 4), (1, 240), (1, 60), (1, 40), (1, 40), (1, 40), (1, 40), (1, 40), (1, 40), (2, 40), (1, 40), (1, 40), (1, 40), (1, 40)]
def ftL : List (List (Nat × Nat)) := [[(1, 0), (1, 0), (0, 0), (0, 0), (2, 1), (2, 2), (0, 0), (0, 0), (1, 0), (1, 0), (1, 0), (1, 0)], [(2, 1), (2, 2), (2, 3), (2, 4), (2, 5), (2, 6), (0, 0), (0, 0), (0, 0)], [(0, 0), (0, 0), (0, 0), (1, 0)], [(2, 1), (0, 0), (0, 0)], [(1, 0), (1, 0), (1, 0), (1, 0), (1, 0), (1, 0), (0, 0)], [(2, 1), (2, 2)], [(2, 4), (0, 0), (0, 0)], [(2, 1), (2, 8), (2, 10), (2, 11), (2, 14), (2, 15), (2, 18), (0, 0)], [(2, 1), (2, 2), (2, 3), (2, 4), (0, 0), (0, 0), (2, 5), (2, 6), (2, 7), (2, 8), (0, 0), (0, 0), (2, 9), (0, 0), (0, 0), (0, 0), (1, 0), (1, 0), (2, 10), (0, 0), (2, 11), (2, 12), (0, 0), (0, 0), (2, 13), (2, 14), (2, 15), (1, 0), (1, 0), (1, 0), (1, 0)]]
def mnest : List Cond := [.methodLinkNest RX7 11 ⟨"CommitIndex$History", "<init>", "()V"⟩ "CommitIndex", .methodLinkNest RX7 18 ⟨"CommitIndex$Looking", "<init>", "()V"⟩ "CommitIndex", .methodLinkNest RX7 25 ⟨"CommitIndex$Painting", "<init>", "()V"⟩ "CommitIndex", .methodLinkNest RX7 32 ⟨"CommitIndex$Paths", "<init>", "()V"⟩ "CommitIndex", .methodLinkNest RX7 39 ⟨"CommitIndex$KeptSets", "<init>", "()V"⟩ "CommitIndex", .methodLinkNest RX7 46 ⟨"CommitIndex$Exchange", "<init>", "()V"⟩ "CommitIndex", .methodLinkNest RX7 57 ⟨"CommitIndex$Sheet", "<init>", "()V"⟩ "CommitIndex", .methodLinkNest RX1 54 ⟨"CommitIndex", "bit", "(I)J"⟩ "CommitIndex", .methodLinkNest RX0 26 ⟨"CommitIndex", "bit", "(I)J"⟩ "CommitIndex", .methodLinkNest RX1 79 ⟨"CommitIndex", "isIn", "(JI)Z"⟩ "CommitIndex", .methodLinkNest RX3 35 ⟨"CommitIndex", "bit", "(I)J"⟩ "CommitIndex", .methodLinkNest RX4 9 ⟨"CommitIndex", "bit", "(I)J"⟩ "CommitIndex", .methodLinkNest RX4 53 ⟨"CommitIndex", "isIn", "(JI)Z"⟩ "CommitIndex", .methodLinkNest RX2 25 ⟨"CommitIndex", "isIn", "(JI)Z"⟩ "CommitIndex", .methodLinkNest RX2 51 ⟨"CommitIndex", "bit", "(I)J"⟩ "CommitIndex", .methodLinkNest RX2 54 ⟨"CommitIndex", "greatestIn", "(J)I"⟩ "CommitIndex", .methodLinkNest RX0 81 ⟨"CommitIndex", "isIn", "(JI)Z"⟩ "CommitIndex"]
def shp (k : Nat) : Nat × Nat := shpL.getD k (9, 0)
def ftn (ci : Nat) : Nat := (ftL.getD ci []).length
def ft (ci j : Nat) : Nat × Nat := (ftL.getD ci []).getD j (0, 0)
/-- a method: name, bytes, locals, answer, class, frames, words, arguments, what its pool entries are: (entry, kind, a, b, c) -/
abbrev mD : Type := MethodName × ByteArray × Nat × Option FieldType × String × Nat × Nat × Nat × List (Nat × Nat × Nat × Nat × Int64)
def md_0 : mD := (yX7_add, cX7_add, 4, (some .int), RX7, 3, 66, 3, [(12, 2, 7, 0, 1), (62, 4, 127, 1, 0), (66, 4, 126, 1, 0), (70, 4, 128, 1, 0), (74, 0, 1, 6, 0)])
def md_1 : mD := (yX7_back, cX7_back, 1, (some .int), RX7, 2, 41, 0, [(12, 2, 7, 0, 1), (47, 2, 7, 5, 15), (74, 0, 1, 6, 0), (77, 0, 1, 7, 0), (80, 4, 129, 1, 0), (83, 4, 117, 0, 0)])
def md_2 : mD := (yX7_read, cX7_read, 8, (some .int), RX7, 3, 66, 1, [(12, 2, 7, 0, 1), (62, 4, 127, 1, 0), (66, 4, 126, 1, 0), (70, 4, 128, 1, 0), (87, 4, 38, 7, 0), (91, 4, 159, 6, 0), (94, 4, 37, 7, 0), (98, 0, 6, 2, 0), (101, 4, 164, 6, 0)])
def md_3 : mD := (yX7_seal, cX7_seal, 1, (some .int), RX7, 2, 43, 0, [(12, 2, 7, 0, 1), (74, 0, 1, 6, 0), (77, 0, 1, 7, 0), (104, 4, 130, 1, 0), (107, 0, 1, 8, 0)])
def md_4 : mD := (yX7_layer, cX7_layer, 2, (some .int), RX7, 1, 21, 1, [(12, 2, 7, 0, 1), (110, 4, 132, 1, 0)])
def md_5 : mD := (yX7_set, cX7_set, 4, (some .int), RX7, 0, 0, 2, [(40, 2, 7, 4, 14), (47, 2, 7, 5, 15), (113, 0, 2, 0, 0), (116, 0, 0, 2, 0), (119, 0, 0, 3, 0)])
def md_6 : mD := (yX7_commit, cX7_commit, 3, (some .int), RX7, 4, 86, 2, [(12, 2, 7, 0, 1), (122, 4, 125, 1, 0), (126, 4, 133, 1, 0), (129, 4, 134, 1, 0), (132, 4, 137, 1, 0), (135, 4, 138, 1, 0), (138, 3, 41, 0, 0), (142, 4, 142, 1, 0), (146, 4, 136, 1, 0)])
def md_7 : mD := (yX7_reach, cX7_reach, 2, (some .long), RX7, 2, 42, 1, [(12, 2, 7, 0, 1), (122, 4, 125, 1, 0), (149, 4, 139, 1, 0), (152, 8, 0, 0, (-9223372036854775806))])
def md_8 : mD := (yX7_look, cX7_look, 4, (some .int), RX7, 5, 121, 3, [(12, 2, 7, 0, 1), (19, 2, 7, 1, 8), (122, 4, 125, 1, 0), (154, 4, 151, 3, 0), (158, 12, 3, 2, 0), (162, 0, 3, 1, 0)])
def md_9 : mD := (yX7_bases, cX7_bases, 3, (some .long), RX7, 5, 112, 2, [(12, 2, 7, 0, 1), (26, 2, 7, 2, 10), (122, 4, 125, 1, 0), (152, 8, 0, 0, (-9223372036854775806)), (165, 4, 153, 4, 0), (169, 1, 4, 5, 0)])
def md_10 : mD := (yX7_paints, cX7_paints, 3, (some .int), RX7, 5, 112, 2, [(12, 2, 7, 0, 1), (26, 2, 7, 2, 10), (122, 4, 125, 1, 0), (165, 4, 153, 4, 0), (173, 0, 4, 6, 0)])
def md_11 : mD := (yX7_ways, cX7_ways, 3, (some .long), RX7, 3, 65, 2, [(12, 2, 7, 0, 1), (33, 2, 7, 3, 11), (122, 4, 125, 1, 0), (152, 8, 0, 0, (-9223372036854775806)), (174, 4, 155, 5, 0), (178, 4, 157, 5, 0)])
def md_12 : mD := (yX7_far, cX7_far, 3, (some .int), RX7, 3, 65, 2, [(12, 2, 7, 0, 1), (33, 2, 7, 3, 11), (122, 4, 125, 1, 0), (174, 4, 155, 5, 0), (181, 4, 158, 5, 0)])
def md_13 : mD := (yX7_kept, cX7_kept, 3, (some .int), RX7, 4, 90, 2, [(12, 2, 7, 0, 1), (40, 2, 7, 4, 14), (122, 4, 125, 1, 0), (184, 4, 146, 2, 0), (187, 4, 147, 2, 0), (191, 4, 148, 2, 0), (194, 4, 149, 2, 0)])
def md_14 : mD := (yX7_walk, cX7_walk, 3, (some .int), RX7, 4, 90, 2, [(12, 2, 7, 0, 1), (40, 2, 7, 4, 14), (122, 4, 125, 1, 0), (197, 4, 150, 2, 0), (200, 4, 15, 7, 0)])
def md_15 : mD := (yX7_walkPart, cX7_walkPart, 2, (some .int), RX7, 1, 21, 1, [(40, 2, 7, 4, 14), (203, 0, 2, 1, 0), (204, 0, 2, 2, 0), (207, 1, 2, 3, 0), (208, 3, 167, 0, 0)])
def md_16 : mD := (yX7_has, cX7_has, 2, (some .int), RX7, 2, 42, 1, [(12, 2, 7, 0, 1), (47, 2, 7, 5, 15), (122, 4, 125, 1, 0), (149, 4, 139, 1, 0), (208, 3, 167, 0, 0), (213, 1, 0, 0, 0)])
def md_17 : mD := (yX7_want, cX7_want, 2, (some .int), RX7, 2, 42, 1, [(12, 2, 7, 0, 1), (47, 2, 7, 5, 15), (122, 4, 125, 1, 0), (138, 3, 41, 0, 0), (208, 3, 167, 0, 0), (216, 1, 0, 1, 0), (219, 3, 42, 0, 0)])
def md_18 : mD := (yX7_clear, cX7_clear, 3, (some .int), RX7, 1, 21, 1, [(47, 2, 7, 5, 15), (208, 3, 167, 0, 0), (213, 1, 0, 0, 0), (216, 1, 0, 1, 0)])
def md_19 : mD := (yX7_sets, cX7_sets, 2, (some .long), RX7, 5, 113, 1, [(12, 2, 7, 0, 1), (47, 2, 7, 5, 15), (152, 8, 0, 0, (-9223372036854775806)), (223, 4, 118, 0, 0), (227, 4, 122, 0, 0)])
def md_20 : mD := (yX7_rounds, cX7_rounds, 1, (some .int), RX7, 5, 113, 0, [(12, 2, 7, 0, 1), (47, 2, 7, 5, 15), (223, 4, 118, 0, 0), (230, 0, 0, 7, 0)])
def md_21 : mD := (yX7_told, cX7_told, 3, (some .int), RX7, 5, 113, 2, [(12, 2, 7, 0, 1), (47, 2, 7, 5, 15), (223, 4, 118, 0, 0), (233, 4, 123, 0, 0)])
def md_22 : mD := (yX7_things, cX7_things, 1, (some .int), RX7, 5, 113, 0, [(12, 2, 7, 0, 1), (47, 2, 7, 5, 15), (223, 4, 118, 0, 0), (237, 4, 124, 0, 0)])
def md_23 : mD := (yX7_sheet, cX7_sheet, 5, (some .int), RX7, 2, 44, 3, [(87, 4, 38, 7, 0), (94, 4, 37, 7, 0), (241, 3, 39, 0, 0), (244, 4, 160, 6, 0)])
def md_24 : mD := (yX7_lose, cX7_lose, 4, (some .int), RX7, 1, 21, 1, [(87, 4, 38, 7, 0), (91, 4, 159, 6, 0), (94, 4, 37, 7, 0), (98, 0, 6, 2, 0)])
def md_25 : mD := (yX7_lay, cX7_lay, 7, (some .int), RX7, 2, 43, 4, [(87, 4, 38, 7, 0), (94, 4, 37, 7, 0), (241, 3, 39, 0, 0), (248, 4, 161, 6, 0), (251, 4, 165, 6, 0)])
def md_26 : mD := (yX7_get, cX7_get, 6, (some .int), RX7, 2, 43, 3, [(58, 0, 7, 7, 0), (87, 4, 38, 7, 0), (101, 4, 164, 6, 0), (241, 3, 39, 0, 0), (248, 4, 161, 6, 0), (254, 7, 0, 0, (-2147483648))])
def md_27 : mD := (yX7_copy, cX7_copy, 8, (some .int), RX7, 1, 26, 5, [(87, 4, 38, 7, 0), (91, 4, 159, 6, 0), (94, 4, 37, 7, 0), (255, 0, 6, 1, 0), (258, 4, 163, 6, 0), (262, 2, 6, 0, 4), (266, 11, 0, 0, 0)])
def md_28 : mD := (yX7_write, cX7_write, 7, (some .int), RX7, 5, 121, 3, [(12, 2, 7, 0, 1), (19, 2, 7, 1, 8), (87, 4, 38, 7, 0), (91, 4, 159, 6, 0), (94, 4, 37, 7, 0), (98, 0, 6, 2, 0), (122, 4, 125, 1, 0), (154, 4, 151, 3, 0), (162, 0, 3, 1, 0), (251, 4, 165, 6, 0), (272, 10, 0, 0, 0), (277, 4, 152, 3, 0)])
def md_29 : mD := (yX7_count, cX7_count, 2, (some .int), RX7, 5, 113, 1, [(12, 2, 7, 0, 1), (47, 2, 7, 5, 15), (223, 4, 118, 0, 0), (280, 4, 31, 7, 0)])
def md_30 : mD := (yX7_digest, cX7_digest, 4, (some .long), RX7, 6, 147, 0, [(12, 2, 7, 0, 1), (47, 2, 7, 5, 15), (74, 0, 1, 6, 0), (223, 4, 118, 0, 0), (283, 8, 0, 0, 17), (285, 4, 32, 7, 0), (289, 4, 33, 7, 0), (293, 4, 34, 7, 0), (296, 4, 35, 7, 0), (300, 4, 36, 7, 0)])
def md_31 : mD := (yX7_countPart, cX7_countPart, 2, (some .int), RX7, 1, 21, 1, [(12, 2, 7, 0, 1), (47, 2, 7, 5, 15), (58, 0, 7, 7, 0), (74, 0, 1, 6, 0), (77, 0, 1, 7, 0), (107, 0, 1, 8, 0), (208, 3, 167, 0, 0), (213, 1, 0, 0, 0), (216, 1, 0, 1, 0), (227, 4, 122, 0, 0), (230, 0, 0, 7, 0), (303, 0, 0, 6, 0)])
def md_32 : mD := (yX7_mixCounts, cX7_mixCounts, 6, (some .long), RX7, 2, 42, 1, [(12, 2, 7, 0, 1), (110, 4, 132, 1, 0), (280, 4, 31, 7, 0), (306, 3, 40, 0, 0)])
def md_33 : mD := (yX7_mixCommit, cX7_mixCommit, 7, (some .long), RX7, 5, 108, 2, [(12, 2, 7, 0, 1), (149, 4, 139, 1, 0), (306, 3, 40, 0, 0), (310, 4, 6, 7, 0)])
def md_34 : mD := (yX7_mixKept, cX7_mixKept, 7, (some .long), RX7, 5, 112, 2, [(12, 2, 7, 0, 1), (40, 2, 7, 4, 14), (197, 4, 150, 2, 0), (200, 4, 15, 7, 0), (306, 3, 40, 0, 0), (313, 4, 13, 7, 0)])
def md_35 : mD := (yX7_mixPairs, cX7_mixPairs, 7, (some .long), RX7, 5, 121, 3, [(12, 2, 7, 0, 1), (19, 2, 7, 1, 8), (26, 2, 7, 2, 10), (33, 2, 7, 3, 11), (154, 4, 151, 3, 0), (158, 12, 3, 2, 0), (162, 0, 3, 1, 0), (165, 4, 153, 4, 0), (169, 1, 4, 5, 0), (173, 0, 4, 6, 0), (174, 4, 155, 5, 0), (178, 4, 157, 5, 0), (181, 4, 158, 5, 0), (306, 3, 40, 0, 0)])
def md_36 : mD := (yX7_mixExchange, cX7_mixExchange, 7, (some .long), RX7, 4, 87, 1, [(12, 2, 7, 0, 1), (47, 2, 7, 5, 15), (227, 4, 122, 0, 0), (233, 4, 123, 0, 0), (237, 4, 124, 0, 0), (306, 3, 40, 0, 0)])
def md_37 : mD := (yX7_finding, cX7_finding, 2, (some .int), RX7, 0, 0, 1, [(58, 0, 7, 7, 0)])
def md_38 : mD := (yX7_sheetAt, cX7_sheetAt, 2, (some (.object "CommitIndex$Sheet")), RX7, 0, 0, 1, [(53, 2, 7, 6, 18)])
def md_39 : mD := (yX7_isForm, cX7_isForm, 1, (some .boolean), RX7, 0, 0, 1, [])
def md_40 : mD := (yX7_mix, cX7_mix, 4, (some .long), RX7, 0, 0, 2, [(316, 8, 0, 0, 31)])
def md_41 : mD := (yX7_bit, cX7_bit, 1, (some .long), RX7, 0, 0, 1, [])
def md_42 : mD := (yX7_isIn, cX7_isIn, 3, (some .boolean), RX7, 1, 20, 2, [(138, 3, 41, 0, 0)])
def md_43 : mD := (yX7_greatestIn, cX7_greatestIn, 3, (some .int), RX7, 2, 42, 1, [(219, 3, 42, 0, 0)])
def md_44 : mD := (yX8_in, cX8_in, 6, (some .boolean), RX8, 0, 0, 3, [])
def md_45 : mD := (yX8_no, cX8_no, 1, (some .long), RX8, 0, 0, 1, [(63, 8, 0, 0, (-9223372036854775808))])
def md_46 : mD := (yX8_isTwo, cX8_isTwo, 1, (some .boolean), RX8, 1, 25, 1, [(65, 3, 44, 0, 0)])
def md_47 : mD := (yX8_lesser, cX8_lesser, 2, (some .int), RX8, 0, 0, 2, [])
def md_48 : mD := (yX8_greater, cX8_greater, 2, (some .int), RX8, 0, 0, 2, [])
def md_49 : mD := (yX8_finds, cX8_finds, 2, (some .int), RX8, 0, 0, 1, [(69, 0, 8, 4, 0)])
def md_50 : mD := (yX8_isSheet, cX8_isSheet, 1, (some .boolean), RX8, 1, 25, 1, [(65, 3, 44, 0, 0), (72, 8, 0, 0, 3)])
def md_51 : mD := (yX8_sheet, cX8_sheet, 5, (some .int), RX8, 2, 45, 3, [(7, 2, 8, 0, 1), (13, 2, 8, 1, 2), (16, 2, 8, 2, 3), (65, 3, 44, 0, 0), (74, 3, 50, 0, 0), (78, 8, 0, 0, 2), (80, 4, 49, 8, 0)])
def md_52 : mD := (yX8_lose, cX8_lose, 2, (some .int), RX8, 2, 45, 1, [(7, 2, 8, 0, 1), (13, 2, 8, 1, 2), (74, 3, 50, 0, 0), (80, 4, 49, 8, 0)])
def md_53 : mD := (yX8_lacks, cX8_lacks, 4, (some .int), RX8, 1, 25, 3, [(7, 2, 8, 0, 1), (13, 2, 8, 1, 2), (65, 3, 44, 0, 0), (80, 4, 49, 8, 0)])
def md_54 : mD := (yX8_cut, cX8_cut, 2, (some .int), RX8, 0, 0, 2, [])
def md_55 : mD := (yX8_lay, cX8_lay, 6, (some .int), RX8, 2, 48, 4, [(16, 2, 8, 2, 3), (65, 3, 44, 0, 0), (74, 3, 50, 0, 0), (78, 8, 0, 0, 2), (84, 4, 53, 8, 0), (88, 3, 54, 0, 0)])
def md_56 : mD := (yX8_get, cX8_get, 4, (some .int), RX8, 2, 48, 3, [(16, 2, 8, 2, 3), (65, 3, 44, 0, 0), (74, 3, 50, 0, 0), (78, 8, 0, 0, 2), (84, 4, 53, 8, 0), (92, 7, 0, 0, (-2147483648))])
def md_57 : mD := (yX8_copy, cX8_copy, 7, (some .int), RX8, 2, 45, 5, [(7, 2, 8, 0, 1), (13, 2, 8, 1, 2), (16, 2, 8, 2, 3), (19, 2, 8, 3, 4), (74, 3, 50, 0, 0), (80, 4, 49, 8, 0)])
def md_58 : mD := (yX8_isCommit, cX8_isCommit, 2, (some .boolean), RX8, 1, 25, 1, [(65, 3, 44, 0, 0), (93, 0, 8, 5, 0)])
def md_59 : mD := (yX8_holds, cX8_holds, 3, (some .boolean), RX8, 0, 0, 2, [])
def md_60 : mD := (yX8_manyOf, cX8_manyOf, 4, (some .int), RX8, 1, 22, 1, [(96, 3, 59, 0, 0)])
def md_61 : mD := (yX8_isNew, cX8_isNew, 5, (some .boolean), RX8, 1, 25, 3, [(65, 3, 44, 0, 0), (93, 0, 8, 5, 0), (100, 8, 0, 0, (-1)), (102, 8, 0, 0, 1048575)])
def md_62 : mD := (yX8_add, cX8_add, 4, (some .int), RX8, 2, 49, 3, [(22, 2, 8, 6, 5), (25, 2, 8, 7, 6), (28, 2, 8, 8, 7), (31, 2, 8, 9, 8), (93, 0, 8, 5, 0), (104, 4, 61, 8, 0), (108, 3, 48, 0, 0)])
def md_63 : mD := (yX8_back, cX8_back, 1, (some .int), RX8, 0, 0, 0, [(93, 0, 8, 5, 0), (100, 8, 0, 0, (-1)), (111, 0, 8, 10, 0), (114, 1, 8, 16, 0), (118, 1, 8, 17, 0)])
def md_64 : mD := (yX8_read, cX8_read, 5, (some .int), RX8, 3, 72, 1, [(7, 2, 8, 0, 1), (13, 2, 8, 1, 2), (16, 2, 8, 2, 3), (74, 3, 50, 0, 0), (80, 4, 49, 8, 0), (121, 4, 62, 8, 0)])
def md_65 : mD := (yX8_seal, cX8_seal, 1, (some .int), RX8, 0, 0, 0, [(34, 2, 8, 12, 9), (93, 0, 8, 5, 0), (111, 0, 8, 10, 0), (124, 0, 8, 11, 0)])
def md_66 : mD := (yX8_layerBy, cX8_layerBy, 2, (some .int), RX8, 0, 0, 1, [(34, 2, 8, 12, 9), (124, 0, 8, 11, 0)])
def md_67 : mD := (yX8_layer, cX8_layer, 2, (some .int), RX8, 1, 25, 1, [(65, 3, 44, 0, 0), (127, 8, 0, 0, 39), (129, 4, 66, 8, 0)])
def md_68 : mD := (yX8_set, cX8_set, 5, (some .int), RX8, 2, 45, 2, [(56, 0, 8, 13, 0), (60, 0, 8, 14, 0), (65, 3, 44, 0, 0), (132, 0, 8, 15, 0), (135, 8, 0, 0, 10), (137, 8, 0, 0, 8), (139, 3, 46, 0, 0)])
def md_69 : mD := (yX8_generation, cX8_generation, 2, (some .int), RX8, 0, 0, 1, [(28, 2, 8, 8, 7), (111, 0, 8, 10, 0)])
def md_70 : mD := (yX8_children, cX8_children, 4, (some .int), RX8, 0, 0, 1, [(22, 2, 8, 6, 5), (25, 2, 8, 7, 6), (93, 0, 8, 5, 0)])
def md_71 : mD := (yX8_commitBy, cX8_commitBy, 3, (some .int), RX8, 1, 23, 2, [(22, 2, 8, 6, 5), (25, 2, 8, 7, 6), (28, 2, 8, 8, 7), (31, 2, 8, 9, 8), (142, 4, 69, 8, 0), (145, 4, 70, 8, 0)])
def md_72 : mD := (yX8_commit, cX8_commit, 3, (some .int), RX8, 2, 46, 2, [(65, 3, 44, 0, 0), (148, 4, 58, 8, 0), (151, 8, 0, 0, 5), (153, 4, 71, 8, 0)])
def md_73 : mD := (yX8_parent, cX8_parent, 3, (some .int), RX8, 0, 0, 2, [(22, 2, 8, 6, 5), (25, 2, 8, 7, 6)])
def md_74 : mD := (yX8_reachOf, cX8_reachOf, 7, (some .long), RX8, 1, 22, 1, [(96, 3, 59, 0, 0), (156, 4, 73, 8, 0)])
def md_75 : mD := (yX8_reach, cX8_reach, 2, (some .long), RX8, 2, 48, 1, [(148, 4, 58, 8, 0), (159, 4, 74, 8, 0), (163, 3, 45, 0, 0)])
def md_76 : mD := (yX8_next, cX8_next, 5, (some .int), RX8, 1, 22, 1, [(93, 0, 8, 5, 0), (96, 3, 59, 0, 0), (142, 4, 69, 8, 0)])
def md_77 : mD := (yX8_looks, cX8_looks, 14, (some .int), RX8, 2, 46, 3, [(37, 2, 8, 18, 10), (96, 3, 59, 0, 0), (100, 8, 0, 0, (-1)), (142, 4, 69, 8, 0), (156, 4, 73, 8, 0), (166, 4, 76, 8, 0)])
def md_78 : mD := (yX8_lookBy, cX8_lookBy, 4, (some .int), RX8, 3, 79, 3, [(96, 3, 59, 0, 0), (142, 4, 69, 8, 0), (159, 4, 74, 8, 0), (170, 4, 77, 8, 0)])
def md_79 : mD := (yX8_look, cX8_look, 4, (some .int), RX8, 4, 102, 3, [(65, 3, 44, 0, 0), (78, 8, 0, 0, 2), (148, 4, 58, 8, 0), (173, 4, 78, 8, 0)])
def md_80 : mD := (yX8_basesOf, cX8_basesOf, 24, (some .long), RX8, 2, 46, 2, [(100, 8, 0, 0, (-1)), (156, 4, 73, 8, 0), (166, 4, 76, 8, 0), (176, 0, 8, 19, 0)])
def md_81 : mD := (yX8_bases, cX8_bases, 3, (some .long), RX8, 3, 89, 2, [(148, 4, 58, 8, 0), (163, 3, 45, 0, 0), (179, 4, 80, 8, 0)])
def md_82 : mD := (yX8_paintsOf, cX8_paintsOf, 3, (some .int), RX8, 3, 89, 2, [(176, 0, 8, 19, 0), (179, 4, 80, 8, 0)])
def md_83 : mD := (yX8_paints, cX8_paints, 3, (some .int), RX8, 4, 111, 2, [(148, 4, 58, 8, 0), (183, 4, 82, 8, 0)])
def md_84 : mD := (yX8_goesDown, cX8_goesDown, 5, none, RX8, 1, 22, 1, [(40, 2, 8, 20, 11), (44, 2, 8, 21, 12), (93, 0, 8, 5, 0), (156, 4, 73, 8, 0), (186, 3, 47, 0, 0)])
def md_85 : mD := (yX8_waysOf, cX8_waysOf, 3, (some .long), RX8, 2, 46, 2, [(40, 2, 8, 20, 11), (189, 4, 84, 8, 0)])
def md_86 : mD := (yX8_ways, cX8_ways, 3, (some .long), RX8, 3, 68, 2, [(148, 4, 58, 8, 0), (163, 3, 45, 0, 0), (193, 4, 85, 8, 0)])
def md_87 : mD := (yX8_farOf, cX8_farOf, 3, (some .int), RX8, 2, 46, 2, [(44, 2, 8, 21, 12), (189, 4, 84, 8, 0)])
def md_88 : mD := (yX8_far, cX8_far, 3, (some .int), RX8, 3, 68, 2, [(148, 4, 58, 8, 0), (196, 4, 87, 8, 0)])
def md_89 : mD := (yX8_isKept, cX8_isKept, 2, (some .boolean), RX8, 0, 0, 1, [(56, 0, 8, 13, 0)])
def md_90 : mD := (yX8_rootOf, cX8_rootOf, 6, (some .int), RX8, 2, 48, 1, [(96, 3, 59, 0, 0), (159, 4, 74, 8, 0), (199, 4, 89, 8, 0)])
def md_91 : mD := (yX8_shareOf, cX8_shareOf, 3, (some .int), RX8, 3, 73, 1, [(100, 8, 0, 0, (-1)), (159, 4, 74, 8, 0), (202, 4, 90, 8, 0), (205, 3, 60, 0, 0)])
def md_92 : mD := (yX8_rootsOf, cX8_rootsOf, 4, (some .int), RX8, 3, 73, 1, [(202, 4, 90, 8, 0)])
def md_93 : mD := (yX8_keptBy, cX8_keptBy, 3, (some .int), RX8, 4, 96, 2, [(199, 4, 89, 8, 0), (202, 4, 90, 8, 0), (208, 4, 91, 8, 0), (211, 4, 92, 8, 0)])
def md_94 : mD := (yX8_kept, cX8_kept, 3, (some .int), RX8, 5, 118, 2, [(65, 3, 44, 0, 0), (78, 8, 0, 0, 2), (148, 4, 58, 8, 0), (214, 4, 93, 8, 0)])
def md_95 : mD := (yX8_walkBy, cX8_walkBy, 14, (some .int), RX8, 2, 48, 2, [(156, 4, 73, 8, 0), (159, 4, 74, 8, 0), (199, 4, 89, 8, 0), (205, 3, 60, 0, 0)])
def md_96 : mD := (yX8_walk, cX8_walk, 3, (some .int), RX8, 3, 81, 2, [(65, 3, 44, 0, 0), (78, 8, 0, 0, 2), (148, 4, 58, 8, 0), (217, 4, 95, 8, 0)])
def md_97 : mD := (yX8_has, cX8_has, 2, (some .int), RX8, 2, 48, 1, [(114, 1, 8, 16, 0), (148, 4, 58, 8, 0), (159, 4, 74, 8, 0), (205, 3, 60, 0, 0)])
def md_98 : mD := (yX8_want, cX8_want, 2, (some .int), RX8, 2, 46, 1, [(96, 3, 59, 0, 0), (118, 1, 8, 17, 0), (148, 4, 58, 8, 0), (205, 3, 60, 0, 0)])
def md_99 : mD := (yX8_clear, cX8_clear, 3, (some .int), RX8, 2, 45, 1, [(114, 1, 8, 16, 0), (118, 1, 8, 17, 0), (139, 3, 46, 0, 0), (205, 3, 60, 0, 0)])
def md_100 : mD := (yX8_reachAll, cX8_reachAll, 6, (some .long), RX8, 2, 48, 1, [(93, 0, 8, 5, 0), (96, 3, 59, 0, 0), (159, 4, 74, 8, 0)])
def md_101 : mD := (yX8_heads, cX8_heads, 4, (some .long), RX8, 2, 48, 0, [(93, 0, 8, 5, 0), (96, 3, 59, 0, 0), (100, 8, 0, 0, (-1)), (114, 1, 8, 16, 0), (159, 4, 74, 8, 0)])
def md_102 : mD := (yX8_nextTold, cX8_nextTold, 3, (some .int), RX8, 1, 22, 0, [(28, 2, 8, 8, 7), (93, 0, 8, 5, 0), (96, 3, 59, 0, 0), (100, 8, 0, 0, (-1)), (220, 1, 8, 29, 0)])
def md_103 : mD := (yX8_answers, cX8_answers, 6, none, RX8, 2, 48, 1, [(47, 2, 8, 24, 13), (50, 2, 8, 25, 14), (96, 3, 59, 0, 0), (156, 4, 73, 8, 0), (159, 4, 74, 8, 0), (220, 1, 8, 29, 0), (223, 1, 8, 28, 0), (226, 1, 8, 27, 0), (229, 1, 8, 30, 0)])
def md_104 : mD := (yX8_isEnough, cX8_isEnough, 3, (some .boolean), RX8, 2, 48, 0, [(93, 0, 8, 5, 0), (96, 3, 59, 0, 0), (118, 1, 8, 17, 0), (132, 0, 8, 15, 0), (159, 4, 74, 8, 0), (226, 1, 8, 27, 0)])
def md_105 : mD := (yX8_talks, cX8_talks, 5, none, RX8, 3, 73, 0, [(47, 2, 8, 24, 13), (53, 2, 8, 26, 15), (60, 0, 8, 14, 0), (96, 3, 59, 0, 0), (118, 1, 8, 17, 0), (220, 1, 8, 29, 0), (223, 1, 8, 28, 0), (226, 1, 8, 27, 0), (229, 1, 8, 30, 0), (232, 0, 8, 22, 0), (235, 0, 8, 23, 0), (238, 4, 100, 8, 0), (242, 4, 101, 8, 0), (246, 4, 102, 8, 0), (250, 4, 103, 8, 0), (253, 4, 104, 8, 0)])
def md_106 : mD := (yX8_setBy, cX8_setBy, 4, (some .long), RX8, 0, 0, 1, [(100, 8, 0, 0, (-1)), (114, 1, 8, 16, 0), (118, 1, 8, 17, 0), (223, 1, 8, 28, 0), (226, 1, 8, 27, 0)])
def md_107 : mD := (yX8_sets, cX8_sets, 2, (some .long), RX8, 4, 97, 1, [(65, 3, 44, 0, 0), (163, 3, 45, 0, 0), (257, 4, 105, 8, 0), (260, 8, 0, 0, 4), (262, 4, 106, 8, 0)])
def md_108 : mD := (yX8_rounds, cX8_rounds, 1, (some .int), RX8, 4, 97, 0, [(232, 0, 8, 22, 0), (257, 4, 105, 8, 0)])
def md_109 : mD := (yX8_toldBy, cX8_toldBy, 3, (some .int), RX8, 0, 0, 2, [(47, 2, 8, 24, 13), (50, 2, 8, 25, 14), (53, 2, 8, 26, 15), (235, 0, 8, 23, 0)])
def md_110 : mD := (yX8_told, cX8_told, 3, (some .int), RX8, 4, 97, 2, [(65, 3, 44, 0, 0), (78, 8, 0, 0, 2), (127, 8, 0, 0, 39), (257, 4, 105, 8, 0), (265, 4, 109, 8, 0)])
def md_111 : mD := (yX8_thingsNow, cX8_thingsNow, 6, (some .int), RX8, 1, 23, 0, [(31, 2, 8, 9, 8), (93, 0, 8, 5, 0), (96, 3, 59, 0, 0), (226, 1, 8, 27, 0), (262, 4, 106, 8, 0)])
def md_112 : mD := (yX8_things, cX8_things, 1, (some .int), RX8, 4, 97, 0, [(257, 4, 105, 8, 0), (268, 4, 111, 8, 0)])
def md_113 : mD := (yX8_write, cX8_write, 6, (some .int), RX8, 3, 79, 3, [(7, 2, 8, 0, 1), (13, 2, 8, 1, 2), (16, 2, 8, 2, 3), (37, 2, 8, 18, 10), (74, 3, 50, 0, 0), (80, 4, 49, 8, 0), (88, 3, 54, 0, 0), (142, 4, 69, 8, 0), (148, 4, 58, 8, 0), (170, 4, 77, 8, 0), (186, 3, 47, 0, 0)])
def md_114 : mD := (yX8_count, cX8_count, 2, (some .int), RX8, 4, 97, 1, [(69, 0, 8, 4, 0), (93, 0, 8, 5, 0), (111, 0, 8, 10, 0), (114, 1, 8, 16, 0), (118, 1, 8, 17, 0), (124, 0, 8, 11, 0), (205, 3, 60, 0, 0), (232, 0, 8, 22, 0), (235, 0, 8, 23, 0), (257, 4, 105, 8, 0), (262, 4, 106, 8, 0)])
def md_115 : mD := (yX8_tellsCommit, cX8_tellsCommit, 8, (some .long), RX8, 5, 118, 3, [(153, 4, 71, 8, 0), (159, 4, 74, 8, 0), (173, 4, 78, 8, 0), (179, 4, 80, 8, 0), (183, 4, 82, 8, 0), (193, 4, 85, 8, 0), (196, 4, 87, 8, 0), (214, 4, 93, 8, 0), (217, 4, 95, 8, 0), (271, 8, 0, 0, 31)])
def md_116 : mD := (yX8_digest, cX8_digest, 5, (some .long), RX8, 6, 145, 0, [(93, 0, 8, 5, 0), (129, 4, 66, 8, 0), (262, 4, 106, 8, 0), (265, 4, 109, 8, 0), (268, 4, 111, 8, 0), (271, 8, 0, 0, 31), (273, 8, 0, 0, 17), (275, 4, 114, 8, 0), (278, 4, 115, 8, 0)])
def md_117 : mD := (yX0_forget, cX0_forget, 2, none, RX0, 1, 20, 1, [(22, 1, 0, 0, 0), (26, 5, 41, 0, 0), (30, 8, 0, 0, (-1)), (32, 1, 0, 1, 0)])
def md_118 : mD := (yX0_talk, cX0_talk, 4, none, RX0, 4, 90, 1, [(22, 1, 0, 0, 0), (32, 1, 0, 1, 0), (35, 4, 140, 1, 0), (41, 1, 0, 11, 0), (44, 4, 141, 1, 0), (47, 1, 0, 8, 0), (50, 1, 0, 9, 0), (53, 1, 0, 10, 0), (56, 0, 0, 6, 0), (59, 0, 0, 7, 0), (62, 4, 119, 0, 0), (66, 4, 120, 0, 0), (70, 0, 0, 3, 0), (73, 4, 121, 0, 0)])
def md_119 : mD := (yX0_tell, cX0_tell, 5, none, RX0, 3, 66, 1, [(9, 0, 0, 2, 0), (15, 2, 0, 4, 1), (19, 2, 0, 5, 2), (26, 5, 41, 0, 0), (30, 8, 0, 0, (-1)), (47, 1, 0, 8, 0), (53, 1, 0, 10, 0), (56, 0, 0, 6, 0), (59, 0, 0, 7, 0), (77, 4, 145, 1, 0), (81, 5, 42, 0, 0)])
def md_120 : mD := (yX0_answer, cX0_answer, 7, none, RX0, 3, 63, 2, [(15, 2, 0, 4, 1), (30, 8, 0, 0, (-1)), (41, 1, 0, 11, 0), (47, 1, 0, 8, 0), (50, 1, 0, 9, 0), (53, 1, 0, 10, 0), (56, 0, 0, 6, 0), (81, 5, 42, 0, 0), (85, 4, 139, 1, 0), (88, 4, 135, 1, 0)])
def md_121 : mD := (yX0_isServed, cX0_isServed, 3, (some .boolean), RX0, 2, 42, 1, [(32, 1, 0, 1, 0), (53, 1, 0, 10, 0), (81, 5, 42, 0, 0), (85, 4, 139, 1, 0), (91, 0, 1, 6, 0)])
def md_122 : mD := (yX0_setOf, cX0_setOf, 2, (some .long), RX0, 0, 0, 1, [(22, 1, 0, 0, 0), (30, 8, 0, 0, (-1)), (32, 1, 0, 1, 0), (41, 1, 0, 11, 0), (53, 1, 0, 10, 0)])
def md_123 : mD := (yX0_tellingPart, cX0_tellingPart, 3, (some .int), RX0, 2, 42, 2, [(15, 2, 0, 4, 1), (19, 2, 0, 5, 2), (41, 1, 0, 11, 0), (56, 0, 0, 6, 0), (81, 5, 42, 0, 0)])
def md_124 : mD := (yX0_thingsSent, cX0_thingsSent, 2, (some .int), RX0, 3, 66, 1, [(30, 8, 0, 0, (-1)), (41, 1, 0, 11, 0), (53, 1, 0, 10, 0), (94, 4, 142, 1, 0)])
def md_125 : mD := (yX1_holds, cX1_holds, 2, (some .boolean), RX1, 0, 0, 1, [(31, 0, 1, 6, 0)])
def md_126 : mD := (yX1_isFull, cX1_isFull, 1, (some .boolean), RX1, 0, 0, 0, [(31, 0, 1, 6, 0)])
def md_127 : mD := (yX1_admits, cX1_admits, 4, (some .boolean), RX1, 1, 21, 3, [(35, 7, 0, 0, 1048575), (36, 4, 125, 1, 0)])
def md_128 : mD := (yX1_append, cX1_append, 5, none, RX1, 2, 42, 3, [(9, 2, 1, 0, 1), (15, 2, 1, 1, 2), (18, 2, 1, 2, 3), (21, 2, 1, 3, 4), (24, 2, 1, 4, 5), (31, 0, 1, 6, 0), (40, 4, 126, 1, 0), (44, 4, 137, 1, 0), (48, 9, 0, 0, 0), (54, 5, 41, 0, 0), (58, 4, 139, 1, 0)])
def md_129 : mD := (yX1_dropLast, cX1_dropLast, 1, none, RX1, 0, 0, 0, [(31, 0, 1, 6, 0), (61, 0, 1, 7, 0)])
def md_130 : mD := (yX1_sealRest, cX1_sealRest, 1, none, RX1, 1, 23, 0, [(28, 2, 1, 5, 6), (31, 0, 1, 6, 0), (61, 0, 1, 7, 0), (64, 0, 1, 8, 0), (67, 4, 131, 1, 0)])
def md_131 : mD := (yX1_joinLayers, cX1_joinLayers, 4, none, RX1, 0, 0, 0, [(28, 2, 1, 5, 6), (64, 0, 1, 8, 0)])
def md_132 : mD := (yX1_layerSize, cX1_layerSize, 2, (some .int), RX1, 0, 0, 1, [(28, 2, 1, 5, 6), (64, 0, 1, 8, 0)])
def md_133 : mD := (yX1_firstParent, cX1_firstParent, 2, (some .int), RX1, 1, 21, 1, [(9, 2, 1, 0, 1), (36, 4, 125, 1, 0)])
def md_134 : mD := (yX1_secondParent, cX1_secondParent, 2, (some .int), RX1, 1, 21, 1, [(15, 2, 1, 1, 2), (36, 4, 125, 1, 0)])
def md_135 : mD := (yX1_parentsOf, cX1_parentsOf, 2, (some .long), RX1, 2, 42, 1, [(54, 5, 41, 0, 0), (70, 4, 133, 1, 0), (73, 4, 134, 1, 0)])
def md_136 : mD := (yX1_childrenOf, cX1_childrenOf, 4, (some .int), RX1, 3, 63, 1, [(31, 0, 1, 6, 0), (76, 4, 135, 1, 0), (79, 5, 42, 0, 0)])
def md_137 : mD := (yX1_rankOf, cX1_rankOf, 2, (some .int), RX1, 1, 21, 1, [(21, 2, 1, 3, 4), (36, 4, 125, 1, 0)])
def md_138 : mD := (yX1_generationOf, cX1_generationOf, 2, (some .int), RX1, 2, 42, 1, [(44, 4, 137, 1, 0), (61, 0, 1, 7, 0)])
def md_139 : mD := (yX1_reachOf, cX1_reachOf, 2, (some .long), RX1, 1, 21, 1, [(24, 2, 1, 4, 5), (36, 4, 125, 1, 0)])
def md_140 : mD := (yX1_reachOfAll, cX1_reachOfAll, 6, (some .long), RX1, 2, 42, 1, [(24, 2, 1, 4, 5), (31, 0, 1, 6, 0), (79, 5, 42, 0, 0)])
def md_141 : mD := (yX1_tipsOf, cX1_tipsOf, 6, (some .long), RX1, 2, 42, 1, [(24, 2, 1, 4, 5), (31, 0, 1, 6, 0), (54, 5, 41, 0, 0), (79, 5, 42, 0, 0), (83, 8, 0, 0, (-1))])
def md_142 : mD := (yX1_thingsOf, cX1_thingsOf, 5, (some .int), RX1, 2, 42, 1, [(18, 2, 1, 2, 3), (31, 0, 1, 6, 0), (79, 5, 42, 0, 0)])
def md_143 : mD := (yX1_fromGeneration, cX1_fromGeneration, 5, (some .long), RX1, 3, 63, 1, [(31, 0, 1, 6, 0), (54, 5, 41, 0, 0), (85, 4, 138, 1, 0)])
def md_144 : mD := (yX1_topByGeneration, cX1_topByGeneration, 5, (some .int), RX1, 3, 63, 1, [(31, 0, 1, 6, 0), (79, 5, 42, 0, 0), (85, 4, 138, 1, 0)])
def md_145 : mD := (yX1_topByRank, cX1_topByRank, 5, (some .int), RX1, 2, 42, 1, [(31, 0, 1, 6, 0), (44, 4, 137, 1, 0), (79, 5, 42, 0, 0)])
def md_146 : mD := (yX2_isKept, cX2_isKept, 2, (some .boolean), RX2, 0, 0, 1, [(9, 0, 2, 0, 0)])
def md_147 : mD := (yX2_rootOf, cX2_rootOf, 4, (some .int), RX2, 2, 42, 2, [(15, 4, 146, 2, 0), (19, 4, 139, 1, 0), (25, 5, 42, 0, 0)])
def md_148 : mD := (yX2_shareSize, cX2_shareSize, 5, (some .int), RX2, 3, 65, 2, [(19, 4, 139, 1, 0), (29, 4, 147, 2, 0), (33, 8, 0, 0, (-1)), (35, 3, 167, 0, 0)])
def md_149 : mD := (yX2_rootsBehind, cX2_rootsBehind, 6, (some .int), RX2, 3, 65, 2, [(29, 4, 147, 2, 0)])
def md_150 : mD := (yX2_descend, cX2_descend, 7, none, RX2, 3, 64, 2, [(15, 4, 146, 2, 0), (19, 4, 139, 1, 0), (25, 5, 42, 0, 0), (33, 8, 0, 0, (-1)), (41, 0, 2, 1, 0), (44, 0, 2, 2, 0), (47, 1, 2, 3, 0), (51, 5, 41, 0, 0), (54, 5, 43, 0, 0), (57, 4, 135, 1, 0)])
def md_151 : mD := (yX3_search, cX3_search, 15, none, RX3, 4, 87, 4, [(9, 2, 3, 0, 1), (15, 0, 3, 1, 0), (19, 12, 3, 2, 0), (23, 8, 0, 0, (-1)), (25, 4, 138, 1, 0), (31, 4, 143, 1, 0), (35, 5, 41, 0, 0), (38, 4, 144, 1, 0), (42, 4, 135, 1, 0)])
def md_152 : mD := (yX3_lookedAt, cX3_lookedAt, 2, (some .int), RX3, 0, 0, 1, [(9, 2, 3, 0, 1), (15, 0, 3, 1, 0)])
def md_153 : mD := (yX4_paint, cX4_paint, 6, none, RX4, 4, 87, 3, [(9, 5, 41, 0, 0), (13, 1, 4, 0, 0), (19, 1, 4, 1, 0), (22, 1, 4, 2, 0), (25, 1, 4, 3, 0), (28, 1, 4, 4, 0), (31, 1, 4, 5, 0), (34, 0, 4, 6, 0), (38, 8, 0, 0, (-1)), (40, 4, 144, 1, 0), (46, 4, 135, 1, 0), (49, 4, 154, 4, 0)])
def md_154 : mD := (yX4_passOn, cX4_passOn, 4, none, RX4, 2, 42, 2, [(13, 1, 4, 0, 0), (19, 1, 4, 1, 0), (22, 1, 4, 2, 0), (25, 1, 4, 3, 0), (28, 1, 4, 4, 0), (38, 8, 0, 0, (-1)), (53, 5, 42, 0, 0)])
def md_155 : mD := (yX5_trace, cX5_trace, 4, none, RX5, 2, 42, 2, [(9, 2, 5, 0, 1), (15, 2, 5, 1, 2), (19, 0, 1, 6, 0), (25, 4, 133, 1, 0), (29, 4, 156, 5, 0), (33, 4, 134, 1, 0)])
def md_156 : mD := (yX5_passOn, cX5_passOn, 3, none, RX5, 0, 0, 2, [(9, 2, 5, 0, 1), (15, 2, 5, 1, 2)])
def md_157 : mD := (yX5_waysTo, cX5_waysTo, 2, (some .long), RX5, 0, 0, 1, [(9, 2, 5, 0, 1)])
def md_158 : mD := (yX5_stepsTo, cX5_stepsTo, 2, (some .int), RX5, 0, 0, 1, [(15, 2, 5, 1, 2)])
def md_159 : mD := (yX6_isLost, cX6_isLost, 1, (some .boolean), RX6, 0, 0, 0, [(15, 0, 6, 2, 0)])
def md_160 : mD := (yX6_renew, cX6_renew, 4, none, RX6, 1, 21, 2, [(9, 2, 6, 0, 4), (15, 0, 6, 2, 0), (19, 0, 6, 1, 0), (22, 10, 0, 0, 0), (28, 9, 0, 0, 0)])
def md_161 : mD := (yX6_faultAt, cX6_faultAt, 3, (some .int), RX6, 1, 21, 2, [(19, 0, 6, 1, 0), (31, 4, 159, 6, 0), (35, 4, 162, 6, 0)])
def md_162 : mD := (yX6_hasItem, cX6_hasItem, 2, (some .boolean), RX6, 0, 0, 1, [(15, 0, 6, 2, 0)])
def md_163 : mD := (yX6_hasRun, cX6_hasRun, 3, (some .boolean), RX6, 0, 0, 2, [(15, 0, 6, 2, 0)])
def md_164 : mD := (yX6_itemAt, cX6_itemAt, 2, (some .int), RX6, 1, 21, 1, [(9, 2, 6, 0, 4), (35, 4, 162, 6, 0)])
def md_165 : mD := (yX6_store, cX6_store, 3, none, RX6, 1, 21, 2, [(9, 2, 6, 0, 4), (35, 4, 162, 6, 0), (39, 4, 166, 6, 0)])
def md_166 : mD := (yX6_narrowed, cX6_narrowed, 2, (some .int), RX6, 0, 0, 1, [(19, 0, 6, 1, 0)])
def md_167 : mD := (yJ13_bitCount_95d88, cJ13_bitCount_95d88, 2, (some .int), RJ13, 0, 0, 1, [(314, 8, 0, 0, 6148914691236517205), (316, 8, 0, 0, 3689348814741910323), (318, 8, 0, 0, 1085102592571150095)])
def mtab : List mD := [md_0, md_1, md_2, md_3, md_4, md_5, md_6, md_7, md_8, md_9, md_10, md_11, md_12, md_13, md_14, md_15, md_16, md_17, md_18, md_19, md_20, md_21, md_22, md_23, md_24, md_25, md_26, md_27, md_28, md_29, md_30, md_31, md_32, md_33, md_34, md_35, md_36, md_37, md_38, md_39, md_40, md_41, md_42, md_43, md_44, md_45, md_46, md_47, md_48, md_49, md_50, md_51, md_52, md_53, md_54, md_55, md_56, md_57, md_58, md_59, md_60, md_61, md_62, md_63, md_64, md_65, md_66, md_67, md_68, md_69, md_70, md_71, md_72, md_73, md_74, md_75, md_76, md_77, md_78, md_79, md_80, md_81, md_82, md_83, md_84, md_85, md_86, md_87, md_88, md_89, md_90, md_91, md_92, md_93, md_94, md_95, md_96, md_97, md_98, md_99, md_100, md_101, md_102, md_103, md_104, md_105, md_106, md_107, md_108, md_109, md_110, md_111, md_112, md_113, md_114, md_115, md_116, md_117, md_118, md_119, md_120, md_121, md_122, md_123, md_124, md_125, md_126, md_127, md_128, md_129, md_130, md_131, md_132, md_133, md_134, md_135, md_136, md_137, md_138, md_139, md_140, md_141, md_142, md_143, md_144, md_145, md_146, md_147, md_148, md_149, md_150, md_151, md_152, md_153, md_154, md_155, md_156, md_157, md_158, md_159, md_160, md_161, md_162, md_163, md_164, md_165, md_166, md_167]
def md (y : Nat) : mD := mtab.getD y md_0
def lkF : List (Nat × Nat × Nat × Nat × Int64) → Nat → Nat × Nat × Nat × Int64
  | [], _ => (99, 0, 0, 0)
  | q :: qs, i => match Nat.beq q.1 i with
    | true => q.2
    | false => lkF qs i
def lk (y i : Nat) : Nat × Nat × Nat × Int64 := lkF (md y).2.2.2.2.2.2.2.2 i
/-- one step: goes on, calls, or ends -/
abbrev mR : Type := Option ((Nat × mL × List Value × mH) ⊕ (Nat × List Value × Nat × mL × List Value) ⊕ Option Value)
def nx (pc : Nat) (loc : mL) (stk : List Value) (h : mH) : mR := some (.inl (pc, loc, stk, h))
def nxs (pc : Nat) (loc : mL) (h : mH) : Option (List Value) → mR
  | none => none
  | some stk => nx pc loc stk h
def inB (i : Int32) (n : Nat) : Prop := 0 ≤ i ∧ i.toNatClampNeg < n
def kil : Option Value → Option Value
  | some (.long _) => none
  | o => o
def st1 : mL → Nat → Value → mL
  | [], _, _ => []
  | _ :: os, 0, v => some v :: os
  | o :: os, i + 1, v => (match i with | 0 => kil o | _ + 1 => o) :: st1 os i v
def st2 : mL → Nat → Value → mL
  | [], _, _ => []
  | _ :: os, 0, v => some v :: (match os with | [] => [] | _ :: os => none :: os)
  | o :: os, i + 1, v => (match i with | 0 => kil o | _ + 1 => o) :: st2 os i v
def lget : mL → Nat → Option Value
  | [], _ => none
  | o :: _, 0 => o
  | _ :: os, i + 1 => lget os i
def ldI (pc : Nat) (loc : mL) (stk : List Value) (h : mH) : Option Value → mR
  | some (.int x) => nx pc loc (.int x :: stk) h
  | _ => none
def ldL (pc : Nat) (loc : mL) (stk : List Value) (h : mH) : Option Value → mR
  | some (.long x) => nx pc loc (.long x :: stk) h
  | _ => none
def ldA (pc : Nat) (loc : mL) (stk : List Value) (h : mH) : Option Value → mR
  | some (.ref x) => nx pc loc (.ref x :: stk) h
  | some .null => nx pc loc (.null :: stk) h
  | _ => none
def stoI (pc i : Nat) (loc : mL) (h : mH) : List Value → mR
  | .int x :: r => match Nat.blt i loc.length with
    | true => nx pc (st1 loc i (.int x)) r h
    | false => none
  | _ => none
def stoL (pc i : Nat) (loc : mL) (h : mH) : List Value → mR
  | .long x :: r => match Nat.blt (i + 1) loc.length with
    | true => nx pc (st2 loc i (.long x)) r h
    | false => none
  | _ => none
def stoA (pc i : Nat) (loc : mL) (h : mH) : List Value → mR
  | .ref x :: r => match Nat.blt i loc.length with
    | true => nx pc (st1 loc i (.ref x)) r h
    | false => none
  | .null :: r => match Nat.blt i loc.length with
    | true => nx pc (st1 loc i .null) r h
    | false => none
  | _ => none
def op2 (f : Int32 → Int32 → Int32) : List Value → Option (List Value)
  | .int y :: .int x :: r => some (.int (f x y) :: r)
  | _ => none
def op2L (f : Int64 → Int64 → Int64) : List Value → Option (List Value)
  | .long y :: .long x :: r => some (.long (f x y) :: r)
  | _ => none
def opSh (f : Int64 → Int32 → Int64) : List Value → Option (List Value)
  | .int y :: .long x :: r => some (.long (f x y) :: r)
  | _ => none
def opCmp : List Value → Option (List Value)
  | .long y :: .long x :: r => some (.int (lg_cmp x y) :: r)
  | _ => none
def opI (f : Int32 → Int32) : List Value → Option (List Value)
  | .int x :: r => some (.int (f x) :: r)
  | _ => none
def opIL (f : Int32 → Int64) : List Value → Option (List Value)
  | .int x :: r => some (.long (f x) :: r)
  | _ => none
def opLI (f : Int64 → Int32) : List Value → Option (List Value)
  | .long x :: r => some (.int (f x) :: r)
  | _ => none
def opDup : List Value → Option (List Value)
  | .int x :: r => some (.int x :: .int x :: r)
  | .ref x :: r => some (.ref x :: .ref x :: r)
  | _ => none
def opDup2 : List Value → Option (List Value)
  | .long x :: r => some (.long x :: .long x :: r)
  | .int x :: .ref y :: r => some (.int x :: .ref y :: .int x :: .ref y :: r)
  | .int x :: .int y :: r => some (.int x :: .int y :: .int x :: .int y :: r)
  | _ => none
/-- a jump: where to -/
def jmp (pc : Nat) (off : Int) : Nat := ((pc : Int) + off).toNat
def jok (pc : Nat) (off : Int) : Bool := decide (0 ≤ (pc : Int) + off)
def cnd : ClassFile.Cond → Int32 → Int32 → Prop
  | .eq, x, y => x = y
  | .ne, x, y => ¬ x = y
  | .lt, x, y => x < y
  | .ge, x, y => y ≤ x
  | .gt, x, y => y < x
  | .le, x, y => x ≤ y
def cndD : (c : ClassFile.Cond) → (x y : Int32) → Decidable (cnd c x y)
  | .eq, x, y => inferInstanceAs (Decidable (x = y))
  | .ne, x, y => inferInstanceAs (Decidable (¬ x = y))
  | .lt, x, y => inferInstanceAs (Decidable (x < y))
  | .ge, x, y => inferInstanceAs (Decidable (y ≤ x))
  | .gt, x, y => inferInstanceAs (Decidable (y < x))
  | .le, x, y => inferInstanceAs (Decidable (x ≤ y))
def brn (c : ClassFile.Cond) (x y : Int32) (a b : mR) : mR := @ite _ (cnd c x y) (cndD c x y) a b
def stIf (pc : Nat) (loc : mL) (h : mH) (c : ClassFile.Cond) (off : Int) : List Value → mR
  | .int x :: r => match jok pc off with
    | true => brn c x 0 (nx (jmp pc off) loc r h) (nx (pc + 3) loc r h)
    | false => none
  | _ => none
def stCmp (pc : Nat) (loc : mL) (h : mH) (c : ClassFile.Cond) (off : Int) : List Value → mR
  | .int y :: .int x :: r => match jok pc off with
    | true => brn c x y (nx (jmp pc off) loc r h) (nx (pc + 3) loc r h)
    | false => none
  | _ => none
def stNull (pc : Nat) (loc : mL) (h : mH) (off : Int) : List Value → mR
  | .null :: r => match jok pc off with
    | true => nx (jmp pc off) loc r h
    | false => none
  | .ref _ :: r => nx (pc + 3) loc r h
  | _ => none
def stNon (pc : Nat) (loc : mL) (h : mH) (off : Int) : List Value → mR
  | .ref _ :: r => match jok pc off with
    | true => nx (jmp pc off) loc r h
    | false => none
  | .null :: r => nx (pc + 3) loc r h
  | _ => none
/-- a switch: its cases one by one -/
def swi (pc : Nat) (loc : mL) (r : List Value) (h : mH) (x : Int32) (dflt : Int) : List (Int × Int) → mR
  | [] => match jok pc dflt with
    | true => nx (jmp pc dflt) loc r h
    | false => none
  | q :: qs => if x = Int32.ofInt q.1 then (match jok pc q.2 with
    | true => nx (jmp pc q.2) loc r h
    | false => none) else swi pc loc r h x dflt qs
def tbl (lo : Int) : List Int → List (Int × Int)
  | [] => []
  | o :: os => (lo, o) :: tbl (lo + 1) os
/-- a row of cases, in order, between bounds that an int has -/
def swok : List (Int × Int) → Bool
  | [] => true
  | [q] => decide (-1000 < q.1) && decide (q.1 < 1000)
  | q :: q2 :: qs => decide (-1000 < q.1) && decide (q.1 < q2.1) && swok (q2 :: qs)
def tok (lo hi : Int) (offs : List Int) : Bool := decide (-1000 < lo) && decide (hi < 1000) && decide ((offs.length : Int) = hi - lo + 1)
def stSw (pc : Nat) (loc : mL) (h : mH) (dflt : Int) (ok : Bool) (qs : List (Int × Int)) : List Value → mR
  | .int x :: r => match ok with
    | true => swi pc loc r h x dflt qs
    | false => none
  | _ => none
def gfl (pc : Nat) (loc : mL) (h : mH) (q : Nat × Nat × Nat × Int64) : List Value → mR
  | .ref k :: r => if shp k = (0, q.2.1) then (match q.1 with
    | 0 => nx (pc + 3) loc (.int (gI h k q.2.2.1) :: r) h
    | 12 => nx (pc + 3) loc (.int (gI h k q.2.2.1) :: r) h
    | 1 => nx (pc + 3) loc (.long (gJ h k q.2.2.1) :: r) h
    | 2 => nx (pc + 3) loc (.ref (k + q.2.2.2.toNatClampNeg) :: r) h
    | _ => none) else none
  | _ => none
def pfl (pc : Nat) (loc : mL) (h : mH) (q : Nat × Nat × Nat × Int64) : List Value → mR
  | .int x :: .ref k :: r => if shp k = (0, q.2.1) then (match q.1 with
    | 0 => nx (pc + 3) loc r (sI h k q.2.2.1 x)
    | 12 => if x = 0 ∨ x = 1 then nx (pc + 3) loc r (sI h k q.2.2.1 x) else none
    | _ => none) else none
  | .long x :: .ref k :: r => if shp k = (0, q.2.1) then (match q.1 with
    | 1 => nx (pc + 3) loc r (sJ h k q.2.2.1 x)
    | _ => none) else none
  | _ => none
def arI (pc : Nat) (loc : mL) (h : mH) : List Value → mR
  | .int i :: .ref k :: r => match (shp k).1 with
    | 1 => @ite _ (inB i (shp k).2) (inferInstanceAs (Decidable (0 ≤ i ∧ i.toNatClampNeg < (shp k).2))) (nx (pc + 1) loc (.int (gI h k i.toNatClampNeg) :: r) h) none
    | _ => none
  | _ => none
def arL (pc : Nat) (loc : mL) (h : mH) : List Value → mR
  | .int i :: .ref k :: r => match (shp k).1 with
    | 2 => @ite _ (inB i (shp k).2) (inferInstanceAs (Decidable (0 ≤ i ∧ i.toNatClampNeg < (shp k).2))) (nx (pc + 1) loc (.long (gJ h k i.toNatClampNeg) :: r) h) none
    | _ => none
  | _ => none
def arA (pc : Nat) (loc : mL) (h : mH) : List Value → mR
  | .int i :: .ref k :: r => match (shp k).1 with
    | 3 => @ite _ (inB i (shp k).2) (inferInstanceAs (Decidable (0 ≤ i ∧ i.toNatClampNeg < (shp k).2))) (nx (pc + 1) loc (.ref (k + 1 + i.toNatClampNeg) :: r) h) none
    | _ => none
  | _ => none
def asI (pc : Nat) (loc : mL) (h : mH) : List Value → mR
  | .int x :: .int i :: .ref k :: r => match (shp k).1 with
    | 1 => @ite _ (inB i (shp k).2) (inferInstanceAs (Decidable (0 ≤ i ∧ i.toNatClampNeg < (shp k).2))) (nx (pc + 1) loc r (sI h k i.toNatClampNeg x)) none
    | _ => none
  | _ => none
def asL (pc : Nat) (loc : mL) (h : mH) : List Value → mR
  | .long x :: .int i :: .ref k :: r => match (shp k).1 with
    | 2 => @ite _ (inB i (shp k).2) (inferInstanceAs (Decidable (0 ≤ i ∧ i.toNatClampNeg < (shp k).2))) (nx (pc + 1) loc r (sJ h k i.toNatClampNeg x)) none
    | _ => none
  | _ => none
def cats (r : List Value) : Nat := (r.map fun v => v.category).sum
def wds : List Value → Nat
  | [] => 0
  | .long _ :: r => wds r + 2
  | _ :: r => wds r + 1
def cal (y y' : Nat) (pc : Nat) (loc : mL) (as : List Value) (r : List Value) : mR :=
  match Nat.ble ((md y').2.2.2.2.2.1 + 1) (md y).2.2.2.2.2.1 && Nat.ble (8 + ((md y').2.2.1 + 11) + (md y').2.2.2.2.2.2.1) (md y).2.2.2.2.2.2.1 && Nat.ble (cats r) 8 && Nat.ble (wds as) (md y').2.2.1 && Nat.blt y' mtab.length with
  | true => some (.inr (.inl (y', as, pc + 3, loc, r)))
  | false => none
def ivS (y : Nat) (pc : Nat) (loc : mL) (h : mH) (q : Nat × Nat × Nat × Int64) (stk : List Value) : mR := match q.1 with
  | 3 => match Nat.ble (md q.2.1).2.2.2.2.2.2.2.1 stk.length with
    | true => cal y q.2.1 pc loc (stk.take (md q.2.1).2.2.2.2.2.2.2.1).reverse (stk.drop (md q.2.1).2.2.2.2.2.2.2.1)
    | false => none
  | 5 => match Nat.ble (md q.2.1).2.2.2.2.2.2.2.1 stk.length with
    | true => cal y q.2.1 pc loc (stk.take (md q.2.1).2.2.2.2.2.2.2.1).reverse (stk.drop (md q.2.1).2.2.2.2.2.2.2.1)
    | false => none
  | 9 => match stk with
    | .int b :: .int a :: r => match Nat.ble (cats r) 8 with
      | true => nx (pc + 3) loc (.int (if a < b then b else a) :: r) h
      | false => none
    | _ => none
  | 10 => match stk with
    | .int b :: .int a :: r => match Nat.ble (cats r) 8 with
      | true => nx (pc + 3) loc (.int (if b < a then b else a) :: r) h
      | false => none
    | _ => none
  | 11 => match stk with
    | .int n :: .int dp :: .ref b :: .int sp :: .ref a :: r => match Nat.ble (cats r) 8 with
      | true => if ((shp a).1 = 1 ∧ (shp b).1 = 1) ∧ (0 ≤ sp ∧ 0 ≤ dp ∧ 0 ≤ n) ∧ sp.toNatClampNeg + n.toNatClampNeg ≤ (shp a).2 ∧ dp.toNatClampNeg + n.toNatClampNeg ≤ (shp b).2 then nx (pc + 3) loc r (cpI h a sp.toNatClampNeg b dp.toNatClampNeg n.toNatClampNeg) else none
      | false => none
    | _ => none
  | _ => none
def ivV (y : Nat) (pc : Nat) (loc : mL) (q : Nat × Nat × Nat × Int64) (stk : List Value) : mR := match q.1 with
  | 4 => match Nat.ble ((md q.2.1).2.2.2.2.2.2.2.1 + 1) stk.length with
    | true => match stk.drop (md q.2.1).2.2.2.2.2.2.2.1 with
      | .ref k :: r => if shp k = (0, q.2.2.1) then cal y q.2.1 pc loc (.ref k :: (stk.take (md q.2.1).2.2.2.2.2.2.2.1).reverse) r else none
      | _ => none
    | false => none
  | _ => none
def rtI : Option FieldType → List Value → mR
  | some .int, [.int x] => some (.inr (.inr (some (.int x))))
  | some .boolean, [.int x] => if x = 0 ∨ x = 1 then some (.inr (.inr (some (.int x)))) else none
  | _, _ => none
def rtL : Option FieldType → List Value → mR
  | some .long, [.long x] => some (.inr (.inr (some (.long x))))
  | _, _ => none
def rtA : Option FieldType → List Value → mR
  | some (.object _), [.ref x] => some (.inr (.inr (some (.ref x))))
  | some (.object _), [.null] => some (.inr (.inr (some .null)))
  | _, _ => none
def rtV : Option FieldType → List Value → mR
  | none, [] => some (.inr (.inr none))
  | _, _ => none
def stI (y pc : Nat) (loc : mL) (stk : List Value) (h : mH) : Instr → mR
  | .iconst n => nx (pc + 1) loc (.int (Int32.ofInt n) :: stk) h
  | .bipush n => nx (pc + 2) loc (.int (Int8.ofInt n).toInt32 :: stk) h
  | .sipush n => nx (pc + 3) loc (.int (Int16.ofInt n).toInt32 :: stk) h
  | .lconst n => nx (pc + 1) loc (.long (Int64.ofNat (n : Nat)) :: stk) h
  | .aconst_null => nx (pc + 1) loc (.null :: stk) h
  | .ldc i => match (lk y i).1 with
    | 7 => nx (pc + 2) loc (.int (lk y i).2.2.2.toInt32 :: stk) h
    | _ => none
  | .ldc2_w i => match (lk y i).1 with
    | 8 => nx (pc + 3) loc (.long (lk y i).2.2.2 :: stk) h
    | _ => none
  | .iload_n k => ldI (pc + 1) loc stk h (lget loc k)
  | .iload i => ldI (pc + 2) loc stk h (lget loc i)
  | .lload_n k => ldL (pc + 1) loc stk h (lget loc k)
  | .lload i => ldL (pc + 2) loc stk h (lget loc i)
  | .aload_n k => ldA (pc + 1) loc stk h (lget loc k)
  | .aload i => ldA (pc + 2) loc stk h (lget loc i)
  | .istore_n k => stoI (pc + 1) k loc h stk
  | .istore i => stoI (pc + 2) i loc h stk
  | .lstore_n k => stoL (pc + 1) k loc h stk
  | .lstore i => stoL (pc + 2) i loc h stk
  | .astore_n k => stoA (pc + 1) k loc h stk
  | .astore i => stoA (pc + 2) i loc h stk
  | .iinc i n => match lget loc i with
    | some (.int x) => nx (pc + 3) (st1 loc i (.int (x + Int32.ofInt n))) stk h
    | _ => none
  | .iadd => nxs (pc + 1) loc h (op2 (fun x y => x + y) stk)
  | .isub => nxs (pc + 1) loc h (op2 (fun x y => x - y) stk)
  | .imul => nxs (pc + 1) loc h (op2 (fun x y => x * y) stk)
  | .iand => nxs (pc + 1) loc h (op2 (fun x y => x &&& y) stk)
  | .ior => nxs (pc + 1) loc h (op2 (fun x y => x ||| y) stk)
  | .ixor => nxs (pc + 1) loc h (op2 (fun x y => x ^^^ y) stk)
  | .irem => match stk with
    | .int y :: .int x :: r => if y = 0 then none else nx (pc + 1) loc (.int (x - x / y * y) :: r) h
    | _ => none
  | .ladd => nxs (pc + 1) loc h (op2L (fun x y => x + y) stk)
  | .lsub => nxs (pc + 1) loc h (op2L (fun x y => x - y) stk)
  | .lmul => nxs (pc + 1) loc h (op2L (fun x y => x * y) stk)
  | .land => nxs (pc + 1) loc h (op2L (fun x y => x &&& y) stk)
  | .lor => nxs (pc + 1) loc h (op2L (fun x y => x ||| y) stk)
  | .lxor => nxs (pc + 1) loc h (op2L (fun x y => x ^^^ y) stk)
  | .lshl => nxs (pc + 1) loc h (opSh (fun x y => x <<< (y.toInt64 &&& 63)) stk)
  | .lshr => nxs (pc + 1) loc h (opSh (fun x y => x >>> (y.toInt64 &&& 63)) stk)
  | .lushr => nxs (pc + 1) loc h (opSh (fun x y => (x.toUInt64 >>> (y.toInt64.toUInt64 &&& Int64.toUInt64 63)).toInt64) stk)
  | .lcmp => nxs (pc + 1) loc h (opCmp stk)
  | .i2l => nxs (pc + 1) loc h (opIL (fun x => x.toInt64) stk)
  | .l2i => nxs (pc + 1) loc h (opLI (fun x => x.toInt32) stk)
  | .i2b => nxs (pc + 1) loc h (opI (fun x => x.toInt8.toInt32) stk)
  | .i2s => nxs (pc + 1) loc h (opI (fun x => x.toInt16.toInt32) stk)
  | .dup => nxs (pc + 1) loc h (opDup stk)
  | .dup2 => nxs (pc + 1) loc h (opDup2 stk)
  | .ifCond c off => stIf pc loc h c off stk
  | .if_icmp c off => stCmp pc loc h c off stk
  | .goto off => match jok pc off with
    | true => nx (jmp pc off) loc stk h
    | false => none
  | .ifnull off => stNull pc loc h off stk
  | .ifnonnull off => stNon pc loc h off stk
  | .tableswitch dflt lo hi offs => stSw pc loc h dflt (tok lo hi offs.toList) (tbl lo offs.toList) stk
  | .lookupswitch dflt ps => stSw pc loc h dflt (swok ps.toList) ps.toList stk
  | .getfield i => gfl pc loc h (lk y i) stk
  | .putfield i => pfl pc loc h (lk y i) stk
  | .iaload => arI pc loc h stk
  | .laload => arL pc loc h stk
  | .aaload => arA pc loc h stk
  | .iastore => asI pc loc h stk
  | .lastore => asL pc loc h stk
  | .invokestatic i => ivS y pc loc h (lk y i) stk
  | .invokevirtual i => ivV y pc loc (lk y i) stk
  | .ireturn => rtI (md y).2.2.2.1 stk
  | .lreturn => rtL (md y).2.2.2.1 stk
  | .areturn => rtA (md y).2.2.2.1 stk
  | .return_ => rtV (md y).2.2.2.1 stk
  | _ => none
def stp (y pc : Nat) (loc : mL) (stk : List Value) (h : mH) : mR := match decode (md y).2.1 pc with
  | .ok (i, _) => stI y pc loc stk h i
  | .error _ => none
def ents : List Value → mL
  | [] => []
  | .long x :: r => some (.long x) :: none :: ents r
  | v :: r => some v :: ents r
def ent (y : Nat) (as : List Value) : mL := ents as ++ List.replicate ((md y).2.2.1 - (ents as).length) none
def retK : Option FieldType → Option Value → Option (List Value)
  | none, none => some []
  | some .int, some (.int r) => some [.int r]
  | some .boolean, some (.int r) => some [.int r]
  | some .long, some (.long r) => some [.long r]
  | some (.object _), some (.ref k) => some [.ref k]
  | some (.object _), some .null => some [.null]
  | _, _ => none
def run : Nat → Nat → Nat → mL → List Value → mH → Option (Option Value × mH)
  | 0, _, _, _, _, _ => none
  | n + 1, y, pc, loc, stk, h => match stp y pc loc stk h with
    | none => none
    | some (.inl (pc', loc', stk', h')) => run n y pc' loc' stk' h'
    | some (.inr (.inl (y', as, pc', loc', r))) => (run n y' 0 (ent y' as) [] h).bind fun q => (retK (md y').2.2.2.1 q.1).bind fun vs => run n y pc' loc' (vs ++ r) q.2
    | some (.inr (.inr v)) => some (v, h)
theorem run_mono : ∀ (n y pc : Nat) (loc : mL) (stk : List Value) (h : mH) (r : Option Value × mH), run n y pc loc stk h = some r → run (n + 1) y pc loc stk h = some r
  | 0, _, _, _, _, _, _, hr => by simp [run] at hr
  | n + 1, y, pc, loc, stk, h, r, hr => by
    unfold run at hr ⊢
    cases hs : stp y pc loc stk h with
    | none => rw [hs] at hr; cases hr
    | some q =>
      rw [hs] at hr
      match q with
      | .inl (pc', loc', stk', h') => exact run_mono n y pc' loc' stk' h' r hr
      | .inr (.inl (y', as, pc', loc', r')) =>
        dsimp only at hr ⊢
        obtain ⟨q1, h1, h2⟩ := Option.bind_eq_some_iff.mp hr
        obtain ⟨vs, h3, h4⟩ := Option.bind_eq_some_iff.mp h2
        rw [run_mono n y' 0 (ent y' as) [] h q1 h1]
        show ((retK (md y').2.2.2.1 q1.1).bind fun vs => run (n + 1) y pc' loc' (vs ++ r') q1.2) = some r
        rw [h3]
        exact run_mono n y pc' loc' (vs ++ r') q1.2 r h4
      | .inr (.inr v) => exact hr
theorem run_le {n m : Nat} (hnm : n ≤ m) {y pc : Nat} {loc : mL} {stk : List Value} {h : mH} {r : Option Value × mH} (hr : run n y pc loc stk h = some r) : run m y pc loc stk h = some r := by
  induction hnm with
  | refl => exact hr
  | step _ ih => exact run_mono _ _ _ _ _ _ _ ih
theorem run_lim (y pc : Nat) (loc : mL) (stk : List Value) (h : mH) : ∃ o, ∃ n, ∀ k, n ≤ k → run k y pc loc stk h = o := by
  rcases Classical.em (∃ n r, run n y pc loc stk h = some r) with ⟨n, r, hr⟩ | hn
  · exact ⟨some r, n, fun k hk => run_le hk hr⟩
  · refine ⟨none, 0, fun k _ => ?_⟩
    cases hk : run k y pc loc stk h with
    | none => rfl
    | some r => exact absurd ⟨k, r, hk⟩ hn
/-- what a method comes to from here: none, if it never ends -/
noncomputable def Ev (y pc : Nat) (loc : mL) (stk : List Value) (h : mH) : Option (Option Value × mH) := Classical.choose (run_lim y pc loc stk h)
theorem ev_lim (y pc : Nat) (loc : mL) (stk : List Value) (h : mH) : ∃ n, ∀ k, n ≤ k → run k y pc loc stk h = Ev y pc loc stk h := Classical.choose_spec (run_lim y pc loc stk h)
theorem ev_of_run {n y pc : Nat} {loc : mL} {stk : List Value} {h : mH} {r : Option Value × mH} (hr : run n y pc loc stk h = some r) : Ev y pc loc stk h = some r := by
  obtain ⟨k, hk⟩ := ev_lim y pc loc stk h
  rw [← hk (k + n) (by omega)]
  exact run_le (by omega) hr
theorem run_of_ev {y pc : Nat} {loc : mL} {stk : List Value} {h : mH} {r : Option Value × mH} (hr : Ev y pc loc stk h = some r) : ∃ n, run n y pc loc stk h = some r := by
  obtain ⟨k, hk⟩ := ev_lim y pc loc stk h
  exact ⟨k, (hk k (Nat.le_refl k)).trans hr⟩
noncomputable def Rt (y : Nat) (as : List Value) (h : mH) : Option (Option Value × mH) := Ev y 0 (ent y as) [] h
noncomputable def fin (y : Nat) (h : mH) : mR → Option (Option Value × mH)
  | none => none
  | some (.inl (pc', loc', stk', h')) => Ev y pc' loc' stk' h'
  | some (.inr (.inl (y', as, pc', loc', r))) => (Rt y' as h).bind fun q => (retK (md y').2.2.2.1 q.1).bind fun vs => Ev y pc' loc' (vs ++ r) q.2
  | some (.inr (.inr v)) => some (v, h)
theorem ev_fin (y pc : Nat) (loc : mL) (stk : List Value) (h : mH) : Ev y pc loc stk h = fin y h (stp y pc loc stk h) := by
  obtain ⟨k, hk⟩ := ev_lim y pc loc stk h
  cases hs : stp y pc loc stk h with
  | none =>
    rw [← hk (k + 1) (by omega)]
    unfold run; rw [hs]; rfl
  | some q =>
    match q with
    | .inl (pc', loc', stk', h') =>
      obtain ⟨k2, hk2⟩ := ev_lim y pc' loc' stk' h'
      show _ = Ev y pc' loc' stk' h'
      rw [← hk (k + k2 + 1) (by omega), ← hk2 (k + k2) (by omega)]
      conv => lhs; unfold run
      rw [hs]
    | .inr (.inr v) =>
      rw [← hk (k + 1) (by omega)]
      unfold run; rw [hs]; rfl
    | .inr (.inl (y', as, pc', loc', r)) =>
      obtain ⟨k2, hk2⟩ := ev_lim y' 0 (ent y' as) [] h
      show _ = (Rt y' as h).bind fun q => (retK (md y').2.2.2.1 q.1).bind fun vs => Ev y pc' loc' (vs ++ r) q.2
      cases hc : Rt y' as h with
      | none =>
        have hc' : Ev y' 0 (ent y' as) [] h = none := hc
        rw [← hk (k + k2 + 1) (by omega)]
        conv => lhs; unfold run
        rw [hs]
        show ((run (k + k2) y' 0 (ent y' as) [] h).bind _) = _
        rw [hk2 (k + k2) (by omega), hc']; rfl
      | some q =>
        have hc' : Ev y' 0 (ent y' as) [] h = some q := hc
        show _ = (retK (md y').2.2.2.1 q.1).bind fun vs => Ev y pc' loc' (vs ++ r) q.2
        cases hv : retK (md y').2.2.2.1 q.1 with
        | none =>
          rw [← hk (k + k2 + 1) (by omega)]
          conv => lhs; unfold run
          rw [hs]
          show ((run (k + k2) y' 0 (ent y' as) [] h).bind _) = _
          rw [hk2 (k + k2) (by omega), hc']
          show ((retK (md y').2.2.2.1 q.1).bind _) = _
          rw [hv]; rfl
        | some vs =>
          obtain ⟨k3, hk3⟩ := ev_lim y pc' loc' (vs ++ r) q.2
          show _ = Ev y pc' loc' (vs ++ r) q.2
          rw [← hk (k + k2 + k3 + 1) (by omega), ← hk3 (k + k2 + k3) (by omega)]
          conv => lhs; unfold run
          rw [hs]
          show ((run (k + k2 + k3) y' 0 (ent y' as) [] h).bind _) = _
          rw [hk2 (k + k2 + k3) (by omega), hc']
          show ((retK (md y').2.2.2.1 q.1).bind _) = _
          rw [hv]; rfl
theorem ev_step {y pc : Nat} {loc : mL} {stk : List Value} {h : mH} {i : Instr} {len : Nat} (hd : decode (md y).2.1 pc = .ok (i, len)) : Ev y pc loc stk h = fin y h (stI y pc loc stk h i) := by
  rw [ev_fin]
  unfold stp
  rw [hd]
/-- what a call gives, by the kind of its answer -/
def rI (o : Option (Option Value × mH)) (k : Int32 → mH → Option (Option Value × mH)) : Option (Option Value × mH) := match o with
  | some (some (.int r), h) => k r h
  | _ => none
def rL (o : Option (Option Value × mH)) (k : Int64 → mH → Option (Option Value × mH)) : Option (Option Value × mH) := match o with
  | some (some (.long r), h) => k r h
  | _ => none
def rV (o : Option (Option Value × mH)) (k : mH → Option (Option Value × mH)) : Option (Option Value × mH) := match o with
  | some (none, h) => k h
  | _ => none
def rA (o : Option (Option Value × mH)) (k : Value → mH → Option (Option Value × mH)) : Option (Option Value × mH) := match o with
  | some (some (.ref r), h) => k (.ref r) h
  | some (some .null, h) => k .null h
  | _ => none
theorem rI_some (r : Int32) (h : mH) (k : Int32 → mH → Option (Option Value × mH)) : rI (some (some (.int r), h)) k = k r h := rfl
theorem rL_some (r : Int64) (h : mH) (k : Int64 → mH → Option (Option Value × mH)) : rL (some (some (.long r), h)) k = k r h := rfl
theorem rV_some (h : mH) (k : mH → Option (Option Value × mH)) : rV (some (none, h)) k = k h := rfl
theorem rA_ref (r : Nat) (h : mH) (k : Value → mH → Option (Option Value × mH)) : rA (some (some (.ref r), h)) k = k (.ref r) h := rfl
theorem rA_null (h : mH) (k : Value → mH → Option (Option Value × mH)) : rA (some (some .null, h)) k = k .null h := rfl
theorem fin_nx (y : Nat) (h : mH) (pc' : Nat) (loc' : mL) (stk' : List Value) (h' : mH) : fin y h (some (.inl (pc', loc', stk', h'))) = Ev y pc' loc' stk' h' := rfl
theorem fin_if (y : Nat) (h : mH) (p : Prop) [d : Decidable p] (a b : mR) : fin y h (if p then a else b) = if p then fin y h a else fin y h b := by split <;> rfl
theorem fin_I {y y' pc' : Nat} {as r : List Value} {loc' : mL} {h : mH} (hk : (md y').2.2.2.1 = some .int ∨ (md y').2.2.2.1 = some .boolean) : fin y h (some (.inr (.inl (y', as, pc', loc', r)))) = rI (Rt y' as h) (fun x h1 => Ev y pc' loc' (.int x :: r) h1) := by
  show (Rt y' as h).bind _ = _
  rcases hk with hk | hk <;> rw [hk] <;> rcases Rt y' as h with _ | ⟨_ | v, h1⟩ <;> first | rfl | (cases v <;> rfl)
theorem fin_L {y y' pc' : Nat} {as r : List Value} {loc' : mL} {h : mH} (hk : (md y').2.2.2.1 = some .long) : fin y h (some (.inr (.inl (y', as, pc', loc', r)))) = rL (Rt y' as h) (fun x h1 => Ev y pc' loc' (.long x :: r) h1) := by
  show (Rt y' as h).bind _ = _
  rw [hk]; rcases Rt y' as h with _ | ⟨_ | v, h1⟩ <;> first | rfl | (cases v <;> rfl)
theorem fin_V {y y' pc' : Nat} {as r : List Value} {loc' : mL} {h : mH} (hk : (md y').2.2.2.1 = none) : fin y h (some (.inr (.inl (y', as, pc', loc', r)))) = rV (Rt y' as h) (fun h1 => Ev y pc' loc' r h1) := by
  show (Rt y' as h).bind _ = _
  rw [hk]; rcases Rt y' as h with _ | ⟨_ | v, h1⟩ <;> first | rfl | (cases v <;> rfl)
theorem fin_A {y y' pc' : Nat} {as r : List Value} {loc' : mL} {h : mH} {n : String} (hk : (md y').2.2.2.1 = some (.object n)) : fin y h (some (.inr (.inl (y', as, pc', loc', r)))) = rA (Rt y' as h) (fun x h1 => Ev y pc' loc' (x :: r) h1) := by
  show (Rt y' as h).bind _ = _
  rw [hk]; rcases Rt y' as h with _ | ⟨_ | v, h1⟩ <;> first | rfl | (cases v <;> rfl)
end
