-- ===== PART A: goes FIRST, ahead of the names: the tables' words, and 'selects' of the private methods out of them =====
/-- a private method of a class that the tables say can be made, by its rows of tables_1 -/
def lw_okq (q : MethodName × Nat) : Prop := (q.1.cls ≠ "java/lang/invoke/MethodHandle" ∧ q.1.cls ≠ "java/lang/invoke/VarHandle") ∧ Cond.instantiable q.1.cls q.2 ∈ tables_1 ∧ Cond.privateMethod q.1 ∈ tables_1 ∧ Cond.instanceMethod q.1 ∈ tables_1
theorem lw_p0 : lw_okq (⟨"CommitIndex", "sheetAt", "(I)LCommitIndex$Sheet;"⟩, 8) := ⟨⟨by decide +kernel, by decide +kernel⟩, List.mem_of_getElem? (i := 14) (by decide +kernel), List.mem_of_getElem? (i := 295) (by decide +kernel), List.mem_of_getElem? (i := 296) (by decide +kernel)⟩
theorem lw_p1 : lw_okq (⟨"CommitIndex", "finding", "(I)I"⟩, 8) := ⟨⟨by decide +kernel, by decide +kernel⟩, List.mem_of_getElem? (i := 14) (by decide +kernel), List.mem_of_getElem? (i := 303) (by decide +kernel), List.mem_of_getElem? (i := 304) (by decide +kernel)⟩
theorem lw_p2 : lw_okq (⟨"CommitIndex$History", "joinLayers", "()V"⟩, 9) := ⟨⟨by decide +kernel, by decide +kernel⟩, List.mem_of_getElem? (i := 22) (by decide +kernel), List.mem_of_getElem? (i := 323) (by decide +kernel), List.mem_of_getElem? (i := 324) (by decide +kernel)⟩
theorem lw_p3 : lw_okq (⟨"CommitIndex$Painting", "passOn", "(IJ)V"⟩, 7) := ⟨⟨by decide +kernel, by decide +kernel⟩, List.mem_of_getElem? (i := 81) (by decide +kernel), List.mem_of_getElem? (i := 414) (by decide +kernel), List.mem_of_getElem? (i := 415) (by decide +kernel)⟩
theorem lw_p4 : lw_okq (⟨"CommitIndex$Paths", "passOn", "(II)V"⟩, 2) := ⟨⟨by decide +kernel, by decide +kernel⟩, List.mem_of_getElem? (i := 111) (by decide +kernel), List.mem_of_getElem? (i := 432) (by decide +kernel), List.mem_of_getElem? (i := 433) (by decide +kernel)⟩
theorem lw_p5 : lw_okq (⟨"CommitIndex", "walkPart", "(I)I"⟩, 8) := ⟨⟨by decide +kernel, by decide +kernel⟩, List.mem_of_getElem? (i := 14) (by decide +kernel), List.mem_of_getElem? (i := 494) (by decide +kernel), List.mem_of_getElem? (i := 495) (by decide +kernel)⟩
theorem lw_p6 : lw_okq (⟨"CommitIndex$Exchange", "tell", "(LCommitIndex$History;)V"⟩, 12) := ⟨⟨by decide +kernel, by decide +kernel⟩, List.mem_of_getElem? (i := 147) (by decide +kernel), List.mem_of_getElem? (i := 528) (by decide +kernel), List.mem_of_getElem? (i := 529) (by decide +kernel)⟩
theorem lw_p7 : lw_okq (⟨"CommitIndex$Exchange", "answer", "(LCommitIndex$History;I)V"⟩, 12) := ⟨⟨by decide +kernel, by decide +kernel⟩, List.mem_of_getElem? (i := 147) (by decide +kernel), List.mem_of_getElem? (i := 537) (by decide +kernel), List.mem_of_getElem? (i := 538) (by decide +kernel)⟩
theorem lw_p8 : lw_okq (⟨"CommitIndex$Exchange", "isServed", "(LCommitIndex$History;)Z"⟩, 12) := ⟨⟨by decide +kernel, by decide +kernel⟩, List.mem_of_getElem? (i := 147) (by decide +kernel), List.mem_of_getElem? (i := 543) (by decide +kernel), List.mem_of_getElem? (i := 544) (by decide +kernel)⟩
theorem lw_p9 : lw_okq (⟨"CommitIndex$Sheet", "narrowed", "(I)I"⟩, 3) := ⟨⟨by decide +kernel, by decide +kernel⟩, List.mem_of_getElem? (i := 197) (by decide +kernel), List.mem_of_getElem? (i := 604) (by decide +kernel), List.mem_of_getElem? (i := 605) (by decide +kernel)⟩
theorem lw_p10 : lw_okq (⟨"CommitIndex", "countPart", "(I)I"⟩, 8) := ⟨⟨by decide +kernel, by decide +kernel⟩, List.mem_of_getElem? (i := 14) (by decide +kernel), List.mem_of_getElem? (i := 637) (by decide +kernel), List.mem_of_getElem? (i := 638) (by decide +kernel)⟩
theorem lw_p11 : lw_okq (⟨"CommitIndex", "mixCounts", "(J)J"⟩, 8) := ⟨⟨by decide +kernel, by decide +kernel⟩, List.mem_of_getElem? (i := 14) (by decide +kernel), List.mem_of_getElem? (i := 646) (by decide +kernel), List.mem_of_getElem? (i := 647) (by decide +kernel)⟩
theorem lw_p12 : lw_okq (⟨"CommitIndex", "mixCommit", "(JI)J"⟩, 8) := ⟨⟨by decide +kernel, by decide +kernel⟩, List.mem_of_getElem? (i := 14) (by decide +kernel), List.mem_of_getElem? (i := 654) (by decide +kernel), List.mem_of_getElem? (i := 655) (by decide +kernel)⟩
theorem lw_p13 : lw_okq (⟨"CommitIndex", "mixKept", "(JI)J"⟩, 8) := ⟨⟨by decide +kernel, by decide +kernel⟩, List.mem_of_getElem? (i := 14) (by decide +kernel), List.mem_of_getElem? (i := 659) (by decide +kernel), List.mem_of_getElem? (i := 660) (by decide +kernel)⟩
theorem lw_p14 : lw_okq (⟨"CommitIndex", "mixPairs", "(JII)J"⟩, 8) := ⟨⟨by decide +kernel, by decide +kernel⟩, List.mem_of_getElem? (i := 14) (by decide +kernel), List.mem_of_getElem? (i := 664) (by decide +kernel), List.mem_of_getElem? (i := 665) (by decide +kernel)⟩
theorem lw_p15 : lw_okq (⟨"CommitIndex", "mixExchange", "(J)J"⟩, 8) := ⟨⟨by decide +kernel, by decide +kernel⟩, List.mem_of_getElem? (i := 14) (by decide +kernel), List.mem_of_getElem? (i := 668) (by decide +kernel), List.mem_of_getElem? (i := 669) (by decide +kernel)⟩
def lw_privs_1 : List (MethodName × Nat) := [(⟨"CommitIndex", "sheetAt", "(I)LCommitIndex$Sheet;"⟩, 8), (⟨"CommitIndex", "finding", "(I)I"⟩, 8), (⟨"CommitIndex$History", "joinLayers", "()V"⟩, 9), (⟨"CommitIndex$Painting", "passOn", "(IJ)V"⟩, 7), (⟨"CommitIndex$Paths", "passOn", "(II)V"⟩, 2), (⟨"CommitIndex", "walkPart", "(I)I"⟩, 8), (⟨"CommitIndex$Exchange", "tell", "(LCommitIndex$History;)V"⟩, 12), (⟨"CommitIndex$Exchange", "answer", "(LCommitIndex$History;I)V"⟩, 12), (⟨"CommitIndex$Exchange", "isServed", "(LCommitIndex$History;)Z"⟩, 12), (⟨"CommitIndex$Sheet", "narrowed", "(I)I"⟩, 3), (⟨"CommitIndex", "countPart", "(I)I"⟩, 8), (⟨"CommitIndex", "mixCounts", "(J)J"⟩, 8), (⟨"CommitIndex", "mixCommit", "(JI)J"⟩, 8), (⟨"CommitIndex", "mixKept", "(JI)J"⟩, 8), (⟨"CommitIndex", "mixPairs", "(JII)J"⟩, 8), (⟨"CommitIndex", "mixExchange", "(J)J"⟩, 8)]
theorem lw_r1 : ∀ q ∈ lw_privs_1, lw_okq q := List.forall_mem_cons.mpr ⟨lw_p0, List.forall_mem_cons.mpr ⟨lw_p1, List.forall_mem_cons.mpr ⟨lw_p2, List.forall_mem_cons.mpr ⟨lw_p3, List.forall_mem_cons.mpr ⟨lw_p4, List.forall_mem_cons.mpr ⟨lw_p5, List.forall_mem_cons.mpr ⟨lw_p6, List.forall_mem_cons.mpr ⟨lw_p7, List.forall_mem_cons.mpr ⟨lw_p8, List.forall_mem_cons.mpr ⟨lw_p9, List.forall_mem_cons.mpr ⟨lw_p10, List.forall_mem_cons.mpr ⟨lw_p11, List.forall_mem_cons.mpr ⟨lw_p12, List.forall_mem_cons.mpr ⟨lw_p13, List.forall_mem_cons.mpr ⟨lw_p14, List.forall_mem_cons.mpr ⟨lw_p15, fun _ h => absurd h List.not_mem_nil⟩⟩⟩⟩⟩⟩⟩⟩⟩⟩⟩⟩⟩⟩⟩⟩
theorem lw_p16 : lw_okq (⟨"CommitIndexModel", "finds", "(I)I"⟩, 31) := ⟨⟨by decide +kernel, by decide +kernel⟩, List.mem_of_getElem? (i := 672) (by decide +kernel), List.mem_of_getElem? (i := 784) (by decide +kernel), List.mem_of_getElem? (i := 785) (by decide +kernel)⟩
theorem lw_p17 : lw_okq (⟨"CommitIndexModel", "lacks", "(III)I"⟩, 31) := ⟨⟨by decide +kernel, by decide +kernel⟩, List.mem_of_getElem? (i := 672) (by decide +kernel), List.mem_of_getElem? (i := 796) (by decide +kernel), List.mem_of_getElem? (i := 797) (by decide +kernel)⟩
theorem lw_p18 : lw_okq (⟨"CommitIndexModel", "isNew", "(III)Z"⟩, 31) := ⟨⟨by decide +kernel, by decide +kernel⟩, List.mem_of_getElem? (i := 672) (by decide +kernel), List.mem_of_getElem? (i := 816) (by decide +kernel), List.mem_of_getElem? (i := 817) (by decide +kernel)⟩
theorem lw_p19 : lw_okq (⟨"CommitIndexModel", "layerBy", "(I)I"⟩, 31) := ⟨⟨by decide +kernel, by decide +kernel⟩, List.mem_of_getElem? (i := 672) (by decide +kernel), List.mem_of_getElem? (i := 843) (by decide +kernel), List.mem_of_getElem? (i := 844) (by decide +kernel)⟩
theorem lw_p20 : lw_okq (⟨"CommitIndexModel", "isCommit", "(I)Z"⟩, 31) := ⟨⟨by decide +kernel, by decide +kernel⟩, List.mem_of_getElem? (i := 672) (by decide +kernel), List.mem_of_getElem? (i := 860) (by decide +kernel), List.mem_of_getElem? (i := 861) (by decide +kernel)⟩
theorem lw_p21 : lw_okq (⟨"CommitIndexModel", "commitBy", "(II)I"⟩, 31) := ⟨⟨by decide +kernel, by decide +kernel⟩, List.mem_of_getElem? (i := 672) (by decide +kernel), List.mem_of_getElem? (i := 865) (by decide +kernel), List.mem_of_getElem? (i := 866) (by decide +kernel)⟩
theorem lw_p22 : lw_okq (⟨"CommitIndexModel", "generation", "(I)I"⟩, 31) := ⟨⟨by decide +kernel, by decide +kernel⟩, List.mem_of_getElem? (i := 672) (by decide +kernel), List.mem_of_getElem? (i := 869) (by decide +kernel), List.mem_of_getElem? (i := 870) (by decide +kernel)⟩
theorem lw_p23 : lw_okq (⟨"CommitIndexModel", "children", "(I)I"⟩, 31) := ⟨⟨by decide +kernel, by decide +kernel⟩, List.mem_of_getElem? (i := 672) (by decide +kernel), List.mem_of_getElem? (i := 873) (by decide +kernel), List.mem_of_getElem? (i := 874) (by decide +kernel)⟩
theorem lw_p24 : lw_okq (⟨"CommitIndexModel", "reachOf", "(I)J"⟩, 31) := ⟨⟨by decide +kernel, by decide +kernel⟩, List.mem_of_getElem? (i := 672) (by decide +kernel), List.mem_of_getElem? (i := 881) (by decide +kernel), List.mem_of_getElem? (i := 882) (by decide +kernel)⟩
theorem lw_p25 : lw_okq (⟨"CommitIndexModel", "parent", "(II)I"⟩, 31) := ⟨⟨by decide +kernel, by decide +kernel⟩, List.mem_of_getElem? (i := 672) (by decide +kernel), List.mem_of_getElem? (i := 885) (by decide +kernel), List.mem_of_getElem? (i := 886) (by decide +kernel)⟩
theorem lw_p26 : lw_okq (⟨"CommitIndexModel", "lookBy", "(III)I"⟩, 31) := ⟨⟨by decide +kernel, by decide +kernel⟩, List.mem_of_getElem? (i := 672) (by decide +kernel), List.mem_of_getElem? (i := 900) (by decide +kernel), List.mem_of_getElem? (i := 901) (by decide +kernel)⟩
theorem lw_p27 : lw_okq (⟨"CommitIndexModel", "looks", "(III)I"⟩, 31) := ⟨⟨by decide +kernel, by decide +kernel⟩, List.mem_of_getElem? (i := 672) (by decide +kernel), List.mem_of_getElem? (i := 904) (by decide +kernel), List.mem_of_getElem? (i := 905) (by decide +kernel)⟩
theorem lw_p28 : lw_okq (⟨"CommitIndexModel", "next", "(J)I"⟩, 31) := ⟨⟨by decide +kernel, by decide +kernel⟩, List.mem_of_getElem? (i := 672) (by decide +kernel), List.mem_of_getElem? (i := 908) (by decide +kernel), List.mem_of_getElem? (i := 909) (by decide +kernel)⟩
theorem lw_p29 : lw_okq (⟨"CommitIndexModel", "basesOf", "(II)J"⟩, 31) := ⟨⟨by decide +kernel, by decide +kernel⟩, List.mem_of_getElem? (i := 672) (by decide +kernel), List.mem_of_getElem? (i := 916) (by decide +kernel), List.mem_of_getElem? (i := 917) (by decide +kernel)⟩
theorem lw_p30 : lw_okq (⟨"CommitIndexModel", "paintsOf", "(II)I"⟩, 31) := ⟨⟨by decide +kernel, by decide +kernel⟩, List.mem_of_getElem? (i := 672) (by decide +kernel), List.mem_of_getElem? (i := 924) (by decide +kernel), List.mem_of_getElem? (i := 925) (by decide +kernel)⟩
theorem lw_p31 : lw_okq (⟨"CommitIndexModel", "waysOf", "(II)J"⟩, 31) := ⟨⟨by decide +kernel, by decide +kernel⟩, List.mem_of_getElem? (i := 672) (by decide +kernel), List.mem_of_getElem? (i := 932) (by decide +kernel), List.mem_of_getElem? (i := 933) (by decide +kernel)⟩
def lw_privs_2 : List (MethodName × Nat) := [(⟨"CommitIndexModel", "finds", "(I)I"⟩, 31), (⟨"CommitIndexModel", "lacks", "(III)I"⟩, 31), (⟨"CommitIndexModel", "isNew", "(III)Z"⟩, 31), (⟨"CommitIndexModel", "layerBy", "(I)I"⟩, 31), (⟨"CommitIndexModel", "isCommit", "(I)Z"⟩, 31), (⟨"CommitIndexModel", "commitBy", "(II)I"⟩, 31), (⟨"CommitIndexModel", "generation", "(I)I"⟩, 31), (⟨"CommitIndexModel", "children", "(I)I"⟩, 31), (⟨"CommitIndexModel", "reachOf", "(I)J"⟩, 31), (⟨"CommitIndexModel", "parent", "(II)I"⟩, 31), (⟨"CommitIndexModel", "lookBy", "(III)I"⟩, 31), (⟨"CommitIndexModel", "looks", "(III)I"⟩, 31), (⟨"CommitIndexModel", "next", "(J)I"⟩, 31), (⟨"CommitIndexModel", "basesOf", "(II)J"⟩, 31), (⟨"CommitIndexModel", "paintsOf", "(II)I"⟩, 31), (⟨"CommitIndexModel", "waysOf", "(II)J"⟩, 31)]
theorem lw_r2 : ∀ q ∈ lw_privs_2, lw_okq q := List.forall_mem_cons.mpr ⟨lw_p16, List.forall_mem_cons.mpr ⟨lw_p17, List.forall_mem_cons.mpr ⟨lw_p18, List.forall_mem_cons.mpr ⟨lw_p19, List.forall_mem_cons.mpr ⟨lw_p20, List.forall_mem_cons.mpr ⟨lw_p21, List.forall_mem_cons.mpr ⟨lw_p22, List.forall_mem_cons.mpr ⟨lw_p23, List.forall_mem_cons.mpr ⟨lw_p24, List.forall_mem_cons.mpr ⟨lw_p25, List.forall_mem_cons.mpr ⟨lw_p26, List.forall_mem_cons.mpr ⟨lw_p27, List.forall_mem_cons.mpr ⟨lw_p28, List.forall_mem_cons.mpr ⟨lw_p29, List.forall_mem_cons.mpr ⟨lw_p30, List.forall_mem_cons.mpr ⟨lw_p31, fun _ h => absurd h List.not_mem_nil⟩⟩⟩⟩⟩⟩⟩⟩⟩⟩⟩⟩⟩⟩⟩⟩
theorem lw_p32 : lw_okq (⟨"CommitIndexModel", "goesDown", "(I)V"⟩, 31) := ⟨⟨by decide +kernel, by decide +kernel⟩, List.mem_of_getElem? (i := 672) (by decide +kernel), List.mem_of_getElem? (i := 936) (by decide +kernel), List.mem_of_getElem? (i := 937) (by decide +kernel)⟩
theorem lw_p33 : lw_okq (⟨"CommitIndexModel", "farOf", "(II)I"⟩, 31) := ⟨⟨by decide +kernel, by decide +kernel⟩, List.mem_of_getElem? (i := 672) (by decide +kernel), List.mem_of_getElem? (i := 947) (by decide +kernel), List.mem_of_getElem? (i := 948) (by decide +kernel)⟩
theorem lw_p34 : lw_okq (⟨"CommitIndexModel", "keptBy", "(II)I"⟩, 31) := ⟨⟨by decide +kernel, by decide +kernel⟩, List.mem_of_getElem? (i := 672) (by decide +kernel), List.mem_of_getElem? (i := 955) (by decide +kernel), List.mem_of_getElem? (i := 956) (by decide +kernel)⟩
theorem lw_p35 : lw_okq (⟨"CommitIndexModel", "isKept", "(I)Z"⟩, 31) := ⟨⟨by decide +kernel, by decide +kernel⟩, List.mem_of_getElem? (i := 672) (by decide +kernel), List.mem_of_getElem? (i := 959) (by decide +kernel), List.mem_of_getElem? (i := 960) (by decide +kernel)⟩
theorem lw_p36 : lw_okq (⟨"CommitIndexModel", "rootOf", "(I)I"⟩, 31) := ⟨⟨by decide +kernel, by decide +kernel⟩, List.mem_of_getElem? (i := 672) (by decide +kernel), List.mem_of_getElem? (i := 963) (by decide +kernel), List.mem_of_getElem? (i := 964) (by decide +kernel)⟩
theorem lw_p37 : lw_okq (⟨"CommitIndexModel", "shareOf", "(I)I"⟩, 31) := ⟨⟨by decide +kernel, by decide +kernel⟩, List.mem_of_getElem? (i := 672) (by decide +kernel), List.mem_of_getElem? (i := 967) (by decide +kernel), List.mem_of_getElem? (i := 968) (by decide +kernel)⟩
theorem lw_p38 : lw_okq (⟨"CommitIndexModel", "rootsOf", "(I)I"⟩, 31) := ⟨⟨by decide +kernel, by decide +kernel⟩, List.mem_of_getElem? (i := 672) (by decide +kernel), List.mem_of_getElem? (i := 974) (by decide +kernel), List.mem_of_getElem? (i := 975) (by decide +kernel)⟩
theorem lw_p39 : lw_okq (⟨"CommitIndexModel", "walkBy", "(II)I"⟩, 31) := ⟨⟨by decide +kernel, by decide +kernel⟩, List.mem_of_getElem? (i := 672) (by decide +kernel), List.mem_of_getElem? (i := 982) (by decide +kernel), List.mem_of_getElem? (i := 983) (by decide +kernel)⟩
theorem lw_p40 : lw_okq (⟨"CommitIndexModel", "talks", "()V"⟩, 31) := ⟨⟨by decide +kernel, by decide +kernel⟩, List.mem_of_getElem? (i := 672) (by decide +kernel), List.mem_of_getElem? (i := 1002) (by decide +kernel), List.mem_of_getElem? (i := 1003) (by decide +kernel)⟩
theorem lw_p41 : lw_okq (⟨"CommitIndexModel", "reachAll", "(J)J"⟩, 31) := ⟨⟨by decide +kernel, by decide +kernel⟩, List.mem_of_getElem? (i := 672) (by decide +kernel), List.mem_of_getElem? (i := 1006) (by decide +kernel), List.mem_of_getElem? (i := 1007) (by decide +kernel)⟩
theorem lw_p42 : lw_okq (⟨"CommitIndexModel", "heads", "()J"⟩, 31) := ⟨⟨by decide +kernel, by decide +kernel⟩, List.mem_of_getElem? (i := 672) (by decide +kernel), List.mem_of_getElem? (i := 1010) (by decide +kernel), List.mem_of_getElem? (i := 1011) (by decide +kernel)⟩
theorem lw_p43 : lw_okq (⟨"CommitIndexModel", "nextTold", "()I"⟩, 31) := ⟨⟨by decide +kernel, by decide +kernel⟩, List.mem_of_getElem? (i := 672) (by decide +kernel), List.mem_of_getElem? (i := 1014) (by decide +kernel), List.mem_of_getElem? (i := 1015) (by decide +kernel)⟩
theorem lw_p44 : lw_okq (⟨"CommitIndexModel", "answers", "(I)V"⟩, 31) := ⟨⟨by decide +kernel, by decide +kernel⟩, List.mem_of_getElem? (i := 672) (by decide +kernel), List.mem_of_getElem? (i := 1018) (by decide +kernel), List.mem_of_getElem? (i := 1019) (by decide +kernel)⟩
theorem lw_p45 : lw_okq (⟨"CommitIndexModel", "isEnough", "()Z"⟩, 31) := ⟨⟨by decide +kernel, by decide +kernel⟩, List.mem_of_getElem? (i := 672) (by decide +kernel), List.mem_of_getElem? (i := 1022) (by decide +kernel), List.mem_of_getElem? (i := 1023) (by decide +kernel)⟩
theorem lw_p46 : lw_okq (⟨"CommitIndexModel", "setBy", "(I)J"⟩, 31) := ⟨⟨by decide +kernel, by decide +kernel⟩, List.mem_of_getElem? (i := 672) (by decide +kernel), List.mem_of_getElem? (i := 1027) (by decide +kernel), List.mem_of_getElem? (i := 1028) (by decide +kernel)⟩
theorem lw_p47 : lw_okq (⟨"CommitIndexModel", "toldBy", "(II)I"⟩, 31) := ⟨⟨by decide +kernel, by decide +kernel⟩, List.mem_of_getElem? (i := 672) (by decide +kernel), List.mem_of_getElem? (i := 1039) (by decide +kernel), List.mem_of_getElem? (i := 1040) (by decide +kernel)⟩
def lw_privs_3 : List (MethodName × Nat) := [(⟨"CommitIndexModel", "goesDown", "(I)V"⟩, 31), (⟨"CommitIndexModel", "farOf", "(II)I"⟩, 31), (⟨"CommitIndexModel", "keptBy", "(II)I"⟩, 31), (⟨"CommitIndexModel", "isKept", "(I)Z"⟩, 31), (⟨"CommitIndexModel", "rootOf", "(I)I"⟩, 31), (⟨"CommitIndexModel", "shareOf", "(I)I"⟩, 31), (⟨"CommitIndexModel", "rootsOf", "(I)I"⟩, 31), (⟨"CommitIndexModel", "walkBy", "(II)I"⟩, 31), (⟨"CommitIndexModel", "talks", "()V"⟩, 31), (⟨"CommitIndexModel", "reachAll", "(J)J"⟩, 31), (⟨"CommitIndexModel", "heads", "()J"⟩, 31), (⟨"CommitIndexModel", "nextTold", "()I"⟩, 31), (⟨"CommitIndexModel", "answers", "(I)V"⟩, 31), (⟨"CommitIndexModel", "isEnough", "()Z"⟩, 31), (⟨"CommitIndexModel", "setBy", "(I)J"⟩, 31), (⟨"CommitIndexModel", "toldBy", "(II)I"⟩, 31)]
theorem lw_r3 : ∀ q ∈ lw_privs_3, lw_okq q := List.forall_mem_cons.mpr ⟨lw_p32, List.forall_mem_cons.mpr ⟨lw_p33, List.forall_mem_cons.mpr ⟨lw_p34, List.forall_mem_cons.mpr ⟨lw_p35, List.forall_mem_cons.mpr ⟨lw_p36, List.forall_mem_cons.mpr ⟨lw_p37, List.forall_mem_cons.mpr ⟨lw_p38, List.forall_mem_cons.mpr ⟨lw_p39, List.forall_mem_cons.mpr ⟨lw_p40, List.forall_mem_cons.mpr ⟨lw_p41, List.forall_mem_cons.mpr ⟨lw_p42, List.forall_mem_cons.mpr ⟨lw_p43, List.forall_mem_cons.mpr ⟨lw_p44, List.forall_mem_cons.mpr ⟨lw_p45, List.forall_mem_cons.mpr ⟨lw_p46, List.forall_mem_cons.mpr ⟨lw_p47, fun _ h => absurd h List.not_mem_nil⟩⟩⟩⟩⟩⟩⟩⟩⟩⟩⟩⟩⟩⟩⟩⟩
theorem lw_p48 : lw_okq (⟨"CommitIndexModel", "thingsNow", "()I"⟩, 31) := ⟨⟨by decide +kernel, by decide +kernel⟩, List.mem_of_getElem? (i := 672) (by decide +kernel), List.mem_of_getElem? (i := 1047) (by decide +kernel), List.mem_of_getElem? (i := 1048) (by decide +kernel)⟩
theorem lw_p49 : lw_okq (⟨"CommitIndexModel", "tellsCommit", "(JII)J"⟩, 31) := ⟨⟨by decide +kernel, by decide +kernel⟩, List.mem_of_getElem? (i := 672) (by decide +kernel), List.mem_of_getElem? (i := 1066) (by decide +kernel), List.mem_of_getElem? (i := 1067) (by decide +kernel)⟩
def lw_privs_4 : List (MethodName × Nat) := [(⟨"CommitIndexModel", "thingsNow", "()I"⟩, 31), (⟨"CommitIndexModel", "tellsCommit", "(JII)J"⟩, 31)]
theorem lw_r4 : ∀ q ∈ lw_privs_4, lw_okq q := List.forall_mem_cons.mpr ⟨lw_p48, List.forall_mem_cons.mpr ⟨lw_p49, fun _ h => absurd h List.not_mem_nil⟩⟩
def lw_privs : List (MethodName × Nat) := lw_privs_1 ++ (lw_privs_2 ++ (lw_privs_3 ++ (lw_privs_4)))
def lw_tbl : List Cond := k2_sels lw_privs ++ tables_1
theorem lw_privs_ok : ∀ q ∈ lw_privs, lw_okq q := by
  show ∀ q ∈ lw_privs_1 ++ (lw_privs_2 ++ (lw_privs_3 ++ (lw_privs_4))), lw_okq q
  exact List.forall_mem_append.mpr ⟨lw_r1, List.forall_mem_append.mpr ⟨lw_r2, List.forall_mem_append.mpr ⟨lw_r3, lw_r4⟩⟩⟩

theorem goodIn_r {big : List Cond} (ws : List Cond) (ps : List Nat) (hp : ws = ps.filterMap (fun i => big[i]?)) (h : ws.all goodWord = true) : GoodIn big ws := by
  intro w hw
  have h1 := List.all_eq_true.mp h w hw
  rw [hp] at hw
  obtain ⟨i, -, hi⟩ := List.mem_filterMap.mp hw
  have hm : w ∈ big := by first | exact List.mem_of_getElem? hi | exact List.getElem?_mem hi
  exact ⟨hm, good_of_word h1⟩
theorem goodIn_app {big a b : List Cond} (ha : GoodIn big a) (hb : GoodIn big b) : GoodIn big (a ++ b) := fun w h => (List.mem_append.mp h).elim (ha w) (hb w)
theorem goodIn_ca {big a b : List Cond} {c : Cond} (ha : GoodIn big (c :: a)) (hb : GoodIn big b) : GoodIn big (c :: (a ++ b)) := fun w h => (List.mem_cons.mp h).elim (fun e => ha w (List.mem_cons.mpr (Or.inl e))) (fun h => (List.mem_append.mp h).elim (fun h => ha w (List.mem_cons.mpr (Or.inr h))) (hb w))
theorem goodIn_sub {big ws : List Cond} (hm : ∀ w ∈ ws, w ∈ big) (h : ws.all goodWord = true) : GoodIn big ws := fun w hw => ⟨hm w hw, good_of_word (List.all_eq_true.mp h w hw)⟩
def RX0 : String := "CommitIndex$Exchange"
def TX0 : u_T := fun k => match k with
  | 0 => ("CommitIndex$Exchange", "had", "J", false)
  | 1 => ("CommitIndex$Exchange", "wanted", "J", false)
  | 2 => ("CommitIndex$Exchange", "per", "I", false)
  | 3 => ("CommitIndex$Exchange", "haste", "I", false)
  | 4 => ("CommitIndex$Exchange", "toldCommits", "[I", true)
  | 5 => ("CommitIndex$Exchange", "toldRounds", "[I", true)
  | 6 => ("CommitIndex$Exchange", "tellings", "I", false)
  | 7 => ("CommitIndex$Exchange", "held", "I", false)
  | 8 => ("CommitIndex$Exchange", "pile", "J", false)
  | 9 => ("CommitIndex$Exchange", "been", "J", false)
  | 10 => ("CommitIndex$Exchange", "common", "J", false)
  | _ => ("CommitIndex$Exchange", "given", "J", false)
def tyX0 : Nat → FieldType := fun k => match k with
  | 0 => .long
  | 1 => .long
  | 2 => .int
  | 3 => .int
  | 4 => .array .int
  | 5 => .array .int
  | 6 => .int
  | 7 => .int
  | 8 => .long
  | 9 => .long
  | 10 => .long
  | _ => .long
abbrev wsX00 : List Cond := u_ws RX0 TX0 12
theorem nmX0 : ∀ a, a < 12 → ∀ b, b < 12 → a ≠ b → (TX0 a).2.1 ≠ (TX0 b).2.1 := by decide +kernel
theorem tyX0_ok : ∀ k, k < 12 → parseFieldDescriptor (TX0 k).2.2.1 = some (tyX0 k) := by decide +kernel
abbrev cX0_init : ByteArray := prog_2_method_1_code
def yX0_init : MethodName := ⟨RX0, "<init>", "()V"⟩
abbrev cX0_forget : ByteArray := prog_2_method_2_code
def yX0_forget : MethodName := ⟨RX0, "forget", "(I)V"⟩
abbrev cX0_talk : ByteArray := prog_2_method_3_code
def yX0_talk : MethodName := ⟨RX0, "talk", "(LCommitIndex$History;)V"⟩
abbrev cX0_tell : ByteArray := prog_2_method_4_code
def yX0_tell : MethodName := ⟨RX0, "tell", "(LCommitIndex$History;)V"⟩
abbrev cX0_answer : ByteArray := prog_2_method_5_code
def yX0_answer : MethodName := ⟨RX0, "answer", "(LCommitIndex$History;I)V"⟩
abbrev cX0_isServed : ByteArray := prog_2_method_6_code
def yX0_isServed : MethodName := ⟨RX0, "isServed", "(LCommitIndex$History;)Z"⟩
abbrev cX0_setOf : ByteArray := prog_2_method_7_code
def yX0_setOf : MethodName := ⟨RX0, "setOf", "(I)J"⟩
abbrev cX0_tellingPart : ByteArray := prog_2_method_8_code
def yX0_tellingPart : MethodName := ⟨RX0, "tellingPart", "(II)I"⟩
abbrev cX0_thingsSent : ByteArray := prog_2_method_9_code
def yX0_thingsSent : MethodName := ⟨RX0, "thingsSent", "(LCommitIndex$History;)I"⟩
def RX1 : String := "CommitIndex$History"
def TX1 : u_T := fun k => match k with
  | 0 => ("CommitIndex$History", "first", "[I", true)
  | 1 => ("CommitIndex$History", "second", "[I", true)
  | 2 => ("CommitIndex$History", "thingBits", "[I", true)
  | 3 => ("CommitIndex$History", "ranks", "[I", true)
  | 4 => ("CommitIndex$History", "reached", "[J", true)
  | 5 => ("CommitIndex$History", "layerSizes", "[I", true)
  | 6 => ("CommitIndex$History", "size", "I", false)
  | 7 => ("CommitIndex$History", "sealed", "I", false)
  | _ => ("CommitIndex$History", "layers", "I", false)
def tyX1 : Nat → FieldType := fun k => match k with
  | 0 => .array .int
  | 1 => .array .int
  | 2 => .array .int
  | 3 => .array .int
  | 4 => .array .long
  | 5 => .array .int
  | 6 => .int
  | 7 => .int
  | _ => .int
abbrev wsX10 : List Cond := u_ws RX1 TX1 9
theorem nmX1 : ∀ a, a < 9 → ∀ b, b < 9 → a ≠ b → (TX1 a).2.1 ≠ (TX1 b).2.1 := by decide +kernel
theorem tyX1_ok : ∀ k, k < 9 → parseFieldDescriptor (TX1 k).2.2.1 = some (tyX1 k) := by decide +kernel
abbrev cX1_init : ByteArray := prog_3_method_1_code
def yX1_init : MethodName := ⟨RX1, "<init>", "()V"⟩
abbrev cX1_holds : ByteArray := prog_3_method_2_code
def yX1_holds : MethodName := ⟨RX1, "holds", "(I)Z"⟩
abbrev cX1_isFull : ByteArray := prog_3_method_3_code
def yX1_isFull : MethodName := ⟨RX1, "isFull", "()Z"⟩
abbrev cX1_admits : ByteArray := prog_3_method_4_code
def yX1_admits : MethodName := ⟨RX1, "admits", "(III)Z"⟩
abbrev cX1_append : ByteArray := prog_3_method_5_code
def yX1_append : MethodName := ⟨RX1, "append", "(III)V"⟩
abbrev cX1_dropLast : ByteArray := prog_3_method_6_code
def yX1_dropLast : MethodName := ⟨RX1, "dropLast", "()V"⟩
abbrev cX1_sealRest : ByteArray := prog_3_method_7_code
def yX1_sealRest : MethodName := ⟨RX1, "sealRest", "()V"⟩
abbrev cX1_joinLayers : ByteArray := prog_3_method_8_code
def yX1_joinLayers : MethodName := ⟨RX1, "joinLayers", "()V"⟩
abbrev cX1_layerSize : ByteArray := prog_3_method_9_code
def yX1_layerSize : MethodName := ⟨RX1, "layerSize", "(I)I"⟩
abbrev cX1_firstParent : ByteArray := prog_3_method_10_code
def yX1_firstParent : MethodName := ⟨RX1, "firstParent", "(I)I"⟩
abbrev cX1_secondParent : ByteArray := prog_3_method_11_code
def yX1_secondParent : MethodName := ⟨RX1, "secondParent", "(I)I"⟩
abbrev cX1_parentsOf : ByteArray := prog_3_method_12_code
def yX1_parentsOf : MethodName := ⟨RX1, "parentsOf", "(I)J"⟩
abbrev cX1_childrenOf : ByteArray := prog_3_method_13_code
def yX1_childrenOf : MethodName := ⟨RX1, "childrenOf", "(I)I"⟩
abbrev cX1_rankOf : ByteArray := prog_3_method_14_code
def yX1_rankOf : MethodName := ⟨RX1, "rankOf", "(I)I"⟩
abbrev cX1_generationOf : ByteArray := prog_3_method_15_code
def yX1_generationOf : MethodName := ⟨RX1, "generationOf", "(I)I"⟩
abbrev cX1_reachOf : ByteArray := prog_3_method_16_code
def yX1_reachOf : MethodName := ⟨RX1, "reachOf", "(I)J"⟩
abbrev cX1_reachOfAll : ByteArray := prog_3_method_17_code
def yX1_reachOfAll : MethodName := ⟨RX1, "reachOfAll", "(J)J"⟩
abbrev cX1_tipsOf : ByteArray := prog_3_method_18_code
def yX1_tipsOf : MethodName := ⟨RX1, "tipsOf", "(J)J"⟩
abbrev cX1_thingsOf : ByteArray := prog_3_method_19_code
def yX1_thingsOf : MethodName := ⟨RX1, "thingsOf", "(J)I"⟩
abbrev cX1_fromGeneration : ByteArray := prog_3_method_20_code
def yX1_fromGeneration : MethodName := ⟨RX1, "fromGeneration", "(I)J"⟩
abbrev cX1_topByGeneration : ByteArray := prog_3_method_21_code
def yX1_topByGeneration : MethodName := ⟨RX1, "topByGeneration", "(J)I"⟩
abbrev cX1_topByRank : ByteArray := prog_3_method_22_code
def yX1_topByRank : MethodName := ⟨RX1, "topByRank", "(J)I"⟩
def RX2 : String := "CommitIndex$KeptSets"
def TX2 : u_T := fun k => match k with
  | 0 => ("CommitIndex$KeptSets", "every", "I", false)
  | 1 => ("CommitIndex$KeptSets", "looked", "I", false)
  | 2 => ("CommitIndex$KeptSets", "used", "I", false)
  | _ => ("CommitIndex$KeptSets", "found", "J", false)
def tyX2 : Nat → FieldType := fun k => match k with
  | 0 => .int
  | 1 => .int
  | 2 => .int
  | _ => .long
abbrev wsX20 : List Cond := u_ws RX2 TX2 4
theorem nmX2 : ∀ a, a < 4 → ∀ b, b < 4 → a ≠ b → (TX2 a).2.1 ≠ (TX2 b).2.1 := by decide +kernel
theorem tyX2_ok : ∀ k, k < 4 → parseFieldDescriptor (TX2 k).2.2.1 = some (tyX2 k) := by decide +kernel
abbrev cX2_init : ByteArray := prog_4_method_1_code
def yX2_init : MethodName := ⟨RX2, "<init>", "()V"⟩
abbrev cX2_isKept : ByteArray := prog_4_method_2_code
def yX2_isKept : MethodName := ⟨RX2, "isKept", "(I)Z"⟩
abbrev cX2_rootOf : ByteArray := prog_4_method_3_code
def yX2_rootOf : MethodName := ⟨RX2, "rootOf", "(LCommitIndex$History;I)I"⟩
abbrev cX2_shareSize : ByteArray := prog_4_method_4_code
def yX2_shareSize : MethodName := ⟨RX2, "shareSize", "(LCommitIndex$History;I)I"⟩
abbrev cX2_rootsBehind : ByteArray := prog_4_method_5_code
def yX2_rootsBehind : MethodName := ⟨RX2, "rootsBehind", "(LCommitIndex$History;I)I"⟩
abbrev cX2_descend : ByteArray := prog_4_method_6_code
def yX2_descend : MethodName := ⟨RX2, "descend", "(LCommitIndex$History;I)V"⟩
def RX3 : String := "CommitIndex$Looking"
def TX3 : u_T := fun k => match k with
  | 0 => ("CommitIndex$Looking", "order", "[I", true)
  | 1 => ("CommitIndex$Looking", "looked", "I", false)
  | _ => ("CommitIndex$Looking", "met", "Z", false)
def tyX3 : Nat → FieldType := fun k => match k with
  | 0 => .array .int
  | 1 => .int
  | _ => .boolean
abbrev wsX30 : List Cond := u_ws RX3 TX3 3
theorem nmX3 : ∀ a, a < 3 → ∀ b, b < 3 → a ≠ b → (TX3 a).2.1 ≠ (TX3 b).2.1 := by decide +kernel
theorem tyX3_ok : ∀ k, k < 3 → parseFieldDescriptor (TX3 k).2.2.1 = some (tyX3 k) := by decide +kernel
abbrev cX3_init : ByteArray := prog_5_method_1_code
def yX3_init : MethodName := ⟨RX3, "<init>", "()V"⟩
abbrev cX3_search : ByteArray := prog_5_method_2_code
def yX3_search : MethodName := ⟨RX3, "search", "(LCommitIndex$History;IIZ)V"⟩
abbrev cX3_lookedAt : ByteArray := prog_5_method_3_code
def yX3_lookedAt : MethodName := ⟨RX3, "lookedAt", "(I)I"⟩
def RX4 : String := "CommitIndex$Painting"
def TX4 : u_T := fun k => match k with
  | 0 => ("CommitIndex$Painting", "one", "J", false)
  | 1 => ("CommitIndex$Painting", "two", "J", false)
  | 2 => ("CommitIndex$Painting", "stale", "J", false)
  | 3 => ("CommitIndex$Painting", "pile", "J", false)
  | 4 => ("CommitIndex$Painting", "been", "J", false)
  | 5 => ("CommitIndex$Painting", "found", "J", false)
  | _ => ("CommitIndex$Painting", "looked", "I", false)
def tyX4 : Nat → FieldType := fun k => match k with
  | 0 => .long
  | 1 => .long
  | 2 => .long
  | 3 => .long
  | 4 => .long
  | 5 => .long
  | _ => .int
abbrev wsX40 : List Cond := u_ws RX4 TX4 7
theorem nmX4 : ∀ a, a < 7 → ∀ b, b < 7 → a ≠ b → (TX4 a).2.1 ≠ (TX4 b).2.1 := by decide +kernel
theorem tyX4_ok : ∀ k, k < 7 → parseFieldDescriptor (TX4 k).2.2.1 = some (tyX4 k) := by decide +kernel
abbrev cX4_init : ByteArray := prog_6_method_1_code
def yX4_init : MethodName := ⟨RX4, "<init>", "()V"⟩
abbrev cX4_paint : ByteArray := prog_6_method_2_code
def yX4_paint : MethodName := ⟨RX4, "paint", "(LCommitIndex$History;II)V"⟩
abbrev cX4_passOn : ByteArray := prog_6_method_3_code
def yX4_passOn : MethodName := ⟨RX4, "passOn", "(IJ)V"⟩
def RX5 : String := "CommitIndex$Paths"
def TX5 : u_T := fun k => match k with
  | 0 => ("CommitIndex$Paths", "ways", "[J", true)
  | _ => ("CommitIndex$Paths", "steps", "[I", true)
def tyX5 : Nat → FieldType := fun k => match k with
  | 0 => .array .long
  | _ => .array .int
abbrev wsX50 : List Cond := u_ws RX5 TX5 2
theorem nmX5 : ∀ a, a < 2 → ∀ b, b < 2 → a ≠ b → (TX5 a).2.1 ≠ (TX5 b).2.1 := by decide +kernel
theorem tyX5_ok : ∀ k, k < 2 → parseFieldDescriptor (TX5 k).2.2.1 = some (tyX5 k) := by decide +kernel
abbrev cX5_init : ByteArray := prog_7_method_1_code
def yX5_init : MethodName := ⟨RX5, "<init>", "()V"⟩
abbrev cX5_trace : ByteArray := prog_7_method_2_code
def yX5_trace : MethodName := ⟨RX5, "trace", "(LCommitIndex$History;I)V"⟩
abbrev cX5_passOn : ByteArray := prog_7_method_3_code
def yX5_passOn : MethodName := ⟨RX5, "passOn", "(II)V"⟩
abbrev cX5_waysTo : ByteArray := prog_7_method_4_code
def yX5_waysTo : MethodName := ⟨RX5, "waysTo", "(I)J"⟩
abbrev cX5_stepsTo : ByteArray := prog_7_method_5_code
def yX5_stepsTo : MethodName := ⟨RX5, "stepsTo", "(I)I"⟩
def RX6 : String := "CommitIndex$Sheet"
def TX6 : u_T := fun k => match k with
  | 0 => ("CommitIndex$Sheet", "items", "[I", true)
  | 1 => ("CommitIndex$Sheet", "form", "I", false)
  | _ => ("CommitIndex$Sheet", "length", "I", false)
def tyX6 : Nat → FieldType := fun k => match k with
  | 0 => .array .int
  | 1 => .int
  | _ => .int
abbrev wsX60 : List Cond := u_ws RX6 TX6 3
theorem nmX6 : ∀ a, a < 3 → ∀ b, b < 3 → a ≠ b → (TX6 a).2.1 ≠ (TX6 b).2.1 := by decide +kernel
theorem tyX6_ok : ∀ k, k < 3 → parseFieldDescriptor (TX6 k).2.2.1 = some (tyX6 k) := by decide +kernel
abbrev cX6_init : ByteArray := prog_8_method_1_code
def yX6_init : MethodName := ⟨RX6, "<init>", "()V"⟩
abbrev cX6_isLost : ByteArray := prog_8_method_2_code
def yX6_isLost : MethodName := ⟨RX6, "isLost", "()Z"⟩
abbrev cX6_renew : ByteArray := prog_8_method_3_code
def yX6_renew : MethodName := ⟨RX6, "renew", "(II)V"⟩
abbrev cX6_faultAt : ByteArray := prog_8_method_4_code
def yX6_faultAt : MethodName := ⟨RX6, "faultAt", "(II)I"⟩
abbrev cX6_hasItem : ByteArray := prog_8_method_5_code
def yX6_hasItem : MethodName := ⟨RX6, "hasItem", "(I)Z"⟩
abbrev cX6_hasRun : ByteArray := prog_8_method_6_code
def yX6_hasRun : MethodName := ⟨RX6, "hasRun", "(II)Z"⟩
abbrev cX6_itemAt : ByteArray := prog_8_method_7_code
def yX6_itemAt : MethodName := ⟨RX6, "itemAt", "(I)I"⟩
abbrev cX6_store : ByteArray := prog_8_method_8_code
def yX6_store : MethodName := ⟨RX6, "store", "(II)V"⟩
abbrev cX6_narrowed : ByteArray := prog_8_method_9_code
def yX6_narrowed : MethodName := ⟨RX6, "narrowed", "(I)I"⟩
def RX7 : String := "CommitIndex"
def TX7 : u_T := fun k => match k with
  | 0 => ("CommitIndex", "history", "LCommitIndex$History;", true)
  | 1 => ("CommitIndex", "looking", "LCommitIndex$Looking;", true)
  | 2 => ("CommitIndex", "painting", "LCommitIndex$Painting;", true)
  | 3 => ("CommitIndex", "paths", "LCommitIndex$Paths;", true)
  | 4 => ("CommitIndex", "keptSets", "LCommitIndex$KeptSets;", true)
  | 5 => ("CommitIndex", "exchange", "LCommitIndex$Exchange;", true)
  | 6 => ("CommitIndex", "rows", "[LCommitIndex$Sheet;", true)
  | _ => ("CommitIndex", "latestFinding", "I", false)
def tyX7 : Nat → FieldType := fun k => match k with
  | 0 => .object "CommitIndex$History"
  | 1 => .object "CommitIndex$Looking"
  | 2 => .object "CommitIndex$Painting"
  | 3 => .object "CommitIndex$Paths"
  | 4 => .object "CommitIndex$KeptSets"
  | 5 => .object "CommitIndex$Exchange"
  | 6 => .array (.object "CommitIndex$Sheet")
  | _ => .int
abbrev wsX70 : List Cond := u_ws RX7 TX7 8
theorem nmX7 : ∀ a, a < 8 → ∀ b, b < 8 → a ≠ b → (TX7 a).2.1 ≠ (TX7 b).2.1 := by decide +kernel
theorem tyX7_ok : ∀ k, k < 8 → parseFieldDescriptor (TX7 k).2.2.1 = some (tyX7 k) := by decide +kernel
abbrev cX7_init : ByteArray := prog_1_method_1_code
def yX7_init : MethodName := ⟨RX7, "<init>", "()V"⟩
abbrev cX7_add : ByteArray := prog_1_method_2_code
def yX7_add : MethodName := ⟨RX7, "add", "(III)I"⟩
abbrev cX7_back : ByteArray := prog_1_method_3_code
def yX7_back : MethodName := ⟨RX7, "back", "()I"⟩
abbrev cX7_read : ByteArray := prog_1_method_4_code
def yX7_read : MethodName := ⟨RX7, "read", "(I)I"⟩
abbrev cX7_seal : ByteArray := prog_1_method_5_code
def yX7_seal : MethodName := ⟨RX7, "seal", "()I"⟩
abbrev cX7_layer : ByteArray := prog_1_method_6_code
def yX7_layer : MethodName := ⟨RX7, "layer", "(I)I"⟩
abbrev cX7_set : ByteArray := prog_1_method_7_code
def yX7_set : MethodName := ⟨RX7, "set", "(II)I"⟩
abbrev cX7_commit : ByteArray := prog_1_method_8_code
def yX7_commit : MethodName := ⟨RX7, "commit", "(II)I"⟩
abbrev cX7_reach : ByteArray := prog_1_method_9_code
def yX7_reach : MethodName := ⟨RX7, "reach", "(I)J"⟩
abbrev cX7_look : ByteArray := prog_1_method_10_code
def yX7_look : MethodName := ⟨RX7, "look", "(III)I"⟩
abbrev cX7_bases : ByteArray := prog_1_method_11_code
def yX7_bases : MethodName := ⟨RX7, "bases", "(II)J"⟩
abbrev cX7_paints : ByteArray := prog_1_method_12_code
def yX7_paints : MethodName := ⟨RX7, "paints", "(II)I"⟩
abbrev cX7_ways : ByteArray := prog_1_method_13_code
def yX7_ways : MethodName := ⟨RX7, "ways", "(II)J"⟩
abbrev cX7_far : ByteArray := prog_1_method_14_code
def yX7_far : MethodName := ⟨RX7, "far", "(II)I"⟩
abbrev cX7_kept : ByteArray := prog_1_method_15_code
def yX7_kept : MethodName := ⟨RX7, "kept", "(II)I"⟩
abbrev cX7_walk : ByteArray := prog_1_method_16_code
def yX7_walk : MethodName := ⟨RX7, "walk", "(II)I"⟩
abbrev cX7_walkPart : ByteArray := prog_1_method_17_code
def yX7_walkPart : MethodName := ⟨RX7, "walkPart", "(I)I"⟩
abbrev cX7_has : ByteArray := prog_1_method_18_code
def yX7_has : MethodName := ⟨RX7, "has", "(I)I"⟩
abbrev cX7_want : ByteArray := prog_1_method_19_code
def yX7_want : MethodName := ⟨RX7, "want", "(I)I"⟩
abbrev cX7_clear : ByteArray := prog_1_method_20_code
def yX7_clear : MethodName := ⟨RX7, "clear", "(I)I"⟩
abbrev cX7_sets : ByteArray := prog_1_method_21_code
def yX7_sets : MethodName := ⟨RX7, "sets", "(I)J"⟩
abbrev cX7_rounds : ByteArray := prog_1_method_22_code
def yX7_rounds : MethodName := ⟨RX7, "rounds", "()I"⟩
abbrev cX7_told : ByteArray := prog_1_method_23_code
def yX7_told : MethodName := ⟨RX7, "told", "(II)I"⟩
abbrev cX7_things : ByteArray := prog_1_method_24_code
def yX7_things : MethodName := ⟨RX7, "things", "()I"⟩
abbrev cX7_sheet : ByteArray := prog_1_method_25_code
def yX7_sheet : MethodName := ⟨RX7, "sheet", "(III)I"⟩
abbrev cX7_lose : ByteArray := prog_1_method_26_code
def yX7_lose : MethodName := ⟨RX7, "lose", "(I)I"⟩
abbrev cX7_lay : ByteArray := prog_1_method_27_code
def yX7_lay : MethodName := ⟨RX7, "lay", "(IIII)I"⟩
abbrev cX7_get : ByteArray := prog_1_method_28_code
def yX7_get : MethodName := ⟨RX7, "get", "(III)I"⟩
abbrev cX7_copy : ByteArray := prog_1_method_29_code
def yX7_copy : MethodName := ⟨RX7, "copy", "(IIIII)I"⟩
abbrev cX7_write : ByteArray := prog_1_method_30_code
def yX7_write : MethodName := ⟨RX7, "write", "(III)I"⟩
abbrev cX7_count : ByteArray := prog_1_method_31_code
def yX7_count : MethodName := ⟨RX7, "count", "(I)I"⟩
abbrev cX7_digest : ByteArray := prog_1_method_32_code
def yX7_digest : MethodName := ⟨RX7, "digest", "()J"⟩
abbrev cX7_countPart : ByteArray := prog_1_method_33_code
def yX7_countPart : MethodName := ⟨RX7, "countPart", "(I)I"⟩
abbrev cX7_mixCounts : ByteArray := prog_1_method_34_code
def yX7_mixCounts : MethodName := ⟨RX7, "mixCounts", "(J)J"⟩
abbrev cX7_mixCommit : ByteArray := prog_1_method_35_code
def yX7_mixCommit : MethodName := ⟨RX7, "mixCommit", "(JI)J"⟩
abbrev cX7_mixKept : ByteArray := prog_1_method_36_code
def yX7_mixKept : MethodName := ⟨RX7, "mixKept", "(JI)J"⟩
abbrev cX7_mixPairs : ByteArray := prog_1_method_37_code
def yX7_mixPairs : MethodName := ⟨RX7, "mixPairs", "(JII)J"⟩
abbrev cX7_mixExchange : ByteArray := prog_1_method_38_code
def yX7_mixExchange : MethodName := ⟨RX7, "mixExchange", "(J)J"⟩
abbrev cX7_finding : ByteArray := prog_1_method_39_code
def yX7_finding : MethodName := ⟨RX7, "finding", "(I)I"⟩
abbrev cX7_sheetAt : ByteArray := prog_1_method_40_code
def yX7_sheetAt : MethodName := ⟨RX7, "sheetAt", "(I)LCommitIndex$Sheet;"⟩
abbrev cX7_isForm : ByteArray := prog_1_method_41_code
def yX7_isForm : MethodName := ⟨RX7, "isForm", "(I)Z"⟩
abbrev cX7_mix : ByteArray := prog_1_method_42_code
def yX7_mix : MethodName := ⟨RX7, "mix", "(JJ)J"⟩
abbrev cX7_bit : ByteArray := prog_1_method_43_code
def yX7_bit : MethodName := ⟨RX7, "bit", "(I)J"⟩
abbrev cX7_isIn : ByteArray := prog_1_method_44_code
def yX7_isIn : MethodName := ⟨RX7, "isIn", "(JI)Z"⟩
abbrev cX7_greatestIn : ByteArray := prog_1_method_45_code
def yX7_greatestIn : MethodName := ⟨RX7, "greatestIn", "(J)I"⟩
def RX8 : String := "CommitIndexModel"
def TX8 : u_T := fun k => match k with
  | 0 => ("CommitIndexModel", "forms", "[I", true)
  | 1 => ("CommitIndexModel", "sizes", "[I", true)
  | 2 => ("CommitIndexModel", "items", "[I", true)
  | 3 => ("CommitIndexModel", "moved", "[I", true)
  | 4 => ("CommitIndexModel", "latest", "I", false)
  | 5 => ("CommitIndexModel", "commits", "I", false)
  | 6 => ("CommitIndexModel", "first", "[I", true)
  | 7 => ("CommitIndexModel", "second", "[I", true)
  | 8 => ("CommitIndexModel", "rank", "[I", true)
  | 9 => ("CommitIndexModel", "things", "[I", true)
  | 10 => ("CommitIndexModel", "sealed", "I", false)
  | 11 => ("CommitIndexModel", "layers", "I", false)
  | 12 => ("CommitIndexModel", "layer", "[I", true)
  | 13 => ("CommitIndexModel", "every", "I", false)
  | 14 => ("CommitIndexModel", "per", "I", false)
  | 15 => ("CommitIndexModel", "haste", "I", false)
  | 16 => ("CommitIndexModel", "had", "J", false)
  | 17 => ("CommitIndexModel", "wanted", "J", false)
  | 18 => ("CommitIndexModel", "looked", "[I", true)
  | 19 => ("CommitIndexModel", "painted", "I", false)
  | 20 => ("CommitIndexModel", "many", "[J", true)
  | 21 => ("CommitIndexModel", "steps", "[I", true)
  | 22 => ("CommitIndexModel", "rounds", "I", false)
  | 23 => ("CommitIndexModel", "tells", "I", false)
  | 24 => ("CommitIndexModel", "told", "[I", true)
  | 25 => ("CommitIndexModel", "answer", "[I", true)
  | 26 => ("CommitIndexModel", "round", "[I", true)
  | 27 => ("CommitIndexModel", "common", "J", false)
  | 28 => ("CommitIndexModel", "given", "J", false)
  | 29 => ("CommitIndexModel", "pileNow", "J", false)
  | _ => ("CommitIndexModel", "everNow", "J", false)
def tyX8 : Nat → FieldType := fun k => match k with
  | 0 => .array .int
  | 1 => .array .int
  | 2 => .array .int
  | 3 => .array .int
  | 4 => .int
  | 5 => .int
  | 6 => .array .int
  | 7 => .array .int
  | 8 => .array .int
  | 9 => .array .int
  | 10 => .int
  | 11 => .int
  | 12 => .array .int
  | 13 => .int
  | 14 => .int
  | 15 => .int
  | 16 => .long
  | 17 => .long
  | 18 => .array .int
  | 19 => .int
  | 20 => .array .long
  | 21 => .array .int
  | 22 => .int
  | 23 => .int
  | 24 => .array .int
  | 25 => .array .int
  | 26 => .array .int
  | 27 => .long
  | 28 => .long
  | 29 => .long
  | _ => .long
abbrev wsX80 : List Cond := u_ws RX8 TX8 31
theorem nmX8 : ∀ a, a < 31 → ∀ b, b < 31 → a ≠ b → (TX8 a).2.1 ≠ (TX8 b).2.1 := by decide +kernel
theorem tyX8_ok : ∀ k, k < 31 → parseFieldDescriptor (TX8 k).2.2.1 = some (tyX8 k) := by decide +kernel
abbrev cX8_init : ByteArray := prog_10_method_1_code
def yX8_init : MethodName := ⟨RX8, "<init>", "()V"⟩
abbrev cX8_in : ByteArray := prog_10_method_3_code
def yX8_in : MethodName := ⟨RX8, "in", "(JJJ)Z"⟩
abbrev cX8_no : ByteArray := prog_10_method_4_code
def yX8_no : MethodName := ⟨RX8, "no", "(I)J"⟩
abbrev cX8_isTwo : ByteArray := prog_10_method_5_code
def yX8_isTwo : MethodName := ⟨RX8, "isTwo", "(I)Z"⟩
abbrev cX8_lesser : ByteArray := prog_10_method_7_code
def yX8_lesser : MethodName := ⟨RX8, "lesser", "(II)I"⟩
abbrev cX8_greater : ByteArray := prog_10_method_8_code
def yX8_greater : MethodName := ⟨RX8, "greater", "(II)I"⟩
abbrev cX8_finds : ByteArray := prog_10_method_10_code
def yX8_finds : MethodName := ⟨RX8, "finds", "(I)I"⟩
abbrev cX8_isSheet : ByteArray := prog_10_method_11_code
def yX8_isSheet : MethodName := ⟨RX8, "isSheet", "(I)Z"⟩
abbrev cX8_sheet : ByteArray := prog_10_method_12_code
def yX8_sheet : MethodName := ⟨RX8, "sheet", "(III)I"⟩
abbrev cX8_lose : ByteArray := prog_10_method_13_code
def yX8_lose : MethodName := ⟨RX8, "lose", "(I)I"⟩
abbrev cX8_lacks : ByteArray := prog_10_method_14_code
def yX8_lacks : MethodName := ⟨RX8, "lacks", "(III)I"⟩
abbrev cX8_cut : ByteArray := prog_10_method_15_code
def yX8_cut : MethodName := ⟨RX8, "cut", "(II)I"⟩
abbrev cX8_lay : ByteArray := prog_10_method_16_code
def yX8_lay : MethodName := ⟨RX8, "lay", "(IIII)I"⟩
abbrev cX8_get : ByteArray := prog_10_method_17_code
def yX8_get : MethodName := ⟨RX8, "get", "(III)I"⟩
abbrev cX8_copy : ByteArray := prog_10_method_18_code
def yX8_copy : MethodName := ⟨RX8, "copy", "(IIIII)I"⟩
abbrev cX8_isCommit : ByteArray := prog_10_method_19_code
def yX8_isCommit : MethodName := ⟨RX8, "isCommit", "(I)Z"⟩
abbrev cX8_holds : ByteArray := prog_10_method_20_code
def yX8_holds : MethodName := ⟨RX8, "holds", "(JI)Z"⟩
abbrev cX8_manyOf : ByteArray := prog_10_method_21_code
def yX8_manyOf : MethodName := ⟨RX8, "manyOf", "(J)I"⟩
abbrev cX8_isNew : ByteArray := prog_10_method_22_code
def yX8_isNew : MethodName := ⟨RX8, "isNew", "(III)Z"⟩
abbrev cX8_add : ByteArray := prog_10_method_23_code
def yX8_add : MethodName := ⟨RX8, "add", "(III)I"⟩
abbrev cX8_back : ByteArray := prog_10_method_24_code
def yX8_back : MethodName := ⟨RX8, "back", "()I"⟩
abbrev cX8_read : ByteArray := prog_10_method_25_code
def yX8_read : MethodName := ⟨RX8, "read", "(I)I"⟩
abbrev cX8_seal : ByteArray := prog_10_method_26_code
def yX8_seal : MethodName := ⟨RX8, "seal", "()I"⟩
abbrev cX8_layerBy : ByteArray := prog_10_method_27_code
def yX8_layerBy : MethodName := ⟨RX8, "layerBy", "(I)I"⟩
abbrev cX8_layer : ByteArray := prog_10_method_28_code
def yX8_layer : MethodName := ⟨RX8, "layer", "(I)I"⟩
abbrev cX8_set : ByteArray := prog_10_method_29_code
def yX8_set : MethodName := ⟨RX8, "set", "(II)I"⟩
abbrev cX8_generation : ByteArray := prog_10_method_30_code
def yX8_generation : MethodName := ⟨RX8, "generation", "(I)I"⟩
abbrev cX8_children : ByteArray := prog_10_method_31_code
def yX8_children : MethodName := ⟨RX8, "children", "(I)I"⟩
abbrev cX8_commitBy : ByteArray := prog_10_method_32_code
def yX8_commitBy : MethodName := ⟨RX8, "commitBy", "(II)I"⟩
abbrev cX8_commit : ByteArray := prog_10_method_33_code
def yX8_commit : MethodName := ⟨RX8, "commit", "(II)I"⟩
abbrev cX8_parent : ByteArray := prog_10_method_34_code
def yX8_parent : MethodName := ⟨RX8, "parent", "(II)I"⟩
abbrev cX8_reachOf : ByteArray := prog_10_method_35_code
def yX8_reachOf : MethodName := ⟨RX8, "reachOf", "(I)J"⟩
abbrev cX8_reach : ByteArray := prog_10_method_36_code
def yX8_reach : MethodName := ⟨RX8, "reach", "(I)J"⟩
abbrev cX8_next : ByteArray := prog_10_method_37_code
def yX8_next : MethodName := ⟨RX8, "next", "(J)I"⟩
abbrev cX8_looks : ByteArray := prog_10_method_38_code
def yX8_looks : MethodName := ⟨RX8, "looks", "(III)I"⟩
abbrev cX8_lookBy : ByteArray := prog_10_method_39_code
def yX8_lookBy : MethodName := ⟨RX8, "lookBy", "(III)I"⟩
abbrev cX8_look : ByteArray := prog_10_method_40_code
def yX8_look : MethodName := ⟨RX8, "look", "(III)I"⟩
abbrev cX8_basesOf : ByteArray := prog_10_method_41_code
def yX8_basesOf : MethodName := ⟨RX8, "basesOf", "(II)J"⟩
abbrev cX8_bases : ByteArray := prog_10_method_42_code
def yX8_bases : MethodName := ⟨RX8, "bases", "(II)J"⟩
abbrev cX8_paintsOf : ByteArray := prog_10_method_43_code
def yX8_paintsOf : MethodName := ⟨RX8, "paintsOf", "(II)I"⟩
abbrev cX8_paints : ByteArray := prog_10_method_44_code
def yX8_paints : MethodName := ⟨RX8, "paints", "(II)I"⟩
abbrev cX8_goesDown : ByteArray := prog_10_method_45_code
def yX8_goesDown : MethodName := ⟨RX8, "goesDown", "(I)V"⟩
abbrev cX8_waysOf : ByteArray := prog_10_method_46_code
def yX8_waysOf : MethodName := ⟨RX8, "waysOf", "(II)J"⟩
abbrev cX8_ways : ByteArray := prog_10_method_47_code
def yX8_ways : MethodName := ⟨RX8, "ways", "(II)J"⟩
abbrev cX8_farOf : ByteArray := prog_10_method_48_code
def yX8_farOf : MethodName := ⟨RX8, "farOf", "(II)I"⟩
abbrev cX8_far : ByteArray := prog_10_method_49_code
def yX8_far : MethodName := ⟨RX8, "far", "(II)I"⟩
abbrev cX8_isKept : ByteArray := prog_10_method_50_code
def yX8_isKept : MethodName := ⟨RX8, "isKept", "(I)Z"⟩
abbrev cX8_rootOf : ByteArray := prog_10_method_51_code
def yX8_rootOf : MethodName := ⟨RX8, "rootOf", "(I)I"⟩
abbrev cX8_shareOf : ByteArray := prog_10_method_52_code
def yX8_shareOf : MethodName := ⟨RX8, "shareOf", "(I)I"⟩
abbrev cX8_rootsOf : ByteArray := prog_10_method_53_code
def yX8_rootsOf : MethodName := ⟨RX8, "rootsOf", "(I)I"⟩
abbrev cX8_keptBy : ByteArray := prog_10_method_54_code
def yX8_keptBy : MethodName := ⟨RX8, "keptBy", "(II)I"⟩
abbrev cX8_kept : ByteArray := prog_10_method_55_code
def yX8_kept : MethodName := ⟨RX8, "kept", "(II)I"⟩
abbrev cX8_walkBy : ByteArray := prog_10_method_56_code
def yX8_walkBy : MethodName := ⟨RX8, "walkBy", "(II)I"⟩
abbrev cX8_walk : ByteArray := prog_10_method_57_code
def yX8_walk : MethodName := ⟨RX8, "walk", "(II)I"⟩
abbrev cX8_has : ByteArray := prog_10_method_58_code
def yX8_has : MethodName := ⟨RX8, "has", "(I)I"⟩
abbrev cX8_want : ByteArray := prog_10_method_59_code
def yX8_want : MethodName := ⟨RX8, "want", "(I)I"⟩
abbrev cX8_clear : ByteArray := prog_10_method_60_code
def yX8_clear : MethodName := ⟨RX8, "clear", "(I)I"⟩
abbrev cX8_reachAll : ByteArray := prog_10_method_61_code
def yX8_reachAll : MethodName := ⟨RX8, "reachAll", "(J)J"⟩
abbrev cX8_heads : ByteArray := prog_10_method_62_code
def yX8_heads : MethodName := ⟨RX8, "heads", "()J"⟩
abbrev cX8_nextTold : ByteArray := prog_10_method_63_code
def yX8_nextTold : MethodName := ⟨RX8, "nextTold", "()I"⟩
abbrev cX8_answers : ByteArray := prog_10_method_64_code
def yX8_answers : MethodName := ⟨RX8, "answers", "(I)V"⟩
abbrev cX8_isEnough : ByteArray := prog_10_method_65_code
def yX8_isEnough : MethodName := ⟨RX8, "isEnough", "()Z"⟩
abbrev cX8_talks : ByteArray := prog_10_method_66_code
def yX8_talks : MethodName := ⟨RX8, "talks", "()V"⟩
abbrev cX8_setBy : ByteArray := prog_10_method_67_code
def yX8_setBy : MethodName := ⟨RX8, "setBy", "(I)J"⟩
abbrev cX8_sets : ByteArray := prog_10_method_68_code
def yX8_sets : MethodName := ⟨RX8, "sets", "(I)J"⟩
abbrev cX8_rounds : ByteArray := prog_10_method_69_code
def yX8_rounds : MethodName := ⟨RX8, "rounds", "()I"⟩
abbrev cX8_toldBy : ByteArray := prog_10_method_70_code
def yX8_toldBy : MethodName := ⟨RX8, "toldBy", "(II)I"⟩
abbrev cX8_told : ByteArray := prog_10_method_71_code
def yX8_told : MethodName := ⟨RX8, "told", "(II)I"⟩
abbrev cX8_thingsNow : ByteArray := prog_10_method_72_code
def yX8_thingsNow : MethodName := ⟨RX8, "thingsNow", "()I"⟩
abbrev cX8_things : ByteArray := prog_10_method_73_code
def yX8_things : MethodName := ⟨RX8, "things", "()I"⟩
abbrev cX8_write : ByteArray := prog_10_method_74_code
def yX8_write : MethodName := ⟨RX8, "write", "(III)I"⟩
abbrev cX8_count : ByteArray := prog_10_method_75_code
def yX8_count : MethodName := ⟨RX8, "count", "(I)I"⟩
abbrev cX8_tellsCommit : ByteArray := prog_10_method_76_code
def yX8_tellsCommit : MethodName := ⟨RX8, "tellsCommit", "(JII)J"⟩
abbrev cX8_digest : ByteArray := prog_10_method_77_code
def yX8_digest : MethodName := ⟨RX8, "digest", "()J"⟩
def RJ13 : String := "java/lang/Long"
abbrev cJ13_bitCount_95d88 : ByteArray := prog_11_method_50_code
def yJ13_bitCount_95d88 : MethodName := ⟨RJ13, "bitCount", "(J)I"⟩
def RL : String := "CommitIndexLaw"
abbrev cL_law : ByteArray := code
def yL_law : MethodName := ⟨RL, "law", "([I)Z"⟩
abbrev vwCl : List vw_C := [(RX0, TX0, 12), (RX1, TX1, 9), (RX2, TX2, 4), (RX3, TX3, 3), (RX4, TX4, 7), (RX5, TX5, 2), (RX6, TX6, 3), (RX7, TX7, 8), (RX8, TX8, 31)]
