section
-- ===== PART A: goes FIRST, ahead of the names: the tables' words, and 'selects' of the private methods out of them =====
/-- a private method of a class that the tables say can be made, by its rows of tables_1 -/
def lw_okq (q : MethodName × Nat) : Prop := (q.1.cls ≠ "java/lang/invoke/MethodHandle" ∧ q.1.cls ≠ "java/lang/invoke/VarHandle") ∧ Cond.instantiable q.1.cls q.2 ∈ tables_1 ∧ Cond.privateMethod q.1 ∈ tables_1 ∧ Cond.instanceMethod q.1 ∈ tables_1
theorem lw_p0 : lw_okq (⟨"CommitIndex", "sheetAt", "(I)LCommitIndex$Sheet;"⟩, 8) := ⟨⟨by decide +kernel, by decide +kernel⟩, List.mem_of_getElem? (i := 14) (by decide +kernel), List.mem_of_getElem? (i := 295) (by decide +kernel), List.mem_of_getElem? (i := 296) (by decide +kernel)⟩
theorem lw_p1 : lw_okq (⟨"CommitIndex", "finding", "(I)I"⟩, 8) := ⟨⟨by decide +kernel, by decide +kernel⟩, List.mem_of_getElem? (i := 14) (by decide +kernel), List.mem_of_getElem? (i := 303) (by decide +kernel), List.mem_of_getElem? (i := 304) (by decide +kernel)⟩
theorem lw_p2 : lw_okq (⟨"CommitIndex$History", "joinLayers", "()V"⟩, 9) := ⟨⟨by decide +kernel, by decide +kernel⟩, List.mem_of_getElem? (i := 22) (by decide +kernel), List.mem_of_getElem? (i := 323) (by decide +kernel), List.mem_of_getElem? (i := 324) (by decide +kernel)⟩
theorem lw_p3 : lw_okq (⟨"CommitIndex$Painting", "passOn", "(IJ)V"⟩, 7) := ⟨⟨by decide +kernel, by decide +kernel⟩, List.mem_of_getElem? (i := 81) (by decide +kernel), List.mem_of_getElem? (i := 414) (by decide +kernel), List.mem_of_getElem? (i := 415) (by decide +kernel)⟩
theorem lw_p4 : lw_okq (⟨"CommitIndex$Paths", "passOn", "(II)V"⟩, 2) := ⟨⟨by decide +kernel, by decide +kernel⟩, List.mem_of_getElem? (i := 111) (by decide +kernel), List.mem_of_getElem? (i := 432) (by decide +kernel), List.mem_of_getElem? (i := 433) (by decide +kernel)⟩
theorem lw_p5 : lw_okq (⟨"CommitIndex", "walkPart", "(I)I"⟩, 8) := ⟨⟨by decide +kernel, by decide +kernel⟩, List.mem_of_getElem? (i := 14) (by decide +kernel), List.mem_of_getElem? (i := 494) (by decide +kernel), List.mem_of_getElem? (i := 495) (by decide +kernel)⟩
theorem lw_p6 : lw_okq (⟨"CommitIndex$Exchange", "tell", "(LCommitIndex$History;)V"⟩, 12) := ⟨⟨by decide +kernel, by decide +kernel⟩, List.mem_of_getElem? (i := 147) (by decide +kernel), List.mem_of_getElem? (i := 528) (by decide +kernel), List.mem_of_getElem? (i := 529) (by decide +kernel)⟩
theorem lw_p7 : lw_okq (⟨"CommitIndex$Exchange", "answer", "(LCommitIndex$History;I)V"⟩, 12) := ⟨⟨by decide +kernel, by decide +kernel⟩, List.mem_of_getElem? (i := 147) (by decide +kernel), List.mem_of_getElem? (i := 537) (by decide +kernel), List.mem_of_getElem? (i := 538) (by decide +kernel)⟩
theorem lw_p8 : lw_okq (⟨"CommitIndex$Exchange", "isServed", "(LCommitIndex$History;)Z"⟩, 12) := ⟨⟨by decide +kernel, by decide +kernel⟩, List.mem_of_getElem? (i := 147) (by decide +kernel), List.mem_of_getElem? (i := 543) (by decide +kernel), List.mem_of_getElem? (i := 544) (by decide +kernel)⟩
theorem lw_p9 : lw_okq (⟨"CommitIndex$Sheet", "narrowed", "(I)I"⟩, 3) := ⟨⟨by decide +kernel, by decide +kernel⟩, List.mem_of_getElem? (i := 197) (by decide +kernel), List.mem_of_getElem? (i := 604) (by decide +kernel), List.mem_of_getElem? (i := 605) (by decide +kernel)⟩
theorem lw_p10 : lw_okq (⟨"CommitIndex", "countPart", "(I)I"⟩, 8) := ⟨⟨by decide +kernel, by decide +kernel⟩, List.mem_of_getElem? (i := 14) (by decide +kernel), List.mem_of_getElem? (i := 637) (by decide +kernel), List.mem_of_getElem? (i := 638) (by decide +kernel)⟩
theorem lw_p11 : lw_okq (⟨"CommitIndex", "mixCounts", "(J)J"⟩, 8) := ⟨⟨by decide +kernel, by decide +kernel⟩, List.mem_of_getElem? (i := 14) (by decide +kernel), List.mem_of_getElem? (i := 646) (by decide +kernel), List.mem_of_getElem? (i := 647) (by decide +kernel)⟩
theorem lw_p12 : lw_okq (⟨"CommitIndex", "mixCommit", "(JI)J"⟩, 8) := ⟨⟨by decide +kernel, by decide +kernel⟩, List.mem_of_getElem? (i := 14) (by decide +kernel), List.mem_of_getElem? (i := 654) (by decide +kernel), List.mem_of_getElem? (i := 655) (by decide +kernel)⟩
theorem lw_p13 : lw_okq (⟨"CommitIndex", "mixKept", "(JI)J"⟩, 8) := ⟨⟨by decide +kernel, by decide +kernel⟩, List.mem_of_getElem? (i := 14) (by decide +kernel), List.mem_of_getElem? (i := 659) (by decide +kernel), List.mem_of_getElem? (i := 660) (by decide +kernel)⟩
theorem lw_p14 : lw_okq (⟨"CommitIndex", "mixPairs", "(JII)J"⟩, 8) := ⟨⟨by decide +kernel, by decide +kernel⟩, List.mem_of_getElem? (i := 14) (by decide +kernel), List.mem_of_getElem? (i := 664) (by decide +kernel), List.mem_of_getElem? (i := 665) (by decide +kernel)⟩
theorem lw_p15 : lw_okq (⟨"CommitIndex", "mixExchange", "(J)J"⟩, 8) := ⟨⟨by decide +kernel, by decide +kernel⟩, List.mem_of_getElem? (i := 14) (by decide +kernel), List.mem_of_getElem? (i := 668) (by decide +kernel), List.mem_of_getElem? (i := 669) (by decide +kernel)⟩
def lw_privs_1 : List (MethodName × Nat) := [(⟨"CommitIndex", "sheetAt", "(I)LCommitIndex$Sheet;"⟩, 8), (⟨"CommitIndex", "finding", "(I)I"⟩, 8), (⟨"CommitIndex$History", "joinLayers", "()V"⟩, 9), (⟨"CommitIndex$Painting", "passOn", "(IJ)V"⟩, 7), (⟨"CommitIndex$Paths", "passOn", "(II)V"⟩, 2), (⟨"CommitIndex", "walkPart", "(I)I"⟩, 8), (⟨"CommitIndex$Exchange", "tell", "(LCommitIndex$History;)V"⟩, 12), (⟨"CommitIndex$Exchange", "answer", "(LCommitIndex$History;I)V"⟩, 12), (⟨"CommitIndex$Exchange", "isServed", "(LCommitIndex$History;)Z"⟩, 12), (⟨"CommitIndex$Sheet", "narrowed", "(I)I"⟩, 3), (⟨"CommitIndex", "countPart", "(I)I"⟩, 8), (⟨"CommitIndex", "mixCounts", "(J)J"⟩, 8), (⟨"CommitIndex", "mixCommit", "(JI)J"⟩, 8), (⟨"CommitIndex", "mixKept", "(JI)J"⟩, 8), (⟨"CommitIndex", "mixPairs", "(JII)J"⟩, 8), (⟨"CommitIndex", "mixExchange", "(J)J"⟩, 8)]
theorem lw_r1 : ∀ q ∈ lw_privs_1, lw_okq q := List.forall_mem_cons.mpr ⟨lw_p0, List.forall_mem_cons.mpr ⟨lw_p1, List.forall_mem_cons.mpr ⟨lw_p2, List.forall_mem_cons.mpr ⟨lw_p3, List.forall_mem_cons.mpr ⟨lw_p4, List.forall_mem_cons.mpr ⟨lw_p5, List.forall_mem_cons.mpr ⟨lw_p6, List.forall_mem_cons.mpr ⟨lw_p7, List.forall_mem_cons.mpr ⟨lw_p8, List.forall_mem_cons.mpr ⟨lw_p9, List.forall_mem_cons.mpr ⟨lw_p10, List.forall_mem_cons.mpr ⟨lw_p11, List.forall_mem_cons.mpr ⟨lw_p12, List.forall_mem_cons.mpr ⟨lw_p13, List.forall_mem_cons.mpr ⟨lw_p14, List.forall_mem_cons.mpr ⟨lw_p15, fun _ h => absurd h List.not_mem_nil⟩⟩⟩⟩⟩⟩⟩⟩⟩⟩⟩⟩⟩⟩⟩⟩
theorem lw_p16 : lw_okq (⟨"CommitIndexModel", "finds", "(I)I"⟩, 31) := ⟨⟨by decide +kernel, by decide +kernel⟩, List.mem_of_getElem? (i := 672) (by decide +kernel), List.mem_of_getElem? (i := 784) (by decide +kernel), List.mem_of_getElem? (i := 785) (by decide +kernel)⟩
theorem lw_p17 : lw_okq (⟨"CommitIndexModel", "lacks", "(III)I"⟩, 31) := ⟨⟨by decide +kernel, by decide +kernel⟩, List.mem_of_getElem? (i := 672) (by decide +kernel), List.mem_of_getElem? (i := 796) (by decide +kernel), List.mem_of_getElem? (i := 797) (by decide +kernel)⟩
theorem lw_p18 : lw_okq (⟨"CommitIndexModel", "isNew", "(III)Z"⟩, 31) := ⟨⟨by decide +kernel, by decide +kernel⟩, List.mem_of_getElem? (i := 672) (by decide +kernel), List.mem_of_getElem? (i := 816) (by decide +kernel), List.mem_of_getElem? (i := 817) (by decide +kernel)⟩
theorem lw_p19 : lw_okq (⟨"CommitIndexModel", "layerBy", "(I)I"⟩, 31) := ⟨⟨by decide +kernel, by decide +kernel⟩, List.mem_of_getElem? (i := 672) (by decide +kernel), List.mem_of_getElem? (i := 843) (by decide +kernel), List.mem_of_getElem? (i := 844) (by decide +kernel)⟩
theorem lw_p20 : lw_okq (⟨"CommitIndexModel", "isCommit", "(I)Z"⟩, 31) := ⟨⟨by decide +kernel, by decide +kernel⟩, List.mem_of_getElem? (i := 672) (by decide +kernel), List.mem_of_getElem? (i := 860) (by decide +kernel), List.mem_of_getElem? (i := 861) (by decide +kernel)⟩
theorem lw_p21 : lw_okq (⟨"CommitIndexModel", "commitBy", "(II)I"⟩, 31) := ⟨⟨by decide +kernel, by decide +kernel⟩, List.mem_of_getElem? (i := 672) (by decide +kernel), List.mem_of_getElem? (i := 865) (by decide +kernel), List.mem_of_getElem? (i := 866) (by decide +kernel)⟩
theorem lw_p22 : lw_okq (⟨"CommitIndexModel", "generation", "(I)I"⟩, 31) := ⟨⟨by decide +kernel, by decide +kernel⟩, List.mem_of_getElem? (i := 672) (by decide +kernel), List.mem_of_getElem? (i := 869) (by decide +kernel), List.mem_of_getElem? (i := 870) (by decide +kernel)⟩
theorem lw_p23 : lw_okq (⟨"CommitIndexModel", "children", "(I)I"⟩, 31) := ⟨⟨by decide +kernel, by decide +kernel⟩, List.mem_of_getElem? (i := 672) (by decide +kernel), List.mem_of_getElem? (i := 873) (by decide +kernel), List.mem_of_getElem? (i := 874) (by decide +kernel)⟩
theorem lw_p24 : lw_okq (⟨"CommitIndexModel", "reachOf", "(I)J"⟩, 31) := ⟨⟨by decide +kernel, by decide +kernel⟩, List.mem_of_getElem? (i := 672) (by decide +kernel), List.mem_of_getElem? (i := 881) (by decide +kernel), List.mem_of_getElem? (i := 882) (by decide +kernel)⟩
theorem lw_p25 : lw_okq (⟨"CommitIndexModel", "parent", "(II)I"⟩, 31) := ⟨⟨by decide +kernel, by decide +kernel⟩, List.mem_of_getElem? (i := 672) (by decide +kernel), List.mem_of_getElem? (i := 885) (by decide +kernel), List.mem_of_getElem? (i := 886) (by decide +kernel)⟩
theorem lw_p26 : lw_okq (⟨"CommitIndexModel", "lookBy", "(III)I"⟩, 31) := ⟨⟨by decide +kernel, by decide +kernel⟩, List.mem_of_getElem? (i := 672) (by decide +kernel), List.mem_of_getElem? (i := 900) (by decide +kernel), List.mem_of_getElem? (i := 901) (by decide +kernel)⟩
theorem lw_p27 : lw_okq (⟨"CommitIndexModel", "looks", "(III)I"⟩, 31) := ⟨⟨by decide +kernel, by decide +kernel⟩, List.mem_of_getElem? (i := 672) (by decide +kernel), List.mem_of_getElem? (i := 904) (by decide +kernel), List.mem_of_getElem? (i := 905) (by decide +kernel)⟩
theorem lw_p28 : lw_okq (⟨"CommitIndexModel", "next", "(J)I"⟩, 31) := ⟨⟨by decide +kernel, by decide +kernel⟩, List.mem_of_getElem? (i := 672) (by decide +kernel), List.mem_of_getElem? (i := 908) (by decide +kernel), List.mem_of_getElem? (i := 909) (by decide +kernel)⟩
theorem lw_p29 : lw_okq (⟨"CommitIndexModel", "basesOf", "(II)J"⟩, 31) := ⟨⟨by decide +kernel, by decide +kernel⟩, List.mem_of_getElem? (i := 672) (by decide +kernel), List.mem_of_getElem? (i := 916) (by decide +kernel), List.mem_of_getElem? (i := 917) (by decide +kernel)⟩
theorem lw_p30 : lw_okq (⟨"CommitIndexModel", "paintsOf", "(II)I"⟩, 31) := ⟨⟨by decide +kernel, by decide +kernel⟩, List.mem_of_getElem? (i := 672) (by decide +kernel), List.mem_of_getElem? (i := 924) (by decide +kernel), List.mem_of_getElem? (i := 925) (by decide +kernel)⟩
theorem lw_p31 : lw_okq (⟨"CommitIndexModel", "waysOf", "(II)J"⟩, 31) := ⟨⟨by decide +kernel, by decide +kernel⟩, List.mem_of_getElem? (i := 672) (by decide +kernel), List.mem_of_getElem? (i := 932) (by decide +kernel), List.mem_of_getElem? (i := 933) (by decide +kernel)⟩
def lw_privs_2 : List (MethodName × Nat) := [(⟨"CommitIndexModel", "finds", "(I)I"⟩, 31), (⟨"CommitIndexModel", "lacks", "(III)I"⟩, 31), (⟨"CommitIndexModel", "isNew", "(III)Z"⟩, 31), (⟨"CommitIndexModel", "layerBy", "(I)I"⟩, 31), (⟨"CommitIndexModel", "isCommit", "(I)Z"⟩, 31), (⟨"CommitIndexModel", "commitBy", "(II)I"⟩, 31), (⟨"CommitIndexModel", "generation", "(I)I"⟩, 31), (⟨"CommitIndexModel", "children", "(I)I"⟩, 31), (⟨"CommitIndexModel", "reachOf", "(I)J"⟩, 31), (⟨"CommitIndexModel", "parent", "(II)I"⟩, 31), (⟨"CommitIndexModel", "lookBy", "(III)I"⟩, 31), (⟨"CommitIndexModel", "looks", "(III)I"⟩, 31), (⟨"CommitIndexModel", "next", "(J)I"⟩, 31), (⟨"CommitIndexModel", "basesOf", "(II)J"⟩, 31), (⟨"CommitIndexModel", "paintsOf", "(II)I"⟩, 31), (⟨"CommitIndexModel", "waysOf", "(II)J"⟩, 31)]
theorem lw_r2 : ∀ q ∈ lw_privs_2, lw_okq q := List.forall_mem_cons.mpr ⟨lw_p16, List.forall_mem_cons.mpr ⟨lw_p17, List.forall_mem_cons.mpr ⟨lw_p18, List.forall_mem_cons.mpr ⟨lw_p19, List.forall_mem_cons.mpr ⟨lw_p20, List.forall_mem_cons.mpr ⟨lw_p21, List.forall_mem_cons.mpr ⟨lw_p22, List.forall_mem_cons.mpr ⟨lw_p23, List.forall_mem_cons.mpr ⟨lw_p24, List.forall_mem_cons.mpr ⟨lw_p25, List.forall_mem_cons.mpr ⟨lw_p26, List.forall_mem_cons.mpr ⟨lw_p27, List.forall_mem_cons.mpr ⟨lw_p28, List.forall_mem_cons.mpr ⟨lw_p29, List.forall_mem_cons.mpr ⟨lw_p30, List.forall_mem_cons.mpr ⟨lw_p31, fun _ h => absurd h List.not_mem_nil⟩⟩⟩⟩⟩⟩⟩⟩⟩⟩⟩⟩⟩⟩⟩⟩
theorem lw_p32 : lw_okq (⟨"CommitIndexModel", "goesDown", "(I)V"⟩, 31) := ⟨⟨by decide +kernel, by decide +kernel⟩, List.mem_of_getElem? (i := 672) (by decide +kernel), List.mem_of_getElem? (i := 936) (by decide +kernel), List.mem_of_getElem? (i := 937) (by decide +kernel)⟩
theorem lw_p33 : lw_okq (⟨"CommitIndexModel", "farOf", "(II)I"⟩, 31) := ⟨⟨by decide +kernel, by decide +kernel⟩, List.mem_of_getElem? (i := 672) (by decide +kernel), List.mem_of_getElem? (i := 947) (by decide +kernel), List.mem_of_getElem? (i := 948) (by decide +kernel)⟩
theorem lw_p34 : lw_okq (⟨"CommitIndexModel", "keptBy", "(II)I"⟩, 31) := ⟨⟨by decide +kernel, by decide +kernel⟩, List.mem_of_getElem? (i := 672) (by decide +kernel), List.mem_of_getElem? (i := 955) (by decide +kernel), List.mem_of_getElem? (i := 956) (by decide +kernel)⟩
theorem lw_p35 : lw_okq (⟨"CommitIndexModel", "isKept", "(I)Z"⟩, 31) := ⟨⟨by decide +kernel, by decide +kernel⟩, List.mem_of_getElem? (i := 672) (by decide +kernel), List.mem_of_getElem? (i := 959) (by decide +kernel), List.mem_of_getElem? (i := 960) (by decide +kernel)⟩
theorem lw_p36 : lw_okq (⟨"CommitIndexModel", "rootOf", "(I)I"⟩, 31) := ⟨⟨by decide +kernel, by decide +kernel⟩, List.mem_of_getElem? (i := 672) (by decide +kernel), List.mem_of_getElem? (i := 963) (by decide +kernel), List.mem_of_getElem? (i := 964) (by decide +kernel)⟩
theorem lw_p37 : lw_okq (⟨"CommitIndexModel", "shareOf", "(I)I"⟩, 31) := ⟨⟨by decide +kernel, by decide +kernel⟩, List.mem_of_getElem? (i := 672) (by decide +kernel), List.mem_of_getElem? (i := 967) (by decide +kernel), List.mem_of_getElem? (i := 968) (by decide +kernel)⟩
theorem lw_p38 : lw_okq (⟨"CommitIndexModel", "rootsOf", "(I)I"⟩, 31) := ⟨⟨by decide +kernel, by decide +kernel⟩, List.mem_of_getElem? (i := 672) (by decide +kernel), List.mem_of_getElem? (i := 974) (by decide +kernel), List.mem_of_getElem? (i := 975) (by decide +kernel)⟩
theorem lw_p39 : lw_okq (⟨"CommitIndexModel", "walkBy", "(II)I"⟩, 31) := ⟨⟨by decide +kernel, by decide +kernel⟩, List.mem_of_getElem? (i := 672) (by decide +kernel), List.mem_of_getElem? (i := 982) (by decide +kernel), List.mem_of_getElem? (i := 983) (by decide +kernel)⟩
theorem lw_p40 : lw_okq (⟨"CommitIndexModel", "talks", "()V"⟩, 31) := ⟨⟨by decide +kernel, by decide +kernel⟩, List.mem_of_getElem? (i := 672) (by decide +kernel), List.mem_of_getElem? (i := 1002) (by decide +kernel), List.mem_of_getElem? (i := 1003) (by decide +kernel)⟩
theorem lw_p41 : lw_okq (⟨"CommitIndexModel", "reachAll", "(J)J"⟩, 31) := ⟨⟨by decide +kernel, by decide +kernel⟩, List.mem_of_getElem? (i := 672) (by decide +kernel), List.mem_of_getElem? (i := 1006) (by decide +kernel), List.mem_of_getElem? (i := 1007) (by decide +kernel)⟩
theorem lw_p42 : lw_okq (⟨"CommitIndexModel", "heads", "()J"⟩, 31) := ⟨⟨by decide +kernel, by decide +kernel⟩, List.mem_of_getElem? (i := 672) (by decide +kernel), List.mem_of_getElem? (i := 1010) (by decide +kernel), List.mem_of_getElem? (i := 1011) (by decide +kernel)⟩
theorem lw_p43 : lw_okq (⟨"CommitIndexModel", "nextTold", "()I"⟩, 31) := ⟨⟨by decide +kernel, by decide +kernel⟩, List.mem_of_getElem? (i := 672) (by decide +kernel), List.mem_of_getElem? (i := 1014) (by decide +kernel), List.mem_of_getElem? (i := 1015) (by decide +kernel)⟩
theorem lw_p44 : lw_okq (⟨"CommitIndexModel", "answers", "(I)V"⟩, 31) := ⟨⟨by decide +kernel, by decide +kernel⟩, List.mem_of_getElem? (i := 672) (by decide +kernel), List.mem_of_getElem? (i := 1018) (by decide +kernel), List.mem_of_getElem? (i := 1019) (by decide +kernel)⟩
theorem lw_p45 : lw_okq (⟨"CommitIndexModel", "isEnough", "()Z"⟩, 31) := ⟨⟨by decide +kernel, by decide +kernel⟩, List.mem_of_getElem? (i := 672) (by decide +kernel), List.mem_of_getElem? (i := 1022) (by decide +kernel), List.mem_of_getElem? (i := 1023) (by decide +kernel)⟩
theorem lw_p46 : lw_okq (⟨"CommitIndexModel", "setBy", "(I)J"⟩, 31) := ⟨⟨by decide +kernel, by decide +kernel⟩, List.mem_of_getElem? (i := 672) (by decide +kernel), List.mem_of_getElem? (i := 1027) (by decide +kernel), List.mem_of_getElem? (i := 1028) (by decide +kernel)⟩
theorem lw_p47 : lw_okq (⟨"CommitIndexModel", "toldBy", "(II)I"⟩, 31) := ⟨⟨by decide +kernel, by decide +kernel⟩, List.mem_of_getElem? (i := 672) (by decide +kernel), List.mem_of_getElem? (i := 1039) (by decide +kernel), List.mem_of_getElem? (i := 1040) (by decide +kernel)⟩
def lw_privs_3 : List (MethodName × Nat) := [(⟨"CommitIndexModel", "goesDown", "(I)V"⟩, 31), (⟨"CommitIndexModel", "farOf", "(II)I"⟩, 31), (⟨"CommitIndexModel", "keptBy", "(II)I"⟩, 31), (⟨"CommitIndexModel", "isKept", "(I)Z"⟩, 31), (⟨"CommitIndexModel", "rootOf", "(I)I"⟩, 31), (⟨"CommitIndexModel", "shareOf", "(I)I"⟩, 31), (⟨"CommitIndexModel", "rootsOf", "(I)I"⟩, 31), (⟨"CommitIndexModel", "walkBy", "(II)I"⟩, 31), (⟨"CommitIndexModel", "talks", "()V"⟩, 31), (⟨"CommitIndexModel", "reachAll", "(J)J"⟩, 31), (⟨"CommitIndexModel", "heads", "()J"⟩, 31), (⟨"CommitIndexModel", "nextTold", "()I"⟩, 31), (⟨"CommitIndexModel", "answers", "(I)V"⟩, 31), (⟨"CommitIndexModel", "isEnough", "()Z"⟩, 31), (⟨"CommitIndexModel", "setBy", "(I)J"⟩, 31), (⟨"CommitIndexModel", "toldBy", "(II)I"⟩, 31)]
theorem lw_r3 : ∀ q ∈ lw_privs_3, lw_okq q := List.forall_mem_cons.mpr ⟨lw_p32, List.forall_mem_cons.mpr ⟨lw_p33, List.forall_mem_cons.mpr ⟨lw_p34, List.forall_mem_cons.mpr ⟨lw_p35, List.forall_mem_cons.mpr ⟨lw_p36, List.forall_mem_cons.mpr ⟨lw_p37, List.forall_mem_cons.mpr ⟨lw_p38, List.forall_mem_cons.mpr ⟨lw_p39, List.forall_mem_cons.mpr ⟨lw_p40, List.forall_mem_cons.mpr ⟨lw_p41, List.forall_mem_cons.mpr ⟨lw_p42, List.forall_mem_cons.mpr ⟨lw_p43, List.forall_mem_cons.mpr ⟨lw_p44, List.forall_mem_cons.mpr ⟨lw_p45, List.forall_mem_cons.mpr ⟨lw_p46, List.forall_mem_cons.mpr ⟨lw_p47, fun _ h => absurd h List.not_mem_nil⟩⟩⟩⟩⟩⟩⟩⟩⟩⟩⟩⟩⟩⟩⟩⟩
theorem lw_p48 : lw_okq (⟨"CommitIndexModel", "thingsNow", "()I"⟩, 31) := ⟨⟨by decide +kernel, by decide +kernel⟩, List.mem_of_getElem? (i := 672) (by decide +kernel), List.mem_of_getElem? (i := 1047) (by decide +kernel), List.mem_of_getElem? (i := 1048) (by decide +kernel)⟩
theorem lw_p49 : lw_okq (⟨"CommitIndexModel", "tellsCommit", "(JII)J"⟩, 31) := ⟨⟨by decide +kernel, by decide +kernel⟩, List.mem_of_getElem? (i := 672) (by decide +kernel), List.mem_of_getElem? (i := 1066) (by decide +kernel), List.mem_of_getElem? (i := 1067) (by decide +kernel)⟩
def lw_privs_4 : List (MethodName × Nat) := [(⟨"CommitIndexModel", "thingsNow", "()I"⟩, 31), (⟨"CommitIndexModel", "tellsCommit", "(JII)J"⟩, 31)]
theorem lw_r4 : ∀ q ∈ lw_privs_4, lw_okq q := List.forall_mem_cons.mpr ⟨lw_p48, List.forall_mem_cons.mpr ⟨lw_p49, fun _ h => absurd h List.not_mem_nil⟩⟩
def lw_privs : List (MethodName × Nat) := lw_privs_1 ++ (lw_privs_2 ++ (lw_privs_3 ++ (lw_privs_4)))
def lw_tbl : List Cond := k2_sels lw_privs ++ tables_1
theorem lw_privs_ok : ∀ q ∈ lw_privs, lw_okq q := by
  show ∀ q ∈ lw_privs_1 ++ (lw_privs_2 ++ (lw_privs_3 ++ (lw_privs_4))), lw_okq q
  exact List.forall_mem_append.mpr ⟨lw_r1, List.forall_mem_append.mpr ⟨lw_r2, List.forall_mem_append.mpr ⟨lw_r3, lw_r4⟩⟩⟩

theorem goodIn_r {big : List Cond} (ws : List Cond) (ps : List Nat) (hp : ws = ps.filterMap (fun i => big[i]?)) (h : ws.all goodWord = true) : GoodIn big ws := by
  intro w hw
  have h1 := List.all_eq_true.mp h w hw
  rw [hp] at hw
  obtain ⟨i, -, hi⟩ := List.mem_filterMap.mp hw
  have hm : w ∈ big := by first | exact List.mem_of_getElem? hi | exact List.getElem?_mem hi
  exact ⟨hm, good_of_word h1⟩
theorem goodIn_app {big a b : List Cond} (ha : GoodIn big a) (hb : GoodIn big b) : GoodIn big (a ++ b) := fun w h => (List.mem_append.mp h).elim (ha w) (hb w)
theorem goodIn_ca {big a b : List Cond} {c : Cond} (ha : GoodIn big (c :: a)) (hb : GoodIn big b) : GoodIn big (c :: (a ++ b)) := fun w h => (List.mem_cons.mp h).elim (fun e => ha w (List.mem_cons.mpr (Or.inl e))) (fun h => (List.mem_append.mp h).elim (fun h => ha w (List.mem_cons.mpr (Or.inr h))) (hb w))
theorem goodIn_sub {big ws : List Cond} (hm : ∀ w ∈ ws, w ∈ big) (h : ws.all goodWord = true) : GoodIn big ws := fun w hw => ⟨hm w hw, good_of_word (List.all_eq_true.mp h w hw)⟩
def RX0 : String := "CommitIndex$Exchange"
def TX0 : u_T := fun k => match k with
  | 0 => ("CommitIndex$Exchange", "had", "J", false)
  | 1 => ("CommitIndex$Exchange", "wanted", "J", false)
  | 2 => ("CommitIndex$Exchange", "per", "I", false)
  | 3 => ("CommitIndex$Exchange", "haste", "I", false)
  | 4 => ("CommitIndex$Exchange", "toldCommits", "[I", true)
  | 5 => ("CommitIndex$Exchange", "toldRounds", "[I", true)
  | 6 => ("CommitIndex$Exchange", "tellings", "I", false)
  | 7 => ("CommitIndex$Exchange", "held", "I", false)
  | 8 => ("CommitIndex$Exchange", "pile", "J", false)
  | 9 => ("CommitIndex$Exchange", "been", "J", false)
  | 10 => ("CommitIndex$Exchange", "common", "J", false)
  | _ => ("CommitIndex$Exchange", "given", "J", false)
def tyX0 : Nat → FieldType := fun k => match k with
  | 0 => .long
  | 1 => .long
  | 2 => .int
  | 3 => .int
  | 4 => .array .int
  | 5 => .array .int
  | 6 => .int
  | 7 => .int
  | 8 => .long
  | 9 => .long
  | 10 => .long
  | _ => .long
abbrev wsX00 : List Cond := u_ws RX0 TX0 12
theorem nmX0 : ∀ a, a < 12 → ∀ b, b < 12 → a ≠ b → (TX0 a).2.1 ≠ (TX0 b).2.1 := by decide +kernel
theorem tyX0_ok : ∀ k, k < 12 → parseFieldDescriptor (TX0 k).2.2.1 = some (tyX0 k) := by decide +kernel
abbrev cX0_init : ByteArray := prog_2_method_1_code
def yX0_init : MethodName := ⟨RX0, "<init>", "()V"⟩
abbrev cX0_forget : ByteArray := prog_2_method_2_code
def yX0_forget : MethodName := ⟨RX0, "forget", "(I)V"⟩
abbrev cX0_talk : ByteArray := prog_2_method_3_code
def yX0_talk : MethodName := ⟨RX0, "talk", "(LCommitIndex$History;)V"⟩
abbrev cX0_tell : ByteArray := prog_2_method_4_code
def yX0_tell : MethodName := ⟨RX0, "tell", "(LCommitIndex$History;)V"⟩
abbrev cX0_answer : ByteArray := prog_2_method_5_code
def yX0_answer : MethodName := ⟨RX0, "answer", "(LCommitIndex$History;I)V"⟩
abbrev cX0_isServed : ByteArray := prog_2_method_6_code
def yX0_isServed : MethodName := ⟨RX0, "isServed", "(LCommitIndex$History;)Z"⟩
abbrev cX0_setOf : ByteArray := prog_2_method_7_code
def yX0_setOf : MethodName := ⟨RX0, "setOf", "(I)J"⟩
abbrev cX0_tellingPart : ByteArray := prog_2_method_8_code
def yX0_tellingPart : MethodName := ⟨RX0, "tellingPart", "(II)I"⟩
abbrev cX0_thingsSent : ByteArray := prog_2_method_9_code
def yX0_thingsSent : MethodName := ⟨RX0, "thingsSent", "(LCommitIndex$History;)I"⟩
def RX1 : String := "CommitIndex$History"
def TX1 : u_T := fun k => match k with
  | 0 => ("CommitIndex$History", "first", "[I", true)
  | 1 => ("CommitIndex$History", "second", "[I", true)
  | 2 => ("CommitIndex$History", "thingBits", "[I", true)
  | 3 => ("CommitIndex$History", "ranks", "[I", true)
  | 4 => ("CommitIndex$History", "reached", "[J", true)
  | 5 => ("CommitIndex$History", "layerSizes", "[I", true)
  | 6 => ("CommitIndex$History", "size", "I", false)
  | 7 => ("CommitIndex$History", "sealed", "I", false)
  | _ => ("CommitIndex$History", "layers", "I", false)
def tyX1 : Nat → FieldType := fun k => match k with
  | 0 => .array .int
  | 1 => .array .int
  | 2 => .array .int
  | 3 => .array .int
  | 4 => .array .long
  | 5 => .array .int
  | 6 => .int
  | 7 => .int
  | _ => .int
abbrev wsX10 : List Cond := u_ws RX1 TX1 9
theorem nmX1 : ∀ a, a < 9 → ∀ b, b < 9 → a ≠ b → (TX1 a).2.1 ≠ (TX1 b).2.1 := by decide +kernel
theorem tyX1_ok : ∀ k, k < 9 → parseFieldDescriptor (TX1 k).2.2.1 = some (tyX1 k) := by decide +kernel
abbrev cX1_init : ByteArray := prog_3_method_1_code
def yX1_init : MethodName := ⟨RX1, "<init>", "()V"⟩
abbrev cX1_holds : ByteArray := prog_3_method_2_code
def yX1_holds : MethodName := ⟨RX1, "holds", "(I)Z"⟩
abbrev cX1_isFull : ByteArray := prog_3_method_3_code
def yX1_isFull : MethodName := ⟨RX1, "isFull", "()Z"⟩
abbrev cX1_admits : ByteArray := prog_3_method_4_code
def yX1_admits : MethodName := ⟨RX1, "admits", "(III)Z"⟩
abbrev cX1_append : ByteArray := prog_3_method_5_code
def yX1_append : MethodName := ⟨RX1, "append", "(III)V"⟩
abbrev cX1_dropLast : ByteArray := prog_3_method_6_code
def yX1_dropLast : MethodName := ⟨RX1, "dropLast", "()V"⟩
abbrev cX1_sealRest : ByteArray := prog_3_method_7_code
def yX1_sealRest : MethodName := ⟨RX1, "sealRest", "()V"⟩
abbrev cX1_joinLayers : ByteArray := prog_3_method_8_code
def yX1_joinLayers : MethodName := ⟨RX1, "joinLayers", "()V"⟩
abbrev cX1_layerSize : ByteArray := prog_3_method_9_code
def yX1_layerSize : MethodName := ⟨RX1, "layerSize", "(I)I"⟩
abbrev cX1_firstParent : ByteArray := prog_3_method_10_code
def yX1_firstParent : MethodName := ⟨RX1, "firstParent", "(I)I"⟩
abbrev cX1_secondParent : ByteArray := prog_3_method_11_code
def yX1_secondParent : MethodName := ⟨RX1, "secondParent", "(I)I"⟩
abbrev cX1_parentsOf : ByteArray := prog_3_method_12_code
def yX1_parentsOf : MethodName := ⟨RX1, "parentsOf", "(I)J"⟩
abbrev cX1_childrenOf : ByteArray := prog_3_method_13_code
def yX1_childrenOf : MethodName := ⟨RX1, "childrenOf", "(I)I"⟩
abbrev cX1_rankOf : ByteArray := prog_3_method_14_code
def yX1_rankOf : MethodName := ⟨RX1, "rankOf", "(I)I"⟩
abbrev cX1_generationOf : ByteArray := prog_3_method_15_code
def yX1_generationOf : MethodName := ⟨RX1, "generationOf", "(I)I"⟩
abbrev cX1_reachOf : ByteArray := prog_3_method_16_code
def yX1_reachOf : MethodName := ⟨RX1, "reachOf", "(I)J"⟩
abbrev cX1_reachOfAll : ByteArray := prog_3_method_17_code
def yX1_reachOfAll : MethodName := ⟨RX1, "reachOfAll", "(J)J"⟩
abbrev cX1_tipsOf : ByteArray := prog_3_method_18_code
def yX1_tipsOf : MethodName := ⟨RX1, "tipsOf", "(J)J"⟩
abbrev cX1_thingsOf : ByteArray := prog_3_method_19_code
def yX1_thingsOf : MethodName := ⟨RX1, "thingsOf", "(J)I"⟩
abbrev cX1_fromGeneration : ByteArray := prog_3_method_20_code
def yX1_fromGeneration : MethodName := ⟨RX1, "fromGeneration", "(I)J"⟩
abbrev cX1_topByGeneration : ByteArray := prog_3_method_21_code
def yX1_topByGeneration : MethodName := ⟨RX1, "topByGeneration", "(J)I"⟩
abbrev cX1_topByRank : ByteArray := prog_3_method_22_code
def yX1_topByRank : MethodName := ⟨RX1, "topByRank", "(J)I"⟩
def RX2 : String := "CommitIndex$KeptSets"
def TX2 : u_T := fun k => match k with
  | 0 => ("CommitIndex$KeptSets", "every", "I", false)
  | 1 => ("CommitIndex$KeptSets", "looked", "I", false)
  | 2 => ("CommitIndex$KeptSets", "used", "I", false)
  | _ => ("CommitIndex$KeptSets", "found", "J", false)
def tyX2 : Nat → FieldType := fun k => match k with
  | 0 => .int
  | 1 => .int
  | 2 => .int
  | _ => .long
abbrev wsX20 : List Cond := u_ws RX2 TX2 4
theorem nmX2 : ∀ a, a < 4 → ∀ b, b < 4 → a ≠ b → (TX2 a).2.1 ≠ (TX2 b).2.1 := by decide +kernel
theorem tyX2_ok : ∀ k, k < 4 → parseFieldDescriptor (TX2 k).2.2.1 = some (tyX2 k) := by decide +kernel
abbrev cX2_init : ByteArray := prog_4_method_1_code
def yX2_init : MethodName := ⟨RX2, "<init>", "()V"⟩
abbrev cX2_isKept : ByteArray := prog_4_method_2_code
def yX2_isKept : MethodName := ⟨RX2, "isKept", "(I)Z"⟩
abbrev cX2_rootOf : ByteArray := prog_4_method_3_code
def yX2_rootOf : MethodName := ⟨RX2, "rootOf", "(LCommitIndex$History;I)I"⟩
abbrev cX2_shareSize : ByteArray := prog_4_method_4_code
def yX2_shareSize : MethodName := ⟨RX2, "shareSize", "(LCommitIndex$History;I)I"⟩
abbrev cX2_rootsBehind : ByteArray := prog_4_method_5_code
def yX2_rootsBehind : MethodName := ⟨RX2, "rootsBehind", "(LCommitIndex$History;I)I"⟩
abbrev cX2_descend : ByteArray := prog_4_method_6_code
def yX2_descend : MethodName := ⟨RX2, "descend", "(LCommitIndex$History;I)V"⟩
def RX3 : String := "CommitIndex$Looking"
def TX3 : u_T := fun k => match k with
  | 0 => ("CommitIndex$Looking", "order", "[I", true)
  | 1 => ("CommitIndex$Looking", "looked", "I", false)
  | _ => ("CommitIndex$Looking", "met", "Z", false)
def tyX3 : Nat → FieldType := fun k => match k with
  | 0 => .array .int
  | 1 => .int
  | _ => .boolean
abbrev wsX30 : List Cond := u_ws RX3 TX3 3
theorem nmX3 : ∀ a, a < 3 → ∀ b, b < 3 → a ≠ b → (TX3 a).2.1 ≠ (TX3 b).2.1 := by decide +kernel
theorem tyX3_ok : ∀ k, k < 3 → parseFieldDescriptor (TX3 k).2.2.1 = some (tyX3 k) := by decide +kernel
abbrev cX3_init : ByteArray := prog_5_method_1_code
def yX3_init : MethodName := ⟨RX3, "<init>", "()V"⟩
abbrev cX3_search : ByteArray := prog_5_method_2_code
def yX3_search : MethodName := ⟨RX3, "search", "(LCommitIndex$History;IIZ)V"⟩
abbrev cX3_lookedAt : ByteArray := prog_5_method_3_code
def yX3_lookedAt : MethodName := ⟨RX3, "lookedAt", "(I)I"⟩
def RX4 : String := "CommitIndex$Painting"
def TX4 : u_T := fun k => match k with
  | 0 => ("CommitIndex$Painting", "one", "J", false)
  | 1 => ("CommitIndex$Painting", "two", "J", false)
  | 2 => ("CommitIndex$Painting", "stale", "J", false)
  | 3 => ("CommitIndex$Painting", "pile", "J", false)
  | 4 => ("CommitIndex$Painting", "been", "J", false)
  | 5 => ("CommitIndex$Painting", "found", "J", false)
  | _ => ("CommitIndex$Painting", "looked", "I", false)
def tyX4 : Nat → FieldType := fun k => match k with
  | 0 => .long
  | 1 => .long
  | 2 => .long
  | 3 => .long
  | 4 => .long
  | 5 => .long
  | _ => .int
abbrev wsX40 : List Cond := u_ws RX4 TX4 7
theorem nmX4 : ∀ a, a < 7 → ∀ b, b < 7 → a ≠ b → (TX4 a).2.1 ≠ (TX4 b).2.1 := by decide +kernel
theorem tyX4_ok : ∀ k, k < 7 → parseFieldDescriptor (TX4 k).2.2.1 = some (tyX4 k) := by decide +kernel
abbrev cX4_init : ByteArray := prog_6_method_1_code
def yX4_init : MethodName := ⟨RX4, "<init>", "()V"⟩
abbrev cX4_paint : ByteArray := prog_6_method_2_code
def yX4_paint : MethodName := ⟨RX4, "paint", "(LCommitIndex$History;II)V"⟩
abbrev cX4_passOn : ByteArray := prog_6_method_3_code
def yX4_passOn : MethodName := ⟨RX4, "passOn", "(IJ)V"⟩
def RX5 : String := "CommitIndex$Paths"
def TX5 : u_T := fun k => match k with
  | 0 => ("CommitIndex$Paths", "ways", "[J", true)
  | _ => ("CommitIndex$Paths", "steps", "[I", true)
def tyX5 : Nat → FieldType := fun k => match k with
  | 0 => .array .long
  | _ => .array .int
abbrev wsX50 : List Cond := u_ws RX5 TX5 2
theorem nmX5 : ∀ a, a < 2 → ∀ b, b < 2 → a ≠ b → (TX5 a).2.1 ≠ (TX5 b).2.1 := by decide +kernel
theorem tyX5_ok : ∀ k, k < 2 → parseFieldDescriptor (TX5 k).2.2.1 = some (tyX5 k) := by decide +kernel
abbrev cX5_init : ByteArray := prog_7_method_1_code
def yX5_init : MethodName := ⟨RX5, "<init>", "()V"⟩
abbrev cX5_trace : ByteArray := prog_7_method_2_code
def yX5_trace : MethodName := ⟨RX5, "trace", "(LCommitIndex$History;I)V"⟩
abbrev cX5_passOn : ByteArray := prog_7_method_3_code
def yX5_passOn : MethodName := ⟨RX5, "passOn", "(II)V"⟩
abbrev cX5_waysTo : ByteArray := prog_7_method_4_code
def yX5_waysTo : MethodName := ⟨RX5, "waysTo", "(I)J"⟩
abbrev cX5_stepsTo : ByteArray := prog_7_method_5_code
def yX5_stepsTo : MethodName := ⟨RX5, "stepsTo", "(I)I"⟩
def RX6 : String := "CommitIndex$Sheet"
def TX6 : u_T := fun k => match k with
  | 0 => ("CommitIndex$Sheet", "items", "[I", true)
  | 1 => ("CommitIndex$Sheet", "form", "I", false)
  | _ => ("CommitIndex$Sheet", "length", "I", false)
def tyX6 : Nat → FieldType := fun k => match k with
  | 0 => .array .int
  | 1 => .int
  | _ => .int
abbrev wsX60 : List Cond := u_ws RX6 TX6 3
theorem nmX6 : ∀ a, a < 3 → ∀ b, b < 3 → a ≠ b → (TX6 a).2.1 ≠ (TX6 b).2.1 := by decide +kernel
theorem tyX6_ok : ∀ k, k < 3 → parseFieldDescriptor (TX6 k).2.2.1 = some (tyX6 k) := by decide +kernel
abbrev cX6_init : ByteArray := prog_8_method_1_code
def yX6_init : MethodName := ⟨RX6, "<init>", "()V"⟩
abbrev cX6_isLost : ByteArray := prog_8_method_2_code
def yX6_isLost : MethodName := ⟨RX6, "isLost", "()Z"⟩
abbrev cX6_renew : ByteArray := prog_8_method_3_code
def yX6_renew : MethodName := ⟨RX6, "renew", "(II)V"⟩
abbrev cX6_faultAt : ByteArray := prog_8_method_4_code
def yX6_faultAt : MethodName := ⟨RX6, "faultAt", "(II)I"⟩
abbrev cX6_hasItem : ByteArray := prog_8_method_5_code
def yX6_hasItem : MethodName := ⟨RX6, "hasItem", "(I)Z"⟩
abbrev cX6_hasRun : ByteArray := prog_8_method_6_code
def yX6_hasRun : MethodName := ⟨RX6, "hasRun", "(II)Z"⟩
abbrev cX6_itemAt : ByteArray := prog_8_method_7_code
def yX6_itemAt : MethodName := ⟨RX6, "itemAt", "(I)I"⟩
abbrev cX6_store : ByteArray := prog_8_method_8_code
def yX6_store : MethodName := ⟨RX6, "store", "(II)V"⟩
abbrev cX6_narrowed : ByteArray := prog_8_method_9_code
def yX6_narrowed : MethodName := ⟨RX6, "narrowed", "(I)I"⟩
def RX7 : String := "CommitIndex"
def TX7 : u_T := fun k => match k with
  | 0 => ("CommitIndex", "history", "LCommitIndex$History;", true)
  | 1 => ("CommitIndex", "looking", "LCommitIndex$Looking;", true)
  | 2 => ("CommitIndex", "painting", "LCommitIndex$Painting;", true)
  | 3 => ("CommitIndex", "paths", "LCommitIndex$Paths;", true)
  | 4 => ("CommitIndex", "keptSets", "LCommitIndex$KeptSets;", true)
  | 5 => ("CommitIndex", "exchange", "LCommitIndex$Exchange;", true)
  | 6 => ("CommitIndex", "rows", "[LCommitIndex$Sheet;", true)
  | _ => ("CommitIndex", "latestFinding", "I", false)
def tyX7 : Nat → FieldType := fun k => match k with
  | 0 => .object "CommitIndex$History"
  | 1 => .object "CommitIndex$Looking"
  | 2 => .object "CommitIndex$Painting"
  | 3 => .object "CommitIndex$Paths"
  | 4 => .object "CommitIndex$KeptSets"
  | 5 => .object "CommitIndex$Exchange"
  | 6 => .array (.object "CommitIndex$Sheet")
  | _ => .int
abbrev wsX70 : List Cond := u_ws RX7 TX7 8
theorem nmX7 : ∀ a, a < 8 → ∀ b, b < 8 → a ≠ b → (TX7 a).2.1 ≠ (TX7 b).2.1 := by decide +kernel
theorem tyX7_ok : ∀ k, k < 8 → parseFieldDescriptor (TX7 k).2.2.1 = some (tyX7 k) := by decide +kernel
abbrev cX7_init : ByteArray := prog_1_method_1_code
def yX7_init : MethodName := ⟨RX7, "<init>", "()V"⟩
abbrev cX7_add : ByteArray := prog_1_method_2_code
def yX7_add : MethodName := ⟨RX7, "add", "(III)I"⟩
abbrev cX7_back : ByteArray := prog_1_method_3_code
def yX7_back : MethodName := ⟨RX7, "back", "()I"⟩
abbrev cX7_read : ByteArray := prog_1_method_4_code
def yX7_read : MethodName := ⟨RX7, "read", "(I)I"⟩
abbrev cX7_seal : ByteArray := prog_1_method_5_code
def yX7_seal : MethodName := ⟨RX7, "seal", "()I"⟩
abbrev cX7_layer : ByteArray := prog_1_method_6_code
def yX7_layer : MethodName := ⟨RX7, "layer", "(I)I"⟩
abbrev cX7_set : ByteArray := prog_1_method_7_code
def yX7_set : MethodName := ⟨RX7, "set", "(II)I"⟩
abbrev cX7_commit : ByteArray := prog_1_method_8_code
def yX7_commit : MethodName := ⟨RX7, "commit", "(II)I"⟩
abbrev cX7_reach : ByteArray := prog_1_method_9_code
def yX7_reach : MethodName := ⟨RX7, "reach", "(I)J"⟩
abbrev cX7_look : ByteArray := prog_1_method_10_code
def yX7_look : MethodName := ⟨RX7, "look", "(III)I"⟩
abbrev cX7_bases : ByteArray := prog_1_method_11_code
def yX7_bases : MethodName := ⟨RX7, "bases", "(II)J"⟩
abbrev cX7_paints : ByteArray := prog_1_method_12_code
def yX7_paints : MethodName := ⟨RX7, "paints", "(II)I"⟩
abbrev cX7_ways : ByteArray := prog_1_method_13_code
def yX7_ways : MethodName := ⟨RX7, "ways", "(II)J"⟩
abbrev cX7_far : ByteArray := prog_1_method_14_code
def yX7_far : MethodName := ⟨RX7, "far", "(II)I"⟩
abbrev cX7_kept : ByteArray := prog_1_method_15_code
def yX7_kept : MethodName := ⟨RX7, "kept", "(II)I"⟩
abbrev cX7_walk : ByteArray := prog_1_method_16_code
def yX7_walk : MethodName := ⟨RX7, "walk", "(II)I"⟩
abbrev cX7_walkPart : ByteArray := prog_1_method_17_code
def yX7_walkPart : MethodName := ⟨RX7, "walkPart", "(I)I"⟩
abbrev cX7_has : ByteArray := prog_1_method_18_code
def yX7_has : MethodName := ⟨RX7, "has", "(I)I"⟩
abbrev cX7_want : ByteArray := prog_1_method_19_code
def yX7_want : MethodName := ⟨RX7, "want", "(I)I"⟩
abbrev cX7_clear : ByteArray := prog_1_method_20_code
def yX7_clear : MethodName := ⟨RX7, "clear", "(I)I"⟩
abbrev cX7_sets : ByteArray := prog_1_method_21_code
def yX7_sets : MethodName := ⟨RX7, "sets", "(I)J"⟩
abbrev cX7_rounds : ByteArray := prog_1_method_22_code
def yX7_rounds : MethodName := ⟨RX7, "rounds", "()I"⟩
abbrev cX7_told : ByteArray := prog_1_method_23_code
def yX7_told : MethodName := ⟨RX7, "told", "(II)I"⟩
abbrev cX7_things : ByteArray := prog_1_method_24_code
def yX7_things : MethodName := ⟨RX7, "things", "()I"⟩
abbrev cX7_sheet : ByteArray := prog_1_method_25_code
def yX7_sheet : MethodName := ⟨RX7, "sheet", "(III)I"⟩
abbrev cX7_lose : ByteArray := prog_1_method_26_code
def yX7_lose : MethodName := ⟨RX7, "lose", "(I)I"⟩
abbrev cX7_lay : ByteArray := prog_1_method_27_code
def yX7_lay : MethodName := ⟨RX7, "lay", "(IIII)I"⟩
abbrev cX7_get : ByteArray := prog_1_method_28_code
def yX7_get : MethodName := ⟨RX7, "get", "(III)I"⟩
abbrev cX7_copy : ByteArray := prog_1_method_29_code
def yX7_copy : MethodName := ⟨RX7, "copy", "(IIIII)I"⟩
abbrev cX7_write : ByteArray := prog_1_method_30_code
def yX7_write : MethodName := ⟨RX7, "write", "(III)I"⟩
abbrev cX7_count : ByteArray := prog_1_method_31_code
def yX7_count : MethodName := ⟨RX7, "count", "(I)I"⟩
abbrev cX7_digest : ByteArray := prog_1_method_32_code
def yX7_digest : MethodName := ⟨RX7, "digest", "()J"⟩
abbrev cX7_countPart : ByteArray := prog_1_method_33_code
def yX7_countPart : MethodName := ⟨RX7, "countPart", "(I)I"⟩
abbrev cX7_mixCounts : ByteArray := prog_1_method_34_code
def yX7_mixCounts : MethodName := ⟨RX7, "mixCounts", "(J)J"⟩
abbrev cX7_mixCommit : ByteArray := prog_1_method_35_code
def yX7_mixCommit : MethodName := ⟨RX7, "mixCommit", "(JI)J"⟩
abbrev cX7_mixKept : ByteArray := prog_1_method_36_code
def yX7_mixKept : MethodName := ⟨RX7, "mixKept", "(JI)J"⟩
abbrev cX7_mixPairs : ByteArray := prog_1_method_37_code
def yX7_mixPairs : MethodName := ⟨RX7, "mixPairs", "(JII)J"⟩
abbrev cX7_mixExchange : ByteArray := prog_1_method_38_code
def yX7_mixExchange : MethodName := ⟨RX7, "mixExchange", "(J)J"⟩
abbrev cX7_finding : ByteArray := prog_1_method_39_code
def yX7_finding : MethodName := ⟨RX7, "finding", "(I)I"⟩
abbrev cX7_sheetAt : ByteArray := prog_1_method_40_code
def yX7_sheetAt : MethodName := ⟨RX7, "sheetAt", "(I)LCommitIndex$Sheet;"⟩
abbrev cX7_isForm : ByteArray := prog_1_method_41_code
def yX7_isForm : MethodName := ⟨RX7, "isForm", "(I)Z"⟩
abbrev cX7_mix : ByteArray := prog_1_method_42_code
def yX7_mix : MethodName := ⟨RX7, "mix", "(JJ)J"⟩
abbrev cX7_bit : ByteArray := prog_1_method_43_code
def yX7_bit : MethodName := ⟨RX7, "bit", "(I)J"⟩
abbrev cX7_isIn : ByteArray := prog_1_method_44_code
def yX7_isIn : MethodName := ⟨RX7, "isIn", "(JI)Z"⟩
abbrev cX7_greatestIn : ByteArray := prog_1_method_45_code
def yX7_greatestIn : MethodName := ⟨RX7, "greatestIn", "(J)I"⟩
def RX8 : String := "CommitIndexModel"
def TX8 : u_T := fun k => match k with
  | 0 => ("CommitIndexModel", "forms", "[I", true)
  | 1 => ("CommitIndexModel", "sizes", "[I", true)
  | 2 => ("CommitIndexModel", "items", "[I", true)
  | 3 => ("CommitIndexModel", "moved", "[I", true)
  | 4 => ("CommitIndexModel", "latest", "I", false)
  | 5 => ("CommitIndexModel", "commits", "I", false)
  | 6 => ("CommitIndexModel", "first", "[I", true)
  | 7 => ("CommitIndexModel", "second", "[I", true)
  | 8 => ("CommitIndexModel", "rank", "[I", true)
  | 9 => ("CommitIndexModel", "things", "[I", true)
  | 10 => ("CommitIndexModel", "sealed", "I", false)
  | 11 => ("CommitIndexModel", "layers", "I", false)
  | 12 => ("CommitIndexModel", "layer", "[I", true)
  | 13 => ("CommitIndexModel", "every", "I", false)
  | 14 => ("CommitIndexModel", "per", "I", false)
  | 15 => ("CommitIndexModel", "haste", "I", false)
  | 16 => ("CommitIndexModel", "had", "J", false)
  | 17 => ("CommitIndexModel", "wanted", "J", false)
  | 18 => ("CommitIndexModel", "looked", "[I", true)
  | 19 => ("CommitIndexModel", "painted", "I", false)
  | 20 => ("CommitIndexModel", "many", "[J", true)
  | 21 => ("CommitIndexModel", "steps", "[I", true)
  | 22 => ("CommitIndexModel", "rounds", "I", false)
  | 23 => ("CommitIndexModel", "tells", "I", false)
  | 24 => ("CommitIndexModel", "told", "[I", true)
  | 25 => ("CommitIndexModel", "answer", "[I", true)
  | 26 => ("CommitIndexModel", "round", "[I", true)
  | 27 => ("CommitIndexModel", "common", "J", false)
  | 28 => ("CommitIndexModel", "given", "J", false)
  | 29 => ("CommitIndexModel", "pileNow", "J", false)
  | _ => ("CommitIndexModel", "everNow", "J", false)
def tyX8 : Nat → FieldType := fun k => match k with
  | 0 => .array .int
  | 1 => .array .int
  | 2 => .array .int
  | 3 => .array .int
  | 4 => .int
  | 5 => .int
  | 6 => .array .int
  | 7 => .array .int
  | 8 => .array .int
  | 9 => .array .int
  | 10 => .int
  | 11 => .int
  | 12 => .array .int
  | 13 => .int
  | 14 => .int
  | 15 => .int
  | 16 => .long
  | 17 => .long
  | 18 => .array .int
  | 19 => .int
  | 20 => .array .long
  | 21 => .array .int
  | 22 => .int
  | 23 => .int
  | 24 => .array .int
  | 25 => .array .int
  | 26 => .array .int
  | 27 => .long
  | 28 => .long
  | 29 => .long
  | _ => .long
abbrev wsX80 : List Cond := u_ws RX8 TX8 31
theorem nmX8 : ∀ a, a < 31 → ∀ b, b < 31 → a ≠ b → (TX8 a).2.1 ≠ (TX8 b).2.1 := by decide +kernel
theorem tyX8_ok : ∀ k, k < 31 → parseFieldDescriptor (TX8 k).2.2.1 = some (tyX8 k) := by decide +kernel
abbrev cX8_init : ByteArray := prog_10_method_1_code
def yX8_init : MethodName := ⟨RX8, "<init>", "()V"⟩
abbrev cX8_in : ByteArray := prog_10_method_3_code
def yX8_in : MethodName := ⟨RX8, "in", "(JJJ)Z"⟩
abbrev cX8_no : ByteArray := prog_10_method_4_code
def yX8_no : MethodName := ⟨RX8, "no", "(I)J"⟩
abbrev cX8_isTwo : ByteArray := prog_10_method_5_code
def yX8_isTwo : MethodName := ⟨RX8, "isTwo", "(I)Z"⟩
abbrev cX8_lesser : ByteArray := prog_10_method_7_code
def yX8_lesser : MethodName := ⟨RX8, "lesser", "(II)I"⟩
abbrev cX8_greater : ByteArray := prog_10_method_8_code
def yX8_greater : MethodName := ⟨RX8, "greater", "(II)I"⟩
abbrev cX8_finds : ByteArray := prog_10_method_10_code
def yX8_finds : MethodName := ⟨RX8, "finds", "(I)I"⟩
abbrev cX8_isSheet : ByteArray := prog_10_method_11_code
def yX8_isSheet : MethodName := ⟨RX8, "isSheet", "(I)Z"⟩
abbrev cX8_sheet : ByteArray := prog_10_method_12_code
def yX8_sheet : MethodName := ⟨RX8, "sheet", "(III)I"⟩
abbrev cX8_lose : ByteArray := prog_10_method_13_code
def yX8_lose : MethodName := ⟨RX8, "lose", "(I)I"⟩
abbrev cX8_lacks : ByteArray := prog_10_method_14_code
def yX8_lacks : MethodName := ⟨RX8, "lacks", "(III)I"⟩
abbrev cX8_cut : ByteArray := prog_10_method_15_code
def yX8_cut : MethodName := ⟨RX8, "cut", "(II)I"⟩
abbrev cX8_lay : ByteArray := prog_10_method_16_code
def yX8_lay : MethodName := ⟨RX8, "lay", "(IIII)I"⟩
abbrev cX8_get : ByteArray := prog_10_method_17_code
def yX8_get : MethodName := ⟨RX8, "get", "(III)I"⟩
abbrev cX8_copy : ByteArray := prog_10_method_18_code
def yX8_copy : MethodName := ⟨RX8, "copy", "(IIIII)I"⟩
abbrev cX8_isCommit : ByteArray := prog_10_method_19_code
def yX8_isCommit : MethodName := ⟨RX8, "isCommit", "(I)Z"⟩
abbrev cX8_holds : ByteArray := prog_10_method_20_code
def yX8_holds : MethodName := ⟨RX8, "holds", "(JI)Z"⟩
abbrev cX8_manyOf : ByteArray := prog_10_method_21_code
def yX8_manyOf : MethodName := ⟨RX8, "manyOf", "(J)I"⟩
abbrev cX8_isNew : ByteArray := prog_10_method_22_code
def yX8_isNew : MethodName := ⟨RX8, "isNew", "(III)Z"⟩
abbrev cX8_add : ByteArray := prog_10_method_23_code
def yX8_add : MethodName := ⟨RX8, "add", "(III)I"⟩
abbrev cX8_back : ByteArray := prog_10_method_24_code
def yX8_back : MethodName := ⟨RX8, "back", "()I"⟩
abbrev cX8_read : ByteArray := prog_10_method_25_code
def yX8_read : MethodName := ⟨RX8, "read", "(I)I"⟩
abbrev cX8_seal : ByteArray := prog_10_method_26_code
def yX8_seal : MethodName := ⟨RX8, "seal", "()I"⟩
abbrev cX8_layerBy : ByteArray := prog_10_method_27_code
def yX8_layerBy : MethodName := ⟨RX8, "layerBy", "(I)I"⟩
abbrev cX8_layer : ByteArray := prog_10_method_28_code
def yX8_layer : MethodName := ⟨RX8, "layer", "(I)I"⟩
abbrev cX8_set : ByteArray := prog_10_method_29_code
def yX8_set : MethodName := ⟨RX8, "set", "(II)I"⟩
abbrev cX8_generation : ByteArray := prog_10_method_30_code
def yX8_generation : MethodName := ⟨RX8, "generation", "(I)I"⟩
abbrev cX8_children : ByteArray := prog_10_method_31_code
def yX8_children : MethodName := ⟨RX8, "children", "(I)I"⟩
abbrev cX8_commitBy : ByteArray := prog_10_method_32_code
def yX8_commitBy : MethodName := ⟨RX8, "commitBy", "(II)I"⟩
abbrev cX8_commit : ByteArray := prog_10_method_33_code
def yX8_commit : MethodName := ⟨RX8, "commit", "(II)I"⟩
abbrev cX8_parent : ByteArray := prog_10_method_34_code
def yX8_parent : MethodName := ⟨RX8, "parent", "(II)I"⟩
abbrev cX8_reachOf : ByteArray := prog_10_method_35_code
def yX8_reachOf : MethodName := ⟨RX8, "reachOf", "(I)J"⟩
abbrev cX8_reach : ByteArray := prog_10_method_36_code
def yX8_reach : MethodName := ⟨RX8, "reach", "(I)J"⟩
abbrev cX8_next : ByteArray := prog_10_method_37_code
def yX8_next : MethodName := ⟨RX8, "next", "(J)I"⟩
abbrev cX8_looks : ByteArray := prog_10_method_38_code
def yX8_looks : MethodName := ⟨RX8, "looks", "(III)I"⟩
abbrev cX8_lookBy : ByteArray := prog_10_method_39_code
def yX8_lookBy : MethodName := ⟨RX8, "lookBy", "(III)I"⟩
abbrev cX8_look : ByteArray := prog_10_method_40_code
def yX8_look : MethodName := ⟨RX8, "look", "(III)I"⟩
abbrev cX8_basesOf : ByteArray := prog_10_method_41_code
def yX8_basesOf : MethodName := ⟨RX8, "basesOf", "(II)J"⟩
abbrev cX8_bases : ByteArray := prog_10_method_42_code
def yX8_bases : MethodName := ⟨RX8, "bases", "(II)J"⟩
abbrev cX8_paintsOf : ByteArray := prog_10_method_43_code
def yX8_paintsOf : MethodName := ⟨RX8, "paintsOf", "(II)I"⟩
abbrev cX8_paints : ByteArray := prog_10_method_44_code
def yX8_paints : MethodName := ⟨RX8, "paints", "(II)I"⟩
abbrev cX8_goesDown : ByteArray := prog_10_method_45_code
def yX8_goesDown : MethodName := ⟨RX8, "goesDown", "(I)V"⟩
abbrev cX8_waysOf : ByteArray := prog_10_method_46_code
def yX8_waysOf : MethodName := ⟨RX8, "waysOf", "(II)J"⟩
abbrev cX8_ways : ByteArray := prog_10_method_47_code
def yX8_ways : MethodName := ⟨RX8, "ways", "(II)J"⟩
abbrev cX8_farOf : ByteArray := prog_10_method_48_code
def yX8_farOf : MethodName := ⟨RX8, "farOf", "(II)I"⟩
abbrev cX8_far : ByteArray := prog_10_method_49_code
def yX8_far : MethodName := ⟨RX8, "far", "(II)I"⟩
abbrev cX8_isKept : ByteArray := prog_10_method_50_code
def yX8_isKept : MethodName := ⟨RX8, "isKept", "(I)Z"⟩
abbrev cX8_rootOf : ByteArray := prog_10_method_51_code
def yX8_rootOf : MethodName := ⟨RX8, "rootOf", "(I)I"⟩
abbrev cX8_shareOf : ByteArray := prog_10_method_52_code
def yX8_shareOf : MethodName := ⟨RX8, "shareOf", "(I)I"⟩
abbrev cX8_rootsOf : ByteArray := prog_10_method_53_code
def yX8_rootsOf : MethodName := ⟨RX8, "rootsOf", "(I)I"⟩
abbrev cX8_keptBy : ByteArray := prog_10_method_54_code
def yX8_keptBy : MethodName := ⟨RX8, "keptBy", "(II)I"⟩
abbrev cX8_kept : ByteArray := prog_10_method_55_code
def yX8_kept : MethodName := ⟨RX8, "kept", "(II)I"⟩
abbrev cX8_walkBy : ByteArray := prog_10_method_56_code
def yX8_walkBy : MethodName := ⟨RX8, "walkBy", "(II)I"⟩
abbrev cX8_walk : ByteArray := prog_10_method_57_code
def yX8_walk : MethodName := ⟨RX8, "walk", "(II)I"⟩
abbrev cX8_has : ByteArray := prog_10_method_58_code
def yX8_has : MethodName := ⟨RX8, "has", "(I)I"⟩
abbrev cX8_want : ByteArray := prog_10_method_59_code
def yX8_want : MethodName := ⟨RX8, "want", "(I)I"⟩
abbrev cX8_clear : ByteArray := prog_10_method_60_code
def yX8_clear : MethodName := ⟨RX8, "clear", "(I)I"⟩
abbrev cX8_reachAll : ByteArray := prog_10_method_61_code
def yX8_reachAll : MethodName := ⟨RX8, "reachAll", "(J)J"⟩
abbrev cX8_heads : ByteArray := prog_10_method_62_code
def yX8_heads : MethodName := ⟨RX8, "heads", "()J"⟩
abbrev cX8_nextTold : ByteArray := prog_10_method_63_code
def yX8_nextTold : MethodName := ⟨RX8, "nextTold", "()I"⟩
abbrev cX8_answers : ByteArray := prog_10_method_64_code
def yX8_answers : MethodName := ⟨RX8, "answers", "(I)V"⟩
abbrev cX8_isEnough : ByteArray := prog_10_method_65_code
def yX8_isEnough : MethodName := ⟨RX8, "isEnough", "()Z"⟩
abbrev cX8_talks : ByteArray := prog_10_method_66_code
def yX8_talks : MethodName := ⟨RX8, "talks", "()V"⟩
abbrev cX8_setBy : ByteArray := prog_10_method_67_code
def yX8_setBy : MethodName := ⟨RX8, "setBy", "(I)J"⟩
abbrev cX8_sets : ByteArray := prog_10_method_68_code
def yX8_sets : MethodName := ⟨RX8, "sets", "(I)J"⟩
abbrev cX8_rounds : ByteArray := prog_10_method_69_code
def yX8_rounds : MethodName := ⟨RX8, "rounds", "()I"⟩
abbrev cX8_toldBy : ByteArray := prog_10_method_70_code
def yX8_toldBy : MethodName := ⟨RX8, "toldBy", "(II)I"⟩
abbrev cX8_told : ByteArray := prog_10_method_71_code
def yX8_told : MethodName := ⟨RX8, "told", "(II)I"⟩
abbrev cX8_thingsNow : ByteArray := prog_10_method_72_code
def yX8_thingsNow : MethodName := ⟨RX8, "thingsNow", "()I"⟩
abbrev cX8_things : ByteArray := prog_10_method_73_code
def yX8_things : MethodName := ⟨RX8, "things", "()I"⟩
abbrev cX8_write : ByteArray := prog_10_method_74_code
def yX8_write : MethodName := ⟨RX8, "write", "(III)I"⟩
abbrev cX8_count : ByteArray := prog_10_method_75_code
def yX8_count : MethodName := ⟨RX8, "count", "(I)I"⟩
abbrev cX8_tellsCommit : ByteArray := prog_10_method_76_code
def yX8_tellsCommit : MethodName := ⟨RX8, "tellsCommit", "(JII)J"⟩
abbrev cX8_digest : ByteArray := prog_10_method_77_code
def yX8_digest : MethodName := ⟨RX8, "digest", "()J"⟩
def RJ13 : String := "java/lang/Long"
abbrev cJ13_bitCount_95d88 : ByteArray := prog_11_method_50_code
def yJ13_bitCount_95d88 : MethodName := ⟨RJ13, "bitCount", "(J)I"⟩
def RL : String := "CommitIndexLaw"
abbrev cL_law : ByteArray := code
def yL_law : MethodName := ⟨RL, "law", "([I)Z"⟩
abbrev vwCl : List vw_C := [(RX0, TX0, 12), (RX1, TX1, 9), (RX2, TX2, 4), (RX3, TX3, 3), (RX4, TX4, 7), (RX5, TX5, 2), (RX6, TX6, 3), (RX7, TX7, 8), (RX8, TX8, 31)]
end
section
/-! A MACHINE IN SMALL: a function over the bytecode itself, on a heap of which only the contents are told; its laws ('Ev') are equations. -/
abbrev mL : Type := List (Option Value)
abbrev mH : Type := (Nat → Nat → Int32) × (Nat → Nat → Int64)
def gI (h : mH) (k j : Nat) : Int32 := h.1 k j
def gJ (h : mH) (k j : Nat) : Int64 := h.2 k j
def sI (h : mH) (k j : Nat) (x : Int32) : mH := (fun a b => if a = k ∧ b = j then x else h.1 a b, h.2)
def sJ (h : mH) (k j : Nat) (x : Int64) : mH := (h.1, fun a b => if a = k ∧ b = j then x else h.2 a b)
def cpI (h : mH) (a sp b dp n : Nat) : mH := (fun p q => if p = b ∧ dp ≤ q ∧ q < dp + n then h.1 a (sp + (q - dp)) else h.1 p q, h.2)
theorem gI_sI (h : mH) (k j : Nat) (x : Int32) (a b : Nat) : gI (sI h k j x) a b = if a = k ∧ b = j then x else gI h a b := rfl
theorem gJ_sJ (h : mH) (k j : Nat) (x : Int64) (a b : Nat) : gJ (sJ h k j x) a b = if a = k ∧ b = j then x else gJ h a b := rfl
theorem gI_sJ (h : mH) (k j : Nat) (x : Int64) (a b : Nat) : gI (sJ h k j x) a b = gI h a b := rfl
theorem gJ_sI (h : mH) (k j : Nat) (x : Int32) (a b : Nat) : gJ (sI h k j x) a b = gJ h a b := rfl
theorem gJ_cpI (h : mH) (k sp l dp n : Nat) (a b : Nat) : gJ (cpI h k sp l dp n) a b = gJ h a b := rfl
theorem gI_cpI (h : mH) (k sp l dp n : Nat) (a b : Nat) : gI (cpI h k sp l dp n) a b = if a = l ∧ dp ≤ b ∧ b < dp + n then gI h k (sp + (b - dp)) else gI h a b := rfl
theorem gI_same (h : mH) (k j : Nat) (x : Int32) : gI (sI h k j x) k j = x := by simp [gI_sI]
theorem gI_else {h : mH} {k j : Nat} {x : Int32} {a b : Nat} (q : ¬ (a = k ∧ b = j)) : gI (sI h k j x) a b = gI h a b := by rw [gI_sI, if_neg q]
theorem gJ_same (h : mH) (k j : Nat) (x : Int64) : gJ (sJ h k j x) k j = x := by simp [gJ_sJ]
theorem gJ_else {h : mH} {k j : Nat} {x : Int64} {a b : Nat} (q : ¬ (a = k ∧ b = j)) : gJ (sJ h k j x) a b = gJ h a b := by rw [gJ_sJ, if_neg q]
/-- places: (0, class) an object, (1, n) ints, (2, n) longs, (3, n) sheets -/
def shpL : List (Nat × Nat) := [(0, 7), (0, 1), (1, 40), (1, 40), (1, 40), (1, 40), (2, 40), (1, 40), (0, 3), (1, 40), (0, 4), (0, 5), (2, 40), (1, 40), (0, 2), (0, 0), (1, 40), (1, 40), (3, 4), (0, 6), (0, 6), (0, 6), (0, 6), (1, 60), (1, 60), (1, 60), (1, 60), (0, 8), (1, 4), (1, 4), (1, 240), (1, 60), (1, 40), (1, 40), (1, 40), (1, 40), (1, 40), (1, 40), (2, 40), (1, 40), (1, 40), (1, 40), (1, 40)]
def ftL : List (List (Nat × Nat)) := [[(1, 0), (1, 0), (0, 0), (0, 0), (2, 1), (2, 2), (0, 0), (0, 0), (1, 0), (1, 0), (1, 0), (1, 0)], [(2, 1), (2, 2), (2, 3), (2, 4), (2, 5), (2, 6), (0, 0), (0, 0), (0, 0)], [(0, 0), (0, 0), (0, 0), (1, 0)], [(2, 1), (0, 0), (0, 0)], [(1, 0), (1, 0), (1, 0), (1, 0), (1, 0), (1, 0), (0, 0)], [(2, 1), (2, 2)], [(2, 4), (0, 0), (0, 0)], [(2, 1), (2, 8), (2, 10), (2, 11), (2, 14), (2, 15), (2, 18), (0, 0)], [(2, 1), (2, 2), (2, 3), (2, 4), (0, 0), (0, 0), (2, 5), (2, 6), (2, 7), (2, 8), (0, 0), (0, 0), (2, 9), (0, 0), (0, 0), (0, 0), (1, 0), (1, 0), (2, 10), (0, 0), (2, 11), (2, 12), (0, 0), (0, 0), (2, 13), (2, 14), (2, 15), (1, 0), (1, 0), (1, 0), (1, 0)]]
def mnest : List Cond := [.methodLinkNest RX7 11 ⟨"CommitIndex$History", "<init>", "()V"⟩ "CommitIndex", .methodLinkNest RX7 18 ⟨"CommitIndex$Looking", "<init>", "()V"⟩ "CommitIndex", .methodLinkNest RX7 25 ⟨"CommitIndex$Painting", "<init>", "()V"⟩ "CommitIndex", .methodLinkNest RX7 32 ⟨"CommitIndex$Paths", "<init>", "()V"⟩ "CommitIndex", .methodLinkNest RX7 39 ⟨"CommitIndex$KeptSets", "<init>", "()V"⟩ "CommitIndex", .methodLinkNest RX7 46 ⟨"CommitIndex$Exchange", "<init>", "()V"⟩ "CommitIndex", .methodLinkNest RX7 57 ⟨"CommitIndex$Sheet", "<init>", "()V"⟩ "CommitIndex", .methodLinkNest RX1 54 ⟨"CommitIndex", "bit", "(I)J"⟩ "CommitIndex", .methodLinkNest RX0 26 ⟨"CommitIndex", "bit", "(I)J"⟩ "CommitIndex", .methodLinkNest RX1 79 ⟨"CommitIndex", "isIn", "(JI)Z"⟩ "CommitIndex", .methodLinkNest RX3 35 ⟨"CommitIndex", "bit", "(I)J"⟩ "CommitIndex", .methodLinkNest RX4 9 ⟨"CommitIndex", "bit", "(I)J"⟩ "CommitIndex", .methodLinkNest RX4 53 ⟨"CommitIndex", "isIn", "(JI)Z"⟩ "CommitIndex", .methodLinkNest RX2 25 ⟨"CommitIndex", "isIn", "(JI)Z"⟩ "CommitIndex", .methodLinkNest RX2 51 ⟨"CommitIndex", "bit", "(I)J"⟩ "CommitIndex", .methodLinkNest RX2 54 ⟨"CommitIndex", "greatestIn", "(J)I"⟩ "CommitIndex", .methodLinkNest RX0 81 ⟨"CommitIndex", "isIn", "(JI)Z"⟩ "CommitIndex"]
def shp (k : Nat) : Nat × Nat := shpL.getD k (9, 0)
def ftn (ci : Nat) : Nat := (ftL.getD ci []).length
def ft (ci j : Nat) : Nat × Nat := (ftL.getD ci []).getD j (0, 0)
/-- a method: name, bytes, locals, answer, class, frames, words, arguments, what its pool entries are: (entry, kind, a, b, c) -/
abbrev mD : Type := MethodName × ByteArray × Nat × Option FieldType × String × Nat × Nat × Nat × List (Nat × Nat × Nat × Nat × Int64)
def md_0 : mD := (yX7_add, cX7_add, 4, (some .int), RX7, 3, 66, 3, [(12, 2, 7, 0, 1), (62, 4, 127, 1, 0), (66, 4, 126, 1, 0), (70, 4, 128, 1, 0), (74, 0, 1, 6, 0)])
def md_1 : mD := (yX7_back, cX7_back, 1, (some .int), RX7, 2, 41, 0, [(12, 2, 7, 0, 1), (47, 2, 7, 5, 15), (74, 0, 1, 6, 0), (77, 0, 1, 7, 0), (80, 4, 129, 1, 0), (83, 4, 117, 0, 0)])
def md_2 : mD := (yX7_read, cX7_read, 8, (some .int), RX7, 3, 66, 1, [(12, 2, 7, 0, 1), (62, 4, 127, 1, 0), (66, 4, 126, 1, 0), (70, 4, 128, 1, 0), (87, 4, 38, 7, 0), (91, 4, 159, 6, 0), (94, 4, 37, 7, 0), (98, 0, 6, 2, 0), (101, 4, 164, 6, 0)])
def md_3 : mD := (yX7_seal, cX7_seal, 1, (some .int), RX7, 2, 43, 0, [(12, 2, 7, 0, 1), (74, 0, 1, 6, 0), (77, 0, 1, 7, 0), (104, 4, 130, 1, 0), (107, 0, 1, 8, 0)])
def md_4 : mD := (yX7_layer, cX7_layer, 2, (some .int), RX7, 1, 21, 1, [(12, 2, 7, 0, 1), (110, 4, 132, 1, 0)])
def md_5 : mD := (yX7_set, cX7_set, 4, (some .int), RX7, 0, 0, 2, [(40, 2, 7, 4, 14), (47, 2, 7, 5, 15), (113, 0, 2, 0, 0), (116, 0, 0, 2, 0), (119, 0, 0, 3, 0)])
def md_6 : mD := (yX7_commit, cX7_commit, 3, (some .int), RX7, 4, 86, 2, [(12, 2, 7, 0, 1), (122, 4, 125, 1, 0), (126, 4, 133, 1, 0), (129, 4, 134, 1, 0), (132, 4, 137, 1, 0), (135, 4, 138, 1, 0), (138, 3, 41, 0, 0), (142, 4, 142, 1, 0), (146, 4, 136, 1, 0)])
def md_7 : mD := (yX7_reach, cX7_reach, 2, (some .long), RX7, 2, 42, 1, [(12, 2, 7, 0, 1), (122, 4, 125, 1, 0), (149, 4, 139, 1, 0), (152, 8, 0, 0, (-9223372036854775806))])
def md_8 : mD := (yX7_look, cX7_look, 4, (some .int), RX7, 5, 121, 3, [(12, 2, 7, 0, 1), (19, 2, 7, 1, 8), (122, 4, 125, 1, 0), (154, 4, 151, 3, 0), (158, 12, 3, 2, 0), (162, 0, 3, 1, 0)])
def md_9 : mD := (yX7_bases, cX7_bases, 3, (some .long), RX7, 5, 112, 2, [(12, 2, 7, 0, 1), (26, 2, 7, 2, 10), (122, 4, 125, 1, 0), (152, 8, 0, 0, (-9223372036854775806)), (165, 4, 153, 4, 0), (169, 1, 4, 5, 0)])
def md_10 : mD := (yX7_paints, cX7_paints, 3, (some .int), RX7, 5, 112, 2, [(12, 2, 7, 0, 1), (26, 2, 7, 2, 10), (122, 4, 125, 1, 0), (165, 4, 153, 4, 0), (173, 0, 4, 6, 0)])
def md_11 : mD := (yX7_ways, cX7_ways, 3, (some .long), RX7, 3, 65, 2, [(12, 2, 7, 0, 1), (33, 2, 7, 3, 11), (122, 4, 125, 1, 0), (152, 8, 0, 0, (-9223372036854775806)), (174, 4, 155, 5, 0), (178, 4, 157, 5, 0)])
def md_12 : mD := (yX7_far, cX7_far, 3, (some .int), RX7, 3, 65, 2, [(12, 2, 7, 0, 1), (33, 2, 7, 3, 11), (122, 4, 125, 1, 0), (174, 4, 155, 5, 0), (181, 4, 158, 5, 0)])
def md_13 : mD := (yX7_kept, cX7_kept, 3, (some .int), RX7, 4, 90, 2, [(12, 2, 7, 0, 1), (40, 2, 7, 4, 14), (122, 4, 125, 1, 0), (184, 4, 146, 2, 0), (187, 4, 147, 2, 0), (191, 4, 148, 2, 0), (194, 4, 149, 2, 0)])
def md_14 : mD := (yX7_walk, cX7_walk, 3, (some .int), RX7, 4, 90, 2, [(12, 2, 7, 0, 1), (40, 2, 7, 4, 14), (122, 4, 125, 1, 0), (197, 4, 150, 2, 0), (200, 4, 15, 7, 0)])
def md_15 : mD := (yX7_walkPart, cX7_walkPart, 2, (some .int), RX7, 1, 21, 1, [(40, 2, 7, 4, 14), (203, 0, 2, 1, 0), (204, 0, 2, 2, 0), (207, 1, 2, 3, 0), (208, 3, 167, 0, 0)])
def md_16 : mD := (yX7_has, cX7_has, 2, (some .int), RX7, 2, 42, 1, [(12, 2, 7, 0, 1), (47, 2, 7, 5, 15), (122, 4, 125, 1, 0), (149, 4, 139, 1, 0), (208, 3, 167, 0, 0), (213, 1, 0, 0, 0)])
def md_17 : mD := (yX7_want, cX7_want, 2, (some .int), RX7, 2, 42, 1, [(12, 2, 7, 0, 1), (47, 2, 7, 5, 15), (122, 4, 125, 1, 0), (138, 3, 41, 0, 0), (208, 3, 167, 0, 0), (216, 1, 0, 1, 0), (219, 3, 42, 0, 0)])
def md_18 : mD := (yX7_clear, cX7_clear, 3, (some .int), RX7, 1, 21, 1, [(47, 2, 7, 5, 15), (208, 3, 167, 0, 0), (213, 1, 0, 0, 0), (216, 1, 0, 1, 0)])
def md_19 : mD := (yX7_sets, cX7_sets, 2, (some .long), RX7, 5, 113, 1, [(12, 2, 7, 0, 1), (47, 2, 7, 5, 15), (152, 8, 0, 0, (-9223372036854775806)), (223, 4, 118, 0, 0), (227, 4, 122, 0, 0)])
def md_20 : mD := (yX7_rounds, cX7_rounds, 1, (some .int), RX7, 5, 113, 0, [(12, 2, 7, 0, 1), (47, 2, 7, 5, 15), (223, 4, 118, 0, 0), (230, 0, 0, 7, 0)])
def md_21 : mD := (yX7_told, cX7_told, 3, (some .int), RX7, 5, 113, 2, [(12, 2, 7, 0, 1), (47, 2, 7, 5, 15), (223, 4, 118, 0, 0), (233, 4, 123, 0, 0)])
def md_22 : mD := (yX7_things, cX7_things, 1, (some .int), RX7, 5, 113, 0, [(12, 2, 7, 0, 1), (47, 2, 7, 5, 15), (223, 4, 118, 0, 0), (237, 4, 124, 0, 0)])
def md_23 : mD := (yX7_sheet, cX7_sheet, 5, (some .int), RX7, 2, 44, 3, [(87, 4, 38, 7, 0), (94, 4, 37, 7, 0), (241, 3, 39, 0, 0), (244, 4, 160, 6, 0)])
def md_24 : mD := (yX7_lose, cX7_lose, 4, (some .int), RX7, 1, 21, 1, [(87, 4, 38, 7, 0), (91, 4, 159, 6, 0), (94, 4, 37, 7, 0), (98, 0, 6, 2, 0)])
def md_25 : mD := (yX7_lay, cX7_lay, 7, (some .int), RX7, 2, 43, 4, [(87, 4, 38, 7, 0), (94, 4, 37, 7, 0), (241, 3, 39, 0, 0), (248, 4, 161, 6, 0), (251, 4, 165, 6, 0)])
def md_26 : mD := (yX7_get, cX7_get, 6, (some .int), RX7, 2, 43, 3, [(58, 0, 7, 7, 0), (87, 4, 38, 7, 0), (101, 4, 164, 6, 0), (241, 3, 39, 0, 0), (248, 4, 161, 6, 0), (254, 7, 0, 0, (-2147483648))])
def md_27 : mD := (yX7_copy, cX7_copy, 8, (some .int), RX7, 1, 26, 5, [(87, 4, 38, 7, 0), (91, 4, 159, 6, 0), (94, 4, 37, 7, 0), (255, 0, 6, 1, 0), (258, 4, 163, 6, 0), (262, 2, 6, 0, 4), (266, 11, 0, 0, 0)])
def md_28 : mD := (yX7_write, cX7_write, 7, (some .int), RX7, 5, 121, 3, [(12, 2, 7, 0, 1), (19, 2, 7, 1, 8), (87, 4, 38, 7, 0), (91, 4, 159, 6, 0), (94, 4, 37, 7, 0), (98, 0, 6, 2, 0), (122, 4, 125, 1, 0), (154, 4, 151, 3, 0), (162, 0, 3, 1, 0), (251, 4, 165, 6, 0), (272, 10, 0, 0, 0), (277, 4, 152, 3, 0)])
def md_29 : mD := (yX7_count, cX7_count, 2, (some .int), RX7, 5, 113, 1, [(12, 2, 7, 0, 1), (47, 2, 7, 5, 15), (223, 4, 118, 0, 0), (280, 4, 31, 7, 0)])
def md_30 : mD := (yX7_digest, cX7_digest, 4, (some .long), RX7, 6, 147, 0, [(12, 2, 7, 0, 1), (47, 2, 7, 5, 15), (74, 0, 1, 6, 0), (223, 4, 118, 0, 0), (283, 8, 0, 0, 17), (285, 4, 32, 7, 0), (289, 4, 33, 7, 0), (293, 4, 34, 7, 0), (296, 4, 35, 7, 0), (300, 4, 36, 7, 0)])
def md_31 : mD := (yX7_countPart, cX7_countPart, 2, (some .int), RX7, 1, 21, 1, [(12, 2, 7, 0, 1), (47, 2, 7, 5, 15), (58, 0, 7, 7, 0), (74, 0, 1, 6, 0), (77, 0, 1, 7, 0), (107, 0, 1, 8, 0), (208, 3, 167, 0, 0), (213, 1, 0, 0, 0), (216, 1, 0, 1, 0), (227, 4, 122, 0, 0), (230, 0, 0, 7, 0), (303, 0, 0, 6, 0)])
def md_32 : mD := (yX7_mixCounts, cX7_mixCounts, 6, (some .long), RX7, 2, 42, 1, [(12, 2, 7, 0, 1), (110, 4, 132, 1, 0), (280, 4, 31, 7, 0), (306, 3, 40, 0, 0)])
def md_33 : mD := (yX7_mixCommit, cX7_mixCommit, 7, (some .long), RX7, 5, 108, 2, [(12, 2, 7, 0, 1), (149, 4, 139, 1, 0), (306, 3, 40, 0, 0), (310, 4, 6, 7, 0)])
def md_34 : mD := (yX7_mixKept, cX7_mixKept, 7, (some .long), RX7, 5, 112, 2, [(12, 2, 7, 0, 1), (40, 2, 7, 4, 14), (197, 4, 150, 2, 0), (200, 4, 15, 7, 0), (306, 3, 40, 0, 0), (313, 4, 13, 7, 0)])
def md_35 : mD := (yX7_mixPairs, cX7_mixPairs, 7, (some .long), RX7, 5, 121, 3, [(12, 2, 7, 0, 1), (19, 2, 7, 1, 8), (26, 2, 7, 2, 10), (33, 2, 7, 3, 11), (154, 4, 151, 3, 0), (158, 12, 3, 2, 0), (162, 0, 3, 1, 0), (165, 4, 153, 4, 0), (169, 1, 4, 5, 0), (173, 0, 4, 6, 0), (174, 4, 155, 5, 0), (178, 4, 157, 5, 0), (181, 4, 158, 5, 0), (306, 3, 40, 0, 0)])
def md_36 : mD := (yX7_mixExchange, cX7_mixExchange, 7, (some .long), RX7, 4, 87, 1, [(12, 2, 7, 0, 1), (47, 2, 7, 5, 15), (227, 4, 122, 0, 0), (233, 4, 123, 0, 0), (237, 4, 124, 0, 0), (306, 3, 40, 0, 0)])
def md_37 : mD := (yX7_finding, cX7_finding, 2, (some .int), RX7, 0, 0, 1, [(58, 0, 7, 7, 0)])
def md_38 : mD := (yX7_sheetAt, cX7_sheetAt, 2, (some (.object "CommitIndex$Sheet")), RX7, 0, 0, 1, [(53, 2, 7, 6, 18)])
def md_39 : mD := (yX7_isForm, cX7_isForm, 1, (some .boolean), RX7, 0, 0, 1, [])
def md_40 : mD := (yX7_mix, cX7_mix, 4, (some .long), RX7, 0, 0, 2, [(316, 8, 0, 0, 31)])
def md_41 : mD := (yX7_bit, cX7_bit, 1, (some .long), RX7, 0, 0, 1, [])
def md_42 : mD := (yX7_isIn, cX7_isIn, 3, (some .boolean), RX7, 1, 20, 2, [(138, 3, 41, 0, 0)])
def md_43 : mD := (yX7_greatestIn, cX7_greatestIn, 3, (some .int), RX7, 2, 42, 1, [(219, 3, 42, 0, 0)])
def md_44 : mD := (yX8_in, cX8_in, 6, (some .boolean), RX8, 0, 0, 3, [])
def md_45 : mD := (yX8_no, cX8_no, 1, (some .long), RX8, 0, 0, 1, [(63, 8, 0, 0, (-9223372036854775808))])
def md_46 : mD := (yX8_isTwo, cX8_isTwo, 1, (some .boolean), RX8, 1, 25, 1, [(65, 3, 44, 0, 0)])
def md_47 : mD := (yX8_lesser, cX8_lesser, 2, (some .int), RX8, 0, 0, 2, [])
def md_48 : mD := (yX8_greater, cX8_greater, 2, (some .int), RX8, 0, 0, 2, [])
def md_49 : mD := (yX8_finds, cX8_finds, 2, (some .int), RX8, 0, 0, 1, [(69, 0, 8, 4, 0)])
def md_50 : mD := (yX8_isSheet, cX8_isSheet, 1, (some .boolean), RX8, 1, 25, 1, [(65, 3, 44, 0, 0), (72, 8, 0, 0, 3)])
def md_51 : mD := (yX8_sheet, cX8_sheet, 5, (some .int), RX8, 2, 45, 3, [(7, 2, 8, 0, 1), (13, 2, 8, 1, 2), (16, 2, 8, 2, 3), (65, 3, 44, 0, 0), (74, 3, 50, 0, 0), (78, 8, 0, 0, 2), (80, 4, 49, 8, 0)])
def md_52 : mD := (yX8_lose, cX8_lose, 2, (some .int), RX8, 2, 45, 1, [(7, 2, 8, 0, 1), (13, 2, 8, 1, 2), (74, 3, 50, 0, 0), (80, 4, 49, 8, 0)])
def md_53 : mD := (yX8_lacks, cX8_lacks, 4, (some .int), RX8, 1, 25, 3, [(7, 2, 8, 0, 1), (13, 2, 8, 1, 2), (65, 3, 44, 0, 0), (80, 4, 49, 8, 0)])
def md_54 : mD := (yX8_cut, cX8_cut, 2, (some .int), RX8, 0, 0, 2, [])
def md_55 : mD := (yX8_lay, cX8_lay, 6, (some .int), RX8, 2, 48, 4, [(16, 2, 8, 2, 3), (65, 3, 44, 0, 0), (74, 3, 50, 0, 0), (78, 8, 0, 0, 2), (84, 4, 53, 8, 0), (88, 3, 54, 0, 0)])
def md_56 : mD := (yX8_get, cX8_get, 4, (some .int), RX8, 2, 48, 3, [(16, 2, 8, 2, 3), (65, 3, 44, 0, 0), (74, 3, 50, 0, 0), (78, 8, 0, 0, 2), (84, 4, 53, 8, 0), (92, 7, 0, 0, (-2147483648))])
def md_57 : mD := (yX8_copy, cX8_copy, 7, (some .int), RX8, 2, 45, 5, [(7, 2, 8, 0, 1), (13, 2, 8, 1, 2), (16, 2, 8, 2, 3), (19, 2, 8, 3, 4), (74, 3, 50, 0, 0), (80, 4, 49, 8, 0)])
def md_58 : mD := (yX8_isCommit, cX8_isCommit, 2, (some .boolean), RX8, 1, 25, 1, [(65, 3, 44, 0, 0), (93, 0, 8, 5, 0)])
def md_59 : mD := (yX8_holds, cX8_holds, 3, (some .boolean), RX8, 0, 0, 2, [])
def md_60 : mD := (yX8_manyOf, cX8_manyOf, 4, (some .int), RX8, 1, 22, 1, [(96, 3, 59, 0, 0)])
def md_61 : mD := (yX8_isNew, cX8_isNew, 5, (some .boolean), RX8, 1, 25, 3, [(65, 3, 44, 0, 0), (93, 0, 8, 5, 0), (100, 8, 0, 0, (-1)), (102, 8, 0, 0, 1048575)])
def md_62 : mD := (yX8_add, cX8_add, 4, (some .int), RX8, 2, 49, 3, [(22, 2, 8, 6, 5), (25, 2, 8, 7, 6), (28, 2, 8, 8, 7), (31, 2, 8, 9, 8), (93, 0, 8, 5, 0), (104, 4, 61, 8, 0), (108, 3, 48, 0, 0)])
def md_63 : mD := (yX8_back, cX8_back, 1, (some .int), RX8, 0, 0, 0, [(93, 0, 8, 5, 0), (100, 8, 0, 0, (-1)), (111, 0, 8, 10, 0), (114, 1, 8, 16, 0), (118, 1, 8, 17, 0)])
def md_64 : mD := (yX8_read, cX8_read, 5, (some .int), RX8, 3, 72, 1, [(7, 2, 8, 0, 1), (13, 2, 8, 1, 2), (16, 2, 8, 2, 3), (74, 3, 50, 0, 0), (80, 4, 49, 8, 0), (121, 4, 62, 8, 0)])
def md_65 : mD := (yX8_seal, cX8_seal, 1, (some .int), RX8, 0, 0, 0, [(34, 2, 8, 12, 9), (93, 0, 8, 5, 0), (111, 0, 8, 10, 0), (124, 0, 8, 11, 0)])
def md_66 : mD := (yX8_layerBy, cX8_layerBy, 2, (some .int), RX8, 0, 0, 1, [(34, 2, 8, 12, 9), (124, 0, 8, 11, 0)])
def md_67 : mD := (yX8_layer, cX8_layer, 2, (some .int), RX8, 1, 25, 1, [(65, 3, 44, 0, 0), (127, 8, 0, 0, 39), (129, 4, 66, 8, 0)])
def md_68 : mD := (yX8_set, cX8_set, 5, (some .int), RX8, 2, 45, 2, [(56, 0, 8, 13, 0), (60, 0, 8, 14, 0), (65, 3, 44, 0, 0), (132, 0, 8, 15, 0), (135, 8, 0, 0, 10), (137, 8, 0, 0, 8), (139, 3, 46, 0, 0)])
def md_69 : mD := (yX8_generation, cX8_generation, 2, (some .int), RX8, 0, 0, 1, [(28, 2, 8, 8, 7), (111, 0, 8, 10, 0)])
def md_70 : mD := (yX8_children, cX8_children, 4, (some .int), RX8, 0, 0, 1, [(22, 2, 8, 6, 5), (25, 2, 8, 7, 6), (93, 0, 8, 5, 0)])
def md_71 : mD := (yX8_commitBy, cX8_commitBy, 3, (some .int), RX8, 1, 23, 2, [(22, 2, 8, 6, 5), (25, 2, 8, 7, 6), (28, 2, 8, 8, 7), (31, 2, 8, 9, 8), (142, 4, 69, 8, 0), (145, 4, 70, 8, 0)])
def md_72 : mD := (yX8_commit, cX8_commit, 3, (some .int), RX8, 2, 46, 2, [(65, 3, 44, 0, 0), (148, 4, 58, 8, 0), (151, 8, 0, 0, 5), (153, 4, 71, 8, 0)])
def md_73 : mD := (yX8_parent, cX8_parent, 3, (some .int), RX8, 0, 0, 2, [(22, 2, 8, 6, 5), (25, 2, 8, 7, 6)])
def md_74 : mD := (yX8_reachOf, cX8_reachOf, 7, (some .long), RX8, 1, 22, 1, [(96, 3, 59, 0, 0), (156, 4, 73, 8, 0)])
def md_75 : mD := (yX8_reach, cX8_reach, 2, (some .long), RX8, 2, 48, 1, [(148, 4, 58, 8, 0), (159, 4, 74, 8, 0), (163, 3, 45, 0, 0)])
def md_76 : mD := (yX8_next, cX8_next, 5, (some .int), RX8, 1, 22, 1, [(93, 0, 8, 5, 0), (96, 3, 59, 0, 0), (142, 4, 69, 8, 0)])
def md_77 : mD := (yX8_looks, cX8_looks, 14, (some .int), RX8, 2, 46, 3, [(37, 2, 8, 18, 10), (96, 3, 59, 0, 0), (100, 8, 0, 0, (-1)), (142, 4, 69, 8, 0), (156, 4, 73, 8, 0), (166, 4, 76, 8, 0)])
def md_78 : mD := (yX8_lookBy, cX8_lookBy, 4, (some .int), RX8, 3, 79, 3, [(96, 3, 59, 0, 0), (142, 4, 69, 8, 0), (159, 4, 74, 8, 0), (170, 4, 77, 8, 0)])
def md_79 : mD := (yX8_look, cX8_look, 4, (some .int), RX8, 4, 102, 3, [(65, 3, 44, 0, 0), (78, 8, 0, 0, 2), (148, 4, 58, 8, 0), (173, 4, 78, 8, 0)])
def md_80 : mD := (yX8_basesOf, cX8_basesOf, 24, (some .long), RX8, 2, 46, 2, [(100, 8, 0, 0, (-1)), (156, 4, 73, 8, 0), (166, 4, 76, 8, 0), (176, 0, 8, 19, 0)])
def md_81 : mD := (yX8_bases, cX8_bases, 3, (some .long), RX8, 3, 89, 2, [(148, 4, 58, 8, 0), (163, 3, 45, 0, 0), (179, 4, 80, 8, 0)])
def md_82 : mD := (yX8_paintsOf, cX8_paintsOf, 3, (some .int), RX8, 3, 89, 2, [(176, 0, 8, 19, 0), (179, 4, 80, 8, 0)])
def md_83 : mD := (yX8_paints, cX8_paints, 3, (some .int), RX8, 4, 111, 2, [(148, 4, 58, 8, 0), (183, 4, 82, 8, 0)])
def md_84 : mD := (yX8_goesDown, cX8_goesDown, 5, none, RX8, 1, 22, 1, [(40, 2, 8, 20, 11), (44, 2, 8, 21, 12), (93, 0, 8, 5, 0), (156, 4, 73, 8, 0), (186, 3, 47, 0, 0)])
def md_85 : mD := (yX8_waysOf, cX8_waysOf, 3, (some .long), RX8, 2, 46, 2, [(40, 2, 8, 20, 11), (189, 4, 84, 8, 0)])
def md_86 : mD := (yX8_ways, cX8_ways, 3, (some .long), RX8, 3, 68, 2, [(148, 4, 58, 8, 0), (163, 3, 45, 0, 0), (193, 4, 85, 8, 0)])
def md_87 : mD := (yX8_farOf, cX8_farOf, 3, (some .int), RX8, 2, 46, 2, [(44, 2, 8, 21, 12), (189, 4, 84, 8, 0)])
def md_88 : mD := (yX8_far, cX8_far, 3, (some .int), RX8, 3, 68, 2, [(148, 4, 58, 8, 0), (196, 4, 87, 8, 0)])
def md_89 : mD := (yX8_isKept, cX8_isKept, 2, (some .boolean), RX8, 0, 0, 1, [(56, 0, 8, 13, 0)])
def md_90 : mD := (yX8_rootOf, cX8_rootOf, 6, (some .int), RX8, 2, 48, 1, [(96, 3, 59, 0, 0), (159, 4, 74, 8, 0), (199, 4, 89, 8, 0)])
def md_91 : mD := (yX8_shareOf, cX8_shareOf, 3, (some .int), RX8, 3, 73, 1, [(100, 8, 0, 0, (-1)), (159, 4, 74, 8, 0), (202, 4, 90, 8, 0), (205, 3, 60, 0, 0)])
def md_92 : mD := (yX8_rootsOf, cX8_rootsOf, 4, (some .int), RX8, 3, 73, 1, [(202, 4, 90, 8, 0)])
def md_93 : mD := (yX8_keptBy, cX8_keptBy, 3, (some .int), RX8, 4, 96, 2, [(199, 4, 89, 8, 0), (202, 4, 90, 8, 0), (208, 4, 91, 8, 0), (211, 4, 92, 8, 0)])
def md_94 : mD := (yX8_kept, cX8_kept, 3, (some .int), RX8, 5, 118, 2, [(65, 3, 44, 0, 0), (78, 8, 0, 0, 2), (148, 4, 58, 8, 0), (214, 4, 93, 8, 0)])
def md_95 : mD := (yX8_walkBy, cX8_walkBy, 14, (some .int), RX8, 2, 48, 2, [(156, 4, 73, 8, 0), (159, 4, 74, 8, 0), (199, 4, 89, 8, 0), (205, 3, 60, 0, 0)])
def md_96 : mD := (yX8_walk, cX8_walk, 3, (some .int), RX8, 3, 81, 2, [(65, 3, 44, 0, 0), (78, 8, 0, 0, 2), (148, 4, 58, 8, 0), (217, 4, 95, 8, 0)])
def md_97 : mD := (yX8_has, cX8_has, 2, (some .int), RX8, 2, 48, 1, [(114, 1, 8, 16, 0), (148, 4, 58, 8, 0), (159, 4, 74, 8, 0), (205, 3, 60, 0, 0)])
def md_98 : mD := (yX8_want, cX8_want, 2, (some .int), RX8, 2, 46, 1, [(96, 3, 59, 0, 0), (118, 1, 8, 17, 0), (148, 4, 58, 8, 0), (205, 3, 60, 0, 0)])
def md_99 : mD := (yX8_clear, cX8_clear, 3, (some .int), RX8, 2, 45, 1, [(114, 1, 8, 16, 0), (118, 1, 8, 17, 0), (139, 3, 46, 0, 0), (205, 3, 60, 0, 0)])
def md_100 : mD := (yX8_reachAll, cX8_reachAll, 6, (some .long), RX8, 2, 48, 1, [(93, 0, 8, 5, 0), (96, 3, 59, 0, 0), (159, 4, 74, 8, 0)])
def md_101 : mD := (yX8_heads, cX8_heads, 4, (some .long), RX8, 2, 48, 0, [(93, 0, 8, 5, 0), (96, 3, 59, 0, 0), (100, 8, 0, 0, (-1)), (114, 1, 8, 16, 0), (159, 4, 74, 8, 0)])
def md_102 : mD := (yX8_nextTold, cX8_nextTold, 3, (some .int), RX8, 1, 22, 0, [(28, 2, 8, 8, 7), (93, 0, 8, 5, 0), (96, 3, 59, 0, 0), (100, 8, 0, 0, (-1)), (220, 1, 8, 29, 0)])
def md_103 : mD := (yX8_answers, cX8_answers, 6, none, RX8, 2, 48, 1, [(47, 2, 8, 24, 13), (50, 2, 8, 25, 14), (96, 3, 59, 0, 0), (156, 4, 73, 8, 0), (159, 4, 74, 8, 0), (220, 1, 8, 29, 0), (223, 1, 8, 28, 0), (226, 1, 8, 27, 0), (229, 1, 8, 30, 0)])
def md_104 : mD := (yX8_isEnough, cX8_isEnough, 3, (some .boolean), RX8, 2, 48, 0, [(93, 0, 8, 5, 0), (96, 3, 59, 0, 0), (118, 1, 8, 17, 0), (132, 0, 8, 15, 0), (159, 4, 74, 8, 0), (226, 1, 8, 27, 0)])
def md_105 : mD := (yX8_talks, cX8_talks, 5, none, RX8, 3, 73, 0, [(47, 2, 8, 24, 13), (53, 2, 8, 26, 15), (60, 0, 8, 14, 0), (96, 3, 59, 0, 0), (118, 1, 8, 17, 0), (220, 1, 8, 29, 0), (223, 1, 8, 28, 0), (226, 1, 8, 27, 0), (229, 1, 8, 30, 0), (232, 0, 8, 22, 0), (235, 0, 8, 23, 0), (238, 4, 100, 8, 0), (242, 4, 101, 8, 0), (246, 4, 102, 8, 0), (250, 4, 103, 8, 0), (253, 4, 104, 8, 0)])
def md_106 : mD := (yX8_setBy, cX8_setBy, 4, (some .long), RX8, 0, 0, 1, [(100, 8, 0, 0, (-1)), (114, 1, 8, 16, 0), (118, 1, 8, 17, 0), (223, 1, 8, 28, 0), (226, 1, 8, 27, 0)])
def md_107 : mD := (yX8_sets, cX8_sets, 2, (some .long), RX8, 4, 97, 1, [(65, 3, 44, 0, 0), (163, 3, 45, 0, 0), (257, 4, 105, 8, 0), (260, 8, 0, 0, 4), (262, 4, 106, 8, 0)])
def md_108 : mD := (yX8_rounds, cX8_rounds, 1, (some .int), RX8, 4, 97, 0, [(232, 0, 8, 22, 0), (257, 4, 105, 8, 0)])
def md_109 : mD := (yX8_toldBy, cX8_toldBy, 3, (some .int), RX8, 0, 0, 2, [(47, 2, 8, 24, 13), (50, 2, 8, 25, 14), (53, 2, 8, 26, 15), (235, 0, 8, 23, 0)])
def md_110 : mD := (yX8_told, cX8_told, 3, (some .int), RX8, 4, 97, 2, [(65, 3, 44, 0, 0), (78, 8, 0, 0, 2), (127, 8, 0, 0, 39), (257, 4, 105, 8, 0), (265, 4, 109, 8, 0)])
def md_111 : mD := (yX8_thingsNow, cX8_thingsNow, 6, (some .int), RX8, 1, 23, 0, [(31, 2, 8, 9, 8), (93, 0, 8, 5, 0), (96, 3, 59, 0, 0), (226, 1, 8, 27, 0), (262, 4, 106, 8, 0)])
def md_112 : mD := (yX8_things, cX8_things, 1, (some .int), RX8, 4, 97, 0, [(257, 4, 105, 8, 0), (268, 4, 111, 8, 0)])
def md_113 : mD := (yX8_write, cX8_write, 6, (some .int), RX8, 3, 79, 3, [(7, 2, 8, 0, 1), (13, 2, 8, 1, 2), (16, 2, 8, 2, 3), (37, 2, 8, 18, 10), (74, 3, 50, 0, 0), (80, 4, 49, 8, 0), (88, 3, 54, 0, 0), (142, 4, 69, 8, 0), (148, 4, 58, 8, 0), (170, 4, 77, 8, 0), (186, 3, 47, 0, 0)])
def md_114 : mD := (yX8_count, cX8_count, 2, (some .int), RX8, 4, 97, 1, [(69, 0, 8, 4, 0), (93, 0, 8, 5, 0), (111, 0, 8, 10, 0), (114, 1, 8, 16, 0), (118, 1, 8, 17, 0), (124, 0, 8, 11, 0), (205, 3, 60, 0, 0), (232, 0, 8, 22, 0), (235, 0, 8, 23, 0), (257, 4, 105, 8, 0), (262, 4, 106, 8, 0)])
def md_115 : mD := (yX8_tellsCommit, cX8_tellsCommit, 8, (some .long), RX8, 5, 118, 3, [(153, 4, 71, 8, 0), (159, 4, 74, 8, 0), (173, 4, 78, 8, 0), (179, 4, 80, 8, 0), (183, 4, 82, 8, 0), (193, 4, 85, 8, 0), (196, 4, 87, 8, 0), (214, 4, 93, 8, 0), (217, 4, 95, 8, 0), (271, 8, 0, 0, 31)])
def md_116 : mD := (yX8_digest, cX8_digest, 5, (some .long), RX8, 6, 145, 0, [(93, 0, 8, 5, 0), (129, 4, 66, 8, 0), (262, 4, 106, 8, 0), (265, 4, 109, 8, 0), (268, 4, 111, 8, 0), (271, 8, 0, 0, 31), (273, 8, 0, 0, 17), (275, 4, 114, 8, 0), (278, 4, 115, 8, 0)])
def md_117 : mD := (yX0_forget, cX0_forget, 2, none, RX0, 1, 20, 1, [(22, 1, 0, 0, 0), (26, 5, 41, 0, 0), (30, 8, 0, 0, (-1)), (32, 1, 0, 1, 0)])
def md_118 : mD := (yX0_talk, cX0_talk, 4, none, RX0, 4, 90, 1, [(22, 1, 0, 0, 0), (32, 1, 0, 1, 0), (35, 4, 140, 1, 0), (41, 1, 0, 11, 0), (44, 4, 141, 1, 0), (47, 1, 0, 8, 0), (50, 1, 0, 9, 0), (53, 1, 0, 10, 0), (56, 0, 0, 6, 0), (59, 0, 0, 7, 0), (62, 4, 119, 0, 0), (66, 4, 120, 0, 0), (70, 0, 0, 3, 0), (73, 4, 121, 0, 0)])
def md_119 : mD := (yX0_tell, cX0_tell, 5, none, RX0, 3, 66, 1, [(9, 0, 0, 2, 0), (15, 2, 0, 4, 1), (19, 2, 0, 5, 2), (26, 5, 41, 0, 0), (30, 8, 0, 0, (-1)), (47, 1, 0, 8, 0), (53, 1, 0, 10, 0), (56, 0, 0, 6, 0), (59, 0, 0, 7, 0), (77, 4, 145, 1, 0), (81, 5, 42, 0, 0)])
def md_120 : mD := (yX0_answer, cX0_answer, 7, none, RX0, 3, 63, 2, [(15, 2, 0, 4, 1), (30, 8, 0, 0, (-1)), (41, 1, 0, 11, 0), (47, 1, 0, 8, 0), (50, 1, 0, 9, 0), (53, 1, 0, 10, 0), (56, 0, 0, 6, 0), (81, 5, 42, 0, 0), (85, 4, 139, 1, 0), (88, 4, 135, 1, 0)])
def md_121 : mD := (yX0_isServed, cX0_isServed, 3, (some .boolean), RX0, 2, 42, 1, [(32, 1, 0, 1, 0), (53, 1, 0, 10, 0), (81, 5, 42, 0, 0), (85, 4, 139, 1, 0), (91, 0, 1, 6, 0)])
def md_122 : mD := (yX0_setOf, cX0_setOf, 2, (some .long), RX0, 0, 0, 1, [(22, 1, 0, 0, 0), (30, 8, 0, 0, (-1)), (32, 1, 0, 1, 0), (41, 1, 0, 11, 0), (53, 1, 0, 10, 0)])
def md_123 : mD := (yX0_tellingPart, cX0_tellingPart, 3, (some .int), RX0, 2, 42, 2, [(15, 2, 0, 4, 1), (19, 2, 0, 5, 2), (41, 1, 0, 11, 0), (56, 0, 0, 6, 0), (81, 5, 42, 0, 0)])
def md_124 : mD := (yX0_thingsSent, cX0_thingsSent, 2, (some .int), RX0, 3, 66, 1, [(30, 8, 0, 0, (-1)), (41, 1, 0, 11, 0), (53, 1, 0, 10, 0), (94, 4, 142, 1, 0)])
def md_125 : mD := (yX1_holds, cX1_holds, 2, (some .boolean), RX1, 0, 0, 1, [(31, 0, 1, 6, 0)])
def md_126 : mD := (yX1_isFull, cX1_isFull, 1, (some .boolean), RX1, 0, 0, 0, [(31, 0, 1, 6, 0)])
def md_127 : mD := (yX1_admits, cX1_admits, 4, (some .boolean), RX1, 1, 21, 3, [(35, 7, 0, 0, 1048575), (36, 4, 125, 1, 0)])
def md_128 : mD := (yX1_append, cX1_append, 5, none, RX1, 2, 42, 3, [(9, 2, 1, 0, 1), (15, 2, 1, 1, 2), (18, 2, 1, 2, 3), (21, 2, 1, 3, 4), (24, 2, 1, 4, 5), (31, 0, 1, 6, 0), (40, 4, 126, 1, 0), (44, 4, 137, 1, 0), (48, 9, 0, 0, 0), (54, 5, 41, 0, 0), (58, 4, 139, 1, 0)])
def md_129 : mD := (yX1_dropLast, cX1_dropLast, 1, none, RX1, 0, 0, 0, [(31, 0, 1, 6, 0), (61, 0, 1, 7, 0)])
def md_130 : mD := (yX1_sealRest, cX1_sealRest, 1, none, RX1, 1, 23, 0, [(28, 2, 1, 5, 6), (31, 0, 1, 6, 0), (61, 0, 1, 7, 0), (64, 0, 1, 8, 0), (67, 4, 131, 1, 0)])
def md_131 : mD := (yX1_joinLayers, cX1_joinLayers, 4, none, RX1, 0, 0, 0, [(28, 2, 1, 5, 6), (64, 0, 1, 8, 0)])
def md_132 : mD := (yX1_layerSize, cX1_layerSize, 2, (some .int), RX1, 0, 0, 1, [(28, 2, 1, 5, 6), (64, 0, 1, 8, 0)])
def md_133 : mD := (yX1_firstParent, cX1_firstParent, 2, (some .int), RX1, 1, 21, 1, [(9, 2, 1, 0, 1), (36, 4, 125, 1, 0)])
def md_134 : mD := (yX1_secondParent, cX1_secondParent, 2, (some .int), RX1, 1, 21, 1, [(15, 2, 1, 1, 2), (36, 4, 125, 1, 0)])
def md_135 : mD := (yX1_parentsOf, cX1_parentsOf, 2, (some .long), RX1, 2, 42, 1, [(54, 5, 41, 0, 0), (70, 4, 133, 1, 0), (73, 4, 134, 1, 0)])
def md_136 : mD := (yX1_childrenOf, cX1_childrenOf, 4, (some .int), RX1, 3, 63, 1, [(31, 0, 1, 6, 0), (76, 4, 135, 1, 0), (79, 5, 42, 0, 0)])
def md_137 : mD := (yX1_rankOf, cX1_rankOf, 2, (some .int), RX1, 1, 21, 1, [(21, 2, 1, 3, 4), (36, 4, 125, 1, 0)])
def md_138 : mD := (yX1_generationOf, cX1_generationOf, 2, (some .int), RX1, 2, 42, 1, [(44, 4, 137, 1, 0), (61, 0, 1, 7, 0)])
def md_139 : mD := (yX1_reachOf, cX1_reachOf, 2, (some .long), RX1, 1, 21, 1, [(24, 2, 1, 4, 5), (36, 4, 125, 1, 0)])
def md_140 : mD := (yX1_reachOfAll, cX1_reachOfAll, 6, (some .long), RX1, 2, 42, 1, [(24, 2, 1, 4, 5), (31, 0, 1, 6, 0), (79, 5, 42, 0, 0)])
def md_141 : mD := (yX1_tipsOf, cX1_tipsOf, 6, (some .long), RX1, 2, 42, 1, [(24, 2, 1, 4, 5), (31, 0, 1, 6, 0), (54, 5, 41, 0, 0), (79, 5, 42, 0, 0), (83, 8, 0, 0, (-1))])
def md_142 : mD := (yX1_thingsOf, cX1_thingsOf, 5, (some .int), RX1, 2, 42, 1, [(18, 2, 1, 2, 3), (31, 0, 1, 6, 0), (79, 5, 42, 0, 0)])
def md_143 : mD := (yX1_fromGeneration, cX1_fromGeneration, 5, (some .long), RX1, 3, 63, 1, [(31, 0, 1, 6, 0), (54, 5, 41, 0, 0), (85, 4, 138, 1, 0)])
def md_144 : mD := (yX1_topByGeneration, cX1_topByGeneration, 5, (some .int), RX1, 3, 63, 1, [(31, 0, 1, 6, 0), (79, 5, 42, 0, 0), (85, 4, 138, 1, 0)])
def md_145 : mD := (yX1_topByRank, cX1_topByRank, 5, (some .int), RX1, 2, 42, 1, [(31, 0, 1, 6, 0), (44, 4, 137, 1, 0), (79, 5, 42, 0, 0)])
def md_146 : mD := (yX2_isKept, cX2_isKept, 2, (some .boolean), RX2, 0, 0, 1, [(9, 0, 2, 0, 0)])
def md_147 : mD := (yX2_rootOf, cX2_rootOf, 4, (some .int), RX2, 2, 42, 2, [(15, 4, 146, 2, 0), (19, 4, 139, 1, 0), (25, 5, 42, 0, 0)])
def md_148 : mD := (yX2_shareSize, cX2_shareSize, 5, (some .int), RX2, 3, 65, 2, [(19, 4, 139, 1, 0), (29, 4, 147, 2, 0), (33, 8, 0, 0, (-1)), (35, 3, 167, 0, 0)])
def md_149 : mD := (yX2_rootsBehind, cX2_rootsBehind, 6, (some .int), RX2, 3, 65, 2, [(29, 4, 147, 2, 0)])
def md_150 : mD := (yX2_descend, cX2_descend, 7, none, RX2, 3, 64, 2, [(15, 4, 146, 2, 0), (19, 4, 139, 1, 0), (25, 5, 42, 0, 0), (33, 8, 0, 0, (-1)), (41, 0, 2, 1, 0), (44, 0, 2, 2, 0), (47, 1, 2, 3, 0), (51, 5, 41, 0, 0), (54, 5, 43, 0, 0), (57, 4, 135, 1, 0)])
def md_151 : mD := (yX3_search, cX3_search, 15, none, RX3, 4, 87, 4, [(9, 2, 3, 0, 1), (15, 0, 3, 1, 0), (19, 12, 3, 2, 0), (23, 8, 0, 0, (-1)), (25, 4, 138, 1, 0), (31, 4, 143, 1, 0), (35, 5, 41, 0, 0), (38, 4, 144, 1, 0), (42, 4, 135, 1, 0)])
def md_152 : mD := (yX3_lookedAt, cX3_lookedAt, 2, (some .int), RX3, 0, 0, 1, [(9, 2, 3, 0, 1), (15, 0, 3, 1, 0)])
def md_153 : mD := (yX4_paint, cX4_paint, 6, none, RX4, 4, 87, 3, [(9, 5, 41, 0, 0), (13, 1, 4, 0, 0), (19, 1, 4, 1, 0), (22, 1, 4, 2, 0), (25, 1, 4, 3, 0), (28, 1, 4, 4, 0), (31, 1, 4, 5, 0), (34, 0, 4, 6, 0), (38, 8, 0, 0, (-1)), (40, 4, 144, 1, 0), (46, 4, 135, 1, 0), (49, 4, 154, 4, 0)])
def md_154 : mD := (yX4_passOn, cX4_passOn, 4, none, RX4, 2, 42, 2, [(13, 1, 4, 0, 0), (19, 1, 4, 1, 0), (22, 1, 4, 2, 0), (25, 1, 4, 3, 0), (28, 1, 4, 4, 0), (38, 8, 0, 0, (-1)), (53, 5, 42, 0, 0)])
def md_155 : mD := (yX5_trace, cX5_trace, 4, none, RX5, 2, 42, 2, [(9, 2, 5, 0, 1), (15, 2, 5, 1, 2), (19, 0, 1, 6, 0), (25, 4, 133, 1, 0), (29, 4, 156, 5, 0), (33, 4, 134, 1, 0)])
def md_156 : mD := (yX5_passOn, cX5_passOn, 3, none, RX5, 0, 0, 2, [(9, 2, 5, 0, 1), (15, 2, 5, 1, 2)])
def md_157 : mD := (yX5_waysTo, cX5_waysTo, 2, (some .long), RX5, 0, 0, 1, [(9, 2, 5, 0, 1)])
def md_158 : mD := (yX5_stepsTo, cX5_stepsTo, 2, (some .int), RX5, 0, 0, 1, [(15, 2, 5, 1, 2)])
def md_159 : mD := (yX6_isLost, cX6_isLost, 1, (some .boolean), RX6, 0, 0, 0, [(15, 0, 6, 2, 0)])
def md_160 : mD := (yX6_renew, cX6_renew, 4, none, RX6, 1, 21, 2, [(9, 2, 6, 0, 4), (15, 0, 6, 2, 0), (19, 0, 6, 1, 0), (22, 10, 0, 0, 0), (28, 9, 0, 0, 0)])
def md_161 : mD := (yX6_faultAt, cX6_faultAt, 3, (some .int), RX6, 1, 21, 2, [(19, 0, 6, 1, 0), (31, 4, 159, 6, 0), (35, 4, 162, 6, 0)])
def md_162 : mD := (yX6_hasItem, cX6_hasItem, 2, (some .boolean), RX6, 0, 0, 1, [(15, 0, 6, 2, 0)])
def md_163 : mD := (yX6_hasRun, cX6_hasRun, 3, (some .boolean), RX6, 0, 0, 2, [(15, 0, 6, 2, 0)])
def md_164 : mD := (yX6_itemAt, cX6_itemAt, 2, (some .int), RX6, 1, 21, 1, [(9, 2, 6, 0, 4), (35, 4, 162, 6, 0)])
def md_165 : mD := (yX6_store, cX6_store, 3, none, RX6, 1, 21, 2, [(9, 2, 6, 0, 4), (35, 4, 162, 6, 0), (39, 4, 166, 6, 0)])
def md_166 : mD := (yX6_narrowed, cX6_narrowed, 2, (some .int), RX6, 0, 0, 1, [(19, 0, 6, 1, 0)])
def md_167 : mD := (yJ13_bitCount_95d88, cJ13_bitCount_95d88, 2, (some .int), RJ13, 0, 0, 1, [(314, 8, 0, 0, 6148914691236517205), (316, 8, 0, 0, 3689348814741910323), (318, 8, 0, 0, 1085102592571150095)])
def mtab : List mD := [md_0, md_1, md_2, md_3, md_4, md_5, md_6, md_7, md_8, md_9, md_10, md_11, md_12, md_13, md_14, md_15, md_16, md_17, md_18, md_19, md_20, md_21, md_22, md_23, md_24, md_25, md_26, md_27, md_28, md_29, md_30, md_31, md_32, md_33, md_34, md_35, md_36, md_37, md_38, md_39, md_40, md_41, md_42, md_43, md_44, md_45, md_46, md_47, md_48, md_49, md_50, md_51, md_52, md_53, md_54, md_55, md_56, md_57, md_58, md_59, md_60, md_61, md_62, md_63, md_64, md_65, md_66, md_67, md_68, md_69, md_70, md_71, md_72, md_73, md_74, md_75, md_76, md_77, md_78, md_79, md_80, md_81, md_82, md_83, md_84, md_85, md_86, md_87, md_88, md_89, md_90, md_91, md_92, md_93, md_94, md_95, md_96, md_97, md_98, md_99, md_100, md_101, md_102, md_103, md_104, md_105, md_106, md_107, md_108, md_109, md_110, md_111, md_112, md_113, md_114, md_115, md_116, md_117, md_118, md_119, md_120, md_121, md_122, md_123, md_124, md_125, md_126, md_127, md_128, md_129, md_130, md_131, md_132, md_133, md_134, md_135, md_136, md_137, md_138, md_139, md_140, md_141, md_142, md_143, md_144, md_145, md_146, md_147, md_148, md_149, md_150, md_151, md_152, md_153, md_154, md_155, md_156, md_157, md_158, md_159, md_160, md_161, md_162, md_163, md_164, md_165, md_166, md_167]
def md (y : Nat) : mD := mtab.getD y md_0
def lkF : List (Nat × Nat × Nat × Nat × Int64) → Nat → Nat × Nat × Nat × Int64
  | [], _ => (99, 0, 0, 0)
  | q :: qs, i => match Nat.beq q.1 i with
    | true => q.2
    | false => lkF qs i
def lk (y i : Nat) : Nat × Nat × Nat × Int64 := lkF (md y).2.2.2.2.2.2.2.2 i
/-- one step: goes on, calls, or ends -/
abbrev mR : Type := Option ((Nat × mL × List Value × mH) ⊕ (Nat × List Value × Nat × mL × List Value) ⊕ Option Value)
def nx (pc : Nat) (loc : mL) (stk : List Value) (h : mH) : mR := some (.inl (pc, loc, stk, h))
def nxs (pc : Nat) (loc : mL) (h : mH) : Option (List Value) → mR
  | none => none
  | some stk => nx pc loc stk h
def inB (i : Int32) (n : Nat) : Prop := 0 ≤ i ∧ i.toNatClampNeg < n
def kil : Option Value → Option Value
  | some (.long _) => none
  | some (.double _) => none
  | o => o
def st1 : mL → Nat → Value → mL
  | [], _, _ => []
  | _ :: os, 0, v => some v :: os
  | o :: os, i + 1, v => (match i with | 0 => kil o | _ + 1 => o) :: st1 os i v
def st2 : mL → Nat → Value → mL
  | [], _, _ => []
  | _ :: os, 0, v => some v :: (match os with | [] => [] | _ :: os => none :: os)
  | o :: os, i + 1, v => (match i with | 0 => kil o | _ + 1 => o) :: st2 os i v
def lget : mL → Nat → Option Value
  | [], _ => none
  | o :: _, 0 => o
  | _ :: os, i + 1 => lget os i
def ldI (pc : Nat) (loc : mL) (stk : List Value) (h : mH) : Option Value → mR
  | some (.int x) => nx pc loc (.int x :: stk) h
  | _ => none
def ldL (pc : Nat) (loc : mL) (stk : List Value) (h : mH) : Option Value → mR
  | some (.long x) => nx pc loc (.long x :: stk) h
  | _ => none
def ldA (pc : Nat) (loc : mL) (stk : List Value) (h : mH) : Option Value → mR
  | some (.ref x) => nx pc loc (.ref x :: stk) h
  | some .null => nx pc loc (.null :: stk) h
  | _ => none
def stoI (pc i : Nat) (loc : mL) (h : mH) : List Value → mR
  | .int x :: r => match Nat.blt i loc.length with
    | true => nx pc (st1 loc i (.int x)) r h
    | false => none
  | _ => none
def stoL (pc i : Nat) (loc : mL) (h : mH) : List Value → mR
  | .long x :: r => match Nat.blt (i + 1) loc.length with
    | true => nx pc (st2 loc i (.long x)) r h
    | false => none
  | _ => none
def stoA (pc i : Nat) (loc : mL) (h : mH) : List Value → mR
  | .ref x :: r => match Nat.blt i loc.length with
    | true => nx pc (st1 loc i (.ref x)) r h
    | false => none
  | .null :: r => match Nat.blt i loc.length with
    | true => nx pc (st1 loc i .null) r h
    | false => none
  | _ => none
def op2 (f : Int32 → Int32 → Int32) : List Value → Option (List Value)
  | .int y :: .int x :: r => some (.int (f x y) :: r)
  | _ => none
def op2L (f : Int64 → Int64 → Int64) : List Value → Option (List Value)
  | .long y :: .long x :: r => some (.long (f x y) :: r)
  | _ => none
def opSh (f : Int64 → Int32 → Int64) : List Value → Option (List Value)
  | .int y :: .long x :: r => some (.long (f x y) :: r)
  | _ => none
def opCmp : List Value → Option (List Value)
  | .long y :: .long x :: r => some (.int (lg_cmp x y) :: r)
  | _ => none
def opI (f : Int32 → Int32) : List Value → Option (List Value)
  | .int x :: r => some (.int (f x) :: r)
  | _ => none
def opIL (f : Int32 → Int64) : List Value → Option (List Value)
  | .int x :: r => some (.long (f x) :: r)
  | _ => none
def opLI (f : Int64 → Int32) : List Value → Option (List Value)
  | .long x :: r => some (.int (f x) :: r)
  | _ => none
def opDup : List Value → Option (List Value)
  | .int x :: r => some (.int x :: .int x :: r)
  | .ref x :: r => some (.ref x :: .ref x :: r)
  | _ => none
def opDup2 : List Value → Option (List Value)
  | .long x :: r => some (.long x :: .long x :: r)
  | .int x :: .ref y :: r => some (.int x :: .ref y :: .int x :: .ref y :: r)
  | .int x :: .int y :: r => some (.int x :: .int y :: .int x :: .int y :: r)
  | _ => none
/-- a jump: where to -/
def jmp (pc : Nat) (off : Int) : Nat := ((pc : Int) + off).toNat
def jok (pc : Nat) (off : Int) : Bool := decide (0 ≤ (pc : Int) + off)
def cnd : ClassFile.Cond → Int32 → Int32 → Prop
  | .eq, x, y => x = y
  | .ne, x, y => ¬ x = y
  | .lt, x, y => x < y
  | .ge, x, y => y ≤ x
  | .gt, x, y => y < x
  | .le, x, y => x ≤ y
def cndD : (c : ClassFile.Cond) → (x y : Int32) → Decidable (cnd c x y)
  | .eq, x, y => inferInstanceAs (Decidable (x = y))
  | .ne, x, y => inferInstanceAs (Decidable (¬ x = y))
  | .lt, x, y => inferInstanceAs (Decidable (x < y))
  | .ge, x, y => inferInstanceAs (Decidable (y ≤ x))
  | .gt, x, y => inferInstanceAs (Decidable (y < x))
  | .le, x, y => inferInstanceAs (Decidable (x ≤ y))
def brn (c : ClassFile.Cond) (x y : Int32) (a b : mR) : mR := @ite _ (cnd c x y) (cndD c x y) a b
def stIf (pc : Nat) (loc : mL) (h : mH) (c : ClassFile.Cond) (off : Int) : List Value → mR
  | .int x :: r => match jok pc off with
    | true => brn c x 0 (nx (jmp pc off) loc r h) (nx (pc + 3) loc r h)
    | false => none
  | _ => none
def stCmp (pc : Nat) (loc : mL) (h : mH) (c : ClassFile.Cond) (off : Int) : List Value → mR
  | .int y :: .int x :: r => match jok pc off with
    | true => brn c x y (nx (jmp pc off) loc r h) (nx (pc + 3) loc r h)
    | false => none
  | _ => none
def stNull (pc : Nat) (loc : mL) (h : mH) (off : Int) : List Value → mR
  | .null :: r => match jok pc off with
    | true => nx (jmp pc off) loc r h
    | false => none
  | .ref _ :: r => nx (pc + 3) loc r h
  | _ => none
def stNon (pc : Nat) (loc : mL) (h : mH) (off : Int) : List Value → mR
  | .ref _ :: r => match jok pc off with
    | true => nx (jmp pc off) loc r h
    | false => none
  | .null :: r => nx (pc + 3) loc r h
  | _ => none
/-- a switch: its cases one by one -/
def swi (pc : Nat) (loc : mL) (r : List Value) (h : mH) (x : Int32) (dflt : Int) : List (Int × Int) → mR
  | [] => match jok pc dflt with
    | true => nx (jmp pc dflt) loc r h
    | false => none
  | q :: qs => if x = Int32.ofInt q.1 then (match jok pc q.2 with
    | true => nx (jmp pc q.2) loc r h
    | false => none) else swi pc loc r h x dflt qs
def tbl (lo : Int) : List Int → List (Int × Int)
  | [] => []
  | o :: os => (lo, o) :: tbl (lo + 1) os
/-- a row of cases, in order, between bounds that an int has -/
def swok (qs : List (Int × Int)) : Bool := (qs.zip (qs.drop 1)).all (fun (a, next) => a.1 < next.1) && qs.all (fun q => decide (-1000 < q.1) && decide (q.1 < 1000))
def tok (lo hi : Int) (offs : List Int) : Bool := decide (-1000 < lo) && decide (hi < 1000) && decide ((offs.length : Int) = hi - lo + 1)
def stSw (pc : Nat) (loc : mL) (h : mH) (dflt : Int) (ok : Bool) (qs : List (Int × Int)) : List Value → mR
  | .int x :: r => match ok with
    | true => swi pc loc r h x dflt qs
    | false => none
  | _ => none
def gfl (pc : Nat) (loc : mL) (h : mH) (q : Nat × Nat × Nat × Int64) : List Value → mR
  | .ref k :: r => if shp k = (0, q.2.1) then (match q.1 with
    | 0 => nx (pc + 3) loc (.int (gI h k q.2.2.1) :: r) h
    | 12 => nx (pc + 3) loc (.int (gI h k q.2.2.1) :: r) h
    | 1 => nx (pc + 3) loc (.long (gJ h k q.2.2.1) :: r) h
    | 2 => nx (pc + 3) loc (.ref (k + q.2.2.2.toNatClampNeg) :: r) h
    | _ => none) else none
  | _ => none
def pfl (pc : Nat) (loc : mL) (h : mH) (q : Nat × Nat × Nat × Int64) : List Value → mR
  | .int x :: .ref k :: r => if shp k = (0, q.2.1) then (match q.1 with
    | 0 => nx (pc + 3) loc r (sI h k q.2.2.1 x)
    | 12 => if x = 0 ∨ x = 1 then nx (pc + 3) loc r (sI h k q.2.2.1 x) else none
    | _ => none) else none
  | .long x :: .ref k :: r => if shp k = (0, q.2.1) then (match q.1 with
    | 1 => nx (pc + 3) loc r (sJ h k q.2.2.1 x)
    | _ => none) else none
  | _ => none
def arI (pc : Nat) (loc : mL) (h : mH) : List Value → mR
  | .int i :: .ref k :: r => match (shp k).1 with
    | 1 => @ite _ (inB i (shp k).2) (inferInstanceAs (Decidable (0 ≤ i ∧ i.toNatClampNeg < (shp k).2))) (nx (pc + 1) loc (.int (gI h k i.toNatClampNeg) :: r) h) none
    | _ => none
  | _ => none
def arL (pc : Nat) (loc : mL) (h : mH) : List Value → mR
  | .int i :: .ref k :: r => match (shp k).1 with
    | 2 => @ite _ (inB i (shp k).2) (inferInstanceAs (Decidable (0 ≤ i ∧ i.toNatClampNeg < (shp k).2))) (nx (pc + 1) loc (.long (gJ h k i.toNatClampNeg) :: r) h) none
    | _ => none
  | _ => none
def arA (pc : Nat) (loc : mL) (h : mH) : List Value → mR
  | .int i :: .ref k :: r => match (shp k).1 with
    | 3 => @ite _ (inB i (shp k).2) (inferInstanceAs (Decidable (0 ≤ i ∧ i.toNatClampNeg < (shp k).2))) (nx (pc + 1) loc (.ref (k + 1 + i.toNatClampNeg) :: r) h) none
    | _ => none
  | _ => none
def asI (pc : Nat) (loc : mL) (h : mH) : List Value → mR
  | .int x :: .int i :: .ref k :: r => match (shp k).1 with
    | 1 => @ite _ (inB i (shp k).2) (inferInstanceAs (Decidable (0 ≤ i ∧ i.toNatClampNeg < (shp k).2))) (nx (pc + 1) loc r (sI h k i.toNatClampNeg x)) none
    | _ => none
  | _ => none
def asL (pc : Nat) (loc : mL) (h : mH) : List Value → mR
  | .long x :: .int i :: .ref k :: r => match (shp k).1 with
    | 2 => @ite _ (inB i (shp k).2) (inferInstanceAs (Decidable (0 ≤ i ∧ i.toNatClampNeg < (shp k).2))) (nx (pc + 1) loc r (sJ h k i.toNatClampNeg x)) none
    | _ => none
  | _ => none
def cats (r : List Value) : Nat := (r.map fun v => v.category).sum
def wds : List Value → Nat
  | [] => 0
  | .long _ :: r => wds r + 2
  | .double _ :: r => wds r + 2
  | _ :: r => wds r + 1
def cal (y y' : Nat) (pc : Nat) (loc : mL) (as : List Value) (r : List Value) : mR :=
  match Nat.ble ((md y').2.2.2.2.2.1 + 1) (md y).2.2.2.2.2.1 && Nat.ble (8 + ((md y').2.2.1 + 11) + (md y').2.2.2.2.2.2.1) (md y).2.2.2.2.2.2.1 && Nat.ble (cats r) 8 && Nat.ble (wds as) (md y').2.2.1 && Nat.blt y' mtab.length with
  | true => some (.inr (.inl (y', as, pc + 3, loc, r)))
  | false => none
def ivS (y : Nat) (pc : Nat) (loc : mL) (h : mH) (q : Nat × Nat × Nat × Int64) (stk : List Value) : mR := match q.1 with
  | 3 => match Nat.ble (md q.2.1).2.2.2.2.2.2.2.1 stk.length with
    | true => cal y q.2.1 pc loc (stk.take (md q.2.1).2.2.2.2.2.2.2.1).reverse (stk.drop (md q.2.1).2.2.2.2.2.2.2.1)
    | false => none
  | 5 => match Nat.ble (md q.2.1).2.2.2.2.2.2.2.1 stk.length with
    | true => cal y q.2.1 pc loc (stk.take (md q.2.1).2.2.2.2.2.2.2.1).reverse (stk.drop (md q.2.1).2.2.2.2.2.2.2.1)
    | false => none
  | 9 => match stk with
    | .int b :: .int a :: r => match Nat.ble (cats r) 8 with
      | true => nx (pc + 3) loc (.int (if a < b then b else a) :: r) h
      | false => none
    | _ => none
  | 10 => match stk with
    | .int b :: .int a :: r => match Nat.ble (cats r) 8 with
      | true => nx (pc + 3) loc (.int (if b < a then b else a) :: r) h
      | false => none
    | _ => none
  | 11 => match stk with
    | .int n :: .int dp :: .ref b :: .int sp :: .ref a :: r => match Nat.ble (cats r) 8 with
      | true => if ((shp a).1 = 1 ∧ (shp b).1 = 1) ∧ (0 ≤ sp ∧ 0 ≤ dp ∧ 0 ≤ n) ∧ sp.toNatClampNeg + n.toNatClampNeg ≤ (shp a).2 ∧ dp.toNatClampNeg + n.toNatClampNeg ≤ (shp b).2 then nx (pc + 3) loc r (cpI h a sp.toNatClampNeg b dp.toNatClampNeg n.toNatClampNeg) else none
      | false => none
    | _ => none
  | _ => none
def ivV (y : Nat) (pc : Nat) (loc : mL) (q : Nat × Nat × Nat × Int64) (stk : List Value) : mR := match q.1 with
  | 4 => match Nat.ble ((md q.2.1).2.2.2.2.2.2.2.1 + 1) stk.length with
    | true => match stk.drop (md q.2.1).2.2.2.2.2.2.2.1 with
      | .ref k :: r => if shp k = (0, q.2.2.1) then cal y q.2.1 pc loc (.ref k :: (stk.take (md q.2.1).2.2.2.2.2.2.2.1).reverse) r else none
      | _ => none
    | false => none
  | _ => none
def rtI : Option FieldType → List Value → mR
  | some .int, [.int x] => some (.inr (.inr (some (.int x))))
  | some .boolean, [.int x] => if x = 0 ∨ x = 1 then some (.inr (.inr (some (.int x)))) else none
  | _, _ => none
def rtL : Option FieldType → List Value → mR
  | some .long, [.long x] => some (.inr (.inr (some (.long x))))
  | _, _ => none
def rtA : Option FieldType → List Value → mR
  | some (.object _), [.ref x] => some (.inr (.inr (some (.ref x))))
  | some (.object _), [.null] => some (.inr (.inr (some .null)))
  | _, _ => none
def rtV : Option FieldType → List Value → mR
  | none, [] => some (.inr (.inr none))
  | _, _ => none
def stI (y pc : Nat) (loc : mL) (stk : List Value) (h : mH) : Instr → mR
  | .iconst n => nx (pc + 1) loc (.int (Int32.ofInt n) :: stk) h
  | .bipush n => nx (pc + 2) loc (.int (Int8.ofInt n).toInt32 :: stk) h
  | .sipush n => nx (pc + 3) loc (.int (Int16.ofInt n).toInt32 :: stk) h
  | .lconst n => nx (pc + 1) loc (.long (Int64.ofNat (n : Nat)) :: stk) h
  | .aconst_null => nx (pc + 1) loc (.null :: stk) h
  | .ldc i => match (lk y i).1 with
    | 7 => nx (pc + 2) loc (.int (lk y i).2.2.2.toInt32 :: stk) h
    | _ => none
  | .ldc2_w i => match (lk y i).1 with
    | 8 => nx (pc + 3) loc (.long (lk y i).2.2.2 :: stk) h
    | _ => none
  | .iload_n k => ldI (pc + 1) loc stk h (lget loc k)
  | .iload i => ldI (pc + 2) loc stk h (lget loc i)
  | .lload_n k => ldL (pc + 1) loc stk h (lget loc k)
  | .lload i => ldL (pc + 2) loc stk h (lget loc i)
  | .aload_n k => ldA (pc + 1) loc stk h (lget loc k)
  | .aload i => ldA (pc + 2) loc stk h (lget loc i)
  | .istore_n k => stoI (pc + 1) k loc h stk
  | .istore i => stoI (pc + 2) i loc h stk
  | .lstore_n k => stoL (pc + 1) k loc h stk
  | .lstore i => stoL (pc + 2) i loc h stk
  | .astore_n k => stoA (pc + 1) k loc h stk
  | .astore i => stoA (pc + 2) i loc h stk
  | .iinc i n => match lget loc i with
    | some (.int x) => nx (pc + 3) (st1 loc i (.int (x + Int32.ofInt n))) stk h
    | _ => none
  | .iadd => nxs (pc + 1) loc h (op2 (fun x y => x + y) stk)
  | .isub => nxs (pc + 1) loc h (op2 (fun x y => x - y) stk)
  | .imul => nxs (pc + 1) loc h (op2 (fun x y => x * y) stk)
  | .iand => nxs (pc + 1) loc h (op2 (fun x y => x &&& y) stk)
  | .ior => nxs (pc + 1) loc h (op2 (fun x y => x ||| y) stk)
  | .ixor => nxs (pc + 1) loc h (op2 (fun x y => x ^^^ y) stk)
  | .irem => match stk with
    | .int y :: .int x :: r => if y = 0 then none else nx (pc + 1) loc (.int (x - x / y * y) :: r) h
    | _ => none
  | .ladd => nxs (pc + 1) loc h (op2L (fun x y => x + y) stk)
  | .lsub => nxs (pc + 1) loc h (op2L (fun x y => x - y) stk)
  | .lmul => nxs (pc + 1) loc h (op2L (fun x y => x * y) stk)
  | .land => nxs (pc + 1) loc h (op2L (fun x y => x &&& y) stk)
  | .lor => nxs (pc + 1) loc h (op2L (fun x y => x ||| y) stk)
  | .lxor => nxs (pc + 1) loc h (op2L (fun x y => x ^^^ y) stk)
  | .lshl => nxs (pc + 1) loc h (opSh (fun x y => x <<< (y.toInt64 &&& 63)) stk)
  | .lshr => nxs (pc + 1) loc h (opSh (fun x y => x >>> (y.toInt64 &&& 63)) stk)
  | .lushr => nxs (pc + 1) loc h (opSh (fun x y => (x.toUInt64 >>> (y.toInt64.toUInt64 &&& Int64.toUInt64 63)).toInt64) stk)
  | .lcmp => nxs (pc + 1) loc h (opCmp stk)
  | .i2l => nxs (pc + 1) loc h (opIL (fun x => x.toInt64) stk)
  | .l2i => nxs (pc + 1) loc h (opLI (fun x => x.toInt32) stk)
  | .i2b => nxs (pc + 1) loc h (opI (fun x => x.toInt8.toInt32) stk)
  | .i2s => nxs (pc + 1) loc h (opI (fun x => x.toInt16.toInt32) stk)
  | .dup => nxs (pc + 1) loc h (opDup stk)
  | .dup2 => nxs (pc + 1) loc h (opDup2 stk)
  | .ifCond c off => stIf pc loc h c off stk
  | .if_icmp c off => stCmp pc loc h c off stk
  | .goto off => match jok pc off with
    | true => nx (jmp pc off) loc stk h
    | false => none
  | .ifnull off => stNull pc loc h off stk
  | .ifnonnull off => stNon pc loc h off stk
  | .tableswitch dflt lo hi offs => stSw pc loc h dflt (tok lo hi offs.toList) (tbl lo offs.toList) stk
  | .lookupswitch dflt ps => stSw pc loc h dflt (swok ps.toList) ps.toList stk
  | .getfield i => gfl pc loc h (lk y i) stk
  | .putfield i => pfl pc loc h (lk y i) stk
  | .iaload => arI pc loc h stk
  | .laload => arL pc loc h stk
  | .aaload => arA pc loc h stk
  | .iastore => asI pc loc h stk
  | .lastore => asL pc loc h stk
  | .invokestatic i => ivS y pc loc h (lk y i) stk
  | .invokevirtual i => ivV y pc loc (lk y i) stk
  | .ireturn => rtI (md y).2.2.2.1 stk
  | .lreturn => rtL (md y).2.2.2.1 stk
  | .areturn => rtA (md y).2.2.2.1 stk
  | .return_ => rtV (md y).2.2.2.1 stk
  | _ => none
def lok : Instr → Nat → Bool
  | .bipush _, n => Nat.beq n 2
  | .sipush _, n => Nat.beq n 3
  | .ldc _, n => Nat.beq n 2
  | .ldc2_w _, n => Nat.beq n 3
  | .iload _, n => Nat.beq n 2
  | .lload _, n => Nat.beq n 2
  | .aload _, n => Nat.beq n 2
  | .istore _, n => Nat.beq n 2
  | .lstore _, n => Nat.beq n 2
  | .astore _, n => Nat.beq n 2
  | .iinc _ _, n => Nat.beq n 3
  | .ifCond _ _, n => Nat.beq n 3
  | .if_icmp _ _, n => Nat.beq n 3
  | .goto _, n => Nat.beq n 3
  | .ifnull _, n => Nat.beq n 3
  | .ifnonnull _, n => Nat.beq n 3
  | .getfield _, n => Nat.beq n 3
  | .putfield _, n => Nat.beq n 3
  | .invokestatic _, n => Nat.beq n 3
  | .invokevirtual _, n => Nat.beq n 3
  | .tableswitch _ _ _ _, _ => true
  | .lookupswitch _ _, _ => true
  | _, n => Nat.beq n 1
def stp (y pc : Nat) (loc : mL) (stk : List Value) (h : mH) : mR := match decode (md y).2.1 pc with
  | .ok (i, n) => match lok i n with
    | true => stI y pc loc stk h i
    | false => none
  | .error _ => none
def ents : List Value → mL
  | [] => []
  | .long x :: r => some (.long x) :: none :: ents r
  | .double x :: r => some (.double x) :: none :: ents r
  | v :: r => some v :: ents r
def ent (y : Nat) (as : List Value) : mL := ents as ++ List.replicate ((md y).2.2.1 - (ents as).length) none
def retK : Option FieldType → Option Value → Option (List Value)
  | none, none => some []
  | some .int, some (.int r) => some [.int r]
  | some .boolean, some (.int r) => some [.int r]
  | some .long, some (.long r) => some [.long r]
  | some (.object _), some (.ref k) => some [.ref k]
  | some (.object _), some .null => some [.null]
  | _, _ => none
def run : Nat → Nat → Nat → mL → List Value → mH → Option (Option Value × mH)
  | 0, _, _, _, _, _ => none
  | n + 1, y, pc, loc, stk, h => match stp y pc loc stk h with
    | none => none
    | some (.inl (pc', loc', stk', h')) => run n y pc' loc' stk' h'
    | some (.inr (.inl (y', as, pc', loc', r))) => (run n y' 0 (ent y' as) [] h).bind fun q => (retK (md y').2.2.2.1 q.1).bind fun vs => run n y pc' loc' (vs ++ r) q.2
    | some (.inr (.inr v)) => some (v, h)
theorem run_mono : ∀ (n y pc : Nat) (loc : mL) (stk : List Value) (h : mH) (r : Option Value × mH), run n y pc loc stk h = some r → run (n + 1) y pc loc stk h = some r
  | 0, _, _, _, _, _, _, hr => by simp [run] at hr
  | n + 1, y, pc, loc, stk, h, r, hr => by
    unfold run at hr ⊢
    cases hs : stp y pc loc stk h with
    | none => rw [hs] at hr; cases hr
    | some q =>
      rw [hs] at hr
      match q with
      | .inl (pc', loc', stk', h') => exact run_mono n y pc' loc' stk' h' r hr
      | .inr (.inl (y', as, pc', loc', r')) =>
        dsimp only at hr ⊢
        obtain ⟨q1, h1, h2⟩ := Option.bind_eq_some_iff.mp hr
        obtain ⟨vs, h3, h4⟩ := Option.bind_eq_some_iff.mp h2
        rw [run_mono n y' 0 (ent y' as) [] h q1 h1]
        show ((retK (md y').2.2.2.1 q1.1).bind fun vs => run (n + 1) y pc' loc' (vs ++ r') q1.2) = some r
        rw [h3]
        exact run_mono n y pc' loc' (vs ++ r') q1.2 r h4
      | .inr (.inr v) => exact hr
theorem run_le {n m : Nat} (hnm : n ≤ m) {y pc : Nat} {loc : mL} {stk : List Value} {h : mH} {r : Option Value × mH} (hr : run n y pc loc stk h = some r) : run m y pc loc stk h = some r := by
  induction hnm with
  | refl => exact hr
  | step _ ih => exact run_mono _ _ _ _ _ _ _ ih
theorem run_lim (y pc : Nat) (loc : mL) (stk : List Value) (h : mH) : ∃ o, ∃ n, ∀ k, n ≤ k → run k y pc loc stk h = o := by
  rcases Classical.em (∃ n r, run n y pc loc stk h = some r) with ⟨n, r, hr⟩ | hn
  · exact ⟨some r, n, fun k hk => run_le hk hr⟩
  · refine ⟨none, 0, fun k _ => ?_⟩
    cases hk : run k y pc loc stk h with
    | none => rfl
    | some r => exact absurd ⟨k, r, hk⟩ hn
/-- what a method comes to from here: none, if it never ends -/
noncomputable def Ev (y pc : Nat) (loc : mL) (stk : List Value) (h : mH) : Option (Option Value × mH) := Classical.choose (run_lim y pc loc stk h)
theorem ev_lim (y pc : Nat) (loc : mL) (stk : List Value) (h : mH) : ∃ n, ∀ k, n ≤ k → run k y pc loc stk h = Ev y pc loc stk h := Classical.choose_spec (run_lim y pc loc stk h)
theorem ev_of_run {n y pc : Nat} {loc : mL} {stk : List Value} {h : mH} {r : Option Value × mH} (hr : run n y pc loc stk h = some r) : Ev y pc loc stk h = some r := by
  obtain ⟨k, hk⟩ := ev_lim y pc loc stk h
  rw [← hk (k + n) (by omega)]
  exact run_le (by omega) hr
theorem run_of_ev {y pc : Nat} {loc : mL} {stk : List Value} {h : mH} {r : Option Value × mH} (hr : Ev y pc loc stk h = some r) : ∃ n, run n y pc loc stk h = some r := by
  obtain ⟨k, hk⟩ := ev_lim y pc loc stk h
  exact ⟨k, (hk k (Nat.le_refl k)).trans hr⟩
noncomputable def Rt (y : Nat) (as : List Value) (h : mH) : Option (Option Value × mH) := Ev y 0 (ent y as) [] h
noncomputable def fin (y : Nat) (h : mH) : mR → Option (Option Value × mH)
  | none => none
  | some (.inl (pc', loc', stk', h')) => Ev y pc' loc' stk' h'
  | some (.inr (.inl (y', as, pc', loc', r))) => (Rt y' as h).bind fun q => (retK (md y').2.2.2.1 q.1).bind fun vs => Ev y pc' loc' (vs ++ r) q.2
  | some (.inr (.inr v)) => some (v, h)
theorem ev_fin (y pc : Nat) (loc : mL) (stk : List Value) (h : mH) : Ev y pc loc stk h = fin y h (stp y pc loc stk h) := by
  obtain ⟨k, hk⟩ := ev_lim y pc loc stk h
  cases hs : stp y pc loc stk h with
  | none =>
    rw [← hk (k + 1) (by omega)]
    unfold run; rw [hs]; rfl
  | some q =>
    match q with
    | .inl (pc', loc', stk', h') =>
      obtain ⟨k2, hk2⟩ := ev_lim y pc' loc' stk' h'
      show _ = Ev y pc' loc' stk' h'
      rw [← hk (k + k2 + 1) (by omega), ← hk2 (k + k2) (by omega)]
      conv => lhs; unfold run
      rw [hs]
    | .inr (.inr v) =>
      rw [← hk (k + 1) (by omega)]
      unfold run; rw [hs]; rfl
    | .inr (.inl (y', as, pc', loc', r)) =>
      obtain ⟨k2, hk2⟩ := ev_lim y' 0 (ent y' as) [] h
      show _ = (Rt y' as h).bind fun q => (retK (md y').2.2.2.1 q.1).bind fun vs => Ev y pc' loc' (vs ++ r) q.2
      cases hc : Rt y' as h with
      | none =>
        have hc' : Ev y' 0 (ent y' as) [] h = none := hc
        rw [← hk (k + k2 + 1) (by omega)]
        conv => lhs; unfold run
        rw [hs]
        show ((run (k + k2) y' 0 (ent y' as) [] h).bind _) = _
        rw [hk2 (k + k2) (by omega), hc']; rfl
      | some q =>
        have hc' : Ev y' 0 (ent y' as) [] h = some q := hc
        show _ = (retK (md y').2.2.2.1 q.1).bind fun vs => Ev y pc' loc' (vs ++ r) q.2
        cases hv : retK (md y').2.2.2.1 q.1 with
        | none =>
          rw [← hk (k + k2 + 1) (by omega)]
          conv => lhs; unfold run
          rw [hs]
          show ((run (k + k2) y' 0 (ent y' as) [] h).bind _) = _
          rw [hk2 (k + k2) (by omega), hc']
          show ((retK (md y').2.2.2.1 q.1).bind _) = _
          rw [hv]; rfl
        | some vs =>
          obtain ⟨k3, hk3⟩ := ev_lim y pc' loc' (vs ++ r) q.2
          show _ = Ev y pc' loc' (vs ++ r) q.2
          rw [← hk (k + k2 + k3 + 1) (by omega), ← hk3 (k + k2 + k3) (by omega)]
          conv => lhs; unfold run
          rw [hs]
          show ((run (k + k2 + k3) y' 0 (ent y' as) [] h).bind _) = _
          rw [hk2 (k + k2 + k3) (by omega), hc']
          show ((retK (md y').2.2.2.1 q.1).bind _) = _
          rw [hv]; rfl
theorem ev_step {y pc : Nat} {loc : mL} {stk : List Value} {h : mH} {i : Instr} {len : Nat} (hd : decode (md y).2.1 pc = .ok (i, len)) (hn : lok i len = true) : Ev y pc loc stk h = fin y h (stI y pc loc stk h i) := by
  rw [ev_fin]
  unfold stp
  rw [hd]
  dsimp only
  rw [hn]
/-- what a call gives, by the kind of its answer -/
def rI (o : Option (Option Value × mH)) (k : Int32 → mH → Option (Option Value × mH)) : Option (Option Value × mH) := match o with
  | some (some (.int r), h) => k r h
  | _ => none
def rL (o : Option (Option Value × mH)) (k : Int64 → mH → Option (Option Value × mH)) : Option (Option Value × mH) := match o with
  | some (some (.long r), h) => k r h
  | _ => none
def rV (o : Option (Option Value × mH)) (k : mH → Option (Option Value × mH)) : Option (Option Value × mH) := match o with
  | some (none, h) => k h
  | _ => none
def rA (o : Option (Option Value × mH)) (k : Value → mH → Option (Option Value × mH)) : Option (Option Value × mH) := match o with
  | some (some (.ref r), h) => k (.ref r) h
  | some (some .null, h) => k .null h
  | _ => none
theorem rI_some (r : Int32) (h : mH) (k : Int32 → mH → Option (Option Value × mH)) : rI (some (some (.int r), h)) k = k r h := rfl
theorem rL_some (r : Int64) (h : mH) (k : Int64 → mH → Option (Option Value × mH)) : rL (some (some (.long r), h)) k = k r h := rfl
theorem rV_some (h : mH) (k : mH → Option (Option Value × mH)) : rV (some (none, h)) k = k h := rfl
theorem rA_ref (r : Nat) (h : mH) (k : Value → mH → Option (Option Value × mH)) : rA (some (some (.ref r), h)) k = k (.ref r) h := rfl
theorem rA_null (h : mH) (k : Value → mH → Option (Option Value × mH)) : rA (some (some .null, h)) k = k .null h := rfl
theorem fin_nx (y : Nat) (h : mH) (pc' : Nat) (loc' : mL) (stk' : List Value) (h' : mH) : fin y h (some (.inl (pc', loc', stk', h'))) = Ev y pc' loc' stk' h' := rfl
theorem fin_if (y : Nat) (h : mH) (p : Prop) [d : Decidable p] (a b : mR) : fin y h (if p then a else b) = if p then fin y h a else fin y h b := by split <;> rfl
theorem fin_I {y y' pc' : Nat} {as r : List Value} {loc' : mL} {h : mH} (hk : (md y').2.2.2.1 = some .int ∨ (md y').2.2.2.1 = some .boolean) : fin y h (some (.inr (.inl (y', as, pc', loc', r)))) = rI (Rt y' as h) (fun x h1 => Ev y pc' loc' (.int x :: r) h1) := by
  show (Rt y' as h).bind _ = _
  rcases hk with hk | hk <;> rw [hk] <;> rcases Rt y' as h with _ | ⟨_ | v, h1⟩ <;> first | rfl | (cases v <;> rfl)
theorem fin_L {y y' pc' : Nat} {as r : List Value} {loc' : mL} {h : mH} (hk : (md y').2.2.2.1 = some .long) : fin y h (some (.inr (.inl (y', as, pc', loc', r)))) = rL (Rt y' as h) (fun x h1 => Ev y pc' loc' (.long x :: r) h1) := by
  show (Rt y' as h).bind _ = _
  rw [hk]; rcases Rt y' as h with _ | ⟨_ | v, h1⟩ <;> first | rfl | (cases v <;> rfl)
theorem fin_V {y y' pc' : Nat} {as r : List Value} {loc' : mL} {h : mH} (hk : (md y').2.2.2.1 = none) : fin y h (some (.inr (.inl (y', as, pc', loc', r)))) = rV (Rt y' as h) (fun h1 => Ev y pc' loc' r h1) := by
  show (Rt y' as h).bind _ = _
  rw [hk]; rcases Rt y' as h with _ | ⟨_ | v, h1⟩ <;> first | rfl | (cases v <;> rfl)
theorem fin_A {y y' pc' : Nat} {as r : List Value} {loc' : mL} {h : mH} {n : String} (hk : (md y').2.2.2.1 = some (.object n)) : fin y h (some (.inr (.inl (y', as, pc', loc', r)))) = rA (Rt y' as h) (fun x h1 => Ev y pc' loc' (x :: r) h1) := by
  show (Rt y' as h).bind _ = _
  rw [hk]; rcases Rt y' as h with _ | ⟨_ | v, h1⟩ <;> first | rfl | (cases v <;> rfl)
end
section
/-! The mini machine's heap as a world of the kit's. -/
def cv (ad : Nat → Nat) : Value → Value
  | .ref k => .ref (ad k)
  | v => v
theorem cv_cat (ad : Nat → Nat) (v : Value) : (cv ad v).category = v.category := by cases v <;> rfl
def fval (ad : Nat → Nat) (h : mH) (k j : Nat) (q : Nat × Nat) : Value := match q.1 with
  | 0 => .int (gI h k j)
  | 1 => .long (gJ h k j)
  | _ => .ref (ad (k + q.2))
def fvs (ad : Nat → Nat) (h : mH) (k ci : Nat) : List Value := (List.range (ftn ci)).map fun j => fval ad h k j (ft ci j)
def mcell (ad : Nat → Nat) (cA : Nat → ClassId) (h : mH) (k : Nat) : va_E := match (shp k).1 with
  | 0 => .inr ((shp k).2, fvs ad h k (shp k).2)
  | 1 => .inl (cA 0, (shp k).2, .inl (gI h k))
  | 2 => .inl (cA 1, (shp k).2, .inr (.inl (gJ h k)))
  | _ => .inl (cA 2, (shp k).2, .inr (.inr (.inr (.inr (fun j => some (ad (k + 1 + j)))))))
def mwd (ad : Nat → Nat) (cA : Nat → ClassId) (h : mH) : va_W := (List.range 43).map fun k => (ad k, mcell ad cA h k)
def mtys (cA : Nat → ClassId) : List (ClassId × FieldType) := [(cA 0, .int), (cA 1, .long), (cA 2, .object "CommitIndex$Sheet")]
theorem mwd_at (ad : Nat → Nat) (cA : Nat → ClassId) (h : mH) {k : Nat} (hk : k < 43) : (mwd ad cA h)[k]? = some (ad k, mcell ad cA h k) := by
  unfold mwd
  rw [List.getElem?_map, List.getElem?_range hk]; rfl
theorem mwd_len (ad : Nat → Nat) (cA : Nat → ClassId) (h : mH) : (mwd ad cA h).length = 43 := by simp [mwd]
theorem shp_lt {k a b : Nat} (h : shp k = (a, b)) (ha : a ≠ 9) : k < 43 := by
  rcases Nat.lt_or_ge k 43 with q | q
  · exact q
  · exfalso
    have : shpL.length ≤ k := q
    unfold shp at h
    rw [List.getD_eq_getElem?_getD, List.getElem?_eq_none this] at h
    cases h
    exact ha rfl
theorem shp_lt1 {k a : Nat} (h : (shp k).1 = a) (ha : a ≠ 9) : k < 43 := shp_lt (a := a) (b := (shp k).2) (by rw [← h]) ha
theorem fvs_at (ad : Nat → Nat) (h : mH) (k : Nat) {ci j : Nat} (hj : j < ftn ci) : (fvs ad h k ci)[j]? = some (fval ad h k j (ft ci j)) := by
  unfold fvs
  rw [List.getElem?_map, List.getElem?_range hj]; rfl
theorem fvs_len (ad : Nat → Nat) (h : mH) (k ci : Nat) : (fvs ad h k ci).length = ftn ci := by simp [fvs]
theorem mwd_set {ad : Nat → Nat} {cA : Nat → ClassId} {h h' : mH} {k : Nat} (hk : k < 43) (hne : ∀ a, a ≠ k → mcell ad cA h' a = mcell ad cA h a) : (mwd ad cA h).set k (ad k, mcell ad cA h' k) = mwd ad cA h' := by
  apply List.ext_getElem?
  intro a
  by_cases ha : a = k
  · subst ha
    rw [List.getElem?_set_self (by rw [mwd_len]; exact hk), mwd_at _ _ _ hk]
  · rw [List.getElem?_set_ne (Ne.symm ha)]
    rcases Nat.lt_or_ge a 43 with q | q
    · rw [mwd_at _ _ _ q, mwd_at _ _ _ q, hne a ha]
    · rw [List.getElem?_eq_none (by rw [mwd_len]; exact q), List.getElem?_eq_none (by rw [mwd_len]; exact q)]
theorem fval_sI {ad : Nat → Nat} {h : mH} {k j : Nat} {x : Int32} {a b : Nat} {q : Nat × Nat} (hn : ¬ (a = k ∧ b = j)) : fval ad (sI h k j x) a b q = fval ad h a b q := by
  unfold fval
  rw [gI_else hn, gJ_sI]
theorem fval_sJ {ad : Nat → Nat} {h : mH} {k j : Nat} {x : Int64} {a b : Nat} {q : Nat × Nat} (hn : ¬ (a = k ∧ b = j)) : fval ad (sJ h k j x) a b q = fval ad h a b q := by
  unfold fval
  rw [gJ_else hn, gI_sJ]
theorem mcell_sI {ad : Nat → Nat} {cA : Nat → ClassId} {h : mH} {k j : Nat} {x : Int32} {a : Nat} (hn : a ≠ k) : mcell ad cA (sI h k j x) a = mcell ad cA h a := by
  have e1 : gI (sI h k j x) a = gI h a := funext fun b => gI_else (fun q => hn q.1)
  have e2 : gJ (sI h k j x) a = gJ h a := rfl
  have e3 : ∀ ci, fvs ad (sI h k j x) a ci = fvs ad h a ci := fun ci => by
    unfold fvs
    exact List.map_congr_left fun b _ => fval_sI (fun q => hn q.1)
  unfold mcell
  rw [e1, e2, e3]
theorem mcell_sJ {ad : Nat → Nat} {cA : Nat → ClassId} {h : mH} {k j : Nat} {x : Int64} {a : Nat} (hn : a ≠ k) : mcell ad cA (sJ h k j x) a = mcell ad cA h a := by
  have e1 : gJ (sJ h k j x) a = gJ h a := funext fun b => gJ_else (fun q => hn q.1)
  have e2 : gI (sJ h k j x) a = gI h a := rfl
  have e3 : ∀ ci, fvs ad (sJ h k j x) a ci = fvs ad h a ci := fun ci => by
    unfold fvs
    exact List.map_congr_left fun b _ => fval_sJ (fun q => hn q.1)
  unfold mcell
  rw [e1, e2, e3]
theorem mcell_cpI {ad : Nat → Nat} {cA : Nat → ClassId} {h : mH} {k sp l dp n a : Nat} (hn : a ≠ l) : mcell ad cA (cpI h k sp l dp n) a = mcell ad cA h a := by
  have e1 : gI (cpI h k sp l dp n) a = gI h a := funext fun b => by rw [gI_cpI, if_neg (fun q => hn q.1)]
  have e2 : gJ (cpI h k sp l dp n) a = gJ h a := rfl
  have e3 : ∀ ci, fvs ad (cpI h k sp l dp n) a ci = fvs ad h a ci := fun ci => by
    unfold fvs
    refine List.map_congr_left fun b _ => ?_
    unfold fval
    rw [e1, e2]
  unfold mcell
  rw [e1, e2, e3]
theorem mcell_obj {ad : Nat → Nat} {cA : Nat → ClassId} {h : mH} {k ci : Nat} (hk : shp k = (0, ci)) : mcell ad cA h k = .inr (ci, fvs ad h k ci) := by
  unfold mcell; rw [hk]; rfl
theorem mcell_int {ad : Nat → Nat} {cA : Nat → ClassId} {h : mH} {k : Nat} (hk : (shp k).1 = 1) : mcell ad cA h k = .inl (cA 0, (shp k).2, .inl (gI h k)) := by
  unfold mcell; rw [hk]; rfl
theorem mcell_long {ad : Nat → Nat} {cA : Nat → ClassId} {h : mH} {k : Nat} (hk : (shp k).1 = 2) : mcell ad cA h k = .inl (cA 1, (shp k).2, .inr (.inl (gJ h k))) := by
  unfold mcell; rw [hk]; rfl
theorem mcell_sheet {ad : Nat → Nat} {cA : Nat → ClassId} {h : mH} {k : Nat} (hk : (shp k).1 = 3) : mcell ad cA h k = .inl (cA 2, (shp k).2, .inr (.inr (.inr (.inr (fun j => some (ad (k + 1 + j))))))) := by
  unfold mcell; rw [hk]; rfl
theorem fvs_sI {ad : Nat → Nat} {h : mH} {k ci j : Nat} {x : Int32} (hj : j < ftn ci) (hf : (ft ci j).1 = 0) : (fvs ad h k ci).set j (.int x) = fvs ad (sI h k j x) k ci := by
  apply List.ext_getElem?
  intro a
  by_cases ha : a = j
  · subst ha
    rw [List.getElem?_set_self (by rw [fvs_len]; exact hj), fvs_at _ _ _ hj]
    unfold fval; rw [hf]
    show _ = some (Value.int (gI (sI h k a x) k a))
    rw [gI_same]
  · rw [List.getElem?_set_ne (Ne.symm ha)]
    rcases Nat.lt_or_ge a (ftn ci) with q | q
    · rw [fvs_at _ _ _ q, fvs_at _ _ _ q, fval_sI (fun z => ha z.2)]
    · rw [List.getElem?_eq_none (by rw [fvs_len]; exact q), List.getElem?_eq_none (by rw [fvs_len]; exact q)]
theorem fvs_sJ {ad : Nat → Nat} {h : mH} {k ci j : Nat} {x : Int64} (hj : j < ftn ci) (hf : (ft ci j).1 = 1) : (fvs ad h k ci).set j (.long x) = fvs ad (sJ h k j x) k ci := by
  apply List.ext_getElem?
  intro a
  by_cases ha : a = j
  · subst ha
    rw [List.getElem?_set_self (by rw [fvs_len]; exact hj), fvs_at _ _ _ hj]
    unfold fval; rw [hf]
    show _ = some (Value.long (gJ (sJ h k a x) k a))
    rw [gJ_same]
  · rw [List.getElem?_set_ne (Ne.symm ha)]
    rcases Nat.lt_or_ge a (ftn ci) with q | q
    · rw [fvs_at _ _ _ q, fvs_at _ _ _ q, fval_sJ (fun z => ha z.2)]
    · rw [List.getElem?_eq_none (by rw [fvs_len]; exact q), List.getElem?_eq_none (by rw [fvs_len]; exact q)]
/-- where the places lie -/
def mAd (ad : Nat → Nat) (A : Nat → Prop) (H0 : Heap) : Prop := (∀ i j, i < 43 → j < 43 → ad i = ad j → i = j) ∧ (∀ k, k < 43 → A (ad k)) ∧ ∀ q : Nat, H0.size ≤ q → A q
theorem mwd_D {ad : Nat → Nat} {cA : Nat → ClassId} {A : Nat → Prop} {H0 : Heap} (hA : mAd ad A H0) (h : mH) : va_D A (mwd ad cA h) := by
  have key : ∀ (k : Nat) (q : Nat × va_E), (mwd ad cA h)[k]? = some q → k < 43 ∧ q.1 = ad k := by
    intro k q hq
    have hk : k < 43 := by
      have := (List.getElem?_eq_some_iff.mp hq).1
      rwa [mwd_len] at this
    rw [mwd_at _ _ _ hk] at hq
    cases hq
    exact ⟨hk, rfl⟩
  refine ⟨fun i j p q hi hj hpq => ?_, fun k q hk => ?_⟩
  · obtain ⟨h1, h2⟩ := key i p hi
    obtain ⟨h3, h4⟩ := key j q hj
    exact hA.1 i j h1 h3 (by rw [← h2, ← h4]; exact hpq)
  · obtain ⟨h1, h2⟩ := key k q hk
    rw [h2]; exact hA.2.1 k h1
def mWd (D : va_G) (ad : Nat → Nat) (cA : Nat → ClassId) (A : Nat → Prop) (H0 : Heap) (h : mH) (H : Heap) (locs : List Loc) : Prop := va_P D vwCl (mwd ad cA h) H ∧ va_S A H0 H locs
/-- locals -/
def mloc (ad : Nat → Nat) (ls : Array Slot) (nL : Nat) (loc : mL) : Prop := ls.size = nL ∧ lv_wf ls ∧ loc.length = nL ∧ ∀ (i : Nat) (v : Value), lget loc i = some v → ls[i]? = some (.val (cv ad v))
def asl (ad : Nat → Nat) : Nat → mL → List (Nat × Value)
  | _, [] => []
  | n, some v :: os => (n, cv ad v) :: asl ad (n + 1) os
  | n, none :: os => asl ad (n + 1) os
theorem asl_in (ad : Nat → Nat) : ∀ (loc : mL) (n j : Nat) (w : Value), lget loc j = some w → (n + j, cv ad w) ∈ asl ad n loc
  | [], _, _, _, h => by simp [lget] at h
  | o :: os, n, 0, w, h => by
    have h : o = some w := h
    subst h
    exact List.mem_cons_self
  | o :: os, n, j + 1, w, h => by
    have ih := asl_in ad os (n + 1) j w h
    rw [show n + (j + 1) = n + 1 + j by omega]
    cases o with
    | none => exact ih
    | some v => exact List.mem_cons_of_mem _ ih
theorem asl_of (ad : Nat → Nat) : ∀ (loc : mL) (n : Nat) (q : Nat × Value), q ∈ asl ad n loc → ∃ j w, lget loc j = some w ∧ q = (n + j, cv ad w)
  | [], _, _, h => by cases h
  | none :: os, n, q, h => by
    obtain ⟨j, w, h1, h2⟩ := asl_of ad os (n + 1) q h
    exact ⟨j + 1, w, h1, by rw [h2, show n + (j + 1) = n + 1 + j by omega]⟩
  | some v :: os, n, q, h => by
    rcases List.mem_cons.mp h with rfl | h
    · exact ⟨0, v, rfl, rfl⟩
    · obtain ⟨j, w, h1, h2⟩ := asl_of ad os (n + 1) q h
      exact ⟨j + 1, w, h1, by rw [h2, show n + (j + 1) = n + 1 + j by omega]⟩
theorem mloc_has {ad : Nat → Nat} {ls : Array Slot} {nL : Nat} {loc : mL} (h : mloc ad ls nL loc) : lv_has ls nL (asl ad 0 loc) := by
  refine ⟨h.1, h.2.1, fun q hq => ?_⟩
  obtain ⟨j, w, h1, h2⟩ := asl_of ad loc 0 q hq
  rw [h2, Nat.zero_add]
  exact h.2.2.2 j w h1
theorem st1_len : ∀ (loc : mL) (i : Nat) (v : Value), (st1 loc i v).length = loc.length
  | [], _, _ => rfl
  | _ :: _, 0, _ => rfl
  | _ :: os, i + 1, v => by simp [st1, st1_len os i v]
theorem st2_len : ∀ (loc : mL) (i : Nat) (v : Value), (st2 loc i v).length = loc.length
  | [], _, _ => rfl
  | [_], 0, _ => rfl
  | _ :: _ :: _, 0, _ => rfl
  | _ :: os, i + 1, v => by simp [st2, st2_len os i v]
theorem kil_some {o : Option Value} {w : Value} (h : kil o = some w) : o = some w ∧ w.category ≠ 2 := by
  cases o with
  | none => cases h
  | some v => cases v <;> first | (cases h; done) | (cases h; exact ⟨rfl, by simp [Value.category]⟩)
theorem st1_get : ∀ (loc : mL) (i : Nat) (v : Value) (j : Nat) (w : Value), lget (st1 loc i v) j = some w → (j = i ∧ w = v) ∨ (j ≠ i ∧ lget loc j = some w ∧ ¬ (j + 1 = i ∧ w.category = 2))
  | [], _, _, _, _, h => by simp [st1, lget] at h
  | o :: os, 0, v, 0, w, h => by
    have h : some v = some w := h
    cases h
    exact Or.inl ⟨rfl, rfl⟩
  | o :: os, 0, v, j + 1, w, h => Or.inr ⟨by omega, h, by omega⟩
  | o :: os, i + 1, v, 0, w, h => by
    cases i with
    | zero =>
      have h : kil o = some w := h
      obtain ⟨h1, h2⟩ := kil_some h
      exact Or.inr ⟨by omega, h1, fun q => h2 q.2⟩
    | succ i => exact Or.inr ⟨by omega, h, by omega⟩
  | o :: os, i + 1, v, j + 1, w, h => by
    have h : lget (st1 os i v) j = some w := h
    rcases st1_get os i v j w h with ⟨h1, h2⟩ | ⟨h1, h2, h3⟩
    · exact Or.inl ⟨by omega, h2⟩
    · exact Or.inr ⟨by omega, h2, fun q => h3 ⟨by omega, q.2⟩⟩
theorem st2_get : ∀ (loc : mL) (i : Nat) (v : Value) (j : Nat) (w : Value), lget (st2 loc i v) j = some w → (j = i ∧ w = v) ∨ (j ≠ i ∧ j ≠ i + 1 ∧ lget loc j = some w ∧ ¬ (j + 1 = i ∧ w.category = 2))
  | [], _, _, _, _, h => by simp [st2, lget] at h
  | o :: os, 0, v, 0, w, h => by
    have h : some v = some w := h
    cases h
    exact Or.inl ⟨rfl, rfl⟩
  | [o], 0, v, j + 1, w, h => by simp [st2, lget] at h
  | o :: o2 :: os, 0, v, 1, w, h => by simp [st2, lget] at h
  | o :: o2 :: os, 0, v, j + 2, w, h => Or.inr ⟨by omega, by omega, h, by omega⟩
  | o :: os, i + 1, v, 0, w, h => by
    cases i with
    | zero =>
      have h : kil o = some w := h
      obtain ⟨h1, h2⟩ := kil_some h
      exact Or.inr ⟨by omega, by omega, h1, fun q => h2 q.2⟩
    | succ i => exact Or.inr ⟨by omega, by omega, h, by omega⟩
  | o :: os, i + 1, v, j + 1, w, h => by
    have h : lget (st2 os i v) j = some w := h
    rcases st2_get os i v j w h with ⟨h1, h2⟩ | ⟨h1, h4, h2, h3⟩
    · exact Or.inl ⟨by omega, h2⟩
    · exact Or.inr ⟨by omega, by omega, h2, fun q => h3 ⟨by omega, q.2⟩⟩
theorem mloc_st1 {ad : Nat → Nat} {ls ls' : Array Slot} {nL : Nat} {loc : mL} {i : Nat} {v : Value} (h : mloc ad ls nL loc) (h' : lv_has ls' nL ((i, cv ad v) :: (asl ad 0 loc).filter (fun q => !(q.1 == i) && !(q.1 + 1 == i && q.2.category == 2)))) : mloc ad ls' nL (st1 loc i v) := by
  refine ⟨h'.1, h'.2.1, by rw [st1_len]; exact h.2.2.1, fun j w hj => ?_⟩
  rcases st1_get loc i v j w hj with ⟨h1, h2⟩ | ⟨h1, h2, h3⟩
  · subst h1; subst h2
    exact h'.2.2 (j, cv ad w) List.mem_cons_self
  · refine h'.2.2 (j, cv ad w) (List.mem_cons_of_mem _ (List.mem_filter.mpr ⟨by have := asl_in ad loc 0 j w h2; rwa [Nat.zero_add] at this, ?_⟩))
    simp only [cv_cat]
    rcases Nat.decEq (j + 1) i with q | q
    · simp [h1, q]
    · have h4 : ¬ w.category = 2 := fun z => h3 ⟨q, z⟩
      simp [h1, h4]
theorem mloc_st2 {ad : Nat → Nat} {ls ls' : Array Slot} {nL : Nat} {loc : mL} {i : Nat} {v : Value} (h : mloc ad ls nL loc) (h' : lv_has ls' nL ((i, cv ad v) :: (asl ad 0 loc).filter (fun q => !(q.1 == i) && (!(q.1 == i + 1) && !(q.1 + 1 == i && q.2.category == 2))))) : mloc ad ls' nL (st2 loc i v) := by
  refine ⟨h'.1, h'.2.1, by rw [st2_len]; exact h.2.2.1, fun j w hj => ?_⟩
  rcases st2_get loc i v j w hj with ⟨h1, h2⟩ | ⟨h1, h5, h2, h3⟩
  · subst h1; subst h2
    exact h'.2.2 (j, cv ad w) List.mem_cons_self
  · refine h'.2.2 (j, cv ad w) (List.mem_cons_of_mem _ (List.mem_filter.mpr ⟨by have := asl_in ad loc 0 j w h2; rwa [Nat.zero_add] at this, ?_⟩))
    simp only [cv_cat]
    rcases Nat.decEq (j + 1) i with q | q
    · simp [h1, h5, q]
    · have h4 : ¬ w.category = 2 := fun z => h3 ⟨q, z⟩
      simp [h1, h5, h4]
theorem lget_lt : ∀ (loc : mL) (i : Nat) (v : Value), lget loc i = some v → i < loc.length
  | [], _, _, h => by simp [lget] at h
  | _ :: _, 0, _, _ => by simp
  | _ :: os, i + 1, v, h => by
    have := lget_lt os i v h
    simp only [List.length_cons]; omega
/-- the entry's locals -/
theorem ents_get (ad : Nat → Nat) : ∀ (as : List Value) (i : Nat) (v : Value), lget (ents as) i = some v → (lg_sl (as.map (cv ad)))[i]? = some (.val (cv ad v))
  | [], _, _, h => by simp [ents, lget] at h
  | a :: as, i, v, h => by
    have ih := ents_get ad as
    have key : ∀ w : Value, w.category ≠ 2 → lg_sl (w :: as.map (cv ad)) = .val w :: lg_sl (as.map (cv ad)) := fun w hw => by simp [lg_sl, hw]
    have key2 : ∀ w : Value, w.category = 2 → lg_sl (w :: as.map (cv ad)) = .val w :: .second :: lg_sl (as.map (cv ad)) := fun w hw => by simp [lg_sl, hw]
    rw [List.map_cons]
    cases a with
    | long x =>
      rw [key2 (cv ad (.long x)) rfl]
      match i, h with
      | 0, h => have h : some (Value.long x) = some v := h; cases h; rfl
      | 1, h => simp [ents, lget] at h
      | i + 2, h => exact ih i v h
    | double x =>
      rw [key2 (cv ad (.double x)) rfl]
      match i, h with
      | 0, h => have h : some (Value.double x) = some v := h; cases h; rfl
      | 1, h => simp [ents, lget] at h
      | i + 2, h => exact ih i v h
    | int x =>
      rw [key (cv ad (.int x)) (by simp [cv, Value.category])]
      match i, h with
      | 0, h => have h : some (Value.int x) = some v := h; cases h; rfl
      | i + 1, h => exact ih i v h
    | float x =>
      rw [key (cv ad (.float x)) (by simp [cv, Value.category])]
      match i, h with
      | 0, h => have h : some (Value.float x) = some v := h; cases h; rfl
      | i + 1, h => exact ih i v h
    | null =>
      rw [key (cv ad .null) (by simp [cv, Value.category])]
      match i, h with
      | 0, h => have h : some Value.null = some v := h; cases h; rfl
      | i + 1, h => exact ih i v h
    | ref x =>
      rw [key (cv ad (.ref x)) (by simp [cv, Value.category])]
      match i, h with
      | 0, h => have h : some (Value.ref x) = some v := h; cases h; rfl
      | i + 1, h => exact ih i v h
    | retAddr x =>
      rw [key (cv ad (.retAddr x)) (by simp [cv, Value.category])]
      match i, h with
      | 0, h => have h : some (Value.retAddr x) = some v := h; cases h; rfl
      | i + 1, h => exact ih i v h
theorem lget_app : ∀ (a b : mL) (i : Nat) (v : Value), lget (a ++ b) i = some v → (lget a i = some v) ∨ (a.length ≤ i ∧ lget b (i - a.length) = some v)
  | [], b, i, v, h => Or.inr ⟨by simp, by simpa using h⟩
  | o :: os, b, 0, v, h => Or.inl h
  | o :: os, b, i + 1, v, h => by
    rcases lget_app os b i v h with h1 | ⟨h1, h2⟩
    · exact Or.inl h1
    · exact Or.inr ⟨by simp only [List.length_cons]; omega, by rw [show i + 1 - (o :: os).length = i - os.length by simp only [List.length_cons]; omega]; exact h2⟩
theorem lget_none : ∀ (n i : Nat) (v : Value), ¬ lget (List.replicate n none) i = some v
  | 0, _, _, h => by simp [lget] at h
  | n + 1, 0, v, h => by simp [List.replicate_succ, lget] at h
  | n + 1, i + 1, v, h => lget_none n i v (by simpa [List.replicate_succ, lget] using h)
theorem ents_len (ad : Nat → Nat) : ∀ as : List Value, (ents as).length = wds as ∧ (lg_sl (as.map (cv ad))).length = wds as
  | [] => ⟨rfl, rfl⟩
  | a :: as => by
    have ih := ents_len ad as
    have key : ∀ w : Value, w.category ≠ 2 → (lg_sl (w :: as.map (cv ad))).length = wds as + 1 := fun w hw => by
      rw [← ih.2]; simp [lg_sl, hw]
    have key2 : ∀ w : Value, w.category = 2 → (lg_sl (w :: as.map (cv ad))).length = wds as + 2 := fun w hw => by
      rw [← ih.2]; simp [lg_sl, hw]
    rw [List.map_cons]
    cases a <;> first
      | exact ⟨by simp [ents, wds, ih.1], key2 _ rfl⟩
      | exact ⟨by simp [ents, wds, ih.1], key _ (by simp [cv, Value.category])⟩
theorem mloc_ent (ad : Nat → Nat) (y : Nat) (as : List Value) (hw : wds as ≤ (md y).2.2.1) : mloc ad ((lg_sl (as.map (cv ad)) ++ List.replicate ((md y).2.2.1 - (lg_sl (as.map (cv ad))).length) Slot.unset).toArray) (md y).2.2.1 (ent y as) := by
  have hl := ents_len ad as
  have h0 := lv_entry (as.map (cv ad)) (n := (md y).2.2.1) (by rw [hl.2]; exact hw)
  refine ⟨h0.1, h0.2.1, ?_, fun i v hi => ?_⟩
  · simp only [ent, List.length_append, List.length_replicate, hl.1]; omega
  · rcases lget_app _ _ i v hi with h1 | ⟨h1, h2⟩
    · have h2 := ents_get ad as i v h1
      have h3 : i < (lg_sl (as.map (cv ad))).length := (List.getElem?_eq_some_iff.mp h2).1
      rw [List.getElem?_toArray, List.getElem?_append_left h3]
      exact h2
    · exact absurd h2 (lget_none _ _ _)
end
section
/-! What the tables say of the methods and of their pool entries. -/
def mgood : List Cond := lw_tbl.filter goodWord
theorem mg {w : Cond} (i : Nat) (h : tables_1[i]? = some w) (g : goodWord w = true) : w ∈ mgood := List.mem_filter.mpr ⟨List.mem_append_right _ (List.mem_of_getElem? h), g⟩
theorem mgs {w : Cond} (i : Nat) (h : (k2_sels lw_privs)[i]? = some w) (g : goodWord w = true) : w ∈ mgood := List.mem_filter.mpr ⟨List.mem_append_left _ (List.mem_of_getElem? h), g⟩
def fldOK (own : String) (idx ci j : Nat) (ty : FieldType) (kd : Nat) : Prop := ∃ (C : String) (T : u_T) (N : Nat), vwCl[ci]? = some (C, T, N) ∧ j < N ∧ Cond.fieldLink own idx (T j).1 (T j).2.1 (T j).2.2.1 ∈ mgood ∧ (ft ci j).1 = kd ∧ parseFieldDescriptor (T j).2.2.1 = some ty ∧ (T j).2.2.2 = false
def refOK (own : String) (idx ci j : Nat) (off : Int64) : Prop := ∃ (C : String) (T : u_T) (N : Nat), vwCl[ci]? = some (C, T, N) ∧ j < N ∧ Cond.fieldLink own idx (T j).1 (T j).2.1 (T j).2.2.1 ∈ mgood ∧ ft ci j = (2, off.toNatClampNeg)
def staOK (own : String) (idx y : Nat) : Prop := Cond.methodLink own idx (md y).1 ∈ mgood ∧ Cond.initialized (md y).1.cls ∈ mgood ∧ Cond.static (md y).1 ∈ mgood
def nesOK (own : String) (idx y : Nat) : Prop := Cond.methodLinkNest own idx (md y).1 "CommitIndex" ∈ mnest ∧ Cond.initialized (md y).1.cls ∈ mgood ∧ Cond.static (md y).1 ∈ mgood
def virOK (own : String) (idx y ci : Nat) : Prop := Cond.methodLink own idx (md y).1 ∈ mgood ∧ Cond.initialized (md y).1.cls ∈ mgood ∧ Cond.instanceMethod (md y).1 ∈ mgood ∧ Cond.selects (md y).1.cls (md y).1 (md y).1 ∈ mgood ∧ ∃ (T : u_T) (N : Nat), vwCl[ci]? = some ((md y).1.cls, T, N)
def LkOK (own : String) (q : Nat × Nat × Nat × Nat × Int64) : Prop := match q.2.1 with
  | 0 => fldOK own q.1 q.2.2.1 q.2.2.2.1 .int 0
  | 12 => fldOK own q.1 q.2.2.1 q.2.2.2.1 .boolean 0
  | 1 => fldOK own q.1 q.2.2.1 q.2.2.2.1 .long 1
  | 2 => refOK own q.1 q.2.2.1 q.2.2.2.1 q.2.2.2.2
  | 3 => staOK own q.1 q.2.2.1
  | 5 => nesOK own q.1 q.2.2.1
  | 4 => virOK own q.1 q.2.2.1 q.2.2.2.1
  | 7 => Cond.constant own q.1 q.2.2.2.2.toInt32 ∈ mgood
  | 8 => Cond.constantLong own q.1 q.2.2.2.2 ∈ mgood
  | 9 => Cond.methodLink own q.1 Lib.Math.max.name ∈ mgood
  | 10 => Cond.methodLink own q.1 Lib.Math.min.name ∈ mgood
  | 11 => Cond.methodLink own q.1 arraycopyName ∈ mgood
  | _ => False
/-- a method's own row -/
def mOK (d : mD) : Prop := Cond.code d.1 d.2.1 d.2.2.1 d.2.2.2.1 ∈ mgood ∧ (plainName d.1.cls = true ∧ d.1.cls ≠ "java/lang/invoke/MethodHandle" ∧ d.1.cls ≠ "java/lang/invoke/VarHandle" ∧ (parseMethodDescriptor d.1.desc).map (fun q => q.parameters.length) = some d.2.2.2.2.2.2.2.1 ∧ d.1.cls = d.2.2.2.2.1) ∧ ∀ q ∈ d.2.2.2.2.2.2.2.2, LkOK d.2.2.2.2.1 q

theorem lkk_RX7_12 : LkOK RX7 (12, 2, 7, 0, 1) := ⟨RX7, TX7, 8, rfl, (by decide +kernel), mg 215 (by decide +kernel) (by decide +kernel), rfl⟩
theorem lkk_RX7_62 : LkOK RX7 (62, 4, 127, 1, 0) := ⟨mg 244 (by decide +kernel) (by decide +kernel), mg 2 (by decide +kernel) (by decide +kernel), mg 245 (by decide +kernel) (by decide +kernel), mg 246 (by decide +kernel) (by decide +kernel), TX1, 9, rfl⟩
theorem lkk_RX7_66 : LkOK RX7 (66, 4, 126, 1, 0) := ⟨mg 253 (by decide +kernel) (by decide +kernel), mg 2 (by decide +kernel) (by decide +kernel), mg 254 (by decide +kernel) (by decide +kernel), mg 255 (by decide +kernel) (by decide +kernel), TX1, 9, rfl⟩
theorem lkk_RX7_70 : LkOK RX7 (70, 4, 128, 1, 0) := ⟨mg 257 (by decide +kernel) (by decide +kernel), mg 2 (by decide +kernel) (by decide +kernel), mg 258 (by decide +kernel) (by decide +kernel), mg 259 (by decide +kernel) (by decide +kernel), TX1, 9, rfl⟩
theorem lkk_RX7_74 : LkOK RX7 (74, 0, 1, 6, 0) := ⟨RX1, TX1, 9, rfl, (by decide +kernel), mg 34 (by decide +kernel) (by decide +kernel), rfl, (by decide +kernel), rfl⟩
theorem lkk_RX7_47 : LkOK RX7 (47, 2, 7, 5, 15) := ⟨RX7, TX7, 8, rfl, (by decide +kernel), mg 220 (by decide +kernel) (by decide +kernel), rfl⟩
theorem lkk_RX7_77 : LkOK RX7 (77, 0, 1, 7, 0) := ⟨RX1, TX1, 9, rfl, (by decide +kernel), mg 37 (by decide +kernel) (by decide +kernel), rfl, (by decide +kernel), rfl⟩
theorem lkk_RX7_80 : LkOK RX7 (80, 4, 129, 1, 0) := ⟨mg 280 (by decide +kernel) (by decide +kernel), mg 2 (by decide +kernel) (by decide +kernel), mg 281 (by decide +kernel) (by decide +kernel), mg 282 (by decide +kernel) (by decide +kernel), TX1, 9, rfl⟩
theorem lkk_RX7_83 : LkOK RX7 (83, 4, 117, 0, 0) := ⟨mg 284 (by decide +kernel) (by decide +kernel), mg 7 (by decide +kernel) (by decide +kernel), mg 285 (by decide +kernel) (by decide +kernel), mg 286 (by decide +kernel) (by decide +kernel), TX0, 12, rfl⟩
theorem lkk_RX7_87 : LkOK RX7 (87, 4, 38, 7, 0) := ⟨mg 294 (by decide +kernel) (by decide +kernel), mg 1 (by decide +kernel) (by decide +kernel), mg 296 (by decide +kernel) (by decide +kernel), mgs 0 (by decide +kernel) (by decide +kernel), TX7, 8, rfl⟩
theorem lkk_RX7_91 : LkOK RX7 (91, 4, 159, 6, 0) := ⟨mg 298 (by decide +kernel) (by decide +kernel), mg 8 (by decide +kernel) (by decide +kernel), mg 299 (by decide +kernel) (by decide +kernel), mg 300 (by decide +kernel) (by decide +kernel), TX6, 3, rfl⟩
theorem lkk_RX7_94 : LkOK RX7 (94, 4, 37, 7, 0) := ⟨mg 302 (by decide +kernel) (by decide +kernel), mg 1 (by decide +kernel) (by decide +kernel), mg 304 (by decide +kernel) (by decide +kernel), mgs 1 (by decide +kernel) (by decide +kernel), TX7, 8, rfl⟩
theorem lkk_RX7_98 : LkOK RX7 (98, 0, 6, 2, 0) := ⟨RX6, TX6, 3, rfl, (by decide +kernel), mg 207 (by decide +kernel) (by decide +kernel), rfl, (by decide +kernel), rfl⟩
theorem lkk_RX7_101 : LkOK RX7 (101, 4, 164, 6, 0) := ⟨mg 306 (by decide +kernel) (by decide +kernel), mg 8 (by decide +kernel) (by decide +kernel), mg 307 (by decide +kernel) (by decide +kernel), mg 308 (by decide +kernel) (by decide +kernel), TX6, 3, rfl⟩
theorem lkk_RX7_104 : LkOK RX7 (104, 4, 130, 1, 0) := ⟨mg 318 (by decide +kernel) (by decide +kernel), mg 2 (by decide +kernel) (by decide +kernel), mg 319 (by decide +kernel) (by decide +kernel), mg 320 (by decide +kernel) (by decide +kernel), TX1, 9, rfl⟩
theorem lkk_RX7_107 : LkOK RX7 (107, 0, 1, 8, 0) := ⟨RX1, TX1, 9, rfl, (by decide +kernel), mg 39 (by decide +kernel) (by decide +kernel), rfl, (by decide +kernel), rfl⟩
theorem lkk_RX7_110 : LkOK RX7 (110, 4, 132, 1, 0) := ⟨mg 330 (by decide +kernel) (by decide +kernel), mg 2 (by decide +kernel) (by decide +kernel), mg 331 (by decide +kernel) (by decide +kernel), mg 332 (by decide +kernel) (by decide +kernel), TX1, 9, rfl⟩
theorem lkk_RX7_40 : LkOK RX7 (40, 2, 7, 4, 14) := ⟨RX7, TX7, 8, rfl, (by decide +kernel), mg 219 (by decide +kernel) (by decide +kernel), rfl⟩
theorem lkk_RX7_113 : LkOK RX7 (113, 0, 2, 0, 0) := ⟨RX2, TX2, 4, rfl, (by decide +kernel), mg 130 (by decide +kernel) (by decide +kernel), rfl, (by decide +kernel), rfl⟩
theorem lkk_RX7_116 : LkOK RX7 (116, 0, 0, 2, 0) := ⟨RX0, TX0, 12, rfl, (by decide +kernel), mg 157 (by decide +kernel) (by decide +kernel), rfl, (by decide +kernel), rfl⟩
theorem lkk_RX7_119 : LkOK RX7 (119, 0, 0, 3, 0) := ⟨RX0, TX0, 12, rfl, (by decide +kernel), mg 159 (by decide +kernel) (by decide +kernel), rfl, (by decide +kernel), rfl⟩
theorem lkk_RX7_122 : LkOK RX7 (122, 4, 125, 1, 0) := ⟨mg 342 (by decide +kernel) (by decide +kernel), mg 2 (by decide +kernel) (by decide +kernel), mg 250 (by decide +kernel) (by decide +kernel), mg 251 (by decide +kernel) (by decide +kernel), TX1, 9, rfl⟩
theorem lkk_RX7_126 : LkOK RX7 (126, 4, 133, 1, 0) := ⟨mg 343 (by decide +kernel) (by decide +kernel), mg 2 (by decide +kernel) (by decide +kernel), mg 344 (by decide +kernel) (by decide +kernel), mg 345 (by decide +kernel) (by decide +kernel), TX1, 9, rfl⟩
theorem lkk_RX7_129 : LkOK RX7 (129, 4, 134, 1, 0) := ⟨mg 347 (by decide +kernel) (by decide +kernel), mg 2 (by decide +kernel) (by decide +kernel), mg 348 (by decide +kernel) (by decide +kernel), mg 349 (by decide +kernel) (by decide +kernel), TX1, 9, rfl⟩
theorem lkk_RX7_132 : LkOK RX7 (132, 4, 137, 1, 0) := ⟨mg 351 (by decide +kernel) (by decide +kernel), mg 2 (by decide +kernel) (by decide +kernel), mg 263 (by decide +kernel) (by decide +kernel), mg 264 (by decide +kernel) (by decide +kernel), TX1, 9, rfl⟩
theorem lkk_RX7_135 : LkOK RX7 (135, 4, 138, 1, 0) := ⟨mg 352 (by decide +kernel) (by decide +kernel), mg 2 (by decide +kernel) (by decide +kernel), mg 353 (by decide +kernel) (by decide +kernel), mg 354 (by decide +kernel) (by decide +kernel), TX1, 9, rfl⟩
theorem lkk_RX7_138 : LkOK RX7 (138, 3, 41, 0, 0) := ⟨mg 356 (by decide +kernel) (by decide +kernel), mg 1 (by decide +kernel) (by decide +kernel), mg 270 (by decide +kernel) (by decide +kernel)⟩
theorem lkk_RX7_142 : LkOK RX7 (142, 4, 142, 1, 0) := ⟨mg 357 (by decide +kernel) (by decide +kernel), mg 2 (by decide +kernel) (by decide +kernel), mg 358 (by decide +kernel) (by decide +kernel), mg 359 (by decide +kernel) (by decide +kernel), TX1, 9, rfl⟩
theorem lkk_RX7_146 : LkOK RX7 (146, 4, 136, 1, 0) := ⟨mg 364 (by decide +kernel) (by decide +kernel), mg 2 (by decide +kernel) (by decide +kernel), mg 365 (by decide +kernel) (by decide +kernel), mg 366 (by decide +kernel) (by decide +kernel), TX1, 9, rfl⟩
theorem lkk_RX7_149 : LkOK RX7 (149, 4, 139, 1, 0) := ⟨mg 378 (by decide +kernel) (by decide +kernel), mg 2 (by decide +kernel) (by decide +kernel), mg 273 (by decide +kernel) (by decide +kernel), mg 274 (by decide +kernel) (by decide +kernel), TX1, 9, rfl⟩
theorem lkk_RX7_152 : LkOK RX7 (152, 8, 0, 0, (-9223372036854775806)) := mg 379 (by decide +kernel) (by decide +kernel)
theorem lkk_RX7_19 : LkOK RX7 (19, 2, 7, 1, 8) := ⟨RX7, TX7, 8, rfl, (by decide +kernel), mg 216 (by decide +kernel) (by decide +kernel), rfl⟩
theorem lkk_RX7_154 : LkOK RX7 (154, 4, 151, 3, 0) := ⟨mg 384 (by decide +kernel) (by decide +kernel), mg 3 (by decide +kernel) (by decide +kernel), mg 385 (by decide +kernel) (by decide +kernel), mg 386 (by decide +kernel) (by decide +kernel), TX3, 3, rfl⟩
theorem lkk_RX7_158 : LkOK RX7 (158, 12, 3, 2, 0) := ⟨RX3, TX3, 3, rfl, (by decide +kernel), mg 72 (by decide +kernel) (by decide +kernel), rfl, (by decide +kernel), rfl⟩
theorem lkk_RX7_162 : LkOK RX7 (162, 0, 3, 1, 0) := ⟨RX3, TX3, 3, rfl, (by decide +kernel), mg 70 (by decide +kernel) (by decide +kernel), rfl, (by decide +kernel), rfl⟩
theorem lkk_RX7_26 : LkOK RX7 (26, 2, 7, 2, 10) := ⟨RX7, TX7, 8, rfl, (by decide +kernel), mg 217 (by decide +kernel) (by decide +kernel), rfl⟩
theorem lkk_RX7_165 : LkOK RX7 (165, 4, 153, 4, 0) := ⟨mg 405 (by decide +kernel) (by decide +kernel), mg 4 (by decide +kernel) (by decide +kernel), mg 406 (by decide +kernel) (by decide +kernel), mg 407 (by decide +kernel) (by decide +kernel), TX4, 7, rfl⟩
theorem lkk_RX7_169 : LkOK RX7 (169, 1, 4, 5, 0) := ⟨RX4, TX4, 7, rfl, (by decide +kernel), mg 92 (by decide +kernel) (by decide +kernel), rfl, (by decide +kernel), rfl⟩
theorem lkk_RX7_173 : LkOK RX7 (173, 0, 4, 6, 0) := ⟨RX4, TX4, 7, rfl, (by decide +kernel), mg 94 (by decide +kernel) (by decide +kernel), rfl, (by decide +kernel), rfl⟩
theorem lkk_RX7_33 : LkOK RX7 (33, 2, 7, 3, 11) := ⟨RX7, TX7, 8, rfl, (by decide +kernel), mg 218 (by decide +kernel) (by decide +kernel), rfl⟩
theorem lkk_RX7_174 : LkOK RX7 (174, 4, 155, 5, 0) := ⟨mg 426 (by decide +kernel) (by decide +kernel), mg 5 (by decide +kernel) (by decide +kernel), mg 427 (by decide +kernel) (by decide +kernel), mg 428 (by decide +kernel) (by decide +kernel), TX5, 2, rfl⟩
theorem lkk_RX7_178 : LkOK RX7 (178, 4, 157, 5, 0) := ⟨mg 436 (by decide +kernel) (by decide +kernel), mg 5 (by decide +kernel) (by decide +kernel), mg 437 (by decide +kernel) (by decide +kernel), mg 438 (by decide +kernel) (by decide +kernel), TX5, 2, rfl⟩
theorem lkk_RX7_181 : LkOK RX7 (181, 4, 158, 5, 0) := ⟨mg 444 (by decide +kernel) (by decide +kernel), mg 5 (by decide +kernel) (by decide +kernel), mg 445 (by decide +kernel) (by decide +kernel), mg 446 (by decide +kernel) (by decide +kernel), TX5, 2, rfl⟩
theorem lkk_RX7_184 : LkOK RX7 (184, 4, 146, 2, 0) := ⟨mg 452 (by decide +kernel) (by decide +kernel), mg 6 (by decide +kernel) (by decide +kernel), mg 453 (by decide +kernel) (by decide +kernel), mg 454 (by decide +kernel) (by decide +kernel), TX2, 4, rfl⟩
theorem lkk_RX7_187 : LkOK RX7 (187, 4, 147, 2, 0) := ⟨mg 456 (by decide +kernel) (by decide +kernel), mg 6 (by decide +kernel) (by decide +kernel), mg 457 (by decide +kernel) (by decide +kernel), mg 458 (by decide +kernel) (by decide +kernel), TX2, 4, rfl⟩
theorem lkk_RX7_191 : LkOK RX7 (191, 4, 148, 2, 0) := ⟨mg 463 (by decide +kernel) (by decide +kernel), mg 6 (by decide +kernel) (by decide +kernel), mg 464 (by decide +kernel) (by decide +kernel), mg 465 (by decide +kernel) (by decide +kernel), TX2, 4, rfl⟩
theorem lkk_RX7_194 : LkOK RX7 (194, 4, 149, 2, 0) := ⟨mg 475 (by decide +kernel) (by decide +kernel), mg 6 (by decide +kernel) (by decide +kernel), mg 476 (by decide +kernel) (by decide +kernel), mg 477 (by decide +kernel) (by decide +kernel), TX2, 4, rfl⟩
theorem lkk_RX7_197 : LkOK RX7 (197, 4, 150, 2, 0) := ⟨mg 483 (by decide +kernel) (by decide +kernel), mg 6 (by decide +kernel) (by decide +kernel), mg 484 (by decide +kernel) (by decide +kernel), mg 485 (by decide +kernel) (by decide +kernel), TX2, 4, rfl⟩
theorem lkk_RX7_200 : LkOK RX7 (200, 4, 15, 7, 0) := ⟨mg 493 (by decide +kernel) (by decide +kernel), mg 1 (by decide +kernel) (by decide +kernel), mg 495 (by decide +kernel) (by decide +kernel), mgs 5 (by decide +kernel) (by decide +kernel), TX7, 8, rfl⟩
theorem lkk_RX7_203 : LkOK RX7 (203, 0, 2, 1, 0) := ⟨RX2, TX2, 4, rfl, (by decide +kernel), mg 132 (by decide +kernel) (by decide +kernel), rfl, (by decide +kernel), rfl⟩
theorem lkk_RX7_204 : LkOK RX7 (204, 0, 2, 2, 0) := ⟨RX2, TX2, 4, rfl, (by decide +kernel), mg 134 (by decide +kernel) (by decide +kernel), rfl, (by decide +kernel), rfl⟩
theorem lkk_RX7_207 : LkOK RX7 (207, 1, 2, 3, 0) := ⟨RX2, TX2, 4, rfl, (by decide +kernel), mg 136 (by decide +kernel) (by decide +kernel), rfl, (by decide +kernel), rfl⟩
theorem lkk_RX7_208 : LkOK RX7 (208, 3, 167, 0, 0) := ⟨mg 497 (by decide +kernel) (by decide +kernel), mg 11 (by decide +kernel) (by decide +kernel), mg 470 (by decide +kernel) (by decide +kernel)⟩
theorem lkk_RX7_213 : LkOK RX7 (213, 1, 0, 0, 0) := ⟨RX0, TX0, 12, rfl, (by decide +kernel), mg 153 (by decide +kernel) (by decide +kernel), rfl, (by decide +kernel), rfl⟩
theorem lkk_RX7_216 : LkOK RX7 (216, 1, 0, 1, 0) := ⟨RX0, TX0, 12, rfl, (by decide +kernel), mg 155 (by decide +kernel) (by decide +kernel), rfl, (by decide +kernel), rfl⟩
theorem lkk_RX7_219 : LkOK RX7 (219, 3, 42, 0, 0) := ⟨mg 491 (by decide +kernel) (by decide +kernel), mg 1 (by decide +kernel) (by decide +kernel), mg 362 (by decide +kernel) (by decide +kernel)⟩
theorem lkk_RX7_223 : LkOK RX7 (223, 4, 118, 0, 0) := ⟨mg 514 (by decide +kernel) (by decide +kernel), mg 7 (by decide +kernel) (by decide +kernel), mg 515 (by decide +kernel) (by decide +kernel), mg 516 (by decide +kernel) (by decide +kernel), TX0, 12, rfl⟩
theorem lkk_RX7_227 : LkOK RX7 (227, 4, 122, 0, 0) := ⟨mg 546 (by decide +kernel) (by decide +kernel), mg 7 (by decide +kernel) (by decide +kernel), mg 547 (by decide +kernel) (by decide +kernel), mg 548 (by decide +kernel) (by decide +kernel), TX0, 12, rfl⟩
theorem lkk_RX7_230 : LkOK RX7 (230, 0, 0, 7, 0) := ⟨RX0, TX0, 12, rfl, (by decide +kernel), mg 165 (by decide +kernel) (by decide +kernel), rfl, (by decide +kernel), rfl⟩
theorem lkk_RX7_233 : LkOK RX7 (233, 4, 123, 0, 0) := ⟨mg 558 (by decide +kernel) (by decide +kernel), mg 7 (by decide +kernel) (by decide +kernel), mg 559 (by decide +kernel) (by decide +kernel), mg 560 (by decide +kernel) (by decide +kernel), TX0, 12, rfl⟩
theorem lkk_RX7_237 : LkOK RX7 (237, 4, 124, 0, 0) := ⟨mg 566 (by decide +kernel) (by decide +kernel), mg 7 (by decide +kernel) (by decide +kernel), mg 567 (by decide +kernel) (by decide +kernel), mg 568 (by decide +kernel) (by decide +kernel), TX0, 12, rfl⟩
theorem lkk_RX7_241 : LkOK RX7 (241, 3, 39, 0, 0) := ⟨mg 575 (by decide +kernel) (by decide +kernel), mg 1 (by decide +kernel) (by decide +kernel), mg 576 (by decide +kernel) (by decide +kernel)⟩
theorem lkk_RX7_244 : LkOK RX7 (244, 4, 160, 6, 0) := ⟨mg 578 (by decide +kernel) (by decide +kernel), mg 8 (by decide +kernel) (by decide +kernel), mg 579 (by decide +kernel) (by decide +kernel), mg 580 (by decide +kernel) (by decide +kernel), TX6, 3, rfl⟩
theorem lkk_RX7_248 : LkOK RX7 (248, 4, 161, 6, 0) := ⟨mg 594 (by decide +kernel) (by decide +kernel), mg 8 (by decide +kernel) (by decide +kernel), mg 595 (by decide +kernel) (by decide +kernel), mg 596 (by decide +kernel) (by decide +kernel), TX6, 3, rfl⟩
theorem lkk_RX7_251 : LkOK RX7 (251, 4, 165, 6, 0) := ⟨mg 599 (by decide +kernel) (by decide +kernel), mg 8 (by decide +kernel) (by decide +kernel), mg 600 (by decide +kernel) (by decide +kernel), mg 601 (by decide +kernel) (by decide +kernel), TX6, 3, rfl⟩
theorem lkk_RX7_58 : LkOK RX7 (58, 0, 7, 7, 0) := ⟨RX7, TX7, 8, rfl, (by decide +kernel), mg 222 (by decide +kernel) (by decide +kernel), rfl, (by decide +kernel), rfl⟩
theorem lkk_RX7_254 : LkOK RX7 (254, 7, 0, 0, (-2147483648)) := mg 611 (by decide +kernel) (by decide +kernel)
theorem lkk_RX7_255 : LkOK RX7 (255, 0, 6, 1, 0) := ⟨RX6, TX6, 3, rfl, (by decide +kernel), mg 205 (by decide +kernel) (by decide +kernel), rfl, (by decide +kernel), rfl⟩
theorem lkk_RX7_258 : LkOK RX7 (258, 4, 163, 6, 0) := ⟨mg 616 (by decide +kernel) (by decide +kernel), mg 8 (by decide +kernel) (by decide +kernel), mg 617 (by decide +kernel) (by decide +kernel), mg 618 (by decide +kernel) (by decide +kernel), TX6, 3, rfl⟩
theorem lkk_RX7_262 : LkOK RX7 (262, 2, 6, 0, 4) := ⟨RX6, TX6, 3, rfl, (by decide +kernel), mg 203 (by decide +kernel) (by decide +kernel), rfl⟩
theorem lkk_RX7_266 : LkOK RX7 (266, 11, 0, 0, 0) := mg 620 (by decide +kernel) (by decide +kernel)
theorem lkk_RX7_272 : LkOK RX7 (272, 10, 0, 0, 0) := mg 627 (by decide +kernel) (by decide +kernel)
theorem lkk_RX7_277 : LkOK RX7 (277, 4, 152, 3, 0) := ⟨mg 628 (by decide +kernel) (by decide +kernel), mg 3 (by decide +kernel) (by decide +kernel), mg 629 (by decide +kernel) (by decide +kernel), mg 630 (by decide +kernel) (by decide +kernel), TX3, 3, rfl⟩
theorem lkk_RX7_280 : LkOK RX7 (280, 4, 31, 7, 0) := ⟨mg 636 (by decide +kernel) (by decide +kernel), mg 1 (by decide +kernel) (by decide +kernel), mg 638 (by decide +kernel) (by decide +kernel), mgs 10 (by decide +kernel) (by decide +kernel), TX7, 8, rfl⟩
theorem lkk_RX7_283 : LkOK RX7 (283, 8, 0, 0, 17) := mg 644 (by decide +kernel) (by decide +kernel)
theorem lkk_RX7_285 : LkOK RX7 (285, 4, 32, 7, 0) := ⟨mg 645 (by decide +kernel) (by decide +kernel), mg 1 (by decide +kernel) (by decide +kernel), mg 647 (by decide +kernel) (by decide +kernel), mgs 11 (by decide +kernel) (by decide +kernel), TX7, 8, rfl⟩
theorem lkk_RX7_289 : LkOK RX7 (289, 4, 33, 7, 0) := ⟨mg 653 (by decide +kernel) (by decide +kernel), mg 1 (by decide +kernel) (by decide +kernel), mg 655 (by decide +kernel) (by decide +kernel), mgs 12 (by decide +kernel) (by decide +kernel), TX7, 8, rfl⟩
theorem lkk_RX7_293 : LkOK RX7 (293, 4, 34, 7, 0) := ⟨mg 658 (by decide +kernel) (by decide +kernel), mg 1 (by decide +kernel) (by decide +kernel), mg 660 (by decide +kernel) (by decide +kernel), mgs 13 (by decide +kernel) (by decide +kernel), TX7, 8, rfl⟩
theorem lkk_RX7_296 : LkOK RX7 (296, 4, 35, 7, 0) := ⟨mg 663 (by decide +kernel) (by decide +kernel), mg 1 (by decide +kernel) (by decide +kernel), mg 665 (by decide +kernel) (by decide +kernel), mgs 14 (by decide +kernel) (by decide +kernel), TX7, 8, rfl⟩
theorem lkk_RX7_300 : LkOK RX7 (300, 4, 36, 7, 0) := ⟨mg 667 (by decide +kernel) (by decide +kernel), mg 1 (by decide +kernel) (by decide +kernel), mg 669 (by decide +kernel) (by decide +kernel), mgs 15 (by decide +kernel) (by decide +kernel), TX7, 8, rfl⟩
theorem lkk_RX7_303 : LkOK RX7 (303, 0, 0, 6, 0) := ⟨RX0, TX0, 12, rfl, (by decide +kernel), mg 163 (by decide +kernel) (by decide +kernel), rfl, (by decide +kernel), rfl⟩
theorem lkk_RX7_306 : LkOK RX7 (306, 3, 40, 0, 0) := ⟨mg 649 (by decide +kernel) (by decide +kernel), mg 1 (by decide +kernel) (by decide +kernel), mg 650 (by decide +kernel) (by decide +kernel)⟩
theorem lkk_RX7_310 : LkOK RX7 (310, 4, 6, 7, 0) := ⟨mg 657 (by decide +kernel) (by decide +kernel), mg 1 (by decide +kernel) (by decide +kernel), mg 339 (by decide +kernel) (by decide +kernel), mg 340 (by decide +kernel) (by decide +kernel), TX7, 8, rfl⟩
theorem lkk_RX7_313 : LkOK RX7 (313, 4, 13, 7, 0) := ⟨mg 662 (by decide +kernel) (by decide +kernel), mg 1 (by decide +kernel) (by decide +kernel), mg 449 (by decide +kernel) (by decide +kernel), mg 450 (by decide +kernel) (by decide +kernel), TX7, 8, rfl⟩
theorem lkk_RX7_53 : LkOK RX7 (53, 2, 7, 6, 18) := ⟨RX7, TX7, 8, rfl, (by decide +kernel), mg 221 (by decide +kernel) (by decide +kernel), rfl⟩
theorem lkk_RX7_316 : LkOK RX7 (316, 8, 0, 0, 31) := mg 652 (by decide +kernel) (by decide +kernel)
theorem lkk_RX8_63 : LkOK RX8 (63, 8, 0, 0, (-9223372036854775808)) := mg 894 (by decide +kernel) (by decide +kernel)
theorem lkk_RX8_65 : LkOK RX8 (65, 3, 44, 0, 0) := ⟨mg 779 (by decide +kernel) (by decide +kernel), mg 9 (by decide +kernel) (by decide +kernel), mg 780 (by decide +kernel) (by decide +kernel)⟩
theorem lkk_RX8_69 : LkOK RX8 (69, 0, 8, 4, 0) := ⟨RX8, TX8, 31, rfl, (by decide +kernel), mg 681 (by decide +kernel) (by decide +kernel), rfl, (by decide +kernel), rfl⟩
theorem lkk_RX8_72 : LkOK RX8 (72, 8, 0, 0, 3) := mg 778 (by decide +kernel) (by decide +kernel)
theorem lkk_RX8_7 : LkOK RX8 (7, 2, 8, 0, 1) := ⟨RX8, TX8, 31, rfl, (by decide +kernel), mg 677 (by decide +kernel) (by decide +kernel), rfl⟩
theorem lkk_RX8_13 : LkOK RX8 (13, 2, 8, 1, 2) := ⟨RX8, TX8, 31, rfl, (by decide +kernel), mg 678 (by decide +kernel) (by decide +kernel), rfl⟩
theorem lkk_RX8_16 : LkOK RX8 (16, 2, 8, 2, 3) := ⟨RX8, TX8, 31, rfl, (by decide +kernel), mg 679 (by decide +kernel) (by decide +kernel), rfl⟩
theorem lkk_RX8_74 : LkOK RX8 (74, 3, 50, 0, 0) := ⟨mg 775 (by decide +kernel) (by decide +kernel), mg 9 (by decide +kernel) (by decide +kernel), mg 776 (by decide +kernel) (by decide +kernel)⟩
theorem lkk_RX8_78 : LkOK RX8 (78, 8, 0, 0, 2) := mg 782 (by decide +kernel) (by decide +kernel)
theorem lkk_RX8_80 : LkOK RX8 (80, 4, 49, 8, 0) := ⟨mg 783 (by decide +kernel) (by decide +kernel), mg 9 (by decide +kernel) (by decide +kernel), mg 785 (by decide +kernel) (by decide +kernel), mgs 16 (by decide +kernel) (by decide +kernel), TX8, 31, rfl⟩
theorem lkk_RX8_84 : LkOK RX8 (84, 4, 53, 8, 0) := ⟨mg 795 (by decide +kernel) (by decide +kernel), mg 9 (by decide +kernel) (by decide +kernel), mg 797 (by decide +kernel) (by decide +kernel), mgs 17 (by decide +kernel) (by decide +kernel), TX8, 31, rfl⟩
theorem lkk_RX8_88 : LkOK RX8 (88, 3, 54, 0, 0) := ⟨mg 799 (by decide +kernel) (by decide +kernel), mg 9 (by decide +kernel) (by decide +kernel), mg 800 (by decide +kernel) (by decide +kernel)⟩
theorem lkk_RX8_92 : LkOK RX8 (92, 7, 0, 0, (-2147483648)) := mg 806 (by decide +kernel) (by decide +kernel)
theorem lkk_RX8_19 : LkOK RX8 (19, 2, 8, 3, 4) := ⟨RX8, TX8, 31, rfl, (by decide +kernel), mg 680 (by decide +kernel) (by decide +kernel), rfl⟩
theorem lkk_RX8_93 : LkOK RX8 (93, 0, 8, 5, 0) := ⟨RX8, TX8, 31, rfl, (by decide +kernel), mg 682 (by decide +kernel) (by decide +kernel), rfl, (by decide +kernel), rfl⟩
theorem lkk_RX8_96 : LkOK RX8 (96, 3, 59, 0, 0) := ⟨mg 888 (by decide +kernel) (by decide +kernel), mg 9 (by decide +kernel) (by decide +kernel), mg 889 (by decide +kernel) (by decide +kernel)⟩
theorem lkk_RX8_100 : LkOK RX8 (100, 8, 0, 0, (-1)) := mg 819 (by decide +kernel) (by decide +kernel)
theorem lkk_RX8_102 : LkOK RX8 (102, 8, 0, 0, 1048575) := mg 820 (by decide +kernel) (by decide +kernel)
theorem lkk_RX8_22 : LkOK RX8 (22, 2, 8, 6, 5) := ⟨RX8, TX8, 31, rfl, (by decide +kernel), mg 683 (by decide +kernel) (by decide +kernel), rfl⟩
theorem lkk_RX8_25 : LkOK RX8 (25, 2, 8, 7, 6) := ⟨RX8, TX8, 31, rfl, (by decide +kernel), mg 684 (by decide +kernel) (by decide +kernel), rfl⟩
theorem lkk_RX8_28 : LkOK RX8 (28, 2, 8, 8, 7) := ⟨RX8, TX8, 31, rfl, (by decide +kernel), mg 685 (by decide +kernel) (by decide +kernel), rfl⟩
theorem lkk_RX8_31 : LkOK RX8 (31, 2, 8, 9, 8) := ⟨RX8, TX8, 31, rfl, (by decide +kernel), mg 686 (by decide +kernel) (by decide +kernel), rfl⟩
theorem lkk_RX8_104 : LkOK RX8 (104, 4, 61, 8, 0) := ⟨mg 815 (by decide +kernel) (by decide +kernel), mg 9 (by decide +kernel) (by decide +kernel), mg 817 (by decide +kernel) (by decide +kernel), mgs 18 (by decide +kernel) (by decide +kernel), TX8, 31, rfl⟩
theorem lkk_RX8_108 : LkOK RX8 (108, 3, 48, 0, 0) := ⟨mg 821 (by decide +kernel) (by decide +kernel), mg 9 (by decide +kernel) (by decide +kernel), mg 822 (by decide +kernel) (by decide +kernel)⟩
theorem lkk_RX8_111 : LkOK RX8 (111, 0, 8, 10, 0) := ⟨RX8, TX8, 31, rfl, (by decide +kernel), mg 687 (by decide +kernel) (by decide +kernel), rfl, (by decide +kernel), rfl⟩
theorem lkk_RX8_114 : LkOK RX8 (114, 1, 8, 16, 0) := ⟨RX8, TX8, 31, rfl, (by decide +kernel), mg 693 (by decide +kernel) (by decide +kernel), rfl, (by decide +kernel), rfl⟩
theorem lkk_RX8_118 : LkOK RX8 (118, 1, 8, 17, 0) := ⟨RX8, TX8, 31, rfl, (by decide +kernel), mg 694 (by decide +kernel) (by decide +kernel), rfl, (by decide +kernel), rfl⟩
theorem lkk_RX8_121 : LkOK RX8 (121, 4, 62, 8, 0) := ⟨mg 832 (by decide +kernel) (by decide +kernel), mg 9 (by decide +kernel) (by decide +kernel), mg 812 (by decide +kernel) (by decide +kernel), mg 813 (by decide +kernel) (by decide +kernel), TX8, 31, rfl⟩
theorem lkk_RX8_34 : LkOK RX8 (34, 2, 8, 12, 9) := ⟨RX8, TX8, 31, rfl, (by decide +kernel), mg 689 (by decide +kernel) (by decide +kernel), rfl⟩
theorem lkk_RX8_124 : LkOK RX8 (124, 0, 8, 11, 0) := ⟨RX8, TX8, 31, rfl, (by decide +kernel), mg 688 (by decide +kernel) (by decide +kernel), rfl, (by decide +kernel), rfl⟩
theorem lkk_RX8_127 : LkOK RX8 (127, 8, 0, 0, 39) := mg 841 (by decide +kernel) (by decide +kernel)
theorem lkk_RX8_129 : LkOK RX8 (129, 4, 66, 8, 0) := ⟨mg 842 (by decide +kernel) (by decide +kernel), mg 9 (by decide +kernel) (by decide +kernel), mg 844 (by decide +kernel) (by decide +kernel), mgs 19 (by decide +kernel) (by decide +kernel), TX8, 31, rfl⟩
theorem lkk_RX8_56 : LkOK RX8 (56, 0, 8, 13, 0) := ⟨RX8, TX8, 31, rfl, (by decide +kernel), mg 690 (by decide +kernel) (by decide +kernel), rfl, (by decide +kernel), rfl⟩
theorem lkk_RX8_60 : LkOK RX8 (60, 0, 8, 14, 0) := ⟨RX8, TX8, 31, rfl, (by decide +kernel), mg 691 (by decide +kernel) (by decide +kernel), rfl, (by decide +kernel), rfl⟩
theorem lkk_RX8_132 : LkOK RX8 (132, 0, 8, 15, 0) := ⟨RX8, TX8, 31, rfl, (by decide +kernel), mg 692 (by decide +kernel) (by decide +kernel), rfl, (by decide +kernel), rfl⟩
theorem lkk_RX8_135 : LkOK RX8 (135, 8, 0, 0, 10) := mg 850 (by decide +kernel) (by decide +kernel)
theorem lkk_RX8_137 : LkOK RX8 (137, 8, 0, 0, 8) := mg 851 (by decide +kernel) (by decide +kernel)
theorem lkk_RX8_139 : LkOK RX8 (139, 3, 46, 0, 0) := ⟨mg 852 (by decide +kernel) (by decide +kernel), mg 9 (by decide +kernel) (by decide +kernel), mg 853 (by decide +kernel) (by decide +kernel)⟩
theorem lkk_RX8_142 : LkOK RX8 (142, 4, 69, 8, 0) := ⟨mg 868 (by decide +kernel) (by decide +kernel), mg 9 (by decide +kernel) (by decide +kernel), mg 870 (by decide +kernel) (by decide +kernel), mgs 22 (by decide +kernel) (by decide +kernel), TX8, 31, rfl⟩
theorem lkk_RX8_145 : LkOK RX8 (145, 4, 70, 8, 0) := ⟨mg 872 (by decide +kernel) (by decide +kernel), mg 9 (by decide +kernel) (by decide +kernel), mg 874 (by decide +kernel) (by decide +kernel), mgs 23 (by decide +kernel) (by decide +kernel), TX8, 31, rfl⟩
theorem lkk_RX8_148 : LkOK RX8 (148, 4, 58, 8, 0) := ⟨mg 859 (by decide +kernel) (by decide +kernel), mg 9 (by decide +kernel) (by decide +kernel), mg 861 (by decide +kernel) (by decide +kernel), mgs 20 (by decide +kernel) (by decide +kernel), TX8, 31, rfl⟩
theorem lkk_RX8_151 : LkOK RX8 (151, 8, 0, 0, 5) := mg 863 (by decide +kernel) (by decide +kernel)
theorem lkk_RX8_153 : LkOK RX8 (153, 4, 71, 8, 0) := ⟨mg 864 (by decide +kernel) (by decide +kernel), mg 9 (by decide +kernel) (by decide +kernel), mg 866 (by decide +kernel) (by decide +kernel), mgs 21 (by decide +kernel) (by decide +kernel), TX8, 31, rfl⟩
theorem lkk_RX8_156 : LkOK RX8 (156, 4, 73, 8, 0) := ⟨mg 884 (by decide +kernel) (by decide +kernel), mg 9 (by decide +kernel) (by decide +kernel), mg 886 (by decide +kernel) (by decide +kernel), mgs 25 (by decide +kernel) (by decide +kernel), TX8, 31, rfl⟩
theorem lkk_RX8_159 : LkOK RX8 (159, 4, 74, 8, 0) := ⟨mg 880 (by decide +kernel) (by decide +kernel), mg 9 (by decide +kernel) (by decide +kernel), mg 882 (by decide +kernel) (by decide +kernel), mgs 24 (by decide +kernel) (by decide +kernel), TX8, 31, rfl⟩
theorem lkk_RX8_163 : LkOK RX8 (163, 3, 45, 0, 0) := ⟨mg 891 (by decide +kernel) (by decide +kernel), mg 9 (by decide +kernel) (by decide +kernel), mg 892 (by decide +kernel) (by decide +kernel)⟩
theorem lkk_RX8_37 : LkOK RX8 (37, 2, 8, 18, 10) := ⟨RX8, TX8, 31, rfl, (by decide +kernel), mg 695 (by decide +kernel) (by decide +kernel), rfl⟩
theorem lkk_RX8_166 : LkOK RX8 (166, 4, 76, 8, 0) := ⟨mg 907 (by decide +kernel) (by decide +kernel), mg 9 (by decide +kernel) (by decide +kernel), mg 909 (by decide +kernel) (by decide +kernel), mgs 28 (by decide +kernel) (by decide +kernel), TX8, 31, rfl⟩
theorem lkk_RX8_170 : LkOK RX8 (170, 4, 77, 8, 0) := ⟨mg 903 (by decide +kernel) (by decide +kernel), mg 9 (by decide +kernel) (by decide +kernel), mg 905 (by decide +kernel) (by decide +kernel), mgs 27 (by decide +kernel) (by decide +kernel), TX8, 31, rfl⟩
theorem lkk_RX8_173 : LkOK RX8 (173, 4, 78, 8, 0) := ⟨mg 899 (by decide +kernel) (by decide +kernel), mg 9 (by decide +kernel) (by decide +kernel), mg 901 (by decide +kernel) (by decide +kernel), mgs 26 (by decide +kernel) (by decide +kernel), TX8, 31, rfl⟩
theorem lkk_RX8_176 : LkOK RX8 (176, 0, 8, 19, 0) := ⟨RX8, TX8, 31, rfl, (by decide +kernel), mg 696 (by decide +kernel) (by decide +kernel), rfl, (by decide +kernel), rfl⟩
theorem lkk_RX8_179 : LkOK RX8 (179, 4, 80, 8, 0) := ⟨mg 915 (by decide +kernel) (by decide +kernel), mg 9 (by decide +kernel) (by decide +kernel), mg 917 (by decide +kernel) (by decide +kernel), mgs 29 (by decide +kernel) (by decide +kernel), TX8, 31, rfl⟩
theorem lkk_RX8_183 : LkOK RX8 (183, 4, 82, 8, 0) := ⟨mg 923 (by decide +kernel) (by decide +kernel), mg 9 (by decide +kernel) (by decide +kernel), mg 925 (by decide +kernel) (by decide +kernel), mgs 30 (by decide +kernel) (by decide +kernel), TX8, 31, rfl⟩
theorem lkk_RX8_40 : LkOK RX8 (40, 2, 8, 20, 11) := ⟨RX8, TX8, 31, rfl, (by decide +kernel), mg 697 (by decide +kernel) (by decide +kernel), rfl⟩
theorem lkk_RX8_44 : LkOK RX8 (44, 2, 8, 21, 12) := ⟨RX8, TX8, 31, rfl, (by decide +kernel), mg 698 (by decide +kernel) (by decide +kernel), rfl⟩
theorem lkk_RX8_186 : LkOK RX8 (186, 3, 47, 0, 0) := ⟨mg 939 (by decide +kernel) (by decide +kernel), mg 9 (by decide +kernel) (by decide +kernel), mg 940 (by decide +kernel) (by decide +kernel)⟩
theorem lkk_RX8_189 : LkOK RX8 (189, 4, 84, 8, 0) := ⟨mg 935 (by decide +kernel) (by decide +kernel), mg 9 (by decide +kernel) (by decide +kernel), mg 937 (by decide +kernel) (by decide +kernel), mgs 32 (by decide +kernel) (by decide +kernel), TX8, 31, rfl⟩
theorem lkk_RX8_193 : LkOK RX8 (193, 4, 85, 8, 0) := ⟨mg 931 (by decide +kernel) (by decide +kernel), mg 9 (by decide +kernel) (by decide +kernel), mg 933 (by decide +kernel) (by decide +kernel), mgs 31 (by decide +kernel) (by decide +kernel), TX8, 31, rfl⟩
theorem lkk_RX8_196 : LkOK RX8 (196, 4, 87, 8, 0) := ⟨mg 946 (by decide +kernel) (by decide +kernel), mg 9 (by decide +kernel) (by decide +kernel), mg 948 (by decide +kernel) (by decide +kernel), mgs 33 (by decide +kernel) (by decide +kernel), TX8, 31, rfl⟩
theorem lkk_RX8_199 : LkOK RX8 (199, 4, 89, 8, 0) := ⟨mg 958 (by decide +kernel) (by decide +kernel), mg 9 (by decide +kernel) (by decide +kernel), mg 960 (by decide +kernel) (by decide +kernel), mgs 35 (by decide +kernel) (by decide +kernel), TX8, 31, rfl⟩
theorem lkk_RX8_202 : LkOK RX8 (202, 4, 90, 8, 0) := ⟨mg 962 (by decide +kernel) (by decide +kernel), mg 9 (by decide +kernel) (by decide +kernel), mg 964 (by decide +kernel) (by decide +kernel), mgs 36 (by decide +kernel) (by decide +kernel), TX8, 31, rfl⟩
theorem lkk_RX8_205 : LkOK RX8 (205, 3, 60, 0, 0) := ⟨mg 970 (by decide +kernel) (by decide +kernel), mg 9 (by decide +kernel) (by decide +kernel), mg 971 (by decide +kernel) (by decide +kernel)⟩
theorem lkk_RX8_208 : LkOK RX8 (208, 4, 91, 8, 0) := ⟨mg 966 (by decide +kernel) (by decide +kernel), mg 9 (by decide +kernel) (by decide +kernel), mg 968 (by decide +kernel) (by decide +kernel), mgs 37 (by decide +kernel) (by decide +kernel), TX8, 31, rfl⟩
theorem lkk_RX8_211 : LkOK RX8 (211, 4, 92, 8, 0) := ⟨mg 973 (by decide +kernel) (by decide +kernel), mg 9 (by decide +kernel) (by decide +kernel), mg 975 (by decide +kernel) (by decide +kernel), mgs 38 (by decide +kernel) (by decide +kernel), TX8, 31, rfl⟩
theorem lkk_RX8_214 : LkOK RX8 (214, 4, 93, 8, 0) := ⟨mg 954 (by decide +kernel) (by decide +kernel), mg 9 (by decide +kernel) (by decide +kernel), mg 956 (by decide +kernel) (by decide +kernel), mgs 34 (by decide +kernel) (by decide +kernel), TX8, 31, rfl⟩
theorem lkk_RX8_217 : LkOK RX8 (217, 4, 95, 8, 0) := ⟨mg 981 (by decide +kernel) (by decide +kernel), mg 9 (by decide +kernel) (by decide +kernel), mg 983 (by decide +kernel) (by decide +kernel), mgs 39 (by decide +kernel) (by decide +kernel), TX8, 31, rfl⟩
theorem lkk_RX8_220 : LkOK RX8 (220, 1, 8, 29, 0) := ⟨RX8, TX8, 31, rfl, (by decide +kernel), mg 706 (by decide +kernel) (by decide +kernel), rfl, (by decide +kernel), rfl⟩
theorem lkk_RX8_47 : LkOK RX8 (47, 2, 8, 24, 13) := ⟨RX8, TX8, 31, rfl, (by decide +kernel), mg 701 (by decide +kernel) (by decide +kernel), rfl⟩
theorem lkk_RX8_50 : LkOK RX8 (50, 2, 8, 25, 14) := ⟨RX8, TX8, 31, rfl, (by decide +kernel), mg 702 (by decide +kernel) (by decide +kernel), rfl⟩
theorem lkk_RX8_223 : LkOK RX8 (223, 1, 8, 28, 0) := ⟨RX8, TX8, 31, rfl, (by decide +kernel), mg 705 (by decide +kernel) (by decide +kernel), rfl, (by decide +kernel), rfl⟩
theorem lkk_RX8_226 : LkOK RX8 (226, 1, 8, 27, 0) := ⟨RX8, TX8, 31, rfl, (by decide +kernel), mg 704 (by decide +kernel) (by decide +kernel), rfl, (by decide +kernel), rfl⟩
theorem lkk_RX8_229 : LkOK RX8 (229, 1, 8, 30, 0) := ⟨RX8, TX8, 31, rfl, (by decide +kernel), mg 707 (by decide +kernel) (by decide +kernel), rfl, (by decide +kernel), rfl⟩
theorem lkk_RX8_53 : LkOK RX8 (53, 2, 8, 26, 15) := ⟨RX8, TX8, 31, rfl, (by decide +kernel), mg 703 (by decide +kernel) (by decide +kernel), rfl⟩
theorem lkk_RX8_232 : LkOK RX8 (232, 0, 8, 22, 0) := ⟨RX8, TX8, 31, rfl, (by decide +kernel), mg 699 (by decide +kernel) (by decide +kernel), rfl, (by decide +kernel), rfl⟩
theorem lkk_RX8_235 : LkOK RX8 (235, 0, 8, 23, 0) := ⟨RX8, TX8, 31, rfl, (by decide +kernel), mg 700 (by decide +kernel) (by decide +kernel), rfl, (by decide +kernel), rfl⟩
theorem lkk_RX8_238 : LkOK RX8 (238, 4, 100, 8, 0) := ⟨mg 1005 (by decide +kernel) (by decide +kernel), mg 9 (by decide +kernel) (by decide +kernel), mg 1007 (by decide +kernel) (by decide +kernel), mgs 41 (by decide +kernel) (by decide +kernel), TX8, 31, rfl⟩
theorem lkk_RX8_242 : LkOK RX8 (242, 4, 101, 8, 0) := ⟨mg 1009 (by decide +kernel) (by decide +kernel), mg 9 (by decide +kernel) (by decide +kernel), mg 1011 (by decide +kernel) (by decide +kernel), mgs 42 (by decide +kernel) (by decide +kernel), TX8, 31, rfl⟩
theorem lkk_RX8_246 : LkOK RX8 (246, 4, 102, 8, 0) := ⟨mg 1013 (by decide +kernel) (by decide +kernel), mg 9 (by decide +kernel) (by decide +kernel), mg 1015 (by decide +kernel) (by decide +kernel), mgs 43 (by decide +kernel) (by decide +kernel), TX8, 31, rfl⟩
theorem lkk_RX8_250 : LkOK RX8 (250, 4, 103, 8, 0) := ⟨mg 1017 (by decide +kernel) (by decide +kernel), mg 9 (by decide +kernel) (by decide +kernel), mg 1019 (by decide +kernel) (by decide +kernel), mgs 44 (by decide +kernel) (by decide +kernel), TX8, 31, rfl⟩
theorem lkk_RX8_253 : LkOK RX8 (253, 4, 104, 8, 0) := ⟨mg 1021 (by decide +kernel) (by decide +kernel), mg 9 (by decide +kernel) (by decide +kernel), mg 1023 (by decide +kernel) (by decide +kernel), mgs 45 (by decide +kernel) (by decide +kernel), TX8, 31, rfl⟩
theorem lkk_RX8_257 : LkOK RX8 (257, 4, 105, 8, 0) := ⟨mg 1001 (by decide +kernel) (by decide +kernel), mg 9 (by decide +kernel) (by decide +kernel), mg 1003 (by decide +kernel) (by decide +kernel), mgs 40 (by decide +kernel) (by decide +kernel), TX8, 31, rfl⟩
theorem lkk_RX8_260 : LkOK RX8 (260, 8, 0, 0, 4) := mg 1025 (by decide +kernel) (by decide +kernel)
theorem lkk_RX8_262 : LkOK RX8 (262, 4, 106, 8, 0) := ⟨mg 1026 (by decide +kernel) (by decide +kernel), mg 9 (by decide +kernel) (by decide +kernel), mg 1028 (by decide +kernel) (by decide +kernel), mgs 46 (by decide +kernel) (by decide +kernel), TX8, 31, rfl⟩
theorem lkk_RX8_265 : LkOK RX8 (265, 4, 109, 8, 0) := ⟨mg 1038 (by decide +kernel) (by decide +kernel), mg 9 (by decide +kernel) (by decide +kernel), mg 1040 (by decide +kernel) (by decide +kernel), mgs 47 (by decide +kernel) (by decide +kernel), TX8, 31, rfl⟩
theorem lkk_RX8_268 : LkOK RX8 (268, 4, 111, 8, 0) := ⟨mg 1046 (by decide +kernel) (by decide +kernel), mg 9 (by decide +kernel) (by decide +kernel), mg 1048 (by decide +kernel) (by decide +kernel), mgs 48 (by decide +kernel) (by decide +kernel), TX8, 31, rfl⟩
theorem lkk_RX8_271 : LkOK RX8 (271, 8, 0, 0, 31) := mg 1063 (by decide +kernel) (by decide +kernel)
theorem lkk_RX8_273 : LkOK RX8 (273, 8, 0, 0, 17) := mg 1062 (by decide +kernel) (by decide +kernel)
theorem lkk_RX8_275 : LkOK RX8 (275, 4, 114, 8, 0) := ⟨mg 1064 (by decide +kernel) (by decide +kernel), mg 9 (by decide +kernel) (by decide +kernel), mg 1055 (by decide +kernel) (by decide +kernel), mg 1056 (by decide +kernel) (by decide +kernel), TX8, 31, rfl⟩
theorem lkk_RX8_278 : LkOK RX8 (278, 4, 115, 8, 0) := ⟨mg 1065 (by decide +kernel) (by decide +kernel), mg 9 (by decide +kernel) (by decide +kernel), mg 1067 (by decide +kernel) (by decide +kernel), mgs 49 (by decide +kernel) (by decide +kernel), TX8, 31, rfl⟩
theorem lkk_RX0_22 : LkOK RX0 (22, 1, 0, 0, 0) := ⟨RX0, TX0, 12, rfl, (by decide +kernel), mg 152 (by decide +kernel) (by decide +kernel), rfl, (by decide +kernel), rfl⟩
theorem lkk_RX0_26 : LkOK RX0 (26, 5, 41, 0, 0) := ⟨List.mem_of_getElem? (i := 8) rfl, mg 1 (by decide +kernel) (by decide +kernel), mg 270 (by decide +kernel) (by decide +kernel)⟩
theorem lkk_RX0_30 : LkOK RX0 (30, 8, 0, 0, (-1)) := mg 289 (by decide +kernel) (by decide +kernel)
theorem lkk_RX0_32 : LkOK RX0 (32, 1, 0, 1, 0) := ⟨RX0, TX0, 12, rfl, (by decide +kernel), mg 154 (by decide +kernel) (by decide +kernel), rfl, (by decide +kernel), rfl⟩
theorem lkk_RX0_35 : LkOK RX0 (35, 4, 140, 1, 0) := ⟨mg 518 (by decide +kernel) (by decide +kernel), mg 2 (by decide +kernel) (by decide +kernel), mg 519 (by decide +kernel) (by decide +kernel), mg 520 (by decide +kernel) (by decide +kernel), TX1, 9, rfl⟩
theorem lkk_RX0_41 : LkOK RX0 (41, 1, 0, 11, 0) := ⟨RX0, TX0, 12, rfl, (by decide +kernel), mg 169 (by decide +kernel) (by decide +kernel), rfl, (by decide +kernel), rfl⟩
theorem lkk_RX0_44 : LkOK RX0 (44, 4, 141, 1, 0) := ⟨mg 522 (by decide +kernel) (by decide +kernel), mg 2 (by decide +kernel) (by decide +kernel), mg 523 (by decide +kernel) (by decide +kernel), mg 524 (by decide +kernel) (by decide +kernel), TX1, 9, rfl⟩
theorem lkk_RX0_47 : LkOK RX0 (47, 1, 0, 8, 0) := ⟨RX0, TX0, 12, rfl, (by decide +kernel), mg 166 (by decide +kernel) (by decide +kernel), rfl, (by decide +kernel), rfl⟩
theorem lkk_RX0_50 : LkOK RX0 (50, 1, 0, 9, 0) := ⟨RX0, TX0, 12, rfl, (by decide +kernel), mg 167 (by decide +kernel) (by decide +kernel), rfl, (by decide +kernel), rfl⟩
theorem lkk_RX0_53 : LkOK RX0 (53, 1, 0, 10, 0) := ⟨RX0, TX0, 12, rfl, (by decide +kernel), mg 168 (by decide +kernel) (by decide +kernel), rfl, (by decide +kernel), rfl⟩
theorem lkk_RX0_56 : LkOK RX0 (56, 0, 0, 6, 0) := ⟨RX0, TX0, 12, rfl, (by decide +kernel), mg 162 (by decide +kernel) (by decide +kernel), rfl, (by decide +kernel), rfl⟩
theorem lkk_RX0_59 : LkOK RX0 (59, 0, 0, 7, 0) := ⟨RX0, TX0, 12, rfl, (by decide +kernel), mg 164 (by decide +kernel) (by decide +kernel), rfl, (by decide +kernel), rfl⟩
theorem lkk_RX0_62 : LkOK RX0 (62, 4, 119, 0, 0) := ⟨mg 527 (by decide +kernel) (by decide +kernel), mg 7 (by decide +kernel) (by decide +kernel), mg 529 (by decide +kernel) (by decide +kernel), mgs 6 (by decide +kernel) (by decide +kernel), TX0, 12, rfl⟩
theorem lkk_RX0_66 : LkOK RX0 (66, 4, 120, 0, 0) := ⟨mg 536 (by decide +kernel) (by decide +kernel), mg 7 (by decide +kernel) (by decide +kernel), mg 538 (by decide +kernel) (by decide +kernel), mgs 7 (by decide +kernel) (by decide +kernel), TX0, 12, rfl⟩
theorem lkk_RX0_70 : LkOK RX0 (70, 0, 0, 3, 0) := ⟨RX0, TX0, 12, rfl, (by decide +kernel), mg 158 (by decide +kernel) (by decide +kernel), rfl, (by decide +kernel), rfl⟩
theorem lkk_RX0_73 : LkOK RX0 (73, 4, 121, 0, 0) := ⟨mg 542 (by decide +kernel) (by decide +kernel), mg 7 (by decide +kernel) (by decide +kernel), mg 544 (by decide +kernel) (by decide +kernel), mgs 8 (by decide +kernel) (by decide +kernel), TX0, 12, rfl⟩
theorem lkk_RX0_9 : LkOK RX0 (9, 0, 0, 2, 0) := ⟨RX0, TX0, 12, rfl, (by decide +kernel), mg 156 (by decide +kernel) (by decide +kernel), rfl, (by decide +kernel), rfl⟩
theorem lkk_RX0_15 : LkOK RX0 (15, 2, 0, 4, 1) := ⟨RX0, TX0, 12, rfl, (by decide +kernel), mg 160 (by decide +kernel) (by decide +kernel), rfl⟩
theorem lkk_RX0_19 : LkOK RX0 (19, 2, 0, 5, 2) := ⟨RX0, TX0, 12, rfl, (by decide +kernel), mg 161 (by decide +kernel) (by decide +kernel), rfl⟩
theorem lkk_RX0_77 : LkOK RX0 (77, 4, 145, 1, 0) := ⟨mg 531 (by decide +kernel) (by decide +kernel), mg 2 (by decide +kernel) (by decide +kernel), mg 532 (by decide +kernel) (by decide +kernel), mg 533 (by decide +kernel) (by decide +kernel), TX1, 9, rfl⟩
theorem lkk_RX0_81 : LkOK RX0 (81, 5, 42, 0, 0) := ⟨List.mem_of_getElem? (i := 16) rfl, mg 1 (by decide +kernel) (by decide +kernel), mg 362 (by decide +kernel) (by decide +kernel)⟩
theorem lkk_RX0_85 : LkOK RX0 (85, 4, 139, 1, 0) := ⟨mg 540 (by decide +kernel) (by decide +kernel), mg 2 (by decide +kernel) (by decide +kernel), mg 273 (by decide +kernel) (by decide +kernel), mg 274 (by decide +kernel) (by decide +kernel), TX1, 9, rfl⟩
theorem lkk_RX0_88 : LkOK RX0 (88, 4, 135, 1, 0) := ⟨mg 541 (by decide +kernel) (by decide +kernel), mg 2 (by decide +kernel) (by decide +kernel), mg 369 (by decide +kernel) (by decide +kernel), mg 370 (by decide +kernel) (by decide +kernel), TX1, 9, rfl⟩
theorem lkk_RX0_91 : LkOK RX0 (91, 0, 1, 6, 0) := ⟨RX1, TX1, 9, rfl, (by decide +kernel), mg 36 (by decide +kernel) (by decide +kernel), rfl, (by decide +kernel), rfl⟩
theorem lkk_RX0_94 : LkOK RX0 (94, 4, 142, 1, 0) := ⟨mg 570 (by decide +kernel) (by decide +kernel), mg 2 (by decide +kernel) (by decide +kernel), mg 358 (by decide +kernel) (by decide +kernel), mg 359 (by decide +kernel) (by decide +kernel), TX1, 9, rfl⟩
theorem lkk_RX1_31 : LkOK RX1 (31, 0, 1, 6, 0) := ⟨RX1, TX1, 9, rfl, (by decide +kernel), mg 33 (by decide +kernel) (by decide +kernel), rfl, (by decide +kernel), rfl⟩
theorem lkk_RX1_35 : LkOK RX1 (35, 7, 0, 0, 1048575) := mg 248 (by decide +kernel) (by decide +kernel)
theorem lkk_RX1_36 : LkOK RX1 (36, 4, 125, 1, 0) := ⟨mg 249 (by decide +kernel) (by decide +kernel), mg 2 (by decide +kernel) (by decide +kernel), mg 250 (by decide +kernel) (by decide +kernel), mg 251 (by decide +kernel) (by decide +kernel), TX1, 9, rfl⟩
theorem lkk_RX1_9 : LkOK RX1 (9, 2, 1, 0, 1) := ⟨RX1, TX1, 9, rfl, (by decide +kernel), mg 27 (by decide +kernel) (by decide +kernel), rfl⟩
theorem lkk_RX1_15 : LkOK RX1 (15, 2, 1, 1, 2) := ⟨RX1, TX1, 9, rfl, (by decide +kernel), mg 28 (by decide +kernel) (by decide +kernel), rfl⟩
theorem lkk_RX1_18 : LkOK RX1 (18, 2, 1, 2, 3) := ⟨RX1, TX1, 9, rfl, (by decide +kernel), mg 29 (by decide +kernel) (by decide +kernel), rfl⟩
theorem lkk_RX1_21 : LkOK RX1 (21, 2, 1, 3, 4) := ⟨RX1, TX1, 9, rfl, (by decide +kernel), mg 30 (by decide +kernel) (by decide +kernel), rfl⟩
theorem lkk_RX1_24 : LkOK RX1 (24, 2, 1, 4, 5) := ⟨RX1, TX1, 9, rfl, (by decide +kernel), mg 31 (by decide +kernel) (by decide +kernel), rfl⟩
theorem lkk_RX1_40 : LkOK RX1 (40, 4, 126, 1, 0) := ⟨mg 261 (by decide +kernel) (by decide +kernel), mg 2 (by decide +kernel) (by decide +kernel), mg 254 (by decide +kernel) (by decide +kernel), mg 255 (by decide +kernel) (by decide +kernel), TX1, 9, rfl⟩
theorem lkk_RX1_44 : LkOK RX1 (44, 4, 137, 1, 0) := ⟨mg 262 (by decide +kernel) (by decide +kernel), mg 2 (by decide +kernel) (by decide +kernel), mg 263 (by decide +kernel) (by decide +kernel), mg 264 (by decide +kernel) (by decide +kernel), TX1, 9, rfl⟩
theorem lkk_RX1_48 : LkOK RX1 (48, 9, 0, 0, 0) := mg 266 (by decide +kernel) (by decide +kernel)
theorem lkk_RX1_54 : LkOK RX1 (54, 5, 41, 0, 0) := ⟨List.mem_of_getElem? (i := 7) rfl, mg 1 (by decide +kernel) (by decide +kernel), mg 270 (by decide +kernel) (by decide +kernel)⟩
theorem lkk_RX1_58 : LkOK RX1 (58, 4, 139, 1, 0) := ⟨mg 272 (by decide +kernel) (by decide +kernel), mg 2 (by decide +kernel) (by decide +kernel), mg 273 (by decide +kernel) (by decide +kernel), mg 274 (by decide +kernel) (by decide +kernel), TX1, 9, rfl⟩
theorem lkk_RX1_61 : LkOK RX1 (61, 0, 1, 7, 0) := ⟨RX1, TX1, 9, rfl, (by decide +kernel), mg 38 (by decide +kernel) (by decide +kernel), rfl, (by decide +kernel), rfl⟩
theorem lkk_RX1_28 : LkOK RX1 (28, 2, 1, 5, 6) := ⟨RX1, TX1, 9, rfl, (by decide +kernel), mg 32 (by decide +kernel) (by decide +kernel), rfl⟩
theorem lkk_RX1_64 : LkOK RX1 (64, 0, 1, 8, 0) := ⟨RX1, TX1, 9, rfl, (by decide +kernel), mg 40 (by decide +kernel) (by decide +kernel), rfl, (by decide +kernel), rfl⟩
theorem lkk_RX1_67 : LkOK RX1 (67, 4, 131, 1, 0) := ⟨mg 322 (by decide +kernel) (by decide +kernel), mg 2 (by decide +kernel) (by decide +kernel), mg 324 (by decide +kernel) (by decide +kernel), mgs 2 (by decide +kernel) (by decide +kernel), TX1, 9, rfl⟩
theorem lkk_RX1_70 : LkOK RX1 (70, 4, 133, 1, 0) := ⟨mg 372 (by decide +kernel) (by decide +kernel), mg 2 (by decide +kernel) (by decide +kernel), mg 344 (by decide +kernel) (by decide +kernel), mg 345 (by decide +kernel) (by decide +kernel), TX1, 9, rfl⟩
theorem lkk_RX1_73 : LkOK RX1 (73, 4, 134, 1, 0) := ⟨mg 373 (by decide +kernel) (by decide +kernel), mg 2 (by decide +kernel) (by decide +kernel), mg 348 (by decide +kernel) (by decide +kernel), mg 349 (by decide +kernel) (by decide +kernel), TX1, 9, rfl⟩
theorem lkk_RX1_76 : LkOK RX1 (76, 4, 135, 1, 0) := ⟨mg 368 (by decide +kernel) (by decide +kernel), mg 2 (by decide +kernel) (by decide +kernel), mg 369 (by decide +kernel) (by decide +kernel), mg 370 (by decide +kernel) (by decide +kernel), TX1, 9, rfl⟩
theorem lkk_RX1_79 : LkOK RX1 (79, 5, 42, 0, 0) := ⟨List.mem_of_getElem? (i := 9) rfl, mg 1 (by decide +kernel) (by decide +kernel), mg 362 (by decide +kernel) (by decide +kernel)⟩
theorem lkk_RX1_83 : LkOK RX1 (83, 8, 0, 0, (-1)) := mg 526 (by decide +kernel) (by decide +kernel)
theorem lkk_RX1_85 : LkOK RX1 (85, 4, 138, 1, 0) := ⟨mg 394 (by decide +kernel) (by decide +kernel), mg 2 (by decide +kernel) (by decide +kernel), mg 353 (by decide +kernel) (by decide +kernel), mg 354 (by decide +kernel) (by decide +kernel), TX1, 9, rfl⟩
theorem lkk_RX2_9 : LkOK RX2 (9, 0, 2, 0, 0) := ⟨RX2, TX2, 4, rfl, (by decide +kernel), mg 129 (by decide +kernel) (by decide +kernel), rfl, (by decide +kernel), rfl⟩
theorem lkk_RX2_15 : LkOK RX2 (15, 4, 146, 2, 0) := ⟨mg 460 (by decide +kernel) (by decide +kernel), mg 6 (by decide +kernel) (by decide +kernel), mg 453 (by decide +kernel) (by decide +kernel), mg 454 (by decide +kernel) (by decide +kernel), TX2, 4, rfl⟩
theorem lkk_RX2_19 : LkOK RX2 (19, 4, 139, 1, 0) := ⟨mg 461 (by decide +kernel) (by decide +kernel), mg 2 (by decide +kernel) (by decide +kernel), mg 273 (by decide +kernel) (by decide +kernel), mg 274 (by decide +kernel) (by decide +kernel), TX1, 9, rfl⟩
theorem lkk_RX2_25 : LkOK RX2 (25, 5, 42, 0, 0) := ⟨List.mem_of_getElem? (i := 13) rfl, mg 1 (by decide +kernel) (by decide +kernel), mg 362 (by decide +kernel) (by decide +kernel)⟩
theorem lkk_RX2_29 : LkOK RX2 (29, 4, 147, 2, 0) := ⟨mg 467 (by decide +kernel) (by decide +kernel), mg 6 (by decide +kernel) (by decide +kernel), mg 457 (by decide +kernel) (by decide +kernel), mg 458 (by decide +kernel) (by decide +kernel), TX2, 4, rfl⟩
theorem lkk_RX2_33 : LkOK RX2 (33, 8, 0, 0, (-1)) := mg 468 (by decide +kernel) (by decide +kernel)
theorem lkk_RX2_35 : LkOK RX2 (35, 3, 167, 0, 0) := ⟨mg 469 (by decide +kernel) (by decide +kernel), mg 11 (by decide +kernel) (by decide +kernel), mg 470 (by decide +kernel) (by decide +kernel)⟩
theorem lkk_RX2_41 : LkOK RX2 (41, 0, 2, 1, 0) := ⟨RX2, TX2, 4, rfl, (by decide +kernel), mg 131 (by decide +kernel) (by decide +kernel), rfl, (by decide +kernel), rfl⟩
theorem lkk_RX2_44 : LkOK RX2 (44, 0, 2, 2, 0) := ⟨RX2, TX2, 4, rfl, (by decide +kernel), mg 133 (by decide +kernel) (by decide +kernel), rfl, (by decide +kernel), rfl⟩
theorem lkk_RX2_47 : LkOK RX2 (47, 1, 2, 3, 0) := ⟨RX2, TX2, 4, rfl, (by decide +kernel), mg 135 (by decide +kernel) (by decide +kernel), rfl, (by decide +kernel), rfl⟩
theorem lkk_RX2_51 : LkOK RX2 (51, 5, 41, 0, 0) := ⟨List.mem_of_getElem? (i := 14) rfl, mg 1 (by decide +kernel) (by decide +kernel), mg 270 (by decide +kernel) (by decide +kernel)⟩
theorem lkk_RX2_54 : LkOK RX2 (54, 5, 43, 0, 0) := ⟨List.mem_of_getElem? (i := 15) rfl, mg 1 (by decide +kernel) (by decide +kernel), mg 489 (by decide +kernel) (by decide +kernel)⟩
theorem lkk_RX2_57 : LkOK RX2 (57, 4, 135, 1, 0) := ⟨mg 492 (by decide +kernel) (by decide +kernel), mg 2 (by decide +kernel) (by decide +kernel), mg 369 (by decide +kernel) (by decide +kernel), mg 370 (by decide +kernel) (by decide +kernel), TX1, 9, rfl⟩
theorem lkk_RX3_9 : LkOK RX3 (9, 2, 3, 0, 1) := ⟨RX3, TX3, 3, rfl, (by decide +kernel), mg 68 (by decide +kernel) (by decide +kernel), rfl⟩
theorem lkk_RX3_15 : LkOK RX3 (15, 0, 3, 1, 0) := ⟨RX3, TX3, 3, rfl, (by decide +kernel), mg 69 (by decide +kernel) (by decide +kernel), rfl, (by decide +kernel), rfl⟩
theorem lkk_RX3_19 : LkOK RX3 (19, 12, 3, 2, 0) := ⟨RX3, TX3, 3, rfl, (by decide +kernel), mg 71 (by decide +kernel) (by decide +kernel), rfl, (by decide +kernel), rfl⟩
theorem lkk_RX3_23 : LkOK RX3 (23, 8, 0, 0, (-1)) := mg 388 (by decide +kernel) (by decide +kernel)
theorem lkk_RX3_25 : LkOK RX3 (25, 4, 138, 1, 0) := ⟨mg 389 (by decide +kernel) (by decide +kernel), mg 2 (by decide +kernel) (by decide +kernel), mg 353 (by decide +kernel) (by decide +kernel), mg 354 (by decide +kernel) (by decide +kernel), TX1, 9, rfl⟩
theorem lkk_RX3_31 : LkOK RX3 (31, 4, 143, 1, 0) := ⟨mg 390 (by decide +kernel) (by decide +kernel), mg 2 (by decide +kernel) (by decide +kernel), mg 391 (by decide +kernel) (by decide +kernel), mg 392 (by decide +kernel) (by decide +kernel), TX1, 9, rfl⟩
theorem lkk_RX3_35 : LkOK RX3 (35, 5, 41, 0, 0) := ⟨List.mem_of_getElem? (i := 10) rfl, mg 1 (by decide +kernel) (by decide +kernel), mg 270 (by decide +kernel) (by decide +kernel)⟩
theorem lkk_RX3_38 : LkOK RX3 (38, 4, 144, 1, 0) := ⟨mg 396 (by decide +kernel) (by decide +kernel), mg 2 (by decide +kernel) (by decide +kernel), mg 397 (by decide +kernel) (by decide +kernel), mg 398 (by decide +kernel) (by decide +kernel), TX1, 9, rfl⟩
theorem lkk_RX3_42 : LkOK RX3 (42, 4, 135, 1, 0) := ⟨mg 400 (by decide +kernel) (by decide +kernel), mg 2 (by decide +kernel) (by decide +kernel), mg 369 (by decide +kernel) (by decide +kernel), mg 370 (by decide +kernel) (by decide +kernel), TX1, 9, rfl⟩
theorem lkk_RX4_9 : LkOK RX4 (9, 5, 41, 0, 0) := ⟨List.mem_of_getElem? (i := 11) rfl, mg 1 (by decide +kernel) (by decide +kernel), mg 270 (by decide +kernel) (by decide +kernel)⟩
theorem lkk_RX4_13 : LkOK RX4 (13, 1, 4, 0, 0) := ⟨RX4, TX4, 7, rfl, (by decide +kernel), mg 86 (by decide +kernel) (by decide +kernel), rfl, (by decide +kernel), rfl⟩
theorem lkk_RX4_19 : LkOK RX4 (19, 1, 4, 1, 0) := ⟨RX4, TX4, 7, rfl, (by decide +kernel), mg 87 (by decide +kernel) (by decide +kernel), rfl, (by decide +kernel), rfl⟩
theorem lkk_RX4_22 : LkOK RX4 (22, 1, 4, 2, 0) := ⟨RX4, TX4, 7, rfl, (by decide +kernel), mg 88 (by decide +kernel) (by decide +kernel), rfl, (by decide +kernel), rfl⟩
theorem lkk_RX4_25 : LkOK RX4 (25, 1, 4, 3, 0) := ⟨RX4, TX4, 7, rfl, (by decide +kernel), mg 89 (by decide +kernel) (by decide +kernel), rfl, (by decide +kernel), rfl⟩
theorem lkk_RX4_28 : LkOK RX4 (28, 1, 4, 4, 0) := ⟨RX4, TX4, 7, rfl, (by decide +kernel), mg 90 (by decide +kernel) (by decide +kernel), rfl, (by decide +kernel), rfl⟩
theorem lkk_RX4_31 : LkOK RX4 (31, 1, 4, 5, 0) := ⟨RX4, TX4, 7, rfl, (by decide +kernel), mg 91 (by decide +kernel) (by decide +kernel), rfl, (by decide +kernel), rfl⟩
theorem lkk_RX4_34 : LkOK RX4 (34, 0, 4, 6, 0) := ⟨RX4, TX4, 7, rfl, (by decide +kernel), mg 93 (by decide +kernel) (by decide +kernel), rfl, (by decide +kernel), rfl⟩
theorem lkk_RX4_38 : LkOK RX4 (38, 8, 0, 0, (-1)) := mg 410 (by decide +kernel) (by decide +kernel)
theorem lkk_RX4_40 : LkOK RX4 (40, 4, 144, 1, 0) := ⟨mg 411 (by decide +kernel) (by decide +kernel), mg 2 (by decide +kernel) (by decide +kernel), mg 397 (by decide +kernel) (by decide +kernel), mg 398 (by decide +kernel) (by decide +kernel), TX1, 9, rfl⟩
theorem lkk_RX4_46 : LkOK RX4 (46, 4, 135, 1, 0) := ⟨mg 412 (by decide +kernel) (by decide +kernel), mg 2 (by decide +kernel) (by decide +kernel), mg 369 (by decide +kernel) (by decide +kernel), mg 370 (by decide +kernel) (by decide +kernel), TX1, 9, rfl⟩
theorem lkk_RX4_49 : LkOK RX4 (49, 4, 154, 4, 0) := ⟨mg 413 (by decide +kernel) (by decide +kernel), mg 4 (by decide +kernel) (by decide +kernel), mg 415 (by decide +kernel) (by decide +kernel), mgs 3 (by decide +kernel) (by decide +kernel), TX4, 7, rfl⟩
theorem lkk_RX4_53 : LkOK RX4 (53, 5, 42, 0, 0) := ⟨List.mem_of_getElem? (i := 12) rfl, mg 1 (by decide +kernel) (by decide +kernel), mg 362 (by decide +kernel) (by decide +kernel)⟩
theorem lkk_RX5_9 : LkOK RX5 (9, 2, 5, 0, 1) := ⟨RX5, TX5, 2, rfl, (by decide +kernel), mg 116 (by decide +kernel) (by decide +kernel), rfl⟩
theorem lkk_RX5_15 : LkOK RX5 (15, 2, 5, 1, 2) := ⟨RX5, TX5, 2, rfl, (by decide +kernel), mg 117 (by decide +kernel) (by decide +kernel), rfl⟩
theorem lkk_RX5_19 : LkOK RX5 (19, 0, 1, 6, 0) := ⟨RX1, TX1, 9, rfl, (by decide +kernel), mg 35 (by decide +kernel) (by decide +kernel), rfl, (by decide +kernel), rfl⟩
theorem lkk_RX5_25 : LkOK RX5 (25, 4, 133, 1, 0) := ⟨mg 430 (by decide +kernel) (by decide +kernel), mg 2 (by decide +kernel) (by decide +kernel), mg 344 (by decide +kernel) (by decide +kernel), mg 345 (by decide +kernel) (by decide +kernel), TX1, 9, rfl⟩
theorem lkk_RX5_29 : LkOK RX5 (29, 4, 156, 5, 0) := ⟨mg 431 (by decide +kernel) (by decide +kernel), mg 5 (by decide +kernel) (by decide +kernel), mg 433 (by decide +kernel) (by decide +kernel), mgs 4 (by decide +kernel) (by decide +kernel), TX5, 2, rfl⟩
theorem lkk_RX5_33 : LkOK RX5 (33, 4, 134, 1, 0) := ⟨mg 435 (by decide +kernel) (by decide +kernel), mg 2 (by decide +kernel) (by decide +kernel), mg 348 (by decide +kernel) (by decide +kernel), mg 349 (by decide +kernel) (by decide +kernel), TX1, 9, rfl⟩
theorem lkk_RX6_15 : LkOK RX6 (15, 0, 6, 2, 0) := ⟨RX6, TX6, 3, rfl, (by decide +kernel), mg 206 (by decide +kernel) (by decide +kernel), rfl, (by decide +kernel), rfl⟩
theorem lkk_RX6_9 : LkOK RX6 (9, 2, 6, 0, 4) := ⟨RX6, TX6, 3, rfl, (by decide +kernel), mg 202 (by decide +kernel) (by decide +kernel), rfl⟩
theorem lkk_RX6_19 : LkOK RX6 (19, 0, 6, 1, 0) := ⟨RX6, TX6, 3, rfl, (by decide +kernel), mg 204 (by decide +kernel) (by decide +kernel), rfl, (by decide +kernel), rfl⟩
theorem lkk_RX6_22 : LkOK RX6 (22, 10, 0, 0, 0) := mg 582 (by decide +kernel) (by decide +kernel)
theorem lkk_RX6_28 : LkOK RX6 (28, 9, 0, 0, 0) := mg 585 (by decide +kernel) (by decide +kernel)
theorem lkk_RX6_31 : LkOK RX6 (31, 4, 159, 6, 0) := ⟨mg 598 (by decide +kernel) (by decide +kernel), mg 8 (by decide +kernel) (by decide +kernel), mg 299 (by decide +kernel) (by decide +kernel), mg 300 (by decide +kernel) (by decide +kernel), TX6, 3, rfl⟩
theorem lkk_RX6_35 : LkOK RX6 (35, 4, 162, 6, 0) := ⟨mg 310 (by decide +kernel) (by decide +kernel), mg 8 (by decide +kernel) (by decide +kernel), mg 311 (by decide +kernel) (by decide +kernel), mg 312 (by decide +kernel) (by decide +kernel), TX6, 3, rfl⟩
theorem lkk_RX6_39 : LkOK RX6 (39, 4, 166, 6, 0) := ⟨mg 603 (by decide +kernel) (by decide +kernel), mg 8 (by decide +kernel) (by decide +kernel), mg 605 (by decide +kernel) (by decide +kernel), mgs 9 (by decide +kernel) (by decide +kernel), TX6, 3, rfl⟩
theorem lkk_RJ13_314 : LkOK RJ13 (314, 8, 0, 0, 6148914691236517205) := mg 472 (by decide +kernel) (by decide +kernel)
theorem lkk_RJ13_316 : LkOK RJ13 (316, 8, 0, 0, 3689348814741910323) := mg 473 (by decide +kernel) (by decide +kernel)
theorem lkk_RJ13_318 : LkOK RJ13 (318, 8, 0, 0, 1085102592571150095) := mg 474 (by decide +kernel) (by decide +kernel)
theorem mok_0 : mOK md_0 := ⟨mg 243 (by decide +kernel) (by decide +kernel), ⟨(by decide +kernel), (by decide +kernel), (by decide +kernel), (by decide +kernel), rfl⟩, List.forall_mem_cons.mpr ⟨lkk_RX7_12, List.forall_mem_cons.mpr ⟨lkk_RX7_62, List.forall_mem_cons.mpr ⟨lkk_RX7_66, List.forall_mem_cons.mpr ⟨lkk_RX7_70, List.forall_mem_cons.mpr ⟨lkk_RX7_74, fun _ h => absurd h List.not_mem_nil⟩⟩⟩⟩⟩⟩
theorem mok_1 : mOK md_1 := ⟨mg 279 (by decide +kernel) (by decide +kernel), ⟨(by decide +kernel), (by decide +kernel), (by decide +kernel), (by decide +kernel), rfl⟩, List.forall_mem_cons.mpr ⟨lkk_RX7_12, List.forall_mem_cons.mpr ⟨lkk_RX7_47, List.forall_mem_cons.mpr ⟨lkk_RX7_74, List.forall_mem_cons.mpr ⟨lkk_RX7_77, List.forall_mem_cons.mpr ⟨lkk_RX7_80, List.forall_mem_cons.mpr ⟨lkk_RX7_83, fun _ h => absurd h List.not_mem_nil⟩⟩⟩⟩⟩⟩⟩
theorem mok_2 : mOK md_2 := ⟨mg 293 (by decide +kernel) (by decide +kernel), ⟨(by decide +kernel), (by decide +kernel), (by decide +kernel), (by decide +kernel), rfl⟩, List.forall_mem_cons.mpr ⟨lkk_RX7_12, List.forall_mem_cons.mpr ⟨lkk_RX7_62, List.forall_mem_cons.mpr ⟨lkk_RX7_66, List.forall_mem_cons.mpr ⟨lkk_RX7_70, List.forall_mem_cons.mpr ⟨lkk_RX7_87, List.forall_mem_cons.mpr ⟨lkk_RX7_91, List.forall_mem_cons.mpr ⟨lkk_RX7_94, List.forall_mem_cons.mpr ⟨lkk_RX7_98, List.forall_mem_cons.mpr ⟨lkk_RX7_101, fun _ h => absurd h List.not_mem_nil⟩⟩⟩⟩⟩⟩⟩⟩⟩⟩
theorem mok_3 : mOK md_3 := ⟨mg 317 (by decide +kernel) (by decide +kernel), ⟨(by decide +kernel), (by decide +kernel), (by decide +kernel), (by decide +kernel), rfl⟩, List.forall_mem_cons.mpr ⟨lkk_RX7_12, List.forall_mem_cons.mpr ⟨lkk_RX7_74, List.forall_mem_cons.mpr ⟨lkk_RX7_77, List.forall_mem_cons.mpr ⟨lkk_RX7_104, List.forall_mem_cons.mpr ⟨lkk_RX7_107, fun _ h => absurd h List.not_mem_nil⟩⟩⟩⟩⟩⟩
theorem mok_4 : mOK md_4 := ⟨mg 329 (by decide +kernel) (by decide +kernel), ⟨(by decide +kernel), (by decide +kernel), (by decide +kernel), (by decide +kernel), rfl⟩, List.forall_mem_cons.mpr ⟨lkk_RX7_12, List.forall_mem_cons.mpr ⟨lkk_RX7_110, fun _ h => absurd h List.not_mem_nil⟩⟩⟩
theorem mok_5 : mOK md_5 := ⟨mg 337 (by decide +kernel) (by decide +kernel), ⟨(by decide +kernel), (by decide +kernel), (by decide +kernel), (by decide +kernel), rfl⟩, List.forall_mem_cons.mpr ⟨lkk_RX7_40, List.forall_mem_cons.mpr ⟨lkk_RX7_47, List.forall_mem_cons.mpr ⟨lkk_RX7_113, List.forall_mem_cons.mpr ⟨lkk_RX7_116, List.forall_mem_cons.mpr ⟨lkk_RX7_119, fun _ h => absurd h List.not_mem_nil⟩⟩⟩⟩⟩⟩
theorem mok_6 : mOK md_6 := ⟨mg 341 (by decide +kernel) (by decide +kernel), ⟨(by decide +kernel), (by decide +kernel), (by decide +kernel), (by decide +kernel), rfl⟩, List.forall_mem_cons.mpr ⟨lkk_RX7_12, List.forall_mem_cons.mpr ⟨lkk_RX7_122, List.forall_mem_cons.mpr ⟨lkk_RX7_126, List.forall_mem_cons.mpr ⟨lkk_RX7_129, List.forall_mem_cons.mpr ⟨lkk_RX7_132, List.forall_mem_cons.mpr ⟨lkk_RX7_135, List.forall_mem_cons.mpr ⟨lkk_RX7_138, List.forall_mem_cons.mpr ⟨lkk_RX7_142, List.forall_mem_cons.mpr ⟨lkk_RX7_146, fun _ h => absurd h List.not_mem_nil⟩⟩⟩⟩⟩⟩⟩⟩⟩⟩
theorem mok_7 : mOK md_7 := ⟨mg 377 (by decide +kernel) (by decide +kernel), ⟨(by decide +kernel), (by decide +kernel), (by decide +kernel), (by decide +kernel), rfl⟩, List.forall_mem_cons.mpr ⟨lkk_RX7_12, List.forall_mem_cons.mpr ⟨lkk_RX7_122, List.forall_mem_cons.mpr ⟨lkk_RX7_149, List.forall_mem_cons.mpr ⟨lkk_RX7_152, fun _ h => absurd h List.not_mem_nil⟩⟩⟩⟩⟩
theorem mok_8 : mOK md_8 := ⟨mg 383 (by decide +kernel) (by decide +kernel), ⟨(by decide +kernel), (by decide +kernel), (by decide +kernel), (by decide +kernel), rfl⟩, List.forall_mem_cons.mpr ⟨lkk_RX7_12, List.forall_mem_cons.mpr ⟨lkk_RX7_19, List.forall_mem_cons.mpr ⟨lkk_RX7_122, List.forall_mem_cons.mpr ⟨lkk_RX7_154, List.forall_mem_cons.mpr ⟨lkk_RX7_158, List.forall_mem_cons.mpr ⟨lkk_RX7_162, fun _ h => absurd h List.not_mem_nil⟩⟩⟩⟩⟩⟩⟩
theorem mok_9 : mOK md_9 := ⟨mg 404 (by decide +kernel) (by decide +kernel), ⟨(by decide +kernel), (by decide +kernel), (by decide +kernel), (by decide +kernel), rfl⟩, List.forall_mem_cons.mpr ⟨lkk_RX7_12, List.forall_mem_cons.mpr ⟨lkk_RX7_26, List.forall_mem_cons.mpr ⟨lkk_RX7_122, List.forall_mem_cons.mpr ⟨lkk_RX7_152, List.forall_mem_cons.mpr ⟨lkk_RX7_165, List.forall_mem_cons.mpr ⟨lkk_RX7_169, fun _ h => absurd h List.not_mem_nil⟩⟩⟩⟩⟩⟩⟩
theorem mok_10 : mOK md_10 := ⟨mg 421 (by decide +kernel) (by decide +kernel), ⟨(by decide +kernel), (by decide +kernel), (by decide +kernel), (by decide +kernel), rfl⟩, List.forall_mem_cons.mpr ⟨lkk_RX7_12, List.forall_mem_cons.mpr ⟨lkk_RX7_26, List.forall_mem_cons.mpr ⟨lkk_RX7_122, List.forall_mem_cons.mpr ⟨lkk_RX7_165, List.forall_mem_cons.mpr ⟨lkk_RX7_173, fun _ h => absurd h List.not_mem_nil⟩⟩⟩⟩⟩⟩
theorem mok_11 : mOK md_11 := ⟨mg 425 (by decide +kernel) (by decide +kernel), ⟨(by decide +kernel), (by decide +kernel), (by decide +kernel), (by decide +kernel), rfl⟩, List.forall_mem_cons.mpr ⟨lkk_RX7_12, List.forall_mem_cons.mpr ⟨lkk_RX7_33, List.forall_mem_cons.mpr ⟨lkk_RX7_122, List.forall_mem_cons.mpr ⟨lkk_RX7_152, List.forall_mem_cons.mpr ⟨lkk_RX7_174, List.forall_mem_cons.mpr ⟨lkk_RX7_178, fun _ h => absurd h List.not_mem_nil⟩⟩⟩⟩⟩⟩⟩
theorem mok_12 : mOK md_12 := ⟨mg 443 (by decide +kernel) (by decide +kernel), ⟨(by decide +kernel), (by decide +kernel), (by decide +kernel), (by decide +kernel), rfl⟩, List.forall_mem_cons.mpr ⟨lkk_RX7_12, List.forall_mem_cons.mpr ⟨lkk_RX7_33, List.forall_mem_cons.mpr ⟨lkk_RX7_122, List.forall_mem_cons.mpr ⟨lkk_RX7_174, List.forall_mem_cons.mpr ⟨lkk_RX7_181, fun _ h => absurd h List.not_mem_nil⟩⟩⟩⟩⟩⟩
theorem mok_13 : mOK md_13 := ⟨mg 451 (by decide +kernel) (by decide +kernel), ⟨(by decide +kernel), (by decide +kernel), (by decide +kernel), (by decide +kernel), rfl⟩, List.forall_mem_cons.mpr ⟨lkk_RX7_12, List.forall_mem_cons.mpr ⟨lkk_RX7_40, List.forall_mem_cons.mpr ⟨lkk_RX7_122, List.forall_mem_cons.mpr ⟨lkk_RX7_184, List.forall_mem_cons.mpr ⟨lkk_RX7_187, List.forall_mem_cons.mpr ⟨lkk_RX7_191, List.forall_mem_cons.mpr ⟨lkk_RX7_194, fun _ h => absurd h List.not_mem_nil⟩⟩⟩⟩⟩⟩⟩⟩
theorem mok_14 : mOK md_14 := ⟨mg 482 (by decide +kernel) (by decide +kernel), ⟨(by decide +kernel), (by decide +kernel), (by decide +kernel), (by decide +kernel), rfl⟩, List.forall_mem_cons.mpr ⟨lkk_RX7_12, List.forall_mem_cons.mpr ⟨lkk_RX7_40, List.forall_mem_cons.mpr ⟨lkk_RX7_122, List.forall_mem_cons.mpr ⟨lkk_RX7_197, List.forall_mem_cons.mpr ⟨lkk_RX7_200, fun _ h => absurd h List.not_mem_nil⟩⟩⟩⟩⟩⟩
theorem mok_15 : mOK md_15 := ⟨mg 496 (by decide +kernel) (by decide +kernel), ⟨(by decide +kernel), (by decide +kernel), (by decide +kernel), (by decide +kernel), rfl⟩, List.forall_mem_cons.mpr ⟨lkk_RX7_40, List.forall_mem_cons.mpr ⟨lkk_RX7_203, List.forall_mem_cons.mpr ⟨lkk_RX7_204, List.forall_mem_cons.mpr ⟨lkk_RX7_207, List.forall_mem_cons.mpr ⟨lkk_RX7_208, fun _ h => absurd h List.not_mem_nil⟩⟩⟩⟩⟩⟩
theorem mok_16 : mOK md_16 := ⟨mg 501 (by decide +kernel) (by decide +kernel), ⟨(by decide +kernel), (by decide +kernel), (by decide +kernel), (by decide +kernel), rfl⟩, List.forall_mem_cons.mpr ⟨lkk_RX7_12, List.forall_mem_cons.mpr ⟨lkk_RX7_47, List.forall_mem_cons.mpr ⟨lkk_RX7_122, List.forall_mem_cons.mpr ⟨lkk_RX7_149, List.forall_mem_cons.mpr ⟨lkk_RX7_208, List.forall_mem_cons.mpr ⟨lkk_RX7_213, fun _ h => absurd h List.not_mem_nil⟩⟩⟩⟩⟩⟩⟩
theorem mok_17 : mOK md_17 := ⟨mg 505 (by decide +kernel) (by decide +kernel), ⟨(by decide +kernel), (by decide +kernel), (by decide +kernel), (by decide +kernel), rfl⟩, List.forall_mem_cons.mpr ⟨lkk_RX7_12, List.forall_mem_cons.mpr ⟨lkk_RX7_47, List.forall_mem_cons.mpr ⟨lkk_RX7_122, List.forall_mem_cons.mpr ⟨lkk_RX7_138, List.forall_mem_cons.mpr ⟨lkk_RX7_208, List.forall_mem_cons.mpr ⟨lkk_RX7_216, List.forall_mem_cons.mpr ⟨lkk_RX7_219, fun _ h => absurd h List.not_mem_nil⟩⟩⟩⟩⟩⟩⟩⟩
theorem mok_18 : mOK md_18 := ⟨mg 509 (by decide +kernel) (by decide +kernel), ⟨(by decide +kernel), (by decide +kernel), (by decide +kernel), (by decide +kernel), rfl⟩, List.forall_mem_cons.mpr ⟨lkk_RX7_47, List.forall_mem_cons.mpr ⟨lkk_RX7_208, List.forall_mem_cons.mpr ⟨lkk_RX7_213, List.forall_mem_cons.mpr ⟨lkk_RX7_216, fun _ h => absurd h List.not_mem_nil⟩⟩⟩⟩⟩
theorem mok_19 : mOK md_19 := ⟨mg 513 (by decide +kernel) (by decide +kernel), ⟨(by decide +kernel), (by decide +kernel), (by decide +kernel), (by decide +kernel), rfl⟩, List.forall_mem_cons.mpr ⟨lkk_RX7_12, List.forall_mem_cons.mpr ⟨lkk_RX7_47, List.forall_mem_cons.mpr ⟨lkk_RX7_152, List.forall_mem_cons.mpr ⟨lkk_RX7_223, List.forall_mem_cons.mpr ⟨lkk_RX7_227, fun _ h => absurd h List.not_mem_nil⟩⟩⟩⟩⟩⟩
theorem mok_20 : mOK md_20 := ⟨mg 553 (by decide +kernel) (by decide +kernel), ⟨(by decide +kernel), (by decide +kernel), (by decide +kernel), (by decide +kernel), rfl⟩, List.forall_mem_cons.mpr ⟨lkk_RX7_12, List.forall_mem_cons.mpr ⟨lkk_RX7_47, List.forall_mem_cons.mpr ⟨lkk_RX7_223, List.forall_mem_cons.mpr ⟨lkk_RX7_230, fun _ h => absurd h List.not_mem_nil⟩⟩⟩⟩⟩
theorem mok_21 : mOK md_21 := ⟨mg 557 (by decide +kernel) (by decide +kernel), ⟨(by decide +kernel), (by decide +kernel), (by decide +kernel), (by decide +kernel), rfl⟩, List.forall_mem_cons.mpr ⟨lkk_RX7_12, List.forall_mem_cons.mpr ⟨lkk_RX7_47, List.forall_mem_cons.mpr ⟨lkk_RX7_223, List.forall_mem_cons.mpr ⟨lkk_RX7_233, fun _ h => absurd h List.not_mem_nil⟩⟩⟩⟩⟩
theorem mok_22 : mOK md_22 := ⟨mg 565 (by decide +kernel) (by decide +kernel), ⟨(by decide +kernel), (by decide +kernel), (by decide +kernel), (by decide +kernel), rfl⟩, List.forall_mem_cons.mpr ⟨lkk_RX7_12, List.forall_mem_cons.mpr ⟨lkk_RX7_47, List.forall_mem_cons.mpr ⟨lkk_RX7_223, List.forall_mem_cons.mpr ⟨lkk_RX7_237, fun _ h => absurd h List.not_mem_nil⟩⟩⟩⟩⟩
theorem mok_23 : mOK md_23 := ⟨mg 574 (by decide +kernel) (by decide +kernel), ⟨(by decide +kernel), (by decide +kernel), (by decide +kernel), (by decide +kernel), rfl⟩, List.forall_mem_cons.mpr ⟨lkk_RX7_87, List.forall_mem_cons.mpr ⟨lkk_RX7_94, List.forall_mem_cons.mpr ⟨lkk_RX7_241, List.forall_mem_cons.mpr ⟨lkk_RX7_244, fun _ h => absurd h List.not_mem_nil⟩⟩⟩⟩⟩
theorem mok_24 : mOK md_24 := ⟨mg 589 (by decide +kernel) (by decide +kernel), ⟨(by decide +kernel), (by decide +kernel), (by decide +kernel), (by decide +kernel), rfl⟩, List.forall_mem_cons.mpr ⟨lkk_RX7_87, List.forall_mem_cons.mpr ⟨lkk_RX7_91, List.forall_mem_cons.mpr ⟨lkk_RX7_94, List.forall_mem_cons.mpr ⟨lkk_RX7_98, fun _ h => absurd h List.not_mem_nil⟩⟩⟩⟩⟩
theorem mok_25 : mOK md_25 := ⟨mg 593 (by decide +kernel) (by decide +kernel), ⟨(by decide +kernel), (by decide +kernel), (by decide +kernel), (by decide +kernel), rfl⟩, List.forall_mem_cons.mpr ⟨lkk_RX7_87, List.forall_mem_cons.mpr ⟨lkk_RX7_94, List.forall_mem_cons.mpr ⟨lkk_RX7_241, List.forall_mem_cons.mpr ⟨lkk_RX7_248, List.forall_mem_cons.mpr ⟨lkk_RX7_251, fun _ h => absurd h List.not_mem_nil⟩⟩⟩⟩⟩⟩
theorem mok_26 : mOK md_26 := ⟨mg 610 (by decide +kernel) (by decide +kernel), ⟨(by decide +kernel), (by decide +kernel), (by decide +kernel), (by decide +kernel), rfl⟩, List.forall_mem_cons.mpr ⟨lkk_RX7_58, List.forall_mem_cons.mpr ⟨lkk_RX7_87, List.forall_mem_cons.mpr ⟨lkk_RX7_101, List.forall_mem_cons.mpr ⟨lkk_RX7_241, List.forall_mem_cons.mpr ⟨lkk_RX7_248, List.forall_mem_cons.mpr ⟨lkk_RX7_254, fun _ h => absurd h List.not_mem_nil⟩⟩⟩⟩⟩⟩⟩
theorem mok_27 : mOK md_27 := ⟨mg 615 (by decide +kernel) (by decide +kernel), ⟨(by decide +kernel), (by decide +kernel), (by decide +kernel), (by decide +kernel), rfl⟩, List.forall_mem_cons.mpr ⟨lkk_RX7_87, List.forall_mem_cons.mpr ⟨lkk_RX7_91, List.forall_mem_cons.mpr ⟨lkk_RX7_94, List.forall_mem_cons.mpr ⟨lkk_RX7_255, List.forall_mem_cons.mpr ⟨lkk_RX7_258, List.forall_mem_cons.mpr ⟨lkk_RX7_262, List.forall_mem_cons.mpr ⟨lkk_RX7_266, fun _ h => absurd h List.not_mem_nil⟩⟩⟩⟩⟩⟩⟩⟩
theorem mok_28 : mOK md_28 := ⟨mg 626 (by decide +kernel) (by decide +kernel), ⟨(by decide +kernel), (by decide +kernel), (by decide +kernel), (by decide +kernel), rfl⟩, List.forall_mem_cons.mpr ⟨lkk_RX7_12, List.forall_mem_cons.mpr ⟨lkk_RX7_19, List.forall_mem_cons.mpr ⟨lkk_RX7_87, List.forall_mem_cons.mpr ⟨lkk_RX7_91, List.forall_mem_cons.mpr ⟨lkk_RX7_94, List.forall_mem_cons.mpr ⟨lkk_RX7_98, List.forall_mem_cons.mpr ⟨lkk_RX7_122, List.forall_mem_cons.mpr ⟨lkk_RX7_154, List.forall_mem_cons.mpr ⟨lkk_RX7_162, List.forall_mem_cons.mpr ⟨lkk_RX7_251, List.forall_mem_cons.mpr ⟨lkk_RX7_272, List.forall_mem_cons.mpr ⟨lkk_RX7_277, fun _ h => absurd h List.not_mem_nil⟩⟩⟩⟩⟩⟩⟩⟩⟩⟩⟩⟩⟩
theorem mok_29 : mOK md_29 := ⟨mg 635 (by decide +kernel) (by decide +kernel), ⟨(by decide +kernel), (by decide +kernel), (by decide +kernel), (by decide +kernel), rfl⟩, List.forall_mem_cons.mpr ⟨lkk_RX7_12, List.forall_mem_cons.mpr ⟨lkk_RX7_47, List.forall_mem_cons.mpr ⟨lkk_RX7_223, List.forall_mem_cons.mpr ⟨lkk_RX7_280, fun _ h => absurd h List.not_mem_nil⟩⟩⟩⟩⟩
theorem mok_30 : mOK md_30 := ⟨mg 643 (by decide +kernel) (by decide +kernel), ⟨(by decide +kernel), (by decide +kernel), (by decide +kernel), (by decide +kernel), rfl⟩, List.forall_mem_cons.mpr ⟨lkk_RX7_12, List.forall_mem_cons.mpr ⟨lkk_RX7_47, List.forall_mem_cons.mpr ⟨lkk_RX7_74, List.forall_mem_cons.mpr ⟨lkk_RX7_223, List.forall_mem_cons.mpr ⟨lkk_RX7_283, List.forall_mem_cons.mpr ⟨lkk_RX7_285, List.forall_mem_cons.mpr ⟨lkk_RX7_289, List.forall_mem_cons.mpr ⟨lkk_RX7_293, List.forall_mem_cons.mpr ⟨lkk_RX7_296, List.forall_mem_cons.mpr ⟨lkk_RX7_300, fun _ h => absurd h List.not_mem_nil⟩⟩⟩⟩⟩⟩⟩⟩⟩⟩⟩
theorem mok_31 : mOK md_31 := ⟨mg 639 (by decide +kernel) (by decide +kernel), ⟨(by decide +kernel), (by decide +kernel), (by decide +kernel), (by decide +kernel), rfl⟩, List.forall_mem_cons.mpr ⟨lkk_RX7_12, List.forall_mem_cons.mpr ⟨lkk_RX7_47, List.forall_mem_cons.mpr ⟨lkk_RX7_58, List.forall_mem_cons.mpr ⟨lkk_RX7_74, List.forall_mem_cons.mpr ⟨lkk_RX7_77, List.forall_mem_cons.mpr ⟨lkk_RX7_107, List.forall_mem_cons.mpr ⟨lkk_RX7_208, List.forall_mem_cons.mpr ⟨lkk_RX7_213, List.forall_mem_cons.mpr ⟨lkk_RX7_216, List.forall_mem_cons.mpr ⟨lkk_RX7_227, List.forall_mem_cons.mpr ⟨lkk_RX7_230, List.forall_mem_cons.mpr ⟨lkk_RX7_303, fun _ h => absurd h List.not_mem_nil⟩⟩⟩⟩⟩⟩⟩⟩⟩⟩⟩⟩⟩
theorem mok_32 : mOK md_32 := ⟨mg 648 (by decide +kernel) (by decide +kernel), ⟨(by decide +kernel), (by decide +kernel), (by decide +kernel), (by decide +kernel), rfl⟩, List.forall_mem_cons.mpr ⟨lkk_RX7_12, List.forall_mem_cons.mpr ⟨lkk_RX7_110, List.forall_mem_cons.mpr ⟨lkk_RX7_280, List.forall_mem_cons.mpr ⟨lkk_RX7_306, fun _ h => absurd h List.not_mem_nil⟩⟩⟩⟩⟩
theorem mok_33 : mOK md_33 := ⟨mg 656 (by decide +kernel) (by decide +kernel), ⟨(by decide +kernel), (by decide +kernel), (by decide +kernel), (by decide +kernel), rfl⟩, List.forall_mem_cons.mpr ⟨lkk_RX7_12, List.forall_mem_cons.mpr ⟨lkk_RX7_149, List.forall_mem_cons.mpr ⟨lkk_RX7_306, List.forall_mem_cons.mpr ⟨lkk_RX7_310, fun _ h => absurd h List.not_mem_nil⟩⟩⟩⟩⟩
theorem mok_34 : mOK md_34 := ⟨mg 661 (by decide +kernel) (by decide +kernel), ⟨(by decide +kernel), (by decide +kernel), (by decide +kernel), (by decide +kernel), rfl⟩, List.forall_mem_cons.mpr ⟨lkk_RX7_12, List.forall_mem_cons.mpr ⟨lkk_RX7_40, List.forall_mem_cons.mpr ⟨lkk_RX7_197, List.forall_mem_cons.mpr ⟨lkk_RX7_200, List.forall_mem_cons.mpr ⟨lkk_RX7_306, List.forall_mem_cons.mpr ⟨lkk_RX7_313, fun _ h => absurd h List.not_mem_nil⟩⟩⟩⟩⟩⟩⟩
theorem mok_35 : mOK md_35 := ⟨mg 666 (by decide +kernel) (by decide +kernel), ⟨(by decide +kernel), (by decide +kernel), (by decide +kernel), (by decide +kernel), rfl⟩, List.forall_mem_cons.mpr ⟨lkk_RX7_12, List.forall_mem_cons.mpr ⟨lkk_RX7_19, List.forall_mem_cons.mpr ⟨lkk_RX7_26, List.forall_mem_cons.mpr ⟨lkk_RX7_33, List.forall_mem_cons.mpr ⟨lkk_RX7_154, List.forall_mem_cons.mpr ⟨lkk_RX7_158, List.forall_mem_cons.mpr ⟨lkk_RX7_162, List.forall_mem_cons.mpr ⟨lkk_RX7_165, List.forall_mem_cons.mpr ⟨lkk_RX7_169, List.forall_mem_cons.mpr ⟨lkk_RX7_173, List.forall_mem_cons.mpr ⟨lkk_RX7_174, List.forall_mem_cons.mpr ⟨lkk_RX7_178, List.forall_mem_cons.mpr ⟨lkk_RX7_181, List.forall_mem_cons.mpr ⟨lkk_RX7_306, fun _ h => absurd h List.not_mem_nil⟩⟩⟩⟩⟩⟩⟩⟩⟩⟩⟩⟩⟩⟩⟩
theorem mok_36 : mOK md_36 := ⟨mg 670 (by decide +kernel) (by decide +kernel), ⟨(by decide +kernel), (by decide +kernel), (by decide +kernel), (by decide +kernel), rfl⟩, List.forall_mem_cons.mpr ⟨lkk_RX7_12, List.forall_mem_cons.mpr ⟨lkk_RX7_47, List.forall_mem_cons.mpr ⟨lkk_RX7_227, List.forall_mem_cons.mpr ⟨lkk_RX7_233, List.forall_mem_cons.mpr ⟨lkk_RX7_237, List.forall_mem_cons.mpr ⟨lkk_RX7_306, fun _ h => absurd h List.not_mem_nil⟩⟩⟩⟩⟩⟩⟩
theorem mok_37 : mOK md_37 := ⟨mg 305 (by decide +kernel) (by decide +kernel), ⟨(by decide +kernel), (by decide +kernel), (by decide +kernel), (by decide +kernel), rfl⟩, List.forall_mem_cons.mpr ⟨lkk_RX7_58, fun _ h => absurd h List.not_mem_nil⟩⟩
theorem mok_38 : mOK md_38 := ⟨mg 297 (by decide +kernel) (by decide +kernel), ⟨(by decide +kernel), (by decide +kernel), (by decide +kernel), (by decide +kernel), rfl⟩, List.forall_mem_cons.mpr ⟨lkk_RX7_53, fun _ h => absurd h List.not_mem_nil⟩⟩
theorem mok_39 : mOK md_39 := ⟨mg 577 (by decide +kernel) (by decide +kernel), ⟨(by decide +kernel), (by decide +kernel), (by decide +kernel), (by decide +kernel), rfl⟩, fun _ h => absurd h List.not_mem_nil⟩
theorem mok_40 : mOK md_40 := ⟨mg 651 (by decide +kernel) (by decide +kernel), ⟨(by decide +kernel), (by decide +kernel), (by decide +kernel), (by decide +kernel), rfl⟩, List.forall_mem_cons.mpr ⟨lkk_RX7_316, fun _ h => absurd h List.not_mem_nil⟩⟩
theorem mok_41 : mOK md_41 := ⟨mg 271 (by decide +kernel) (by decide +kernel), ⟨(by decide +kernel), (by decide +kernel), (by decide +kernel), (by decide +kernel), rfl⟩, fun _ h => absurd h List.not_mem_nil⟩
theorem mok_42 : mOK md_42 := ⟨mg 363 (by decide +kernel) (by decide +kernel), ⟨(by decide +kernel), (by decide +kernel), (by decide +kernel), (by decide +kernel), rfl⟩, List.forall_mem_cons.mpr ⟨lkk_RX7_138, fun _ h => absurd h List.not_mem_nil⟩⟩
theorem mok_43 : mOK md_43 := ⟨mg 490 (by decide +kernel) (by decide +kernel), ⟨(by decide +kernel), (by decide +kernel), (by decide +kernel), (by decide +kernel), rfl⟩, List.forall_mem_cons.mpr ⟨lkk_RX7_219, fun _ h => absurd h List.not_mem_nil⟩⟩
theorem mok_44 : mOK md_44 := ⟨mg 781 (by decide +kernel) (by decide +kernel), ⟨(by decide +kernel), (by decide +kernel), (by decide +kernel), (by decide +kernel), rfl⟩, fun _ h => absurd h List.not_mem_nil⟩
theorem mok_45 : mOK md_45 := ⟨mg 893 (by decide +kernel) (by decide +kernel), ⟨(by decide +kernel), (by decide +kernel), (by decide +kernel), (by decide +kernel), rfl⟩, List.forall_mem_cons.mpr ⟨lkk_RX8_63, fun _ h => absurd h List.not_mem_nil⟩⟩
theorem mok_46 : mOK md_46 := ⟨mg 854 (by decide +kernel) (by decide +kernel), ⟨(by decide +kernel), (by decide +kernel), (by decide +kernel), (by decide +kernel), rfl⟩, List.forall_mem_cons.mpr ⟨lkk_RX8_65, fun _ h => absurd h List.not_mem_nil⟩⟩
theorem mok_47 : mOK md_47 := ⟨mg 941 (by decide +kernel) (by decide +kernel), ⟨(by decide +kernel), (by decide +kernel), (by decide +kernel), (by decide +kernel), rfl⟩, fun _ h => absurd h List.not_mem_nil⟩
theorem mok_48 : mOK md_48 := ⟨mg 823 (by decide +kernel) (by decide +kernel), ⟨(by decide +kernel), (by decide +kernel), (by decide +kernel), (by decide +kernel), rfl⟩, fun _ h => absurd h List.not_mem_nil⟩
theorem mok_49 : mOK md_49 := ⟨mg 786 (by decide +kernel) (by decide +kernel), ⟨(by decide +kernel), (by decide +kernel), (by decide +kernel), (by decide +kernel), rfl⟩, List.forall_mem_cons.mpr ⟨lkk_RX8_69, fun _ h => absurd h List.not_mem_nil⟩⟩
theorem mok_50 : mOK md_50 := ⟨mg 777 (by decide +kernel) (by decide +kernel), ⟨(by decide +kernel), (by decide +kernel), (by decide +kernel), (by decide +kernel), rfl⟩, List.forall_mem_cons.mpr ⟨lkk_RX8_65, List.forall_mem_cons.mpr ⟨lkk_RX8_72, fun _ h => absurd h List.not_mem_nil⟩⟩⟩
theorem mok_51 : mOK md_51 := ⟨mg 774 (by decide +kernel) (by decide +kernel), ⟨(by decide +kernel), (by decide +kernel), (by decide +kernel), (by decide +kernel), rfl⟩, List.forall_mem_cons.mpr ⟨lkk_RX8_7, List.forall_mem_cons.mpr ⟨lkk_RX8_13, List.forall_mem_cons.mpr ⟨lkk_RX8_16, List.forall_mem_cons.mpr ⟨lkk_RX8_65, List.forall_mem_cons.mpr ⟨lkk_RX8_74, List.forall_mem_cons.mpr ⟨lkk_RX8_78, List.forall_mem_cons.mpr ⟨lkk_RX8_80, fun _ h => absurd h List.not_mem_nil⟩⟩⟩⟩⟩⟩⟩⟩
theorem mok_52 : mOK md_52 := ⟨mg 790 (by decide +kernel) (by decide +kernel), ⟨(by decide +kernel), (by decide +kernel), (by decide +kernel), (by decide +kernel), rfl⟩, List.forall_mem_cons.mpr ⟨lkk_RX8_7, List.forall_mem_cons.mpr ⟨lkk_RX8_13, List.forall_mem_cons.mpr ⟨lkk_RX8_74, List.forall_mem_cons.mpr ⟨lkk_RX8_80, fun _ h => absurd h List.not_mem_nil⟩⟩⟩⟩⟩
theorem mok_53 : mOK md_53 := ⟨mg 798 (by decide +kernel) (by decide +kernel), ⟨(by decide +kernel), (by decide +kernel), (by decide +kernel), (by decide +kernel), rfl⟩, List.forall_mem_cons.mpr ⟨lkk_RX8_7, List.forall_mem_cons.mpr ⟨lkk_RX8_13, List.forall_mem_cons.mpr ⟨lkk_RX8_65, List.forall_mem_cons.mpr ⟨lkk_RX8_80, fun _ h => absurd h List.not_mem_nil⟩⟩⟩⟩⟩
theorem mok_54 : mOK md_54 := ⟨mg 801 (by decide +kernel) (by decide +kernel), ⟨(by decide +kernel), (by decide +kernel), (by decide +kernel), (by decide +kernel), rfl⟩, fun _ h => absurd h List.not_mem_nil⟩
theorem mok_55 : mOK md_55 := ⟨mg 794 (by decide +kernel) (by decide +kernel), ⟨(by decide +kernel), (by decide +kernel), (by decide +kernel), (by decide +kernel), rfl⟩, List.forall_mem_cons.mpr ⟨lkk_RX8_16, List.forall_mem_cons.mpr ⟨lkk_RX8_65, List.forall_mem_cons.mpr ⟨lkk_RX8_74, List.forall_mem_cons.mpr ⟨lkk_RX8_78, List.forall_mem_cons.mpr ⟨lkk_RX8_84, List.forall_mem_cons.mpr ⟨lkk_RX8_88, fun _ h => absurd h List.not_mem_nil⟩⟩⟩⟩⟩⟩⟩
theorem mok_56 : mOK md_56 := ⟨mg 805 (by decide +kernel) (by decide +kernel), ⟨(by decide +kernel), (by decide +kernel), (by decide +kernel), (by decide +kernel), rfl⟩, List.forall_mem_cons.mpr ⟨lkk_RX8_16, List.forall_mem_cons.mpr ⟨lkk_RX8_65, List.forall_mem_cons.mpr ⟨lkk_RX8_74, List.forall_mem_cons.mpr ⟨lkk_RX8_78, List.forall_mem_cons.mpr ⟨lkk_RX8_84, List.forall_mem_cons.mpr ⟨lkk_RX8_92, fun _ h => absurd h List.not_mem_nil⟩⟩⟩⟩⟩⟩⟩
theorem mok_57 : mOK md_57 := ⟨mg 810 (by decide +kernel) (by decide +kernel), ⟨(by decide +kernel), (by decide +kernel), (by decide +kernel), (by decide +kernel), rfl⟩, List.forall_mem_cons.mpr ⟨lkk_RX8_7, List.forall_mem_cons.mpr ⟨lkk_RX8_13, List.forall_mem_cons.mpr ⟨lkk_RX8_16, List.forall_mem_cons.mpr ⟨lkk_RX8_19, List.forall_mem_cons.mpr ⟨lkk_RX8_74, List.forall_mem_cons.mpr ⟨lkk_RX8_80, fun _ h => absurd h List.not_mem_nil⟩⟩⟩⟩⟩⟩⟩
theorem mok_58 : mOK md_58 := ⟨mg 862 (by decide +kernel) (by decide +kernel), ⟨(by decide +kernel), (by decide +kernel), (by decide +kernel), (by decide +kernel), rfl⟩, List.forall_mem_cons.mpr ⟨lkk_RX8_65, List.forall_mem_cons.mpr ⟨lkk_RX8_93, fun _ h => absurd h List.not_mem_nil⟩⟩⟩
theorem mok_59 : mOK md_59 := ⟨mg 890 (by decide +kernel) (by decide +kernel), ⟨(by decide +kernel), (by decide +kernel), (by decide +kernel), (by decide +kernel), rfl⟩, fun _ h => absurd h List.not_mem_nil⟩
theorem mok_60 : mOK md_60 := ⟨mg 972 (by decide +kernel) (by decide +kernel), ⟨(by decide +kernel), (by decide +kernel), (by decide +kernel), (by decide +kernel), rfl⟩, List.forall_mem_cons.mpr ⟨lkk_RX8_96, fun _ h => absurd h List.not_mem_nil⟩⟩
theorem mok_61 : mOK md_61 := ⟨mg 818 (by decide +kernel) (by decide +kernel), ⟨(by decide +kernel), (by decide +kernel), (by decide +kernel), (by decide +kernel), rfl⟩, List.forall_mem_cons.mpr ⟨lkk_RX8_65, List.forall_mem_cons.mpr ⟨lkk_RX8_93, List.forall_mem_cons.mpr ⟨lkk_RX8_100, List.forall_mem_cons.mpr ⟨lkk_RX8_102, fun _ h => absurd h List.not_mem_nil⟩⟩⟩⟩⟩
theorem mok_62 : mOK md_62 := ⟨mg 814 (by decide +kernel) (by decide +kernel), ⟨(by decide +kernel), (by decide +kernel), (by decide +kernel), (by decide +kernel), rfl⟩, List.forall_mem_cons.mpr ⟨lkk_RX8_22, List.forall_mem_cons.mpr ⟨lkk_RX8_25, List.forall_mem_cons.mpr ⟨lkk_RX8_28, List.forall_mem_cons.mpr ⟨lkk_RX8_31, List.forall_mem_cons.mpr ⟨lkk_RX8_93, List.forall_mem_cons.mpr ⟨lkk_RX8_104, List.forall_mem_cons.mpr ⟨lkk_RX8_108, fun _ h => absurd h List.not_mem_nil⟩⟩⟩⟩⟩⟩⟩⟩
theorem mok_63 : mOK md_63 := ⟨mg 827 (by decide +kernel) (by decide +kernel), ⟨(by decide +kernel), (by decide +kernel), (by decide +kernel), (by decide +kernel), rfl⟩, List.forall_mem_cons.mpr ⟨lkk_RX8_93, List.forall_mem_cons.mpr ⟨lkk_RX8_100, List.forall_mem_cons.mpr ⟨lkk_RX8_111, List.forall_mem_cons.mpr ⟨lkk_RX8_114, List.forall_mem_cons.mpr ⟨lkk_RX8_118, fun _ h => absurd h List.not_mem_nil⟩⟩⟩⟩⟩⟩
theorem mok_64 : mOK md_64 := ⟨mg 831 (by decide +kernel) (by decide +kernel), ⟨(by decide +kernel), (by decide +kernel), (by decide +kernel), (by decide +kernel), rfl⟩, List.forall_mem_cons.mpr ⟨lkk_RX8_7, List.forall_mem_cons.mpr ⟨lkk_RX8_13, List.forall_mem_cons.mpr ⟨lkk_RX8_16, List.forall_mem_cons.mpr ⟨lkk_RX8_74, List.forall_mem_cons.mpr ⟨lkk_RX8_80, List.forall_mem_cons.mpr ⟨lkk_RX8_121, fun _ h => absurd h List.not_mem_nil⟩⟩⟩⟩⟩⟩⟩
theorem mok_65 : mOK md_65 := ⟨mg 836 (by decide +kernel) (by decide +kernel), ⟨(by decide +kernel), (by decide +kernel), (by decide +kernel), (by decide +kernel), rfl⟩, List.forall_mem_cons.mpr ⟨lkk_RX8_34, List.forall_mem_cons.mpr ⟨lkk_RX8_93, List.forall_mem_cons.mpr ⟨lkk_RX8_111, List.forall_mem_cons.mpr ⟨lkk_RX8_124, fun _ h => absurd h List.not_mem_nil⟩⟩⟩⟩⟩
theorem mok_66 : mOK md_66 := ⟨mg 845 (by decide +kernel) (by decide +kernel), ⟨(by decide +kernel), (by decide +kernel), (by decide +kernel), (by decide +kernel), rfl⟩, List.forall_mem_cons.mpr ⟨lkk_RX8_34, List.forall_mem_cons.mpr ⟨lkk_RX8_124, fun _ h => absurd h List.not_mem_nil⟩⟩⟩
theorem mok_67 : mOK md_67 := ⟨mg 840 (by decide +kernel) (by decide +kernel), ⟨(by decide +kernel), (by decide +kernel), (by decide +kernel), (by decide +kernel), rfl⟩, List.forall_mem_cons.mpr ⟨lkk_RX8_65, List.forall_mem_cons.mpr ⟨lkk_RX8_127, List.forall_mem_cons.mpr ⟨lkk_RX8_129, fun _ h => absurd h List.not_mem_nil⟩⟩⟩⟩
theorem mok_68 : mOK md_68 := ⟨mg 849 (by decide +kernel) (by decide +kernel), ⟨(by decide +kernel), (by decide +kernel), (by decide +kernel), (by decide +kernel), rfl⟩, List.forall_mem_cons.mpr ⟨lkk_RX8_56, List.forall_mem_cons.mpr ⟨lkk_RX8_60, List.forall_mem_cons.mpr ⟨lkk_RX8_65, List.forall_mem_cons.mpr ⟨lkk_RX8_132, List.forall_mem_cons.mpr ⟨lkk_RX8_135, List.forall_mem_cons.mpr ⟨lkk_RX8_137, List.forall_mem_cons.mpr ⟨lkk_RX8_139, fun _ h => absurd h List.not_mem_nil⟩⟩⟩⟩⟩⟩⟩⟩
theorem mok_69 : mOK md_69 := ⟨mg 871 (by decide +kernel) (by decide +kernel), ⟨(by decide +kernel), (by decide +kernel), (by decide +kernel), (by decide +kernel), rfl⟩, List.forall_mem_cons.mpr ⟨lkk_RX8_28, List.forall_mem_cons.mpr ⟨lkk_RX8_111, fun _ h => absurd h List.not_mem_nil⟩⟩⟩
theorem mok_70 : mOK md_70 := ⟨mg 875 (by decide +kernel) (by decide +kernel), ⟨(by decide +kernel), (by decide +kernel), (by decide +kernel), (by decide +kernel), rfl⟩, List.forall_mem_cons.mpr ⟨lkk_RX8_22, List.forall_mem_cons.mpr ⟨lkk_RX8_25, List.forall_mem_cons.mpr ⟨lkk_RX8_93, fun _ h => absurd h List.not_mem_nil⟩⟩⟩⟩
theorem mok_71 : mOK md_71 := ⟨mg 867 (by decide +kernel) (by decide +kernel), ⟨(by decide +kernel), (by decide +kernel), (by decide +kernel), (by decide +kernel), rfl⟩, List.forall_mem_cons.mpr ⟨lkk_RX8_22, List.forall_mem_cons.mpr ⟨lkk_RX8_25, List.forall_mem_cons.mpr ⟨lkk_RX8_28, List.forall_mem_cons.mpr ⟨lkk_RX8_31, List.forall_mem_cons.mpr ⟨lkk_RX8_142, List.forall_mem_cons.mpr ⟨lkk_RX8_145, fun _ h => absurd h List.not_mem_nil⟩⟩⟩⟩⟩⟩⟩
theorem mok_72 : mOK md_72 := ⟨mg 858 (by decide +kernel) (by decide +kernel), ⟨(by decide +kernel), (by decide +kernel), (by decide +kernel), (by decide +kernel), rfl⟩, List.forall_mem_cons.mpr ⟨lkk_RX8_65, List.forall_mem_cons.mpr ⟨lkk_RX8_148, List.forall_mem_cons.mpr ⟨lkk_RX8_151, List.forall_mem_cons.mpr ⟨lkk_RX8_153, fun _ h => absurd h List.not_mem_nil⟩⟩⟩⟩⟩
theorem mok_73 : mOK md_73 := ⟨mg 887 (by decide +kernel) (by decide +kernel), ⟨(by decide +kernel), (by decide +kernel), (by decide +kernel), (by decide +kernel), rfl⟩, List.forall_mem_cons.mpr ⟨lkk_RX8_22, List.forall_mem_cons.mpr ⟨lkk_RX8_25, fun _ h => absurd h List.not_mem_nil⟩⟩⟩
theorem mok_74 : mOK md_74 := ⟨mg 883 (by decide +kernel) (by decide +kernel), ⟨(by decide +kernel), (by decide +kernel), (by decide +kernel), (by decide +kernel), rfl⟩, List.forall_mem_cons.mpr ⟨lkk_RX8_96, List.forall_mem_cons.mpr ⟨lkk_RX8_156, fun _ h => absurd h List.not_mem_nil⟩⟩⟩
theorem mok_75 : mOK md_75 := ⟨mg 879 (by decide +kernel) (by decide +kernel), ⟨(by decide +kernel), (by decide +kernel), (by decide +kernel), (by decide +kernel), rfl⟩, List.forall_mem_cons.mpr ⟨lkk_RX8_148, List.forall_mem_cons.mpr ⟨lkk_RX8_159, List.forall_mem_cons.mpr ⟨lkk_RX8_163, fun _ h => absurd h List.not_mem_nil⟩⟩⟩⟩
theorem mok_76 : mOK md_76 := ⟨mg 910 (by decide +kernel) (by decide +kernel), ⟨(by decide +kernel), (by decide +kernel), (by decide +kernel), (by decide +kernel), rfl⟩, List.forall_mem_cons.mpr ⟨lkk_RX8_93, List.forall_mem_cons.mpr ⟨lkk_RX8_96, List.forall_mem_cons.mpr ⟨lkk_RX8_142, fun _ h => absurd h List.not_mem_nil⟩⟩⟩⟩
theorem mok_77 : mOK md_77 := ⟨mg 906 (by decide +kernel) (by decide +kernel), ⟨(by decide +kernel), (by decide +kernel), (by decide +kernel), (by decide +kernel), rfl⟩, List.forall_mem_cons.mpr ⟨lkk_RX8_37, List.forall_mem_cons.mpr ⟨lkk_RX8_96, List.forall_mem_cons.mpr ⟨lkk_RX8_100, List.forall_mem_cons.mpr ⟨lkk_RX8_142, List.forall_mem_cons.mpr ⟨lkk_RX8_156, List.forall_mem_cons.mpr ⟨lkk_RX8_166, fun _ h => absurd h List.not_mem_nil⟩⟩⟩⟩⟩⟩⟩
theorem mok_78 : mOK md_78 := ⟨mg 902 (by decide +kernel) (by decide +kernel), ⟨(by decide +kernel), (by decide +kernel), (by decide +kernel), (by decide +kernel), rfl⟩, List.forall_mem_cons.mpr ⟨lkk_RX8_96, List.forall_mem_cons.mpr ⟨lkk_RX8_142, List.forall_mem_cons.mpr ⟨lkk_RX8_159, List.forall_mem_cons.mpr ⟨lkk_RX8_170, fun _ h => absurd h List.not_mem_nil⟩⟩⟩⟩⟩
theorem mok_79 : mOK md_79 := ⟨mg 898 (by decide +kernel) (by decide +kernel), ⟨(by decide +kernel), (by decide +kernel), (by decide +kernel), (by decide +kernel), rfl⟩, List.forall_mem_cons.mpr ⟨lkk_RX8_65, List.forall_mem_cons.mpr ⟨lkk_RX8_78, List.forall_mem_cons.mpr ⟨lkk_RX8_148, List.forall_mem_cons.mpr ⟨lkk_RX8_173, fun _ h => absurd h List.not_mem_nil⟩⟩⟩⟩⟩
theorem mok_80 : mOK md_80 := ⟨mg 918 (by decide +kernel) (by decide +kernel), ⟨(by decide +kernel), (by decide +kernel), (by decide +kernel), (by decide +kernel), rfl⟩, List.forall_mem_cons.mpr ⟨lkk_RX8_100, List.forall_mem_cons.mpr ⟨lkk_RX8_156, List.forall_mem_cons.mpr ⟨lkk_RX8_166, List.forall_mem_cons.mpr ⟨lkk_RX8_176, fun _ h => absurd h List.not_mem_nil⟩⟩⟩⟩⟩
theorem mok_81 : mOK md_81 := ⟨mg 914 (by decide +kernel) (by decide +kernel), ⟨(by decide +kernel), (by decide +kernel), (by decide +kernel), (by decide +kernel), rfl⟩, List.forall_mem_cons.mpr ⟨lkk_RX8_148, List.forall_mem_cons.mpr ⟨lkk_RX8_163, List.forall_mem_cons.mpr ⟨lkk_RX8_179, fun _ h => absurd h List.not_mem_nil⟩⟩⟩⟩
theorem mok_82 : mOK md_82 := ⟨mg 926 (by decide +kernel) (by decide +kernel), ⟨(by decide +kernel), (by decide +kernel), (by decide +kernel), (by decide +kernel), rfl⟩, List.forall_mem_cons.mpr ⟨lkk_RX8_176, List.forall_mem_cons.mpr ⟨lkk_RX8_179, fun _ h => absurd h List.not_mem_nil⟩⟩⟩
theorem mok_83 : mOK md_83 := ⟨mg 922 (by decide +kernel) (by decide +kernel), ⟨(by decide +kernel), (by decide +kernel), (by decide +kernel), (by decide +kernel), rfl⟩, List.forall_mem_cons.mpr ⟨lkk_RX8_148, List.forall_mem_cons.mpr ⟨lkk_RX8_183, fun _ h => absurd h List.not_mem_nil⟩⟩⟩
theorem mok_84 : mOK md_84 := ⟨mg 938 (by decide +kernel) (by decide +kernel), ⟨(by decide +kernel), (by decide +kernel), (by decide +kernel), (by decide +kernel), rfl⟩, List.forall_mem_cons.mpr ⟨lkk_RX8_40, List.forall_mem_cons.mpr ⟨lkk_RX8_44, List.forall_mem_cons.mpr ⟨lkk_RX8_93, List.forall_mem_cons.mpr ⟨lkk_RX8_156, List.forall_mem_cons.mpr ⟨lkk_RX8_186, fun _ h => absurd h List.not_mem_nil⟩⟩⟩⟩⟩⟩
theorem mok_85 : mOK md_85 := ⟨mg 934 (by decide +kernel) (by decide +kernel), ⟨(by decide +kernel), (by decide +kernel), (by decide +kernel), (by decide +kernel), rfl⟩, List.forall_mem_cons.mpr ⟨lkk_RX8_40, List.forall_mem_cons.mpr ⟨lkk_RX8_189, fun _ h => absurd h List.not_mem_nil⟩⟩⟩
theorem mok_86 : mOK md_86 := ⟨mg 930 (by decide +kernel) (by decide +kernel), ⟨(by decide +kernel), (by decide +kernel), (by decide +kernel), (by decide +kernel), rfl⟩, List.forall_mem_cons.mpr ⟨lkk_RX8_148, List.forall_mem_cons.mpr ⟨lkk_RX8_163, List.forall_mem_cons.mpr ⟨lkk_RX8_193, fun _ h => absurd h List.not_mem_nil⟩⟩⟩⟩
theorem mok_87 : mOK md_87 := ⟨mg 949 (by decide +kernel) (by decide +kernel), ⟨(by decide +kernel), (by decide +kernel), (by decide +kernel), (by decide +kernel), rfl⟩, List.forall_mem_cons.mpr ⟨lkk_RX8_44, List.forall_mem_cons.mpr ⟨lkk_RX8_189, fun _ h => absurd h List.not_mem_nil⟩⟩⟩
theorem mok_88 : mOK md_88 := ⟨mg 945 (by decide +kernel) (by decide +kernel), ⟨(by decide +kernel), (by decide +kernel), (by decide +kernel), (by decide +kernel), rfl⟩, List.forall_mem_cons.mpr ⟨lkk_RX8_148, List.forall_mem_cons.mpr ⟨lkk_RX8_196, fun _ h => absurd h List.not_mem_nil⟩⟩⟩
theorem mok_89 : mOK md_89 := ⟨mg 961 (by decide +kernel) (by decide +kernel), ⟨(by decide +kernel), (by decide +kernel), (by decide +kernel), (by decide +kernel), rfl⟩, List.forall_mem_cons.mpr ⟨lkk_RX8_56, fun _ h => absurd h List.not_mem_nil⟩⟩
theorem mok_90 : mOK md_90 := ⟨mg 965 (by decide +kernel) (by decide +kernel), ⟨(by decide +kernel), (by decide +kernel), (by decide +kernel), (by decide +kernel), rfl⟩, List.forall_mem_cons.mpr ⟨lkk_RX8_96, List.forall_mem_cons.mpr ⟨lkk_RX8_159, List.forall_mem_cons.mpr ⟨lkk_RX8_199, fun _ h => absurd h List.not_mem_nil⟩⟩⟩⟩
theorem mok_91 : mOK md_91 := ⟨mg 969 (by decide +kernel) (by decide +kernel), ⟨(by decide +kernel), (by decide +kernel), (by decide +kernel), (by decide +kernel), rfl⟩, List.forall_mem_cons.mpr ⟨lkk_RX8_100, List.forall_mem_cons.mpr ⟨lkk_RX8_159, List.forall_mem_cons.mpr ⟨lkk_RX8_202, List.forall_mem_cons.mpr ⟨lkk_RX8_205, fun _ h => absurd h List.not_mem_nil⟩⟩⟩⟩⟩
theorem mok_92 : mOK md_92 := ⟨mg 976 (by decide +kernel) (by decide +kernel), ⟨(by decide +kernel), (by decide +kernel), (by decide +kernel), (by decide +kernel), rfl⟩, List.forall_mem_cons.mpr ⟨lkk_RX8_202, fun _ h => absurd h List.not_mem_nil⟩⟩
theorem mok_93 : mOK md_93 := ⟨mg 957 (by decide +kernel) (by decide +kernel), ⟨(by decide +kernel), (by decide +kernel), (by decide +kernel), (by decide +kernel), rfl⟩, List.forall_mem_cons.mpr ⟨lkk_RX8_199, List.forall_mem_cons.mpr ⟨lkk_RX8_202, List.forall_mem_cons.mpr ⟨lkk_RX8_208, List.forall_mem_cons.mpr ⟨lkk_RX8_211, fun _ h => absurd h List.not_mem_nil⟩⟩⟩⟩⟩
theorem mok_94 : mOK md_94 := ⟨mg 953 (by decide +kernel) (by decide +kernel), ⟨(by decide +kernel), (by decide +kernel), (by decide +kernel), (by decide +kernel), rfl⟩, List.forall_mem_cons.mpr ⟨lkk_RX8_65, List.forall_mem_cons.mpr ⟨lkk_RX8_78, List.forall_mem_cons.mpr ⟨lkk_RX8_148, List.forall_mem_cons.mpr ⟨lkk_RX8_214, fun _ h => absurd h List.not_mem_nil⟩⟩⟩⟩⟩
theorem mok_95 : mOK md_95 := ⟨mg 984 (by decide +kernel) (by decide +kernel), ⟨(by decide +kernel), (by decide +kernel), (by decide +kernel), (by decide +kernel), rfl⟩, List.forall_mem_cons.mpr ⟨lkk_RX8_156, List.forall_mem_cons.mpr ⟨lkk_RX8_159, List.forall_mem_cons.mpr ⟨lkk_RX8_199, List.forall_mem_cons.mpr ⟨lkk_RX8_205, fun _ h => absurd h List.not_mem_nil⟩⟩⟩⟩⟩
theorem mok_96 : mOK md_96 := ⟨mg 980 (by decide +kernel) (by decide +kernel), ⟨(by decide +kernel), (by decide +kernel), (by decide +kernel), (by decide +kernel), rfl⟩, List.forall_mem_cons.mpr ⟨lkk_RX8_65, List.forall_mem_cons.mpr ⟨lkk_RX8_78, List.forall_mem_cons.mpr ⟨lkk_RX8_148, List.forall_mem_cons.mpr ⟨lkk_RX8_217, fun _ h => absurd h List.not_mem_nil⟩⟩⟩⟩⟩
theorem mok_97 : mOK md_97 := ⟨mg 988 (by decide +kernel) (by decide +kernel), ⟨(by decide +kernel), (by decide +kernel), (by decide +kernel), (by decide +kernel), rfl⟩, List.forall_mem_cons.mpr ⟨lkk_RX8_114, List.forall_mem_cons.mpr ⟨lkk_RX8_148, List.forall_mem_cons.mpr ⟨lkk_RX8_159, List.forall_mem_cons.mpr ⟨lkk_RX8_205, fun _ h => absurd h List.not_mem_nil⟩⟩⟩⟩⟩
theorem mok_98 : mOK md_98 := ⟨mg 992 (by decide +kernel) (by decide +kernel), ⟨(by decide +kernel), (by decide +kernel), (by decide +kernel), (by decide +kernel), rfl⟩, List.forall_mem_cons.mpr ⟨lkk_RX8_96, List.forall_mem_cons.mpr ⟨lkk_RX8_118, List.forall_mem_cons.mpr ⟨lkk_RX8_148, List.forall_mem_cons.mpr ⟨lkk_RX8_205, fun _ h => absurd h List.not_mem_nil⟩⟩⟩⟩⟩
theorem mok_99 : mOK md_99 := ⟨mg 996 (by decide +kernel) (by decide +kernel), ⟨(by decide +kernel), (by decide +kernel), (by decide +kernel), (by decide +kernel), rfl⟩, List.forall_mem_cons.mpr ⟨lkk_RX8_114, List.forall_mem_cons.mpr ⟨lkk_RX8_118, List.forall_mem_cons.mpr ⟨lkk_RX8_139, List.forall_mem_cons.mpr ⟨lkk_RX8_205, fun _ h => absurd h List.not_mem_nil⟩⟩⟩⟩⟩
theorem mok_100 : mOK md_100 := ⟨mg 1008 (by decide +kernel) (by decide +kernel), ⟨(by decide +kernel), (by decide +kernel), (by decide +kernel), (by decide +kernel), rfl⟩, List.forall_mem_cons.mpr ⟨lkk_RX8_93, List.forall_mem_cons.mpr ⟨lkk_RX8_96, List.forall_mem_cons.mpr ⟨lkk_RX8_159, fun _ h => absurd h List.not_mem_nil⟩⟩⟩⟩
theorem mok_101 : mOK md_101 := ⟨mg 1012 (by decide +kernel) (by decide +kernel), ⟨(by decide +kernel), (by decide +kernel), (by decide +kernel), (by decide +kernel), rfl⟩, List.forall_mem_cons.mpr ⟨lkk_RX8_93, List.forall_mem_cons.mpr ⟨lkk_RX8_96, List.forall_mem_cons.mpr ⟨lkk_RX8_100, List.forall_mem_cons.mpr ⟨lkk_RX8_114, List.forall_mem_cons.mpr ⟨lkk_RX8_159, fun _ h => absurd h List.not_mem_nil⟩⟩⟩⟩⟩⟩
theorem mok_102 : mOK md_102 := ⟨mg 1016 (by decide +kernel) (by decide +kernel), ⟨(by decide +kernel), (by decide +kernel), (by decide +kernel), (by decide +kernel), rfl⟩, List.forall_mem_cons.mpr ⟨lkk_RX8_28, List.forall_mem_cons.mpr ⟨lkk_RX8_93, List.forall_mem_cons.mpr ⟨lkk_RX8_96, List.forall_mem_cons.mpr ⟨lkk_RX8_100, List.forall_mem_cons.mpr ⟨lkk_RX8_220, fun _ h => absurd h List.not_mem_nil⟩⟩⟩⟩⟩⟩
theorem mok_103 : mOK md_103 := ⟨mg 1020 (by decide +kernel) (by decide +kernel), ⟨(by decide +kernel), (by decide +kernel), (by decide +kernel), (by decide +kernel), rfl⟩, List.forall_mem_cons.mpr ⟨lkk_RX8_47, List.forall_mem_cons.mpr ⟨lkk_RX8_50, List.forall_mem_cons.mpr ⟨lkk_RX8_96, List.forall_mem_cons.mpr ⟨lkk_RX8_156, List.forall_mem_cons.mpr ⟨lkk_RX8_159, List.forall_mem_cons.mpr ⟨lkk_RX8_220, List.forall_mem_cons.mpr ⟨lkk_RX8_223, List.forall_mem_cons.mpr ⟨lkk_RX8_226, List.forall_mem_cons.mpr ⟨lkk_RX8_229, fun _ h => absurd h List.not_mem_nil⟩⟩⟩⟩⟩⟩⟩⟩⟩⟩
theorem mok_104 : mOK md_104 := ⟨mg 1024 (by decide +kernel) (by decide +kernel), ⟨(by decide +kernel), (by decide +kernel), (by decide +kernel), (by decide +kernel), rfl⟩, List.forall_mem_cons.mpr ⟨lkk_RX8_93, List.forall_mem_cons.mpr ⟨lkk_RX8_96, List.forall_mem_cons.mpr ⟨lkk_RX8_118, List.forall_mem_cons.mpr ⟨lkk_RX8_132, List.forall_mem_cons.mpr ⟨lkk_RX8_159, List.forall_mem_cons.mpr ⟨lkk_RX8_226, fun _ h => absurd h List.not_mem_nil⟩⟩⟩⟩⟩⟩⟩
theorem mok_105 : mOK md_105 := ⟨mg 1004 (by decide +kernel) (by decide +kernel), ⟨(by decide +kernel), (by decide +kernel), (by decide +kernel), (by decide +kernel), rfl⟩, List.forall_mem_cons.mpr ⟨lkk_RX8_47, List.forall_mem_cons.mpr ⟨lkk_RX8_53, List.forall_mem_cons.mpr ⟨lkk_RX8_60, List.forall_mem_cons.mpr ⟨lkk_RX8_96, List.forall_mem_cons.mpr ⟨lkk_RX8_118, List.forall_mem_cons.mpr ⟨lkk_RX8_220, List.forall_mem_cons.mpr ⟨lkk_RX8_223, List.forall_mem_cons.mpr ⟨lkk_RX8_226, List.forall_mem_cons.mpr ⟨lkk_RX8_229, List.forall_mem_cons.mpr ⟨lkk_RX8_232, List.forall_mem_cons.mpr ⟨lkk_RX8_235, List.forall_mem_cons.mpr ⟨lkk_RX8_238, List.forall_mem_cons.mpr ⟨lkk_RX8_242, List.forall_mem_cons.mpr ⟨lkk_RX8_246, List.forall_mem_cons.mpr ⟨lkk_RX8_250, List.forall_mem_cons.mpr ⟨lkk_RX8_253, fun _ h => absurd h List.not_mem_nil⟩⟩⟩⟩⟩⟩⟩⟩⟩⟩⟩⟩⟩⟩⟩⟩⟩
theorem mok_106 : mOK md_106 := ⟨mg 1029 (by decide +kernel) (by decide +kernel), ⟨(by decide +kernel), (by decide +kernel), (by decide +kernel), (by decide +kernel), rfl⟩, List.forall_mem_cons.mpr ⟨lkk_RX8_100, List.forall_mem_cons.mpr ⟨lkk_RX8_114, List.forall_mem_cons.mpr ⟨lkk_RX8_118, List.forall_mem_cons.mpr ⟨lkk_RX8_223, List.forall_mem_cons.mpr ⟨lkk_RX8_226, fun _ h => absurd h List.not_mem_nil⟩⟩⟩⟩⟩⟩
theorem mok_107 : mOK md_107 := ⟨mg 1000 (by decide +kernel) (by decide +kernel), ⟨(by decide +kernel), (by decide +kernel), (by decide +kernel), (by decide +kernel), rfl⟩, List.forall_mem_cons.mpr ⟨lkk_RX8_65, List.forall_mem_cons.mpr ⟨lkk_RX8_163, List.forall_mem_cons.mpr ⟨lkk_RX8_257, List.forall_mem_cons.mpr ⟨lkk_RX8_260, List.forall_mem_cons.mpr ⟨lkk_RX8_262, fun _ h => absurd h List.not_mem_nil⟩⟩⟩⟩⟩⟩
theorem mok_108 : mOK md_108 := ⟨mg 1033 (by decide +kernel) (by decide +kernel), ⟨(by decide +kernel), (by decide +kernel), (by decide +kernel), (by decide +kernel), rfl⟩, List.forall_mem_cons.mpr ⟨lkk_RX8_232, List.forall_mem_cons.mpr ⟨lkk_RX8_257, fun _ h => absurd h List.not_mem_nil⟩⟩⟩
theorem mok_109 : mOK md_109 := ⟨mg 1041 (by decide +kernel) (by decide +kernel), ⟨(by decide +kernel), (by decide +kernel), (by decide +kernel), (by decide +kernel), rfl⟩, List.forall_mem_cons.mpr ⟨lkk_RX8_47, List.forall_mem_cons.mpr ⟨lkk_RX8_50, List.forall_mem_cons.mpr ⟨lkk_RX8_53, List.forall_mem_cons.mpr ⟨lkk_RX8_235, fun _ h => absurd h List.not_mem_nil⟩⟩⟩⟩⟩
theorem mok_110 : mOK md_110 := ⟨mg 1037 (by decide +kernel) (by decide +kernel), ⟨(by decide +kernel), (by decide +kernel), (by decide +kernel), (by decide +kernel), rfl⟩, List.forall_mem_cons.mpr ⟨lkk_RX8_65, List.forall_mem_cons.mpr ⟨lkk_RX8_78, List.forall_mem_cons.mpr ⟨lkk_RX8_127, List.forall_mem_cons.mpr ⟨lkk_RX8_257, List.forall_mem_cons.mpr ⟨lkk_RX8_265, fun _ h => absurd h List.not_mem_nil⟩⟩⟩⟩⟩⟩
theorem mok_111 : mOK md_111 := ⟨mg 1049 (by decide +kernel) (by decide +kernel), ⟨(by decide +kernel), (by decide +kernel), (by decide +kernel), (by decide +kernel), rfl⟩, List.forall_mem_cons.mpr ⟨lkk_RX8_31, List.forall_mem_cons.mpr ⟨lkk_RX8_93, List.forall_mem_cons.mpr ⟨lkk_RX8_96, List.forall_mem_cons.mpr ⟨lkk_RX8_226, List.forall_mem_cons.mpr ⟨lkk_RX8_262, fun _ h => absurd h List.not_mem_nil⟩⟩⟩⟩⟩⟩
theorem mok_112 : mOK md_112 := ⟨mg 1045 (by decide +kernel) (by decide +kernel), ⟨(by decide +kernel), (by decide +kernel), (by decide +kernel), (by decide +kernel), rfl⟩, List.forall_mem_cons.mpr ⟨lkk_RX8_257, List.forall_mem_cons.mpr ⟨lkk_RX8_268, fun _ h => absurd h List.not_mem_nil⟩⟩⟩
theorem mok_113 : mOK md_113 := ⟨mg 1053 (by decide +kernel) (by decide +kernel), ⟨(by decide +kernel), (by decide +kernel), (by decide +kernel), (by decide +kernel), rfl⟩, List.forall_mem_cons.mpr ⟨lkk_RX8_7, List.forall_mem_cons.mpr ⟨lkk_RX8_13, List.forall_mem_cons.mpr ⟨lkk_RX8_16, List.forall_mem_cons.mpr ⟨lkk_RX8_37, List.forall_mem_cons.mpr ⟨lkk_RX8_74, List.forall_mem_cons.mpr ⟨lkk_RX8_80, List.forall_mem_cons.mpr ⟨lkk_RX8_88, List.forall_mem_cons.mpr ⟨lkk_RX8_142, List.forall_mem_cons.mpr ⟨lkk_RX8_148, List.forall_mem_cons.mpr ⟨lkk_RX8_170, List.forall_mem_cons.mpr ⟨lkk_RX8_186, fun _ h => absurd h List.not_mem_nil⟩⟩⟩⟩⟩⟩⟩⟩⟩⟩⟩⟩
theorem mok_114 : mOK md_114 := ⟨mg 1057 (by decide +kernel) (by decide +kernel), ⟨(by decide +kernel), (by decide +kernel), (by decide +kernel), (by decide +kernel), rfl⟩, List.forall_mem_cons.mpr ⟨lkk_RX8_69, List.forall_mem_cons.mpr ⟨lkk_RX8_93, List.forall_mem_cons.mpr ⟨lkk_RX8_111, List.forall_mem_cons.mpr ⟨lkk_RX8_114, List.forall_mem_cons.mpr ⟨lkk_RX8_118, List.forall_mem_cons.mpr ⟨lkk_RX8_124, List.forall_mem_cons.mpr ⟨lkk_RX8_205, List.forall_mem_cons.mpr ⟨lkk_RX8_232, List.forall_mem_cons.mpr ⟨lkk_RX8_235, List.forall_mem_cons.mpr ⟨lkk_RX8_257, List.forall_mem_cons.mpr ⟨lkk_RX8_262, fun _ h => absurd h List.not_mem_nil⟩⟩⟩⟩⟩⟩⟩⟩⟩⟩⟩⟩
theorem mok_115 : mOK md_115 := ⟨mg 1068 (by decide +kernel) (by decide +kernel), ⟨(by decide +kernel), (by decide +kernel), (by decide +kernel), (by decide +kernel), rfl⟩, List.forall_mem_cons.mpr ⟨lkk_RX8_153, List.forall_mem_cons.mpr ⟨lkk_RX8_159, List.forall_mem_cons.mpr ⟨lkk_RX8_173, List.forall_mem_cons.mpr ⟨lkk_RX8_179, List.forall_mem_cons.mpr ⟨lkk_RX8_183, List.forall_mem_cons.mpr ⟨lkk_RX8_193, List.forall_mem_cons.mpr ⟨lkk_RX8_196, List.forall_mem_cons.mpr ⟨lkk_RX8_214, List.forall_mem_cons.mpr ⟨lkk_RX8_217, List.forall_mem_cons.mpr ⟨lkk_RX8_271, fun _ h => absurd h List.not_mem_nil⟩⟩⟩⟩⟩⟩⟩⟩⟩⟩⟩
theorem mok_116 : mOK md_116 := ⟨mg 1061 (by decide +kernel) (by decide +kernel), ⟨(by decide +kernel), (by decide +kernel), (by decide +kernel), (by decide +kernel), rfl⟩, List.forall_mem_cons.mpr ⟨lkk_RX8_93, List.forall_mem_cons.mpr ⟨lkk_RX8_129, List.forall_mem_cons.mpr ⟨lkk_RX8_262, List.forall_mem_cons.mpr ⟨lkk_RX8_265, List.forall_mem_cons.mpr ⟨lkk_RX8_268, List.forall_mem_cons.mpr ⟨lkk_RX8_271, List.forall_mem_cons.mpr ⟨lkk_RX8_273, List.forall_mem_cons.mpr ⟨lkk_RX8_275, List.forall_mem_cons.mpr ⟨lkk_RX8_278, fun _ h => absurd h List.not_mem_nil⟩⟩⟩⟩⟩⟩⟩⟩⟩⟩
theorem mok_117 : mOK md_117 := ⟨mg 287 (by decide +kernel) (by decide +kernel), ⟨(by decide +kernel), (by decide +kernel), (by decide +kernel), (by decide +kernel), rfl⟩, List.forall_mem_cons.mpr ⟨lkk_RX0_22, List.forall_mem_cons.mpr ⟨lkk_RX0_26, List.forall_mem_cons.mpr ⟨lkk_RX0_30, List.forall_mem_cons.mpr ⟨lkk_RX0_32, fun _ h => absurd h List.not_mem_nil⟩⟩⟩⟩⟩
theorem mok_118 : mOK md_118 := ⟨mg 517 (by decide +kernel) (by decide +kernel), ⟨(by decide +kernel), (by decide +kernel), (by decide +kernel), (by decide +kernel), rfl⟩, List.forall_mem_cons.mpr ⟨lkk_RX0_22, List.forall_mem_cons.mpr ⟨lkk_RX0_32, List.forall_mem_cons.mpr ⟨lkk_RX0_35, List.forall_mem_cons.mpr ⟨lkk_RX0_41, List.forall_mem_cons.mpr ⟨lkk_RX0_44, List.forall_mem_cons.mpr ⟨lkk_RX0_47, List.forall_mem_cons.mpr ⟨lkk_RX0_50, List.forall_mem_cons.mpr ⟨lkk_RX0_53, List.forall_mem_cons.mpr ⟨lkk_RX0_56, List.forall_mem_cons.mpr ⟨lkk_RX0_59, List.forall_mem_cons.mpr ⟨lkk_RX0_62, List.forall_mem_cons.mpr ⟨lkk_RX0_66, List.forall_mem_cons.mpr ⟨lkk_RX0_70, List.forall_mem_cons.mpr ⟨lkk_RX0_73, fun _ h => absurd h List.not_mem_nil⟩⟩⟩⟩⟩⟩⟩⟩⟩⟩⟩⟩⟩⟩⟩
theorem mok_119 : mOK md_119 := ⟨mg 530 (by decide +kernel) (by decide +kernel), ⟨(by decide +kernel), (by decide +kernel), (by decide +kernel), (by decide +kernel), rfl⟩, List.forall_mem_cons.mpr ⟨lkk_RX0_9, List.forall_mem_cons.mpr ⟨lkk_RX0_15, List.forall_mem_cons.mpr ⟨lkk_RX0_19, List.forall_mem_cons.mpr ⟨lkk_RX0_26, List.forall_mem_cons.mpr ⟨lkk_RX0_30, List.forall_mem_cons.mpr ⟨lkk_RX0_47, List.forall_mem_cons.mpr ⟨lkk_RX0_53, List.forall_mem_cons.mpr ⟨lkk_RX0_56, List.forall_mem_cons.mpr ⟨lkk_RX0_59, List.forall_mem_cons.mpr ⟨lkk_RX0_77, List.forall_mem_cons.mpr ⟨lkk_RX0_81, fun _ h => absurd h List.not_mem_nil⟩⟩⟩⟩⟩⟩⟩⟩⟩⟩⟩⟩
theorem mok_120 : mOK md_120 := ⟨mg 539 (by decide +kernel) (by decide +kernel), ⟨(by decide +kernel), (by decide +kernel), (by decide +kernel), (by decide +kernel), rfl⟩, List.forall_mem_cons.mpr ⟨lkk_RX0_15, List.forall_mem_cons.mpr ⟨lkk_RX0_30, List.forall_mem_cons.mpr ⟨lkk_RX0_41, List.forall_mem_cons.mpr ⟨lkk_RX0_47, List.forall_mem_cons.mpr ⟨lkk_RX0_50, List.forall_mem_cons.mpr ⟨lkk_RX0_53, List.forall_mem_cons.mpr ⟨lkk_RX0_56, List.forall_mem_cons.mpr ⟨lkk_RX0_81, List.forall_mem_cons.mpr ⟨lkk_RX0_85, List.forall_mem_cons.mpr ⟨lkk_RX0_88, fun _ h => absurd h List.not_mem_nil⟩⟩⟩⟩⟩⟩⟩⟩⟩⟩⟩
theorem mok_121 : mOK md_121 := ⟨mg 545 (by decide +kernel) (by decide +kernel), ⟨(by decide +kernel), (by decide +kernel), (by decide +kernel), (by decide +kernel), rfl⟩, List.forall_mem_cons.mpr ⟨lkk_RX0_32, List.forall_mem_cons.mpr ⟨lkk_RX0_53, List.forall_mem_cons.mpr ⟨lkk_RX0_81, List.forall_mem_cons.mpr ⟨lkk_RX0_85, List.forall_mem_cons.mpr ⟨lkk_RX0_91, fun _ h => absurd h List.not_mem_nil⟩⟩⟩⟩⟩⟩
theorem mok_122 : mOK md_122 := ⟨mg 549 (by decide +kernel) (by decide +kernel), ⟨(by decide +kernel), (by decide +kernel), (by decide +kernel), (by decide +kernel), rfl⟩, List.forall_mem_cons.mpr ⟨lkk_RX0_22, List.forall_mem_cons.mpr ⟨lkk_RX0_30, List.forall_mem_cons.mpr ⟨lkk_RX0_32, List.forall_mem_cons.mpr ⟨lkk_RX0_41, List.forall_mem_cons.mpr ⟨lkk_RX0_53, fun _ h => absurd h List.not_mem_nil⟩⟩⟩⟩⟩⟩
theorem mok_123 : mOK md_123 := ⟨mg 561 (by decide +kernel) (by decide +kernel), ⟨(by decide +kernel), (by decide +kernel), (by decide +kernel), (by decide +kernel), rfl⟩, List.forall_mem_cons.mpr ⟨lkk_RX0_15, List.forall_mem_cons.mpr ⟨lkk_RX0_19, List.forall_mem_cons.mpr ⟨lkk_RX0_41, List.forall_mem_cons.mpr ⟨lkk_RX0_56, List.forall_mem_cons.mpr ⟨lkk_RX0_81, fun _ h => absurd h List.not_mem_nil⟩⟩⟩⟩⟩⟩
theorem mok_124 : mOK md_124 := ⟨mg 569 (by decide +kernel) (by decide +kernel), ⟨(by decide +kernel), (by decide +kernel), (by decide +kernel), (by decide +kernel), rfl⟩, List.forall_mem_cons.mpr ⟨lkk_RX0_30, List.forall_mem_cons.mpr ⟨lkk_RX0_41, List.forall_mem_cons.mpr ⟨lkk_RX0_53, List.forall_mem_cons.mpr ⟨lkk_RX0_94, fun _ h => absurd h List.not_mem_nil⟩⟩⟩⟩⟩
theorem mok_125 : mOK md_125 := ⟨mg 252 (by decide +kernel) (by decide +kernel), ⟨(by decide +kernel), (by decide +kernel), (by decide +kernel), (by decide +kernel), rfl⟩, List.forall_mem_cons.mpr ⟨lkk_RX1_31, fun _ h => absurd h List.not_mem_nil⟩⟩
theorem mok_126 : mOK md_126 := ⟨mg 256 (by decide +kernel) (by decide +kernel), ⟨(by decide +kernel), (by decide +kernel), (by decide +kernel), (by decide +kernel), rfl⟩, List.forall_mem_cons.mpr ⟨lkk_RX1_31, fun _ h => absurd h List.not_mem_nil⟩⟩
theorem mok_127 : mOK md_127 := ⟨mg 247 (by decide +kernel) (by decide +kernel), ⟨(by decide +kernel), (by decide +kernel), (by decide +kernel), (by decide +kernel), rfl⟩, List.forall_mem_cons.mpr ⟨lkk_RX1_35, List.forall_mem_cons.mpr ⟨lkk_RX1_36, fun _ h => absurd h List.not_mem_nil⟩⟩⟩
theorem mok_128 : mOK md_128 := ⟨mg 260 (by decide +kernel) (by decide +kernel), ⟨(by decide +kernel), (by decide +kernel), (by decide +kernel), (by decide +kernel), rfl⟩, List.forall_mem_cons.mpr ⟨lkk_RX1_9, List.forall_mem_cons.mpr ⟨lkk_RX1_15, List.forall_mem_cons.mpr ⟨lkk_RX1_18, List.forall_mem_cons.mpr ⟨lkk_RX1_21, List.forall_mem_cons.mpr ⟨lkk_RX1_24, List.forall_mem_cons.mpr ⟨lkk_RX1_31, List.forall_mem_cons.mpr ⟨lkk_RX1_40, List.forall_mem_cons.mpr ⟨lkk_RX1_44, List.forall_mem_cons.mpr ⟨lkk_RX1_48, List.forall_mem_cons.mpr ⟨lkk_RX1_54, List.forall_mem_cons.mpr ⟨lkk_RX1_58, fun _ h => absurd h List.not_mem_nil⟩⟩⟩⟩⟩⟩⟩⟩⟩⟩⟩⟩
theorem mok_129 : mOK md_129 := ⟨mg 283 (by decide +kernel) (by decide +kernel), ⟨(by decide +kernel), (by decide +kernel), (by decide +kernel), (by decide +kernel), rfl⟩, List.forall_mem_cons.mpr ⟨lkk_RX1_31, List.forall_mem_cons.mpr ⟨lkk_RX1_61, fun _ h => absurd h List.not_mem_nil⟩⟩⟩
theorem mok_130 : mOK md_130 := ⟨mg 321 (by decide +kernel) (by decide +kernel), ⟨(by decide +kernel), (by decide +kernel), (by decide +kernel), (by decide +kernel), rfl⟩, List.forall_mem_cons.mpr ⟨lkk_RX1_28, List.forall_mem_cons.mpr ⟨lkk_RX1_31, List.forall_mem_cons.mpr ⟨lkk_RX1_61, List.forall_mem_cons.mpr ⟨lkk_RX1_64, List.forall_mem_cons.mpr ⟨lkk_RX1_67, fun _ h => absurd h List.not_mem_nil⟩⟩⟩⟩⟩⟩
theorem mok_131 : mOK md_131 := ⟨mg 325 (by decide +kernel) (by decide +kernel), ⟨(by decide +kernel), (by decide +kernel), (by decide +kernel), (by decide +kernel), rfl⟩, List.forall_mem_cons.mpr ⟨lkk_RX1_28, List.forall_mem_cons.mpr ⟨lkk_RX1_64, fun _ h => absurd h List.not_mem_nil⟩⟩⟩
theorem mok_132 : mOK md_132 := ⟨mg 333 (by decide +kernel) (by decide +kernel), ⟨(by decide +kernel), (by decide +kernel), (by decide +kernel), (by decide +kernel), rfl⟩, List.forall_mem_cons.mpr ⟨lkk_RX1_28, List.forall_mem_cons.mpr ⟨lkk_RX1_64, fun _ h => absurd h List.not_mem_nil⟩⟩⟩
theorem mok_133 : mOK md_133 := ⟨mg 346 (by decide +kernel) (by decide +kernel), ⟨(by decide +kernel), (by decide +kernel), (by decide +kernel), (by decide +kernel), rfl⟩, List.forall_mem_cons.mpr ⟨lkk_RX1_9, List.forall_mem_cons.mpr ⟨lkk_RX1_36, fun _ h => absurd h List.not_mem_nil⟩⟩⟩
theorem mok_134 : mOK md_134 := ⟨mg 350 (by decide +kernel) (by decide +kernel), ⟨(by decide +kernel), (by decide +kernel), (by decide +kernel), (by decide +kernel), rfl⟩, List.forall_mem_cons.mpr ⟨lkk_RX1_15, List.forall_mem_cons.mpr ⟨lkk_RX1_36, fun _ h => absurd h List.not_mem_nil⟩⟩⟩
theorem mok_135 : mOK md_135 := ⟨mg 371 (by decide +kernel) (by decide +kernel), ⟨(by decide +kernel), (by decide +kernel), (by decide +kernel), (by decide +kernel), rfl⟩, List.forall_mem_cons.mpr ⟨lkk_RX1_54, List.forall_mem_cons.mpr ⟨lkk_RX1_70, List.forall_mem_cons.mpr ⟨lkk_RX1_73, fun _ h => absurd h List.not_mem_nil⟩⟩⟩⟩
theorem mok_136 : mOK md_136 := ⟨mg 367 (by decide +kernel) (by decide +kernel), ⟨(by decide +kernel), (by decide +kernel), (by decide +kernel), (by decide +kernel), rfl⟩, List.forall_mem_cons.mpr ⟨lkk_RX1_31, List.forall_mem_cons.mpr ⟨lkk_RX1_76, List.forall_mem_cons.mpr ⟨lkk_RX1_79, fun _ h => absurd h List.not_mem_nil⟩⟩⟩⟩
theorem mok_137 : mOK md_137 := ⟨mg 265 (by decide +kernel) (by decide +kernel), ⟨(by decide +kernel), (by decide +kernel), (by decide +kernel), (by decide +kernel), rfl⟩, List.forall_mem_cons.mpr ⟨lkk_RX1_21, List.forall_mem_cons.mpr ⟨lkk_RX1_36, fun _ h => absurd h List.not_mem_nil⟩⟩⟩
theorem mok_138 : mOK md_138 := ⟨mg 355 (by decide +kernel) (by decide +kernel), ⟨(by decide +kernel), (by decide +kernel), (by decide +kernel), (by decide +kernel), rfl⟩, List.forall_mem_cons.mpr ⟨lkk_RX1_44, List.forall_mem_cons.mpr ⟨lkk_RX1_61, fun _ h => absurd h List.not_mem_nil⟩⟩⟩
theorem mok_139 : mOK md_139 := ⟨mg 275 (by decide +kernel) (by decide +kernel), ⟨(by decide +kernel), (by decide +kernel), (by decide +kernel), (by decide +kernel), rfl⟩, List.forall_mem_cons.mpr ⟨lkk_RX1_24, List.forall_mem_cons.mpr ⟨lkk_RX1_36, fun _ h => absurd h List.not_mem_nil⟩⟩⟩
theorem mok_140 : mOK md_140 := ⟨mg 521 (by decide +kernel) (by decide +kernel), ⟨(by decide +kernel), (by decide +kernel), (by decide +kernel), (by decide +kernel), rfl⟩, List.forall_mem_cons.mpr ⟨lkk_RX1_24, List.forall_mem_cons.mpr ⟨lkk_RX1_31, List.forall_mem_cons.mpr ⟨lkk_RX1_79, fun _ h => absurd h List.not_mem_nil⟩⟩⟩⟩
theorem mok_141 : mOK md_141 := ⟨mg 525 (by decide +kernel) (by decide +kernel), ⟨(by decide +kernel), (by decide +kernel), (by decide +kernel), (by decide +kernel), rfl⟩, List.forall_mem_cons.mpr ⟨lkk_RX1_24, List.forall_mem_cons.mpr ⟨lkk_RX1_31, List.forall_mem_cons.mpr ⟨lkk_RX1_54, List.forall_mem_cons.mpr ⟨lkk_RX1_79, List.forall_mem_cons.mpr ⟨lkk_RX1_83, fun _ h => absurd h List.not_mem_nil⟩⟩⟩⟩⟩⟩
theorem mok_142 : mOK md_142 := ⟨mg 360 (by decide +kernel) (by decide +kernel), ⟨(by decide +kernel), (by decide +kernel), (by decide +kernel), (by decide +kernel), rfl⟩, List.forall_mem_cons.mpr ⟨lkk_RX1_18, List.forall_mem_cons.mpr ⟨lkk_RX1_31, List.forall_mem_cons.mpr ⟨lkk_RX1_79, fun _ h => absurd h List.not_mem_nil⟩⟩⟩⟩
theorem mok_143 : mOK md_143 := ⟨mg 393 (by decide +kernel) (by decide +kernel), ⟨(by decide +kernel), (by decide +kernel), (by decide +kernel), (by decide +kernel), rfl⟩, List.forall_mem_cons.mpr ⟨lkk_RX1_31, List.forall_mem_cons.mpr ⟨lkk_RX1_54, List.forall_mem_cons.mpr ⟨lkk_RX1_85, fun _ h => absurd h List.not_mem_nil⟩⟩⟩⟩
theorem mok_144 : mOK md_144 := ⟨mg 399 (by decide +kernel) (by decide +kernel), ⟨(by decide +kernel), (by decide +kernel), (by decide +kernel), (by decide +kernel), rfl⟩, List.forall_mem_cons.mpr ⟨lkk_RX1_31, List.forall_mem_cons.mpr ⟨lkk_RX1_79, List.forall_mem_cons.mpr ⟨lkk_RX1_85, fun _ h => absurd h List.not_mem_nil⟩⟩⟩⟩
theorem mok_145 : mOK md_145 := ⟨mg 534 (by decide +kernel) (by decide +kernel), ⟨(by decide +kernel), (by decide +kernel), (by decide +kernel), (by decide +kernel), rfl⟩, List.forall_mem_cons.mpr ⟨lkk_RX1_31, List.forall_mem_cons.mpr ⟨lkk_RX1_44, List.forall_mem_cons.mpr ⟨lkk_RX1_79, fun _ h => absurd h List.not_mem_nil⟩⟩⟩⟩
theorem mok_146 : mOK md_146 := ⟨mg 455 (by decide +kernel) (by decide +kernel), ⟨(by decide +kernel), (by decide +kernel), (by decide +kernel), (by decide +kernel), rfl⟩, List.forall_mem_cons.mpr ⟨lkk_RX2_9, fun _ h => absurd h List.not_mem_nil⟩⟩
theorem mok_147 : mOK md_147 := ⟨mg 459 (by decide +kernel) (by decide +kernel), ⟨(by decide +kernel), (by decide +kernel), (by decide +kernel), (by decide +kernel), rfl⟩, List.forall_mem_cons.mpr ⟨lkk_RX2_15, List.forall_mem_cons.mpr ⟨lkk_RX2_19, List.forall_mem_cons.mpr ⟨lkk_RX2_25, fun _ h => absurd h List.not_mem_nil⟩⟩⟩⟩
theorem mok_148 : mOK md_148 := ⟨mg 466 (by decide +kernel) (by decide +kernel), ⟨(by decide +kernel), (by decide +kernel), (by decide +kernel), (by decide +kernel), rfl⟩, List.forall_mem_cons.mpr ⟨lkk_RX2_19, List.forall_mem_cons.mpr ⟨lkk_RX2_29, List.forall_mem_cons.mpr ⟨lkk_RX2_33, List.forall_mem_cons.mpr ⟨lkk_RX2_35, fun _ h => absurd h List.not_mem_nil⟩⟩⟩⟩⟩
theorem mok_149 : mOK md_149 := ⟨mg 478 (by decide +kernel) (by decide +kernel), ⟨(by decide +kernel), (by decide +kernel), (by decide +kernel), (by decide +kernel), rfl⟩, List.forall_mem_cons.mpr ⟨lkk_RX2_29, fun _ h => absurd h List.not_mem_nil⟩⟩
theorem mok_150 : mOK md_150 := ⟨mg 486 (by decide +kernel) (by decide +kernel), ⟨(by decide +kernel), (by decide +kernel), (by decide +kernel), (by decide +kernel), rfl⟩, List.forall_mem_cons.mpr ⟨lkk_RX2_15, List.forall_mem_cons.mpr ⟨lkk_RX2_19, List.forall_mem_cons.mpr ⟨lkk_RX2_25, List.forall_mem_cons.mpr ⟨lkk_RX2_33, List.forall_mem_cons.mpr ⟨lkk_RX2_41, List.forall_mem_cons.mpr ⟨lkk_RX2_44, List.forall_mem_cons.mpr ⟨lkk_RX2_47, List.forall_mem_cons.mpr ⟨lkk_RX2_51, List.forall_mem_cons.mpr ⟨lkk_RX2_54, List.forall_mem_cons.mpr ⟨lkk_RX2_57, fun _ h => absurd h List.not_mem_nil⟩⟩⟩⟩⟩⟩⟩⟩⟩⟩⟩
theorem mok_151 : mOK md_151 := ⟨mg 387 (by decide +kernel) (by decide +kernel), ⟨(by decide +kernel), (by decide +kernel), (by decide +kernel), (by decide +kernel), rfl⟩, List.forall_mem_cons.mpr ⟨lkk_RX3_9, List.forall_mem_cons.mpr ⟨lkk_RX3_15, List.forall_mem_cons.mpr ⟨lkk_RX3_19, List.forall_mem_cons.mpr ⟨lkk_RX3_23, List.forall_mem_cons.mpr ⟨lkk_RX3_25, List.forall_mem_cons.mpr ⟨lkk_RX3_31, List.forall_mem_cons.mpr ⟨lkk_RX3_35, List.forall_mem_cons.mpr ⟨lkk_RX3_38, List.forall_mem_cons.mpr ⟨lkk_RX3_42, fun _ h => absurd h List.not_mem_nil⟩⟩⟩⟩⟩⟩⟩⟩⟩⟩
theorem mok_152 : mOK md_152 := ⟨mg 631 (by decide +kernel) (by decide +kernel), ⟨(by decide +kernel), (by decide +kernel), (by decide +kernel), (by decide +kernel), rfl⟩, List.forall_mem_cons.mpr ⟨lkk_RX3_9, List.forall_mem_cons.mpr ⟨lkk_RX3_15, fun _ h => absurd h List.not_mem_nil⟩⟩⟩
theorem mok_153 : mOK md_153 := ⟨mg 408 (by decide +kernel) (by decide +kernel), ⟨(by decide +kernel), (by decide +kernel), (by decide +kernel), (by decide +kernel), rfl⟩, List.forall_mem_cons.mpr ⟨lkk_RX4_9, List.forall_mem_cons.mpr ⟨lkk_RX4_13, List.forall_mem_cons.mpr ⟨lkk_RX4_19, List.forall_mem_cons.mpr ⟨lkk_RX4_22, List.forall_mem_cons.mpr ⟨lkk_RX4_25, List.forall_mem_cons.mpr ⟨lkk_RX4_28, List.forall_mem_cons.mpr ⟨lkk_RX4_31, List.forall_mem_cons.mpr ⟨lkk_RX4_34, List.forall_mem_cons.mpr ⟨lkk_RX4_38, List.forall_mem_cons.mpr ⟨lkk_RX4_40, List.forall_mem_cons.mpr ⟨lkk_RX4_46, List.forall_mem_cons.mpr ⟨lkk_RX4_49, fun _ h => absurd h List.not_mem_nil⟩⟩⟩⟩⟩⟩⟩⟩⟩⟩⟩⟩⟩
theorem mok_154 : mOK md_154 := ⟨mg 416 (by decide +kernel) (by decide +kernel), ⟨(by decide +kernel), (by decide +kernel), (by decide +kernel), (by decide +kernel), rfl⟩, List.forall_mem_cons.mpr ⟨lkk_RX4_13, List.forall_mem_cons.mpr ⟨lkk_RX4_19, List.forall_mem_cons.mpr ⟨lkk_RX4_22, List.forall_mem_cons.mpr ⟨lkk_RX4_25, List.forall_mem_cons.mpr ⟨lkk_RX4_28, List.forall_mem_cons.mpr ⟨lkk_RX4_38, List.forall_mem_cons.mpr ⟨lkk_RX4_53, fun _ h => absurd h List.not_mem_nil⟩⟩⟩⟩⟩⟩⟩⟩
theorem mok_155 : mOK md_155 := ⟨mg 429 (by decide +kernel) (by decide +kernel), ⟨(by decide +kernel), (by decide +kernel), (by decide +kernel), (by decide +kernel), rfl⟩, List.forall_mem_cons.mpr ⟨lkk_RX5_9, List.forall_mem_cons.mpr ⟨lkk_RX5_15, List.forall_mem_cons.mpr ⟨lkk_RX5_19, List.forall_mem_cons.mpr ⟨lkk_RX5_25, List.forall_mem_cons.mpr ⟨lkk_RX5_29, List.forall_mem_cons.mpr ⟨lkk_RX5_33, fun _ h => absurd h List.not_mem_nil⟩⟩⟩⟩⟩⟩⟩
theorem mok_156 : mOK md_156 := ⟨mg 434 (by decide +kernel) (by decide +kernel), ⟨(by decide +kernel), (by decide +kernel), (by decide +kernel), (by decide +kernel), rfl⟩, List.forall_mem_cons.mpr ⟨lkk_RX5_9, List.forall_mem_cons.mpr ⟨lkk_RX5_15, fun _ h => absurd h List.not_mem_nil⟩⟩⟩
theorem mok_157 : mOK md_157 := ⟨mg 439 (by decide +kernel) (by decide +kernel), ⟨(by decide +kernel), (by decide +kernel), (by decide +kernel), (by decide +kernel), rfl⟩, List.forall_mem_cons.mpr ⟨lkk_RX5_9, fun _ h => absurd h List.not_mem_nil⟩⟩
theorem mok_158 : mOK md_158 := ⟨mg 447 (by decide +kernel) (by decide +kernel), ⟨(by decide +kernel), (by decide +kernel), (by decide +kernel), (by decide +kernel), rfl⟩, List.forall_mem_cons.mpr ⟨lkk_RX5_15, fun _ h => absurd h List.not_mem_nil⟩⟩
theorem mok_159 : mOK md_159 := ⟨mg 301 (by decide +kernel) (by decide +kernel), ⟨(by decide +kernel), (by decide +kernel), (by decide +kernel), (by decide +kernel), rfl⟩, List.forall_mem_cons.mpr ⟨lkk_RX6_15, fun _ h => absurd h List.not_mem_nil⟩⟩
theorem mok_160 : mOK md_160 := ⟨mg 581 (by decide +kernel) (by decide +kernel), ⟨(by decide +kernel), (by decide +kernel), (by decide +kernel), (by decide +kernel), rfl⟩, List.forall_mem_cons.mpr ⟨lkk_RX6_9, List.forall_mem_cons.mpr ⟨lkk_RX6_15, List.forall_mem_cons.mpr ⟨lkk_RX6_19, List.forall_mem_cons.mpr ⟨lkk_RX6_22, List.forall_mem_cons.mpr ⟨lkk_RX6_28, fun _ h => absurd h List.not_mem_nil⟩⟩⟩⟩⟩⟩
theorem mok_161 : mOK md_161 := ⟨mg 597 (by decide +kernel) (by decide +kernel), ⟨(by decide +kernel), (by decide +kernel), (by decide +kernel), (by decide +kernel), rfl⟩, List.forall_mem_cons.mpr ⟨lkk_RX6_19, List.forall_mem_cons.mpr ⟨lkk_RX6_31, List.forall_mem_cons.mpr ⟨lkk_RX6_35, fun _ h => absurd h List.not_mem_nil⟩⟩⟩⟩
theorem mok_162 : mOK md_162 := ⟨mg 313 (by decide +kernel) (by decide +kernel), ⟨(by decide +kernel), (by decide +kernel), (by decide +kernel), (by decide +kernel), rfl⟩, List.forall_mem_cons.mpr ⟨lkk_RX6_15, fun _ h => absurd h List.not_mem_nil⟩⟩
theorem mok_163 : mOK md_163 := ⟨mg 619 (by decide +kernel) (by decide +kernel), ⟨(by decide +kernel), (by decide +kernel), (by decide +kernel), (by decide +kernel), rfl⟩, List.forall_mem_cons.mpr ⟨lkk_RX6_15, fun _ h => absurd h List.not_mem_nil⟩⟩
theorem mok_164 : mOK md_164 := ⟨mg 309 (by decide +kernel) (by decide +kernel), ⟨(by decide +kernel), (by decide +kernel), (by decide +kernel), (by decide +kernel), rfl⟩, List.forall_mem_cons.mpr ⟨lkk_RX6_9, List.forall_mem_cons.mpr ⟨lkk_RX6_35, fun _ h => absurd h List.not_mem_nil⟩⟩⟩
theorem mok_165 : mOK md_165 := ⟨mg 602 (by decide +kernel) (by decide +kernel), ⟨(by decide +kernel), (by decide +kernel), (by decide +kernel), (by decide +kernel), rfl⟩, List.forall_mem_cons.mpr ⟨lkk_RX6_9, List.forall_mem_cons.mpr ⟨lkk_RX6_35, List.forall_mem_cons.mpr ⟨lkk_RX6_39, fun _ h => absurd h List.not_mem_nil⟩⟩⟩⟩
theorem mok_166 : mOK md_166 := ⟨mg 606 (by decide +kernel) (by decide +kernel), ⟨(by decide +kernel), (by decide +kernel), (by decide +kernel), (by decide +kernel), rfl⟩, List.forall_mem_cons.mpr ⟨lkk_RX6_19, fun _ h => absurd h List.not_mem_nil⟩⟩
theorem mok_167 : mOK md_167 := ⟨mg 471 (by decide +kernel) (by decide +kernel), ⟨(by decide +kernel), (by decide +kernel), (by decide +kernel), (by decide +kernel), rfl⟩, List.forall_mem_cons.mpr ⟨lkk_RJ13_314, List.forall_mem_cons.mpr ⟨lkk_RJ13_316, List.forall_mem_cons.mpr ⟨lkk_RJ13_318, fun _ h => absurd h List.not_mem_nil⟩⟩⟩⟩
set_option maxRecDepth 100000 in
theorem mtab_ok : ∀ d ∈ mtab, mOK d := List.forall_mem_cons.mpr ⟨mok_0, List.forall_mem_cons.mpr ⟨mok_1, List.forall_mem_cons.mpr ⟨mok_2, List.forall_mem_cons.mpr ⟨mok_3, List.forall_mem_cons.mpr ⟨mok_4, List.forall_mem_cons.mpr ⟨mok_5, List.forall_mem_cons.mpr ⟨mok_6, List.forall_mem_cons.mpr ⟨mok_7, List.forall_mem_cons.mpr ⟨mok_8, List.forall_mem_cons.mpr ⟨mok_9, List.forall_mem_cons.mpr ⟨mok_10, List.forall_mem_cons.mpr ⟨mok_11, List.forall_mem_cons.mpr ⟨mok_12, List.forall_mem_cons.mpr ⟨mok_13, List.forall_mem_cons.mpr ⟨mok_14, List.forall_mem_cons.mpr ⟨mok_15, List.forall_mem_cons.mpr ⟨mok_16, List.forall_mem_cons.mpr ⟨mok_17, List.forall_mem_cons.mpr ⟨mok_18, List.forall_mem_cons.mpr ⟨mok_19, List.forall_mem_cons.mpr ⟨mok_20, List.forall_mem_cons.mpr ⟨mok_21, List.forall_mem_cons.mpr ⟨mok_22, List.forall_mem_cons.mpr ⟨mok_23, List.forall_mem_cons.mpr ⟨mok_24, List.forall_mem_cons.mpr ⟨mok_25, List.forall_mem_cons.mpr ⟨mok_26, List.forall_mem_cons.mpr ⟨mok_27, List.forall_mem_cons.mpr ⟨mok_28, List.forall_mem_cons.mpr ⟨mok_29, List.forall_mem_cons.mpr ⟨mok_30, List.forall_mem_cons.mpr ⟨mok_31, List.forall_mem_cons.mpr ⟨mok_32, List.forall_mem_cons.mpr ⟨mok_33, List.forall_mem_cons.mpr ⟨mok_34, List.forall_mem_cons.mpr ⟨mok_35, List.forall_mem_cons.mpr ⟨mok_36, List.forall_mem_cons.mpr ⟨mok_37, List.forall_mem_cons.mpr ⟨mok_38, List.forall_mem_cons.mpr ⟨mok_39, List.forall_mem_cons.mpr ⟨mok_40, List.forall_mem_cons.mpr ⟨mok_41, List.forall_mem_cons.mpr ⟨mok_42, List.forall_mem_cons.mpr ⟨mok_43, List.forall_mem_cons.mpr ⟨mok_44, List.forall_mem_cons.mpr ⟨mok_45, List.forall_mem_cons.mpr ⟨mok_46, List.forall_mem_cons.mpr ⟨mok_47, List.forall_mem_cons.mpr ⟨mok_48, List.forall_mem_cons.mpr ⟨mok_49, List.forall_mem_cons.mpr ⟨mok_50, List.forall_mem_cons.mpr ⟨mok_51, List.forall_mem_cons.mpr ⟨mok_52, List.forall_mem_cons.mpr ⟨mok_53, List.forall_mem_cons.mpr ⟨mok_54, List.forall_mem_cons.mpr ⟨mok_55, List.forall_mem_cons.mpr ⟨mok_56, List.forall_mem_cons.mpr ⟨mok_57, List.forall_mem_cons.mpr ⟨mok_58, List.forall_mem_cons.mpr ⟨mok_59, List.forall_mem_cons.mpr ⟨mok_60, List.forall_mem_cons.mpr ⟨mok_61, List.forall_mem_cons.mpr ⟨mok_62, List.forall_mem_cons.mpr ⟨mok_63, List.forall_mem_cons.mpr ⟨mok_64, List.forall_mem_cons.mpr ⟨mok_65, List.forall_mem_cons.mpr ⟨mok_66, List.forall_mem_cons.mpr ⟨mok_67, List.forall_mem_cons.mpr ⟨mok_68, List.forall_mem_cons.mpr ⟨mok_69, List.forall_mem_cons.mpr ⟨mok_70, List.forall_mem_cons.mpr ⟨mok_71, List.forall_mem_cons.mpr ⟨mok_72, List.forall_mem_cons.mpr ⟨mok_73, List.forall_mem_cons.mpr ⟨mok_74, List.forall_mem_cons.mpr ⟨mok_75, List.forall_mem_cons.mpr ⟨mok_76, List.forall_mem_cons.mpr ⟨mok_77, List.forall_mem_cons.mpr ⟨mok_78, List.forall_mem_cons.mpr ⟨mok_79, List.forall_mem_cons.mpr ⟨mok_80, List.forall_mem_cons.mpr ⟨mok_81, List.forall_mem_cons.mpr ⟨mok_82, List.forall_mem_cons.mpr ⟨mok_83, List.forall_mem_cons.mpr ⟨mok_84, List.forall_mem_cons.mpr ⟨mok_85, List.forall_mem_cons.mpr ⟨mok_86, List.forall_mem_cons.mpr ⟨mok_87, List.forall_mem_cons.mpr ⟨mok_88, List.forall_mem_cons.mpr ⟨mok_89, List.forall_mem_cons.mpr ⟨mok_90, List.forall_mem_cons.mpr ⟨mok_91, List.forall_mem_cons.mpr ⟨mok_92, List.forall_mem_cons.mpr ⟨mok_93, List.forall_mem_cons.mpr ⟨mok_94, List.forall_mem_cons.mpr ⟨mok_95, List.forall_mem_cons.mpr ⟨mok_96, List.forall_mem_cons.mpr ⟨mok_97, List.forall_mem_cons.mpr ⟨mok_98, List.forall_mem_cons.mpr ⟨mok_99, List.forall_mem_cons.mpr ⟨mok_100, List.forall_mem_cons.mpr ⟨mok_101, List.forall_mem_cons.mpr ⟨mok_102, List.forall_mem_cons.mpr ⟨mok_103, List.forall_mem_cons.mpr ⟨mok_104, List.forall_mem_cons.mpr ⟨mok_105, List.forall_mem_cons.mpr ⟨mok_106, List.forall_mem_cons.mpr ⟨mok_107, List.forall_mem_cons.mpr ⟨mok_108, List.forall_mem_cons.mpr ⟨mok_109, List.forall_mem_cons.mpr ⟨mok_110, List.forall_mem_cons.mpr ⟨mok_111, List.forall_mem_cons.mpr ⟨mok_112, List.forall_mem_cons.mpr ⟨mok_113, List.forall_mem_cons.mpr ⟨mok_114, List.forall_mem_cons.mpr ⟨mok_115, List.forall_mem_cons.mpr ⟨mok_116, List.forall_mem_cons.mpr ⟨mok_117, List.forall_mem_cons.mpr ⟨mok_118, List.forall_mem_cons.mpr ⟨mok_119, List.forall_mem_cons.mpr ⟨mok_120, List.forall_mem_cons.mpr ⟨mok_121, List.forall_mem_cons.mpr ⟨mok_122, List.forall_mem_cons.mpr ⟨mok_123, List.forall_mem_cons.mpr ⟨mok_124, List.forall_mem_cons.mpr ⟨mok_125, List.forall_mem_cons.mpr ⟨mok_126, List.forall_mem_cons.mpr ⟨mok_127, List.forall_mem_cons.mpr ⟨mok_128, List.forall_mem_cons.mpr ⟨mok_129, List.forall_mem_cons.mpr ⟨mok_130, List.forall_mem_cons.mpr ⟨mok_131, List.forall_mem_cons.mpr ⟨mok_132, List.forall_mem_cons.mpr ⟨mok_133, List.forall_mem_cons.mpr ⟨mok_134, List.forall_mem_cons.mpr ⟨mok_135, List.forall_mem_cons.mpr ⟨mok_136, List.forall_mem_cons.mpr ⟨mok_137, List.forall_mem_cons.mpr ⟨mok_138, List.forall_mem_cons.mpr ⟨mok_139, List.forall_mem_cons.mpr ⟨mok_140, List.forall_mem_cons.mpr ⟨mok_141, List.forall_mem_cons.mpr ⟨mok_142, List.forall_mem_cons.mpr ⟨mok_143, List.forall_mem_cons.mpr ⟨mok_144, List.forall_mem_cons.mpr ⟨mok_145, List.forall_mem_cons.mpr ⟨mok_146, List.forall_mem_cons.mpr ⟨mok_147, List.forall_mem_cons.mpr ⟨mok_148, List.forall_mem_cons.mpr ⟨mok_149, List.forall_mem_cons.mpr ⟨mok_150, List.forall_mem_cons.mpr ⟨mok_151, List.forall_mem_cons.mpr ⟨mok_152, List.forall_mem_cons.mpr ⟨mok_153, List.forall_mem_cons.mpr ⟨mok_154, List.forall_mem_cons.mpr ⟨mok_155, List.forall_mem_cons.mpr ⟨mok_156, List.forall_mem_cons.mpr ⟨mok_157, List.forall_mem_cons.mpr ⟨mok_158, List.forall_mem_cons.mpr ⟨mok_159, List.forall_mem_cons.mpr ⟨mok_160, List.forall_mem_cons.mpr ⟨mok_161, List.forall_mem_cons.mpr ⟨mok_162, List.forall_mem_cons.mpr ⟨mok_163, List.forall_mem_cons.mpr ⟨mok_164, List.forall_mem_cons.mpr ⟨mok_165, List.forall_mem_cons.mpr ⟨mok_166, List.forall_mem_cons.mpr ⟨mok_167, fun _ h => absurd h List.not_mem_nil⟩⟩⟩⟩⟩⟩⟩⟩⟩⟩⟩⟩⟩⟩⟩⟩⟩⟩⟩⟩⟩⟩⟩⟩⟩⟩⟩⟩⟩⟩⟩⟩⟩⟩⟩⟩⟩⟩⟩⟩⟩⟩⟩⟩⟩⟩⟩⟩⟩⟩⟩⟩⟩⟩⟩⟩⟩⟩⟩⟩⟩⟩⟩⟩⟩⟩⟩⟩⟩⟩⟩⟩⟩⟩⟩⟩⟩⟩⟩⟩⟩⟩⟩⟩⟩⟩⟩⟩⟩⟩⟩⟩⟩⟩⟩⟩⟩⟩⟩⟩⟩⟩⟩⟩⟩⟩⟩⟩⟩⟩⟩⟩⟩⟩⟩⟩⟩⟩⟩⟩⟩⟩⟩⟩⟩⟩⟩⟩⟩⟩⟩⟩⟩⟩⟩⟩⟩⟩⟩⟩⟩⟩⟩⟩⟩⟩⟩⟩⟩⟩⟩⟩⟩⟩⟩⟩⟩⟩⟩⟩⟩⟩⟩⟩⟩⟩⟩⟩
theorem md_in (y : Nat) : md y ∈ mtab := by
  unfold md
  rw [List.getD_eq_getElem?_getD]
  cases h : mtab[y]? with
  | none => exact List.mem_cons_self
  | some d => exact List.mem_of_getElem? h
theorem md_ok (y : Nat) : mOK (md y) := mtab_ok _ (md_in y)
theorem lkF_in : ∀ (qs : List (Nat × Nat × Nat × Nat × Int64)) (i : Nat), (lkF qs i).1 = 99 ∨ (i, lkF qs i) ∈ qs
  | [], _ => Or.inl rfl
  | q :: qs, i => by
    unfold lkF
    cases hq : Nat.beq q.1 i with
    | true =>
      have := Nat.eq_of_beq_eq_true hq
      subst this
      exact Or.inr List.mem_cons_self
    | false =>
      rcases lkF_in qs i with h | h
      · exact Or.inl h
      · exact Or.inr (List.mem_cons_of_mem _ h)
theorem lk_ok (y i : Nat) (h : (lk y i).1 ≠ 99) : LkOK (md y).2.2.2.2.1 (i, lk y i) := by
  rcases lkF_in (md y).2.2.2.2.2.2.2.2 i with h1 | h1
  · exact absurd h1 h
  · exact (md_ok y).2.2 _ h1
def clsOK (ci : Nat) (q : vw_C) : Prop := (∀ w ∈ u_ws q.1 q.2.1 q.2.2, w ∈ mgood) ∧ (∀ a, a < q.2.2 → ∀ b, b < q.2.2 → a ≠ b → (q.2.1 a).2.1 ≠ (q.2.1 b).2.1) ∧ ftn ci = q.2.2 ∧ ∃ ty0 : Nat → FieldType, ∀ k, k < q.2.2 → parseFieldDescriptor (q.2.1 k).2.2.1 = some (ty0 k)
theorem ucl_0 : ∀ w ∈ u_ws RX0 TX0 12, w ∈ mgood := List.forall_mem_cons.mpr ⟨mg 170 (by decide +kernel) (by decide +kernel), List.forall_mem_cons.mpr ⟨mg 172 (by decide +kernel) (by decide +kernel), List.forall_mem_cons.mpr ⟨mg 174 (by decide +kernel) (by decide +kernel), List.forall_mem_cons.mpr ⟨mg 176 (by decide +kernel) (by decide +kernel), List.forall_mem_cons.mpr ⟨mg 178 (by decide +kernel) (by decide +kernel), List.forall_mem_cons.mpr ⟨mg 180 (by decide +kernel) (by decide +kernel), List.forall_mem_cons.mpr ⟨mg 182 (by decide +kernel) (by decide +kernel), List.forall_mem_cons.mpr ⟨mg 184 (by decide +kernel) (by decide +kernel), List.forall_mem_cons.mpr ⟨mg 186 (by decide +kernel) (by decide +kernel), List.forall_mem_cons.mpr ⟨mg 188 (by decide +kernel) (by decide +kernel), List.forall_mem_cons.mpr ⟨mg 190 (by decide +kernel) (by decide +kernel), List.forall_mem_cons.mpr ⟨mg 192 (by decide +kernel) (by decide +kernel), fun _ h => absurd h List.not_mem_nil⟩⟩⟩⟩⟩⟩⟩⟩⟩⟩⟩⟩
theorem ucl_1 : ∀ w ∈ u_ws RX1 TX1 9, w ∈ mgood := List.forall_mem_cons.mpr ⟨mg 41 (by decide +kernel) (by decide +kernel), List.forall_mem_cons.mpr ⟨mg 43 (by decide +kernel) (by decide +kernel), List.forall_mem_cons.mpr ⟨mg 45 (by decide +kernel) (by decide +kernel), List.forall_mem_cons.mpr ⟨mg 47 (by decide +kernel) (by decide +kernel), List.forall_mem_cons.mpr ⟨mg 49 (by decide +kernel) (by decide +kernel), List.forall_mem_cons.mpr ⟨mg 51 (by decide +kernel) (by decide +kernel), List.forall_mem_cons.mpr ⟨mg 53 (by decide +kernel) (by decide +kernel), List.forall_mem_cons.mpr ⟨mg 55 (by decide +kernel) (by decide +kernel), List.forall_mem_cons.mpr ⟨mg 57 (by decide +kernel) (by decide +kernel), fun _ h => absurd h List.not_mem_nil⟩⟩⟩⟩⟩⟩⟩⟩⟩
theorem ucl_2 : ∀ w ∈ u_ws RX2 TX2 4, w ∈ mgood := List.forall_mem_cons.mpr ⟨mg 137 (by decide +kernel) (by decide +kernel), List.forall_mem_cons.mpr ⟨mg 139 (by decide +kernel) (by decide +kernel), List.forall_mem_cons.mpr ⟨mg 141 (by decide +kernel) (by decide +kernel), List.forall_mem_cons.mpr ⟨mg 143 (by decide +kernel) (by decide +kernel), fun _ h => absurd h List.not_mem_nil⟩⟩⟩⟩
theorem ucl_3 : ∀ w ∈ u_ws RX3 TX3 3, w ∈ mgood := List.forall_mem_cons.mpr ⟨mg 73 (by decide +kernel) (by decide +kernel), List.forall_mem_cons.mpr ⟨mg 75 (by decide +kernel) (by decide +kernel), List.forall_mem_cons.mpr ⟨mg 77 (by decide +kernel) (by decide +kernel), fun _ h => absurd h List.not_mem_nil⟩⟩⟩
theorem ucl_4 : ∀ w ∈ u_ws RX4 TX4 7, w ∈ mgood := List.forall_mem_cons.mpr ⟨mg 95 (by decide +kernel) (by decide +kernel), List.forall_mem_cons.mpr ⟨mg 97 (by decide +kernel) (by decide +kernel), List.forall_mem_cons.mpr ⟨mg 99 (by decide +kernel) (by decide +kernel), List.forall_mem_cons.mpr ⟨mg 101 (by decide +kernel) (by decide +kernel), List.forall_mem_cons.mpr ⟨mg 103 (by decide +kernel) (by decide +kernel), List.forall_mem_cons.mpr ⟨mg 105 (by decide +kernel) (by decide +kernel), List.forall_mem_cons.mpr ⟨mg 107 (by decide +kernel) (by decide +kernel), fun _ h => absurd h List.not_mem_nil⟩⟩⟩⟩⟩⟩⟩
theorem ucl_5 : ∀ w ∈ u_ws RX5 TX5 2, w ∈ mgood := List.forall_mem_cons.mpr ⟨mg 118 (by decide +kernel) (by decide +kernel), List.forall_mem_cons.mpr ⟨mg 120 (by decide +kernel) (by decide +kernel), fun _ h => absurd h List.not_mem_nil⟩⟩
theorem ucl_6 : ∀ w ∈ u_ws RX6 TX6 3, w ∈ mgood := List.forall_mem_cons.mpr ⟨mg 208 (by decide +kernel) (by decide +kernel), List.forall_mem_cons.mpr ⟨mg 210 (by decide +kernel) (by decide +kernel), List.forall_mem_cons.mpr ⟨mg 212 (by decide +kernel) (by decide +kernel), fun _ h => absurd h List.not_mem_nil⟩⟩⟩
theorem ucl_7 : ∀ w ∈ u_ws RX7 TX7 8, w ∈ mgood := List.forall_mem_cons.mpr ⟨mg 223 (by decide +kernel) (by decide +kernel), List.forall_mem_cons.mpr ⟨mg 225 (by decide +kernel) (by decide +kernel), List.forall_mem_cons.mpr ⟨mg 227 (by decide +kernel) (by decide +kernel), List.forall_mem_cons.mpr ⟨mg 229 (by decide +kernel) (by decide +kernel), List.forall_mem_cons.mpr ⟨mg 231 (by decide +kernel) (by decide +kernel), List.forall_mem_cons.mpr ⟨mg 233 (by decide +kernel) (by decide +kernel), List.forall_mem_cons.mpr ⟨mg 235 (by decide +kernel) (by decide +kernel), List.forall_mem_cons.mpr ⟨mg 237 (by decide +kernel) (by decide +kernel), fun _ h => absurd h List.not_mem_nil⟩⟩⟩⟩⟩⟩⟩⟩
theorem ucl_8 : ∀ w ∈ u_ws RX8 TX8 31, w ∈ mgood := List.forall_mem_cons.mpr ⟨mg 708 (by decide +kernel) (by decide +kernel), List.forall_mem_cons.mpr ⟨mg 710 (by decide +kernel) (by decide +kernel), List.forall_mem_cons.mpr ⟨mg 712 (by decide +kernel) (by decide +kernel), List.forall_mem_cons.mpr ⟨mg 714 (by decide +kernel) (by decide +kernel), List.forall_mem_cons.mpr ⟨mg 716 (by decide +kernel) (by decide +kernel), List.forall_mem_cons.mpr ⟨mg 718 (by decide +kernel) (by decide +kernel), List.forall_mem_cons.mpr ⟨mg 720 (by decide +kernel) (by decide +kernel), List.forall_mem_cons.mpr ⟨mg 722 (by decide +kernel) (by decide +kernel), List.forall_mem_cons.mpr ⟨mg 724 (by decide +kernel) (by decide +kernel), List.forall_mem_cons.mpr ⟨mg 726 (by decide +kernel) (by decide +kernel), List.forall_mem_cons.mpr ⟨mg 728 (by decide +kernel) (by decide +kernel), List.forall_mem_cons.mpr ⟨mg 730 (by decide +kernel) (by decide +kernel), List.forall_mem_cons.mpr ⟨mg 732 (by decide +kernel) (by decide +kernel), List.forall_mem_cons.mpr ⟨mg 734 (by decide +kernel) (by decide +kernel), List.forall_mem_cons.mpr ⟨mg 736 (by decide +kernel) (by decide +kernel), List.forall_mem_cons.mpr ⟨mg 738 (by decide +kernel) (by decide +kernel), List.forall_mem_cons.mpr ⟨mg 740 (by decide +kernel) (by decide +kernel), List.forall_mem_cons.mpr ⟨mg 742 (by decide +kernel) (by decide +kernel), List.forall_mem_cons.mpr ⟨mg 744 (by decide +kernel) (by decide +kernel), List.forall_mem_cons.mpr ⟨mg 746 (by decide +kernel) (by decide +kernel), List.forall_mem_cons.mpr ⟨mg 748 (by decide +kernel) (by decide +kernel), List.forall_mem_cons.mpr ⟨mg 750 (by decide +kernel) (by decide +kernel), List.forall_mem_cons.mpr ⟨mg 752 (by decide +kernel) (by decide +kernel), List.forall_mem_cons.mpr ⟨mg 754 (by decide +kernel) (by decide +kernel), List.forall_mem_cons.mpr ⟨mg 756 (by decide +kernel) (by decide +kernel), List.forall_mem_cons.mpr ⟨mg 758 (by decide +kernel) (by decide +kernel), List.forall_mem_cons.mpr ⟨mg 760 (by decide +kernel) (by decide +kernel), List.forall_mem_cons.mpr ⟨mg 762 (by decide +kernel) (by decide +kernel), List.forall_mem_cons.mpr ⟨mg 764 (by decide +kernel) (by decide +kernel), List.forall_mem_cons.mpr ⟨mg 766 (by decide +kernel) (by decide +kernel), List.forall_mem_cons.mpr ⟨mg 768 (by decide +kernel) (by decide +kernel), fun _ h => absurd h List.not_mem_nil⟩⟩⟩⟩⟩⟩⟩⟩⟩⟩⟩⟩⟩⟩⟩⟩⟩⟩⟩⟩⟩⟩⟩⟩⟩⟩⟩⟩⟩⟩⟩
theorem cls_ok : ∀ (ci : Nat) (q : vw_C), vwCl[ci]? = some q → clsOK ci q := by
  intro ci q h
  match ci, h with
  | 0, h => cases h; exact ⟨ucl_0, nmX0, rfl, tyX0, tyX0_ok⟩
  | 1, h => cases h; exact ⟨ucl_1, nmX1, rfl, tyX1, tyX1_ok⟩
  | 2, h => cases h; exact ⟨ucl_2, nmX2, rfl, tyX2, tyX2_ok⟩
  | 3, h => cases h; exact ⟨ucl_3, nmX3, rfl, tyX3, tyX3_ok⟩
  | 4, h => cases h; exact ⟨ucl_4, nmX4, rfl, tyX4, tyX4_ok⟩
  | 5, h => cases h; exact ⟨ucl_5, nmX5, rfl, tyX5, tyX5_ok⟩
  | 6, h => cases h; exact ⟨ucl_6, nmX6, rfl, tyX6, tyX6_ok⟩
  | 7, h => cases h; exact ⟨ucl_7, nmX7, rfl, tyX7, tyX7_ok⟩
  | 8, h => cases h; exact ⟨ucl_8, nmX8, rfl, tyX8, tyX8_ok⟩
  | n + 9, h => simp [vwCl] at h
theorem mx_ok : Cond.static Lib.Math.max.name ∈ mgood ∧ Cond.initialized "java/lang/Math" ∈ mgood ∧ Cond.code Lib.Math.max.name Lib.Math.max.code 2 (some .int) ∈ mgood := ⟨mg 267 (by decide +kernel) (by decide +kernel), mg 10 (by decide +kernel) (by decide +kernel), mg 268 (by decide +kernel) (by decide +kernel)⟩
theorem mn_ok : Cond.static Lib.Math.min.name ∈ mgood ∧ Cond.initialized "java/lang/Math" ∈ mgood ∧ Cond.code Lib.Math.min.name Lib.Math.min.code 2 (some .int) ∈ mgood := ⟨mg 583 (by decide +kernel) (by decide +kernel), mg 10 (by decide +kernel) (by decide +kernel), mg 584 (by decide +kernel) (by decide +kernel)⟩
theorem ac_ok : Cond.native arraycopyName ∈ mgood ∧ Cond.static arraycopyName ∈ mgood ∧ Cond.initialized "java/lang/System" ∈ mgood := ⟨mg 622 (by decide +kernel) (by decide +kernel), mg 621 (by decide +kernel) (by decide +kernel), mg 12 (by decide +kernel) (by decide +kernel)⟩
end
section
/-! What the mini machine says, the machine does. -/
section SND
variable {p : Program} {l : Launch} {e : Env} {R : Room} {s : State} {m : MethodId} {args : Array Value} {below : List Frame} {meth : Method} {c : Code} {H : Heap} {locs : List Loc} {cells slots : Nat} {Q : State → Prop}
variable {D : va_G} {ad : Nat → Nat} {cA : Nat → ClassId} {A : Nat → Prop} {H0 : Heap}
def mCtx (D : va_G) (cA : Nat → ClassId) (y : Nat) (p : Program) (R : Room) (s : State) (m : MethodId) (args : Array Value) (c : Code) (cells slots : Nat) : Prop :=
  p.tables.exec = Jvm.exec ∧ c.code = (md y).2.1 ∧ c.maxLocals = (md y).2.2.1 ∧ s.vm.findClass (md y).2.2.2.2.1 = some m.cls ∧ (∀ w ∈ mgood, w.before args s = true) ∧ va_K D vwCl (mtys cA) s ∧ (∀ w ∈ mnest, va_Nw w s) ∧ (md y).2.2.2.2.2.1 ≤ R.frames ∧ (md y).2.2.2.2.2.2.1 ≤ R.locals ∧ cells ≤ R.cells ∧ slots ≤ R.slots
/-- one step that goes on -/
def mGo (D : va_G) (ad : Nat → Nat) (cA : Nat → ClassId) (A : Nat → Prop) (H0 : Heap) (y : Nat) (p : Program) (l : Launch) (e : Env) (R : Room) (s : State) (m : MethodId) (args : Array Value) (below : List Frame) (meth : Method) (c : Code) (cells slots : Nat) (Q : State → Prop) (pc : Nat) (loc : mL) (stk : List Value) (h : mH) : Prop :=
  ∀ (ls : Array Slot) (H : Heap) (locs : List Loc), mloc ad ls (md y).2.2.1 loc → mWd D ad cA A H0 h H locs → W p l e R s m args below meth c H locs cells slots Q (F0 m pc ls (stk.map (cv ad)))
theorem nx_inv {pc pc' : Nat} {loc loc' : mL} {stk stk' : List Value} {h h' : mH} (hs : nx pc loc stk h = some (.inl (pc', loc', stk', h'))) : pc' = pc ∧ loc' = loc ∧ stk' = stk ∧ h' = h := by
  cases hs; exact ⟨rfl, rfl, rfl, rfl⟩
theorem nxs_inv {pc pc' : Nat} {loc loc' : mL} {o : Option (List Value)} {stk' : List Value} {h h' : mH} (hs : nxs pc loc h o = some (.inl (pc', loc', stk', h'))) : o = some stk' ∧ pc' = pc ∧ loc' = loc ∧ h' = h := by
  cases o with
  | none => cases hs
  | some stk => cases hs; exact ⟨rfl, rfl, rfl, rfl⟩
theorem op2_inv {f : Int32 → Int32 → Int32} {stk stk' : List Value} (h : op2 f stk = some stk') : ∃ x y r, stk = .int y :: .int x :: r ∧ stk' = .int (f x y) :: r := by
  unfold op2 at h
  split at h
  · cases h; exact ⟨_, _, _, rfl, rfl⟩
  · cases h
theorem op2L_inv {f : Int64 → Int64 → Int64} {stk stk' : List Value} (h : op2L f stk = some stk') : ∃ x y r, stk = .long y :: .long x :: r ∧ stk' = .long (f x y) :: r := by
  unfold op2L at h
  split at h
  · cases h; exact ⟨_, _, _, rfl, rfl⟩
  · cases h
theorem opSh_inv {f : Int64 → Int32 → Int64} {stk stk' : List Value} (h : opSh f stk = some stk') : ∃ x y r, stk = .int y :: .long x :: r ∧ stk' = .long (f x y) :: r := by
  unfold opSh at h
  split at h
  · cases h; exact ⟨_, _, _, rfl, rfl⟩
  · cases h
theorem opCmp_inv {stk stk' : List Value} (h : opCmp stk = some stk') : ∃ x y r, stk = .long y :: .long x :: r ∧ stk' = .int (lg_cmp x y) :: r := by
  unfold opCmp at h
  split at h
  · cases h; exact ⟨_, _, _, rfl, rfl⟩
  · cases h
theorem opI_inv {f : Int32 → Int32} {stk stk' : List Value} (h : opI f stk = some stk') : ∃ x r, stk = .int x :: r ∧ stk' = .int (f x) :: r := by
  unfold opI at h
  split at h
  · cases h; exact ⟨_, _, rfl, rfl⟩
  · cases h
theorem opIL_inv {f : Int32 → Int64} {stk stk' : List Value} (h : opIL f stk = some stk') : ∃ x r, stk = .int x :: r ∧ stk' = .long (f x) :: r := by
  unfold opIL at h
  split at h
  · cases h; exact ⟨_, _, rfl, rfl⟩
  · cases h
theorem opLI_inv {f : Int64 → Int32} {stk stk' : List Value} (h : opLI f stk = some stk') : ∃ x r, stk = .long x :: r ∧ stk' = .int (f x) :: r := by
  unfold opLI at h
  split at h
  · cases h; exact ⟨_, _, rfl, rfl⟩
  · cases h
theorem jmp_ok {pc : Nat} {off : Int} (h : jok pc off = true) : (pc : Int) + off = ((jmp pc off : Nat) : Int) := by
  have h1 : 0 ≤ (pc : Int) + off := of_decide_eq_true h
  unfold jmp
  omega
variable {y pc pc' : Nat} {loc loc' : mL} {stk stk' : List Value} {h h' : mH}
theorem ok_ldI {q : Nat} {o : Option Value} {i : Nat} {ls : Array Slot} (ho : lget loc i = o) (hs : ldI q loc stk h o = some (.inl (pc', loc', stk', h'))) (hl : mloc ad ls (md y).2.2.1 loc) : ∃ x : Int32, ls[i]? = some (.val (.int x)) ∧ pc' = q ∧ loc' = loc ∧ stk' = .int x :: stk ∧ h' = h := by
  unfold ldI at hs
  split at hs
  · obtain ⟨h1, h2, h3, h4⟩ := nx_inv hs
    exact ⟨_, hl.2.2.2 i _ ho, h1, h2, h3, h4⟩
  · cases hs
theorem ok_ldL {q : Nat} {o : Option Value} {i : Nat} {ls : Array Slot} (ho : lget loc i = o) (hs : ldL q loc stk h o = some (.inl (pc', loc', stk', h'))) (hl : mloc ad ls (md y).2.2.1 loc) : ∃ x : Int64, ls[i]? = some (.val (.long x)) ∧ pc' = q ∧ loc' = loc ∧ stk' = .long x :: stk ∧ h' = h := by
  unfold ldL at hs
  split at hs
  · obtain ⟨h1, h2, h3, h4⟩ := nx_inv hs
    exact ⟨_, hl.2.2.2 i _ ho, h1, h2, h3, h4⟩
  · cases hs
theorem ok_ldA {q : Nat} {o : Option Value} {i : Nat} {ls : Array Slot} (ho : lget loc i = o) (hs : ldA q loc stk h o = some (.inl (pc', loc', stk', h'))) (hl : mloc ad ls (md y).2.2.1 loc) : ((∃ x : Nat, ls[i]? = some (.val (.ref (ad x))) ∧ stk' = .ref x :: stk) ∨ (ls[i]? = some (.val .null) ∧ stk' = .null :: stk)) ∧ pc' = q ∧ loc' = loc ∧ h' = h := by
  unfold ldA at hs
  split at hs
  · obtain ⟨h1, h2, h3, h4⟩ := nx_inv hs
    exact ⟨Or.inl ⟨_, hl.2.2.2 i _ ho, h3⟩, h1, h2, h4⟩
  · obtain ⟨h1, h2, h3, h4⟩ := nx_inv hs
    exact ⟨Or.inr ⟨hl.2.2.2 i _ ho, h3⟩, h1, h2, h4⟩
  · cases hs
theorem ok_stoI {q i : Nat} (hs : stoI q i loc h stk = some (.inl (pc', loc', stk', h'))) : ∃ x r, stk = .int x :: r ∧ i < loc.length ∧ pc' = q ∧ loc' = st1 loc i (.int x) ∧ stk' = r ∧ h' = h := by
  unfold stoI at hs
  split at hs
  · split at hs
    · rename_i hb
      obtain ⟨h1, h2, h3, h4⟩ := nx_inv hs
      exact ⟨_, _, rfl, by simpa [Nat.blt_eq] using hb, h1, h2, h3, h4⟩
    · cases hs
  · cases hs
theorem ok_stoL {q i : Nat} (hs : stoL q i loc h stk = some (.inl (pc', loc', stk', h'))) : ∃ x r, stk = .long x :: r ∧ i + 1 < loc.length ∧ pc' = q ∧ loc' = st2 loc i (.long x) ∧ stk' = r ∧ h' = h := by
  unfold stoL at hs
  split at hs
  · split at hs
    · rename_i hb
      obtain ⟨h1, h2, h3, h4⟩ := nx_inv hs
      exact ⟨_, _, rfl, by simpa [Nat.blt_eq] using hb, h1, h2, h3, h4⟩
    · cases hs
  · cases hs
theorem ok_stoA {q i : Nat} (hs : stoA q i loc h stk = some (.inl (pc', loc', stk', h'))) : ∃ v r, ((∃ x, v = .ref x) ∨ v = .null) ∧ stk = v :: r ∧ i < loc.length ∧ pc' = q ∧ loc' = st1 loc i v ∧ stk' = r ∧ h' = h := by
  unfold stoA at hs
  split at hs
  · split at hs
    · rename_i hb
      obtain ⟨h1, h2, h3, h4⟩ := nx_inv hs
      exact ⟨_, _, Or.inl ⟨_, rfl⟩, rfl, by simpa [Nat.blt_eq] using hb, h1, h2, h3, h4⟩
    · cases hs
  · split at hs
    · rename_i hb
      obtain ⟨h1, h2, h3, h4⟩ := nx_inv hs
      exact ⟨_, _, Or.inr rfl, rfl, by simpa [Nat.blt_eq] using hb, h1, h2, h3, h4⟩
    · cases hs
  · cases hs
theorem brn_inv {cn : ClassFile.Cond} {x z : Int32} {a b : mR} {o : mR} (hs : brn cn x z a b = o) : (cnd cn x z ∧ a = o) ∨ (¬ cnd cn x z ∧ b = o) := by
  unfold brn at hs
  split at hs
  · rename_i hc; exact Or.inl ⟨hc, hs⟩
  · rename_i hc; exact Or.inr ⟨hc, hs⟩
theorem gfl_inv {q : Nat × Nat × Nat × Int64} (hs : gfl pc loc h q stk = some (.inl (pc', loc', stk', h'))) : ∃ k r v, stk = .ref k :: r ∧ shp k = (0, q.2.1) ∧ pc' = pc + 3 ∧ loc' = loc ∧ h' = h ∧ stk' = v :: r ∧ ((q.1 = 0 ∧ v = .int (gI h k q.2.2.1)) ∨ (q.1 = 12 ∧ v = .int (gI h k q.2.2.1)) ∨ (q.1 = 1 ∧ v = .long (gJ h k q.2.2.1)) ∨ (q.1 = 2 ∧ v = .ref (k + q.2.2.2.toNatClampNeg))) := by
  unfold gfl at hs
  split at hs
  · split at hs
    · rename_i hk
      split at hs
      · rename_i hq; obtain ⟨h1, h2, h3, h4⟩ := nx_inv hs
        exact ⟨_, _, _, rfl, hk, h1, h2, h4, h3, Or.inl ⟨hq, rfl⟩⟩
      · rename_i hq; obtain ⟨h1, h2, h3, h4⟩ := nx_inv hs
        exact ⟨_, _, _, rfl, hk, h1, h2, h4, h3, Or.inr (Or.inl ⟨hq, rfl⟩)⟩
      · rename_i hq; obtain ⟨h1, h2, h3, h4⟩ := nx_inv hs
        exact ⟨_, _, _, rfl, hk, h1, h2, h4, h3, Or.inr (Or.inr (Or.inl ⟨hq, rfl⟩))⟩
      · rename_i hq; obtain ⟨h1, h2, h3, h4⟩ := nx_inv hs
        exact ⟨_, _, _, rfl, hk, h1, h2, h4, h3, Or.inr (Or.inr (Or.inr ⟨hq, rfl⟩))⟩
      · cases hs
    · cases hs
  · cases hs
theorem pfl_inv {q : Nat × Nat × Nat × Int64} (hs : pfl pc loc h q stk = some (.inl (pc', loc', stk', h'))) : ∃ k r, shp k = (0, q.2.1) ∧ pc' = pc + 3 ∧ loc' = loc ∧ stk' = r ∧ ((∃ x, q.1 = 0 ∧ stk = .int x :: .ref k :: r ∧ h' = sI h k q.2.2.1 x) ∨ (∃ x, q.1 = 12 ∧ (x = 0 ∨ x = 1) ∧ stk = .int x :: .ref k :: r ∧ h' = sI h k q.2.2.1 x) ∨ (∃ x, q.1 = 1 ∧ stk = .long x :: .ref k :: r ∧ h' = sJ h k q.2.2.1 x)) := by
  unfold pfl at hs
  split at hs
  · split at hs
    · rename_i hk
      split at hs
      · rename_i hq; obtain ⟨h1, h2, h3, h4⟩ := nx_inv hs
        exact ⟨_, _, hk, h1, h2, h3, Or.inl ⟨_, hq, rfl, h4⟩⟩
      · rename_i hq
        split at hs
        · rename_i hx; obtain ⟨h1, h2, h3, h4⟩ := nx_inv hs
          exact ⟨_, _, hk, h1, h2, h3, Or.inr (Or.inl ⟨_, hq, hx, rfl, h4⟩)⟩
        · cases hs
      · cases hs
    · cases hs
  · split at hs
    · rename_i hk
      split at hs
      · rename_i hq; obtain ⟨h1, h2, h3, h4⟩ := nx_inv hs
        exact ⟨_, _, hk, h1, h2, h3, Or.inr (Or.inr ⟨_, hq, rfl, h4⟩)⟩
      · cases hs
    · cases hs
  · cases hs
theorem inB_in {i : Int32} {n : Nat} (hi : inB i n) : vp_in i n := by
  obtain ⟨h1, h2⟩ := hi
  unfold vp_in
  rintro (q | q)
  · exact absurd h1 (Int32.not_le.mpr q)
  · omega
/-- getfield -/
theorem ok_get (C : mCtx D cA y p R s m args c cells slots) {i : Nat} (hd : decode (md y).2.1 pc = .ok (.getfield i, 3)) (hs : gfl pc loc h (lk y i) stk = some (.inl (pc', loc', stk', h'))) {ls : Array Slot} (hl : mloc ad ls (md y).2.2.1 loc) (hw : mWd D ad cA A H0 h H locs)
    (k : mGo D ad cA A H0 y p l e R s m args below meth c cells slots Q pc' loc' stk' h') : W p l e R s m args below meth c H locs cells slots Q (F0 m pc ls (stk.map (cv ad))) := by
  obtain ⟨hx, hb, hml, hown, hts, hK, -⟩ := id C
  obtain ⟨a, r, v, rfl, hk, rfl, rfl, rfl, rfl, hv⟩ := gfl_inv hs
  have hlt := shp_lt hk (by decide)
  have he : (mwd ad cA h')[a]? = some (ad a, .inr ((lk y i).2.1, fvs ad h' a (lk y i).2.1)) := by rw [mwd_at _ _ _ hlt, mcell_obj hk]
  have go : ∀ (T : u_T) (CN : String) (N : Nat), vwCl[(lk y i).2.1]? = some (CN, T, N) → (lk y i).2.2.1 < N → Cond.fieldLink (md y).2.2.2.2.1 i (T (lk y i).2.2.1).1 (T (lk y i).2.2.1).2.1 (T (lk y i).2.2.1).2.2.1 ∈ mgood → fval ad h' a (lk y i).2.2.1 (ft (lk y i).2.1 (lk y i).2.2.1) = cv ad v → W p l e R s m args below meth c H locs cells slots Q (F0 m pc ls ((Value.ref a :: r).map (cv ad))) := by
    intro T CN N hc hj hlink hfv
    obtain ⟨c1, c2, c3, c4⟩ := cls_ok _ _ hc
    refine va_get (D := D) (cl := vwCl) (tys := mtys cA) (ws := mwd ad cA h') (a := ad a) (C := CN) (T := T) (N := N) (v := cv ad v) hx hb hts c1 hown hK hw.1 a he hc (lk y i).2.2.1 hj (hts _ hlink) (fun _ z => z) ?_ hd ?_
    · rw [fvs_at _ _ _ (by rw [c3]; exact hj), hfv]
    · exact k ls H locs hl hw
  rcases hv with ⟨hq, rfl⟩ | ⟨hq, rfl⟩ | ⟨hq, rfl⟩ | ⟨hq, rfl⟩
  · have h1 := lk_ok y i (by rw [hq]; decide)
    unfold LkOK at h1
    rw [show (i, lk y i).2.1 = 0 from hq] at h1
    obtain ⟨CN, T, N, h2, h3, h4, h5, -⟩ := h1
    exact go T CN N h2 h3 h4 (by unfold fval; rw [h5]; rfl)
  · have h1 := lk_ok y i (by rw [hq]; decide)
    unfold LkOK at h1
    rw [show (i, lk y i).2.1 = 12 from hq] at h1
    obtain ⟨CN, T, N, h2, h3, h4, h5, -⟩ := h1
    exact go T CN N h2 h3 h4 (by unfold fval; rw [h5]; rfl)
  · have h1 := lk_ok y i (by rw [hq]; decide)
    unfold LkOK at h1
    rw [show (i, lk y i).2.1 = 1 from hq] at h1
    obtain ⟨CN, T, N, h2, h3, h4, h5, -⟩ := h1
    exact go T CN N h2 h3 h4 (by unfold fval; rw [h5]; rfl)
  · have h1 := lk_ok y i (by rw [hq]; decide)
    unfold LkOK at h1
    rw [show (i, lk y i).2.1 = 2 from hq] at h1
    obtain ⟨CN, T, N, h2, h3, h4, h5⟩ := h1
    exact go T CN N h2 h3 h4 (by unfold fval; rw [h5]; rfl)
/-- putfield -/
theorem ok_put (C : mCtx D cA y p R s m args c cells slots) (hA : mAd ad A H0) {i : Nat} (hd : decode (md y).2.1 pc = .ok (.putfield i, 3)) (hs : pfl pc loc h (lk y i) stk = some (.inl (pc', loc', stk', h'))) {ls : Array Slot} (hl : mloc ad ls (md y).2.2.1 loc) (hw : mWd D ad cA A H0 h H locs)
    (k : mGo D ad cA A H0 y p l e R s m args below meth c cells slots Q pc' loc' stk' h') : W p l e R s m args below meth c H locs cells slots Q (F0 m pc ls (stk.map (cv ad))) := by
  obtain ⟨hx, hb, hml, hown, hts, hK, -⟩ := id C
  obtain ⟨a, r, hk, rfl, rfl, rfl, hv⟩ := pfl_inv hs
  have hlt := shp_lt hk (by decide)
  have he : (mwd ad cA h)[a]? = some (ad a, .inr ((lk y i).2.1, fvs ad h a (lk y i).2.1)) := by rw [mwd_at _ _ _ hlt, mcell_obj hk]
  have go : ∀ (v : Value) (ty : FieldType) (kd : Nat), fldOK (md y).2.2.2.2.1 i (lk y i).2.1 (lk y i).2.2.1 ty kd → narrow ty v = v → fits ty v = true → ((ft (lk y i).2.1 (lk y i).2.2.1).1 = kd → (lk y i).2.2.1 < ftn (lk y i).2.1 → (mwd ad cA h).set a (ad a, .inr ((lk y i).2.1, (fvs ad h a (lk y i).2.1).set (lk y i).2.2.1 v)) = mwd ad cA h') → W p l e R s m args below meth c H locs cells slots Q (F0 m pc ls (v :: Value.ref (ad a) :: stk'.map (cv ad))) := by
    intro v ty kd hf hn hfi hset
    obtain ⟨CN, T, N, h2, h3, h4, h5, h6, h7⟩ := hf
    obtain ⟨c1, c2, c3, ty0, c4⟩ := cls_ok _ _ h2
    have hj : (lk y i).2.2.1 < ftn (lk y i).2.1 := by rw [c3]; exact h3
    refine va_put (D := D) (cl := vwCl) (tys := mtys cA) (ws := mwd ad cA h) (A := A) (H0 := H0) (a := ad a) (C := CN) (T := T) (N := N) (v := v) (ty := ty) hx hb hts c1 ty0 c4 c2 hown hK hw.1 (mwd_D hA h) hw.2 a he h2 (lk y i).2.2.1 h3 (hts _ h4) (fun _ z => z) h7 h6 hn hfi (by rw [fvs_len]; exact hj) hd (fun H1 locs1 hP1 _ hS1 => ?_)
    rw [hset h5 hj] at hP1
    exact k ls H1 locs1 hl ⟨hP1, hS1⟩
  rcases hv with ⟨x, hq, rfl, rfl⟩ | ⟨x, hq, hx01, rfl, rfl⟩ | ⟨x, hq, rfl, rfl⟩
  · have h1 := lk_ok y i (by rw [hq]; decide)
    unfold LkOK at h1
    rw [show (i, lk y i).2.1 = 0 from hq] at h1
    refine go (.int x) .int 0 h1 rfl rfl (fun h5 hj => ?_)
    rw [fvs_sI hj h5, ← mcell_obj (cA := cA) hk]
    exact mwd_set hlt (fun b hb => mcell_sI hb)
  · have h1 := lk_ok y i (by rw [hq]; decide)
    unfold LkOK at h1
    rw [show (i, lk y i).2.1 = 12 from hq] at h1
    refine go (.int x) .boolean 0 h1 (by rcases hx01 with rfl | rfl <;> decide) (by rcases hx01 with rfl | rfl <;> decide) (fun h5 hj => ?_)
    rw [fvs_sI hj h5, ← mcell_obj (cA := cA) hk]
    exact mwd_set hlt (fun b hb => mcell_sI hb)
  · have h1 := lk_ok y i (by rw [hq]; decide)
    unfold LkOK at h1
    rw [show (i, lk y i).2.1 = 1 from hq] at h1
    refine go (.long x) .long 1 h1 rfl rfl (fun h5 hj => ?_)
    rw [fvs_sJ hj h5, ← mcell_obj (cA := cA) hk]
    exact mwd_set hlt (fun b hb => mcell_sJ hb)
/-- arrays -/
theorem ok_arI (C : mCtx D cA y p R s m args c cells slots) (hd : decode (md y).2.1 pc = .ok (.iaload, 1)) (hs : arI pc loc h stk = some (.inl (pc', loc', stk', h'))) {ls : Array Slot} (hl : mloc ad ls (md y).2.2.1 loc) (hw : mWd D ad cA A H0 h H locs)
    (k : mGo D ad cA A H0 y p l e R s m args below meth c cells slots Q pc' loc' stk' h') : W p l e R s m args below meth c H locs cells slots Q (F0 m pc ls (stk.map (cv ad))) := by
  obtain ⟨hx, hb, hml, hown, hts, hK, -⟩ := id C
  unfold arI at hs
  split at hs
  · rename_i i a r
    split at hs
    · rename_i hk
      split at hs
      · rename_i hi
        obtain ⟨rfl, rfl, rfl, rfl⟩ := nx_inv hs
        exact va_iald (D := D) (cl := vwCl) (tys := mtys cA) (ws := mwd ad cA h') (a := ad a) hx hb hK hw.1 a 0 (by rw [mwd_at _ _ _ (shp_lt1 hk (by decide)), mcell_int hk]) rfl (inB_in hi) hd (k ls H locs hl hw)
      · cases hs
    · cases hs
  · cases hs
theorem ok_arL (C : mCtx D cA y p R s m args c cells slots) (hd : decode (md y).2.1 pc = .ok (.laload, 1)) (hs : arL pc loc h stk = some (.inl (pc', loc', stk', h'))) {ls : Array Slot} (hl : mloc ad ls (md y).2.2.1 loc) (hw : mWd D ad cA A H0 h H locs)
    (k : mGo D ad cA A H0 y p l e R s m args below meth c cells slots Q pc' loc' stk' h') : W p l e R s m args below meth c H locs cells slots Q (F0 m pc ls (stk.map (cv ad))) := by
  obtain ⟨hx, hb, hml, hown, hts, hK, -⟩ := id C
  unfold arL at hs
  split at hs
  · rename_i i a r
    split at hs
    · rename_i hk
      split at hs
      · rename_i hi
        obtain ⟨rfl, rfl, rfl, rfl⟩ := nx_inv hs
        exact va_lald (D := D) (cl := vwCl) (tys := mtys cA) (ws := mwd ad cA h') (a := ad a) hx hb hK hw.1 a 1 (by rw [mwd_at _ _ _ (shp_lt1 hk (by decide)), mcell_long hk]) rfl (inB_in hi) hd (k ls H locs hl hw)
      · cases hs
    · cases hs
  · cases hs
theorem ok_arA (C : mCtx D cA y p R s m args c cells slots) (hd : decode (md y).2.1 pc = .ok (.aaload, 1)) (hs : arA pc loc h stk = some (.inl (pc', loc', stk', h'))) {ls : Array Slot} (hl : mloc ad ls (md y).2.2.1 loc) (hw : mWd D ad cA A H0 h H locs)
    (k : mGo D ad cA A H0 y p l e R s m args below meth c cells slots Q pc' loc' stk' h') : W p l e R s m args below meth c H locs cells slots Q (F0 m pc ls (stk.map (cv ad))) := by
  obtain ⟨hx, hb, hml, hown, hts, hK, -⟩ := id C
  unfold arA at hs
  split at hs
  · rename_i i a r
    split at hs
    · rename_i hk
      split at hs
      · rename_i hi
        obtain ⟨rfl, rfl, rfl, rfl⟩ := nx_inv hs
        exact va_aldq (D := D) (cl := vwCl) (tys := mtys cA) (ws := mwd ad cA h') (a := ad a) (f := fun j => some (ad (a + 1 + j))) hx hb hK hw.1 a 2 (by rw [mwd_at _ _ _ (shp_lt1 hk (by decide)), mcell_sheet hk]) rfl (inB_in hi) hd (k ls H locs hl hw)
      · cases hs
    · cases hs
  · cases hs
theorem ok_asI (C : mCtx D cA y p R s m args c cells slots) (hA : mAd ad A H0) (hd : decode (md y).2.1 pc = .ok (.iastore, 1)) (hs : asI pc loc h stk = some (.inl (pc', loc', stk', h'))) {ls : Array Slot} (hl : mloc ad ls (md y).2.2.1 loc) (hw : mWd D ad cA A H0 h H locs)
    (k : mGo D ad cA A H0 y p l e R s m args below meth c cells slots Q pc' loc' stk' h') : W p l e R s m args below meth c H locs cells slots Q (F0 m pc ls (stk.map (cv ad))) := by
  obtain ⟨hx, hb, hml, hown, hts, hK, -⟩ := id C
  unfold asI at hs
  split at hs
  · rename_i x i a r
    split at hs
    · rename_i hk
      split at hs
      · rename_i hi
        obtain ⟨rfl, rfl, rfl, rfl⟩ := nx_inv hs
        have hlt := shp_lt1 hk (by decide)
        refine va_iast (D := D) (cl := vwCl) (tys := mtys cA) (ws := mwd ad cA h) (A := A) (H0 := H0) (a := ad a) hx hb hK hw.1 (mwd_D hA h) hw.2 a 0 (by rw [mwd_at _ _ _ hlt, mcell_int hk]) rfl (inB_in hi) hd (fun H1 locs1 hP1 _ hS1 => ?_)
        have e : upd (gI h a) i.toNatClampNeg x = gI (sI h a i.toNatClampNeg x) a := by
          funext b
          rw [gI_sI]
          simp [upd]
        rw [e, ← mcell_int (cA := cA) (ad := ad) hk, mwd_set hlt (fun b hb => mcell_sI hb)] at hP1
        exact k ls H1 locs1 hl ⟨hP1, hS1⟩
      · cases hs
    · cases hs
  · cases hs
theorem ok_asL (C : mCtx D cA y p R s m args c cells slots) (hA : mAd ad A H0) (hd : decode (md y).2.1 pc = .ok (.lastore, 1)) (hs : asL pc loc h stk = some (.inl (pc', loc', stk', h'))) {ls : Array Slot} (hl : mloc ad ls (md y).2.2.1 loc) (hw : mWd D ad cA A H0 h H locs)
    (k : mGo D ad cA A H0 y p l e R s m args below meth c cells slots Q pc' loc' stk' h') : W p l e R s m args below meth c H locs cells slots Q (F0 m pc ls (stk.map (cv ad))) := by
  obtain ⟨hx, hb, hml, hown, hts, hK, -⟩ := id C
  unfold asL at hs
  split at hs
  · rename_i x i a r
    split at hs
    · rename_i hk
      split at hs
      · rename_i hi
        obtain ⟨rfl, rfl, rfl, rfl⟩ := nx_inv hs
        have hlt := shp_lt1 hk (by decide)
        refine va_last (D := D) (cl := vwCl) (tys := mtys cA) (ws := mwd ad cA h) (A := A) (H0 := H0) (a := ad a) hx hb hK hw.1 (mwd_D hA h) hw.2 a 1 (by rw [mwd_at _ _ _ hlt, mcell_long hk]) rfl (inB_in hi) hd (fun H1 locs1 hP1 _ hS1 => ?_)
        have e : vp_updL (gJ h a) i.toNatClampNeg x = gJ (sJ h a i.toNatClampNeg x) a := by
          funext b
          rw [gJ_sJ]
          simp [vp_updL]
        rw [e, ← mcell_long (cA := cA) (ad := ad) hk, mwd_set hlt (fun b hb => mcell_sJ hb)] at hP1
        exact k ls H1 locs1 hl ⟨hP1, hS1⟩
      · cases hs
    · cases hs
  · cases hs
end SND
end
section
def roomOK (d : mD) : Bool := d.2.2.2.2.2.2.2.2.all fun q => (!(q.2.1 == 9 || q.2.1 == 10) || (decide (1 ≤ d.2.2.2.2.2.1) && decide (21 ≤ d.2.2.2.2.2.2.1))) && (!(q.2.1 == 11) || (decide (1 ≤ d.2.2.2.2.2.1) && decide (26 ≤ d.2.2.2.2.2.2.1)))
theorem mtab_room : mtab.all roomOK = true := by decide +kernel
theorem md_max (y j : Nat) (h : (lk y j).1 = 9) : 1 ≤ (md y).2.2.2.2.2.1 ∧ 21 ≤ (md y).2.2.2.2.2.2.1 := by
  rcases lkF_in (md y).2.2.2.2.2.2.2.2 j with h1 | h1
  · exact absurd (h.symm.trans h1) (by decide)
  · have h2 := List.all_eq_true.mp (List.all_eq_true.mp mtab_room _ (md_in y)) _ h1
    have h : (lkF (md y).2.2.2.2.2.2.2.2 j).1 = 9 := h
    simp [h] at h2
    exact h2
theorem md_min (y j : Nat) (h : (lk y j).1 = 10) : 1 ≤ (md y).2.2.2.2.2.1 ∧ 21 ≤ (md y).2.2.2.2.2.2.1 := by
  rcases lkF_in (md y).2.2.2.2.2.2.2.2 j with h1 | h1
  · exact absurd (h.symm.trans h1) (by decide)
  · have h2 := List.all_eq_true.mp (List.all_eq_true.mp mtab_room _ (md_in y)) _ h1
    have h : (lkF (md y).2.2.2.2.2.2.2.2 j).1 = 10 := h
    simp [h] at h2
    exact h2
theorem md_acp (y j : Nat) (h : (lk y j).1 = 11) : 1 ≤ (md y).2.2.2.2.2.1 ∧ 26 ≤ (md y).2.2.2.2.2.2.1 := by
  rcases lkF_in (md y).2.2.2.2.2.2.2.2 j with h1 | h1
  · exact absurd (h.symm.trans h1) (by decide)
  · have h2 := List.all_eq_true.mp (List.all_eq_true.mp mtab_room _ (md_in y)) _ h1
    have h : (lkF (md y).2.2.2.2.2.2.2.2 j).1 = 11 := h
    simp [h] at h2
    exact h2
end
section
/-! The step that goes on, all instructions. -/
section SNX
variable {p : Program} {l : Launch} {e : Env} {R : Room} {s : State} {m : MethodId} {args : Array Value} {below : List Frame} {meth : Method} {c : Code} {H : Heap} {locs : List Loc} {cells slots : Nat} {Q : State → Prop}
variable {D : va_G} {ad : Nat → Nat} {cA : Nat → ClassId} {A : Nat → Prop} {H0 : Heap}
variable {y pc pc' : Nat} {loc loc' : mL} {stk stk' : List Value} {h h' : mH}
theorem swi_inv {r : List Value} {x : Int32} {dflt : Int} : ∀ {qs : List (Int × Int)}, (∀ q ∈ qs, -1000 < q.1 ∧ q.1 < 1000) → swi pc loc r h x dflt qs = some (.inl (pc', loc', stk', h')) → ∃ off, Op.lookupswitch.offset qs dflt x.toInt = off ∧ jok pc off = true ∧ pc' = jmp pc off ∧ loc' = loc ∧ stk' = r ∧ h' = h
  | [], _, hs => by
    unfold swi at hs
    split at hs
    · rename_i hj; obtain ⟨h1, h2, h3, h4⟩ := nx_inv hs
      exact ⟨dflt, rfl, hj, h1, h2, h3, h4⟩
    · cases hs
  | q :: qs, hq, hs => by
    unfold swi at hs
    have hb := hq q List.mem_cons_self
    have hi : (Int32.ofInt q.1).toInt = q.1 := Int32.toInt_ofInt_of_le (by omega) (by omega)
    have e : Op.lookupswitch.offset (q :: qs) dflt x.toInt = if q.1 = x.toInt then q.2 else Op.lookupswitch.offset qs dflt x.toInt := rfl
    split at hs
    · rename_i hx
      split at hs
      · rename_i hj; obtain ⟨h1, h2, h3, h4⟩ := nx_inv hs
        exact ⟨q.2, by rw [e, if_pos (by rw [hx, hi])], hj, h1, h2, h3, h4⟩
      · cases hs
    · rename_i hx
      obtain ⟨off, h1, h2⟩ := swi_inv (fun q' h' => hq q' (List.mem_cons_of_mem _ h')) hs
      exact ⟨off, by rw [e, if_neg (fun z => hx (Int32.toInt_inj.mp (by rw [hi]; exact z.symm)))]; exact h1, h2⟩
theorem tbl_off (d k : Int) : ∀ (os : List Int) (lo : Int), ((k < lo ∨ lo + os.length ≤ k) → Op.lookupswitch.offset (tbl lo os) d k = d) ∧ (∀ (n : Nat) (o : Int), os[n]? = some o → k = lo + n → Op.lookupswitch.offset (tbl lo os) d k = o)
  | [], lo => ⟨fun _ => rfl, fun n o h => by simp at h⟩
  | o :: os, lo => by
    have ih := tbl_off d k os (lo + 1)
    have e : Op.lookupswitch.offset (tbl lo (o :: os)) d k = if lo = k then o else Op.lookupswitch.offset (tbl (lo + 1) os) d k := rfl
    refine ⟨fun h => ?_, fun n o' h hk => ?_⟩
    · have hl : ((o :: os).length : Int) = (os.length : Int) + 1 := by simp
      rw [e, if_neg (by omega)]
      exact ih.1 (by omega)
    · cases n with
      | zero =>
        have h : some o = some o' := h
        cases h
        rw [e, if_pos (by omega)]
      | succ n =>
        rw [e, if_neg (by omega)]
        exact ih.2 n o' h (by omega)
theorem tbl_in (lo : Int) : ∀ (os : List Int) (b : Int), lo ≤ b → ∀ q ∈ tbl b os, lo ≤ q.1 ∧ q.1 < b + os.length
  | [], _, _, _, h => by cases h
  | o :: os, b, hb, q, h => by
    have hl : ((o :: os).length : Int) = (os.length : Int) + 1 := by simp
    rcases List.mem_cons.mp h with rfl | h
    · exact ⟨hb, by simp only []; omega⟩
    · have := tbl_in lo os (b + 1) (by omega) q h
      omega
theorem cats_cv (ad : Nat → Nat) (r : List Value) : ((r.map (cv ad)).map fun v => v.category).sum = cats r := by
  unfold cats
  rw [List.map_map]
  congr 1
  exact List.map_congr_left fun v _ => cv_cat ad v
set_option maxHeartbeats 4000000 in
theorem ok_next (C : mCtx D cA y p R s m args c cells slots) (hA : mAd ad A H0) {i : Instr} {len : Nat} (hd : decode (md y).2.1 pc = .ok (i, len)) (hn : lok i len = true) (hs : stI y pc loc stk h i = some (.inl (pc', loc', stk', h'))) {ls : Array Slot} (hl : mloc ad ls (md y).2.2.1 loc) (hw : mWd D ad cA A H0 h H locs)
    (k : mGo D ad cA A H0 y p l e R s m args below meth c cells slots Q pc' loc' stk' h') : W p l e R s m args below meth c H locs cells slots Q (F0 m pc ls (stk.map (cv ad))) := by
  obtain ⟨hx, hb, hml, hown, hts, hK, hN, hfr, hlo, hce, hsl⟩ := id C
  cases i
  case iconst n =>
    obtain rfl : len = 1 := Nat.eq_of_beq_eq_true hn
    obtain ⟨rfl, rfl, rfl, rfl⟩ := nx_inv hs
    exact lv_iconst hx hb hd rfl (k ls H locs hl hw)
  case bipush n =>
    obtain rfl : len = 2 := Nat.eq_of_beq_eq_true hn
    obtain ⟨rfl, rfl, rfl, rfl⟩ := nx_inv hs
    exact lv_bipush hx hb hd rfl (k ls H locs hl hw)
  case sipush n =>
    obtain rfl : len = 3 := Nat.eq_of_beq_eq_true hn
    obtain ⟨rfl, rfl, rfl, rfl⟩ := nx_inv hs
    exact lv_sipush hx hb hd rfl (k ls H locs hl hw)
  case lconst n =>
    obtain rfl : len = 1 := Nat.eq_of_beq_eq_true hn
    obtain ⟨rfl, rfl, rfl, rfl⟩ := nx_inv hs
    exact lv_lconst hx hb hd rfl (k ls H locs hl hw)
  case aconst_null =>
    obtain rfl : len = 1 := Nat.eq_of_beq_eq_true hn
    obtain ⟨rfl, rfl, rfl, rfl⟩ := nx_inv hs
    exact lv_null hx hb hd (k ls H locs hl hw)
  case ldc j =>
    obtain rfl : len = 2 := Nat.eq_of_beq_eq_true hn
    change (match (lk y j).1 with | 7 => nx (pc + 2) loc (.int (lk y j).2.2.2.toInt32 :: stk) h | _ => none) = some _ at hs
    split at hs
    · rename_i hq
      obtain ⟨rfl, rfl, rfl, rfl⟩ := nx_inv hs
      have h1 := lk_ok y j (by rw [hq]; decide)
      unfold LkOK at h1
      rw [show (j, lk y j).2.1 = 7 from hq] at h1
      exact lv_ldc hx hb hown (hts _ h1) hd (k ls H locs hl hw)
    · cases hs
  case ldc2_w j =>
    obtain rfl : len = 3 := Nat.eq_of_beq_eq_true hn
    change (match (lk y j).1 with | 8 => nx (pc + 3) loc (.long (lk y j).2.2.2 :: stk) h | _ => none) = some _ at hs
    split at hs
    · rename_i hq
      obtain ⟨rfl, rfl, rfl, rfl⟩ := nx_inv hs
      have h1 := lk_ok y j (by rw [hq]; decide)
      unfold LkOK at h1
      rw [show (j, lk y j).2.1 = 8 from hq] at h1
      exact lv_ldc2 hx hb hown (hts _ h1) hd (k ls H locs hl hw)
    · cases hs
  case iload_n j =>
    obtain rfl : len = 1 := Nat.eq_of_beq_eq_true hn
    obtain ⟨x, h1, rfl, rfl, rfl, rfl⟩ := ok_ldI (y := y) (ad := ad) (ls := ls) rfl hs hl
    exact lv_iload_n hx hb hd rfl h1 (k ls H locs hl hw)
  case iload j =>
    obtain rfl : len = 2 := Nat.eq_of_beq_eq_true hn
    obtain ⟨x, h1, rfl, rfl, rfl, rfl⟩ := ok_ldI (y := y) (ad := ad) (ls := ls) rfl hs hl
    exact lv_iload hx hb hd h1 (k ls H locs hl hw)
  case lload_n j =>
    obtain rfl : len = 1 := Nat.eq_of_beq_eq_true hn
    obtain ⟨x, h1, rfl, rfl, rfl, rfl⟩ := ok_ldL (y := y) (ad := ad) (ls := ls) rfl hs hl
    exact lv_lload_n hx hb hd rfl h1 (k ls H locs hl hw)
  case lload j =>
    obtain rfl : len = 2 := Nat.eq_of_beq_eq_true hn
    obtain ⟨x, h1, rfl, rfl, rfl, rfl⟩ := ok_ldL (y := y) (ad := ad) (ls := ls) rfl hs hl
    exact lv_lload hx hb hd h1 (k ls H locs hl hw)
  case aload_n j =>
    obtain rfl : len = 1 := Nat.eq_of_beq_eq_true hn
    obtain ⟨h1, rfl, rfl, rfl⟩ := ok_ldA (y := y) (ad := ad) (ls := ls) rfl hs hl
    rcases h1 with ⟨x, h1, rfl⟩ | ⟨h1, rfl⟩
    · exact lv_aload_n hx hb hd rfl h1 (k ls H locs hl hw)
    · exact lv_aload_nN hx hb hd rfl h1 (k ls H locs hl hw)
  case aload j =>
    obtain rfl : len = 2 := Nat.eq_of_beq_eq_true hn
    obtain ⟨h1, rfl, rfl, rfl⟩ := ok_ldA (y := y) (ad := ad) (ls := ls) rfl hs hl
    rcases h1 with ⟨x, h1, rfl⟩ | ⟨h1, rfl⟩
    · exact lv_aload hx hb hd h1 (k ls H locs hl hw)
    · exact lv_aloadN hx hb hd h1 (k ls H locs hl hw)
  case istore_n j =>
    obtain rfl : len = 1 := Nat.eq_of_beq_eq_true hn
    obtain ⟨x, r, rfl, h1, rfl, rfl, rfl, rfl⟩ := ok_stoI hs
    exact lv_istore_n hx hb hd rfl (mloc_has hl) (by rw [← hl.2.2.1]; exact h1) rfl (fun ls2 hl2 => k ls2 H locs (mloc_st1 (v := .int x) hl hl2) hw)
  case lstore_n j =>
    obtain rfl : len = 1 := Nat.eq_of_beq_eq_true hn
    obtain ⟨x, r, rfl, h1, rfl, rfl, rfl, rfl⟩ := ok_stoL hs
    exact lv_lstore_n hx hb hd rfl (mloc_has hl) (by rw [← hl.2.2.1]; exact h1) rfl (fun ls2 hl2 => k ls2 H locs (mloc_st2 (v := .long x) hl hl2) hw)
  case astore_n j =>
    obtain rfl : len = 1 := Nat.eq_of_beq_eq_true hn
    obtain ⟨v, r, hv, rfl, h1, rfl, rfl, rfl, rfl⟩ := ok_stoA hs
    rcases hv with ⟨x, rfl⟩ | rfl
    · exact lv_astore_n hx hb hd rfl (mloc_has hl) (by rw [← hl.2.2.1]; exact h1) rfl (fun ls2 hl2 => k ls2 H locs (mloc_st1 (v := .ref x) hl hl2) hw)
    · exact lv_astore_nN hx hb hd rfl (mloc_has hl) (by rw [← hl.2.2.1]; exact h1) rfl (fun ls2 hl2 => k ls2 H locs (mloc_st1 (v := .null) hl hl2) hw)
  case istore j =>
    obtain rfl : len = 2 := Nat.eq_of_beq_eq_true hn
    obtain ⟨x, r, rfl, h1, rfl, rfl, rfl, rfl⟩ := ok_stoI hs
    exact lv_istore hx hb hd (mloc_has hl) (by rw [← hl.2.2.1]; exact h1) rfl (fun ls2 hl2 => k ls2 H locs (mloc_st1 (v := .int x) hl hl2) hw)
  case lstore j =>
    obtain rfl : len = 2 := Nat.eq_of_beq_eq_true hn
    obtain ⟨x, r, rfl, h1, rfl, rfl, rfl, rfl⟩ := ok_stoL hs
    exact lv_lstore hx hb hd (mloc_has hl) (by rw [← hl.2.2.1]; exact h1) rfl (fun ls2 hl2 => k ls2 H locs (mloc_st2 (v := .long x) hl hl2) hw)
  case astore j =>
    obtain rfl : len = 2 := Nat.eq_of_beq_eq_true hn
    obtain ⟨v, r, hv, rfl, h1, rfl, rfl, rfl, rfl⟩ := ok_stoA hs
    rcases hv with ⟨x, rfl⟩ | rfl
    · exact lv_astore hx hb hd (mloc_has hl) (by rw [← hl.2.2.1]; exact h1) rfl (fun ls2 hl2 => k ls2 H locs (mloc_st1 (v := .ref x) hl hl2) hw)
    · exact lv_astoreN hx hb hd (mloc_has hl) (by rw [← hl.2.2.1]; exact h1) rfl (fun ls2 hl2 => k ls2 H locs (mloc_st1 (v := .null) hl hl2) hw)
  case iinc j n =>
    obtain rfl : len = 3 := Nat.eq_of_beq_eq_true hn
    change (match lget loc j with | some (.int x) => nx (pc + 3) (st1 loc j (.int (x + Int32.ofInt n))) stk h | _ => none) = some _ at hs
    split at hs
    · rename_i x hq
      obtain ⟨rfl, rfl, rfl, rfl⟩ := nx_inv hs
      have h1 := asl_in ad loc 0 j _ hq
      rw [Nat.zero_add] at h1
      obtain ⟨a, h2⟩ := List.getElem?_of_mem h1
      exact lv_iinc (k := a) hx hb hd (mloc_has hl) h2 rfl (by rw [← hl.2.2.1]; exact lget_lt _ _ _ hq) rfl (fun ls2 hl2 => k ls2 H locs (mloc_st1 (v := .int (x + Int32.ofInt n)) hl hl2) hw)
    · cases hs
  case iadd =>
    obtain rfl : len = 1 := Nat.eq_of_beq_eq_true hn
    obtain ⟨ho, rfl, rfl, rfl⟩ := nxs_inv hs
    obtain ⟨a, b, r, rfl, rfl⟩ := op2_inv ho
    exact lv_iadd hx hb hd (k ls H locs hl hw)
  case isub =>
    obtain rfl : len = 1 := Nat.eq_of_beq_eq_true hn
    obtain ⟨ho, rfl, rfl, rfl⟩ := nxs_inv hs
    obtain ⟨a, b, r, rfl, rfl⟩ := op2_inv ho
    exact lv_isub hx hb hd (k ls H locs hl hw)
  case imul =>
    obtain rfl : len = 1 := Nat.eq_of_beq_eq_true hn
    obtain ⟨ho, rfl, rfl, rfl⟩ := nxs_inv hs
    obtain ⟨a, b, r, rfl, rfl⟩ := op2_inv ho
    exact lv_imul hx hb hd (k ls H locs hl hw)
  case iand =>
    obtain rfl : len = 1 := Nat.eq_of_beq_eq_true hn
    obtain ⟨ho, rfl, rfl, rfl⟩ := nxs_inv hs
    obtain ⟨a, b, r, rfl, rfl⟩ := op2_inv ho
    exact lv_iand hx hb hd (k ls H locs hl hw)
  case ior =>
    obtain rfl : len = 1 := Nat.eq_of_beq_eq_true hn
    obtain ⟨ho, rfl, rfl, rfl⟩ := nxs_inv hs
    obtain ⟨a, b, r, rfl, rfl⟩ := op2_inv ho
    exact lv_ior hx hb hd (k ls H locs hl hw)
  case ixor =>
    obtain rfl : len = 1 := Nat.eq_of_beq_eq_true hn
    obtain ⟨ho, rfl, rfl, rfl⟩ := nxs_inv hs
    obtain ⟨a, b, r, rfl, rfl⟩ := op2_inv ho
    exact lv_ixor hx hb hd (k ls H locs hl hw)
  case irem =>
    obtain rfl : len = 1 := Nat.eq_of_beq_eq_true hn
    change (match stk with | .int z :: .int x :: r => if z = 0 then none else nx (pc + 1) loc (.int (x - x / z * z) :: r) h | _ => none) = some _ at hs
    split at hs
    · split at hs
      · cases hs
      · rename_i hz
        obtain ⟨rfl, rfl, rfl, rfl⟩ := nx_inv hs
        exact lv_irem hx hb hd hz (k ls H locs hl hw)
    · cases hs
  case ladd =>
    obtain rfl : len = 1 := Nat.eq_of_beq_eq_true hn
    obtain ⟨ho, rfl, rfl, rfl⟩ := nxs_inv hs
    obtain ⟨a, b, r, rfl, rfl⟩ := op2L_inv ho
    exact lv_ladd hx hb hd (k ls H locs hl hw)
  case lsub =>
    obtain rfl : len = 1 := Nat.eq_of_beq_eq_true hn
    obtain ⟨ho, rfl, rfl, rfl⟩ := nxs_inv hs
    obtain ⟨a, b, r, rfl, rfl⟩ := op2L_inv ho
    exact lv_lsub hx hb hd (k ls H locs hl hw)
  case lmul =>
    obtain rfl : len = 1 := Nat.eq_of_beq_eq_true hn
    obtain ⟨ho, rfl, rfl, rfl⟩ := nxs_inv hs
    obtain ⟨a, b, r, rfl, rfl⟩ := op2L_inv ho
    exact lv_lmul hx hb hd (k ls H locs hl hw)
  case land =>
    obtain rfl : len = 1 := Nat.eq_of_beq_eq_true hn
    obtain ⟨ho, rfl, rfl, rfl⟩ := nxs_inv hs
    obtain ⟨a, b, r, rfl, rfl⟩ := op2L_inv ho
    exact lv_land hx hb hd (k ls H locs hl hw)
  case lor =>
    obtain rfl : len = 1 := Nat.eq_of_beq_eq_true hn
    obtain ⟨ho, rfl, rfl, rfl⟩ := nxs_inv hs
    obtain ⟨a, b, r, rfl, rfl⟩ := op2L_inv ho
    exact lv_lor hx hb hd (k ls H locs hl hw)
  case lxor =>
    obtain rfl : len = 1 := Nat.eq_of_beq_eq_true hn
    obtain ⟨ho, rfl, rfl, rfl⟩ := nxs_inv hs
    obtain ⟨a, b, r, rfl, rfl⟩ := op2L_inv ho
    exact lv_lxor hx hb hd (k ls H locs hl hw)
  case lshl =>
    obtain rfl : len = 1 := Nat.eq_of_beq_eq_true hn
    obtain ⟨ho, rfl, rfl, rfl⟩ := nxs_inv hs
    obtain ⟨a, b, r, rfl, rfl⟩ := opSh_inv ho
    exact lv_lshl hx hb hd rfl (k ls H locs hl hw)
  case lshr =>
    obtain rfl : len = 1 := Nat.eq_of_beq_eq_true hn
    obtain ⟨ho, rfl, rfl, rfl⟩ := nxs_inv hs
    obtain ⟨a, b, r, rfl, rfl⟩ := opSh_inv ho
    exact lv_lshr hx hb hd rfl (k ls H locs hl hw)
  case lushr =>
    obtain rfl : len = 1 := Nat.eq_of_beq_eq_true hn
    obtain ⟨ho, rfl, rfl, rfl⟩ := nxs_inv hs
    obtain ⟨a, b, r, rfl, rfl⟩ := opSh_inv ho
    exact lv_lushr hx hb hd rfl (k ls H locs hl hw)
  case lcmp =>
    obtain rfl : len = 1 := Nat.eq_of_beq_eq_true hn
    obtain ⟨ho, rfl, rfl, rfl⟩ := nxs_inv hs
    obtain ⟨a, b, r, rfl, rfl⟩ := opCmp_inv ho
    exact W.lcmp hx hb hd (k ls H locs hl hw)
  case i2l =>
    obtain rfl : len = 1 := Nat.eq_of_beq_eq_true hn
    obtain ⟨ho, rfl, rfl, rfl⟩ := nxs_inv hs
    obtain ⟨a, r, rfl, rfl⟩ := opIL_inv ho
    exact lv_i2l hx hb hd rfl (k ls H locs hl hw)
  case l2i =>
    obtain rfl : len = 1 := Nat.eq_of_beq_eq_true hn
    obtain ⟨ho, rfl, rfl, rfl⟩ := nxs_inv hs
    obtain ⟨a, r, rfl, rfl⟩ := opLI_inv ho
    exact lv_l2i hx hb hd rfl (k ls H locs hl hw)
  case i2b =>
    obtain rfl : len = 1 := Nat.eq_of_beq_eq_true hn
    obtain ⟨ho, rfl, rfl, rfl⟩ := nxs_inv hs
    obtain ⟨a, r, rfl, rfl⟩ := opI_inv ho
    exact lv_i2b hx hb hd rfl (k ls H locs hl hw)
  case i2s =>
    obtain rfl : len = 1 := Nat.eq_of_beq_eq_true hn
    obtain ⟨ho, rfl, rfl, rfl⟩ := nxs_inv hs
    obtain ⟨a, r, rfl, rfl⟩ := opI_inv ho
    exact lv_i2s hx hb hd rfl (k ls H locs hl hw)
  case dup =>
    obtain rfl : len = 1 := Nat.eq_of_beq_eq_true hn
    obtain ⟨ho, rfl, rfl, rfl⟩ := nxs_inv hs
    unfold opDup at ho
    split at ho
    · cases ho; exact lv_dup hx hb hd rfl (k ls H locs hl hw)
    · cases ho; exact lv_dup hx hb hd rfl (k ls H locs hl hw)
    · cases ho
  case dup2 =>
    obtain rfl : len = 1 := Nat.eq_of_beq_eq_true hn
    obtain ⟨ho, rfl, rfl, rfl⟩ := nxs_inv hs
    unfold opDup2 at ho
    split at ho
    · cases ho; exact lv_dup2_2 hx hb hd rfl (k ls H locs hl hw)
    · cases ho; exact lv_dup2_11 hx hb hd rfl rfl (k ls H locs hl hw)
    · cases ho; exact lv_dup2_11 hx hb hd rfl rfl (k ls H locs hl hw)
    · cases ho
  case ifCond cn off =>
    obtain rfl : len = 3 := Nat.eq_of_beq_eq_true hn
    change stIf pc loc h cn off stk = some _ at hs
    unfold stIf at hs
    split at hs
    · split at hs
      · rename_i x r _ hj
        have ht := jmp_ok hj
        have k1 : cnd cn x 0 → W p l e R s m args below meth c H locs cells slots Q (F0 m (jmp pc off) ls (r.map (cv ad))) := fun hc => by
          rcases brn_inv hs with ⟨h1, h2⟩ | ⟨h1, h2⟩
          · obtain ⟨rfl, rfl, rfl, rfl⟩ := nx_inv h2; exact k ls H locs hl hw
          · exact absurd hc h1
        have k2 : ¬ cnd cn x 0 → W p l e R s m args below meth c H locs cells slots Q (F0 m (pc + 3) ls (r.map (cv ad))) := fun hc => by
          rcases brn_inv hs with ⟨h1, h2⟩ | ⟨h1, h2⟩
          · exact absurd h1 hc
          · obtain ⟨rfl, rfl, rfl, rfl⟩ := nx_inv h2; exact k ls H locs hl hw
        cases cn
        · exact lv_if_eq hx hb hd ht k1 k2
        · exact lv_if_ne hx hb hd ht k1 (fun z => k2 (fun q => q z))
        · exact lv_if_lt hx hb hd ht k1 k2
        · exact lv_if_ge hx hb hd ht k1 k2
        · exact lv_if_gt hx hb hd ht k1 k2
        · exact lv_if_le hx hb hd ht k1 k2
      · cases hs
    · cases hs
  case if_icmp cn off =>
    obtain rfl : len = 3 := Nat.eq_of_beq_eq_true hn
    change stCmp pc loc h cn off stk = some _ at hs
    unfold stCmp at hs
    split at hs
    · split at hs
      · rename_i z x r _ hj
        have ht := jmp_ok hj
        have k1 : cnd cn x z → W p l e R s m args below meth c H locs cells slots Q (F0 m (jmp pc off) ls (r.map (cv ad))) := fun hc => by
          rcases brn_inv hs with ⟨h1, h2⟩ | ⟨h1, h2⟩
          · obtain ⟨rfl, rfl, rfl, rfl⟩ := nx_inv h2; exact k ls H locs hl hw
          · exact absurd hc h1
        have k2 : ¬ cnd cn x z → W p l e R s m args below meth c H locs cells slots Q (F0 m (pc + 3) ls (r.map (cv ad))) := fun hc => by
          rcases brn_inv hs with ⟨h1, h2⟩ | ⟨h1, h2⟩
          · exact absurd h1 hc
          · obtain ⟨rfl, rfl, rfl, rfl⟩ := nx_inv h2; exact k ls H locs hl hw
        cases cn
        · exact lv_icmp_eq hx hb hd ht k1 k2
        · exact lv_icmp_ne hx hb hd ht k1 (fun z => k2 (fun q => q z))
        · exact lv_icmp_lt hx hb hd ht k1 k2
        · exact lv_icmp_ge hx hb hd ht k1 k2
        · exact lv_icmp_gt hx hb hd ht k1 k2
        · exact lv_icmp_le hx hb hd ht k1 k2
      · cases hs
    · cases hs
  case goto off =>
    obtain rfl : len = 3 := Nat.eq_of_beq_eq_true hn
    change (match jok pc off with | true => nx (jmp pc off) loc stk h | false => none) = some _ at hs
    split at hs
    · rename_i hj
      obtain ⟨rfl, rfl, rfl, rfl⟩ := nx_inv hs
      exact lv_goto hx hb hd (jmp_ok hj) (k ls H locs hl hw)
    · cases hs
  case ifnull off =>
    obtain rfl : len = 3 := Nat.eq_of_beq_eq_true hn
    change stNull pc loc h off stk = some _ at hs
    unfold stNull at hs
    split at hs
    · split at hs
      · rename_i hj
        obtain ⟨rfl, rfl, rfl, rfl⟩ := nx_inv hs
        exact lv_ifnullN hx hb hd (jmp_ok hj) (k ls H locs hl hw)
      · cases hs
    · obtain ⟨rfl, rfl, rfl, rfl⟩ := nx_inv hs
      exact lv_ifnull hx hb hd (k ls H locs hl hw)
    · cases hs
  case ifnonnull off =>
    obtain rfl : len = 3 := Nat.eq_of_beq_eq_true hn
    change stNon pc loc h off stk = some _ at hs
    unfold stNon at hs
    split at hs
    · split at hs
      · rename_i hj
        obtain ⟨rfl, rfl, rfl, rfl⟩ := nx_inv hs
        exact lv_ifnonnull hx hb hd (jmp_ok hj) (k ls H locs hl hw)
      · cases hs
    · obtain ⟨rfl, rfl, rfl, rfl⟩ := nx_inv hs
      exact lv_ifnonnullN hx hb hd (k ls H locs hl hw)
    · cases hs
  case lookupswitch dflt ps =>
    change stSw pc loc h dflt (swok ps.toList) ps.toList stk = some _ at hs
    unfold stSw at hs
    split at hs
    · split at hs
      · rename_i x r _ hok
        unfold swok at hok
        rw [Bool.and_eq_true] at hok
        obtain ⟨off, h1, h2, rfl, rfl, rfl, rfl⟩ := swi_inv (fun q hq => by
          have := List.all_eq_true.mp hok.2 q hq
          rw [Bool.and_eq_true] at this
          exact ⟨of_decide_eq_true this.1, of_decide_eq_true this.2⟩) hs
        exact lv_lookup hx hb hd hok.1 h1 (jmp_ok h2) (k ls H locs hl hw)
      · cases hs
    · cases hs
  case tableswitch dflt lo hi offs =>
    change stSw pc loc h dflt (tok lo hi offs.toList) (tbl lo offs.toList) stk = some _ at hs
    unfold stSw at hs
    split at hs
    · split at hs
      · rename_i x r _ hok
        unfold tok at hok
        rw [Bool.and_eq_true, Bool.and_eq_true] at hok
        obtain ⟨⟨b1, b2⟩, b3⟩ := hok
        have b1 := of_decide_eq_true b1
        have b2 := of_decide_eq_true b2
        have b3 := of_decide_eq_true b3
        obtain ⟨off, h1, h2, rfl, rfl, rfl, rfl⟩ := swi_inv (fun q hq => by
          have := tbl_in lo offs.toList lo (Int.le_refl _) q hq
          omega) hs
        have ht := tbl_off dflt x.toInt offs.toList lo
        rcases Classical.em (x.toInt < lo ∨ hi < x.toInt) with ho | ho
        · rw [ht.1 (by omega)] at h1
          subst h1
          exact lv_tableOut hx hb hd ho (jmp_ok h2) (k ls H locs hl hw)
        · have hlt : (x.toInt - lo).toNat < offs.toList.length := by omega
          have h3 := ht.2 (x.toInt - lo).toNat offs.toList[(x.toInt - lo).toNat] (List.getElem?_eq_getElem hlt) (by omega)
          rw [h3] at h1
          refine lv_tableIn hx hb hd (fun z => ho (Or.inl z)) (fun z => ho (Or.inr z)) ?_ (jmp_ok h2) (k ls H locs hl hw)
          rw [← Array.getElem?_toList, List.getElem?_eq_getElem hlt, h1]
      · cases hs
    · cases hs
  case getfield j =>
    obtain rfl : len = 3 := Nat.eq_of_beq_eq_true hn
    exact ok_get C hd hs hl hw k
  case putfield j =>
    obtain rfl : len = 3 := Nat.eq_of_beq_eq_true hn
    exact ok_put C hA hd hs hl hw k
  case iaload =>
    obtain rfl : len = 1 := Nat.eq_of_beq_eq_true hn
    exact ok_arI C hd hs hl hw k
  case laload =>
    obtain rfl : len = 1 := Nat.eq_of_beq_eq_true hn
    exact ok_arL C hd hs hl hw k
  case aaload =>
    obtain rfl : len = 1 := Nat.eq_of_beq_eq_true hn
    exact ok_arA C hd hs hl hw k
  case iastore =>
    obtain rfl : len = 1 := Nat.eq_of_beq_eq_true hn
    exact ok_asI C hA hd hs hl hw k
  case lastore =>
    obtain rfl : len = 1 := Nat.eq_of_beq_eq_true hn
    exact ok_asL C hA hd hs hl hw k
  case invokestatic j =>
    obtain rfl : len = 3 := Nat.eq_of_beq_eq_true hn
    change ivS y pc loc h (lk y j) stk = some _ at hs
    have hsz : c.maxLocals = ls.size := by rw [hml, hl.1]
    unfold ivS at hs
    split at hs
    · split at hs
      · unfold cal at hs
        split at hs
        · cases hs
        · cases hs
      · cases hs
    · split at hs
      · unfold cal at hs
        split at hs
        · cases hs
        · cases hs
      · cases hs
    · rename_i hq
      split at hs
      · split at hs
        · rename_i hc
          obtain ⟨rfl, rfl, rfl, rfl⟩ := nx_inv hs
          have hc := Nat.le_of_ble_eq_true hc
          have h1 := lk_ok y j (by rw [hq]; decide)
          unfold LkOK at h1
          rw [show (j, lk y j).2.1 = 9 from hq] at h1
          have hR := md_max y j hq
          exact va_mmax hx hb hsz hown (hts _ h1) (hts _ mx_ok.1) (hts _ mx_ok.2.1) (hts _ mx_ok.2.2) (by omega) (by rw [cats_cv]; omega) hce hsl hd (k ls H locs hl hw)
        · cases hs
      · cases hs
    · rename_i hq
      split at hs
      · split at hs
        · rename_i hc
          obtain ⟨rfl, rfl, rfl, rfl⟩ := nx_inv hs
          have hc := Nat.le_of_ble_eq_true hc
          have h1 := lk_ok y j (by rw [hq]; decide)
          unfold LkOK at h1
          rw [show (j, lk y j).2.1 = 10 from hq] at h1
          have hR := md_min y j hq
          exact va_mmin hx hb hsz hown (hts _ h1) (hts _ mn_ok.1) (hts _ mn_ok.2.1) (hts _ mn_ok.2.2) (by omega) (by rw [cats_cv]; omega) hce hsl hd (k ls H locs hl hw)
        · cases hs
      · cases hs
    · rename_i hq
      split at hs
      · rename_i n dp b sp a r
        split at hs
        · rename_i hc
          have hc := Nat.le_of_ble_eq_true hc
          split at hs
          · rename_i hg
            obtain ⟨⟨g1, g2⟩, ⟨g3, g4, g5⟩, g6, g7⟩ := hg
            obtain ⟨rfl, rfl, rfl, rfl⟩ := nx_inv hs
            have h1 := lk_ok y j (by rw [hq]; decide)
            unfold LkOK at h1
            rw [show (j, lk y j).2.1 = 11 from hq] at h1
            have hR := md_acp y j hq
            refine va_copyi (D := D) (cl := vwCl) (tys := mtys cA) (ws := mwd ad cA h) (A := A) (H0 := H0) (a := ad b) (a0 := ad a) (ty := .int) hx hb hsz hown (hts _ h1) (hts _ ac_ok.1) (hts _ ac_ok.2.1) (hts _ ac_ok.2.2) hK hw.1 (mwd_D hA h) hw.2 a b 0 0 (by rw [mwd_at _ _ _ (shp_lt1 g1 (by decide)), mcell_int g1]) (by rw [mwd_at _ _ _ (shp_lt1 g2 (by decide)), mcell_int g2]) rfl rfl rfl (Int32.not_lt.mpr g3) (Int32.not_lt.mpr g4) (Int32.not_lt.mpr g5) g6 g7 (fun _ _ => rfl) (by omega) (by rw [cats_cv]; exact Nat.le_trans (Nat.add_le_add_right hc _) (Nat.le_trans (by decide) (Nat.le_trans hR.2 hlo))) hd (fun H1 locs1 hP1 _ hS1 => ?_)
            have e : va_cpy (gI h a) (gI h b) sp.toNatClampNeg dp.toNatClampNeg n.toNatClampNeg = gI (cpI h a sp.toNatClampNeg b dp.toNatClampNeg n.toNatClampNeg) b := by
              funext q
              rw [gI_cpI]
              unfold va_cpy
              simp
            rw [e, ← mcell_int (cA := cA) (ad := ad) g2, mwd_set (shp_lt1 g2 (by decide)) (fun q hq => mcell_cpI hq)] at hP1
            exact k ls H1 locs1 hl ⟨hP1, hS1⟩
          · cases hs
        · cases hs
      · cases hs
    · cases hs
  case invokevirtual j =>
    change ivV y pc loc (lk y j) stk = some _ at hs
    unfold ivV at hs
    split at hs
    · split at hs
      · split at hs
        · split at hs
          · unfold cal at hs
            split at hs
            · cases hs
            · cases hs
          · cases hs
        · cases hs
      · cases hs
    · cases hs
  case ireturn =>
    change rtI (md y).2.2.2.1 stk = some _ at hs
    unfold rtI at hs
    split at hs
    · cases hs
    · split at hs
      · cases hs
      · cases hs
    · cases hs
  case lreturn =>
    change rtL (md y).2.2.2.1 stk = some _ at hs
    unfold rtL at hs
    split at hs <;> cases hs
  case areturn =>
    change rtA (md y).2.2.2.1 stk = some _ at hs
    unfold rtA at hs
    split at hs <;> cases hs
  case return_ =>
    change rtV (md y).2.2.2.1 stk = some _ at hs
    unfold rtV at hs
    split at hs <;> cases hs
  all_goals exact nomatch (show (none : mR) = some (.inl (pc', loc', stk', h')) from hs)
end SNX
end
section
/-! Calls, ends, and the whole run. -/
theorem nxs_no {pc : Nat} {loc : mL} {o : Option (List Value)} {h : mH} {q : (Nat × List Value × Nat × mL × List Value) ⊕ Option Value} : ¬ nxs pc loc h o = some (.inr q) := by
  intro hs
  cases o <;> cases hs
theorem swi_no {pc : Nat} {loc : mL} {h : mH} {r : List Value} {x : Int32} {dflt : Int} {q : (Nat × List Value × Nat × mL × List Value) ⊕ Option Value} : ∀ {qs : List (Int × Int)}, ¬ swi pc loc r h x dflt qs = some (.inr q)
  | [] => fun hs => by unfold swi at hs; split at hs <;> cases hs
  | a :: qs => fun hs => by
    unfold swi at hs
    split at hs
    · split at hs <;> cases hs
    · exact swi_no hs
theorem stSw_no {pc : Nat} {loc : mL} {h : mH} {dflt : Int} {ok : Bool} {qs : List (Int × Int)} {stk : List Value} {q : (Nat × List Value × Nat × mL × List Value) ⊕ Option Value} : ¬ stSw pc loc h dflt ok qs stk = some (.inr q) := by
  intro hs
  unfold stSw at hs
  split at hs
  · split at hs
    · exact swi_no hs
    · cases hs
  · cases hs
theorem nest_form : ∀ w ∈ mnest, ∃ a i x h, w = Cond.methodLinkNest a i x h := by
  intro w hw
  simp only [mnest, List.mem_cons, List.not_mem_nil, or_false] at hw
  rcases hw with rfl | rfl | rfl | rfl | rfl | rfl | rfl | rfl | rfl | rfl | rfl | rfl | rfl | rfl | rfl | rfl | rfl <;> exact ⟨_, _, _, _, rfl⟩
def mws (y : Nat) : List Cond := Cond.code (md y).1 (md y).2.1 (md y).2.2.1 (md y).2.2.2.1 :: mgood
theorem mws_good (y : Nat) : GoodIn mgood (mws y) := by
  intro w hw
  have h1 : w ∈ mgood := by
    rcases List.mem_cons.mp hw with rfl | h
    · exact (md_ok y).1
    · exact h
  exact ⟨h1, good_of_word (List.mem_filter.mp h1).2⟩
def mA (ad : Nat → Nat) (sz : Nat) : Nat → Prop := fun q => (∃ k, k < 43 ∧ q = ad k) ∨ sz ≤ q
def mPc (D : va_G) (ad : Nat → Nat) (cA : Nat → ClassId) (as : List Value) (h : mH) (sz : Nat) : Array Value → State → Prop := fun v U => v = (as.map (cv ad)).toArray ∧ U.heap.size = sz ∧ va_P D vwCl (mwd ad cA h) U.heap ∧ va_K D vwCl (mtys cA) U ∧ ∀ w ∈ mnest, va_Nw w U
def mQc (D : va_G) (ad : Nat → Nat) (cA : Nat → ClassId) (r : Option Value) (h' : mH) (A : Nat → Prop) : Array Value → State → Outcome → State → Prop := fun _ st oc t => oc = .returned (r.map (cv ad)) ∧ va_P D vwCl (mwd ad cA h') t.heap ∧ va_F A st t
abbrev mRm (y : Nat) : Room := { frames := (md y).2.2.2.2.2.1, cells := 0, slots := 0, locals := (md y).2.2.2.2.2.2.1 }
/-- the contract of a method at one start and end of the mini machine -/
def mMet (l : Launch) (D : va_G) (ad : Nat → Nat) (cA : Nat → ClassId) (y : Nat) (as : List Value) (h : mH) (r : Option Value) (h' : mH) : Prop := ∀ sz : Nat, Met l (md y).1 (mws y) (mRm y) (mPc D ad cA as h sz) (mQc D ad cA r h' (mA ad sz)) 0 0 (mA ad sz)
theorem mPc_blind (D : va_G) (ad : Nat → Nat) (cA : Nat → ClassId) (as : List Value) (h : mH) (sz : Nat) : FrameBlind (mPc D ad cA as h sz) := by
  intro a U g mk hq
  obtain ⟨q0, q1, qP, qK, qN⟩ := hq
  refine ⟨q0, q1, qP, va_K.moved (u := U) (U := U.calling g mk a) (Vm.Alike.refl U.vm) qK, fun w hw => ?_⟩
  obtain ⟨a1, i, x, h1, rfl⟩ := nest_form w hw
  exact va_Nw.same (u := U) (U := U.calling g mk a) rfl rfl (qN _ hw)
section SCL
variable {p : Program} {l : Launch} {e : Env} {R : Room} {s : State} {m : MethodId} {args : Array Value} {below : List Frame} {meth : Method} {c : Code} {H : Heap} {locs : List Loc} {cells slots : Nat} {Q : State → Prop}
variable {D : va_G} {ad : Nat → Nat} {cA : Nat → ClassId} {A : Nat → Prop} {H0 : Heap}
variable {y pc pc' : Nat} {loc loc' : mL} {stk stk' : List Value} {h h' : mH}
theorem mPc_of {as : List Value} (hP : va_P D vwCl (mwd ad cA h) H) (hK : va_K D vwCl (mtys cA) s) (hN : ∀ w ∈ mnest, va_Nw w s) : ∀ U : State, U.heap = H → s.WarmedH U.vm → mPc D ad cA as h H.size (as.map (cv ad)).toArray U := by
  intro U hU hW
  refine ⟨rfl, by rw [hU], by rw [hU]; exact hP, va_K.moved hW.alike hK, fun w hw => ?_⟩
  obtain ⟨a1, i, x, h1, rfl⟩ := nest_form w hw
  exact va_Nw.warmM hW (hN _ hw)
theorem m_call {ls : Array Slot} {st0 rest : List Value} {a : Array Value} {v : Option Value} (hA : mAd ad A H0) (hr : va_Run p l e R s m args below meth c H locs cells slots 0 0 (F0 m pc ls st0) rest (mQc D ad cA v h' (mA ad H.size) a) (mA ad H.size)) (hS : va_S A H0 H locs)
    (kk : ∀ (H1 : Heap) (locs1 : List Loc), va_P D vwCl (mwd ad cA h') H1 → va_S A H0 H1 locs1 → W p l e R s m args below meth c H1 locs1 cells slots Q (F0 m (pc + 3) ls ((v.map (cv ad)).toList ++ rest))) : W p l e R s m args below meth c H locs cells slots Q (F0 m pc ls st0) := by
  have hF : ∀ q, mA ad H.size q → A q := by
    rintro q (⟨k, hk, rfl⟩ | hq)
    · exact hA.2.1 k hk
    · exact hA.2.2 q (Nat.le_trans hS.1 hq)
  intro T hT X
  obtain ⟨v', st₀, t, T', L, h0, X', hL, e1, e2, ⟨ho, hP, hz, hk⟩, st⟩ := hr T hT X
  cases ho
  rw [h0] at hz hk
  obtain ⟨t2, a1, b1⟩ := kk T'.heap (locs ++ L) (by rw [e1]; exact hP)
    ⟨Nat.le_trans hS.1 (by rw [e1]; exact hz), fun q h1 h2 => by rw [e1, hk q (Nat.lt_of_lt_of_le h1 hS.1) (fun z => h2 (hF q z))]; exact hS.2.1 q h1 h2, fun q hq => by
      rcases List.mem_append.mp hq with h | h
      · exact hS.2.2 q h
      · exact hF _ (hL q h)⟩ T' rfl X'
  exact ⟨t2, st t2 a1, b1⟩
theorem retK_eq {t : Option FieldType} {v : Option Value} {vs : List Value} (hv : retK t v = some vs) : vs = v.toList := by
  unfold retK at hv
  split at hv <;> cases hv <;> rfl
theorem cal_inv {y' y2 : Nat} {as as2 r r2 : List Value} (hs : cal y y' pc loc as r = some (.inr (.inl (y2, as2, pc', loc', r2)))) : (md y').2.2.2.2.2.1 + 1 ≤ (md y).2.2.2.2.2.1 ∧ 8 + ((md y').2.2.1 + 11) + (md y').2.2.2.2.2.2.1 ≤ (md y).2.2.2.2.2.2.1 ∧ cats r ≤ 8 ∧ wds as ≤ (md y').2.2.1 ∧ y2 = y' ∧ as2 = as ∧ pc' = pc + 3 ∧ loc' = loc ∧ r2 = r := by
  unfold cal at hs
  split at hs
  · rename_i hb
    simp only [Bool.and_eq_true] at hb
    obtain ⟨⟨⟨⟨b1, b2⟩, b3⟩, b4⟩, b5⟩ := hb
    cases hs
    exact ⟨Nat.le_of_ble_eq_true b1, Nat.le_of_ble_eq_true b2, Nat.le_of_ble_eq_true b3, Nat.le_of_ble_eq_true b4, rfl, rfl, rfl, rfl, rfl⟩
  · cases hs
/-- a call: which instruction, and that what it calls has room -/
theorem stI_call {i : Instr} {y' : Nat} {as r : List Value} (hs : stI y pc loc stk h i = some (.inr (.inl (y', as, pc', loc', r)))) : pc' = pc + 3 ∧ loc' = loc ∧ (md y').2.2.2.2.2.1 + 1 ≤ (md y).2.2.2.2.2.1 ∧ 8 + ((md y').2.2.1 + 11) + (md y').2.2.2.2.2.2.1 ≤ (md y).2.2.2.2.2.2.1 ∧ cats r ≤ 8 ∧ wds as ≤ (md y').2.2.1 ∧
    ((∃ j, i = .invokestatic j ∧ as.length = (md y').2.2.2.2.2.2.2.1 ∧ stk = as.reverse ++ r ∧ (((lk y j).1 = 3 ∧ (lk y j).2.1 = y') ∨ ((lk y j).1 = 5 ∧ (lk y j).2.1 = y'))) ∨
     (∃ j k as', i = .invokevirtual j ∧ as = .ref k :: as' ∧ as'.length = (md y').2.2.2.2.2.2.2.1 ∧ stk = as'.reverse ++ .ref k :: r ∧ (lk y j).1 = 4 ∧ (lk y j).2.1 = y' ∧ shp k = (0, (lk y j).2.2.1))) := by
  cases i
  case invokestatic j =>
    change ivS y pc loc h (lk y j) stk = some _ at hs
    unfold ivS at hs
    split at hs
    · rename_i hq
      split at hs
      · rename_i hb
        have hb := Nat.le_of_ble_eq_true hb
        obtain ⟨h1, h2, h3, h4, rfl, rfl, h7, h8, rfl⟩ := cal_inv hs
        refine ⟨h7, h8, h1, h2, h3, h4, Or.inl ⟨j, rfl, ?_, ?_, Or.inl ⟨hq, rfl⟩⟩⟩
        · rw [List.length_reverse, List.length_take]; omega
        · rw [List.reverse_reverse, List.take_append_drop]
      · cases hs
    · rename_i hq
      split at hs
      · rename_i hb
        have hb := Nat.le_of_ble_eq_true hb
        obtain ⟨h1, h2, h3, h4, rfl, rfl, h7, h8, rfl⟩ := cal_inv hs
        refine ⟨h7, h8, h1, h2, h3, h4, Or.inl ⟨j, rfl, ?_, ?_, Or.inr ⟨hq, rfl⟩⟩⟩
        · rw [List.length_reverse, List.length_take]; omega
        · rw [List.reverse_reverse, List.take_append_drop]
      · cases hs
    · split at hs
      · split at hs <;> cases hs
      · cases hs
    · split at hs
      · split at hs <;> cases hs
      · cases hs
    · split at hs
      · split at hs
        · split at hs <;> cases hs
        · cases hs
      · cases hs
    · cases hs
  case invokevirtual j =>
    change ivV y pc loc (lk y j) stk = some _ at hs
    unfold ivV at hs
    split at hs
    · rename_i hq
      split at hs
      · rename_i hb
        have hb := Nat.le_of_ble_eq_true hb
        split at hs
        · rename_i k r1 hdr
          split at hs
          · rename_i hk
            obtain ⟨h1, h2, h3, h4, rfl, rfl, h7, h8, rfl⟩ := cal_inv hs
            refine ⟨h7, h8, h1, h2, h3, h4, Or.inr ⟨j, k, _, rfl, rfl, ?_, ?_, hq, rfl, hk⟩⟩
            · rw [List.length_reverse, List.length_take]; omega
            · rw [List.reverse_reverse, ← hdr, List.take_append_drop]
          · cases hs
        · cases hs
      · cases hs
    · cases hs
  case ldc j => change (match (lk y j).1 with | 7 => nx (pc + 2) loc (.int (lk y j).2.2.2.toInt32 :: stk) h | _ => none) = some _ at hs; split at hs <;> cases hs
  case ldc2_w j => change (match (lk y j).1 with | 8 => nx (pc + 3) loc (.long (lk y j).2.2.2 :: stk) h | _ => none) = some _ at hs; split at hs <;> cases hs
  case iload_n j => change ldI _ _ _ _ _ = some _ at hs; unfold ldI at hs; split at hs <;> cases hs
  case iload j => change ldI _ _ _ _ _ = some _ at hs; unfold ldI at hs; split at hs <;> cases hs
  case lload_n j => change ldL _ _ _ _ _ = some _ at hs; unfold ldL at hs; split at hs <;> cases hs
  case lload j => change ldL _ _ _ _ _ = some _ at hs; unfold ldL at hs; split at hs <;> cases hs
  case aload_n j => change ldA _ _ _ _ _ = some _ at hs; unfold ldA at hs; split at hs <;> cases hs
  case aload j => change ldA _ _ _ _ _ = some _ at hs; unfold ldA at hs; split at hs <;> cases hs
  case istore_n j => change stoI _ _ _ _ _ = some _ at hs; unfold stoI at hs; split at hs <;> first | (split at hs <;> cases hs) | cases hs
  case istore j => change stoI _ _ _ _ _ = some _ at hs; unfold stoI at hs; split at hs <;> first | (split at hs <;> cases hs) | cases hs
  case lstore_n j => change stoL _ _ _ _ _ = some _ at hs; unfold stoL at hs; split at hs <;> first | (split at hs <;> cases hs) | cases hs
  case lstore j => change stoL _ _ _ _ _ = some _ at hs; unfold stoL at hs; split at hs <;> first | (split at hs <;> cases hs) | cases hs
  case astore_n j => change stoA _ _ _ _ _ = some _ at hs; unfold stoA at hs; split at hs <;> first | (split at hs <;> cases hs) | cases hs
  case astore j => change stoA _ _ _ _ _ = some _ at hs; unfold stoA at hs; split at hs <;> first | (split at hs <;> cases hs) | cases hs
  case iinc j n => change (match lget loc j with | some (.int x) => nx (pc + 3) (st1 loc j (.int (x + Int32.ofInt n))) stk h | _ => none) = some _ at hs; split at hs <;> cases hs
  case irem => change (match stk with | .int z :: .int x :: r => if z = 0 then none else nx (pc + 1) loc (.int (x - x / z * z) :: r) h | _ => none) = some _ at hs; split at hs <;> first | (split at hs <;> cases hs) | cases hs
  case ifCond cn off =>
    change stIf pc loc h cn off stk = some _ at hs
    unfold stIf at hs
    split at hs
    · split at hs
      · rcases brn_inv hs with ⟨_, h2⟩ | ⟨_, h2⟩ <;> cases h2
      · cases hs
    · cases hs
  case if_icmp cn off =>
    change stCmp pc loc h cn off stk = some _ at hs
    unfold stCmp at hs
    split at hs
    · split at hs
      · rcases brn_inv hs with ⟨_, h2⟩ | ⟨_, h2⟩ <;> cases h2
      · cases hs
    · cases hs
  case goto off => change (match jok pc off with | true => nx (jmp pc off) loc stk h | false => none) = some _ at hs; split at hs <;> cases hs
  case ifnull off => change stNull pc loc h off stk = some _ at hs; unfold stNull at hs; split at hs <;> first | (split at hs <;> cases hs) | cases hs
  case ifnonnull off => change stNon pc loc h off stk = some _ at hs; unfold stNon at hs; split at hs <;> first | (split at hs <;> cases hs) | cases hs
  case lookupswitch dflt ps =>
    change stSw pc loc h dflt (swok ps.toList) ps.toList stk = some _ at hs
    exact absurd hs stSw_no
  case tableswitch dflt lo hi offs =>
    change stSw pc loc h dflt (tok lo hi offs.toList) (tbl lo offs.toList) stk = some _ at hs
    exact absurd hs stSw_no
  case getfield j => change gfl pc loc h (lk y j) stk = some _ at hs; unfold gfl at hs; split at hs <;> first | (split at hs <;> first | (split at hs <;> cases hs) | cases hs) | cases hs
  case putfield j => change pfl pc loc h (lk y j) stk = some _ at hs; unfold pfl at hs; split at hs <;> first | (split at hs <;> first | (split at hs <;> first | cases hs | (split at hs <;> cases hs)) | cases hs) | cases hs
  case iaload => change arI pc loc h stk = some _ at hs; unfold arI at hs; split at hs <;> first | (split at hs <;> first | (split at hs <;> cases hs) | cases hs) | cases hs
  case laload => change arL pc loc h stk = some _ at hs; unfold arL at hs; split at hs <;> first | (split at hs <;> first | (split at hs <;> cases hs) | cases hs) | cases hs
  case aaload => change arA pc loc h stk = some _ at hs; unfold arA at hs; split at hs <;> first | (split at hs <;> first | (split at hs <;> cases hs) | cases hs) | cases hs
  case iastore => change asI pc loc h stk = some _ at hs; unfold asI at hs; split at hs <;> first | (split at hs <;> first | (split at hs <;> cases hs) | cases hs) | cases hs
  case lastore => change asL pc loc h stk = some _ at hs; unfold asL at hs; split at hs <;> first | (split at hs <;> first | (split at hs <;> cases hs) | cases hs) | cases hs
  case ireturn => change rtI (md y).2.2.2.1 stk = some _ at hs; unfold rtI at hs; split at hs <;> first | (split at hs <;> cases hs) | cases hs
  case lreturn => change rtL (md y).2.2.2.1 stk = some _ at hs; unfold rtL at hs; split at hs <;> cases hs
  case areturn => change rtA (md y).2.2.2.1 stk = some _ at hs; unfold rtA at hs; split at hs <;> cases hs
  case return_ => change rtV (md y).2.2.2.1 stk = some _ at hs; unfold rtV at hs; split at hs <;> cases hs
  all_goals first
    | exact nomatch (show (none : mR) = some _ from hs)
    | exact nomatch (show nx _ _ _ _ = some _ from hs)
    | exact absurd hs nxs_no
end SCL
end
section
/-! The run as a whole: what the mini machine comes to is a contract of the machine. -/
theorem cal_no {y y' pc : Nat} {loc : mL} {as r : List Value} {v : Option Value} : ¬ cal y y' pc loc as r = some (.inr (.inr v)) := by
  intro hs
  unfold cal at hs
  split at hs <;> cases hs
theorem ivS_no {y pc : Nat} {loc : mL} {h : mH} {q : Nat × Nat × Nat × Int64} {stk : List Value} {v : Option Value} : ¬ ivS y pc loc h q stk = some (.inr (.inr v)) := by
  intro hs
  unfold ivS at hs
  split at hs
  · split at hs
    · exact cal_no hs
    · cases hs
  · split at hs
    · exact cal_no hs
    · cases hs
  · split at hs
    · split at hs <;> cases hs
    · cases hs
  · split at hs
    · split at hs <;> cases hs
    · cases hs
  · split at hs
    · split at hs
      · split at hs <;> cases hs
      · cases hs
    · cases hs
  · cases hs
theorem ivV_no {y pc : Nat} {loc : mL} {q : Nat × Nat × Nat × Int64} {stk : List Value} {v : Option Value} : ¬ ivV y pc loc q stk = some (.inr (.inr v)) := by
  intro hs
  unfold ivV at hs
  split at hs
  · split at hs
    · split at hs
      · split at hs
        · exact cal_no hs
        · cases hs
      · cases hs
    · cases hs
  · cases hs
section SRN
variable {p : Program} {l : Launch} {e : Env} {R : Room} {s : State} {m : MethodId} {args : Array Value} {below : List Frame} {meth : Method} {c : Code} {H : Heap} {locs : List Loc} {cells slots : Nat} {Q : State → Prop}
variable {D : va_G} {ad : Nat → Nat} {cA : Nat → ClassId} {A : Nat → Prop} {H0 : Heap}
variable {y pc pc' : Nat} {loc loc' : mL} {stk stk' : List Value} {h h' : mH}
theorem toList_cv (ad : Nat → Nat) (v : Option Value) (r : List Value) : (v.map (cv ad)).toList ++ r.map (cv ad) = (v.toList ++ r).map (cv ad) := by
  cases v <;> rfl
theorem ok_call (C : mCtx D cA y p R s m args c cells slots) (hA : mAd ad A H0) {i : Instr} {len : Nat} (hd : decode (md y).2.1 pc = .ok (i, len)) (hn : lok i len = true) {y' : Nat} {as r : List Value} (hs : stI y pc loc stk h i = some (.inr (.inl (y', as, pc', loc', r)))) {v : Option Value} (hM : mMet l D ad cA y' as h v h') {ls : Array Slot} (hl : mloc ad ls (md y).2.2.1 loc) (hw : mWd D ad cA A H0 h H locs)
    (k : mGo D ad cA A H0 y p l e R s m args below meth c cells slots Q pc' loc' (v.toList ++ r) h') : W p l e R s m args below meth c H locs cells slots Q (F0 m pc ls (stk.map (cv ad))) := by
  obtain ⟨hx, hb, hml, hown, hts, hK, hN, hfr, hlo, hce, hsl⟩ := id C
  obtain ⟨rfl, rfl, hf1, hl1, hc1, hw1, hi⟩ := stI_call hs
  obtain ⟨ok1, ⟨ok2, ok3, ok4, ok5, ok6⟩, ok7⟩ := md_ok y'
  have hR : (mRm y').frames + 1 ≤ R.frames ∧ 8 + ((md y').2.2.1 + 11) + (mRm y').locals ≤ R.locals := ⟨by show (md y').2.2.2.2.2.1 + 1 ≤ R.frames; omega, by show 8 + ((md y').2.2.1 + 11) + (md y').2.2.2.2.2.2.1 ≤ R.locals; omega⟩
  have hfit : cells + 0 ≤ R.cells ∧ slots + 0 ≤ R.slots := ⟨hce, hsl⟩
  have kk : ∀ (H1 : Heap) (locs1 : List Loc), va_P D vwCl (mwd ad cA h') H1 → va_S A H0 H1 locs1 → W p l e R s m args below meth c H1 locs1 cells slots Q (F0 m (pc + 3) ls ((v.map (cv ad)).toList ++ r.map (cv ad))) := by
    intro H1 locs1 hP1 hS1
    rw [toList_cv]
    exact k ls H1 locs1 hl ⟨hP1, hS1⟩
  rcases hi with ⟨j, rfl, hln, rfl, hq⟩ | ⟨j, a, as', rfl, rfl, hln, rfl, hq, rfl, hsh⟩
  · obtain rfl : len = 3 := Nat.eq_of_beq_eq_true hn
    have hst : ((as.reverse ++ r).map (cv ad)) = (as.map (cv ad)).reverse ++ r.map (cv ad) := by rw [List.map_append, List.map_reverse]
    rcases hq with ⟨hq, rfl⟩ | ⟨hq, rfl⟩
    · have h1 := lk_ok y j (by rw [hq]; decide)
      unfold LkOK at h1
      rw [show (j, lk y j).2.1 = 3 from hq] at h1
      obtain ⟨g1, g2, g3⟩ := h1
      refine m_call (v := v) (h' := h') hA (va_runS (As := as.map (cv ad)) (rest := r.map (cv ad)) (n := (md (lk y j).2.1).2.2.2.2.2.2.2.1) (bytes := (md (lk y j).2.1).2.1) (maxL := (md (lk y j).2.1).2.2.1) (ret := (md (lk y j).2.1).2.2.2.1) (nL := (md y).2.2.1) (Ts := mgood) (own := (md y).2.2.2.2.1) ⟨hx, hb, hml, hown, hts⟩ (hM H.size) ⟨callB_of (ws' := mgood) _ hts (mws_good _) rfl rfl rfl (hts _ g2) (hts _ g1) ⟨ok3, ok4, ok5⟩ hR, hts _ g3⟩ ⟨mPc_blind _ _ _ _ _ _, mPc_of hw.1 hK hN⟩ rfl (by rw [List.length_map]; exact hln) hl.1 hst (lv_room (by rw [cats_cv]; exact hc1)) hd hfit) hw.2 kk
    · have h1 := lk_ok y j (by rw [hq]; decide)
      unfold LkOK at h1
      rw [show (j, lk y j).2.1 = 5 from hq] at h1
      obtain ⟨g1, g2, g3⟩ := h1
      refine m_call (v := v) (h' := h') hA (va_runSN (As := as.map (cv ad)) (rest := r.map (cv ad)) (n := (md (lk y j).2.1).2.2.2.2.2.2.2.1) (bytes := (md (lk y j).2.1).2.1) (maxL := (md (lk y j).2.1).2.2.1) (ret := (md (lk y j).2.1).2.2.2.1) (nL := (md y).2.2.1) (Ts := mgood) (own := (md y).2.2.2.2.1) ⟨hx, hb, hml, hown, hts⟩ (hM H.size) ⟨va_cnB (ws' := mgood) _ hts (mws_good _) rfl rfl rfl (hN _ g1) (hts _ g2) ⟨ok3, ok4, ok5⟩ hR, hts _ g3, trivial⟩ ⟨mPc_blind _ _ _ _ _ _, mPc_of hw.1 hK hN⟩ rfl (by rw [List.length_map]; exact hln) hl.1 hst (lv_room (by rw [cats_cv]; exact hc1)) hd hfit) hw.2 kk
  · obtain rfl : len = 3 := Nat.eq_of_beq_eq_true hn
    have hst : ((as'.reverse ++ Value.ref a :: r).map (cv ad)) = (as'.map (cv ad)).reverse ++ .ref (ad a) :: r.map (cv ad) := by rw [List.map_append, List.map_reverse]; rfl
    have h1 := lk_ok y j (by rw [hq]; decide)
    unfold LkOK at h1
    rw [show (j, lk y j).2.1 = 4 from hq] at h1
    obtain ⟨g1, g2, g3, g4, T, N, g5⟩ := h1
    have hrec := va_recv (q0 := a) (a := ad a) (ci := (lk y j).2.2.1) hK hw.1 g5 (by rw [mwd_at _ _ _ (shp_lt hsh (by decide)), mcell_obj hsh])
    refine m_call (v := v) (h' := h') hA (va_runV (b := ad a) (C := (md (lk y j).2.1).1.cls) (As := as'.map (cv ad)) (rest := r.map (cv ad)) (n := (md (lk y j).2.1).2.2.2.2.2.2.2.1) (bytes := (md (lk y j).2.1).2.1) (maxL := (md (lk y j).2.1).2.2.1) (ret := (md (lk y j).2.1).2.2.2.1) (nL := (md y).2.2.1) (Ts := mgood) (own := (md y).2.2.2.2.1) ⟨hx, hb, hml, hown, hts⟩ (hM H.size) ⟨callB_of (ws' := mgood) _ hts (mws_good _) rfl rfl rfl (hts _ g2) (hts _ g1) ⟨ok3, ok4, ok5⟩ hR, hts _ g3, hts _ g4⟩ ⟨mPc_blind _ _ _ _ _ _, hrec, mPc_of (as := .ref a :: as') hw.1 hK hN⟩ rfl (by rw [List.length_map]; exact hln) hl.1 hst (lv_room (by rw [cats_cv]; exact hc1)) hd hfit) hw.2 kk
/-- where a method ends: at an instruction that ends it, with what is answered on the stack -/
def mEnd (y : Nat) (h : mH) (r : Option Value) (pc : Nat) (stk : List Value) : Prop := ∃ (loc : mL) (i : Instr) (len : Nat), decode (md y).2.1 pc = .ok (i, len) ∧ lok i len = true ∧ stI y pc loc stk h i = some (.inr (.inr r))
theorem stp_inv {q : (Nat × mL × List Value × mH) ⊕ (Nat × List Value × Nat × mL × List Value) ⊕ Option Value} (hs : stp y pc loc stk h = some q) : ∃ i len, decode (md y).2.1 pc = .ok (i, len) ∧ lok i len = true ∧ stI y pc loc stk h i = some q := by
  unfold stp at hs
  split at hs
  · rename_i i n hd
    split at hs
    · rename_i hl
      exact ⟨i, n, hd, hl, hs⟩
    · cases hs
  · cases hs
theorem narrow_b {x : Int32} (hx : x = 0 ∨ x = 1) : narrow .boolean (.int x) = .int x := by rcases hx with rfl | rfl <;> decide
theorem mEnd_ret {ls : Array Slot} {r : Option Value} {free : Addr → Prop} {Qc : Array Value → State → Outcome → State → Prop} (hE : mEnd y h r pc stk) (hx : p.tables.exec = Jvm.exec) (hb : c.code = (md y).2.1) (hr : meth.sig.returnType = (md y).2.2.2.1) (hlocks : meth.locks = false) (hq : ∀ t : State, t.heap = H → s.WarmedH t.vm → Qc args s (.returned (r.map (cv ad))) t) (hf : ∀ q ∈ locs, free q.base) : W p l e R s m args below meth c H locs cells slots (MQ below Qc args s cells slots free) (F0 m pc ls (stk.map (cv ad))) := by
  obtain ⟨loc, i, len, hd, hn, hs⟩ := hE
  cases i
  case ireturn =>
    obtain rfl : len = 1 := Nat.eq_of_beq_eq_true hn
    change rtI (md y).2.2.2.1 stk = some _ at hs
    unfold rtI at hs
    split at hs
    · rename_i ht
      cases hs
      rw [ht] at hr
      exact W.iret hx hb hr hq hf hd
    · rename_i ht
      split at hs
      · rename_i hx1
        cases hs
        rw [ht] at hr
        exact W.zret hx hb hr (narrow_b hx1) hq hf hd
      · cases hs
    · cases hs
  case lreturn =>
    obtain rfl : len = 1 := Nat.eq_of_beq_eq_true hn
    change rtL (md y).2.2.2.1 stk = some _ at hs
    unfold rtL at hs
    split at hs
    · rename_i ht
      cases hs
      rw [ht] at hr
      exact W.lret hx hb hr hq hf hd
    · cases hs
  case areturn =>
    obtain rfl : len = 1 := Nat.eq_of_beq_eq_true hn
    change rtA (md y).2.2.2.1 stk = some _ at hs
    unfold rtA at hs
    split at hs
    · rename_i ht
      cases hs
      rw [ht] at hr
      exact W.aret hx hb hr (Or.inl ⟨_, rfl⟩) (Or.inr ⟨_, rfl⟩) hq hf hd
    · rename_i ht
      cases hs
      rw [ht] at hr
      exact W.aret hx hb hr (Or.inl ⟨_, rfl⟩) (Or.inl rfl) hq hf hd
    · cases hs
  case return_ =>
    obtain rfl : len = 1 := Nat.eq_of_beq_eq_true hn
    change rtV (md y).2.2.2.1 stk = some _ at hs
    unfold rtV at hs
    split at hs
    · rename_i ht
      cases hs
      rw [ht] at hr
      exact W.vret hx hb hr hq hf hd
    · cases hs
  case invokestatic j =>
    change ivS y pc loc h (lk y j) stk = some _ at hs
    exact absurd hs ivS_no
  case invokevirtual j =>
    change ivV y pc loc (lk y j) stk = some _ at hs
    exact absurd hs ivV_no
  case ldc j => change (match (lk y j).1 with | 7 => nx (pc + 2) loc (.int (lk y j).2.2.2.toInt32 :: stk) h | _ => none) = some _ at hs; split at hs <;> cases hs
  case ldc2_w j => change (match (lk y j).1 with | 8 => nx (pc + 3) loc (.long (lk y j).2.2.2 :: stk) h | _ => none) = some _ at hs; split at hs <;> cases hs
  case iload_n j => change ldI _ _ _ _ _ = some _ at hs; unfold ldI at hs; split at hs <;> cases hs
  case iload j => change ldI _ _ _ _ _ = some _ at hs; unfold ldI at hs; split at hs <;> cases hs
  case lload_n j => change ldL _ _ _ _ _ = some _ at hs; unfold ldL at hs; split at hs <;> cases hs
  case lload j => change ldL _ _ _ _ _ = some _ at hs; unfold ldL at hs; split at hs <;> cases hs
  case aload_n j => change ldA _ _ _ _ _ = some _ at hs; unfold ldA at hs; split at hs <;> cases hs
  case aload j => change ldA _ _ _ _ _ = some _ at hs; unfold ldA at hs; split at hs <;> cases hs
  case istore_n j => change stoI _ _ _ _ _ = some _ at hs; unfold stoI at hs; split at hs <;> first | (split at hs <;> cases hs) | cases hs
  case istore j => change stoI _ _ _ _ _ = some _ at hs; unfold stoI at hs; split at hs <;> first | (split at hs <;> cases hs) | cases hs
  case lstore_n j => change stoL _ _ _ _ _ = some _ at hs; unfold stoL at hs; split at hs <;> first | (split at hs <;> cases hs) | cases hs
  case lstore j => change stoL _ _ _ _ _ = some _ at hs; unfold stoL at hs; split at hs <;> first | (split at hs <;> cases hs) | cases hs
  case astore_n j => change stoA _ _ _ _ _ = some _ at hs; unfold stoA at hs; split at hs <;> first | (split at hs <;> cases hs) | cases hs
  case astore j => change stoA _ _ _ _ _ = some _ at hs; unfold stoA at hs; split at hs <;> first | (split at hs <;> cases hs) | cases hs
  case iinc j n => change (match lget loc j with | some (.int x) => nx (pc + 3) (st1 loc j (.int (x + Int32.ofInt n))) stk h | _ => none) = some _ at hs; split at hs <;> cases hs
  case irem => change (match stk with | .int z :: .int x :: r => if z = 0 then none else nx (pc + 1) loc (.int (x - x / z * z) :: r) h | _ => none) = some _ at hs; split at hs <;> first | (split at hs <;> cases hs) | cases hs
  case ifCond cn off =>
    change stIf pc loc h cn off stk = some _ at hs
    unfold stIf at hs
    split at hs
    · split at hs
      · rcases brn_inv hs with ⟨_, h2⟩ | ⟨_, h2⟩ <;> cases h2
      · cases hs
    · cases hs
  case if_icmp cn off =>
    change stCmp pc loc h cn off stk = some _ at hs
    unfold stCmp at hs
    split at hs
    · split at hs
      · rcases brn_inv hs with ⟨_, h2⟩ | ⟨_, h2⟩ <;> cases h2
      · cases hs
    · cases hs
  case goto off => change (match jok pc off with | true => nx (jmp pc off) loc stk h | false => none) = some _ at hs; split at hs <;> cases hs
  case ifnull off => change stNull pc loc h off stk = some _ at hs; unfold stNull at hs; split at hs <;> first | (split at hs <;> cases hs) | cases hs
  case ifnonnull off => change stNon pc loc h off stk = some _ at hs; unfold stNon at hs; split at hs <;> first | (split at hs <;> cases hs) | cases hs
  case lookupswitch dflt ps =>
    change stSw pc loc h dflt (swok ps.toList) ps.toList stk = some _ at hs
    exact absurd hs stSw_no
  case tableswitch dflt lo hi offs =>
    change stSw pc loc h dflt (tok lo hi offs.toList) (tbl lo offs.toList) stk = some _ at hs
    exact absurd hs stSw_no
  case getfield j => change gfl pc loc h (lk y j) stk = some _ at hs; unfold gfl at hs; split at hs <;> first | (split at hs <;> first | (split at hs <;> cases hs) | cases hs) | cases hs
  case putfield j => change pfl pc loc h (lk y j) stk = some _ at hs; unfold pfl at hs; split at hs <;> first | (split at hs <;> first | (split at hs <;> first | cases hs | (split at hs <;> cases hs)) | cases hs) | cases hs
  case iaload => change arI pc loc h stk = some _ at hs; unfold arI at hs; split at hs <;> first | (split at hs <;> first | (split at hs <;> cases hs) | cases hs) | cases hs
  case laload => change arL pc loc h stk = some _ at hs; unfold arL at hs; split at hs <;> first | (split at hs <;> first | (split at hs <;> cases hs) | cases hs) | cases hs
  case aaload => change arA pc loc h stk = some _ at hs; unfold arA at hs; split at hs <;> first | (split at hs <;> first | (split at hs <;> cases hs) | cases hs) | cases hs
  case iastore => change asI pc loc h stk = some _ at hs; unfold asI at hs; split at hs <;> first | (split at hs <;> first | (split at hs <;> cases hs) | cases hs) | cases hs
  case lastore => change asL pc loc h stk = some _ at hs; unfold asL at hs; split at hs <;> first | (split at hs <;> first | (split at hs <;> cases hs) | cases hs) | cases hs
  all_goals first
    | exact nomatch (show (none : mR) = some _ from hs)
    | exact nomatch (show nx _ _ _ _ = some _ from hs)
    | exact absurd hs nxs_no
/-- a method's contract out of its run -/
theorem met_of (hinj : ∀ i j, i < 43 → j < 43 → ad i = ad j → i = j) {as : List Value} {r : Option Value} (hw : wds as ≤ (md y).2.2.1)
    (hgo : ∀ (p : Program) (e : Env) (s : State) (m : MethodId) (args : Array Value) (below : List Frame) (meth : Method) (c : Code) (A : Nat → Prop) (H0 : Heap) (Q : State → Prop), mCtx D cA y p (mRm y) s m args c 0 0 → mAd ad A H0 → (∀ (pc1 : Nat) (ls1 : Array Slot) (stk1 : List Value) (H1 : Heap) (locs1 : List Loc), mEnd y h' r pc1 stk1 → mWd D ad cA A H0 h' H1 locs1 → W p l e (mRm y) s m args below meth c H1 locs1 0 0 Q (F0 m pc1 ls1 (stk1.map (cv ad)))) → mGo D ad cA A H0 y p l e (mRm y) s m args below meth c 0 0 Q 0 (ent y as) [] h) : mMet l D ad cA y as h r h' := by
  intro sz
  obtain ⟨ok1, ⟨ok2, ok3, ok4, ok5, ok6⟩, ok7⟩ := md_ok y
  refine Met.ofW (cc := (md y).2.1) (maxL := (md y).2.2.1) (ret := (md y).2.2.2.1) ok2 rfl ?_
  intro p e s m args below meth c s₁ B hml hv
  obtain ⟨rfl, hsz, hP, hK, hN⟩ := hv
  subst hsz
  have hts := atoms_spec (ws := mws y) B.pre
  have hown : s.vm.findClass (md y).2.2.2.2.1 = some m.cls := by rw [← ok6]; exact findClass_of_methodNamed B.named
  have hA : mAd ad (mA ad s.heap.size) s.heap := ⟨hinj, fun k hk => Or.inl ⟨k, hk, rfl⟩, fun q hq => Or.inr hq⟩
  rw [lg_entry_eq]
  refine hgo p e s m _ below meth c (mA ad s.heap.size) s.heap _ ⟨B.exec, B.bytes, hml, hown, fun w hw => hts w (List.mem_cons_of_mem _ hw), hK, hN, Nat.le_refl _, Nat.le_refl _, Nat.le_refl _, Nat.le_refl _⟩ hA ?_ _ s.heap [] (mloc_ent ad y as hw) ⟨hP, va_S.rf⟩
  intro pc1 ls1 stk1 H1 locs1 hE hW1
  refine mEnd_ret (ad := ad) hE B.exec B.bytes B.returns B.notSynchronized (fun t ht hWm => ?_) (fun q hq => hW1.2.2.2 q hq)
  exact ⟨rfl, by rw [ht]; exact hW1.1, hW1.2.F ht⟩
theorem snd_run (l : Launch) (D : va_G) (ad : Nat → Nat) (cA : Nat → ClassId) (hinj : ∀ i j, i < 43 → j < 43 → ad i = ad j → i = j) : ∀ (n : Nat) (y pc : Nat) (loc : mL) (stk : List Value) (h : mH) (r : Option Value) (h' : mH), run n y pc loc stk h = some (r, h') →
    ∀ (p : Program) (e : Env) (R : Room) (s : State) (m : MethodId) (args : Array Value) (below : List Frame) (meth : Method) (c : Code) (cells slots : Nat) (A : Nat → Prop) (H0 : Heap) (Q : State → Prop), mCtx D cA y p R s m args c cells slots → mAd ad A H0 →
    (∀ (pc1 : Nat) (ls1 : Array Slot) (stk1 : List Value) (H1 : Heap) (locs1 : List Loc), mEnd y h' r pc1 stk1 → mWd D ad cA A H0 h' H1 locs1 → W p l e R s m args below meth c H1 locs1 cells slots Q (F0 m pc1 ls1 (stk1.map (cv ad)))) → mGo D ad cA A H0 y p l e R s m args below meth c cells slots Q pc loc stk h
  | 0, _, _, _, _, _, _, _, hr => by simp [run] at hr
  | n + 1, y, pc, loc, stk, h, r, h', hr => by
    intro p e R s m args below meth c cells slots A H0 Q C hA hend ls H locs hl hw
    unfold run at hr
    cases hs : stp y pc loc stk h with
    | none => rw [hs] at hr; cases hr
    | some q =>
      rw [hs] at hr
      obtain ⟨i, len, hd, hn, hsI⟩ := stp_inv hs
      match q, hsI with
      | .inl (pc', loc', stk', h1), hsI =>
        exact ok_next C hA hd hn hsI hl hw (snd_run l D ad cA hinj n y pc' loc' stk' h1 r h' hr p e R s m args below meth c cells slots A H0 Q C hA hend)
      | .inr (.inl (y', as, pc', loc', r')), hsI =>
        dsimp only at hr
        obtain ⟨q1, g1, g2⟩ := Option.bind_eq_some_iff.mp hr
        obtain ⟨vs, g3, g4⟩ := Option.bind_eq_some_iff.mp g2
        rw [retK_eq g3] at g4
        have hM : mMet l D ad cA y' as h q1.1 q1.2 := met_of hinj (stI_call hsI).2.2.2.2.2.1 (fun p e s m args below meth c A H0 Q C2 hA2 hend2 => snd_run l D ad cA hinj n y' 0 (ent y' as) [] h q1.1 q1.2 g1 p e (mRm y') s m args below meth c 0 0 A H0 Q C2 hA2 hend2)
        exact ok_call C hA hd hn hsI hM hl hw (snd_run l D ad cA hinj n y pc' loc' (q1.1.toList ++ r') q1.2 r h' g4 p e R s m args below meth c cells slots A H0 Q C hA hend)
      | .inr (.inr v), hsI =>
        cases hr
        exact hend pc ls stk H locs ⟨loc, i, len, hd, hn, hsI⟩ hw
/-- WHAT COUNTS: an equation of the mini machine is a contract of the machine -/
theorem rt_met (l : Launch) (D : va_G) (ad : Nat → Nat) (cA : Nat → ClassId) (hinj : ∀ i j, i < 43 → j < 43 → ad i = ad j → i = j) {y : Nat} {as : List Value} {h h' : mH} {r : Option Value} (hw : wds as ≤ (md y).2.2.1) (hr : Rt y as h = some (r, h')) : mMet l D ad cA y as h r h' := by
  obtain ⟨n, hn⟩ := run_of_ev hr
  exact met_of hinj hw (fun p e s m args below meth c A H0 Q C2 hA2 hend2 => snd_run l D ad cA hinj n y 0 (ent y as) [] h r h' hn p e (mRm y) s m args below meth c 0 0 A H0 Q C2 hA2 hend2)
end SRN
end
section
theorem fin_ifs {y : Nat} {h : mH} (p : Prop) [d : Decidable p] {a b q : mR} {A B : Option (Option Value × mH)} (hq : q = if p then a else b) (hb : fin y h b = B) (ha : fin y h a = A := by rfl) : fin y h q = if p then A else B := by
  rw [hq, fin_if, ha, hb]
theorem ev_arI {y pc : Nat} {loc : mL} {r : List Value} {h : mH} {i : Int32} {k n : Nat} (hd : decode (md y).2.1 pc = .ok (.iaload, 1)) (hk : shp k = (1, n)) : Ev y pc loc (.int i :: .ref k :: r) h = if 0 ≤ i ∧ i.toNatClampNeg < n then Ev y (pc + 1) loc (.int (gI h k i.toNatClampNeg) :: r) h else none := by
  rw [ev_step hd rfl]
  show fin y h (arI pc loc h (.int i :: .ref k :: r)) = _
  have h1 : (shp k).1 = 1 := by rw [hk]
  have h2 : (shp k).2 = n := by rw [hk]
  unfold arI
  dsimp only
  split
  · split
    · rename_i hc; rw [if_pos (by rw [← h2]; exact hc)]; rfl
    · rename_i hc; rw [if_neg (by rw [← h2]; exact hc)]; rfl
  · rename_i hx; exact absurd h1 hx
theorem ev_asI {y pc : Nat} {loc : mL} {r : List Value} {h : mH} {x i : Int32} {k n : Nat} (hd : decode (md y).2.1 pc = .ok (.iastore, 1)) (hk : shp k = (1, n)) : Ev y pc loc (.int x :: .int i :: .ref k :: r) h = if 0 ≤ i ∧ i.toNatClampNeg < n then Ev y (pc + 1) loc r (sI h k i.toNatClampNeg x) else none := by
  rw [ev_step hd rfl]
  show fin y h (asI pc loc h (.int x :: .int i :: .ref k :: r)) = _
  have h1 : (shp k).1 = 1 := by rw [hk]
  have h2 : (shp k).2 = n := by rw [hk]
  unfold asI
  dsimp only
  split
  · split
    · rename_i hc; rw [if_pos (by rw [← h2]; exact hc)]; rfl
    · rename_i hc; rw [if_neg (by rw [← h2]; exact hc)]; rfl
  · rename_i hx; exact absurd h1 hx

theorem b167_0 (x0 : Int64) (o1 : Option Value) (h : mH) : Ev 167 0 [some (.long x0), o1] [] h = some (some (.int (((((((((x0 - ((x0.toUInt64 >>> ((1 : Int32).toInt64.toUInt64 &&& Int64.toUInt64 63)).toInt64 &&& 6148914691236517205)) &&& 3689348814741910323) + (((x0 - ((x0.toUInt64 >>> ((1 : Int32).toInt64.toUInt64 &&& Int64.toUInt64 63)).toInt64 &&& 6148914691236517205)).toUInt64 >>> ((2 : Int32).toInt64.toUInt64 &&& Int64.toUInt64 63)).toInt64 &&& 3689348814741910323)) + ((((x0 - ((x0.toUInt64 >>> ((1 : Int32).toInt64.toUInt64 &&& Int64.toUInt64 63)).toInt64 &&& 6148914691236517205)) &&& 3689348814741910323) + (((x0 - ((x0.toUInt64 >>> ((1 : Int32).toInt64.toUInt64 &&& Int64.toUInt64 63)).toInt64 &&& 6148914691236517205)).toUInt64 >>> ((2 : Int32).toInt64.toUInt64 &&& Int64.toUInt64 63)).toInt64 &&& 3689348814741910323)).toUInt64 >>> ((4 : Int32).toInt64.toUInt64 &&& Int64.toUInt64 63)).toInt64) &&& 1085102592571150095) + ((((((x0 - ((x0.toUInt64 >>> ((1 : Int32).toInt64.toUInt64 &&& Int64.toUInt64 63)).toInt64 &&& 6148914691236517205)) &&& 3689348814741910323) + (((x0 - ((x0.toUInt64 >>> ((1 : Int32).toInt64.toUInt64 &&& Int64.toUInt64 63)).toInt64 &&& 6148914691236517205)).toUInt64 >>> ((2 : Int32).toInt64.toUInt64 &&& Int64.toUInt64 63)).toInt64 &&& 3689348814741910323)) + ((((x0 - ((x0.toUInt64 >>> ((1 : Int32).toInt64.toUInt64 &&& Int64.toUInt64 63)).toInt64 &&& 6148914691236517205)) &&& 3689348814741910323) + (((x0 - ((x0.toUInt64 >>> ((1 : Int32).toInt64.toUInt64 &&& Int64.toUInt64 63)).toInt64 &&& 6148914691236517205)).toUInt64 >>> ((2 : Int32).toInt64.toUInt64 &&& Int64.toUInt64 63)).toInt64 &&& 3689348814741910323)).toUInt64 >>> ((4 : Int32).toInt64.toUInt64 &&& Int64.toUInt64 63)).toInt64) &&& 1085102592571150095).toUInt64 >>> ((8 : Int32).toInt64.toUInt64 &&& Int64.toUInt64 63)).toInt64) + (((((((x0 - ((x0.toUInt64 >>> ((1 : Int32).toInt64.toUInt64 &&& Int64.toUInt64 63)).toInt64 &&& 6148914691236517205)) &&& 3689348814741910323) + (((x0 - ((x0.toUInt64 >>> ((1 : Int32).toInt64.toUInt64 &&& Int64.toUInt64 63)).toInt64 &&& 6148914691236517205)).toUInt64 >>> ((2 : Int32).toInt64.toUInt64 &&& Int64.toUInt64 63)).toInt64 &&& 3689348814741910323)) + ((((x0 - ((x0.toUInt64 >>> ((1 : Int32).toInt64.toUInt64 &&& Int64.toUInt64 63)).toInt64 &&& 6148914691236517205)) &&& 3689348814741910323) + (((x0 - ((x0.toUInt64 >>> ((1 : Int32).toInt64.toUInt64 &&& Int64.toUInt64 63)).toInt64 &&& 6148914691236517205)).toUInt64 >>> ((2 : Int32).toInt64.toUInt64 &&& Int64.toUInt64 63)).toInt64 &&& 3689348814741910323)).toUInt64 >>> ((4 : Int32).toInt64.toUInt64 &&& Int64.toUInt64 63)).toInt64) &&& 1085102592571150095) + ((((((x0 - ((x0.toUInt64 >>> ((1 : Int32).toInt64.toUInt64 &&& Int64.toUInt64 63)).toInt64 &&& 6148914691236517205)) &&& 3689348814741910323) + (((x0 - ((x0.toUInt64 >>> ((1 : Int32).toInt64.toUInt64 &&& Int64.toUInt64 63)).toInt64 &&& 6148914691236517205)).toUInt64 >>> ((2 : Int32).toInt64.toUInt64 &&& Int64.toUInt64 63)).toInt64 &&& 3689348814741910323)) + ((((x0 - ((x0.toUInt64 >>> ((1 : Int32).toInt64.toUInt64 &&& Int64.toUInt64 63)).toInt64 &&& 6148914691236517205)) &&& 3689348814741910323) + (((x0 - ((x0.toUInt64 >>> ((1 : Int32).toInt64.toUInt64 &&& Int64.toUInt64 63)).toInt64 &&& 6148914691236517205)).toUInt64 >>> ((2 : Int32).toInt64.toUInt64 &&& Int64.toUInt64 63)).toInt64 &&& 3689348814741910323)).toUInt64 >>> ((4 : Int32).toInt64.toUInt64 &&& Int64.toUInt64 63)).toInt64) &&& 1085102592571150095).toUInt64 >>> ((8 : Int32).toInt64.toUInt64 &&& Int64.toUInt64 63)).toInt64).toUInt64 >>> ((16 : Int32).toInt64.toUInt64 &&& Int64.toUInt64 63)).toInt64) + ((((((((x0 - ((x0.toUInt64 >>> ((1 : Int32).toInt64.toUInt64 &&& Int64.toUInt64 63)).toInt64 &&& 6148914691236517205)) &&& 3689348814741910323) + (((x0 - ((x0.toUInt64 >>> ((1 : Int32).toInt64.toUInt64 &&& Int64.toUInt64 63)).toInt64 &&& 6148914691236517205)).toUInt64 >>> ((2 : Int32).toInt64.toUInt64 &&& Int64.toUInt64 63)).toInt64 &&& 3689348814741910323)) + ((((x0 - ((x0.toUInt64 >>> ((1 : Int32).toInt64.toUInt64 &&& Int64.toUInt64 63)).toInt64 &&& 6148914691236517205)) &&& 3689348814741910323) + (((x0 - ((x0.toUInt64 >>> ((1 : Int32).toInt64.toUInt64 &&& Int64.toUInt64 63)).toInt64 &&& 6148914691236517205)).toUInt64 >>> ((2 : Int32).toInt64.toUInt64 &&& Int64.toUInt64 63)).toInt64 &&& 3689348814741910323)).toUInt64 >>> ((4 : Int32).toInt64.toUInt64 &&& Int64.toUInt64 63)).toInt64) &&& 1085102592571150095) + ((((((x0 - ((x0.toUInt64 >>> ((1 : Int32).toInt64.toUInt64 &&& Int64.toUInt64 63)).toInt64 &&& 6148914691236517205)) &&& 3689348814741910323) + (((x0 - ((x0.toUInt64 >>> ((1 : Int32).toInt64.toUInt64 &&& Int64.toUInt64 63)).toInt64 &&& 6148914691236517205)).toUInt64 >>> ((2 : Int32).toInt64.toUInt64 &&& Int64.toUInt64 63)).toInt64 &&& 3689348814741910323)) + ((((x0 - ((x0.toUInt64 >>> ((1 : Int32).toInt64.toUInt64 &&& Int64.toUInt64 63)).toInt64 &&& 6148914691236517205)) &&& 3689348814741910323) + (((x0 - ((x0.toUInt64 >>> ((1 : Int32).toInt64.toUInt64 &&& Int64.toUInt64 63)).toInt64 &&& 6148914691236517205)).toUInt64 >>> ((2 : Int32).toInt64.toUInt64 &&& Int64.toUInt64 63)).toInt64 &&& 3689348814741910323)).toUInt64 >>> ((4 : Int32).toInt64.toUInt64 &&& Int64.toUInt64 63)).toInt64) &&& 1085102592571150095).toUInt64 >>> ((8 : Int32).toInt64.toUInt64 &&& Int64.toUInt64 63)).toInt64) + (((((((x0 - ((x0.toUInt64 >>> ((1 : Int32).toInt64.toUInt64 &&& Int64.toUInt64 63)).toInt64 &&& 6148914691236517205)) &&& 3689348814741910323) + (((x0 - ((x0.toUInt64 >>> ((1 : Int32).toInt64.toUInt64 &&& Int64.toUInt64 63)).toInt64 &&& 6148914691236517205)).toUInt64 >>> ((2 : Int32).toInt64.toUInt64 &&& Int64.toUInt64 63)).toInt64 &&& 3689348814741910323)) + ((((x0 - ((x0.toUInt64 >>> ((1 : Int32).toInt64.toUInt64 &&& Int64.toUInt64 63)).toInt64 &&& 6148914691236517205)) &&& 3689348814741910323) + (((x0 - ((x0.toUInt64 >>> ((1 : Int32).toInt64.toUInt64 &&& Int64.toUInt64 63)).toInt64 &&& 6148914691236517205)).toUInt64 >>> ((2 : Int32).toInt64.toUInt64 &&& Int64.toUInt64 63)).toInt64 &&& 3689348814741910323)).toUInt64 >>> ((4 : Int32).toInt64.toUInt64 &&& Int64.toUInt64 63)).toInt64) &&& 1085102592571150095) + ((((((x0 - ((x0.toUInt64 >>> ((1 : Int32).toInt64.toUInt64 &&& Int64.toUInt64 63)).toInt64 &&& 6148914691236517205)) &&& 3689348814741910323) + (((x0 - ((x0.toUInt64 >>> ((1 : Int32).toInt64.toUInt64 &&& Int64.toUInt64 63)).toInt64 &&& 6148914691236517205)).toUInt64 >>> ((2 : Int32).toInt64.toUInt64 &&& Int64.toUInt64 63)).toInt64 &&& 3689348814741910323)) + ((((x0 - ((x0.toUInt64 >>> ((1 : Int32).toInt64.toUInt64 &&& Int64.toUInt64 63)).toInt64 &&& 6148914691236517205)) &&& 3689348814741910323) + (((x0 - ((x0.toUInt64 >>> ((1 : Int32).toInt64.toUInt64 &&& Int64.toUInt64 63)).toInt64 &&& 6148914691236517205)).toUInt64 >>> ((2 : Int32).toInt64.toUInt64 &&& Int64.toUInt64 63)).toInt64 &&& 3689348814741910323)).toUInt64 >>> ((4 : Int32).toInt64.toUInt64 &&& Int64.toUInt64 63)).toInt64) &&& 1085102592571150095).toUInt64 >>> ((8 : Int32).toInt64.toUInt64 &&& Int64.toUInt64 63)).toInt64).toUInt64 >>> ((16 : Int32).toInt64.toUInt64 &&& Int64.toUInt64 63)).toInt64).toUInt64 >>> ((32 : Int32).toInt64.toUInt64 &&& Int64.toUInt64 63)).toInt64).toInt32 &&& 127)), h) := (ev_step (i := .lload_n 0) (len := 1) (by decide +kernel) rfl).trans ((ev_step (i := .lload_n 0) (len := 1) (by decide +kernel) rfl).trans ((ev_step (i := .iconst 1) (len := 1) (by decide +kernel) rfl).trans ((ev_step (i := .lushr) (len := 1) (by decide +kernel) rfl).trans ((ev_step (i := .ldc2_w 314) (len := 3) (by decide +kernel) rfl).trans ((ev_step (i := .land) (len := 1) (by decide +kernel) rfl).trans ((ev_step (i := .lsub) (len := 1) (by decide +kernel) rfl).trans ((ev_step (i := .lstore_n 0) (len := 1) (by decide +kernel) rfl).trans ((ev_step (i := .lload_n 0) (len := 1) (by decide +kernel) rfl).trans ((ev_step (i := .ldc2_w 316) (len := 3) (by decide +kernel) rfl).trans ((ev_step (i := .land) (len := 1) (by decide +kernel) rfl).trans ((ev_step (i := .lload_n 0) (len := 1) (by decide +kernel) rfl).trans ((ev_step (i := .iconst 2) (len := 1) (by decide +kernel) rfl).trans ((ev_step (i := .lushr) (len := 1) (by decide +kernel) rfl).trans ((ev_step (i := .ldc2_w 316) (len := 3) (by decide +kernel) rfl).trans ((ev_step (i := .land) (len := 1) (by decide +kernel) rfl).trans ((ev_step (i := .ladd) (len := 1) (by decide +kernel) rfl).trans ((ev_step (i := .lstore_n 0) (len := 1) (by decide +kernel) rfl).trans ((ev_step (i := .lload_n 0) (len := 1) (by decide +kernel) rfl).trans ((ev_step (i := .lload_n 0) (len := 1) (by decide +kernel) rfl).trans ((ev_step (i := .iconst 4) (len := 1) (by decide +kernel) rfl).trans ((ev_step (i := .lushr) (len := 1) (by decide +kernel) rfl).trans ((ev_step (i := .ladd) (len := 1) (by decide +kernel) rfl).trans ((ev_step (i := .ldc2_w 318) (len := 3) (by decide +kernel) rfl).trans ((ev_step (i := .land) (len := 1) (by decide +kernel) rfl).trans ((ev_step (i := .lstore_n 0) (len := 1) (by decide +kernel) rfl).trans ((ev_step (i := .lload_n 0) (len := 1) (by decide +kernel) rfl).trans ((ev_step (i := .lload_n 0) (len := 1) (by decide +kernel) rfl).trans ((ev_step (i := .bipush 8) (len := 2) (by decide +kernel) rfl).trans ((ev_step (i := .lushr) (len := 1) (by decide +kernel) rfl).trans ((ev_step (i := .ladd) (len := 1) (by decide +kernel) rfl).trans ((ev_step (i := .lstore_n 0) (len := 1) (by decide +kernel) rfl).trans ((ev_step (i := .lload_n 0) (len := 1) (by decide +kernel) rfl).trans ((ev_step (i := .lload_n 0) (len := 1) (by decide +kernel) rfl).trans ((ev_step (i := .bipush 16) (len := 2) (by decide +kernel) rfl).trans ((ev_step (i := .lushr) (len := 1) (by decide +kernel) rfl).trans ((ev_step (i := .ladd) (len := 1) (by decide +kernel) rfl).trans ((ev_step (i := .lstore_n 0) (len := 1) (by decide +kernel) rfl).trans ((ev_step (i := .lload_n 0) (len := 1) (by decide +kernel) rfl).trans ((ev_step (i := .lload_n 0) (len := 1) (by decide +kernel) rfl).trans ((ev_step (i := .bipush 32) (len := 2) (by decide +kernel) rfl).trans ((ev_step (i := .lushr) (len := 1) (by decide +kernel) rfl).trans ((ev_step (i := .ladd) (len := 1) (by decide +kernel) rfl).trans ((ev_step (i := .lstore_n 0) (len := 1) (by decide +kernel) rfl).trans ((ev_step (i := .lload_n 0) (len := 1) (by decide +kernel) rfl).trans ((ev_step (i := .l2i) (len := 1) (by decide +kernel) rfl).trans ((ev_step (i := .bipush 127) (len := 2) (by decide +kernel) rfl).trans ((ev_step (i := .iand) (len := 1) (by decide +kernel) rfl).trans ((ev_step (i := .ireturn) (len := 1) (by decide +kernel) rfl).trans rfl))))))))))))))))))))))))))))))))))))))))))))))))
set_option maxRecDepth 100000 in
theorem b117_0 (x1 : Int32) (h : mH) : Ev 117 0 [some (.ref 15), some (.int x1)] [] h = rL (Rt 41 [.int x1] h) (fun r h1 => Ev 117 9 [some (.ref 15), some (.int x1)] [.long r, .long (gJ h 15 0), .ref 15] h1) := (ev_step (i := .aload_n 0) (len := 1) (by decide +kernel) rfl).trans ((ev_step (i := .dup) (len := 1) (by decide +kernel) rfl).trans ((ev_step (i := .getfield 22) (len := 3) (by decide +kernel) rfl).trans ((ev_step (i := .iload_n 1) (len := 1) (by decide +kernel) rfl).trans ((ev_step (i := .invokestatic 26) (len := 3) (by decide +kernel) rfl).trans (fin_L rfl)))))
set_option maxRecDepth 100000 in
theorem b117_9 (x1 : Int32) (s0 : Int64) (s1 : Int64) (h : mH) : Ev 117 9 [some (.ref 15), some (.int x1)] [.long s0, .long s1, .ref 15] h = rL (Rt 41 [.int x1] (sJ h 15 0 (s1 &&& (s0 ^^^ (-1))))) (fun r h1 => Ev 117 26 [some (.ref 15), some (.int x1)] [.long r, .long (gJ (sJ h 15 0 (s1 &&& (s0 ^^^ (-1)))) 15 1), .ref 15] h1) := (ev_step (i := .ldc2_w 30) (len := 3) (by decide +kernel) rfl).trans ((ev_step (i := .lxor) (len := 1) (by decide +kernel) rfl).trans ((ev_step (i := .land) (len := 1) (by decide +kernel) rfl).trans ((ev_step (i := .putfield 22) (len := 3) (by decide +kernel) rfl).trans ((ev_step (i := .aload_n 0) (len := 1) (by decide +kernel) rfl).trans ((ev_step (i := .dup) (len := 1) (by decide +kernel) rfl).trans ((ev_step (i := .getfield 32) (len := 3) (by decide +kernel) rfl).trans ((ev_step (i := .iload_n 1) (len := 1) (by decide +kernel) rfl).trans ((ev_step (i := .invokestatic 26) (len := 3) (by decide +kernel) rfl).trans (fin_L rfl)))))))))
theorem b117_26 (x1 : Int32) (s0 : Int64) (s1 : Int64) (h : mH) : Ev 117 26 [some (.ref 15), some (.int x1)] [.long s0, .long s1, .ref 15] h = some (none, (sJ h 15 1 (s1 &&& (s0 ^^^ (-1))))) := (ev_step (i := .ldc2_w 30) (len := 3) (by decide +kernel) rfl).trans ((ev_step (i := .lxor) (len := 1) (by decide +kernel) rfl).trans ((ev_step (i := .land) (len := 1) (by decide +kernel) rfl).trans ((ev_step (i := .putfield 32) (len := 3) (by decide +kernel) rfl).trans ((ev_step (i := .return_) (len := 1) (by decide +kernel) rfl).trans rfl))))
set_option maxRecDepth 100000 in
theorem b118_0 (o2 : Option Value) (o3 : Option Value) (h : mH) : Ev 118 0 [some (.ref 15), some (.ref 1), o2, o3] [] h = rL (Rt 140 [.ref 1, .long (gJ h 15 1)] h) (fun r h1 => Ev 118 9 [some (.ref 15), some (.ref 1), o2, o3] [.long r, .ref 15] h1) := (ev_step (i := .aload_n 0) (len := 1) (by decide +kernel) rfl).trans ((ev_step (i := .aload_n 1) (len := 1) (by decide +kernel) rfl).trans ((ev_step (i := .aload_n 0) (len := 1) (by decide +kernel) rfl).trans ((ev_step (i := .getfield 32) (len := 3) (by decide +kernel) rfl).trans ((ev_step (i := .invokevirtual 35) (len := 3) (by decide +kernel) rfl).trans (fin_L rfl)))))
set_option maxRecDepth 100000 in
theorem b118_9 (o2 : Option Value) (o3 : Option Value) (s0 : Int64) (h : mH) : Ev 118 9 [some (.ref 15), some (.ref 1), o2, o3] [.long s0, .ref 15] h = rL (Rt 141 [.ref 1, .long (gJ (sJ h 15 11 s0) 15 0)] (sJ h 15 11 s0)) (fun r h1 => Ev 118 21 [some (.ref 15), some (.ref 1), o2, o3] [.long r, .ref 15] h1) := (ev_step (i := .putfield 41) (len := 3) (by decide +kernel) rfl).trans ((ev_step (i := .aload_n 0) (len := 1) (by decide +kernel) rfl).trans ((ev_step (i := .aload_n 1) (len := 1) (by decide +kernel) rfl).trans ((ev_step (i := .aload_n 0) (len := 1) (by decide +kernel) rfl).trans ((ev_step (i := .getfield 22) (len := 3) (by decide +kernel) rfl).trans ((ev_step (i := .invokevirtual 44) (len := 3) (by decide +kernel) rfl).trans (fin_L rfl))))))
theorem b118_21 (o2 : Option Value) (o3 : Option Value) (s0 : Int64) (h : mH) : Ev 118 21 [some (.ref 15), some (.ref 1), o2, o3] [.long s0, .ref 15] h = Ev 118 49 [some (.ref 15), some (.ref 1), some (.int 0), o3] [] (sI (sI (sJ (sJ (sJ h 15 8 s0) 15 9 (gJ (sJ h 15 8 s0) 15 8)) 15 10 0) 15 6 0) 15 7 0) := (ev_step (i := .putfield 47) (len := 3) (by decide +kernel) rfl).trans ((ev_step (i := .aload_n 0) (len := 1) (by decide +kernel) rfl).trans ((ev_step (i := .aload_n 0) (len := 1) (by decide +kernel) rfl).trans ((ev_step (i := .getfield 47) (len := 3) (by decide +kernel) rfl).trans ((ev_step (i := .putfield 50) (len := 3) (by decide +kernel) rfl).trans ((ev_step (i := .aload_n 0) (len := 1) (by decide +kernel) rfl).trans ((ev_step (i := .lconst 0) (len := 1) (by decide +kernel) rfl).trans ((ev_step (i := .putfield 53) (len := 3) (by decide +kernel) rfl).trans ((ev_step (i := .aload_n 0) (len := 1) (by decide +kernel) rfl).trans ((ev_step (i := .iconst 0) (len := 1) (by decide +kernel) rfl).trans ((ev_step (i := .putfield 56) (len := 3) (by decide +kernel) rfl).trans ((ev_step (i := .aload_n 0) (len := 1) (by decide +kernel) rfl).trans ((ev_step (i := .iconst 0) (len := 1) (by decide +kernel) rfl).trans ((ev_step (i := .putfield 59) (len := 3) (by decide +kernel) rfl).trans ((ev_step (i := .iconst 0) (len := 1) (by decide +kernel) rfl).trans ((ev_step (i := .istore_n 2) (len := 1) (by decide +kernel) rfl).trans rfl)))))))))))))))
theorem b118_49 (x2 : Int32) (o3 : Option Value) (h : mH) : Ev 118 49 [some (.ref 15), some (.ref 1), some (.int x2), o3] [] h = if 40 ≤ x2 then Ev 118 122 [some (.ref 15), some (.ref 1), some (.int x2), o3] [] h else Ev 118 55 [some (.ref 15), some (.ref 1), some (.int x2), o3] [] h := (ev_step (i := .iload_n 2) (len := 1) (by decide +kernel) rfl).trans ((ev_step (i := .bipush 40) (len := 2) (by decide +kernel) rfl).trans ((ev_step (i := .if_icmp .ge 70) (len := 3) (by decide +kernel) rfl).trans (fin_if _ _ (40 ≤ x2) _ _)))
theorem b118_55 (x2 : Int32) (o3 : Option Value) (h : mH) : Ev 118 55 [some (.ref 15), some (.ref 1), some (.int x2), o3] [] h = if (lg_cmp (gJ h 15 8) (0 : Int64)) = 0 then Ev 118 122 [some (.ref 15), some (.ref 1), some (.int x2), o3] [] h else Ev 118 64 [some (.ref 15), some (.ref 1), some (.int x2), o3] [] h := (ev_step (i := .aload_n 0) (len := 1) (by decide +kernel) rfl).trans ((ev_step (i := .getfield 47) (len := 3) (by decide +kernel) rfl).trans ((ev_step (i := .lconst 0) (len := 1) (by decide +kernel) rfl).trans ((ev_step (i := .lcmp) (len := 1) (by decide +kernel) rfl).trans ((ev_step (i := .ifCond .eq 61) (len := 3) (by decide +kernel) rfl).trans (fin_if _ _ ((lg_cmp (gJ h 15 8) (0 : Int64)) = 0) _ _)))))
set_option maxRecDepth 100000 in
theorem b118_64 (x2 : Int32) (o3 : Option Value) (h : mH) : Ev 118 64 [some (.ref 15), some (.ref 1), some (.int x2), o3] [] h = rV (Rt 119 [.ref 15, .ref 1] h) (fun h1 => Ev 118 74 [some (.ref 15), some (.ref 1), some (.int x2), some (.int (gI h 15 6))] [] h1) := (ev_step (i := .aload_n 0) (len := 1) (by decide +kernel) rfl).trans ((ev_step (i := .getfield 56) (len := 3) (by decide +kernel) rfl).trans ((ev_step (i := .istore_n 3) (len := 1) (by decide +kernel) rfl).trans ((ev_step (i := .aload_n 0) (len := 1) (by decide +kernel) rfl).trans ((ev_step (i := .aload_n 1) (len := 1) (by decide +kernel) rfl).trans ((ev_step (i := .invokevirtual 62) (len := 3) (by decide +kernel) rfl).trans (fin_V rfl))))))
theorem b118_74 (x2 : Int32) (x3 : Int32) (h : mH) : Ev 118 74 [some (.ref 15), some (.ref 1), some (.int x2), some (.int x3)] [] h = if ¬ (gI h 15 6) = x3 then Ev 118 83 [some (.ref 15), some (.ref 1), some (.int x2), some (.int x3)] [] h else Ev 118 82 [some (.ref 15), some (.ref 1), some (.int x2), some (.int x3)] [] h := (ev_step (i := .aload_n 0) (len := 1) (by decide +kernel) rfl).trans ((ev_step (i := .getfield 56) (len := 3) (by decide +kernel) rfl).trans ((ev_step (i := .iload_n 3) (len := 1) (by decide +kernel) rfl).trans ((ev_step (i := .if_icmp .ne 4) (len := 3) (by decide +kernel) rfl).trans (fin_if _ _ (¬ (gI h 15 6) = x3) _ _))))
theorem b118_82 (x2 : Int32) (x3 : Int32) (h : mH) : Ev 118 82 [some (.ref 15), some (.ref 1), some (.int x2), some (.int x3)] [] h = some (none, h) := (ev_step (i := .return_) (len := 1) (by decide +kernel) rfl).trans rfl
set_option maxRecDepth 100000 in
theorem b118_83 (x2 : Int32) (x3 : Int32) (h : mH) : Ev 118 83 [some (.ref 15), some (.ref 1), some (.int x2), some (.int x3)] [] h = rV (Rt 120 [.ref 15, .ref 1, .int x3] h) (fun h1 => Ev 118 89 [some (.ref 15), some (.ref 1), some (.int x2), some (.int x3)] [] h1) := (ev_step (i := .aload_n 0) (len := 1) (by decide +kernel) rfl).trans ((ev_step (i := .aload_n 1) (len := 1) (by decide +kernel) rfl).trans ((ev_step (i := .iload_n 3) (len := 1) (by decide +kernel) rfl).trans ((ev_step (i := .invokevirtual 66) (len := 3) (by decide +kernel) rfl).trans (fin_V rfl))))
theorem b118_89 (x2 : Int32) (x3 : Int32) (h : mH) : Ev 118 89 [some (.ref 15), some (.ref 1), some (.int x2), some (.int x3)] [] h = if ¬ (gI (sI h 15 7 ((gI h 15 7) + 1)) 15 3) = 1 then Ev 118 116 [some (.ref 15), some (.ref 1), some (.int x2), some (.int x3)] [] (sI h 15 7 ((gI h 15 7) + 1)) else Ev 118 107 [some (.ref 15), some (.ref 1), some (.int x2), some (.int x3)] [] (sI h 15 7 ((gI h 15 7) + 1)) := (ev_step (i := .aload_n 0) (len := 1) (by decide +kernel) rfl).trans ((ev_step (i := .dup) (len := 1) (by decide +kernel) rfl).trans ((ev_step (i := .getfield 59) (len := 3) (by decide +kernel) rfl).trans ((ev_step (i := .iconst 1) (len := 1) (by decide +kernel) rfl).trans ((ev_step (i := .iadd) (len := 1) (by decide +kernel) rfl).trans ((ev_step (i := .putfield 59) (len := 3) (by decide +kernel) rfl).trans ((ev_step (i := .aload_n 0) (len := 1) (by decide +kernel) rfl).trans ((ev_step (i := .getfield 70) (len := 3) (by decide +kernel) rfl).trans ((ev_step (i := .iconst 1) (len := 1) (by decide +kernel) rfl).trans ((ev_step (i := .if_icmp .ne 12) (len := 3) (by decide +kernel) rfl).trans (fin_if _ _ (¬ (gI (sI h 15 7 ((gI h 15 7) + 1)) 15 3) = 1) _ _))))))))))
set_option maxRecDepth 100000 in
theorem b118_107 (x2 : Int32) (x3 : Int32) (h : mH) : Ev 118 107 [some (.ref 15), some (.ref 1), some (.int x2), some (.int x3)] [] h = rI (Rt 121 [.ref 15, .ref 1] h) (fun r h1 => Ev 118 112 [some (.ref 15), some (.ref 1), some (.int x2), some (.int x3)] [.int r] h1) := (ev_step (i := .aload_n 0) (len := 1) (by decide +kernel) rfl).trans ((ev_step (i := .aload_n 1) (len := 1) (by decide +kernel) rfl).trans ((ev_step (i := .invokevirtual 73) (len := 3) (by decide +kernel) rfl).trans (fin_I (Or.inr rfl))))
theorem b118_112 (x2 : Int32) (x3 : Int32) (s0 : Int32) (h : mH) : Ev 118 112 [some (.ref 15), some (.ref 1), some (.int x2), some (.int x3)] [.int s0] h = if s0 = 0 then Ev 118 116 [some (.ref 15), some (.ref 1), some (.int x2), some (.int x3)] [] h else Ev 118 115 [some (.ref 15), some (.ref 1), some (.int x2), some (.int x3)] [] h := (ev_step (i := .ifCond .eq 4) (len := 3) (by decide +kernel) rfl).trans (fin_if _ _ (s0 = 0) _ _)
theorem b118_115 (x2 : Int32) (x3 : Int32) (h : mH) : Ev 118 115 [some (.ref 15), some (.ref 1), some (.int x2), some (.int x3)] [] h = some (none, h) := (ev_step (i := .return_) (len := 1) (by decide +kernel) rfl).trans rfl
theorem b118_116 (x2 : Int32) (x3 : Int32) (h : mH) : Ev 118 116 [some (.ref 15), some (.ref 1), some (.int x2), some (.int x3)] [] h = Ev 118 49 [some (.ref 15), some (.ref 1), some (.int (x2 + 1)), some (.int x3)] [] h := (ev_step (i := .iinc 2 1) (len := 3) (by decide +kernel) rfl).trans ((ev_step (i := .goto (-70)) (len := 3) (by decide +kernel) rfl).trans rfl)
theorem b118_122 (x2 : Int32) (o3 : Option Value) (h : mH) : Ev 118 122 [some (.ref 15), some (.ref 1), some (.int x2), o3] [] h = some (none, h) := (ev_step (i := .return_) (len := 1) (by decide +kernel) rfl).trans rfl
theorem b119_0 (o2 : Option Value) (o3 : Option Value) (o4 : Option Value) (h : mH) : Ev 119 0 [some (.ref 15), some (.ref 1), o2, o3, o4] [] h = Ev 119 7 [some (.ref 15), some (.ref 1), some (.int (gI h 15 2)), some (.int 0), o4] [] h := (ev_step (i := .aload_n 0) (len := 1) (by decide +kernel) rfl).trans ((ev_step (i := .getfield 9) (len := 3) (by decide +kernel) rfl).trans ((ev_step (i := .istore_n 2) (len := 1) (by decide +kernel) rfl).trans ((ev_step (i := .iconst 0) (len := 1) (by decide +kernel) rfl).trans ((ev_step (i := .istore_n 3) (len := 1) (by decide +kernel) rfl).trans rfl))))
theorem b119_7 (x2 : Int32) (x3 : Int32) (o4 : Option Value) (h : mH) : Ev 119 7 [some (.ref 15), some (.ref 1), some (.int x2), some (.int x3), o4] [] h = if 40 ≤ x3 then Ev 119 121 [some (.ref 15), some (.ref 1), some (.int x2), some (.int x3), o4] [] h else Ev 119 13 [some (.ref 15), some (.ref 1), some (.int x2), some (.int x3), o4] [] h := (ev_step (i := .iload_n 3) (len := 1) (by decide +kernel) rfl).trans ((ev_step (i := .bipush 40) (len := 2) (by decide +kernel) rfl).trans ((ev_step (i := .if_icmp .ge 111) (len := 3) (by decide +kernel) rfl).trans (fin_if _ _ (40 ≤ x3) _ _)))
theorem b119_13 (x2 : Int32) (x3 : Int32) (o4 : Option Value) (h : mH) : Ev 119 13 [some (.ref 15), some (.ref 1), some (.int x2), some (.int x3), o4] [] h = if x2 ≤ 0 then Ev 119 121 [some (.ref 15), some (.ref 1), some (.int x2), some (.int x3), o4] [] h else Ev 119 17 [some (.ref 15), some (.ref 1), some (.int x2), some (.int x3), o4] [] h := (ev_step (i := .iload_n 2) (len := 1) (by decide +kernel) rfl).trans ((ev_step (i := .ifCond .le 107) (len := 3) (by decide +kernel) rfl).trans (fin_if _ _ (x2 ≤ 0) _ _))
theorem b119_17 (x2 : Int32) (x3 : Int32) (o4 : Option Value) (h : mH) : Ev 119 17 [some (.ref 15), some (.ref 1), some (.int x2), some (.int x3), o4] [] h = if (lg_cmp (gJ h 15 8) (0 : Int64)) = 0 then Ev 119 121 [some (.ref 15), some (.ref 1), some (.int x2), some (.int x3), o4] [] h else Ev 119 26 [some (.ref 15), some (.ref 1), some (.int x2), some (.int x3), o4] [] h := (ev_step (i := .aload_n 0) (len := 1) (by decide +kernel) rfl).trans ((ev_step (i := .getfield 47) (len := 3) (by decide +kernel) rfl).trans ((ev_step (i := .lconst 0) (len := 1) (by decide +kernel) rfl).trans ((ev_step (i := .lcmp) (len := 1) (by decide +kernel) rfl).trans ((ev_step (i := .ifCond .eq 98) (len := 3) (by decide +kernel) rfl).trans (fin_if _ _ ((lg_cmp (gJ h 15 8) (0 : Int64)) = 0) _ _)))))
set_option maxRecDepth 100000 in
theorem b119_26 (x2 : Int32) (x3 : Int32) (o4 : Option Value) (h : mH) : Ev 119 26 [some (.ref 15), some (.ref 1), some (.int x2), some (.int x3), o4] [] h = rI (Rt 145 [.ref 1, .long (gJ h 15 8)] h) (fun r h1 => Ev 119 34 [some (.ref 15), some (.ref 1), some (.int x2), some (.int x3), o4] [.int r] h1) := (ev_step (i := .aload_n 1) (len := 1) (by decide +kernel) rfl).trans ((ev_step (i := .aload_n 0) (len := 1) (by decide +kernel) rfl).trans ((ev_step (i := .getfield 47) (len := 3) (by decide +kernel) rfl).trans ((ev_step (i := .invokevirtual 77) (len := 3) (by decide +kernel) rfl).trans (fin_I (Or.inl rfl)))))
set_option maxRecDepth 100000 in
theorem b119_34 (x2 : Int32) (x3 : Int32) (o4 : Option Value) (s0 : Int32) (h : mH) : Ev 119 34 [some (.ref 15), some (.ref 1), some (.int x2), some (.int x3), o4] [.int s0] h = rL (Rt 41 [.int s0] h) (fun r h1 => Ev 119 46 [some (.ref 15), some (.ref 1), some (.int x2), some (.int x3), some (.int s0)] [.long r, .long (gJ h 15 8), .ref 15] h1) := (ev_step (i := .istore 4) (len := 2) (by decide +kernel) rfl).trans ((ev_step (i := .aload_n 0) (len := 1) (by decide +kernel) rfl).trans ((ev_step (i := .dup) (len := 1) (by decide +kernel) rfl).trans ((ev_step (i := .getfield 47) (len := 3) (by decide +kernel) rfl).trans ((ev_step (i := .iload 4) (len := 2) (by decide +kernel) rfl).trans ((ev_step (i := .invokestatic 26) (len := 3) (by decide +kernel) rfl).trans (fin_L rfl))))))
set_option maxRecDepth 100000 in
theorem b119_46 (x2 : Int32) (x3 : Int32) (x4 : Int32) (s0 : Int64) (s1 : Int64) (h : mH) : Ev 119 46 [some (.ref 15), some (.ref 1), some (.int x2), some (.int x3), some (.int x4)] [.long s0, .long s1, .ref 15] h = rI (Rt 42 [.long (gJ (sJ h 15 8 (s1 &&& (s0 ^^^ (-1)))) 15 10), .int x4] (sJ h 15 8 (s1 &&& (s0 ^^^ (-1))))) (fun r h1 => Ev 119 63 [some (.ref 15), some (.ref 1), some (.int x2), some (.int x3), some (.int x4)] [.int r] h1) := (ev_step (i := .ldc2_w 30) (len := 3) (by decide +kernel) rfl).trans ((ev_step (i := .lxor) (len := 1) (by decide +kernel) rfl).trans ((ev_step (i := .land) (len := 1) (by decide +kernel) rfl).trans ((ev_step (i := .putfield 47) (len := 3) (by decide +kernel) rfl).trans ((ev_step (i := .aload_n 0) (len := 1) (by decide +kernel) rfl).trans ((ev_step (i := .getfield 53) (len := 3) (by decide +kernel) rfl).trans ((ev_step (i := .iload 4) (len := 2) (by decide +kernel) rfl).trans ((ev_step (i := .invokestatic 81) (len := 3) (by decide +kernel) rfl).trans (fin_I (Or.inr rfl)))))))))
theorem b119_63 (x2 : Int32) (x3 : Int32) (x4 : Int32) (s0 : Int32) (h : mH) : Ev 119 63 [some (.ref 15), some (.ref 1), some (.int x2), some (.int x3), some (.int x4)] [.int s0] h = if ¬ s0 = 0 then Ev 119 115 [some (.ref 15), some (.ref 1), some (.int x2), some (.int x3), some (.int x4)] [] h else Ev 119 66 [some (.ref 15), some (.ref 1), some (.int x2), some (.int x3), some (.int x4)] [] h := (ev_step (i := .ifCond .ne 52) (len := 3) (by decide +kernel) rfl).trans (fin_if _ _ (¬ s0 = 0) _ _)
theorem b119_66 (x2 : Int32) (x3 : Int32) (x4 : Int32) (h : mH) : Ev 119 66 [some (.ref 15), some (.ref 1), some (.int x2), some (.int x3), some (.int x4)] [] h = if (gI h 15 6) < 40 then Ev 119 78 [some (.ref 15), some (.ref 1), some (.int x2), some (.int x3), some (.int x4)] [] h else Ev 119 75 [some (.ref 15), some (.ref 1), some (.int x2), some (.int x3), some (.int x4)] [] h := (ev_step (i := .aload_n 0) (len := 1) (by decide +kernel) rfl).trans ((ev_step (i := .getfield 56) (len := 3) (by decide +kernel) rfl).trans ((ev_step (i := .bipush 40) (len := 2) (by decide +kernel) rfl).trans ((ev_step (i := .if_icmp .lt 6) (len := 3) (by decide +kernel) rfl).trans (fin_if _ _ ((gI h 15 6) < 40) _ _))))
theorem b119_75 (x2 : Int32) (x3 : Int32) (x4 : Int32) (h : mH) : Ev 119 75 [some (.ref 15), some (.ref 1), some (.int x2), some (.int x3), some (.int x4)] [] h = Ev 119 115 [some (.ref 15), some (.ref 1), some (.int x2), some (.int x3), some (.int x4)] [] h := (ev_step (i := .goto 40) (len := 3) (by decide +kernel) rfl).trans rfl
theorem b119_115 (x2 : Int32) (x3 : Int32) (x4 : Int32) (h : mH) : Ev 119 115 [some (.ref 15), some (.ref 1), some (.int x2), some (.int x3), some (.int x4)] [] h = Ev 119 7 [some (.ref 15), some (.ref 1), some (.int x2), some (.int (x3 + 1)), some (.int x4)] [] h := (ev_step (i := .iinc 3 1) (len := 3) (by decide +kernel) rfl).trans ((ev_step (i := .goto (-111)) (len := 3) (by decide +kernel) rfl).trans rfl)
theorem b119_78 (x2 : Int32) (x3 : Int32) (x4 : Int32) (h : mH) : Ev 119 78 [some (.ref 15), some (.ref 1), some (.int x2), some (.int x3), some (.int x4)] [] h = if 0 ≤ (gI h 15 6) ∧ (gI h 15 6).toNatClampNeg < 40 then Ev 119 89 [some (.ref 15), some (.ref 1), some (.int x2), some (.int x3), some (.int x4)] [] (sI h 16 (gI h 15 6).toNatClampNeg x4) else none := (ev_step (i := .aload_n 0) (len := 1) (by decide +kernel) rfl).trans ((ev_step (i := .getfield 15) (len := 3) (by decide +kernel) rfl).trans ((ev_step (i := .aload_n 0) (len := 1) (by decide +kernel) rfl).trans ((ev_step (i := .getfield 56) (len := 3) (by decide +kernel) rfl).trans ((ev_step (i := .iload 4) (len := 2) (by decide +kernel) rfl).trans ((ev_step (i := .iastore) (len := 1) (by decide +kernel) rfl).trans (fin_if _ _ (0 ≤ (gI h 15 6) ∧ (gI h 15 6).toNatClampNeg < 40) _ _))))))
theorem b119_89 (x2 : Int32) (x3 : Int32) (x4 : Int32) (h : mH) : Ev 119 89 [some (.ref 15), some (.ref 1), some (.int x2), some (.int x3), some (.int x4)] [] h = if 0 ≤ (gI h 15 6) ∧ (gI h 15 6).toNatClampNeg < 40 then Ev 119 102 [some (.ref 15), some (.ref 1), some (.int x2), some (.int x3), some (.int x4)] [] (sI h 17 (gI h 15 6).toNatClampNeg (gI h 15 7)) else none := (ev_step (i := .aload_n 0) (len := 1) (by decide +kernel) rfl).trans ((ev_step (i := .getfield 19) (len := 3) (by decide +kernel) rfl).trans ((ev_step (i := .aload_n 0) (len := 1) (by decide +kernel) rfl).trans ((ev_step (i := .getfield 56) (len := 3) (by decide +kernel) rfl).trans ((ev_step (i := .aload_n 0) (len := 1) (by decide +kernel) rfl).trans ((ev_step (i := .getfield 59) (len := 3) (by decide +kernel) rfl).trans ((ev_step (i := .iastore) (len := 1) (by decide +kernel) rfl).trans (fin_if _ _ (0 ≤ (gI h 15 6) ∧ (gI h 15 6).toNatClampNeg < 40) _ _)))))))
theorem b119_102 (x2 : Int32) (x3 : Int32) (x4 : Int32) (h : mH) : Ev 119 102 [some (.ref 15), some (.ref 1), some (.int x2), some (.int x3), some (.int x4)] [] h = Ev 119 115 [some (.ref 15), some (.ref 1), some (.int (x2 + (-1))), some (.int x3), some (.int x4)] [] (sI h 15 6 ((gI h 15 6) + 1)) := (ev_step (i := .aload_n 0) (len := 1) (by decide +kernel) rfl).trans ((ev_step (i := .dup) (len := 1) (by decide +kernel) rfl).trans ((ev_step (i := .getfield 56) (len := 3) (by decide +kernel) rfl).trans ((ev_step (i := .iconst 1) (len := 1) (by decide +kernel) rfl).trans ((ev_step (i := .iadd) (len := 1) (by decide +kernel) rfl).trans ((ev_step (i := .putfield 56) (len := 3) (by decide +kernel) rfl).trans ((ev_step (i := .iinc 2 (-1)) (len := 3) (by decide +kernel) rfl).trans rfl))))))
theorem b119_121 (x2 : Int32) (x3 : Int32) (o4 : Option Value) (h : mH) : Ev 119 121 [some (.ref 15), some (.ref 1), some (.int x2), some (.int x3), o4] [] h = some (none, h) := (ev_step (i := .return_) (len := 1) (by decide +kernel) rfl).trans rfl
theorem b120_0 (x2 : Int32) (o3 : Option Value) (o4 : Option Value) (o5 : Option Value) (o6 : Option Value) (h : mH) : Ev 120 0 [some (.ref 15), some (.ref 1), some (.int x2), o3, o4, o5, o6] [] h = Ev 120 2 [some (.ref 15), some (.ref 1), some (.int x2), some (.int x2), o4, o5, o6] [] h := (ev_step (i := .iload_n 2) (len := 1) (by decide +kernel) rfl).trans ((ev_step (i := .istore_n 3) (len := 1) (by decide +kernel) rfl).trans rfl)
theorem b120_2 (x2 : Int32) (x3 : Int32) (o4 : Option Value) (o5 : Option Value) (o6 : Option Value) (h : mH) : Ev 120 2 [some (.ref 15), some (.ref 1), some (.int x2), some (.int x3), o4, o5, o6] [] h = if (gI h 15 6) ≤ x3 then Ev 120 108 [some (.ref 15), some (.ref 1), some (.int x2), some (.int x3), o4, o5, o6] [] h else Ev 120 10 [some (.ref 15), some (.ref 1), some (.int x2), some (.int x3), o4, o5, o6] [] h := (ev_step (i := .iload_n 3) (len := 1) (by decide +kernel) rfl).trans ((ev_step (i := .aload_n 0) (len := 1) (by decide +kernel) rfl).trans ((ev_step (i := .getfield 56) (len := 3) (by decide +kernel) rfl).trans ((ev_step (i := .if_icmp .ge 101) (len := 3) (by decide +kernel) rfl).trans (fin_if _ _ ((gI h 15 6) ≤ x3) _ _))))
theorem b120_10 (x2 : Int32) (x3 : Int32) (o4 : Option Value) (o5 : Option Value) (o6 : Option Value) (h : mH) : Ev 120 10 [some (.ref 15), some (.ref 1), some (.int x2), some (.int x3), o4, o5, o6] [] h = if 40 ≤ x3 then Ev 120 108 [some (.ref 15), some (.ref 1), some (.int x2), some (.int x3), o4, o5, o6] [] h else Ev 120 16 [some (.ref 15), some (.ref 1), some (.int x2), some (.int x3), o4, o5, o6] [] h := (ev_step (i := .iload_n 3) (len := 1) (by decide +kernel) rfl).trans ((ev_step (i := .bipush 40) (len := 2) (by decide +kernel) rfl).trans ((ev_step (i := .if_icmp .ge 95) (len := 3) (by decide +kernel) rfl).trans (fin_if _ _ (40 ≤ x3) _ _)))
theorem b120_16 (x2 : Int32) (x3 : Int32) (o4 : Option Value) (o5 : Option Value) (o6 : Option Value) (h : mH) : Ev 120 16 [some (.ref 15), some (.ref 1), some (.int x2), some (.int x3), o4, o5, o6] [] h = if 0 ≤ x3 ∧ x3.toNatClampNeg < 40 then Ev 120 22 [some (.ref 15), some (.ref 1), some (.int x2), some (.int x3), o4, o5, o6] [.int (gI h 16 x3.toNatClampNeg)] h else none := (ev_step (i := .aload_n 0) (len := 1) (by decide +kernel) rfl).trans ((ev_step (i := .getfield 15) (len := 3) (by decide +kernel) rfl).trans ((ev_step (i := .iload_n 3) (len := 1) (by decide +kernel) rfl).trans ((ev_step (i := .iaload) (len := 1) (by decide +kernel) rfl).trans (fin_if _ _ (0 ≤ x3 ∧ x3.toNatClampNeg < 40) _ _))))
set_option maxRecDepth 100000 in
theorem b120_22 (x2 : Int32) (x3 : Int32) (o4 : Option Value) (o5 : Option Value) (o6 : Option Value) (s0 : Int32) (h : mH) : Ev 120 22 [some (.ref 15), some (.ref 1), some (.int x2), some (.int x3), o4, o5, o6] [.int s0] h = rI (Rt 42 [.long (gJ h 15 11), .int s0] h) (fun r h1 => Ev 120 33 [some (.ref 15), some (.ref 1), some (.int x2), some (.int x3), some (.int s0), o5, o6] [.int r] h1) := (ev_step (i := .istore 4) (len := 2) (by decide +kernel) rfl).trans ((ev_step (i := .aload_n 0) (len := 1) (by decide +kernel) rfl).trans ((ev_step (i := .getfield 41) (len := 3) (by decide +kernel) rfl).trans ((ev_step (i := .iload 4) (len := 2) (by decide +kernel) rfl).trans ((ev_step (i := .invokestatic 81) (len := 3) (by decide +kernel) rfl).trans (fin_I (Or.inr rfl))))))
theorem b120_33 (x2 : Int32) (x3 : Int32) (x4 : Int32) (o5 : Option Value) (o6 : Option Value) (s0 : Int32) (h : mH) : Ev 120 33 [some (.ref 15), some (.ref 1), some (.int x2), some (.int x3), some (.int x4), o5, o6] [.int s0] h = if s0 = 0 then Ev 120 54 [some (.ref 15), some (.ref 1), some (.int x2), some (.int x3), some (.int x4), o5, o6] [] h else Ev 120 36 [some (.ref 15), some (.ref 1), some (.int x2), some (.int x3), some (.int x4), o5, o6] [] h := (ev_step (i := .ifCond .eq 21) (len := 3) (by decide +kernel) rfl).trans (fin_if _ _ (s0 = 0) _ _)
set_option maxRecDepth 100000 in
theorem b120_36 (x2 : Int32) (x3 : Int32) (x4 : Int32) (o5 : Option Value) (o6 : Option Value) (h : mH) : Ev 120 36 [some (.ref 15), some (.ref 1), some (.int x2), some (.int x3), some (.int x4), o5, o6] [] h = rL (Rt 139 [.ref 1, .int x4] h) (fun r h1 => Ev 120 47 [some (.ref 15), some (.ref 1), some (.int x2), some (.int x3), some (.int x4), o5, o6] [.long r, .long (gJ h 15 10), .ref 15] h1) := (ev_step (i := .aload_n 0) (len := 1) (by decide +kernel) rfl).trans ((ev_step (i := .dup) (len := 1) (by decide +kernel) rfl).trans ((ev_step (i := .getfield 53) (len := 3) (by decide +kernel) rfl).trans ((ev_step (i := .aload_n 1) (len := 1) (by decide +kernel) rfl).trans ((ev_step (i := .iload 4) (len := 2) (by decide +kernel) rfl).trans ((ev_step (i := .invokevirtual 85) (len := 3) (by decide +kernel) rfl).trans (fin_L rfl))))))
theorem b120_47 (x2 : Int32) (x3 : Int32) (x4 : Int32) (o5 : Option Value) (o6 : Option Value) (s0 : Int64) (s1 : Int64) (h : mH) : Ev 120 47 [some (.ref 15), some (.ref 1), some (.int x2), some (.int x3), some (.int x4), o5, o6] [.long s0, .long s1, .ref 15] h = Ev 120 102 [some (.ref 15), some (.ref 1), some (.int x2), some (.int x3), some (.int x4), o5, o6] [] (sJ h 15 10 (s1 ||| s0)) := (ev_step (i := .lor) (len := 1) (by decide +kernel) rfl).trans ((ev_step (i := .putfield 53) (len := 3) (by decide +kernel) rfl).trans ((ev_step (i := .goto 51) (len := 3) (by decide +kernel) rfl).trans rfl))
theorem b120_102 (x2 : Int32) (x3 : Int32) (x4 : Int32) (o5 : Option Value) (o6 : Option Value) (h : mH) : Ev 120 102 [some (.ref 15), some (.ref 1), some (.int x2), some (.int x3), some (.int x4), o5, o6] [] h = Ev 120 2 [some (.ref 15), some (.ref 1), some (.int x2), some (.int (x3 + 1)), some (.int x4), o5, o6] [] h := (ev_step (i := .iinc 3 1) (len := 3) (by decide +kernel) rfl).trans ((ev_step (i := .goto (-103)) (len := 3) (by decide +kernel) rfl).trans rfl)
set_option maxRecDepth 100000 in
theorem b120_54 (x2 : Int32) (x3 : Int32) (x4 : Int32) (o5 : Option Value) (o6 : Option Value) (h : mH) : Ev 120 54 [some (.ref 15), some (.ref 1), some (.int x2), some (.int x3), some (.int x4), o5, o6] [] h = rL (Rt 135 [.ref 1, .int x4] h) (fun r h1 => Ev 120 60 [some (.ref 15), some (.ref 1), some (.int x2), some (.int x3), some (.int x4), o5, o6] [.long r] h1) := (ev_step (i := .aload_n 1) (len := 1) (by decide +kernel) rfl).trans ((ev_step (i := .iload 4) (len := 2) (by decide +kernel) rfl).trans ((ev_step (i := .invokevirtual 88) (len := 3) (by decide +kernel) rfl).trans (fin_L rfl)))
theorem b120_60 (x2 : Int32) (x3 : Int32) (x4 : Int32) (o5 : Option Value) (o6 : Option Value) (s0 : Int64) (h : mH) : Ev 120 60 [some (.ref 15), some (.ref 1), some (.int x2), some (.int x3), some (.int x4), o5, o6] [.long s0] h = Ev 120 102 [some (.ref 15), some (.ref 1), some (.int x2), some (.int x3), some (.int x4), some (.long ((s0 &&& ((gJ h 15 10) ^^^ (-1))) &&& ((gJ h 15 9) ^^^ (-1)))), none] [] (sJ (sJ h 15 8 ((gJ h 15 8) ||| ((s0 &&& ((gJ h 15 10) ^^^ (-1))) &&& ((gJ h 15 9) ^^^ (-1))))) 15 9 ((gJ (sJ h 15 8 ((gJ h 15 8) ||| ((s0 &&& ((gJ h 15 10) ^^^ (-1))) &&& ((gJ h 15 9) ^^^ (-1))))) 15 9) ||| ((s0 &&& ((gJ h 15 10) ^^^ (-1))) &&& ((gJ h 15 9) ^^^ (-1))))) := (ev_step (i := .aload_n 0) (len := 1) (by decide +kernel) rfl).trans ((ev_step (i := .getfield 53) (len := 3) (by decide +kernel) rfl).trans ((ev_step (i := .ldc2_w 30) (len := 3) (by decide +kernel) rfl).trans ((ev_step (i := .lxor) (len := 1) (by decide +kernel) rfl).trans ((ev_step (i := .land) (len := 1) (by decide +kernel) rfl).trans ((ev_step (i := .aload_n 0) (len := 1) (by decide +kernel) rfl).trans ((ev_step (i := .getfield 50) (len := 3) (by decide +kernel) rfl).trans ((ev_step (i := .ldc2_w 30) (len := 3) (by decide +kernel) rfl).trans ((ev_step (i := .lxor) (len := 1) (by decide +kernel) rfl).trans ((ev_step (i := .land) (len := 1) (by decide +kernel) rfl).trans ((ev_step (i := .lstore 5) (len := 2) (by decide +kernel) rfl).trans ((ev_step (i := .aload_n 0) (len := 1) (by decide +kernel) rfl).trans ((ev_step (i := .dup) (len := 1) (by decide +kernel) rfl).trans ((ev_step (i := .getfield 47) (len := 3) (by decide +kernel) rfl).trans ((ev_step (i := .lload 5) (len := 2) (by decide +kernel) rfl).trans ((ev_step (i := .lor) (len := 1) (by decide +kernel) rfl).trans ((ev_step (i := .putfield 47) (len := 3) (by decide +kernel) rfl).trans ((ev_step (i := .aload_n 0) (len := 1) (by decide +kernel) rfl).trans ((ev_step (i := .dup) (len := 1) (by decide +kernel) rfl).trans ((ev_step (i := .getfield 50) (len := 3) (by decide +kernel) rfl).trans ((ev_step (i := .lload 5) (len := 2) (by decide +kernel) rfl).trans ((ev_step (i := .lor) (len := 1) (by decide +kernel) rfl).trans ((ev_step (i := .putfield 50) (len := 3) (by decide +kernel) rfl).trans rfl))))))))))))))))))))))
theorem b120_108 (x2 : Int32) (x3 : Int32) (o4 : Option Value) (o5 : Option Value) (o6 : Option Value) (h : mH) : Ev 120 108 [some (.ref 15), some (.ref 1), some (.int x2), some (.int x3), o4, o5, o6] [] h = some (none, h) := (ev_step (i := .return_) (len := 1) (by decide +kernel) rfl).trans rfl
theorem b121_0 (o2 : Option Value) (h : mH) : Ev 121 0 [some (.ref 15), some (.ref 1), o2] [] h = Ev 121 2 [some (.ref 15), some (.ref 1), some (.int 0)] [] h := (ev_step (i := .iconst 0) (len := 1) (by decide +kernel) rfl).trans ((ev_step (i := .istore_n 2) (len := 1) (by decide +kernel) rfl).trans rfl)
theorem b121_2 (x2 : Int32) (h : mH) : Ev 121 2 [some (.ref 15), some (.ref 1), some (.int x2)] [] h = if (gI h 1 6) ≤ x2 then Ev 121 44 [some (.ref 15), some (.ref 1), some (.int x2)] [] h else Ev 121 10 [some (.ref 15), some (.ref 1), some (.int x2)] [] h := (ev_step (i := .iload_n 2) (len := 1) (by decide +kernel) rfl).trans ((ev_step (i := .aload_n 1) (len := 1) (by decide +kernel) rfl).trans ((ev_step (i := .getfield 91) (len := 3) (by decide +kernel) rfl).trans ((ev_step (i := .if_icmp .ge 37) (len := 3) (by decide +kernel) rfl).trans (fin_if _ _ ((gI h 1 6) ≤ x2) _ _))))
set_option maxRecDepth 100000 in
theorem b121_10 (x2 : Int32) (h : mH) : Ev 121 10 [some (.ref 15), some (.ref 1), some (.int x2)] [] h = rI (Rt 42 [.long (gJ h 15 1), .int x2] h) (fun r h1 => Ev 121 18 [some (.ref 15), some (.ref 1), some (.int x2)] [.int r] h1) := (ev_step (i := .aload_n 0) (len := 1) (by decide +kernel) rfl).trans ((ev_step (i := .getfield 32) (len := 3) (by decide +kernel) rfl).trans ((ev_step (i := .iload_n 2) (len := 1) (by decide +kernel) rfl).trans ((ev_step (i := .invokestatic 81) (len := 3) (by decide +kernel) rfl).trans (fin_I (Or.inr rfl)))))
theorem b121_18 (x2 : Int32) (s0 : Int32) (h : mH) : Ev 121 18 [some (.ref 15), some (.ref 1), some (.int x2)] [.int s0] h = if s0 = 0 then Ev 121 38 [some (.ref 15), some (.ref 1), some (.int x2)] [] h else Ev 121 21 [some (.ref 15), some (.ref 1), some (.int x2)] [] h := (ev_step (i := .ifCond .eq 20) (len := 3) (by decide +kernel) rfl).trans (fin_if _ _ (s0 = 0) _ _)
set_option maxRecDepth 100000 in
theorem b121_21 (x2 : Int32) (h : mH) : Ev 121 21 [some (.ref 15), some (.ref 1), some (.int x2)] [] h = rL (Rt 139 [.ref 1, .int x2] h) (fun r h1 => Ev 121 26 [some (.ref 15), some (.ref 1), some (.int x2)] [.long r] h1) := (ev_step (i := .aload_n 1) (len := 1) (by decide +kernel) rfl).trans ((ev_step (i := .iload_n 2) (len := 1) (by decide +kernel) rfl).trans ((ev_step (i := .invokevirtual 85) (len := 3) (by decide +kernel) rfl).trans (fin_L rfl)))
theorem b121_26 (x2 : Int32) (s0 : Int64) (h : mH) : Ev 121 26 [some (.ref 15), some (.ref 1), some (.int x2)] [.long s0] h = if ¬ (lg_cmp (s0 &&& (gJ h 15 10)) (0 : Int64)) = 0 then Ev 121 38 [some (.ref 15), some (.ref 1), some (.int x2)] [] h else Ev 121 36 [some (.ref 15), some (.ref 1), some (.int x2)] [] h := (ev_step (i := .aload_n 0) (len := 1) (by decide +kernel) rfl).trans ((ev_step (i := .getfield 53) (len := 3) (by decide +kernel) rfl).trans ((ev_step (i := .land) (len := 1) (by decide +kernel) rfl).trans ((ev_step (i := .lconst 0) (len := 1) (by decide +kernel) rfl).trans ((ev_step (i := .lcmp) (len := 1) (by decide +kernel) rfl).trans ((ev_step (i := .ifCond .ne 5) (len := 3) (by decide +kernel) rfl).trans (fin_if _ _ (¬ (lg_cmp (s0 &&& (gJ h 15 10)) (0 : Int64)) = 0) _ _))))))
theorem b121_36 (x2 : Int32) (h : mH) : Ev 121 36 [some (.ref 15), some (.ref 1), some (.int x2)] [] h = some (some (.int 0), h) := (ev_step (i := .iconst 0) (len := 1) (by decide +kernel) rfl).trans ((ev_step (i := .ireturn) (len := 1) (by decide +kernel) rfl).trans rfl)
theorem b121_38 (x2 : Int32) (h : mH) : Ev 121 38 [some (.ref 15), some (.ref 1), some (.int x2)] [] h = Ev 121 2 [some (.ref 15), some (.ref 1), some (.int (x2 + 1))] [] h := (ev_step (i := .iinc 2 1) (len := 3) (by decide +kernel) rfl).trans ((ev_step (i := .goto (-39)) (len := 3) (by decide +kernel) rfl).trans rfl)
theorem b121_44 (x2 : Int32) (h : mH) : Ev 121 44 [some (.ref 15), some (.ref 1), some (.int x2)] [] h = some (some (.int 1), h) := (ev_step (i := .iconst 1) (len := 1) (by decide +kernel) rfl).trans ((ev_step (i := .ireturn) (len := 1) (by decide +kernel) rfl).trans rfl)
theorem b122_0 (x1 : Int32) (h : mH) : Ev 122 0 [some (.ref 15), some (.int x1)] [] h = if x1 = 0 then Ev 122 32 [some (.ref 15), some (.int x1)] [] h else if x1 = 1 then Ev 122 37 [some (.ref 15), some (.int x1)] [] h else if x1 = 2 then Ev 122 42 [some (.ref 15), some (.int x1)] [] h else if x1 = 3 then Ev 122 47 [some (.ref 15), some (.int x1)] [] h else Ev 122 61 [some (.ref 15), some (.int x1)] [] h := (ev_step (i := .iload_n 1) (len := 1) (by decide +kernel) rfl).trans ((ev_step (i := .tableswitch 60 0 3 #[31, 36, 41, 46]) (len := 31) (by decide +kernel) rfl).trans (fin_ifs (x1 = 0) rfl (fin_ifs (x1 = 1) rfl (fin_ifs (x1 = 2) rfl (fin_ifs (x1 = 3) rfl rfl)))))
theorem b122_32 (x1 : Int32) (h : mH) : Ev 122 32 [some (.ref 15), some (.int x1)] [] h = some (some (.long (gJ h 15 0)), h) := (ev_step (i := .aload_n 0) (len := 1) (by decide +kernel) rfl).trans ((ev_step (i := .getfield 22) (len := 3) (by decide +kernel) rfl).trans ((ev_step (i := .lreturn) (len := 1) (by decide +kernel) rfl).trans rfl))
theorem b122_37 (x1 : Int32) (h : mH) : Ev 122 37 [some (.ref 15), some (.int x1)] [] h = some (some (.long (gJ h 15 1)), h) := (ev_step (i := .aload_n 0) (len := 1) (by decide +kernel) rfl).trans ((ev_step (i := .getfield 32) (len := 3) (by decide +kernel) rfl).trans ((ev_step (i := .lreturn) (len := 1) (by decide +kernel) rfl).trans rfl))
theorem b122_42 (x1 : Int32) (h : mH) : Ev 122 42 [some (.ref 15), some (.int x1)] [] h = some (some (.long (gJ h 15 10)), h) := (ev_step (i := .aload_n 0) (len := 1) (by decide +kernel) rfl).trans ((ev_step (i := .getfield 53) (len := 3) (by decide +kernel) rfl).trans ((ev_step (i := .lreturn) (len := 1) (by decide +kernel) rfl).trans rfl))
theorem b122_47 (x1 : Int32) (h : mH) : Ev 122 47 [some (.ref 15), some (.int x1)] [] h = some (some (.long ((gJ h 15 11) &&& ((gJ h 15 10) ^^^ (-1)))), h) := (ev_step (i := .aload_n 0) (len := 1) (by decide +kernel) rfl).trans ((ev_step (i := .getfield 41) (len := 3) (by decide +kernel) rfl).trans ((ev_step (i := .aload_n 0) (len := 1) (by decide +kernel) rfl).trans ((ev_step (i := .getfield 53) (len := 3) (by decide +kernel) rfl).trans ((ev_step (i := .ldc2_w 30) (len := 3) (by decide +kernel) rfl).trans ((ev_step (i := .lxor) (len := 1) (by decide +kernel) rfl).trans ((ev_step (i := .land) (len := 1) (by decide +kernel) rfl).trans ((ev_step (i := .lreturn) (len := 1) (by decide +kernel) rfl).trans rfl)))))))
theorem b122_61 (x1 : Int32) (h : mH) : Ev 122 61 [some (.ref 15), some (.int x1)] [] h = some (some (.long (((gJ h 15 11) &&& ((gJ h 15 10) ^^^ (-1))) &&& (gJ h 15 0))), h) := (ev_step (i := .aload_n 0) (len := 1) (by decide +kernel) rfl).trans ((ev_step (i := .getfield 41) (len := 3) (by decide +kernel) rfl).trans ((ev_step (i := .aload_n 0) (len := 1) (by decide +kernel) rfl).trans ((ev_step (i := .getfield 53) (len := 3) (by decide +kernel) rfl).trans ((ev_step (i := .ldc2_w 30) (len := 3) (by decide +kernel) rfl).trans ((ev_step (i := .lxor) (len := 1) (by decide +kernel) rfl).trans ((ev_step (i := .land) (len := 1) (by decide +kernel) rfl).trans ((ev_step (i := .aload_n 0) (len := 1) (by decide +kernel) rfl).trans ((ev_step (i := .getfield 22) (len := 3) (by decide +kernel) rfl).trans ((ev_step (i := .land) (len := 1) (by decide +kernel) rfl).trans ((ev_step (i := .lreturn) (len := 1) (by decide +kernel) rfl).trans rfl))))))))))
theorem b123_0 (x1 : Int32) (x2 : Int32) (h : mH) : Ev 123 0 [some (.ref 15), some (.int x1), some (.int x2)] [] h = if x1 < 0 then Ev 123 18 [some (.ref 15), some (.int x1), some (.int x2)] [] h else Ev 123 4 [some (.ref 15), some (.int x1), some (.int x2)] [] h := (ev_step (i := .iload_n 1) (len := 1) (by decide +kernel) rfl).trans ((ev_step (i := .ifCond .lt 17) (len := 3) (by decide +kernel) rfl).trans (fin_if _ _ (x1 < 0) _ _))
theorem b123_4 (x1 : Int32) (x2 : Int32) (h : mH) : Ev 123 4 [some (.ref 15), some (.int x1), some (.int x2)] [] h = if (gI h 15 6) ≤ x1 then Ev 123 18 [some (.ref 15), some (.int x1), some (.int x2)] [] h else Ev 123 12 [some (.ref 15), some (.int x1), some (.int x2)] [] h := (ev_step (i := .iload_n 1) (len := 1) (by decide +kernel) rfl).trans ((ev_step (i := .aload_n 0) (len := 1) (by decide +kernel) rfl).trans ((ev_step (i := .getfield 56) (len := 3) (by decide +kernel) rfl).trans ((ev_step (i := .if_icmp .ge 9) (len := 3) (by decide +kernel) rfl).trans (fin_if _ _ ((gI h 15 6) ≤ x1) _ _))))
theorem b123_12 (x1 : Int32) (x2 : Int32) (h : mH) : Ev 123 12 [some (.ref 15), some (.int x1), some (.int x2)] [] h = if x1 < 40 then Ev 123 20 [some (.ref 15), some (.int x1), some (.int x2)] [] h else Ev 123 18 [some (.ref 15), some (.int x1), some (.int x2)] [] h := (ev_step (i := .iload_n 1) (len := 1) (by decide +kernel) rfl).trans ((ev_step (i := .bipush 40) (len := 2) (by decide +kernel) rfl).trans ((ev_step (i := .if_icmp .lt 5) (len := 3) (by decide +kernel) rfl).trans (fin_if _ _ (x1 < 40) _ _)))
theorem b123_18 (x1 : Int32) (x2 : Int32) (h : mH) : Ev 123 18 [some (.ref 15), some (.int x1), some (.int x2)] [] h = some (some (.int (-1)), h) := (ev_step (i := .iconst (-1)) (len := 1) (by decide +kernel) rfl).trans ((ev_step (i := .ireturn) (len := 1) (by decide +kernel) rfl).trans rfl)
theorem b123_20 (x1 : Int32) (x2 : Int32) (h : mH) : Ev 123 20 [some (.ref 15), some (.int x1), some (.int x2)] [] h = if x2 = 0 then Ev 123 48 [some (.ref 15), some (.int x1), some (.int x2)] [] h else if x2 = 1 then Ev 123 55 [some (.ref 15), some (.int x1), some (.int x2)] [] h else Ev 123 77 [some (.ref 15), some (.int x1), some (.int x2)] [] h := (ev_step (i := .iload_n 2) (len := 1) (by decide +kernel) rfl).trans ((ev_step (i := .lookupswitch 56 #[(0, 27), (1, 34)]) (len := 27) (by decide +kernel) rfl).trans (fin_ifs (x2 = 0) rfl (fin_ifs (x2 = 1) rfl rfl)))
theorem b123_48 (x1 : Int32) (x2 : Int32) (h : mH) : Ev 123 48 [some (.ref 15), some (.int x1), some (.int x2)] [] h = if 0 ≤ x1 ∧ x1.toNatClampNeg < 40 then Ev 123 54 [some (.ref 15), some (.int x1), some (.int x2)] [.int (gI h 16 x1.toNatClampNeg)] h else none := (ev_step (i := .aload_n 0) (len := 1) (by decide +kernel) rfl).trans ((ev_step (i := .getfield 15) (len := 3) (by decide +kernel) rfl).trans ((ev_step (i := .iload_n 1) (len := 1) (by decide +kernel) rfl).trans ((ev_step (i := .iaload) (len := 1) (by decide +kernel) rfl).trans (fin_if _ _ (0 ≤ x1 ∧ x1.toNatClampNeg < 40) _ _))))
theorem b123_54 (x1 : Int32) (x2 : Int32) (s0 : Int32) (h : mH) : Ev 123 54 [some (.ref 15), some (.int x1), some (.int x2)] [.int s0] h = some (some (.int s0), h) := (ev_step (i := .ireturn) (len := 1) (by decide +kernel) rfl).trans rfl
theorem b123_55 (x1 : Int32) (x2 : Int32) (h : mH) : Ev 123 55 [some (.ref 15), some (.int x1), some (.int x2)] [] h = if 0 ≤ x1 ∧ x1.toNatClampNeg < 40 then Ev 123 65 [some (.ref 15), some (.int x1), some (.int x2)] [.int (gI h 16 x1.toNatClampNeg), .long (gJ h 15 11)] h else none := (ev_step (i := .aload_n 0) (len := 1) (by decide +kernel) rfl).trans ((ev_step (i := .getfield 41) (len := 3) (by decide +kernel) rfl).trans ((ev_step (i := .aload_n 0) (len := 1) (by decide +kernel) rfl).trans ((ev_step (i := .getfield 15) (len := 3) (by decide +kernel) rfl).trans ((ev_step (i := .iload_n 1) (len := 1) (by decide +kernel) rfl).trans ((ev_step (i := .iaload) (len := 1) (by decide +kernel) rfl).trans (fin_if _ _ (0 ≤ x1 ∧ x1.toNatClampNeg < 40) _ _))))))
set_option maxRecDepth 100000 in
theorem b123_65 (x1 : Int32) (x2 : Int32) (s0 : Int32) (s1 : Int64) (h : mH) : Ev 123 65 [some (.ref 15), some (.int x1), some (.int x2)] [.int s0, .long s1] h = rI (Rt 42 [.long s1, .int s0] h) (fun r h1 => Ev 123 68 [some (.ref 15), some (.int x1), some (.int x2)] [.int r] h1) := (ev_step (i := .invokestatic 81) (len := 3) (by decide +kernel) rfl).trans (fin_I (Or.inr rfl))
theorem b123_68 (x1 : Int32) (x2 : Int32) (s0 : Int32) (h : mH) : Ev 123 68 [some (.ref 15), some (.int x1), some (.int x2)] [.int s0] h = if s0 = 0 then Ev 123 75 [some (.ref 15), some (.int x1), some (.int x2)] [] h else Ev 123 71 [some (.ref 15), some (.int x1), some (.int x2)] [] h := (ev_step (i := .ifCond .eq 7) (len := 3) (by decide +kernel) rfl).trans (fin_if _ _ (s0 = 0) _ _)
theorem b123_71 (x1 : Int32) (x2 : Int32) (h : mH) : Ev 123 71 [some (.ref 15), some (.int x1), some (.int x2)] [] h = Ev 123 76 [some (.ref 15), some (.int x1), some (.int x2)] [.int 1] h := (ev_step (i := .iconst 1) (len := 1) (by decide +kernel) rfl).trans ((ev_step (i := .goto 4) (len := 3) (by decide +kernel) rfl).trans rfl)
theorem b123_76 (x1 : Int32) (x2 : Int32) (s0 : Int32) (h : mH) : Ev 123 76 [some (.ref 15), some (.int x1), some (.int x2)] [.int s0] h = some (some (.int s0), h) := (ev_step (i := .ireturn) (len := 1) (by decide +kernel) rfl).trans rfl
theorem b123_75 (x1 : Int32) (x2 : Int32) (h : mH) : Ev 123 75 [some (.ref 15), some (.int x1), some (.int x2)] [] h = Ev 123 76 [some (.ref 15), some (.int x1), some (.int x2)] [.int 0] h := (ev_step (i := .iconst 0) (len := 1) (by decide +kernel) rfl).trans rfl
theorem b123_77 (x1 : Int32) (x2 : Int32) (h : mH) : Ev 123 77 [some (.ref 15), some (.int x1), some (.int x2)] [] h = if 0 ≤ x1 ∧ x1.toNatClampNeg < 40 then Ev 123 83 [some (.ref 15), some (.int x1), some (.int x2)] [.int (gI h 17 x1.toNatClampNeg)] h else none := (ev_step (i := .aload_n 0) (len := 1) (by decide +kernel) rfl).trans ((ev_step (i := .getfield 19) (len := 3) (by decide +kernel) rfl).trans ((ev_step (i := .iload_n 1) (len := 1) (by decide +kernel) rfl).trans ((ev_step (i := .iaload) (len := 1) (by decide +kernel) rfl).trans (fin_if _ _ (0 ≤ x1 ∧ x1.toNatClampNeg < 40) _ _))))
theorem b123_83 (x1 : Int32) (x2 : Int32) (s0 : Int32) (h : mH) : Ev 123 83 [some (.ref 15), some (.int x1), some (.int x2)] [.int s0] h = some (some (.int s0), h) := (ev_step (i := .ireturn) (len := 1) (by decide +kernel) rfl).trans rfl
set_option maxRecDepth 100000 in
theorem b124_0 (h : mH) : Ev 124 0 [some (.ref 15), some (.ref 1)] [] h = rI (Rt 142 [.ref 1, .long ((gJ h 15 11) &&& ((gJ h 15 10) ^^^ (-1)))] h) (fun r h1 => Ev 124 17 [some (.ref 15), some (.ref 1)] [.int r] h1) := (ev_step (i := .aload_n 1) (len := 1) (by decide +kernel) rfl).trans ((ev_step (i := .aload_n 0) (len := 1) (by decide +kernel) rfl).trans ((ev_step (i := .getfield 41) (len := 3) (by decide +kernel) rfl).trans ((ev_step (i := .aload_n 0) (len := 1) (by decide +kernel) rfl).trans ((ev_step (i := .getfield 53) (len := 3) (by decide +kernel) rfl).trans ((ev_step (i := .ldc2_w 30) (len := 3) (by decide +kernel) rfl).trans ((ev_step (i := .lxor) (len := 1) (by decide +kernel) rfl).trans ((ev_step (i := .land) (len := 1) (by decide +kernel) rfl).trans ((ev_step (i := .invokevirtual 94) (len := 3) (by decide +kernel) rfl).trans (fin_I (Or.inl rfl))))))))))
set_option maxRecDepth 100000 in
theorem b124_17 (s0 : Int32) (h : mH) : Ev 124 17 [some (.ref 15), some (.ref 1)] [.int s0] h = rI (Rt 142 [.ref 1, .long (gJ h 15 10)] h) (fun r h1 => Ev 124 25 [some (.ref 15), some (.ref 1)] [.int r, .int s0] h1) := (ev_step (i := .aload_n 1) (len := 1) (by decide +kernel) rfl).trans ((ev_step (i := .aload_n 0) (len := 1) (by decide +kernel) rfl).trans ((ev_step (i := .getfield 53) (len := 3) (by decide +kernel) rfl).trans ((ev_step (i := .invokevirtual 94) (len := 3) (by decide +kernel) rfl).trans (fin_I (Or.inl rfl)))))
theorem b124_25 (s0 : Int32) (s1 : Int32) (h : mH) : Ev 124 25 [some (.ref 15), some (.ref 1)] [.int s0, .int s1] h = some (some (.int (s1 &&& (s0 ^^^ (-1)))), h) := (ev_step (i := .iconst (-1)) (len := 1) (by decide +kernel) rfl).trans ((ev_step (i := .ixor) (len := 1) (by decide +kernel) rfl).trans ((ev_step (i := .iand) (len := 1) (by decide +kernel) rfl).trans ((ev_step (i := .ireturn) (len := 1) (by decide +kernel) rfl).trans rfl)))
theorem b125_0 (x1 : Int32) (h : mH) : Ev 125 0 [some (.ref 1), some (.int x1)] [] h = if x1 < 0 then Ev 125 16 [some (.ref 1), some (.int x1)] [] h else Ev 125 4 [some (.ref 1), some (.int x1)] [] h := (ev_step (i := .iload_n 1) (len := 1) (by decide +kernel) rfl).trans ((ev_step (i := .ifCond .lt 15) (len := 3) (by decide +kernel) rfl).trans (fin_if _ _ (x1 < 0) _ _))
theorem b125_4 (x1 : Int32) (h : mH) : Ev 125 4 [some (.ref 1), some (.int x1)] [] h = if (gI h 1 6) ≤ x1 then Ev 125 16 [some (.ref 1), some (.int x1)] [] h else Ev 125 12 [some (.ref 1), some (.int x1)] [] h := (ev_step (i := .iload_n 1) (len := 1) (by decide +kernel) rfl).trans ((ev_step (i := .aload_n 0) (len := 1) (by decide +kernel) rfl).trans ((ev_step (i := .getfield 31) (len := 3) (by decide +kernel) rfl).trans ((ev_step (i := .if_icmp .ge 7) (len := 3) (by decide +kernel) rfl).trans (fin_if _ _ ((gI h 1 6) ≤ x1) _ _))))
theorem b125_12 (x1 : Int32) (h : mH) : Ev 125 12 [some (.ref 1), some (.int x1)] [] h = Ev 125 17 [some (.ref 1), some (.int x1)] [.int 1] h := (ev_step (i := .iconst 1) (len := 1) (by decide +kernel) rfl).trans ((ev_step (i := .goto 4) (len := 3) (by decide +kernel) rfl).trans rfl)
theorem b125_17 (x1 : Int32) (s0 : Int32) (h : mH) : Ev 125 17 [some (.ref 1), some (.int x1)] [.int s0] h = if s0 = 0 ∨ s0 = 1 then some (some (.int s0), h) else none := (ev_step (i := .ireturn) (len := 1) (by decide +kernel) rfl).trans (fin_if _ _ (s0 = 0 ∨ s0 = 1) _ _)
theorem b125_16 (x1 : Int32) (h : mH) : Ev 125 16 [some (.ref 1), some (.int x1)] [] h = Ev 125 17 [some (.ref 1), some (.int x1)] [.int 0] h := (ev_step (i := .iconst 0) (len := 1) (by decide +kernel) rfl).trans rfl
theorem b126_0 (h : mH) : Ev 126 0 [some (.ref 1)] [] h = if (gI h 1 6) < 40 then Ev 126 13 [some (.ref 1)] [] h else Ev 126 9 [some (.ref 1)] [] h := (ev_step (i := .aload_n 0) (len := 1) (by decide +kernel) rfl).trans ((ev_step (i := .getfield 31) (len := 3) (by decide +kernel) rfl).trans ((ev_step (i := .bipush 40) (len := 2) (by decide +kernel) rfl).trans ((ev_step (i := .if_icmp .lt 7) (len := 3) (by decide +kernel) rfl).trans (fin_if _ _ ((gI h 1 6) < 40) _ _))))
theorem b126_9 (h : mH) : Ev 126 9 [some (.ref 1)] [] h = Ev 126 14 [some (.ref 1)] [.int 1] h := (ev_step (i := .iconst 1) (len := 1) (by decide +kernel) rfl).trans ((ev_step (i := .goto 4) (len := 3) (by decide +kernel) rfl).trans rfl)
theorem b126_14 (s0 : Int32) (h : mH) : Ev 126 14 [some (.ref 1)] [.int s0] h = if s0 = 0 ∨ s0 = 1 then some (some (.int s0), h) else none := (ev_step (i := .ireturn) (len := 1) (by decide +kernel) rfl).trans (fin_if _ _ (s0 = 0 ∨ s0 = 1) _ _)
theorem b126_13 (h : mH) : Ev 126 13 [some (.ref 1)] [] h = Ev 126 14 [some (.ref 1)] [.int 0] h := (ev_step (i := .iconst 0) (len := 1) (by decide +kernel) rfl).trans rfl
theorem b127_0 (x1 : Int32) (x2 : Int32) (x3 : Int32) (h : mH) : Ev 127 0 [some (.ref 1), some (.int x1), some (.int x2), some (.int x3)] [] h = if x3 < 0 then Ev 127 10 [some (.ref 1), some (.int x1), some (.int x2), some (.int x3)] [] h else Ev 127 4 [some (.ref 1), some (.int x1), some (.int x2), some (.int x3)] [] h := (ev_step (i := .iload_n 3) (len := 1) (by decide +kernel) rfl).trans ((ev_step (i := .ifCond .lt 9) (len := 3) (by decide +kernel) rfl).trans (fin_if _ _ (x3 < 0) _ _))
theorem b127_4 (x1 : Int32) (x2 : Int32) (x3 : Int32) (h : mH) : Ev 127 4 [some (.ref 1), some (.int x1), some (.int x2), some (.int x3)] [] h = if x3 ≤ 1048575 then Ev 127 12 [some (.ref 1), some (.int x1), some (.int x2), some (.int x3)] [] h else Ev 127 10 [some (.ref 1), some (.int x1), some (.int x2), some (.int x3)] [] h := (ev_step (i := .iload_n 3) (len := 1) (by decide +kernel) rfl).trans ((ev_step (i := .ldc 35) (len := 2) (by decide +kernel) rfl).trans ((ev_step (i := .if_icmp .le 5) (len := 3) (by decide +kernel) rfl).trans (fin_if _ _ (x3 ≤ 1048575) _ _)))
theorem b127_10 (x1 : Int32) (x2 : Int32) (x3 : Int32) (h : mH) : Ev 127 10 [some (.ref 1), some (.int x1), some (.int x2), some (.int x3)] [] h = some (some (.int 0), h) := (ev_step (i := .iconst 0) (len := 1) (by decide +kernel) rfl).trans ((ev_step (i := .ireturn) (len := 1) (by decide +kernel) rfl).trans rfl)
theorem b127_12 (x1 : Int32) (x2 : Int32) (x3 : Int32) (h : mH) : Ev 127 12 [some (.ref 1), some (.int x1), some (.int x2), some (.int x3)] [] h = if ¬ x1 = (-1) then Ev 127 28 [some (.ref 1), some (.int x1), some (.int x2), some (.int x3)] [] h else Ev 127 17 [some (.ref 1), some (.int x1), some (.int x2), some (.int x3)] [] h := (ev_step (i := .iload_n 1) (len := 1) (by decide +kernel) rfl).trans ((ev_step (i := .iconst (-1)) (len := 1) (by decide +kernel) rfl).trans ((ev_step (i := .if_icmp .ne 14) (len := 3) (by decide +kernel) rfl).trans (fin_if _ _ (¬ x1 = (-1)) _ _)))
theorem b127_17 (x1 : Int32) (x2 : Int32) (x3 : Int32) (h : mH) : Ev 127 17 [some (.ref 1), some (.int x1), some (.int x2), some (.int x3)] [] h = if ¬ x2 = (-1) then Ev 127 26 [some (.ref 1), some (.int x1), some (.int x2), some (.int x3)] [] h else Ev 127 22 [some (.ref 1), some (.int x1), some (.int x2), some (.int x3)] [] h := (ev_step (i := .iload_n 2) (len := 1) (by decide +kernel) rfl).trans ((ev_step (i := .iconst (-1)) (len := 1) (by decide +kernel) rfl).trans ((ev_step (i := .if_icmp .ne 7) (len := 3) (by decide +kernel) rfl).trans (fin_if _ _ (¬ x2 = (-1)) _ _)))
theorem b127_22 (x1 : Int32) (x2 : Int32) (x3 : Int32) (h : mH) : Ev 127 22 [some (.ref 1), some (.int x1), some (.int x2), some (.int x3)] [] h = Ev 127 27 [some (.ref 1), some (.int x1), some (.int x2), some (.int x3)] [.int 1] h := (ev_step (i := .iconst 1) (len := 1) (by decide +kernel) rfl).trans ((ev_step (i := .goto 4) (len := 3) (by decide +kernel) rfl).trans rfl)
theorem b127_27 (x1 : Int32) (x2 : Int32) (x3 : Int32) (s0 : Int32) (h : mH) : Ev 127 27 [some (.ref 1), some (.int x1), some (.int x2), some (.int x3)] [.int s0] h = if s0 = 0 ∨ s0 = 1 then some (some (.int s0), h) else none := (ev_step (i := .ireturn) (len := 1) (by decide +kernel) rfl).trans (fin_if _ _ (s0 = 0 ∨ s0 = 1) _ _)
theorem b127_26 (x1 : Int32) (x2 : Int32) (x3 : Int32) (h : mH) : Ev 127 26 [some (.ref 1), some (.int x1), some (.int x2), some (.int x3)] [] h = Ev 127 27 [some (.ref 1), some (.int x1), some (.int x2), some (.int x3)] [.int 0] h := (ev_step (i := .iconst 0) (len := 1) (by decide +kernel) rfl).trans rfl
set_option maxRecDepth 100000 in
theorem b127_28 (x1 : Int32) (x2 : Int32) (x3 : Int32) (h : mH) : Ev 127 28 [some (.ref 1), some (.int x1), some (.int x2), some (.int x3)] [] h = rI (Rt 125 [.ref 1, .int x1] h) (fun r h1 => Ev 127 33 [some (.ref 1), some (.int x1), some (.int x2), some (.int x3)] [.int r] h1) := (ev_step (i := .aload_n 0) (len := 1) (by decide +kernel) rfl).trans ((ev_step (i := .iload_n 1) (len := 1) (by decide +kernel) rfl).trans ((ev_step (i := .invokevirtual 36) (len := 3) (by decide +kernel) rfl).trans (fin_I (Or.inr rfl))))
theorem b127_33 (x1 : Int32) (x2 : Int32) (x3 : Int32) (s0 : Int32) (h : mH) : Ev 127 33 [some (.ref 1), some (.int x1), some (.int x2), some (.int x3)] [.int s0] h = if s0 = 0 then Ev 127 58 [some (.ref 1), some (.int x1), some (.int x2), some (.int x3)] [] h else Ev 127 36 [some (.ref 1), some (.int x1), some (.int x2), some (.int x3)] [] h := (ev_step (i := .ifCond .eq 25) (len := 3) (by decide +kernel) rfl).trans (fin_if _ _ (s0 = 0) _ _)
theorem b127_36 (x1 : Int32) (x2 : Int32) (x3 : Int32) (h : mH) : Ev 127 36 [some (.ref 1), some (.int x1), some (.int x2), some (.int x3)] [] h = if x2 = (-1) then Ev 127 54 [some (.ref 1), some (.int x1), some (.int x2), some (.int x3)] [] h else Ev 127 41 [some (.ref 1), some (.int x1), some (.int x2), some (.int x3)] [] h := (ev_step (i := .iload_n 2) (len := 1) (by decide +kernel) rfl).trans ((ev_step (i := .iconst (-1)) (len := 1) (by decide +kernel) rfl).trans ((ev_step (i := .if_icmp .eq 16) (len := 3) (by decide +kernel) rfl).trans (fin_if _ _ (x2 = (-1)) _ _)))
set_option maxRecDepth 100000 in
theorem b127_41 (x1 : Int32) (x2 : Int32) (x3 : Int32) (h : mH) : Ev 127 41 [some (.ref 1), some (.int x1), some (.int x2), some (.int x3)] [] h = rI (Rt 125 [.ref 1, .int x2] h) (fun r h1 => Ev 127 46 [some (.ref 1), some (.int x1), some (.int x2), some (.int x3)] [.int r] h1) := (ev_step (i := .aload_n 0) (len := 1) (by decide +kernel) rfl).trans ((ev_step (i := .iload_n 2) (len := 1) (by decide +kernel) rfl).trans ((ev_step (i := .invokevirtual 36) (len := 3) (by decide +kernel) rfl).trans (fin_I (Or.inr rfl))))
theorem b127_46 (x1 : Int32) (x2 : Int32) (x3 : Int32) (s0 : Int32) (h : mH) : Ev 127 46 [some (.ref 1), some (.int x1), some (.int x2), some (.int x3)] [.int s0] h = if s0 = 0 then Ev 127 58 [some (.ref 1), some (.int x1), some (.int x2), some (.int x3)] [] h else Ev 127 49 [some (.ref 1), some (.int x1), some (.int x2), some (.int x3)] [] h := (ev_step (i := .ifCond .eq 12) (len := 3) (by decide +kernel) rfl).trans (fin_if _ _ (s0 = 0) _ _)
theorem b127_49 (x1 : Int32) (x2 : Int32) (x3 : Int32) (h : mH) : Ev 127 49 [some (.ref 1), some (.int x1), some (.int x2), some (.int x3)] [] h = if x2 = x1 then Ev 127 58 [some (.ref 1), some (.int x1), some (.int x2), some (.int x3)] [] h else Ev 127 54 [some (.ref 1), some (.int x1), some (.int x2), some (.int x3)] [] h := (ev_step (i := .iload_n 2) (len := 1) (by decide +kernel) rfl).trans ((ev_step (i := .iload_n 1) (len := 1) (by decide +kernel) rfl).trans ((ev_step (i := .if_icmp .eq 7) (len := 3) (by decide +kernel) rfl).trans (fin_if _ _ (x2 = x1) _ _)))
theorem b127_54 (x1 : Int32) (x2 : Int32) (x3 : Int32) (h : mH) : Ev 127 54 [some (.ref 1), some (.int x1), some (.int x2), some (.int x3)] [] h = Ev 127 59 [some (.ref 1), some (.int x1), some (.int x2), some (.int x3)] [.int 1] h := (ev_step (i := .iconst 1) (len := 1) (by decide +kernel) rfl).trans ((ev_step (i := .goto 4) (len := 3) (by decide +kernel) rfl).trans rfl)
theorem b127_59 (x1 : Int32) (x2 : Int32) (x3 : Int32) (s0 : Int32) (h : mH) : Ev 127 59 [some (.ref 1), some (.int x1), some (.int x2), some (.int x3)] [.int s0] h = if s0 = 0 ∨ s0 = 1 then some (some (.int s0), h) else none := (ev_step (i := .ireturn) (len := 1) (by decide +kernel) rfl).trans (fin_if _ _ (s0 = 0 ∨ s0 = 1) _ _)
theorem b127_58 (x1 : Int32) (x2 : Int32) (x3 : Int32) (h : mH) : Ev 127 58 [some (.ref 1), some (.int x1), some (.int x2), some (.int x3)] [] h = Ev 127 59 [some (.ref 1), some (.int x1), some (.int x2), some (.int x3)] [.int 0] h := (ev_step (i := .iconst 0) (len := 1) (by decide +kernel) rfl).trans rfl
set_option maxRecDepth 100000 in
theorem b128_0 (x1 : Int32) (x2 : Int32) (x3 : Int32) (o4 : Option Value) (h : mH) : Ev 128 0 [some (.ref 1), some (.int x1), some (.int x2), some (.int x3), o4] [] h = rI (Rt 126 [.ref 1] h) (fun r h1 => Ev 128 4 [some (.ref 1), some (.int x1), some (.int x2), some (.int x3), o4] [.int r] h1) := (ev_step (i := .aload_n 0) (len := 1) (by decide +kernel) rfl).trans ((ev_step (i := .invokevirtual 40) (len := 3) (by decide +kernel) rfl).trans (fin_I (Or.inr rfl)))
theorem b128_4 (x1 : Int32) (x2 : Int32) (x3 : Int32) (o4 : Option Value) (s0 : Int32) (h : mH) : Ev 128 4 [some (.ref 1), some (.int x1), some (.int x2), some (.int x3), o4] [.int s0] h = if s0 = 0 then Ev 128 8 [some (.ref 1), some (.int x1), some (.int x2), some (.int x3), o4] [] h else Ev 128 7 [some (.ref 1), some (.int x1), some (.int x2), some (.int x3), o4] [] h := (ev_step (i := .ifCond .eq 4) (len := 3) (by decide +kernel) rfl).trans (fin_if _ _ (s0 = 0) _ _)
theorem b128_7 (x1 : Int32) (x2 : Int32) (x3 : Int32) (o4 : Option Value) (h : mH) : Ev 128 7 [some (.ref 1), some (.int x1), some (.int x2), some (.int x3), o4] [] h = some (none, h) := (ev_step (i := .return_) (len := 1) (by decide +kernel) rfl).trans rfl
theorem b128_8 (x1 : Int32) (x2 : Int32) (x3 : Int32) (o4 : Option Value) (h : mH) : Ev 128 8 [some (.ref 1), some (.int x1), some (.int x2), some (.int x3), o4] [] h = if 0 ≤ (gI h 1 6) ∧ (gI h 1 6).toNatClampNeg < 40 then Ev 128 22 [some (.ref 1), some (.int x1), some (.int x2), some (.int x3), some (.int (gI h 1 6))] [] (sI h 2 (gI h 1 6).toNatClampNeg x1) else none := (ev_step (i := .aload_n 0) (len := 1) (by decide +kernel) rfl).trans ((ev_step (i := .getfield 31) (len := 3) (by decide +kernel) rfl).trans ((ev_step (i := .istore 4) (len := 2) (by decide +kernel) rfl).trans ((ev_step (i := .aload_n 0) (len := 1) (by decide +kernel) rfl).trans ((ev_step (i := .getfield 9) (len := 3) (by decide +kernel) rfl).trans ((ev_step (i := .iload 4) (len := 2) (by decide +kernel) rfl).trans ((ev_step (i := .iload_n 1) (len := 1) (by decide +kernel) rfl).trans ((ev_step (i := .iastore) (len := 1) (by decide +kernel) rfl).trans (fin_if _ _ (0 ≤ (gI h 1 6) ∧ (gI h 1 6).toNatClampNeg < 40) _ _))))))))
theorem b128_22 (x1 : Int32) (x2 : Int32) (x3 : Int32) (x4 : Int32) (h : mH) : Ev 128 22 [some (.ref 1), some (.int x1), some (.int x2), some (.int x3), some (.int x4)] [] h = if 0 ≤ x4 ∧ x4.toNatClampNeg < 40 then Ev 128 30 [some (.ref 1), some (.int x1), some (.int x2), some (.int x3), some (.int x4)] [] (sI h 3 x4.toNatClampNeg x2) else none := (ev_step (i := .aload_n 0) (len := 1) (by decide +kernel) rfl).trans ((ev_step (i := .getfield 15) (len := 3) (by decide +kernel) rfl).trans ((ev_step (i := .iload 4) (len := 2) (by decide +kernel) rfl).trans ((ev_step (i := .iload_n 2) (len := 1) (by decide +kernel) rfl).trans ((ev_step (i := .iastore) (len := 1) (by decide +kernel) rfl).trans (fin_if _ _ (0 ≤ x4 ∧ x4.toNatClampNeg < 40) _ _)))))
theorem b128_30 (x1 : Int32) (x2 : Int32) (x3 : Int32) (x4 : Int32) (h : mH) : Ev 128 30 [some (.ref 1), some (.int x1), some (.int x2), some (.int x3), some (.int x4)] [] h = if 0 ≤ x4 ∧ x4.toNatClampNeg < 40 then Ev 128 38 [some (.ref 1), some (.int x1), some (.int x2), some (.int x3), some (.int x4)] [] (sI h 4 x4.toNatClampNeg x3) else none := (ev_step (i := .aload_n 0) (len := 1) (by decide +kernel) rfl).trans ((ev_step (i := .getfield 18) (len := 3) (by decide +kernel) rfl).trans ((ev_step (i := .iload 4) (len := 2) (by decide +kernel) rfl).trans ((ev_step (i := .iload_n 3) (len := 1) (by decide +kernel) rfl).trans ((ev_step (i := .iastore) (len := 1) (by decide +kernel) rfl).trans (fin_if _ _ (0 ≤ x4 ∧ x4.toNatClampNeg < 40) _ _)))))
set_option maxRecDepth 100000 in
theorem b128_38 (x1 : Int32) (x2 : Int32) (x3 : Int32) (x4 : Int32) (h : mH) : Ev 128 38 [some (.ref 1), some (.int x1), some (.int x2), some (.int x3), some (.int x4)] [] h = rI (Rt 137 [.ref 1, .int x1] h) (fun r h1 => Ev 128 50 [some (.ref 1), some (.int x1), some (.int x2), some (.int x3), some (.int x4)] [.int r, .int 1, .int x4, .ref 5] h1) := (ev_step (i := .aload_n 0) (len := 1) (by decide +kernel) rfl).trans ((ev_step (i := .getfield 21) (len := 3) (by decide +kernel) rfl).trans ((ev_step (i := .iload 4) (len := 2) (by decide +kernel) rfl).trans ((ev_step (i := .iconst 1) (len := 1) (by decide +kernel) rfl).trans ((ev_step (i := .aload_n 0) (len := 1) (by decide +kernel) rfl).trans ((ev_step (i := .iload_n 1) (len := 1) (by decide +kernel) rfl).trans ((ev_step (i := .invokevirtual 44) (len := 3) (by decide +kernel) rfl).trans (fin_I (Or.inl rfl))))))))
set_option maxRecDepth 100000 in
theorem b128_50 (x1 : Int32) (x2 : Int32) (x3 : Int32) (x4 : Int32) (s0 : Int32) (s1 : Int32) (s2 : Int32) (h : mH) : Ev 128 50 [some (.ref 1), some (.int x1), some (.int x2), some (.int x3), some (.int x4)] [.int s0, .int s1, .int s2, .ref 5] h = rI (Rt 137 [.ref 1, .int x2] h) (fun r h1 => Ev 128 55 [some (.ref 1), some (.int x1), some (.int x2), some (.int x3), some (.int x4)] [.int r, .int s0, .int s1, .int s2, .ref 5] h1) := (ev_step (i := .aload_n 0) (len := 1) (by decide +kernel) rfl).trans ((ev_step (i := .iload_n 2) (len := 1) (by decide +kernel) rfl).trans ((ev_step (i := .invokevirtual 44) (len := 3) (by decide +kernel) rfl).trans (fin_I (Or.inl rfl))))
theorem b128_55 (x1 : Int32) (x2 : Int32) (x3 : Int32) (x4 : Int32) (s0 : Int32) (s1 : Int32) (s2 : Int32) (s3 : Int32) (h : mH) : Ev 128 55 [some (.ref 1), some (.int x1), some (.int x2), some (.int x3), some (.int x4)] [.int s0, .int s1, .int s2, .int s3, .ref 5] h = if 0 ≤ s3 ∧ s3.toNatClampNeg < 40 then Ev 128 60 [some (.ref 1), some (.int x1), some (.int x2), some (.int x3), some (.int x4)] [] (sI h 5 s3.toNatClampNeg (s2 + (if s1 < s0 then s0 else s1))) else none := (ev_step (i := .invokestatic 48) (len := 3) (by decide +kernel) rfl).trans ((ev_step (i := .iadd) (len := 1) (by decide +kernel) rfl).trans ((ev_step (i := .iastore) (len := 1) (by decide +kernel) rfl).trans (fin_if _ _ (0 ≤ s3 ∧ s3.toNatClampNeg < 40) _ _)))
set_option maxRecDepth 100000 in
theorem b128_60 (x1 : Int32) (x2 : Int32) (x3 : Int32) (x4 : Int32) (h : mH) : Ev 128 60 [some (.ref 1), some (.int x1), some (.int x2), some (.int x3), some (.int x4)] [] h = rL (Rt 41 [.int x4] h) (fun r h1 => Ev 128 71 [some (.ref 1), some (.int x1), some (.int x2), some (.int x3), some (.int x4)] [.long r, .int x4, .ref 6] h1) := (ev_step (i := .aload_n 0) (len := 1) (by decide +kernel) rfl).trans ((ev_step (i := .getfield 24) (len := 3) (by decide +kernel) rfl).trans ((ev_step (i := .iload 4) (len := 2) (by decide +kernel) rfl).trans ((ev_step (i := .iload 4) (len := 2) (by decide +kernel) rfl).trans ((ev_step (i := .invokestatic 54) (len := 3) (by decide +kernel) rfl).trans (fin_L rfl)))))
set_option maxRecDepth 100000 in
theorem b128_71 (x1 : Int32) (x2 : Int32) (x3 : Int32) (x4 : Int32) (s0 : Int64) (s1 : Int32) (h : mH) : Ev 128 71 [some (.ref 1), some (.int x1), some (.int x2), some (.int x3), some (.int x4)] [.long s0, .int s1, .ref 6] h = rL (Rt 139 [.ref 1, .int x1] h) (fun r h1 => Ev 128 76 [some (.ref 1), some (.int x1), some (.int x2), some (.int x3), some (.int x4)] [.long r, .long s0, .int s1, .ref 6] h1) := (ev_step (i := .aload_n 0) (len := 1) (by decide +kernel) rfl).trans ((ev_step (i := .iload_n 1) (len := 1) (by decide +kernel) rfl).trans ((ev_step (i := .invokevirtual 58) (len := 3) (by decide +kernel) rfl).trans (fin_L rfl)))
set_option maxRecDepth 100000 in
theorem b128_76 (x1 : Int32) (x2 : Int32) (x3 : Int32) (x4 : Int32) (s0 : Int64) (s1 : Int64) (s2 : Int32) (h : mH) : Ev 128 76 [some (.ref 1), some (.int x1), some (.int x2), some (.int x3), some (.int x4)] [.long s0, .long s1, .int s2, .ref 6] h = rL (Rt 139 [.ref 1, .int x2] h) (fun r h1 => Ev 128 82 [some (.ref 1), some (.int x1), some (.int x2), some (.int x3), some (.int x4)] [.long r, .long (s1 ||| s0), .int s2, .ref 6] h1) := (ev_step (i := .lor) (len := 1) (by decide +kernel) rfl).trans ((ev_step (i := .aload_n 0) (len := 1) (by decide +kernel) rfl).trans ((ev_step (i := .iload_n 2) (len := 1) (by decide +kernel) rfl).trans ((ev_step (i := .invokevirtual 58) (len := 3) (by decide +kernel) rfl).trans (fin_L rfl))))
theorem b128_82 (x1 : Int32) (x2 : Int32) (x3 : Int32) (x4 : Int32) (s0 : Int64) (s1 : Int64) (s2 : Int32) (h : mH) : Ev 128 82 [some (.ref 1), some (.int x1), some (.int x2), some (.int x3), some (.int x4)] [.long s0, .long s1, .int s2, .ref 6] h = if 0 ≤ s2 ∧ s2.toNatClampNeg < 40 then Ev 128 84 [some (.ref 1), some (.int x1), some (.int x2), some (.int x3), some (.int x4)] [] (sJ h 6 s2.toNatClampNeg (s1 ||| s0)) else none := (ev_step (i := .lor) (len := 1) (by decide +kernel) rfl).trans ((ev_step (i := .lastore) (len := 1) (by decide +kernel) rfl).trans (fin_if _ _ (0 ≤ s2 ∧ s2.toNatClampNeg < 40) _ _))
theorem b128_84 (x1 : Int32) (x2 : Int32) (x3 : Int32) (x4 : Int32) (h : mH) : Ev 128 84 [some (.ref 1), some (.int x1), some (.int x2), some (.int x3), some (.int x4)] [] h = some (none, (sI h 1 6 (x4 + 1))) := (ev_step (i := .aload_n 0) (len := 1) (by decide +kernel) rfl).trans ((ev_step (i := .iload 4) (len := 2) (by decide +kernel) rfl).trans ((ev_step (i := .iconst 1) (len := 1) (by decide +kernel) rfl).trans ((ev_step (i := .iadd) (len := 1) (by decide +kernel) rfl).trans ((ev_step (i := .putfield 31) (len := 3) (by decide +kernel) rfl).trans ((ev_step (i := .return_) (len := 1) (by decide +kernel) rfl).trans rfl)))))
theorem b129_0 (h : mH) : Ev 129 0 [some (.ref 1)] [] h = if (gI h 1 6) ≤ (gI h 1 7) then Ev 129 21 [some (.ref 1)] [] h else Ev 129 11 [some (.ref 1)] [] h := (ev_step (i := .aload_n 0) (len := 1) (by decide +kernel) rfl).trans ((ev_step (i := .getfield 31) (len := 3) (by decide +kernel) rfl).trans ((ev_step (i := .aload_n 0) (len := 1) (by decide +kernel) rfl).trans ((ev_step (i := .getfield 61) (len := 3) (by decide +kernel) rfl).trans ((ev_step (i := .if_icmp .le 13) (len := 3) (by decide +kernel) rfl).trans (fin_if _ _ ((gI h 1 6) ≤ (gI h 1 7)) _ _)))))
theorem b129_11 (h : mH) : Ev 129 11 [some (.ref 1)] [] h = Ev 129 21 [some (.ref 1)] [] (sI h 1 6 ((gI h 1 6) - 1)) := (ev_step (i := .aload_n 0) (len := 1) (by decide +kernel) rfl).trans ((ev_step (i := .dup) (len := 1) (by decide +kernel) rfl).trans ((ev_step (i := .getfield 31) (len := 3) (by decide +kernel) rfl).trans ((ev_step (i := .iconst 1) (len := 1) (by decide +kernel) rfl).trans ((ev_step (i := .isub) (len := 1) (by decide +kernel) rfl).trans ((ev_step (i := .putfield 31) (len := 3) (by decide +kernel) rfl).trans rfl)))))
theorem b129_21 (h : mH) : Ev 129 21 [some (.ref 1)] [] h = some (none, h) := (ev_step (i := .return_) (len := 1) (by decide +kernel) rfl).trans rfl
theorem b130_0 (h : mH) : Ev 130 0 [some (.ref 1)] [] h = if (gI h 1 6) ≤ (gI h 1 7) then Ev 130 20 [some (.ref 1)] [] h else Ev 130 11 [some (.ref 1)] [] h := (ev_step (i := .aload_n 0) (len := 1) (by decide +kernel) rfl).trans ((ev_step (i := .getfield 31) (len := 3) (by decide +kernel) rfl).trans ((ev_step (i := .aload_n 0) (len := 1) (by decide +kernel) rfl).trans ((ev_step (i := .getfield 61) (len := 3) (by decide +kernel) rfl).trans ((ev_step (i := .if_icmp .le 12) (len := 3) (by decide +kernel) rfl).trans (fin_if _ _ ((gI h 1 6) ≤ (gI h 1 7)) _ _)))))
theorem b130_11 (h : mH) : Ev 130 11 [some (.ref 1)] [] h = if (gI h 1 8) < 40 then Ev 130 21 [some (.ref 1)] [] h else Ev 130 20 [some (.ref 1)] [] h := (ev_step (i := .aload_n 0) (len := 1) (by decide +kernel) rfl).trans ((ev_step (i := .getfield 64) (len := 3) (by decide +kernel) rfl).trans ((ev_step (i := .bipush 40) (len := 2) (by decide +kernel) rfl).trans ((ev_step (i := .if_icmp .lt 4) (len := 3) (by decide +kernel) rfl).trans (fin_if _ _ ((gI h 1 8) < 40) _ _))))
theorem b130_20 (h : mH) : Ev 130 20 [some (.ref 1)] [] h = some (none, h) := (ev_step (i := .return_) (len := 1) (by decide +kernel) rfl).trans rfl
theorem b130_21 (h : mH) : Ev 130 21 [some (.ref 1)] [] h = if 0 ≤ (gI h 1 8) ∧ (gI h 1 8).toNatClampNeg < 40 then Ev 130 39 [some (.ref 1)] [] (sI h 7 (gI h 1 8).toNatClampNeg ((gI h 1 6) - (gI h 1 7))) else none := (ev_step (i := .aload_n 0) (len := 1) (by decide +kernel) rfl).trans ((ev_step (i := .getfield 28) (len := 3) (by decide +kernel) rfl).trans ((ev_step (i := .aload_n 0) (len := 1) (by decide +kernel) rfl).trans ((ev_step (i := .getfield 64) (len := 3) (by decide +kernel) rfl).trans ((ev_step (i := .aload_n 0) (len := 1) (by decide +kernel) rfl).trans ((ev_step (i := .getfield 31) (len := 3) (by decide +kernel) rfl).trans ((ev_step (i := .aload_n 0) (len := 1) (by decide +kernel) rfl).trans ((ev_step (i := .getfield 61) (len := 3) (by decide +kernel) rfl).trans ((ev_step (i := .isub) (len := 1) (by decide +kernel) rfl).trans ((ev_step (i := .iastore) (len := 1) (by decide +kernel) rfl).trans (fin_if _ _ (0 ≤ (gI h 1 8) ∧ (gI h 1 8).toNatClampNeg < 40) _ _))))))))))
set_option maxRecDepth 100000 in
theorem b130_39 (h : mH) : Ev 130 39 [some (.ref 1)] [] h = rV (Rt 131 [.ref 1] (sI (sI h 1 8 ((gI h 1 8) + 1)) 1 7 (gI (sI h 1 8 ((gI h 1 8) + 1)) 1 6))) (fun h1 => Ev 130 61 [some (.ref 1)] [] h1) := (ev_step (i := .aload_n 0) (len := 1) (by decide +kernel) rfl).trans ((ev_step (i := .dup) (len := 1) (by decide +kernel) rfl).trans ((ev_step (i := .getfield 64) (len := 3) (by decide +kernel) rfl).trans ((ev_step (i := .iconst 1) (len := 1) (by decide +kernel) rfl).trans ((ev_step (i := .iadd) (len := 1) (by decide +kernel) rfl).trans ((ev_step (i := .putfield 64) (len := 3) (by decide +kernel) rfl).trans ((ev_step (i := .aload_n 0) (len := 1) (by decide +kernel) rfl).trans ((ev_step (i := .aload_n 0) (len := 1) (by decide +kernel) rfl).trans ((ev_step (i := .getfield 31) (len := 3) (by decide +kernel) rfl).trans ((ev_step (i := .putfield 61) (len := 3) (by decide +kernel) rfl).trans ((ev_step (i := .aload_n 0) (len := 1) (by decide +kernel) rfl).trans ((ev_step (i := .invokevirtual 67) (len := 3) (by decide +kernel) rfl).trans (fin_V rfl))))))))))))
theorem b130_61 (h : mH) : Ev 130 61 [some (.ref 1)] [] h = some (none, h) := (ev_step (i := .return_) (len := 1) (by decide +kernel) rfl).trans rfl
theorem b131_0 (o1 : Option Value) (o2 : Option Value) (o3 : Option Value) (h : mH) : Ev 131 0 [some (.ref 1), o1, o2, o3] [] h = Ev 131 2 [some (.ref 1), some (.int 0), o2, o3] [] h := (ev_step (i := .iconst 0) (len := 1) (by decide +kernel) rfl).trans ((ev_step (i := .istore_n 1) (len := 1) (by decide +kernel) rfl).trans rfl)
theorem b131_2 (x1 : Int32) (o2 : Option Value) (o3 : Option Value) (h : mH) : Ev 131 2 [some (.ref 1), some (.int x1), o2, o3] [] h = if 40 ≤ x1 then Ev 131 74 [some (.ref 1), some (.int x1), o2, o3] [] h else Ev 131 8 [some (.ref 1), some (.int x1), o2, o3] [] h := (ev_step (i := .iload_n 1) (len := 1) (by decide +kernel) rfl).trans ((ev_step (i := .bipush 40) (len := 2) (by decide +kernel) rfl).trans ((ev_step (i := .if_icmp .ge 69) (len := 3) (by decide +kernel) rfl).trans (fin_if _ _ (40 ≤ x1) _ _)))
theorem b131_8 (x1 : Int32) (o2 : Option Value) (o3 : Option Value) (h : mH) : Ev 131 8 [some (.ref 1), some (.int x1), o2, o3] [] h = if (gI h 1 8) ≤ 1 then Ev 131 74 [some (.ref 1), some (.int x1), o2, o3] [] h else Ev 131 16 [some (.ref 1), some (.int x1), o2, o3] [] h := (ev_step (i := .aload_n 0) (len := 1) (by decide +kernel) rfl).trans ((ev_step (i := .getfield 64) (len := 3) (by decide +kernel) rfl).trans ((ev_step (i := .iconst 1) (len := 1) (by decide +kernel) rfl).trans ((ev_step (i := .if_icmp .le 61) (len := 3) (by decide +kernel) rfl).trans (fin_if _ _ ((gI h 1 8) ≤ 1) _ _))))
theorem b131_16 (x1 : Int32) (o2 : Option Value) (o3 : Option Value) (h : mH) : Ev 131 16 [some (.ref 1), some (.int x1), o2, o3] [] h = if 0 ≤ ((gI h 1 8) - 2) ∧ ((gI h 1 8) - 2).toNatClampNeg < 40 then Ev 131 36 [some (.ref 1), some (.int x1), some (.int ((gI h 1 8) - 2)), some (.int ((gI h 1 8) - 1))] [.int (gI h 7 ((gI h 1 8) - 2).toNatClampNeg)] h else none := (ev_step (i := .aload_n 0) (len := 1) (by decide +kernel) rfl).trans ((ev_step (i := .getfield 64) (len := 3) (by decide +kernel) rfl).trans ((ev_step (i := .iconst 2) (len := 1) (by decide +kernel) rfl).trans ((ev_step (i := .isub) (len := 1) (by decide +kernel) rfl).trans ((ev_step (i := .istore_n 2) (len := 1) (by decide +kernel) rfl).trans ((ev_step (i := .aload_n 0) (len := 1) (by decide +kernel) rfl).trans ((ev_step (i := .getfield 64) (len := 3) (by decide +kernel) rfl).trans ((ev_step (i := .iconst 1) (len := 1) (by decide +kernel) rfl).trans ((ev_step (i := .isub) (len := 1) (by decide +kernel) rfl).trans ((ev_step (i := .istore_n 3) (len := 1) (by decide +kernel) rfl).trans ((ev_step (i := .aload_n 0) (len := 1) (by decide +kernel) rfl).trans ((ev_step (i := .getfield 28) (len := 3) (by decide +kernel) rfl).trans ((ev_step (i := .iload_n 2) (len := 1) (by decide +kernel) rfl).trans ((ev_step (i := .iaload) (len := 1) (by decide +kernel) rfl).trans (fin_if _ _ (0 ≤ ((gI h 1 8) - 2) ∧ ((gI h 1 8) - 2).toNatClampNeg < 40) _ _))))))))))))))
theorem b131_36 (x1 : Int32) (x2 : Int32) (x3 : Int32) (s0 : Int32) (h : mH) : Ev 131 36 [some (.ref 1), some (.int x1), some (.int x2), some (.int x3)] [.int s0] h = if 0 ≤ x3 ∧ x3.toNatClampNeg < 40 then Ev 131 43 [some (.ref 1), some (.int x1), some (.int x2), some (.int x3)] [.int (gI h 7 x3.toNatClampNeg), .int 2, .int s0] h else none := (ev_step (i := .iconst 2) (len := 1) (by decide +kernel) rfl).trans ((ev_step (i := .aload_n 0) (len := 1) (by decide +kernel) rfl).trans ((ev_step (i := .getfield 28) (len := 3) (by decide +kernel) rfl).trans ((ev_step (i := .iload_n 3) (len := 1) (by decide +kernel) rfl).trans ((ev_step (i := .iaload) (len := 1) (by decide +kernel) rfl).trans (fin_if _ _ (0 ≤ x3 ∧ x3.toNatClampNeg < 40) _ _)))))
theorem b131_43 (x1 : Int32) (x2 : Int32) (x3 : Int32) (s0 : Int32) (s1 : Int32) (s2 : Int32) (h : mH) : Ev 131 43 [some (.ref 1), some (.int x1), some (.int x2), some (.int x3)] [.int s0, .int s1, .int s2] h = if s2 ≤ (s1 * s0) then Ev 131 48 [some (.ref 1), some (.int x1), some (.int x2), some (.int x3)] [] h else Ev 131 47 [some (.ref 1), some (.int x1), some (.int x2), some (.int x3)] [] h := (ev_step (i := .imul) (len := 1) (by decide +kernel) rfl).trans ((ev_step (i := .if_icmp .le 4) (len := 3) (by decide +kernel) rfl).trans (fin_if _ _ (s2 ≤ (s1 * s0)) _ _))
theorem b131_47 (x1 : Int32) (x2 : Int32) (x3 : Int32) (h : mH) : Ev 131 47 [some (.ref 1), some (.int x1), some (.int x2), some (.int x3)] [] h = some (none, h) := (ev_step (i := .return_) (len := 1) (by decide +kernel) rfl).trans rfl
theorem b131_48 (x1 : Int32) (x2 : Int32) (x3 : Int32) (h : mH) : Ev 131 48 [some (.ref 1), some (.int x1), some (.int x2), some (.int x3)] [] h = if 0 ≤ x2 ∧ x2.toNatClampNeg < 40 then Ev 131 55 [some (.ref 1), some (.int x1), some (.int x2), some (.int x3)] [.int (gI h 7 x2.toNatClampNeg), .int x2, .ref 7] h else none := (ev_step (i := .aload_n 0) (len := 1) (by decide +kernel) rfl).trans ((ev_step (i := .getfield 28) (len := 3) (by decide +kernel) rfl).trans ((ev_step (i := .iload_n 2) (len := 1) (by decide +kernel) rfl).trans ((ev_step (i := .dup2) (len := 1) (by decide +kernel) rfl).trans ((ev_step (i := .iaload) (len := 1) (by decide +kernel) rfl).trans (fin_if _ _ (0 ≤ x2 ∧ x2.toNatClampNeg < 40) _ _)))))
theorem b131_55 (x1 : Int32) (x2 : Int32) (x3 : Int32) (s0 : Int32) (s1 : Int32) (h : mH) : Ev 131 55 [some (.ref 1), some (.int x1), some (.int x2), some (.int x3)] [.int s0, .int s1, .ref 7] h = if 0 ≤ x3 ∧ x3.toNatClampNeg < 40 then Ev 131 61 [some (.ref 1), some (.int x1), some (.int x2), some (.int x3)] [.int (gI h 7 x3.toNatClampNeg), .int s0, .int s1, .ref 7] h else none := (ev_step (i := .aload_n 0) (len := 1) (by decide +kernel) rfl).trans ((ev_step (i := .getfield 28) (len := 3) (by decide +kernel) rfl).trans ((ev_step (i := .iload_n 3) (len := 1) (by decide +kernel) rfl).trans ((ev_step (i := .iaload) (len := 1) (by decide +kernel) rfl).trans (fin_if _ _ (0 ≤ x3 ∧ x3.toNatClampNeg < 40) _ _))))
theorem b131_61 (x1 : Int32) (x2 : Int32) (x3 : Int32) (s0 : Int32) (s1 : Int32) (s2 : Int32) (h : mH) : Ev 131 61 [some (.ref 1), some (.int x1), some (.int x2), some (.int x3)] [.int s0, .int s1, .int s2, .ref 7] h = if 0 ≤ s2 ∧ s2.toNatClampNeg < 40 then Ev 131 63 [some (.ref 1), some (.int x1), some (.int x2), some (.int x3)] [] (sI h 7 s2.toNatClampNeg (s1 + s0)) else none := (ev_step (i := .iadd) (len := 1) (by decide +kernel) rfl).trans ((ev_step (i := .iastore) (len := 1) (by decide +kernel) rfl).trans (fin_if _ _ (0 ≤ s2 ∧ s2.toNatClampNeg < 40) _ _))
theorem b131_63 (x1 : Int32) (x2 : Int32) (x3 : Int32) (h : mH) : Ev 131 63 [some (.ref 1), some (.int x1), some (.int x2), some (.int x3)] [] h = Ev 131 2 [some (.ref 1), some (.int (x1 + 1)), some (.int x2), some (.int x3)] [] (sI h 1 8 x3) := (ev_step (i := .aload_n 0) (len := 1) (by decide +kernel) rfl).trans ((ev_step (i := .iload_n 3) (len := 1) (by decide +kernel) rfl).trans ((ev_step (i := .putfield 64) (len := 3) (by decide +kernel) rfl).trans ((ev_step (i := .iinc 1 1) (len := 3) (by decide +kernel) rfl).trans ((ev_step (i := .goto (-69)) (len := 3) (by decide +kernel) rfl).trans rfl))))
theorem b131_74 (x1 : Int32) (o2 : Option Value) (o3 : Option Value) (h : mH) : Ev 131 74 [some (.ref 1), some (.int x1), o2, o3] [] h = some (none, h) := (ev_step (i := .return_) (len := 1) (by decide +kernel) rfl).trans rfl
theorem b132_0 (x1 : Int32) (h : mH) : Ev 132 0 [some (.ref 1), some (.int x1)] [] h = if x1 < 0 then Ev 132 21 [some (.ref 1), some (.int x1)] [] h else Ev 132 4 [some (.ref 1), some (.int x1)] [] h := (ev_step (i := .iload_n 1) (len := 1) (by decide +kernel) rfl).trans ((ev_step (i := .ifCond .lt 20) (len := 3) (by decide +kernel) rfl).trans (fin_if _ _ (x1 < 0) _ _))
theorem b132_4 (x1 : Int32) (h : mH) : Ev 132 4 [some (.ref 1), some (.int x1)] [] h = if (gI h 1 8) ≤ x1 then Ev 132 21 [some (.ref 1), some (.int x1)] [] h else Ev 132 12 [some (.ref 1), some (.int x1)] [] h := (ev_step (i := .iload_n 1) (len := 1) (by decide +kernel) rfl).trans ((ev_step (i := .aload_n 0) (len := 1) (by decide +kernel) rfl).trans ((ev_step (i := .getfield 64) (len := 3) (by decide +kernel) rfl).trans ((ev_step (i := .if_icmp .ge 12) (len := 3) (by decide +kernel) rfl).trans (fin_if _ _ ((gI h 1 8) ≤ x1) _ _))))
theorem b132_12 (x1 : Int32) (h : mH) : Ev 132 12 [some (.ref 1), some (.int x1)] [] h = if 0 ≤ x1 ∧ x1.toNatClampNeg < 40 then Ev 132 18 [some (.ref 1), some (.int x1)] [.int (gI h 7 x1.toNatClampNeg)] h else none := (ev_step (i := .aload_n 0) (len := 1) (by decide +kernel) rfl).trans ((ev_step (i := .getfield 28) (len := 3) (by decide +kernel) rfl).trans ((ev_step (i := .iload_n 1) (len := 1) (by decide +kernel) rfl).trans ((ev_step (i := .iaload) (len := 1) (by decide +kernel) rfl).trans (fin_if _ _ (0 ≤ x1 ∧ x1.toNatClampNeg < 40) _ _))))
theorem b132_18 (x1 : Int32) (s0 : Int32) (h : mH) : Ev 132 18 [some (.ref 1), some (.int x1)] [.int s0] h = Ev 132 22 [some (.ref 1), some (.int x1)] [.int s0] h := (ev_step (i := .goto 4) (len := 3) (by decide +kernel) rfl).trans rfl
theorem b132_22 (x1 : Int32) (s0 : Int32) (h : mH) : Ev 132 22 [some (.ref 1), some (.int x1)] [.int s0] h = some (some (.int s0), h) := (ev_step (i := .ireturn) (len := 1) (by decide +kernel) rfl).trans rfl
theorem b132_21 (x1 : Int32) (h : mH) : Ev 132 21 [some (.ref 1), some (.int x1)] [] h = Ev 132 22 [some (.ref 1), some (.int x1)] [.int (-1)] h := (ev_step (i := .iconst (-1)) (len := 1) (by decide +kernel) rfl).trans rfl
set_option maxRecDepth 100000 in
theorem b133_0 (x1 : Int32) (h : mH) : Ev 133 0 [some (.ref 1), some (.int x1)] [] h = rI (Rt 125 [.ref 1, .int x1] h) (fun r h1 => Ev 133 5 [some (.ref 1), some (.int x1)] [.int r] h1) := (ev_step (i := .aload_n 0) (len := 1) (by decide +kernel) rfl).trans ((ev_step (i := .iload_n 1) (len := 1) (by decide +kernel) rfl).trans ((ev_step (i := .invokevirtual 36) (len := 3) (by decide +kernel) rfl).trans (fin_I (Or.inr rfl))))
theorem b133_5 (x1 : Int32) (s0 : Int32) (h : mH) : Ev 133 5 [some (.ref 1), some (.int x1)] [.int s0] h = if s0 = 0 then Ev 133 17 [some (.ref 1), some (.int x1)] [] h else Ev 133 8 [some (.ref 1), some (.int x1)] [] h := (ev_step (i := .ifCond .eq 12) (len := 3) (by decide +kernel) rfl).trans (fin_if _ _ (s0 = 0) _ _)
theorem b133_8 (x1 : Int32) (h : mH) : Ev 133 8 [some (.ref 1), some (.int x1)] [] h = if 0 ≤ x1 ∧ x1.toNatClampNeg < 40 then Ev 133 14 [some (.ref 1), some (.int x1)] [.int (gI h 2 x1.toNatClampNeg)] h else none := (ev_step (i := .aload_n 0) (len := 1) (by decide +kernel) rfl).trans ((ev_step (i := .getfield 9) (len := 3) (by decide +kernel) rfl).trans ((ev_step (i := .iload_n 1) (len := 1) (by decide +kernel) rfl).trans ((ev_step (i := .iaload) (len := 1) (by decide +kernel) rfl).trans (fin_if _ _ (0 ≤ x1 ∧ x1.toNatClampNeg < 40) _ _))))
theorem b133_14 (x1 : Int32) (s0 : Int32) (h : mH) : Ev 133 14 [some (.ref 1), some (.int x1)] [.int s0] h = Ev 133 18 [some (.ref 1), some (.int x1)] [.int s0] h := (ev_step (i := .goto 4) (len := 3) (by decide +kernel) rfl).trans rfl
theorem b133_18 (x1 : Int32) (s0 : Int32) (h : mH) : Ev 133 18 [some (.ref 1), some (.int x1)] [.int s0] h = some (some (.int s0), h) := (ev_step (i := .ireturn) (len := 1) (by decide +kernel) rfl).trans rfl
theorem b133_17 (x1 : Int32) (h : mH) : Ev 133 17 [some (.ref 1), some (.int x1)] [] h = Ev 133 18 [some (.ref 1), some (.int x1)] [.int (-1)] h := (ev_step (i := .iconst (-1)) (len := 1) (by decide +kernel) rfl).trans rfl
set_option maxRecDepth 100000 in
theorem b134_0 (x1 : Int32) (h : mH) : Ev 134 0 [some (.ref 1), some (.int x1)] [] h = rI (Rt 125 [.ref 1, .int x1] h) (fun r h1 => Ev 134 5 [some (.ref 1), some (.int x1)] [.int r] h1) := (ev_step (i := .aload_n 0) (len := 1) (by decide +kernel) rfl).trans ((ev_step (i := .iload_n 1) (len := 1) (by decide +kernel) rfl).trans ((ev_step (i := .invokevirtual 36) (len := 3) (by decide +kernel) rfl).trans (fin_I (Or.inr rfl))))
theorem b134_5 (x1 : Int32) (s0 : Int32) (h : mH) : Ev 134 5 [some (.ref 1), some (.int x1)] [.int s0] h = if s0 = 0 then Ev 134 17 [some (.ref 1), some (.int x1)] [] h else Ev 134 8 [some (.ref 1), some (.int x1)] [] h := (ev_step (i := .ifCond .eq 12) (len := 3) (by decide +kernel) rfl).trans (fin_if _ _ (s0 = 0) _ _)
theorem b134_8 (x1 : Int32) (h : mH) : Ev 134 8 [some (.ref 1), some (.int x1)] [] h = if 0 ≤ x1 ∧ x1.toNatClampNeg < 40 then Ev 134 14 [some (.ref 1), some (.int x1)] [.int (gI h 3 x1.toNatClampNeg)] h else none := (ev_step (i := .aload_n 0) (len := 1) (by decide +kernel) rfl).trans ((ev_step (i := .getfield 15) (len := 3) (by decide +kernel) rfl).trans ((ev_step (i := .iload_n 1) (len := 1) (by decide +kernel) rfl).trans ((ev_step (i := .iaload) (len := 1) (by decide +kernel) rfl).trans (fin_if _ _ (0 ≤ x1 ∧ x1.toNatClampNeg < 40) _ _))))
theorem b134_14 (x1 : Int32) (s0 : Int32) (h : mH) : Ev 134 14 [some (.ref 1), some (.int x1)] [.int s0] h = Ev 134 18 [some (.ref 1), some (.int x1)] [.int s0] h := (ev_step (i := .goto 4) (len := 3) (by decide +kernel) rfl).trans rfl
theorem b134_18 (x1 : Int32) (s0 : Int32) (h : mH) : Ev 134 18 [some (.ref 1), some (.int x1)] [.int s0] h = some (some (.int s0), h) := (ev_step (i := .ireturn) (len := 1) (by decide +kernel) rfl).trans rfl
theorem b134_17 (x1 : Int32) (h : mH) : Ev 134 17 [some (.ref 1), some (.int x1)] [] h = Ev 134 18 [some (.ref 1), some (.int x1)] [.int (-1)] h := (ev_step (i := .iconst (-1)) (len := 1) (by decide +kernel) rfl).trans rfl
set_option maxRecDepth 100000 in
theorem b135_0 (x1 : Int32) (h : mH) : Ev 135 0 [some (.ref 1), some (.int x1)] [] h = rI (Rt 133 [.ref 1, .int x1] h) (fun r h1 => Ev 135 5 [some (.ref 1), some (.int x1)] [.int r] h1) := (ev_step (i := .aload_n 0) (len := 1) (by decide +kernel) rfl).trans ((ev_step (i := .iload_n 1) (len := 1) (by decide +kernel) rfl).trans ((ev_step (i := .invokevirtual 70) (len := 3) (by decide +kernel) rfl).trans (fin_I (Or.inl rfl))))
set_option maxRecDepth 100000 in
theorem b135_5 (x1 : Int32) (s0 : Int32) (h : mH) : Ev 135 5 [some (.ref 1), some (.int x1)] [.int s0] h = rL (Rt 41 [.int s0] h) (fun r h1 => Ev 135 8 [some (.ref 1), some (.int x1)] [.long r] h1) := (ev_step (i := .invokestatic 54) (len := 3) (by decide +kernel) rfl).trans (fin_L rfl)
set_option maxRecDepth 100000 in
theorem b135_8 (x1 : Int32) (s0 : Int64) (h : mH) : Ev 135 8 [some (.ref 1), some (.int x1)] [.long s0] h = rI (Rt 134 [.ref 1, .int x1] h) (fun r h1 => Ev 135 13 [some (.ref 1), some (.int x1)] [.int r, .long s0] h1) := (ev_step (i := .aload_n 0) (len := 1) (by decide +kernel) rfl).trans ((ev_step (i := .iload_n 1) (len := 1) (by decide +kernel) rfl).trans ((ev_step (i := .invokevirtual 73) (len := 3) (by decide +kernel) rfl).trans (fin_I (Or.inl rfl))))
set_option maxRecDepth 100000 in
theorem b135_13 (x1 : Int32) (s0 : Int32) (s1 : Int64) (h : mH) : Ev 135 13 [some (.ref 1), some (.int x1)] [.int s0, .long s1] h = rL (Rt 41 [.int s0] h) (fun r h1 => Ev 135 16 [some (.ref 1), some (.int x1)] [.long r, .long s1] h1) := (ev_step (i := .invokestatic 54) (len := 3) (by decide +kernel) rfl).trans (fin_L rfl)
theorem b135_16 (x1 : Int32) (s0 : Int64) (s1 : Int64) (h : mH) : Ev 135 16 [some (.ref 1), some (.int x1)] [.long s0, .long s1] h = some (some (.long (s1 ||| s0)), h) := (ev_step (i := .lor) (len := 1) (by decide +kernel) rfl).trans ((ev_step (i := .lreturn) (len := 1) (by decide +kernel) rfl).trans rfl)
theorem b136_0 (x1 : Int32) (o2 : Option Value) (o3 : Option Value) (h : mH) : Ev 136 0 [some (.ref 1), some (.int x1), o2, o3] [] h = Ev 136 6 [some (.ref 1), some (.int x1), some (.int 0), some (.int (x1 + 1))] [] h := (ev_step (i := .iconst 0) (len := 1) (by decide +kernel) rfl).trans ((ev_step (i := .istore_n 2) (len := 1) (by decide +kernel) rfl).trans ((ev_step (i := .iload_n 1) (len := 1) (by decide +kernel) rfl).trans ((ev_step (i := .iconst 1) (len := 1) (by decide +kernel) rfl).trans ((ev_step (i := .iadd) (len := 1) (by decide +kernel) rfl).trans ((ev_step (i := .istore_n 3) (len := 1) (by decide +kernel) rfl).trans rfl)))))
theorem b136_6 (x1 : Int32) (x2 : Int32) (x3 : Int32) (h : mH) : Ev 136 6 [some (.ref 1), some (.int x1), some (.int x2), some (.int x3)] [] h = if (gI h 1 6) ≤ x3 then Ev 136 35 [some (.ref 1), some (.int x1), some (.int x2), some (.int x3)] [] h else Ev 136 14 [some (.ref 1), some (.int x1), some (.int x2), some (.int x3)] [] h := (ev_step (i := .iload_n 3) (len := 1) (by decide +kernel) rfl).trans ((ev_step (i := .aload_n 0) (len := 1) (by decide +kernel) rfl).trans ((ev_step (i := .getfield 31) (len := 3) (by decide +kernel) rfl).trans ((ev_step (i := .if_icmp .ge 24) (len := 3) (by decide +kernel) rfl).trans (fin_if _ _ ((gI h 1 6) ≤ x3) _ _))))
set_option maxRecDepth 100000 in
theorem b136_14 (x1 : Int32) (x2 : Int32) (x3 : Int32) (h : mH) : Ev 136 14 [some (.ref 1), some (.int x1), some (.int x2), some (.int x3)] [] h = rL (Rt 135 [.ref 1, .int x3] h) (fun r h1 => Ev 136 19 [some (.ref 1), some (.int x1), some (.int x2), some (.int x3)] [.long r] h1) := (ev_step (i := .aload_n 0) (len := 1) (by decide +kernel) rfl).trans ((ev_step (i := .iload_n 3) (len := 1) (by decide +kernel) rfl).trans ((ev_step (i := .invokevirtual 76) (len := 3) (by decide +kernel) rfl).trans (fin_L rfl)))
set_option maxRecDepth 100000 in
theorem b136_19 (x1 : Int32) (x2 : Int32) (x3 : Int32) (s0 : Int64) (h : mH) : Ev 136 19 [some (.ref 1), some (.int x1), some (.int x2), some (.int x3)] [.long s0] h = rI (Rt 42 [.long s0, .int x1] h) (fun r h1 => Ev 136 23 [some (.ref 1), some (.int x1), some (.int x2), some (.int x3)] [.int r] h1) := (ev_step (i := .iload_n 1) (len := 1) (by decide +kernel) rfl).trans ((ev_step (i := .invokestatic 79) (len := 3) (by decide +kernel) rfl).trans (fin_I (Or.inr rfl)))
theorem b136_23 (x1 : Int32) (x2 : Int32) (x3 : Int32) (s0 : Int32) (h : mH) : Ev 136 23 [some (.ref 1), some (.int x1), some (.int x2), some (.int x3)] [.int s0] h = if s0 = 0 then Ev 136 29 [some (.ref 1), some (.int x1), some (.int x2), some (.int x3)] [] h else Ev 136 26 [some (.ref 1), some (.int x1), some (.int x2), some (.int x3)] [] h := (ev_step (i := .ifCond .eq 6) (len := 3) (by decide +kernel) rfl).trans (fin_if _ _ (s0 = 0) _ _)
theorem b136_26 (x1 : Int32) (x2 : Int32) (x3 : Int32) (h : mH) : Ev 136 26 [some (.ref 1), some (.int x1), some (.int x2), some (.int x3)] [] h = Ev 136 29 [some (.ref 1), some (.int x1), some (.int (x2 + 1)), some (.int x3)] [] h := (ev_step (i := .iinc 2 1) (len := 3) (by decide +kernel) rfl).trans rfl
theorem b136_29 (x1 : Int32) (x2 : Int32) (x3 : Int32) (h : mH) : Ev 136 29 [some (.ref 1), some (.int x1), some (.int x2), some (.int x3)] [] h = Ev 136 6 [some (.ref 1), some (.int x1), some (.int x2), some (.int (x3 + 1))] [] h := (ev_step (i := .iinc 3 1) (len := 3) (by decide +kernel) rfl).trans ((ev_step (i := .goto (-26)) (len := 3) (by decide +kernel) rfl).trans rfl)
theorem b136_35 (x1 : Int32) (x2 : Int32) (x3 : Int32) (h : mH) : Ev 136 35 [some (.ref 1), some (.int x1), some (.int x2), some (.int x3)] [] h = some (some (.int x2), h) := (ev_step (i := .iload_n 2) (len := 1) (by decide +kernel) rfl).trans ((ev_step (i := .ireturn) (len := 1) (by decide +kernel) rfl).trans rfl)
set_option maxRecDepth 100000 in
theorem b137_0 (x1 : Int32) (h : mH) : Ev 137 0 [some (.ref 1), some (.int x1)] [] h = rI (Rt 125 [.ref 1, .int x1] h) (fun r h1 => Ev 137 5 [some (.ref 1), some (.int x1)] [.int r] h1) := (ev_step (i := .aload_n 0) (len := 1) (by decide +kernel) rfl).trans ((ev_step (i := .iload_n 1) (len := 1) (by decide +kernel) rfl).trans ((ev_step (i := .invokevirtual 36) (len := 3) (by decide +kernel) rfl).trans (fin_I (Or.inr rfl))))
theorem b137_5 (x1 : Int32) (s0 : Int32) (h : mH) : Ev 137 5 [some (.ref 1), some (.int x1)] [.int s0] h = if s0 = 0 then Ev 137 17 [some (.ref 1), some (.int x1)] [] h else Ev 137 8 [some (.ref 1), some (.int x1)] [] h := (ev_step (i := .ifCond .eq 12) (len := 3) (by decide +kernel) rfl).trans (fin_if _ _ (s0 = 0) _ _)
theorem b137_8 (x1 : Int32) (h : mH) : Ev 137 8 [some (.ref 1), some (.int x1)] [] h = if 0 ≤ x1 ∧ x1.toNatClampNeg < 40 then Ev 137 14 [some (.ref 1), some (.int x1)] [.int (gI h 5 x1.toNatClampNeg)] h else none := (ev_step (i := .aload_n 0) (len := 1) (by decide +kernel) rfl).trans ((ev_step (i := .getfield 21) (len := 3) (by decide +kernel) rfl).trans ((ev_step (i := .iload_n 1) (len := 1) (by decide +kernel) rfl).trans ((ev_step (i := .iaload) (len := 1) (by decide +kernel) rfl).trans (fin_if _ _ (0 ≤ x1 ∧ x1.toNatClampNeg < 40) _ _))))
theorem b137_14 (x1 : Int32) (s0 : Int32) (h : mH) : Ev 137 14 [some (.ref 1), some (.int x1)] [.int s0] h = Ev 137 18 [some (.ref 1), some (.int x1)] [.int s0] h := (ev_step (i := .goto 4) (len := 3) (by decide +kernel) rfl).trans rfl
theorem b137_18 (x1 : Int32) (s0 : Int32) (h : mH) : Ev 137 18 [some (.ref 1), some (.int x1)] [.int s0] h = some (some (.int s0), h) := (ev_step (i := .ireturn) (len := 1) (by decide +kernel) rfl).trans rfl
theorem b137_17 (x1 : Int32) (h : mH) : Ev 137 17 [some (.ref 1), some (.int x1)] [] h = Ev 137 18 [some (.ref 1), some (.int x1)] [.int 0] h := (ev_step (i := .iconst 0) (len := 1) (by decide +kernel) rfl).trans rfl
theorem b138_0 (x1 : Int32) (h : mH) : Ev 138 0 [some (.ref 1), some (.int x1)] [] h = if (gI h 1 7) ≤ x1 then Ev 138 16 [some (.ref 1), some (.int x1)] [] h else Ev 138 8 [some (.ref 1), some (.int x1)] [] h := (ev_step (i := .iload_n 1) (len := 1) (by decide +kernel) rfl).trans ((ev_step (i := .aload_n 0) (len := 1) (by decide +kernel) rfl).trans ((ev_step (i := .getfield 61) (len := 3) (by decide +kernel) rfl).trans ((ev_step (i := .if_icmp .ge 11) (len := 3) (by decide +kernel) rfl).trans (fin_if _ _ ((gI h 1 7) ≤ x1) _ _))))
set_option maxRecDepth 100000 in
theorem b138_8 (x1 : Int32) (h : mH) : Ev 138 8 [some (.ref 1), some (.int x1)] [] h = rI (Rt 137 [.ref 1, .int x1] h) (fun r h1 => Ev 138 13 [some (.ref 1), some (.int x1)] [.int r] h1) := (ev_step (i := .aload_n 0) (len := 1) (by decide +kernel) rfl).trans ((ev_step (i := .iload_n 1) (len := 1) (by decide +kernel) rfl).trans ((ev_step (i := .invokevirtual 44) (len := 3) (by decide +kernel) rfl).trans (fin_I (Or.inl rfl))))
theorem b138_13 (x1 : Int32) (s0 : Int32) (h : mH) : Ev 138 13 [some (.ref 1), some (.int x1)] [.int s0] h = Ev 138 18 [some (.ref 1), some (.int x1)] [.int s0] h := (ev_step (i := .goto 5) (len := 3) (by decide +kernel) rfl).trans rfl
theorem b138_18 (x1 : Int32) (s0 : Int32) (h : mH) : Ev 138 18 [some (.ref 1), some (.int x1)] [.int s0] h = some (some (.int s0), h) := (ev_step (i := .ireturn) (len := 1) (by decide +kernel) rfl).trans rfl
theorem b138_16 (x1 : Int32) (h : mH) : Ev 138 16 [some (.ref 1), some (.int x1)] [] h = Ev 138 18 [some (.ref 1), some (.int x1)] [.int 99] h := (ev_step (i := .bipush 99) (len := 2) (by decide +kernel) rfl).trans rfl
set_option maxRecDepth 100000 in
theorem b139_0 (x1 : Int32) (h : mH) : Ev 139 0 [some (.ref 1), some (.int x1)] [] h = rI (Rt 125 [.ref 1, .int x1] h) (fun r h1 => Ev 139 5 [some (.ref 1), some (.int x1)] [.int r] h1) := (ev_step (i := .aload_n 0) (len := 1) (by decide +kernel) rfl).trans ((ev_step (i := .iload_n 1) (len := 1) (by decide +kernel) rfl).trans ((ev_step (i := .invokevirtual 36) (len := 3) (by decide +kernel) rfl).trans (fin_I (Or.inr rfl))))
theorem b139_5 (x1 : Int32) (s0 : Int32) (h : mH) : Ev 139 5 [some (.ref 1), some (.int x1)] [.int s0] h = if s0 = 0 then Ev 139 17 [some (.ref 1), some (.int x1)] [] h else Ev 139 8 [some (.ref 1), some (.int x1)] [] h := (ev_step (i := .ifCond .eq 12) (len := 3) (by decide +kernel) rfl).trans (fin_if _ _ (s0 = 0) _ _)
theorem b139_8 (x1 : Int32) (h : mH) : Ev 139 8 [some (.ref 1), some (.int x1)] [] h = if 0 ≤ x1 ∧ x1.toNatClampNeg < 40 then Ev 139 14 [some (.ref 1), some (.int x1)] [.long (gJ h 6 x1.toNatClampNeg)] h else none := (ev_step (i := .aload_n 0) (len := 1) (by decide +kernel) rfl).trans ((ev_step (i := .getfield 24) (len := 3) (by decide +kernel) rfl).trans ((ev_step (i := .iload_n 1) (len := 1) (by decide +kernel) rfl).trans ((ev_step (i := .laload) (len := 1) (by decide +kernel) rfl).trans (fin_if _ _ (0 ≤ x1 ∧ x1.toNatClampNeg < 40) _ _))))
theorem b139_14 (x1 : Int32) (s0 : Int64) (h : mH) : Ev 139 14 [some (.ref 1), some (.int x1)] [.long s0] h = Ev 139 18 [some (.ref 1), some (.int x1)] [.long s0] h := (ev_step (i := .goto 4) (len := 3) (by decide +kernel) rfl).trans rfl
theorem b139_18 (x1 : Int32) (s0 : Int64) (h : mH) : Ev 139 18 [some (.ref 1), some (.int x1)] [.long s0] h = some (some (.long s0), h) := (ev_step (i := .lreturn) (len := 1) (by decide +kernel) rfl).trans rfl
theorem b139_17 (x1 : Int32) (h : mH) : Ev 139 17 [some (.ref 1), some (.int x1)] [] h = Ev 139 18 [some (.ref 1), some (.int x1)] [.long 0] h := (ev_step (i := .lconst 0) (len := 1) (by decide +kernel) rfl).trans rfl
theorem b140_0 (x1 : Int64) (o2 : Option Value) (o3 : Option Value) (o4 : Option Value) (o5 : Option Value) (h : mH) : Ev 140 0 [some (.ref 1), some (.long x1), o2, o3, o4, o5] [] h = Ev 140 5 [some (.ref 1), some (.long x1), (kil o2), some (.long 0), none, some (.int 0)] [] h := (ev_step (i := .lconst 0) (len := 1) (by decide +kernel) rfl).trans ((ev_step (i := .lstore_n 3) (len := 1) (by decide +kernel) rfl).trans ((ev_step (i := .iconst 0) (len := 1) (by decide +kernel) rfl).trans ((ev_step (i := .istore 5) (len := 2) (by decide +kernel) rfl).trans rfl)))
theorem b140_5 (x1 : Int64) (o2 : Option Value) (x3 : Int64) (o4 : Option Value) (x5 : Int32) (h : mH) : Ev 140 5 [some (.ref 1), some (.long x1), o2, some (.long x3), o4, some (.int x5)] [] h = if (gI h 1 6) ≤ x5 then Ev 140 39 [some (.ref 1), some (.long x1), o2, some (.long x3), o4, some (.int x5)] [] h else Ev 140 14 [some (.ref 1), some (.long x1), o2, some (.long x3), o4, some (.int x5)] [] h := (ev_step (i := .iload 5) (len := 2) (by decide +kernel) rfl).trans ((ev_step (i := .aload_n 0) (len := 1) (by decide +kernel) rfl).trans ((ev_step (i := .getfield 31) (len := 3) (by decide +kernel) rfl).trans ((ev_step (i := .if_icmp .ge 28) (len := 3) (by decide +kernel) rfl).trans (fin_if _ _ ((gI h 1 6) ≤ x5) _ _))))
set_option maxRecDepth 100000 in
theorem b140_14 (x1 : Int64) (o2 : Option Value) (x3 : Int64) (o4 : Option Value) (x5 : Int32) (h : mH) : Ev 140 14 [some (.ref 1), some (.long x1), o2, some (.long x3), o4, some (.int x5)] [] h = rI (Rt 42 [.long x1, .int x5] h) (fun r h1 => Ev 140 20 [some (.ref 1), some (.long x1), o2, some (.long x3), o4, some (.int x5)] [.int r] h1) := (ev_step (i := .lload_n 1) (len := 1) (by decide +kernel) rfl).trans ((ev_step (i := .iload 5) (len := 2) (by decide +kernel) rfl).trans ((ev_step (i := .invokestatic 79) (len := 3) (by decide +kernel) rfl).trans (fin_I (Or.inr rfl))))
theorem b140_20 (x1 : Int64) (o2 : Option Value) (x3 : Int64) (o4 : Option Value) (x5 : Int32) (s0 : Int32) (h : mH) : Ev 140 20 [some (.ref 1), some (.long x1), o2, some (.long x3), o4, some (.int x5)] [.int s0] h = if s0 = 0 then Ev 140 33 [some (.ref 1), some (.long x1), o2, some (.long x3), o4, some (.int x5)] [] h else Ev 140 23 [some (.ref 1), some (.long x1), o2, some (.long x3), o4, some (.int x5)] [] h := (ev_step (i := .ifCond .eq 13) (len := 3) (by decide +kernel) rfl).trans (fin_if _ _ (s0 = 0) _ _)
theorem b140_23 (x1 : Int64) (o2 : Option Value) (x3 : Int64) (o4 : Option Value) (x5 : Int32) (h : mH) : Ev 140 23 [some (.ref 1), some (.long x1), o2, some (.long x3), o4, some (.int x5)] [] h = if 0 ≤ x5 ∧ x5.toNatClampNeg < 40 then Ev 140 31 [some (.ref 1), some (.long x1), o2, some (.long x3), o4, some (.int x5)] [.long (gJ h 6 x5.toNatClampNeg), .long x3] h else none := (ev_step (i := .lload_n 3) (len := 1) (by decide +kernel) rfl).trans ((ev_step (i := .aload_n 0) (len := 1) (by decide +kernel) rfl).trans ((ev_step (i := .getfield 24) (len := 3) (by decide +kernel) rfl).trans ((ev_step (i := .iload 5) (len := 2) (by decide +kernel) rfl).trans ((ev_step (i := .laload) (len := 1) (by decide +kernel) rfl).trans (fin_if _ _ (0 ≤ x5 ∧ x5.toNatClampNeg < 40) _ _)))))
theorem b140_31 (x1 : Int64) (o2 : Option Value) (x3 : Int64) (o4 : Option Value) (x5 : Int32) (s0 : Int64) (s1 : Int64) (h : mH) : Ev 140 31 [some (.ref 1), some (.long x1), o2, some (.long x3), o4, some (.int x5)] [.long s0, .long s1] h = Ev 140 33 [some (.ref 1), some (.long x1), (kil o2), some (.long (s1 ||| s0)), none, some (.int x5)] [] h := (ev_step (i := .lor) (len := 1) (by decide +kernel) rfl).trans ((ev_step (i := .lstore_n 3) (len := 1) (by decide +kernel) rfl).trans rfl)
theorem b140_33 (x1 : Int64) (o2 : Option Value) (x3 : Int64) (o4 : Option Value) (x5 : Int32) (h : mH) : Ev 140 33 [some (.ref 1), some (.long x1), o2, some (.long x3), o4, some (.int x5)] [] h = Ev 140 5 [some (.ref 1), some (.long x1), o2, some (.long x3), (kil o4), some (.int (x5 + 1))] [] h := (ev_step (i := .iinc 5 1) (len := 3) (by decide +kernel) rfl).trans ((ev_step (i := .goto (-31)) (len := 3) (by decide +kernel) rfl).trans rfl)
theorem b140_39 (x1 : Int64) (o2 : Option Value) (x3 : Int64) (o4 : Option Value) (x5 : Int32) (h : mH) : Ev 140 39 [some (.ref 1), some (.long x1), o2, some (.long x3), o4, some (.int x5)] [] h = some (some (.long x3), h) := (ev_step (i := .lload_n 3) (len := 1) (by decide +kernel) rfl).trans ((ev_step (i := .lreturn) (len := 1) (by decide +kernel) rfl).trans rfl)
theorem b141_0 (x1 : Int64) (o2 : Option Value) (o3 : Option Value) (o4 : Option Value) (o5 : Option Value) (h : mH) : Ev 141 0 [some (.ref 1), some (.long x1), o2, o3, o4, o5] [] h = Ev 141 5 [some (.ref 1), some (.long x1), (kil o2), some (.long 0), none, some (.int 0)] [] h := (ev_step (i := .lconst 0) (len := 1) (by decide +kernel) rfl).trans ((ev_step (i := .lstore_n 3) (len := 1) (by decide +kernel) rfl).trans ((ev_step (i := .iconst 0) (len := 1) (by decide +kernel) rfl).trans ((ev_step (i := .istore 5) (len := 2) (by decide +kernel) rfl).trans rfl)))
theorem b141_5 (x1 : Int64) (o2 : Option Value) (x3 : Int64) (o4 : Option Value) (x5 : Int32) (h : mH) : Ev 141 5 [some (.ref 1), some (.long x1), o2, some (.long x3), o4, some (.int x5)] [] h = if (gI h 1 6) ≤ x5 then Ev 141 49 [some (.ref 1), some (.long x1), o2, some (.long x3), o4, some (.int x5)] [] h else Ev 141 14 [some (.ref 1), some (.long x1), o2, some (.long x3), o4, some (.int x5)] [] h := (ev_step (i := .iload 5) (len := 2) (by decide +kernel) rfl).trans ((ev_step (i := .aload_n 0) (len := 1) (by decide +kernel) rfl).trans ((ev_step (i := .getfield 31) (len := 3) (by decide +kernel) rfl).trans ((ev_step (i := .if_icmp .ge 38) (len := 3) (by decide +kernel) rfl).trans (fin_if _ _ ((gI h 1 6) ≤ x5) _ _))))
set_option maxRecDepth 100000 in
theorem b141_14 (x1 : Int64) (o2 : Option Value) (x3 : Int64) (o4 : Option Value) (x5 : Int32) (h : mH) : Ev 141 14 [some (.ref 1), some (.long x1), o2, some (.long x3), o4, some (.int x5)] [] h = rI (Rt 42 [.long x1, .int x5] h) (fun r h1 => Ev 141 20 [some (.ref 1), some (.long x1), o2, some (.long x3), o4, some (.int x5)] [.int r] h1) := (ev_step (i := .lload_n 1) (len := 1) (by decide +kernel) rfl).trans ((ev_step (i := .iload 5) (len := 2) (by decide +kernel) rfl).trans ((ev_step (i := .invokestatic 79) (len := 3) (by decide +kernel) rfl).trans (fin_I (Or.inr rfl))))
theorem b141_20 (x1 : Int64) (o2 : Option Value) (x3 : Int64) (o4 : Option Value) (x5 : Int32) (s0 : Int32) (h : mH) : Ev 141 20 [some (.ref 1), some (.long x1), o2, some (.long x3), o4, some (.int x5)] [.int s0] h = if s0 = 0 then Ev 141 43 [some (.ref 1), some (.long x1), o2, some (.long x3), o4, some (.int x5)] [] h else Ev 141 23 [some (.ref 1), some (.long x1), o2, some (.long x3), o4, some (.int x5)] [] h := (ev_step (i := .ifCond .eq 23) (len := 3) (by decide +kernel) rfl).trans (fin_if _ _ (s0 = 0) _ _)
theorem b141_23 (x1 : Int64) (o2 : Option Value) (x3 : Int64) (o4 : Option Value) (x5 : Int32) (h : mH) : Ev 141 23 [some (.ref 1), some (.long x1), o2, some (.long x3), o4, some (.int x5)] [] h = if 0 ≤ x5 ∧ x5.toNatClampNeg < 40 then Ev 141 31 [some (.ref 1), some (.long x1), o2, some (.long x3), o4, some (.int x5)] [.long (gJ h 6 x5.toNatClampNeg), .long x3] h else none := (ev_step (i := .lload_n 3) (len := 1) (by decide +kernel) rfl).trans ((ev_step (i := .aload_n 0) (len := 1) (by decide +kernel) rfl).trans ((ev_step (i := .getfield 24) (len := 3) (by decide +kernel) rfl).trans ((ev_step (i := .iload 5) (len := 2) (by decide +kernel) rfl).trans ((ev_step (i := .laload) (len := 1) (by decide +kernel) rfl).trans (fin_if _ _ (0 ≤ x5 ∧ x5.toNatClampNeg < 40) _ _)))))
set_option maxRecDepth 100000 in
theorem b141_31 (x1 : Int64) (o2 : Option Value) (x3 : Int64) (o4 : Option Value) (x5 : Int32) (s0 : Int64) (s1 : Int64) (h : mH) : Ev 141 31 [some (.ref 1), some (.long x1), o2, some (.long x3), o4, some (.int x5)] [.long s0, .long s1] h = rL (Rt 41 [.int x5] h) (fun r h1 => Ev 141 36 [some (.ref 1), some (.long x1), o2, some (.long x3), o4, some (.int x5)] [.long r, .long s0, .long s1] h1) := (ev_step (i := .iload 5) (len := 2) (by decide +kernel) rfl).trans ((ev_step (i := .invokestatic 54) (len := 3) (by decide +kernel) rfl).trans (fin_L rfl))
theorem b141_36 (x1 : Int64) (o2 : Option Value) (x3 : Int64) (o4 : Option Value) (x5 : Int32) (s0 : Int64) (s1 : Int64) (s2 : Int64) (h : mH) : Ev 141 36 [some (.ref 1), some (.long x1), o2, some (.long x3), o4, some (.int x5)] [.long s0, .long s1, .long s2] h = Ev 141 43 [some (.ref 1), some (.long x1), (kil o2), some (.long (s2 ||| (s1 &&& (s0 ^^^ (-1))))), none, some (.int x5)] [] h := (ev_step (i := .ldc2_w 83) (len := 3) (by decide +kernel) rfl).trans ((ev_step (i := .lxor) (len := 1) (by decide +kernel) rfl).trans ((ev_step (i := .land) (len := 1) (by decide +kernel) rfl).trans ((ev_step (i := .lor) (len := 1) (by decide +kernel) rfl).trans ((ev_step (i := .lstore_n 3) (len := 1) (by decide +kernel) rfl).trans rfl))))
theorem b141_43 (x1 : Int64) (o2 : Option Value) (x3 : Int64) (o4 : Option Value) (x5 : Int32) (h : mH) : Ev 141 43 [some (.ref 1), some (.long x1), o2, some (.long x3), o4, some (.int x5)] [] h = Ev 141 5 [some (.ref 1), some (.long x1), o2, some (.long x3), (kil o4), some (.int (x5 + 1))] [] h := (ev_step (i := .iinc 5 1) (len := 3) (by decide +kernel) rfl).trans ((ev_step (i := .goto (-41)) (len := 3) (by decide +kernel) rfl).trans rfl)
theorem b141_49 (x1 : Int64) (o2 : Option Value) (x3 : Int64) (o4 : Option Value) (x5 : Int32) (h : mH) : Ev 141 49 [some (.ref 1), some (.long x1), o2, some (.long x3), o4, some (.int x5)] [] h = some (some (.long (x1 &&& (x3 ^^^ (-1)))), h) := (ev_step (i := .lload_n 1) (len := 1) (by decide +kernel) rfl).trans ((ev_step (i := .lload_n 3) (len := 1) (by decide +kernel) rfl).trans ((ev_step (i := .ldc2_w 83) (len := 3) (by decide +kernel) rfl).trans ((ev_step (i := .lxor) (len := 1) (by decide +kernel) rfl).trans ((ev_step (i := .land) (len := 1) (by decide +kernel) rfl).trans ((ev_step (i := .lreturn) (len := 1) (by decide +kernel) rfl).trans rfl)))))
theorem b142_0 (x1 : Int64) (o2 : Option Value) (o3 : Option Value) (o4 : Option Value) (h : mH) : Ev 142 0 [some (.ref 1), some (.long x1), o2, o3, o4] [] h = Ev 142 5 [some (.ref 1), some (.long x1), (kil o2), some (.int 0), some (.int 0)] [] h := (ev_step (i := .iconst 0) (len := 1) (by decide +kernel) rfl).trans ((ev_step (i := .istore_n 3) (len := 1) (by decide +kernel) rfl).trans ((ev_step (i := .iconst 0) (len := 1) (by decide +kernel) rfl).trans ((ev_step (i := .istore 4) (len := 2) (by decide +kernel) rfl).trans rfl)))
theorem b142_5 (x1 : Int64) (o2 : Option Value) (x3 : Int32) (x4 : Int32) (h : mH) : Ev 142 5 [some (.ref 1), some (.long x1), o2, some (.int x3), some (.int x4)] [] h = if (gI h 1 6) ≤ x4 then Ev 142 39 [some (.ref 1), some (.long x1), o2, some (.int x3), some (.int x4)] [] h else Ev 142 14 [some (.ref 1), some (.long x1), o2, some (.int x3), some (.int x4)] [] h := (ev_step (i := .iload 4) (len := 2) (by decide +kernel) rfl).trans ((ev_step (i := .aload_n 0) (len := 1) (by decide +kernel) rfl).trans ((ev_step (i := .getfield 31) (len := 3) (by decide +kernel) rfl).trans ((ev_step (i := .if_icmp .ge 28) (len := 3) (by decide +kernel) rfl).trans (fin_if _ _ ((gI h 1 6) ≤ x4) _ _))))
set_option maxRecDepth 100000 in
theorem b142_14 (x1 : Int64) (o2 : Option Value) (x3 : Int32) (x4 : Int32) (h : mH) : Ev 142 14 [some (.ref 1), some (.long x1), o2, some (.int x3), some (.int x4)] [] h = rI (Rt 42 [.long x1, .int x4] h) (fun r h1 => Ev 142 20 [some (.ref 1), some (.long x1), o2, some (.int x3), some (.int x4)] [.int r] h1) := (ev_step (i := .lload_n 1) (len := 1) (by decide +kernel) rfl).trans ((ev_step (i := .iload 4) (len := 2) (by decide +kernel) rfl).trans ((ev_step (i := .invokestatic 79) (len := 3) (by decide +kernel) rfl).trans (fin_I (Or.inr rfl))))
theorem b142_20 (x1 : Int64) (o2 : Option Value) (x3 : Int32) (x4 : Int32) (s0 : Int32) (h : mH) : Ev 142 20 [some (.ref 1), some (.long x1), o2, some (.int x3), some (.int x4)] [.int s0] h = if s0 = 0 then Ev 142 33 [some (.ref 1), some (.long x1), o2, some (.int x3), some (.int x4)] [] h else Ev 142 23 [some (.ref 1), some (.long x1), o2, some (.int x3), some (.int x4)] [] h := (ev_step (i := .ifCond .eq 13) (len := 3) (by decide +kernel) rfl).trans (fin_if _ _ (s0 = 0) _ _)
theorem b142_23 (x1 : Int64) (o2 : Option Value) (x3 : Int32) (x4 : Int32) (h : mH) : Ev 142 23 [some (.ref 1), some (.long x1), o2, some (.int x3), some (.int x4)] [] h = if 0 ≤ x4 ∧ x4.toNatClampNeg < 40 then Ev 142 31 [some (.ref 1), some (.long x1), o2, some (.int x3), some (.int x4)] [.int (gI h 4 x4.toNatClampNeg), .int x3] h else none := (ev_step (i := .iload_n 3) (len := 1) (by decide +kernel) rfl).trans ((ev_step (i := .aload_n 0) (len := 1) (by decide +kernel) rfl).trans ((ev_step (i := .getfield 18) (len := 3) (by decide +kernel) rfl).trans ((ev_step (i := .iload 4) (len := 2) (by decide +kernel) rfl).trans ((ev_step (i := .iaload) (len := 1) (by decide +kernel) rfl).trans (fin_if _ _ (0 ≤ x4 ∧ x4.toNatClampNeg < 40) _ _)))))
theorem b142_31 (x1 : Int64) (o2 : Option Value) (x3 : Int32) (x4 : Int32) (s0 : Int32) (s1 : Int32) (h : mH) : Ev 142 31 [some (.ref 1), some (.long x1), o2, some (.int x3), some (.int x4)] [.int s0, .int s1] h = Ev 142 33 [some (.ref 1), some (.long x1), (kil o2), some (.int (s1 ||| s0)), some (.int x4)] [] h := (ev_step (i := .ior) (len := 1) (by decide +kernel) rfl).trans ((ev_step (i := .istore_n 3) (len := 1) (by decide +kernel) rfl).trans rfl)
theorem b142_33 (x1 : Int64) (o2 : Option Value) (x3 : Int32) (x4 : Int32) (h : mH) : Ev 142 33 [some (.ref 1), some (.long x1), o2, some (.int x3), some (.int x4)] [] h = Ev 142 5 [some (.ref 1), some (.long x1), o2, some (.int x3), some (.int (x4 + 1))] [] h := (ev_step (i := .iinc 4 1) (len := 3) (by decide +kernel) rfl).trans ((ev_step (i := .goto (-31)) (len := 3) (by decide +kernel) rfl).trans rfl)
theorem b142_39 (x1 : Int64) (o2 : Option Value) (x3 : Int32) (x4 : Int32) (h : mH) : Ev 142 39 [some (.ref 1), some (.long x1), o2, some (.int x3), some (.int x4)] [] h = some (some (.int x3), h) := (ev_step (i := .iload_n 3) (len := 1) (by decide +kernel) rfl).trans ((ev_step (i := .ireturn) (len := 1) (by decide +kernel) rfl).trans rfl)
end
