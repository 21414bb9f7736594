section
-- ===== PART A: goes FIRST, ahead of the names: the tables' words, and 'selects' of the private methods out of them =====
/-- a private method of a class that the tables say can be made, by its rows of tables_1 -/
def lw_okq (q : MethodName × Nat) : Prop := (q.1.cls ≠ "java/lang/invoke/MethodHandle" ∧ q.1.cls ≠ "java/lang/invoke/VarHandle") ∧ Cond.instantiable q.1.cls q.2 ∈ tables_1 ∧ Cond.privateMethod q.1 ∈ tables_1 ∧ Cond.instanceMethod q.1 ∈ tables_1
theorem lw_p0 : lw_okq (⟨"SpreadGroups$Volume", "findMapDue", "()V"⟩, 6) := ⟨⟨by decide +kernel, by decide +kernel⟩, List.mem_of_getElem? (i := 25) (by decide +kernel), List.mem_of_getElem? (i := 246) (by decide +kernel), List.mem_of_getElem? (i := 247) (by decide +kernel)⟩
theorem lw_p1 : lw_okq (⟨"SpreadGroups$Reader", "takeWord", "(Ljava/lang/String;)Z"⟩, 9) := ⟨⟨by decide +kernel, by decide +kernel⟩, List.mem_of_getElem? (i := 176) (by decide +kernel), List.mem_of_getElem? (i := 361) (by decide +kernel), List.mem_of_getElem? (i := 362) (by decide +kernel)⟩
theorem lw_p2 : lw_okq (⟨"SpreadGroups$Reader", "readToken", "()Z"⟩, 9) := ⟨⟨by decide +kernel, by decide +kernel⟩, List.mem_of_getElem? (i := 176) (by decide +kernel), List.mem_of_getElem? (i := 365) (by decide +kernel), List.mem_of_getElem? (i := 366) (by decide +kernel)⟩
theorem lw_p3 : lw_okq (⟨"SpreadGroups$Reader", "passBlanks", "()V"⟩, 9) := ⟨⟨by decide +kernel, by decide +kernel⟩, List.mem_of_getElem? (i := 176) (by decide +kernel), List.mem_of_getElem? (i := 369) (by decide +kernel), List.mem_of_getElem? (i := 370) (by decide +kernel)⟩
theorem lw_p4 : lw_okq (⟨"SpreadGroups$Reader", "readNumber", "()Z"⟩, 9) := ⟨⟨by decide +kernel, by decide +kernel⟩, List.mem_of_getElem? (i := 176) (by decide +kernel), List.mem_of_getElem? (i := 382) (by decide +kernel), List.mem_of_getElem? (i := 383) (by decide +kernel)⟩
theorem lw_p5 : lw_okq (⟨"SpreadGroups$Reader", "refuse", "(II)Z"⟩, 9) := ⟨⟨by decide +kernel, by decide +kernel⟩, List.mem_of_getElem? (i := 176) (by decide +kernel), List.mem_of_getElem? (i := 386) (by decide +kernel), List.mem_of_getElem? (i := 387) (by decide +kernel)⟩
theorem lw_p6 : lw_okq (⟨"SpreadGroups$Reader", "isWord", "(Ljava/lang/String;)Z"⟩, 9) := ⟨⟨by decide +kernel, by decide +kernel⟩, List.mem_of_getElem? (i := 176) (by decide +kernel), List.mem_of_getElem? (i := 394) (by decide +kernel), List.mem_of_getElem? (i := 395) (by decide +kernel)⟩
theorem lw_p7 : lw_okq (⟨"SpreadGroups$Reader", "takeNumber", "(III)Z"⟩, 9) := ⟨⟨by decide +kernel, by decide +kernel⟩, List.mem_of_getElem? (i := 176) (by decide +kernel), List.mem_of_getElem? (i := 450) (by decide +kernel), List.mem_of_getElem? (i := 451) (by decide +kernel)⟩
theorem lw_p8 : lw_okq (⟨"SpreadGroups$Reader", "takeSign", "()Z"⟩, 9) := ⟨⟨by decide +kernel, by decide +kernel⟩, List.mem_of_getElem? (i := 176) (by decide +kernel), List.mem_of_getElem? (i := 454) (by decide +kernel), List.mem_of_getElem? (i := 455) (by decide +kernel)⟩
theorem lw_p9 : lw_okq (⟨"SpreadGroups", "tellLine", "()Z"⟩, 14) := ⟨⟨by decide +kernel, by decide +kernel⟩, List.mem_of_getElem? (i := 17) (by decide +kernel), List.mem_of_getElem? (i := 468) (by decide +kernel), List.mem_of_getElem? (i := 469) (by decide +kernel)⟩
theorem lw_p10 : lw_okq (⟨"SpreadGroups", "toldParent", "(I)I"⟩, 14) := ⟨⟨by decide +kernel, by decide +kernel⟩, List.mem_of_getElem? (i := 17) (by decide +kernel), List.mem_of_getElem? (i := 472) (by decide +kernel), List.mem_of_getElem? (i := 473) (by decide +kernel)⟩
theorem lw_p11 : lw_okq (⟨"SpreadGroups$FreeMap", "bitsOf", "(I)I"⟩, 2) := ⟨⟨by decide +kernel, by decide +kernel⟩, List.mem_of_getElem? (i := 66) (by decide +kernel), List.mem_of_getElem? (i := 491) (by decide +kernel), List.mem_of_getElem? (i := 492) (by decide +kernel)⟩
theorem lw_p12 : lw_okq (⟨"SpreadGroups$Volume", "groupForDirectory", "()I"⟩, 6) := ⟨⟨by decide +kernel, by decide +kernel⟩, List.mem_of_getElem? (i := 25) (by decide +kernel), List.mem_of_getElem? (i := 513) (by decide +kernel), List.mem_of_getElem? (i := 514) (by decide +kernel)⟩
theorem lw_p13 : lw_okq (⟨"SpreadGroups$Volume", "groupForFile", "(I)I"⟩, 6) := ⟨⟨by decide +kernel, by decide +kernel⟩, List.mem_of_getElem? (i := 25) (by decide +kernel), List.mem_of_getElem? (i := 525) (by decide +kernel), List.mem_of_getElem? (i := 526) (by decide +kernel)⟩
theorem lw_p14 : lw_okq (⟨"SpreadGroups$Deeds", "lacksRoomFor", "(I)Z"⟩, 5) := ⟨⟨by decide +kernel, by decide +kernel⟩, List.mem_of_getElem? (i := 137) (by decide +kernel), List.mem_of_getElem? (i := 541) (by decide +kernel), List.mem_of_getElem? (i := 542) (by decide +kernel)⟩
theorem lw_p15 : lw_okq (⟨"SpreadGroups$FreeMap", "shortestRunIn", "(II)I"⟩, 2) := ⟨⟨by decide +kernel, by decide +kernel⟩, List.mem_of_getElem? (i := 66) (by decide +kernel), List.mem_of_getElem? (i := 566) (by decide +kernel), List.mem_of_getElem? (i := 567) (by decide +kernel)⟩
def lw_privs_1 : List (MethodName × Nat) := [(⟨"SpreadGroups$Volume", "findMapDue", "()V"⟩, 6), (⟨"SpreadGroups$Reader", "takeWord", "(Ljava/lang/String;)Z"⟩, 9), (⟨"SpreadGroups$Reader", "readToken", "()Z"⟩, 9), (⟨"SpreadGroups$Reader", "passBlanks", "()V"⟩, 9), (⟨"SpreadGroups$Reader", "readNumber", "()Z"⟩, 9), (⟨"SpreadGroups$Reader", "refuse", "(II)Z"⟩, 9), (⟨"SpreadGroups$Reader", "isWord", "(Ljava/lang/String;)Z"⟩, 9), (⟨"SpreadGroups$Reader", "takeNumber", "(III)Z"⟩, 9), (⟨"SpreadGroups$Reader", "takeSign", "()Z"⟩, 9), (⟨"SpreadGroups", "tellLine", "()Z"⟩, 14), (⟨"SpreadGroups", "toldParent", "(I)I"⟩, 14), (⟨"SpreadGroups$FreeMap", "bitsOf", "(I)I"⟩, 2), (⟨"SpreadGroups$Volume", "groupForDirectory", "()I"⟩, 6), (⟨"SpreadGroups$Volume", "groupForFile", "(I)I"⟩, 6), (⟨"SpreadGroups$Deeds", "lacksRoomFor", "(I)Z"⟩, 5), (⟨"SpreadGroups$FreeMap", "shortestRunIn", "(II)I"⟩, 2)]
theorem lw_r1 : ∀ q ∈ lw_privs_1, lw_okq q := List.forall_mem_cons.mpr ⟨lw_p0, List.forall_mem_cons.mpr ⟨lw_p1, List.forall_mem_cons.mpr ⟨lw_p2, List.forall_mem_cons.mpr ⟨lw_p3, List.forall_mem_cons.mpr ⟨lw_p4, List.forall_mem_cons.mpr ⟨lw_p5, List.forall_mem_cons.mpr ⟨lw_p6, List.forall_mem_cons.mpr ⟨lw_p7, List.forall_mem_cons.mpr ⟨lw_p8, List.forall_mem_cons.mpr ⟨lw_p9, List.forall_mem_cons.mpr ⟨lw_p10, List.forall_mem_cons.mpr ⟨lw_p11, List.forall_mem_cons.mpr ⟨lw_p12, List.forall_mem_cons.mpr ⟨lw_p13, List.forall_mem_cons.mpr ⟨lw_p14, List.forall_mem_cons.mpr ⟨lw_p15, fun _ h => absurd h List.not_mem_nil⟩⟩⟩⟩⟩⟩⟩⟩⟩⟩⟩⟩⟩⟩⟩⟩
theorem lw_p16 : lw_okq (⟨"SpreadGroups$FreeMap", "runAt", "(I)I"⟩, 2) := ⟨⟨by decide +kernel, by decide +kernel⟩, List.mem_of_getElem? (i := 66) (by decide +kernel), List.mem_of_getElem? (i := 570) (by decide +kernel), List.mem_of_getElem? (i := 571) (by decide +kernel)⟩
theorem lw_p17 : lw_okq (⟨"SpreadGroups$FreeMap", "freeBlockIn", "(II)I"⟩, 2) := ⟨⟨by decide +kernel, by decide +kernel⟩, List.mem_of_getElem? (i := 66) (by decide +kernel), List.mem_of_getElem? (i := 574) (by decide +kernel), List.mem_of_getElem? (i := 575) (by decide +kernel)⟩
theorem lw_p18 : lw_okq (⟨"SpreadGroups$FreeMap", "isFreeBlock", "(I)Z"⟩, 2) := ⟨⟨by decide +kernel, by decide +kernel⟩, List.mem_of_getElem? (i := 66) (by decide +kernel), List.mem_of_getElem? (i := 578) (by decide +kernel), List.mem_of_getElem? (i := 579) (by decide +kernel)⟩
theorem lw_p19 : lw_okq (⟨"SpreadGroups", "noteDirectory", "(I)V"⟩, 14) := ⟨⟨by decide +kernel, by decide +kernel⟩, List.mem_of_getElem? (i := 17) (by decide +kernel), List.mem_of_getElem? (i := 589) (by decide +kernel), List.mem_of_getElem? (i := 590) (by decide +kernel)⟩
theorem lw_p20 : lw_okq (⟨"SpreadGroups$Deeds", "layTail", "(II)Z"⟩, 5) := ⟨⟨by decide +kernel, by decide +kernel⟩, List.mem_of_getElem? (i := 137) (by decide +kernel), List.mem_of_getElem? (i := 603) (by decide +kernel), List.mem_of_getElem? (i := 604) (by decide +kernel)⟩
theorem lw_p21 : lw_okq (⟨"SpreadGroups$Deeds", "groupForTail", "(II)I"⟩, 5) := ⟨⟨by decide +kernel, by decide +kernel⟩, List.mem_of_getElem? (i := 137) (by decide +kernel), List.mem_of_getElem? (i := 614) (by decide +kernel), List.mem_of_getElem? (i := 615) (by decide +kernel)⟩
theorem lw_p22 : lw_okq (⟨"SpreadGroups$Deeds", "layBlocks", "(II)Z"⟩, 5) := ⟨⟨by decide +kernel, by decide +kernel⟩, List.mem_of_getElem? (i := 137) (by decide +kernel), List.mem_of_getElem? (i := 624) (by decide +kernel), List.mem_of_getElem? (i := 625) (by decide +kernel)⟩
theorem lw_p23 : lw_okq (⟨"SpreadGroups$Deeds", "layBlock", "(II)Z"⟩, 5) := ⟨⟨by decide +kernel, by decide +kernel⟩, List.mem_of_getElem? (i := 137) (by decide +kernel), List.mem_of_getElem? (i := 632) (by decide +kernel), List.mem_of_getElem? (i := 633) (by decide +kernel)⟩
theorem lw_p24 : lw_okq (⟨"SpreadGroups$Volume", "follows", "(II)Z"⟩, 6) := ⟨⟨by decide +kernel, by decide +kernel⟩, List.mem_of_getElem? (i := 25) (by decide +kernel), List.mem_of_getElem? (i := 704) (by decide +kernel), List.mem_of_getElem? (i := 705) (by decide +kernel)⟩
theorem lw_p25 : lw_okq (⟨"SpreadGroups$Deeds", "gatherAt", "(II)V"⟩, 5) := ⟨⟨by decide +kernel, by decide +kernel⟩, List.mem_of_getElem? (i := 137) (by decide +kernel), List.mem_of_getElem? (i := 836) (by decide +kernel), List.mem_of_getElem? (i := 837) (by decide +kernel)⟩
theorem lw_p26 : lw_okq (⟨"SpreadGroups", "drawnDeed", "()I"⟩, 14) := ⟨⟨by decide +kernel, by decide +kernel⟩, List.mem_of_getElem? (i := 17) (by decide +kernel), List.mem_of_getElem? (i := 846) (by decide +kernel), List.mem_of_getElem? (i := 847) (by decide +kernel)⟩
theorem lw_p27 : lw_okq (⟨"SpreadGroups", "drawnNumber", "()I"⟩, 14) := ⟨⟨by decide +kernel, by decide +kernel⟩, List.mem_of_getElem? (i := 17) (by decide +kernel), List.mem_of_getElem? (i := 850) (by decide +kernel), List.mem_of_getElem? (i := 851) (by decide +kernel)⟩
theorem lw_p28 : lw_okq (⟨"SpreadGroups", "hasImage", "(I)Z"⟩, 14) := ⟨⟨by decide +kernel, by decide +kernel⟩, List.mem_of_getElem? (i := 17) (by decide +kernel), List.mem_of_getElem? (i := 885) (by decide +kernel), List.mem_of_getElem? (i := 886) (by decide +kernel)⟩
theorem lw_p29 : lw_okq (⟨"SpreadGroupsModel", "anew", "()V"⟩, 16) := ⟨⟨by decide +kernel, by decide +kernel⟩, List.mem_of_getElem? (i := 897) (by decide +kernel), List.mem_of_getElem? (i := 903) (by decide +kernel), List.mem_of_getElem? (i := 904) (by decide +kernel)⟩
theorem lw_p30 : lw_okq (⟨"SpreadGroupsModel", "fragments", "()I"⟩, 16) := ⟨⟨by decide +kernel, by decide +kernel⟩, List.mem_of_getElem? (i := 897) (by decide +kernel), List.mem_of_getElem? (i := 907) (by decide +kernel), List.mem_of_getElem? (i := 908) (by decide +kernel)⟩
theorem lw_p31 : lw_okq (⟨"SpreadGroupsModel", "reads", "()V"⟩, 16) := ⟨⟨by decide +kernel, by decide +kernel⟩, List.mem_of_getElem? (i := 897) (by decide +kernel), List.mem_of_getElem? (i := 980) (by decide +kernel), List.mem_of_getElem? (i := 981) (by decide +kernel)⟩
def lw_privs_2 : List (MethodName × Nat) := [(⟨"SpreadGroups$FreeMap", "runAt", "(I)I"⟩, 2), (⟨"SpreadGroups$FreeMap", "freeBlockIn", "(II)I"⟩, 2), (⟨"SpreadGroups$FreeMap", "isFreeBlock", "(I)Z"⟩, 2), (⟨"SpreadGroups", "noteDirectory", "(I)V"⟩, 14), (⟨"SpreadGroups$Deeds", "layTail", "(II)Z"⟩, 5), (⟨"SpreadGroups$Deeds", "groupForTail", "(II)I"⟩, 5), (⟨"SpreadGroups$Deeds", "layBlocks", "(II)Z"⟩, 5), (⟨"SpreadGroups$Deeds", "layBlock", "(II)Z"⟩, 5), (⟨"SpreadGroups$Volume", "follows", "(II)Z"⟩, 6), (⟨"SpreadGroups$Deeds", "gatherAt", "(II)V"⟩, 5), (⟨"SpreadGroups", "drawnDeed", "()I"⟩, 14), (⟨"SpreadGroups", "drawnNumber", "()I"⟩, 14), (⟨"SpreadGroups", "hasImage", "(I)Z"⟩, 14), (⟨"SpreadGroupsModel", "anew", "()V"⟩, 16), (⟨"SpreadGroupsModel", "fragments", "()I"⟩, 16), (⟨"SpreadGroupsModel", "reads", "()V"⟩, 16)]
theorem lw_r2 : ∀ q ∈ lw_privs_2, lw_okq q := List.forall_mem_cons.mpr ⟨lw_p16, List.forall_mem_cons.mpr ⟨lw_p17, List.forall_mem_cons.mpr ⟨lw_p18, List.forall_mem_cons.mpr ⟨lw_p19, List.forall_mem_cons.mpr ⟨lw_p20, List.forall_mem_cons.mpr ⟨lw_p21, List.forall_mem_cons.mpr ⟨lw_p22, List.forall_mem_cons.mpr ⟨lw_p23, List.forall_mem_cons.mpr ⟨lw_p24, List.forall_mem_cons.mpr ⟨lw_p25, List.forall_mem_cons.mpr ⟨lw_p26, List.forall_mem_cons.mpr ⟨lw_p27, List.forall_mem_cons.mpr ⟨lw_p28, List.forall_mem_cons.mpr ⟨lw_p29, List.forall_mem_cons.mpr ⟨lw_p30, List.forall_mem_cons.mpr ⟨lw_p31, fun _ h => absurd h List.not_mem_nil⟩⟩⟩⟩⟩⟩⟩⟩⟩⟩⟩⟩⟩⟩⟩⟩
theorem lw_p32 : lw_okq (⟨"SpreadGroupsModel", "byteAt", "(I)I"⟩, 16) := ⟨⟨by decide +kernel, by decide +kernel⟩, List.mem_of_getElem? (i := 897) (by decide +kernel), List.mem_of_getElem? (i := 984) (by decide +kernel), List.mem_of_getElem? (i := 985) (by decide +kernel)⟩
theorem lw_p33 : lw_okq (⟨"SpreadGroupsModel", "requires", "(ZI)V"⟩, 16) := ⟨⟨by decide +kernel, by decide +kernel⟩, List.mem_of_getElem? (i := 897) (by decide +kernel), List.mem_of_getElem? (i := 992) (by decide +kernel), List.mem_of_getElem? (i := 993) (by decide +kernel)⟩
theorem lw_p34 : lw_okq (⟨"SpreadGroupsModel", "readVolume", "()V"⟩, 16) := ⟨⟨by decide +kernel, by decide +kernel⟩, List.mem_of_getElem? (i := 897) (by decide +kernel), List.mem_of_getElem? (i := 996) (by decide +kernel), List.mem_of_getElem? (i := 997) (by decide +kernel)⟩
theorem lw_p35 : lw_okq (⟨"SpreadGroupsModel", "lineNow", "()I"⟩, 16) := ⟨⟨by decide +kernel, by decide +kernel⟩, List.mem_of_getElem? (i := 897) (by decide +kernel), List.mem_of_getElem? (i := 1000) (by decide +kernel), List.mem_of_getElem? (i := 1001) (by decide +kernel)⟩
theorem lw_p36 : lw_okq (⟨"SpreadGroupsModel", "is", "(IIIII)Z"⟩, 16) := ⟨⟨by decide +kernel, by decide +kernel⟩, List.mem_of_getElem? (i := 897) (by decide +kernel), List.mem_of_getElem? (i := 1004) (by decide +kernel), List.mem_of_getElem? (i := 1005) (by decide +kernel)⟩
theorem lw_p37 : lw_okq (⟨"SpreadGroupsModel", "readNumber", "(II)I"⟩, 16) := ⟨⟨by decide +kernel, by decide +kernel⟩, List.mem_of_getElem? (i := 897) (by decide +kernel), List.mem_of_getElem? (i := 1008) (by decide +kernel), List.mem_of_getElem? (i := 1009) (by decide +kernel)⟩
theorem lw_p38 : lw_okq (⟨"SpreadGroupsModel", "requiresStop", "()V"⟩, 16) := ⟨⟨by decide +kernel, by decide +kernel⟩, List.mem_of_getElem? (i := 897) (by decide +kernel), List.mem_of_getElem? (i := 1012) (by decide +kernel), List.mem_of_getElem? (i := 1013) (by decide +kernel)⟩
theorem lw_p39 : lw_okq (⟨"SpreadGroupsModel", "readLine", "()V"⟩, 16) := ⟨⟨by decide +kernel, by decide +kernel⟩, List.mem_of_getElem? (i := 897) (by decide +kernel), List.mem_of_getElem? (i := 1016) (by decide +kernel), List.mem_of_getElem? (i := 1017) (by decide +kernel)⟩
theorem lw_p40 : lw_okq (⟨"SpreadGroupsModel", "inodeOf", "(II)I"⟩, 16) := ⟨⟨by decide +kernel, by decide +kernel⟩, List.mem_of_getElem? (i := 897) (by decide +kernel), List.mem_of_getElem? (i := 1020) (by decide +kernel), List.mem_of_getElem? (i := 1021) (by decide +kernel)⟩
theorem lw_p41 : lw_okq (⟨"SpreadGroupsModel", "inodes", "()I"⟩, 16) := ⟨⟨by decide +kernel, by decide +kernel⟩, List.mem_of_getElem? (i := 897) (by decide +kernel), List.mem_of_getElem? (i := 1024) (by decide +kernel), List.mem_of_getElem? (i := 1025) (by decide +kernel)⟩
theorem lw_p42 : lw_okq (⟨"SpreadGroupsModel", "isThere", "(I)Z"⟩, 16) := ⟨⟨by decide +kernel, by decide +kernel⟩, List.mem_of_getElem? (i := 897) (by decide +kernel), List.mem_of_getElem? (i := 1028) (by decide +kernel), List.mem_of_getElem? (i := 1029) (by decide +kernel)⟩
theorem lw_p43 : lw_okq (⟨"SpreadGroupsModel", "isInode", "(I)Z"⟩, 16) := ⟨⟨by decide +kernel, by decide +kernel⟩, List.mem_of_getElem? (i := 897) (by decide +kernel), List.mem_of_getElem? (i := 1032) (by decide +kernel), List.mem_of_getElem? (i := 1033) (by decide +kernel)⟩
theorem lw_p44 : lw_okq (⟨"SpreadGroupsModel", "of", "(II)I"⟩, 16) := ⟨⟨by decide +kernel, by decide +kernel⟩, List.mem_of_getElem? (i := 897) (by decide +kernel), List.mem_of_getElem? (i := 1036) (by decide +kernel), List.mem_of_getElem? (i := 1037) (by decide +kernel)⟩
theorem lw_p45 : lw_okq (⟨"SpreadGroupsModel", "comes", "(IIII)V"⟩, 16) := ⟨⟨by decide +kernel, by decide +kernel⟩, List.mem_of_getElem? (i := 897) (by decide +kernel), List.mem_of_getElem? (i := 1040) (by decide +kernel), List.mem_of_getElem? (i := 1041) (by decide +kernel)⟩
theorem lw_p46 : lw_okq (⟨"SpreadGroupsModel", "makes", "(III)I"⟩, 16) := ⟨⟨by decide +kernel, by decide +kernel⟩, List.mem_of_getElem? (i := 897) (by decide +kernel), List.mem_of_getElem? (i := 1044) (by decide +kernel), List.mem_of_getElem? (i := 1045) (by decide +kernel)⟩
theorem lw_p47 : lw_okq (⟨"SpreadGroupsModel", "groupFor", "(II)I"⟩, 16) := ⟨⟨by decide +kernel, by decide +kernel⟩, List.mem_of_getElem? (i := 897) (by decide +kernel), List.mem_of_getElem? (i := 1048) (by decide +kernel), List.mem_of_getElem? (i := 1049) (by decide +kernel)⟩
def lw_privs_3 : List (MethodName × Nat) := [(⟨"SpreadGroupsModel", "byteAt", "(I)I"⟩, 16), (⟨"SpreadGroupsModel", "requires", "(ZI)V"⟩, 16), (⟨"SpreadGroupsModel", "readVolume", "()V"⟩, 16), (⟨"SpreadGroupsModel", "lineNow", "()I"⟩, 16), (⟨"SpreadGroupsModel", "is", "(IIIII)Z"⟩, 16), (⟨"SpreadGroupsModel", "readNumber", "(II)I"⟩, 16), (⟨"SpreadGroupsModel", "requiresStop", "()V"⟩, 16), (⟨"SpreadGroupsModel", "readLine", "()V"⟩, 16), (⟨"SpreadGroupsModel", "inodeOf", "(II)I"⟩, 16), (⟨"SpreadGroupsModel", "inodes", "()I"⟩, 16), (⟨"SpreadGroupsModel", "isThere", "(I)Z"⟩, 16), (⟨"SpreadGroupsModel", "isInode", "(I)Z"⟩, 16), (⟨"SpreadGroupsModel", "of", "(II)I"⟩, 16), (⟨"SpreadGroupsModel", "comes", "(IIII)V"⟩, 16), (⟨"SpreadGroupsModel", "makes", "(III)I"⟩, 16), (⟨"SpreadGroupsModel", "groupFor", "(II)I"⟩, 16)]
theorem lw_r3 : ∀ q ∈ lw_privs_3, lw_okq q := List.forall_mem_cons.mpr ⟨lw_p32, List.forall_mem_cons.mpr ⟨lw_p33, List.forall_mem_cons.mpr ⟨lw_p34, List.forall_mem_cons.mpr ⟨lw_p35, List.forall_mem_cons.mpr ⟨lw_p36, List.forall_mem_cons.mpr ⟨lw_p37, List.forall_mem_cons.mpr ⟨lw_p38, List.forall_mem_cons.mpr ⟨lw_p39, List.forall_mem_cons.mpr ⟨lw_p40, List.forall_mem_cons.mpr ⟨lw_p41, List.forall_mem_cons.mpr ⟨lw_p42, List.forall_mem_cons.mpr ⟨lw_p43, List.forall_mem_cons.mpr ⟨lw_p44, List.forall_mem_cons.mpr ⟨lw_p45, List.forall_mem_cons.mpr ⟨lw_p46, List.forall_mem_cons.mpr ⟨lw_p47, fun _ h => absurd h List.not_mem_nil⟩⟩⟩⟩⟩⟩⟩⟩⟩⟩⟩⟩⟩⟩⟩⟩
theorem lw_p48 : lw_okq (⟨"SpreadGroupsModel", "groupForDirectory", "()I"⟩, 16) := ⟨⟨by decide +kernel, by decide +kernel⟩, List.mem_of_getElem? (i := 897) (by decide +kernel), List.mem_of_getElem? (i := 1052) (by decide +kernel), List.mem_of_getElem? (i := 1053) (by decide +kernel)⟩
theorem lw_p49 : lw_okq (⟨"SpreadGroupsModel", "nothings", "(I)I"⟩, 16) := ⟨⟨by decide +kernel, by decide +kernel⟩, List.mem_of_getElem? (i := 897) (by decide +kernel), List.mem_of_getElem? (i := 1056) (by decide +kernel), List.mem_of_getElem? (i := 1057) (by decide +kernel)⟩
theorem lw_p50 : lw_okq (⟨"SpreadGroupsModel", "directories", "(I)I"⟩, 16) := ⟨⟨by decide +kernel, by decide +kernel⟩, List.mem_of_getElem? (i := 897) (by decide +kernel), List.mem_of_getElem? (i := 1063) (by decide +kernel), List.mem_of_getElem? (i := 1064) (by decide +kernel)⟩
theorem lw_p51 : lw_okq (⟨"SpreadGroupsModel", "groupForFile", "(I)I"⟩, 16) := ⟨⟨by decide +kernel, by decide +kernel⟩, List.mem_of_getElem? (i := 897) (by decide +kernel), List.mem_of_getElem? (i := 1067) (by decide +kernel), List.mem_of_getElem? (i := 1068) (by decide +kernel)⟩
theorem lw_p52 : lw_okq (⟨"SpreadGroupsModel", "behind", "(II)I"⟩, 16) := ⟨⟨by decide +kernel, by decide +kernel⟩, List.mem_of_getElem? (i := 897) (by decide +kernel), List.mem_of_getElem? (i := 1071) (by decide +kernel), List.mem_of_getElem? (i := 1072) (by decide +kernel)⟩
theorem lw_p53 : lw_okq (⟨"SpreadGroupsModel", "room", "()I"⟩, 16) := ⟨⟨by decide +kernel, by decide +kernel⟩, List.mem_of_getElem? (i := 897) (by decide +kernel), List.mem_of_getElem? (i := 1075) (by decide +kernel), List.mem_of_getElem? (i := 1076) (by decide +kernel)⟩
theorem lw_p54 : lw_okq (⟨"SpreadGroupsModel", "freeIn", "(II)I"⟩, 16) := ⟨⟨by decide +kernel, by decide +kernel⟩, List.mem_of_getElem? (i := 897) (by decide +kernel), List.mem_of_getElem? (i := 1079) (by decide +kernel), List.mem_of_getElem? (i := 1080) (by decide +kernel)⟩
theorem lw_p55 : lw_okq (⟨"SpreadGroupsModel", "isFree", "(I)Z"⟩, 16) := ⟨⟨by decide +kernel, by decide +kernel⟩, List.mem_of_getElem? (i := 897) (by decide +kernel), List.mem_of_getElem? (i := 1083) (by decide +kernel), List.mem_of_getElem? (i := 1084) (by decide +kernel)⟩
theorem lw_p56 : lw_okq (⟨"SpreadGroupsModel", "runNear", "(II)I"⟩, 16) := ⟨⟨by decide +kernel, by decide +kernel⟩, List.mem_of_getElem? (i := 897) (by decide +kernel), List.mem_of_getElem? (i := 1087) (by decide +kernel), List.mem_of_getElem? (i := 1088) (by decide +kernel)⟩
theorem lw_p57 : lw_okq (⟨"SpreadGroupsModel", "runIn", "(II)I"⟩, 16) := ⟨⟨by decide +kernel, by decide +kernel⟩, List.mem_of_getElem? (i := 897) (by decide +kernel), List.mem_of_getElem? (i := 1091) (by decide +kernel), List.mem_of_getElem? (i := 1092) (by decide +kernel)⟩
theorem lw_p58 : lw_okq (⟨"SpreadGroupsModel", "runAt", "(I)I"⟩, 16) := ⟨⟨by decide +kernel, by decide +kernel⟩, List.mem_of_getElem? (i := 897) (by decide +kernel), List.mem_of_getElem? (i := 1095) (by decide +kernel), List.mem_of_getElem? (i := 1096) (by decide +kernel)⟩
theorem lw_p59 : lw_okq (⟨"SpreadGroupsModel", "isFreeBlock", "(I)Z"⟩, 16) := ⟨⟨by decide +kernel, by decide +kernel⟩, List.mem_of_getElem? (i := 897) (by decide +kernel), List.mem_of_getElem? (i := 1099) (by decide +kernel), List.mem_of_getElem? (i := 1100) (by decide +kernel)⟩
theorem lw_p60 : lw_okq (⟨"SpreadGroupsModel", "areFree", "(II)Z"⟩, 16) := ⟨⟨by decide +kernel, by decide +kernel⟩, List.mem_of_getElem? (i := 897) (by decide +kernel), List.mem_of_getElem? (i := 1103) (by decide +kernel), List.mem_of_getElem? (i := 1104) (by decide +kernel)⟩
theorem lw_p61 : lw_okq (⟨"SpreadGroupsModel", "sets", "(III)V"⟩, 16) := ⟨⟨by decide +kernel, by decide +kernel⟩, List.mem_of_getElem? (i := 897) (by decide +kernel), List.mem_of_getElem? (i := 1107) (by decide +kernel), List.mem_of_getElem? (i := 1108) (by decide +kernel)⟩
theorem lw_p62 : lw_okq (⟨"SpreadGroupsModel", "lets", "(IZ)V"⟩, 16) := ⟨⟨by decide +kernel, by decide +kernel⟩, List.mem_of_getElem? (i := 897) (by decide +kernel), List.mem_of_getElem? (i := 1111) (by decide +kernel), List.mem_of_getElem? (i := 1112) (by decide +kernel)⟩
theorem lw_p63 : lw_okq (⟨"SpreadGroupsModel", "grows", "(II)I"⟩, 16) := ⟨⟨by decide +kernel, by decide +kernel⟩, List.mem_of_getElem? (i := 897) (by decide +kernel), List.mem_of_getElem? (i := 1115) (by decide +kernel), List.mem_of_getElem? (i := 1116) (by decide +kernel)⟩
def lw_privs_4 : List (MethodName × Nat) := [(⟨"SpreadGroupsModel", "groupForDirectory", "()I"⟩, 16), (⟨"SpreadGroupsModel", "nothings", "(I)I"⟩, 16), (⟨"SpreadGroupsModel", "directories", "(I)I"⟩, 16), (⟨"SpreadGroupsModel", "groupForFile", "(I)I"⟩, 16), (⟨"SpreadGroupsModel", "behind", "(II)I"⟩, 16), (⟨"SpreadGroupsModel", "room", "()I"⟩, 16), (⟨"SpreadGroupsModel", "freeIn", "(II)I"⟩, 16), (⟨"SpreadGroupsModel", "isFree", "(I)Z"⟩, 16), (⟨"SpreadGroupsModel", "runNear", "(II)I"⟩, 16), (⟨"SpreadGroupsModel", "runIn", "(II)I"⟩, 16), (⟨"SpreadGroupsModel", "runAt", "(I)I"⟩, 16), (⟨"SpreadGroupsModel", "isFreeBlock", "(I)Z"⟩, 16), (⟨"SpreadGroupsModel", "areFree", "(II)Z"⟩, 16), (⟨"SpreadGroupsModel", "sets", "(III)V"⟩, 16), (⟨"SpreadGroupsModel", "lets", "(IZ)V"⟩, 16), (⟨"SpreadGroupsModel", "grows", "(II)I"⟩, 16)]
theorem lw_r4 : ∀ q ∈ lw_privs_4, lw_okq q := List.forall_mem_cons.mpr ⟨lw_p48, List.forall_mem_cons.mpr ⟨lw_p49, List.forall_mem_cons.mpr ⟨lw_p50, List.forall_mem_cons.mpr ⟨lw_p51, List.forall_mem_cons.mpr ⟨lw_p52, List.forall_mem_cons.mpr ⟨lw_p53, List.forall_mem_cons.mpr ⟨lw_p54, List.forall_mem_cons.mpr ⟨lw_p55, List.forall_mem_cons.mpr ⟨lw_p56, List.forall_mem_cons.mpr ⟨lw_p57, List.forall_mem_cons.mpr ⟨lw_p58, List.forall_mem_cons.mpr ⟨lw_p59, List.forall_mem_cons.mpr ⟨lw_p60, List.forall_mem_cons.mpr ⟨lw_p61, List.forall_mem_cons.mpr ⟨lw_p62, List.forall_mem_cons.mpr ⟨lw_p63, fun _ h => absurd h List.not_mem_nil⟩⟩⟩⟩⟩⟩⟩⟩⟩⟩⟩⟩⟩⟩⟩⟩
theorem lw_p64 : lw_okq (⟨"SpreadGroupsModel", "canGrow", "(II)Z"⟩, 16) := ⟨⟨by decide +kernel, by decide +kernel⟩, List.mem_of_getElem? (i := 897) (by decide +kernel), List.mem_of_getElem? (i := 1119) (by decide +kernel), List.mem_of_getElem? (i := 1120) (by decide +kernel)⟩
theorem lw_p65 : lw_okq (⟨"SpreadGroupsModel", "blocks", "(I)I"⟩, 16) := ⟨⟨by decide +kernel, by decide +kernel⟩, List.mem_of_getElem? (i := 897) (by decide +kernel), List.mem_of_getElem? (i := 1123) (by decide +kernel), List.mem_of_getElem? (i := 1124) (by decide +kernel)⟩
theorem lw_p66 : lw_okq (⟨"SpreadGroupsModel", "tail", "(I)I"⟩, 16) := ⟨⟨by decide +kernel, by decide +kernel⟩, List.mem_of_getElem? (i := 897) (by decide +kernel), List.mem_of_getElem? (i := 1127) (by decide +kernel), List.mem_of_getElem? (i := 1128) (by decide +kernel)⟩
theorem lw_p67 : lw_okq (⟨"SpreadGroupsModel", "widens", "(III)Z"⟩, 16) := ⟨⟨by decide +kernel, by decide +kernel⟩, List.mem_of_getElem? (i := 897) (by decide +kernel), List.mem_of_getElem? (i := 1131) (by decide +kernel), List.mem_of_getElem? (i := 1132) (by decide +kernel)⟩
theorem lw_p68 : lw_okq (⟨"SpreadGroupsModel", "letsAll", "(IIZ)V"⟩, 16) := ⟨⟨by decide +kernel, by decide +kernel⟩, List.mem_of_getElem? (i := 897) (by decide +kernel), List.mem_of_getElem? (i := 1135) (by decide +kernel), List.mem_of_getElem? (i := 1136) (by decide +kernel)⟩
theorem lw_p69 : lw_okq (⟨"SpreadGroupsModel", "takesTail", "(III)Z"⟩, 16) := ⟨⟨by decide +kernel, by decide +kernel⟩, List.mem_of_getElem? (i := 897) (by decide +kernel), List.mem_of_getElem? (i := 1139) (by decide +kernel), List.mem_of_getElem? (i := 1140) (by decide +kernel)⟩
theorem lw_p70 : lw_okq (⟨"SpreadGroupsModel", "fills", "(II)Z"⟩, 16) := ⟨⟨by decide +kernel, by decide +kernel⟩, List.mem_of_getElem? (i := 897) (by decide +kernel), List.mem_of_getElem? (i := 1143) (by decide +kernel), List.mem_of_getElem? (i := 1144) (by decide +kernel)⟩
theorem lw_p71 : lw_okq (⟨"SpreadGroupsModel", "takesBlock", "(II)Z"⟩, 16) := ⟨⟨by decide +kernel, by decide +kernel⟩, List.mem_of_getElem? (i := 897) (by decide +kernel), List.mem_of_getElem? (i := 1147) (by decide +kernel), List.mem_of_getElem? (i := 1148) (by decide +kernel)⟩
theorem lw_p72 : lw_okq (⟨"SpreadGroupsModel", "groupOfBlock", "(II)I"⟩, 16) := ⟨⟨by decide +kernel, by decide +kernel⟩, List.mem_of_getElem? (i := 897) (by decide +kernel), List.mem_of_getElem? (i := 1151) (by decide +kernel), List.mem_of_getElem? (i := 1152) (by decide +kernel)⟩
theorem lw_p73 : lw_okq (⟨"SpreadGroupsModel", "freeBlocks", "(I)I"⟩, 16) := ⟨⟨by decide +kernel, by decide +kernel⟩, List.mem_of_getElem? (i := 897) (by decide +kernel), List.mem_of_getElem? (i := 1155) (by decide +kernel), List.mem_of_getElem? (i := 1156) (by decide +kernel)⟩
theorem lw_p74 : lw_okq (⟨"SpreadGroupsModel", "allFreeBlocks", "()I"⟩, 16) := ⟨⟨by decide +kernel, by decide +kernel⟩, List.mem_of_getElem? (i := 897) (by decide +kernel), List.mem_of_getElem? (i := 1159) (by decide +kernel), List.mem_of_getElem? (i := 1160) (by decide +kernel)⟩
theorem lw_p75 : lw_okq (⟨"SpreadGroupsModel", "placeOfBlock", "(II)I"⟩, 16) := ⟨⟨by decide +kernel, by decide +kernel⟩, List.mem_of_getElem? (i := 897) (by decide +kernel), List.mem_of_getElem? (i := 1163) (by decide +kernel), List.mem_of_getElem? (i := 1164) (by decide +kernel)⟩
theorem lw_p76 : lw_okq (⟨"SpreadGroupsModel", "blockNear", "(II)I"⟩, 16) := ⟨⟨by decide +kernel, by decide +kernel⟩, List.mem_of_getElem? (i := 897) (by decide +kernel), List.mem_of_getElem? (i := 1167) (by decide +kernel), List.mem_of_getElem? (i := 1168) (by decide +kernel)⟩
theorem lw_p77 : lw_okq (⟨"SpreadGroupsModel", "forgets", "()V"⟩, 16) := ⟨⟨by decide +kernel, by decide +kernel⟩, List.mem_of_getElem? (i := 897) (by decide +kernel), List.mem_of_getElem? (i := 1171) (by decide +kernel), List.mem_of_getElem? (i := 1172) (by decide +kernel)⟩
theorem lw_p78 : lw_okq (⟨"SpreadGroupsModel", "inodesThere", "()I"⟩, 16) := ⟨⟨by decide +kernel, by decide +kernel⟩, List.mem_of_getElem? (i := 897) (by decide +kernel), List.mem_of_getElem? (i := 1175) (by decide +kernel), List.mem_of_getElem? (i := 1176) (by decide +kernel)⟩
theorem lw_p79 : lw_okq (⟨"SpreadGroupsModel", "ofKind", "(I)I"⟩, 16) := ⟨⟨by decide +kernel, by decide +kernel⟩, List.mem_of_getElem? (i := 897) (by decide +kernel), List.mem_of_getElem? (i := 1187) (by decide +kernel), List.mem_of_getElem? (i := 1188) (by decide +kernel)⟩
def lw_privs_5 : List (MethodName × Nat) := [(⟨"SpreadGroupsModel", "canGrow", "(II)Z"⟩, 16), (⟨"SpreadGroupsModel", "blocks", "(I)I"⟩, 16), (⟨"SpreadGroupsModel", "tail", "(I)I"⟩, 16), (⟨"SpreadGroupsModel", "widens", "(III)Z"⟩, 16), (⟨"SpreadGroupsModel", "letsAll", "(IIZ)V"⟩, 16), (⟨"SpreadGroupsModel", "takesTail", "(III)Z"⟩, 16), (⟨"SpreadGroupsModel", "fills", "(II)Z"⟩, 16), (⟨"SpreadGroupsModel", "takesBlock", "(II)Z"⟩, 16), (⟨"SpreadGroupsModel", "groupOfBlock", "(II)I"⟩, 16), (⟨"SpreadGroupsModel", "freeBlocks", "(I)I"⟩, 16), (⟨"SpreadGroupsModel", "allFreeBlocks", "()I"⟩, 16), (⟨"SpreadGroupsModel", "placeOfBlock", "(II)I"⟩, 16), (⟨"SpreadGroupsModel", "blockNear", "(II)I"⟩, 16), (⟨"SpreadGroupsModel", "forgets", "()V"⟩, 16), (⟨"SpreadGroupsModel", "inodesThere", "()I"⟩, 16), (⟨"SpreadGroupsModel", "ofKind", "(I)I"⟩, 16)]
theorem lw_r5 : ∀ q ∈ lw_privs_5, lw_okq q := List.forall_mem_cons.mpr ⟨lw_p64, List.forall_mem_cons.mpr ⟨lw_p65, List.forall_mem_cons.mpr ⟨lw_p66, List.forall_mem_cons.mpr ⟨lw_p67, List.forall_mem_cons.mpr ⟨lw_p68, List.forall_mem_cons.mpr ⟨lw_p69, List.forall_mem_cons.mpr ⟨lw_p70, List.forall_mem_cons.mpr ⟨lw_p71, List.forall_mem_cons.mpr ⟨lw_p72, List.forall_mem_cons.mpr ⟨lw_p73, List.forall_mem_cons.mpr ⟨lw_p74, List.forall_mem_cons.mpr ⟨lw_p75, List.forall_mem_cons.mpr ⟨lw_p76, List.forall_mem_cons.mpr ⟨lw_p77, List.forall_mem_cons.mpr ⟨lw_p78, List.forall_mem_cons.mpr ⟨lw_p79, fun _ h => absurd h List.not_mem_nil⟩⟩⟩⟩⟩⟩⟩⟩⟩⟩⟩⟩⟩⟩⟩⟩
theorem lw_p80 : lw_okq (⟨"SpreadGroupsModel", "summed", "(I)I"⟩, 16) := ⟨⟨by decide +kernel, by decide +kernel⟩, List.mem_of_getElem? (i := 897) (by decide +kernel), List.mem_of_getElem? (i := 1191) (by decide +kernel), List.mem_of_getElem? (i := 1192) (by decide +kernel)⟩
theorem lw_p81 : lw_okq (⟨"SpreadGroupsModel", "pairs", "(I)I"⟩, 16) := ⟨⟨by decide +kernel, by decide +kernel⟩, List.mem_of_getElem? (i := 897) (by decide +kernel), List.mem_of_getElem? (i := 1195) (by decide +kernel), List.mem_of_getElem? (i := 1196) (by decide +kernel)⟩
theorem lw_p82 : lw_okq (⟨"SpreadGroupsModel", "follows", "(I)I"⟩, 16) := ⟨⟨by decide +kernel, by decide +kernel⟩, List.mem_of_getElem? (i := 897) (by decide +kernel), List.mem_of_getElem? (i := 1199) (by decide +kernel), List.mem_of_getElem? (i := 1200) (by decide +kernel)⟩
theorem lw_p83 : lw_okq (⟨"SpreadGroupsModel", "runs", "(II)I"⟩, 16) := ⟨⟨by decide +kernel, by decide +kernel⟩, List.mem_of_getElem? (i := 897) (by decide +kernel), List.mem_of_getElem? (i := 1207) (by decide +kernel), List.mem_of_getElem? (i := 1208) (by decide +kernel)⟩
theorem lw_p84 : lw_okq (⟨"SpreadGroupsModel", "owner", "(I)I"⟩, 16) := ⟨⟨by decide +kernel, by decide +kernel⟩, List.mem_of_getElem? (i := 897) (by decide +kernel), List.mem_of_getElem? (i := 1224) (by decide +kernel), List.mem_of_getElem? (i := 1225) (by decide +kernel)⟩
theorem lw_p85 : lw_okq (⟨"SpreadGroupsModel", "isDirectory", "(I)Z"⟩, 16) := ⟨⟨by decide +kernel, by decide +kernel⟩, List.mem_of_getElem? (i := 897) (by decide +kernel), List.mem_of_getElem? (i := 1232) (by decide +kernel), List.mem_of_getElem? (i := 1233) (by decide +kernel)⟩
theorem lw_p86 : lw_okq (⟨"SpreadGroupsModel", "isSpoilt", "()Z"⟩, 16) := ⟨⟨by decide +kernel, by decide +kernel⟩, List.mem_of_getElem? (i := 897) (by decide +kernel), List.mem_of_getElem? (i := 1250) (by decide +kernel), List.mem_of_getElem? (i := 1251) (by decide +kernel)⟩
theorem lw_p87 : lw_okq (⟨"SpreadGroupsModel", "isFile", "(I)Z"⟩, 16) := ⟨⟨by decide +kernel, by decide +kernel⟩, List.mem_of_getElem? (i := 897) (by decide +kernel), List.mem_of_getElem? (i := 1258) (by decide +kernel), List.mem_of_getElem? (i := 1259) (by decide +kernel)⟩
theorem lw_p88 : lw_okq (⟨"SpreadGroupsModel", "hasOthers", "(I)Z"⟩, 16) := ⟨⟨by decide +kernel, by decide +kernel⟩, List.mem_of_getElem? (i := 897) (by decide +kernel), List.mem_of_getElem? (i := 1271) (by decide +kernel), List.mem_of_getElem? (i := 1272) (by decide +kernel)⟩
theorem lw_p89 : lw_okq (⟨"SpreadGroupsModel", "isWithin", "(II)Z"⟩, 16) := ⟨⟨by decide +kernel, by decide +kernel⟩, List.mem_of_getElem? (i := 897) (by decide +kernel), List.mem_of_getElem? (i := 1279) (by decide +kernel), List.mem_of_getElem? (i := 1280) (by decide +kernel)⟩
theorem lw_p90 : lw_okq (⟨"SpreadGroupsModel", "farFromRoot", "(I)I"⟩, 16) := ⟨⟨by decide +kernel, by decide +kernel⟩, List.mem_of_getElem? (i := 897) (by decide +kernel), List.mem_of_getElem? (i := 1283) (by decide +kernel), List.mem_of_getElem? (i := 1284) (by decide +kernel)⟩
theorem lw_p91 : lw_okq (⟨"SpreadGroupsModel", "isRowFree", "(III)Z"⟩, 16) := ⟨⟨by decide +kernel, by decide +kernel⟩, List.mem_of_getElem? (i := 897) (by decide +kernel), List.mem_of_getElem? (i := 1291) (by decide +kernel), List.mem_of_getElem? (i := 1292) (by decide +kernel)⟩
theorem lw_p92 : lw_okq (⟨"SpreadGroupsModel", "gathers", "(III)V"⟩, 16) := ⟨⟨by decide +kernel, by decide +kernel⟩, List.mem_of_getElem? (i := 897) (by decide +kernel), List.mem_of_getElem? (i := 1295) (by decide +kernel), List.mem_of_getElem? (i := 1296) (by decide +kernel)⟩
theorem lw_p93 : lw_okq (⟨"SpreadGroupsModel", "gets", "()I"⟩, 16) := ⟨⟨by decide +kernel, by decide +kernel⟩, List.mem_of_getElem? (i := 897) (by decide +kernel), List.mem_of_getElem? (i := 1304) (by decide +kernel), List.mem_of_getElem? (i := 1305) (by decide +kernel)⟩
theorem lw_p94 : lw_okq (⟨"SpreadGroupsModel", "deed", "(IIII)I"⟩, 16) := ⟨⟨by decide +kernel, by decide +kernel⟩, List.mem_of_getElem? (i := 897) (by decide +kernel), List.mem_of_getElem? (i := 1309) (by decide +kernel), List.mem_of_getElem? (i := 1310) (by decide +kernel)⟩
def lw_privs_6 : List (MethodName × Nat) := [(⟨"SpreadGroupsModel", "summed", "(I)I"⟩, 16), (⟨"SpreadGroupsModel", "pairs", "(I)I"⟩, 16), (⟨"SpreadGroupsModel", "follows", "(I)I"⟩, 16), (⟨"SpreadGroupsModel", "runs", "(II)I"⟩, 16), (⟨"SpreadGroupsModel", "owner", "(I)I"⟩, 16), (⟨"SpreadGroupsModel", "isDirectory", "(I)Z"⟩, 16), (⟨"SpreadGroupsModel", "isSpoilt", "()Z"⟩, 16), (⟨"SpreadGroupsModel", "isFile", "(I)Z"⟩, 16), (⟨"SpreadGroupsModel", "hasOthers", "(I)Z"⟩, 16), (⟨"SpreadGroupsModel", "isWithin", "(II)Z"⟩, 16), (⟨"SpreadGroupsModel", "farFromRoot", "(I)I"⟩, 16), (⟨"SpreadGroupsModel", "isRowFree", "(III)Z"⟩, 16), (⟨"SpreadGroupsModel", "gathers", "(III)V"⟩, 16), (⟨"SpreadGroupsModel", "gets", "()I"⟩, 16), (⟨"SpreadGroupsModel", "deed", "(IIII)I"⟩, 16)]
theorem lw_r6 : ∀ q ∈ lw_privs_6, lw_okq q := List.forall_mem_cons.mpr ⟨lw_p80, List.forall_mem_cons.mpr ⟨lw_p81, List.forall_mem_cons.mpr ⟨lw_p82, List.forall_mem_cons.mpr ⟨lw_p83, List.forall_mem_cons.mpr ⟨lw_p84, List.forall_mem_cons.mpr ⟨lw_p85, List.forall_mem_cons.mpr ⟨lw_p86, List.forall_mem_cons.mpr ⟨lw_p87, List.forall_mem_cons.mpr ⟨lw_p88, List.forall_mem_cons.mpr ⟨lw_p89, List.forall_mem_cons.mpr ⟨lw_p90, List.forall_mem_cons.mpr ⟨lw_p91, List.forall_mem_cons.mpr ⟨lw_p92, List.forall_mem_cons.mpr ⟨lw_p93, List.forall_mem_cons.mpr ⟨lw_p94, fun _ h => absurd h List.not_mem_nil⟩⟩⟩⟩⟩⟩⟩⟩⟩⟩⟩⟩⟩⟩⟩
def lw_privs : List (MethodName × Nat) := lw_privs_1 ++ (lw_privs_2 ++ (lw_privs_3 ++ (lw_privs_4 ++ (lw_privs_5 ++ (lw_privs_6)))))
def lw_tbl : List Cond := k2_sels lw_privs ++ tables_1
theorem lw_privs_ok : ∀ q ∈ lw_privs, lw_okq q := by
  show ∀ q ∈ lw_privs_1 ++ (lw_privs_2 ++ (lw_privs_3 ++ (lw_privs_4 ++ (lw_privs_5 ++ (lw_privs_6))))), lw_okq q
  exact List.forall_mem_append.mpr ⟨lw_r1, List.forall_mem_append.mpr ⟨lw_r2, List.forall_mem_append.mpr ⟨lw_r3, List.forall_mem_append.mpr ⟨lw_r4, List.forall_mem_append.mpr ⟨lw_r5, lw_r6⟩⟩⟩⟩⟩
end
section
def RX0 : String := "SpreadGroups$Deeds"
def TX0 : u_T := fun k => match k with
  | 0 => ("SpreadGroups$Deeds", "volume", "LSpreadGroups$Volume;", true)
  | 1 => ("SpreadGroups$Deeds", "layout", "LSpreadGroups$Layout;", true)
  | 2 => ("SpreadGroups$Deeds", "map", "LSpreadGroups$FreeMap;", true)
  | 3 => ("SpreadGroups$Deeds", "inodes", "LSpreadGroups$Inodes;", true)
  | _ => ("SpreadGroups$Deeds", "mapBefore", "LSpreadGroups$FreeMap;", true)
def tyX0 : Nat → FieldType := fun k => match k with
  | 0 => .object "SpreadGroups$Volume"
  | 1 => .object "SpreadGroups$Layout"
  | 2 => .object "SpreadGroups$FreeMap"
  | 3 => .object "SpreadGroups$Inodes"
  | _ => .object "SpreadGroups$FreeMap"
abbrev wsX00 : List Cond := u_ws RX0 TX0 5
theorem nmX0 : ∀ a, a < 5 → ∀ b, b < 5 → a ≠ b → (TX0 a).2.1 ≠ (TX0 b).2.1 := by decide +kernel
theorem tyX0_ok : ∀ k, k < 5 → parseFieldDescriptor (TX0 k).2.2.1 = some (tyX0 k) := by decide +kernel
abbrev cX0_init : ByteArray := prog_2_method_1_code
def yX0_init : MethodName := ⟨RX0, "<init>", "(LSpreadGroups$Volume;)V"⟩
abbrev cX0_makeInode : ByteArray := prog_2_method_2_code
def yX0_makeInode : MethodName := ⟨RX0, "makeInode", "(III)I"⟩
abbrev cX0_lacksRoomFor : ByteArray := prog_2_method_3_code
def yX0_lacksRoomFor : MethodName := ⟨RX0, "lacksRoomFor", "(I)Z"⟩
abbrev cX0_growFile : ByteArray := prog_2_method_4_code
def yX0_growFile : MethodName := ⟨RX0, "growFile", "(II)I"⟩
abbrev cX0_layTail : ByteArray := prog_2_method_5_code
def yX0_layTail : MethodName := ⟨RX0, "layTail", "(II)Z"⟩
abbrev cX0_layBlocks : ByteArray := prog_2_method_6_code
def yX0_layBlocks : MethodName := ⟨RX0, "layBlocks", "(II)Z"⟩
abbrev cX0_layBlock : ByteArray := prog_2_method_7_code
def yX0_layBlock : MethodName := ⟨RX0, "layBlock", "(II)Z"⟩
abbrev cX0_groupForTail : ByteArray := prog_2_method_8_code
def yX0_groupForTail : MethodName := ⟨RX0, "groupForTail", "(II)I"⟩
abbrev cX0_shrinkFile : ByteArray := prog_2_method_9_code
def yX0_shrinkFile : MethodName := ⟨RX0, "shrinkFile", "(II)I"⟩
abbrev cX0_removeInode : ByteArray := prog_2_method_10_code
def yX0_removeInode : MethodName := ⟨RX0, "removeInode", "(I)I"⟩
abbrev cX0_moveInode : ByteArray := prog_2_method_11_code
def yX0_moveInode : MethodName := ⟨RX0, "moveInode", "(III)I"⟩
abbrev cX0_gatherFile : ByteArray := prog_2_method_12_code
def yX0_gatherFile : MethodName := ⟨RX0, "gatherFile", "(I)I"⟩
abbrev cX0_gatherAt : ByteArray := prog_2_method_13_code
def yX0_gatherAt : MethodName := ⟨RX0, "gatherAt", "(II)V"⟩
def RX1 : String := "SpreadGroups$FreeMap"
def TX1 : u_T := fun k => match k with
  | 0 => ("SpreadGroups$FreeMap", "layout", "LSpreadGroups$Layout;", true)
  | _ => ("SpreadGroups$FreeMap", "bits", "[I", true)
def tyX1 : Nat → FieldType := fun k => match k with
  | 0 => .object "SpreadGroups$Layout"
  | _ => .array .int
abbrev wsX10 : List Cond := u_ws RX1 TX1 2
theorem nmX1 : ∀ a, a < 2 → ∀ b, b < 2 → a ≠ b → (TX1 a).2.1 ≠ (TX1 b).2.1 := by decide +kernel
theorem tyX1_ok : ∀ k, k < 2 → parseFieldDescriptor (TX1 k).2.2.1 = some (tyX1 k) := by decide +kernel
abbrev cX1_init : ByteArray := prog_3_method_1_code
def yX1_init : MethodName := ⟨RX1, "<init>", "(LSpreadGroups$Layout;)V"⟩
abbrev cX1_copyFrom : ByteArray := prog_3_method_2_code
def yX1_copyFrom : MethodName := ⟨RX1, "copyFrom", "(LSpreadGroups$FreeMap;)V"⟩
abbrev cX1_freeAll : ByteArray := prog_3_method_3_code
def yX1_freeAll : MethodName := ⟨RX1, "freeAll", "()V"⟩
abbrev cX1_bitsOf : ByteArray := prog_3_method_4_code
def yX1_bitsOf : MethodName := ⟨RX1, "bitsOf", "(I)I"⟩
abbrev cX1_isFreeBlock : ByteArray := prog_3_method_5_code
def yX1_isFreeBlock : MethodName := ⟨RX1, "isFreeBlock", "(I)Z"⟩
abbrev cX1_isFree : ByteArray := prog_3_method_6_code
def yX1_isFree : MethodName := ⟨RX1, "isFree", "(I)Z"⟩
abbrev cX1_areFree : ByteArray := prog_3_method_7_code
def yX1_areFree : MethodName := ⟨RX1, "areFree", "(II)Z"⟩
abbrev cX1_put : ByteArray := prog_3_method_8_code
def yX1_put : MethodName := ⟨RX1, "put", "(IIZ)V"⟩
abbrev cX1_freeFragmentsIn : ByteArray := prog_3_method_9_code
def yX1_freeFragmentsIn : MethodName := ⟨RX1, "freeFragmentsIn", "(I)I"⟩
abbrev cX1_freeFragments : ByteArray := prog_3_method_10_code
def yX1_freeFragments : MethodName := ⟨RX1, "freeFragments", "()I"⟩
abbrev cX1_freeBlocksIn : ByteArray := prog_3_method_11_code
def yX1_freeBlocksIn : MethodName := ⟨RX1, "freeBlocksIn", "(I)I"⟩
abbrev cX1_freeBlocks : ByteArray := prog_3_method_12_code
def yX1_freeBlocks : MethodName := ⟨RX1, "freeBlocks", "()I"⟩
abbrev cX1_runAt : ByteArray := prog_3_method_13_code
def yX1_runAt : MethodName := ⟨RX1, "runAt", "(I)I"⟩
abbrev cX1_runsIn : ByteArray := prog_3_method_14_code
def yX1_runsIn : MethodName := ⟨RX1, "runsIn", "(II)I"⟩
abbrev cX1_shortestRunIn : ByteArray := prog_3_method_15_code
def yX1_shortestRunIn : MethodName := ⟨RX1, "shortestRunIn", "(II)I"⟩
abbrev cX1_freeBlockIn : ByteArray := prog_3_method_16_code
def yX1_freeBlockIn : MethodName := ⟨RX1, "freeBlockIn", "(II)I"⟩
abbrev cX1_takeBlock : ByteArray := prog_3_method_17_code
def yX1_takeBlock : MethodName := ⟨RX1, "takeBlock", "(II)I"⟩
abbrev cX1_takeRun : ByteArray := prog_3_method_18_code
def yX1_takeRun : MethodName := ⟨RX1, "takeRun", "(II)I"⟩
abbrev cX1_groupOnward : ByteArray := prog_3_method_19_code
def yX1_groupOnward : MethodName := ⟨RX1, "groupOnward", "(I)I"⟩
abbrev cX1_gatheredRowIn : ByteArray := prog_3_method_20_code
def yX1_gatheredRowIn : MethodName := ⟨RX1, "gatheredRowIn", "(II)I"⟩
def RX2 : String := "SpreadGroups$Inodes"
def TX2 : u_T := fun k => match k with
  | 0 => ("SpreadGroups$Inodes", "layout", "LSpreadGroups$Layout;", true)
  | 1 => ("SpreadGroups$Inodes", "kind", "[I", true)
  | 2 => ("SpreadGroups$Inodes", "parent", "[I", true)
  | 3 => ("SpreadGroups$Inodes", "name", "[I", true)
  | 4 => ("SpreadGroups$Inodes", "size", "[I", true)
  | 5 => ("SpreadGroups$Inodes", "tail", "[I", true)
  | _ => ("SpreadGroups$Inodes", "blocks", "[I", true)
def tyX2 : Nat → FieldType := fun k => match k with
  | 0 => .object "SpreadGroups$Layout"
  | 1 => .array .int
  | 2 => .array .int
  | 3 => .array .int
  | 4 => .array .int
  | 5 => .array .int
  | _ => .array .int
abbrev wsX20 : List Cond := u_ws RX2 TX2 7
theorem nmX2 : ∀ a, a < 7 → ∀ b, b < 7 → a ≠ b → (TX2 a).2.1 ≠ (TX2 b).2.1 := by decide +kernel
theorem tyX2_ok : ∀ k, k < 7 → parseFieldDescriptor (TX2 k).2.2.1 = some (tyX2 k) := by decide +kernel
abbrev cX2_init : ByteArray := prog_4_method_1_code
def yX2_init : MethodName := ⟨RX2, "<init>", "(LSpreadGroups$Layout;)V"⟩
abbrev cX2_copyFrom : ByteArray := prog_4_method_2_code
def yX2_copyFrom : MethodName := ⟨RX2, "copyFrom", "(LSpreadGroups$Inodes;)V"⟩
abbrev cX2_clear : ByteArray := prog_4_method_3_code
def yX2_clear : MethodName := ⟨RX2, "clear", "()V"⟩
abbrev cX2_become : ByteArray := prog_4_method_4_code
def yX2_become : MethodName := ⟨RX2, "become", "(IIII)V"⟩
abbrev cX2_setEntry : ByteArray := prog_4_method_5_code
def yX2_setEntry : MethodName := ⟨RX2, "setEntry", "(III)V"⟩
abbrev cX2_setSize : ByteArray := prog_4_method_6_code
def yX2_setSize : MethodName := ⟨RX2, "setSize", "(III)V"⟩
abbrev cX2_setBlock : ByteArray := prog_4_method_7_code
def yX2_setBlock : MethodName := ⟨RX2, "setBlock", "(III)V"⟩
abbrev cX2_blockAt : ByteArray := prog_4_method_8_code
def yX2_blockAt : MethodName := ⟨RX2, "blockAt", "(II)I"⟩
abbrev cX2_isNumber : ByteArray := prog_4_method_9_code
def yX2_isNumber : MethodName := ⟨RX2, "isNumber", "(I)Z"⟩
abbrev cX2_kindOf : ByteArray := prog_4_method_10_code
def yX2_kindOf : MethodName := ⟨RX2, "kindOf", "(I)I"⟩
abbrev cX2_parentOf : ByteArray := prog_4_method_11_code
def yX2_parentOf : MethodName := ⟨RX2, "parentOf", "(I)I"⟩
abbrev cX2_nameOf : ByteArray := prog_4_method_12_code
def yX2_nameOf : MethodName := ⟨RX2, "nameOf", "(I)I"⟩
abbrev cX2_sizeOf : ByteArray := prog_4_method_13_code
def yX2_sizeOf : MethodName := ⟨RX2, "sizeOf", "(I)I"⟩
abbrev cX2_blocksOf : ByteArray := prog_4_method_14_code
def yX2_blocksOf : MethodName := ⟨RX2, "blocksOf", "(I)I"⟩
abbrev cX2_tailOf : ByteArray := prog_4_method_15_code
def yX2_tailOf : MethodName := ⟨RX2, "tailOf", "(I)I"⟩
abbrev cX2_tailLengthOf : ByteArray := prog_4_method_16_code
def yX2_tailLengthOf : MethodName := ⟨RX2, "tailLengthOf", "(I)I"⟩
abbrev cX2_howManyIn : ByteArray := prog_4_method_17_code
def yX2_howManyIn : MethodName := ⟨RX2, "howManyIn", "(II)I"⟩
abbrev cX2_howMany : ByteArray := prog_4_method_18_code
def yX2_howMany : MethodName := ⟨RX2, "howMany", "(I)I"⟩
abbrev cX2_howManyAreThere : ByteArray := prog_4_method_19_code
def yX2_howManyAreThere : MethodName := ⟨RX2, "howManyAreThere", "()I"⟩
abbrev cX2_sizesOfAll : ByteArray := prog_4_method_20_code
def yX2_sizesOfAll : MethodName := ⟨RX2, "sizesOfAll", "()I"⟩
abbrev cX2_firstNothingIn : ByteArray := prog_4_method_21_code
def yX2_firstNothingIn : MethodName := ⟨RX2, "firstNothingIn", "(I)I"⟩
abbrev cX2_named : ByteArray := prog_4_method_22_code
def yX2_named : MethodName := ⟨RX2, "named", "(II)I"⟩
abbrev cX2_hasOthers : ByteArray := prog_4_method_23_code
def yX2_hasOthers : MethodName := ⟨RX2, "hasOthers", "(I)Z"⟩
abbrev cX2_depthBelow : ByteArray := prog_4_method_24_code
def yX2_depthBelow : MethodName := ⟨RX2, "depthBelow", "(II)I"⟩
abbrev cX2_ownerOf : ByteArray := prog_4_method_25_code
def yX2_ownerOf : MethodName := ⟨RX2, "ownerOf", "(I)I"⟩
def RX3 : String := "SpreadGroups$Layout"
def TX3 : u_T := fun k => match k with
  | 0 => ("SpreadGroups$Layout", "groups", "I", false)
  | 1 => ("SpreadGroups$Layout", "blocks", "I", false)
  | 2 => ("SpreadGroups$Layout", "inodes", "I", false)
  | 3 => ("SpreadGroups$Layout", "step", "I", false)
  | 4 => ("SpreadGroups$Layout", "reserve", "I", false)
  | _ => ("SpreadGroups$Layout", "limit", "I", false)
def tyX3 : Nat → FieldType := fun k => match k with
  | 0 => .int
  | 1 => .int
  | 2 => .int
  | 3 => .int
  | 4 => .int
  | _ => .int
abbrev wsX30 : List Cond := u_ws RX3 TX3 6
theorem nmX3 : ∀ a, a < 6 → ∀ b, b < 6 → a ≠ b → (TX3 a).2.1 ≠ (TX3 b).2.1 := by decide +kernel
theorem tyX3_ok : ∀ k, k < 6 → parseFieldDescriptor (TX3 k).2.2.1 = some (tyX3 k) := by decide +kernel
abbrev cX3_init : ByteArray := prog_5_method_1_code
def yX3_init : MethodName := ⟨RX3, "<init>", "()V"⟩
abbrev cX3_set : ByteArray := prog_5_method_2_code
def yX3_set : MethodName := ⟨RX3, "set", "([I)V"⟩
abbrev cX3_copyFrom : ByteArray := prog_5_method_3_code
def yX3_copyFrom : MethodName := ⟨RX3, "copyFrom", "(LSpreadGroups$Layout;)V"⟩
abbrev cX3_number : ByteArray := prog_5_method_4_code
def yX3_number : MethodName := ⟨RX3, "number", "(I)I"⟩
abbrev cX3_allBlocks : ByteArray := prog_5_method_5_code
def yX3_allBlocks : MethodName := ⟨RX3, "allBlocks", "()I"⟩
abbrev cX3_allInodes : ByteArray := prog_5_method_6_code
def yX3_allInodes : MethodName := ⟨RX3, "allInodes", "()I"⟩
abbrev cX3_isFragment : ByteArray := prog_5_method_7_code
def yX3_isFragment : MethodName := ⟨RX3, "isFragment", "(I)Z"⟩
abbrev cX3_behind : ByteArray := prog_5_method_8_code
def yX3_behind : MethodName := ⟨RX3, "behind", "(II)I"⟩
abbrev cX3_groupOfInode : ByteArray := prog_5_method_9_code
def yX3_groupOfInode : MethodName := ⟨RX3, "groupOfInode", "(I)I"⟩
abbrev cX3_groupOfBlock : ByteArray := prog_5_method_10_code
def yX3_groupOfBlock : MethodName := ⟨RX3, "groupOfBlock", "(I)I"⟩
abbrev cX3_placeBehind : ByteArray := prog_5_method_11_code
def yX3_placeBehind : MethodName := ⟨RX3, "placeBehind", "(I)I"⟩
abbrev cX3_leadsOn : ByteArray := prog_5_method_12_code
def yX3_leadsOn : MethodName := ⟨RX3, "leadsOn", "(I)Z"⟩
def RX4 : String := "SpreadGroups$Reader"
def TX4 : u_T := fun k => match k with
  | 0 => ("SpreadGroups$Reader", "tape", "LSpreadGroups$Tape;", true)
  | 1 => ("SpreadGroups$Reader", "numbers", "[I", true)
  | 2 => ("SpreadGroups$Reader", "lineKind", "I", false)
  | 3 => ("SpreadGroups$Reader", "fault", "I", false)
  | 4 => ("SpreadGroups$Reader", "faultPlace", "I", false)
  | 5 => ("SpreadGroups$Reader", "next", "I", false)
  | 6 => ("SpreadGroups$Reader", "tokenSort", "I", false)
  | 7 => ("SpreadGroups$Reader", "tokenPlace", "I", false)
  | _ => ("SpreadGroups$Reader", "tokenValue", "I", false)
def tyX4 : Nat → FieldType := fun k => match k with
  | 0 => .object "SpreadGroups$Tape"
  | 1 => .array .int
  | 2 => .int
  | 3 => .int
  | 4 => .int
  | 5 => .int
  | 6 => .int
  | 7 => .int
  | _ => .int
abbrev wsX40 : List Cond := u_ws RX4 TX4 9
theorem nmX4 : ∀ a, a < 9 → ∀ b, b < 9 → a ≠ b → (TX4 a).2.1 ≠ (TX4 b).2.1 := by decide +kernel
theorem tyX4_ok : ∀ k, k < 9 → parseFieldDescriptor (TX4 k).2.2.1 = some (tyX4 k) := by decide +kernel
abbrev cX4_init : ByteArray := prog_6_method_1_code
def yX4_init : MethodName := ⟨RX4, "<init>", "(LSpreadGroups$Tape;)V"⟩
abbrev cX4_rewind : ByteArray := prog_6_method_2_code
def yX4_rewind : MethodName := ⟨RX4, "rewind", "()V"⟩
abbrev cX4_hasMore : ByteArray := prog_6_method_3_code
def yX4_hasMore : MethodName := ⟨RX4, "hasMore", "()Z"⟩
abbrev cX4_readRules : ByteArray := prog_6_method_4_code
def yX4_readRules : MethodName := ⟨RX4, "readRules", "()Z"⟩
abbrev cX4_readLine : ByteArray := prog_6_method_5_code
def yX4_readLine : MethodName := ⟨RX4, "readLine", "(I)Z"⟩
abbrev cX4_refuseLine : ByteArray := prog_6_method_6_code
def yX4_refuseLine : MethodName := ⟨RX4, "refuseLine", "(I)Z"⟩
abbrev cX4_refuse : ByteArray := prog_6_method_7_code
def yX4_refuse : MethodName := ⟨RX4, "refuse", "(II)Z"⟩
abbrev cX4_takeWord : ByteArray := prog_6_method_8_code
def yX4_takeWord : MethodName := ⟨RX4, "takeWord", "(Ljava/lang/String;)Z"⟩
abbrev cX4_takeSign : ByteArray := prog_6_method_9_code
def yX4_takeSign : MethodName := ⟨RX4, "takeSign", "()Z"⟩
abbrev cX4_takeNumber : ByteArray := prog_6_method_10_code
def yX4_takeNumber : MethodName := ⟨RX4, "takeNumber", "(III)Z"⟩
abbrev cX4_isWord : ByteArray := prog_6_method_11_code
def yX4_isWord : MethodName := ⟨RX4, "isWord", "(Ljava/lang/String;)Z"⟩
abbrev cX4_readToken : ByteArray := prog_6_method_12_code
def yX4_readToken : MethodName := ⟨RX4, "readToken", "()Z"⟩
abbrev cX4_readNumber : ByteArray := prog_6_method_13_code
def yX4_readNumber : MethodName := ⟨RX4, "readNumber", "()Z"⟩
abbrev cX4_passBlanks : ByteArray := prog_6_method_14_code
def yX4_passBlanks : MethodName := ⟨RX4, "passBlanks", "()V"⟩
def RX5 : String := "SpreadGroups$Tape"
def TX5 : u_T := fun k => match k with
  | 0 => ("SpreadGroups$Tape", "bytes", "[I", true)
  | _ => ("SpreadGroups$Tape", "length", "I", false)
def tyX5 : Nat → FieldType := fun k => match k with
  | 0 => .array .int
  | _ => .int
abbrev wsX50 : List Cond := u_ws RX5 TX5 2
theorem nmX5 : ∀ a, a < 2 → ∀ b, b < 2 → a ≠ b → (TX5 a).2.1 ≠ (TX5 b).2.1 := by decide +kernel
theorem tyX5_ok : ∀ k, k < 2 → parseFieldDescriptor (TX5 k).2.2.1 = some (tyX5 k) := by decide +kernel
abbrev cX5_init : ByteArray := prog_7_method_1_code
def yX5_init : MethodName := ⟨RX5, "<init>", "()V"⟩
abbrev cX5_append : ByteArray := prog_7_method_2_code
def yX5_append : MethodName := ⟨RX5, "append", "(I)Z"⟩
abbrev cX5_byteAt : ByteArray := prog_7_method_3_code
def yX5_byteAt : MethodName := ⟨RX5, "byteAt", "(I)I"⟩
abbrev cX5_hasLetterAt : ByteArray := prog_7_method_4_code
def yX5_hasLetterAt : MethodName := ⟨RX5, "hasLetterAt", "(I)Z"⟩
abbrev cX5_hasFigureAt : ByteArray := prog_7_method_5_code
def yX5_hasFigureAt : MethodName := ⟨RX5, "hasFigureAt", "(I)Z"⟩
def RX6 : String := "SpreadGroups$Volume"
def TX6 : u_T := fun k => match k with
  | 0 => ("SpreadGroups$Volume", "layout", "LSpreadGroups$Layout;", true)
  | 1 => ("SpreadGroups$Volume", "map", "LSpreadGroups$FreeMap;", true)
  | 2 => ("SpreadGroups$Volume", "mapDue", "LSpreadGroups$FreeMap;", true)
  | 3 => ("SpreadGroups$Volume", "inodes", "LSpreadGroups$Inodes;", true)
  | 4 => ("SpreadGroups$Volume", "extended", "I", false)
  | _ => ("SpreadGroups$Volume", "moved", "I", false)
def tyX6 : Nat → FieldType := fun k => match k with
  | 0 => .object "SpreadGroups$Layout"
  | 1 => .object "SpreadGroups$FreeMap"
  | 2 => .object "SpreadGroups$FreeMap"
  | 3 => .object "SpreadGroups$Inodes"
  | 4 => .int
  | _ => .int
abbrev wsX60 : List Cond := u_ws RX6 TX6 6
theorem nmX6 : ∀ a, a < 6 → ∀ b, b < 6 → a ≠ b → (TX6 a).2.1 ≠ (TX6 b).2.1 := by decide +kernel
theorem tyX6_ok : ∀ k, k < 6 → parseFieldDescriptor (TX6 k).2.2.1 = some (tyX6 k) := by decide +kernel
abbrev cX6_init : ByteArray := prog_8_method_1_code
def yX6_init : MethodName := ⟨RX6, "<init>", "()V"⟩
abbrev cX6_startAnew : ByteArray := prog_8_method_2_code
def yX6_startAnew : MethodName := ⟨RX6, "startAnew", "([I)V"⟩
abbrev cX6_copyFrom : ByteArray := prog_8_method_3_code
def yX6_copyFrom : MethodName := ⟨RX6, "copyFrom", "(LSpreadGroups$Volume;)V"⟩
abbrev cX6_putAllOf : ByteArray := prog_8_method_4_code
def yX6_putAllOf : MethodName := ⟨RX6, "putAllOf", "(IILSpreadGroups$FreeMap;Z)V"⟩
abbrev cX6_findMapDue : ByteArray := prog_8_method_5_code
def yX6_findMapDue : MethodName := ⟨RX6, "findMapDue", "()V"⟩
abbrev cX6_isSpoilt : ByteArray := prog_8_method_6_code
def yX6_isSpoilt : MethodName := ⟨RX6, "isSpoilt", "()Z"⟩
abbrev cX6_wrongs : ByteArray := prog_8_method_7_code
def yX6_wrongs : MethodName := ⟨RX6, "wrongs", "(Z)I"⟩
abbrev cX6_firstWrong : ByteArray := prog_8_method_8_code
def yX6_firstWrong : MethodName := ⟨RX6, "firstWrong", "()I"⟩
abbrev cX6_mendMap : ByteArray := prog_8_method_9_code
def yX6_mendMap : MethodName := ⟨RX6, "mendMap", "()V"⟩
abbrev cX6_groupFor : ByteArray := prog_8_method_10_code
def yX6_groupFor : MethodName := ⟨RX6, "groupFor", "(II)I"⟩
abbrev cX6_groupForDirectory : ByteArray := prog_8_method_11_code
def yX6_groupForDirectory : MethodName := ⟨RX6, "groupForDirectory", "()I"⟩
abbrev cX6_groupForFile : ByteArray := prog_8_method_12_code
def yX6_groupForFile : MethodName := ⟨RX6, "groupForFile", "(I)I"⟩
abbrev cX6_pairsOf : ByteArray := prog_8_method_13_code
def yX6_pairsOf : MethodName := ⟨RX6, "pairsOf", "(IZ)I"⟩
abbrev cX6_follows : ByteArray := prog_8_method_14_code
def yX6_follows : MethodName := ⟨RX6, "follows", "(II)Z"⟩
abbrev cX6_pairsOfAll : ByteArray := prog_8_method_15_code
def yX6_pairsOfAll : MethodName := ⟨RX6, "pairsOfAll", "(Z)I"⟩
def RX7 : String := "SpreadGroups"
def TX7 : u_T := fun k => match k with
  | 0 => ("SpreadGroups", "volume", "LSpreadGroups$Volume;", true)
  | 1 => ("SpreadGroups", "deeds", "LSpreadGroups$Deeds;", true)
  | 2 => ("SpreadGroups", "tape", "LSpreadGroups$Tape;", true)
  | 3 => ("SpreadGroups", "reader", "LSpreadGroups$Reader;", true)
  | 4 => ("SpreadGroups", "draft", "LSpreadGroups$Volume;", true)
  | 5 => ("SpreadGroups", "draftDeeds", "LSpreadGroups$Deeds;", true)
  | 6 => ("SpreadGroups", "toldDirectories", "[I", true)
  | 7 => ("SpreadGroups", "toldCount", "I", false)
  | 8 => ("SpreadGroups", "latestFault", "I", false)
  | 9 => ("SpreadGroups", "imageZero", "LSpreadGroups$Volume;", true)
  | 10 => ("SpreadGroups", "imageOne", "LSpreadGroups$Volume;", true)
  | 11 => ("SpreadGroups", "hasImageZero", "Z", false)
  | 12 => ("SpreadGroups", "hasImageOne", "Z", false)
  | _ => ("SpreadGroups", "seedNow", "I", false)
def tyX7 : Nat → FieldType := fun k => match k with
  | 0 => .object "SpreadGroups$Volume"
  | 1 => .object "SpreadGroups$Deeds"
  | 2 => .object "SpreadGroups$Tape"
  | 3 => .object "SpreadGroups$Reader"
  | 4 => .object "SpreadGroups$Volume"
  | 5 => .object "SpreadGroups$Deeds"
  | 6 => .array .int
  | 7 => .int
  | 8 => .int
  | 9 => .object "SpreadGroups$Volume"
  | 10 => .object "SpreadGroups$Volume"
  | 11 => .boolean
  | 12 => .boolean
  | _ => .int
abbrev wsX70 : List Cond := u_ws RX7 TX7 14
theorem nmX7 : ∀ a, a < 14 → ∀ b, b < 14 → a ≠ b → (TX7 a).2.1 ≠ (TX7 b).2.1 := by decide +kernel
theorem tyX7_ok : ∀ k, k < 14 → parseFieldDescriptor (TX7 k).2.2.1 = some (tyX7 k) := by decide +kernel
abbrev cX7_init : ByteArray := prog_1_method_1_code
def yX7_init : MethodName := ⟨RX7, "<init>", "()V"⟩
abbrev cX7_feed : ByteArray := prog_1_method_2_code
def yX7_feed : MethodName := ⟨RX7, "feed", "(I)I"⟩
abbrev cX7_end : ByteArray := prog_1_method_3_code
def yX7_end : MethodName := ⟨RX7, "end", "(I)I"⟩
abbrev cX7_text : ByteArray := prog_1_method_4_code
def yX7_text : MethodName := ⟨RX7, "text", "()I"⟩
abbrev cX7_tellLine : ByteArray := prog_1_method_5_code
def yX7_tellLine : MethodName := ⟨RX7, "tellLine", "()Z"⟩
abbrev cX7_toldParent : ByteArray := prog_1_method_6_code
def yX7_toldParent : MethodName := ⟨RX7, "toldParent", "(I)I"⟩
abbrev cX7_noteDirectory : ByteArray := prog_1_method_7_code
def yX7_noteDirectory : MethodName := ⟨RX7, "noteDirectory", "(I)V"⟩
abbrev cX7_fault : ByteArray := prog_1_method_8_code
def yX7_fault : MethodName := ⟨RX7, "fault", "()I"⟩
abbrev cX7_rule : ByteArray := prog_1_method_9_code
def yX7_rule : MethodName := ⟨RX7, "rule", "(I)I"⟩
abbrev cX7_group : ByteArray := prog_1_method_10_code
def yX7_group : MethodName := ⟨RX7, "group", "(II)I"⟩
abbrev cX7_inode : ByteArray := prog_1_method_11_code
def yX7_inode : MethodName := ⟨RX7, "inode", "(II)I"⟩
abbrev cX7_block : ByteArray := prog_1_method_12_code
def yX7_block : MethodName := ⟨RX7, "block", "(II)I"⟩
abbrev cX7_fragment : ByteArray := prog_1_method_13_code
def yX7_fragment : MethodName := ⟨RX7, "fragment", "(II)I"⟩
abbrev cX7_find : ByteArray := prog_1_method_14_code
def yX7_find : MethodName := ⟨RX7, "find", "(II)I"⟩
abbrev cX7_entry : ByteArray := prog_1_method_15_code
def yX7_entry : MethodName := ⟨RX7, "entry", "(II)I"⟩
abbrev cX7_where : ByteArray := prog_1_method_16_code
def yX7_where : MethodName := ⟨RX7, "where", "(II)I"⟩
abbrev cX7_isName : ByteArray := prog_1_method_17_code
def yX7_isName : MethodName := ⟨RX7, "isName", "(I)Z"⟩
abbrev cX7_make : ByteArray := prog_1_method_18_code
def yX7_make : MethodName := ⟨RX7, "make", "(III)I"⟩
abbrev cX7_grow : ByteArray := prog_1_method_19_code
def yX7_grow : MethodName := ⟨RX7, "grow", "(II)I"⟩
abbrev cX7_shrink : ByteArray := prog_1_method_20_code
def yX7_shrink : MethodName := ⟨RX7, "shrink", "(II)I"⟩
abbrev cX7_remove : ByteArray := prog_1_method_21_code
def yX7_remove : MethodName := ⟨RX7, "remove", "(I)I"⟩
abbrev cX7_move : ByteArray := prog_1_method_22_code
def yX7_move : MethodName := ⟨RX7, "move", "(III)I"⟩
abbrev cX7_gather : ByteArray := prog_1_method_23_code
def yX7_gather : MethodName := ⟨RX7, "gather", "(I)I"⟩
abbrev cX7_draw : ByteArray := prog_1_method_24_code
def yX7_draw : MethodName := ⟨RX7, "draw", "(II)I"⟩
abbrev cX7_drawnDeed : ByteArray := prog_1_method_25_code
def yX7_drawnDeed : MethodName := ⟨RX7, "drawnDeed", "()I"⟩
abbrev cX7_drawnNumber : ByteArray := prog_1_method_26_code
def yX7_drawnNumber : MethodName := ⟨RX7, "drawnNumber", "()I"⟩
abbrev cX7_flip : ByteArray := prog_1_method_27_code
def yX7_flip : MethodName := ⟨RX7, "flip", "(I)I"⟩
abbrev cX7_check : ByteArray := prog_1_method_28_code
def yX7_check : MethodName := ⟨RX7, "check", "(I)I"⟩
abbrev cX7_mend : ByteArray := prog_1_method_29_code
def yX7_mend : MethodName := ⟨RX7, "mend", "()I"⟩
abbrev cX7_keep : ByteArray := prog_1_method_30_code
def yX7_keep : MethodName := ⟨RX7, "keep", "(I)I"⟩
abbrev cX7_back : ByteArray := prog_1_method_31_code
def yX7_back : MethodName := ⟨RX7, "back", "(I)I"⟩
abbrev cX7_count : ByteArray := prog_1_method_32_code
def yX7_count : MethodName := ⟨RX7, "count", "(I)I"⟩
abbrev cX7_hasImage : ByteArray := prog_1_method_33_code
def yX7_hasImage : MethodName := ⟨RX7, "hasImage", "(I)Z"⟩
def RX8 : String := "SpreadGroupsModel"
def TX8 : u_T := fun k => match k with
  | 0 => ("SpreadGroupsModel", "st", "[I", true)
  | 1 => ("SpreadGroupsModel", "before", "[I", true)
  | 2 => ("SpreadGroupsModel", "told", "[I", true)
  | 3 => ("SpreadGroupsModel", "kept", "[I", true)
  | 4 => ("SpreadGroupsModel", "isKept", "[Z", true)
  | 5 => ("SpreadGroupsModel", "tape", "[I", true)
  | 6 => ("SpreadGroupsModel", "taped", "I", false)
  | 7 => ("SpreadGroupsModel", "pos", "I", false)
  | 8 => ("SpreadGroupsModel", "begun", "I", false)
  | 9 => ("SpreadGroupsModel", "sort", "I", false)
  | 10 => ("SpreadGroupsModel", "figure", "I", false)
  | 11 => ("SpreadGroupsModel", "fault", "I", false)
  | 12 => ("SpreadGroupsModel", "wrongAt", "I", false)
  | 13 => ("SpreadGroupsModel", "dirs", "[I", true)
  | 14 => ("SpreadGroupsModel", "dirMany", "I", false)
  | _ => ("SpreadGroupsModel", "seeded", "I", false)
def tyX8 : Nat → FieldType := fun k => match k with
  | 0 => .array .int
  | 1 => .array .int
  | 2 => .array .int
  | 3 => .array .int
  | 4 => .array .boolean
  | 5 => .array .int
  | 6 => .int
  | 7 => .int
  | 8 => .int
  | 9 => .int
  | 10 => .int
  | 11 => .int
  | 12 => .int
  | 13 => .array .int
  | 14 => .int
  | _ => .int
abbrev wsX80 : List Cond := u_ws RX8 TX8 16
theorem nmX8 : ∀ a, a < 16 → ∀ b, b < 16 → a ≠ b → (TX8 a).2.1 ≠ (TX8 b).2.1 := by decide +kernel
theorem tyX8_ok : ∀ k, k < 16 → parseFieldDescriptor (TX8 k).2.2.1 = some (tyX8 k) := by decide +kernel
abbrev cX8_init : ByteArray := prog_10_method_1_code
def yX8_init : MethodName := ⟨RX8, "<init>", "()V"⟩
abbrev cX8_in : ByteArray := prog_10_method_3_code
def yX8_in : MethodName := ⟨RX8, "in", "(JJJ)Z"⟩
abbrev cX8_flag : ByteArray := prog_10_method_4_code
def yX8_flag : MethodName := ⟨RX8, "flag", "(Z)I"⟩
abbrev cX8_anew : ByteArray := prog_10_method_5_code
def yX8_anew : MethodName := ⟨RX8, "anew", "()V"⟩
abbrev cX8_forgets : ByteArray := prog_10_method_6_code
def yX8_forgets : MethodName := ⟨RX8, "forgets", "()V"⟩
abbrev cX8_copies : ByteArray := prog_10_method_7_code
def yX8_copies : MethodName := ⟨RX8, "copies", "([I[I)V"⟩
abbrev cX8_feed : ByteArray := prog_10_method_8_code
def yX8_feed : MethodName := ⟨RX8, "feed", "(I)I"⟩
abbrev cX8_end : ByteArray := prog_10_method_9_code
def yX8_end : MethodName := ⟨RX8, "end", "(I)I"⟩
abbrev cX8_requires : ByteArray := prog_10_method_10_code
def yX8_requires : MethodName := ⟨RX8, "requires", "(ZI)V"⟩
abbrev cX8_byteAt : ByteArray := prog_10_method_11_code
def yX8_byteAt : MethodName := ⟨RX8, "byteAt", "(I)I"⟩
abbrev cX8_is : ByteArray := prog_10_method_12_code
def yX8_is : MethodName := ⟨RX8, "is", "(IIIII)Z"⟩
abbrev cX8_lineNow : ByteArray := prog_10_method_13_code
def yX8_lineNow : MethodName := ⟨RX8, "lineNow", "()I"⟩
abbrev cX8_reads : ByteArray := prog_10_method_14_code
def yX8_reads : MethodName := ⟨RX8, "reads", "()V"⟩
abbrev cX8_readNumber : ByteArray := prog_10_method_15_code
def yX8_readNumber : MethodName := ⟨RX8, "readNumber", "(II)I"⟩
abbrev cX8_requiresStop : ByteArray := prog_10_method_16_code
def yX8_requiresStop : MethodName := ⟨RX8, "requiresStop", "()V"⟩
abbrev cX8_readVolume : ByteArray := prog_10_method_17_code
def yX8_readVolume : MethodName := ⟨RX8, "readVolume", "()V"⟩
abbrev cX8_readLine : ByteArray := prog_10_method_18_code
def yX8_readLine : MethodName := ⟨RX8, "readLine", "()V"⟩
abbrev cX8_comes : ByteArray := prog_10_method_19_code
def yX8_comes : MethodName := ⟨RX8, "comes", "(IIII)V"⟩
abbrev cX8_text : ByteArray := prog_10_method_20_code
def yX8_text : MethodName := ⟨RX8, "text", "()I"⟩
abbrev cX8_fault : ByteArray := prog_10_method_21_code
def yX8_fault : MethodName := ⟨RX8, "fault", "()I"⟩
abbrev cX8_fragments : ByteArray := prog_10_method_22_code
def yX8_fragments : MethodName := ⟨RX8, "fragments", "()I"⟩
abbrev cX8_isFree : ByteArray := prog_10_method_23_code
def yX8_isFree : MethodName := ⟨RX8, "isFree", "(I)Z"⟩
abbrev cX8_lets : ByteArray := prog_10_method_24_code
def yX8_lets : MethodName := ⟨RX8, "lets", "(IZ)V"⟩
abbrev cX8_letsAll : ByteArray := prog_10_method_25_code
def yX8_letsAll : MethodName := ⟨RX8, "letsAll", "(IIZ)V"⟩
abbrev cX8_areFree : ByteArray := prog_10_method_26_code
def yX8_areFree : MethodName := ⟨RX8, "areFree", "(II)Z"⟩
abbrev cX8_isFreeBlock : ByteArray := prog_10_method_27_code
def yX8_isFreeBlock : MethodName := ⟨RX8, "isFreeBlock", "(I)Z"⟩
abbrev cX8_freeBlocks : ByteArray := prog_10_method_28_code
def yX8_freeBlocks : MethodName := ⟨RX8, "freeBlocks", "(I)I"⟩
abbrev cX8_allFreeBlocks : ByteArray := prog_10_method_29_code
def yX8_allFreeBlocks : MethodName := ⟨RX8, "allFreeBlocks", "()I"⟩
abbrev cX8_freeIn : ByteArray := prog_10_method_30_code
def yX8_freeIn : MethodName := ⟨RX8, "freeIn", "(II)I"⟩
abbrev cX8_room : ByteArray := prog_10_method_31_code
def yX8_room : MethodName := ⟨RX8, "room", "()I"⟩
abbrev cX8_runAt : ByteArray := prog_10_method_32_code
def yX8_runAt : MethodName := ⟨RX8, "runAt", "(I)I"⟩
abbrev cX8_runs : ByteArray := prog_10_method_33_code
def yX8_runs : MethodName := ⟨RX8, "runs", "(II)I"⟩
abbrev cX8_behind : ByteArray := prog_10_method_34_code
def yX8_behind : MethodName := ⟨RX8, "behind", "(II)I"⟩
abbrev cX8_blockNear : ByteArray := prog_10_method_35_code
def yX8_blockNear : MethodName := ⟨RX8, "blockNear", "(II)I"⟩
abbrev cX8_runIn : ByteArray := prog_10_method_36_code
def yX8_runIn : MethodName := ⟨RX8, "runIn", "(II)I"⟩
abbrev cX8_runNear : ByteArray := prog_10_method_37_code
def yX8_runNear : MethodName := ⟨RX8, "runNear", "(II)I"⟩
abbrev cX8_inodes : ByteArray := prog_10_method_38_code
def yX8_inodes : MethodName := ⟨RX8, "inodes", "()I"⟩
abbrev cX8_isInode : ByteArray := prog_10_method_39_code
def yX8_isInode : MethodName := ⟨RX8, "isInode", "(I)Z"⟩
abbrev cX8_of : ByteArray := prog_10_method_40_code
def yX8_of : MethodName := ⟨RX8, "of", "(II)I"⟩
abbrev cX8_sets : ByteArray := prog_10_method_41_code
def yX8_sets : MethodName := ⟨RX8, "sets", "(III)V"⟩
abbrev cX8_isThere : ByteArray := prog_10_method_42_code
def yX8_isThere : MethodName := ⟨RX8, "isThere", "(I)Z"⟩
abbrev cX8_isDirectory : ByteArray := prog_10_method_43_code
def yX8_isDirectory : MethodName := ⟨RX8, "isDirectory", "(I)Z"⟩
abbrev cX8_isFile : ByteArray := prog_10_method_44_code
def yX8_isFile : MethodName := ⟨RX8, "isFile", "(I)Z"⟩
abbrev cX8_blocks : ByteArray := prog_10_method_45_code
def yX8_blocks : MethodName := ⟨RX8, "blocks", "(I)I"⟩
abbrev cX8_tail : ByteArray := prog_10_method_46_code
def yX8_tail : MethodName := ⟨RX8, "tail", "(I)I"⟩
abbrev cX8_inodesThere : ByteArray := prog_10_method_47_code
def yX8_inodesThere : MethodName := ⟨RX8, "inodesThere", "()I"⟩
abbrev cX8_inodeOf : ByteArray := prog_10_method_48_code
def yX8_inodeOf : MethodName := ⟨RX8, "inodeOf", "(II)I"⟩
abbrev cX8_nothings : ByteArray := prog_10_method_49_code
def yX8_nothings : MethodName := ⟨RX8, "nothings", "(I)I"⟩
abbrev cX8_directories : ByteArray := prog_10_method_50_code
def yX8_directories : MethodName := ⟨RX8, "directories", "(I)I"⟩
abbrev cX8_groupForDirectory : ByteArray := prog_10_method_51_code
def yX8_groupForDirectory : MethodName := ⟨RX8, "groupForDirectory", "()I"⟩
abbrev cX8_groupForFile : ByteArray := prog_10_method_52_code
def yX8_groupForFile : MethodName := ⟨RX8, "groupForFile", "(I)I"⟩
abbrev cX8_groupFor : ByteArray := prog_10_method_53_code
def yX8_groupFor : MethodName := ⟨RX8, "groupFor", "(II)I"⟩
abbrev cX8_owner : ByteArray := prog_10_method_54_code
def yX8_owner : MethodName := ⟨RX8, "owner", "(I)I"⟩
abbrev cX8_isSpoilt : ByteArray := prog_10_method_55_code
def yX8_isSpoilt : MethodName := ⟨RX8, "isSpoilt", "()Z"⟩
abbrev cX8_pairs : ByteArray := prog_10_method_56_code
def yX8_pairs : MethodName := ⟨RX8, "pairs", "(I)I"⟩
abbrev cX8_follows : ByteArray := prog_10_method_57_code
def yX8_follows : MethodName := ⟨RX8, "follows", "(I)I"⟩
abbrev cX8_ofKind : ByteArray := prog_10_method_58_code
def yX8_ofKind : MethodName := ⟨RX8, "ofKind", "(I)I"⟩
abbrev cX8_summed : ByteArray := prog_10_method_59_code
def yX8_summed : MethodName := ⟨RX8, "summed", "(I)I"⟩
abbrev cX8_rule : ByteArray := prog_10_method_60_code
def yX8_rule : MethodName := ⟨RX8, "rule", "(I)I"⟩
abbrev cX8_group : ByteArray := prog_10_method_61_code
def yX8_group : MethodName := ⟨RX8, "group", "(II)I"⟩
abbrev cX8_inode : ByteArray := prog_10_method_62_code
def yX8_inode : MethodName := ⟨RX8, "inode", "(II)I"⟩
abbrev cX8_block : ByteArray := prog_10_method_63_code
def yX8_block : MethodName := ⟨RX8, "block", "(II)I"⟩
abbrev cX8_fragment : ByteArray := prog_10_method_64_code
def yX8_fragment : MethodName := ⟨RX8, "fragment", "(II)I"⟩
abbrev cX8_find : ByteArray := prog_10_method_65_code
def yX8_find : MethodName := ⟨RX8, "find", "(II)I"⟩
abbrev cX8_entry : ByteArray := prog_10_method_66_code
def yX8_entry : MethodName := ⟨RX8, "entry", "(II)I"⟩
abbrev cX8_where : ByteArray := prog_10_method_67_code
def yX8_where : MethodName := ⟨RX8, "where", "(II)I"⟩
abbrev cX8_makes : ByteArray := prog_10_method_68_code
def yX8_makes : MethodName := ⟨RX8, "makes", "(III)I"⟩
abbrev cX8_make : ByteArray := prog_10_method_69_code
def yX8_make : MethodName := ⟨RX8, "make", "(III)I"⟩
abbrev cX8_groupOfBlock : ByteArray := prog_10_method_70_code
def yX8_groupOfBlock : MethodName := ⟨RX8, "groupOfBlock", "(II)I"⟩
abbrev cX8_placeOfBlock : ByteArray := prog_10_method_71_code
def yX8_placeOfBlock : MethodName := ⟨RX8, "placeOfBlock", "(II)I"⟩
abbrev cX8_takesBlock : ByteArray := prog_10_method_72_code
def yX8_takesBlock : MethodName := ⟨RX8, "takesBlock", "(II)Z"⟩
abbrev cX8_takesTail : ByteArray := prog_10_method_73_code
def yX8_takesTail : MethodName := ⟨RX8, "takesTail", "(III)Z"⟩
abbrev cX8_widens : ByteArray := prog_10_method_74_code
def yX8_widens : MethodName := ⟨RX8, "widens", "(III)Z"⟩
abbrev cX8_fills : ByteArray := prog_10_method_75_code
def yX8_fills : MethodName := ⟨RX8, "fills", "(II)Z"⟩
abbrev cX8_canGrow : ByteArray := prog_10_method_76_code
def yX8_canGrow : MethodName := ⟨RX8, "canGrow", "(II)Z"⟩
abbrev cX8_grows : ByteArray := prog_10_method_77_code
def yX8_grows : MethodName := ⟨RX8, "grows", "(II)I"⟩
abbrev cX8_grow : ByteArray := prog_10_method_78_code
def yX8_grow : MethodName := ⟨RX8, "grow", "(II)I"⟩
abbrev cX8_shrink : ByteArray := prog_10_method_79_code
def yX8_shrink : MethodName := ⟨RX8, "shrink", "(II)I"⟩
abbrev cX8_hasOthers : ByteArray := prog_10_method_80_code
def yX8_hasOthers : MethodName := ⟨RX8, "hasOthers", "(I)Z"⟩
abbrev cX8_remove : ByteArray := prog_10_method_81_code
def yX8_remove : MethodName := ⟨RX8, "remove", "(I)I"⟩
abbrev cX8_isWithin : ByteArray := prog_10_method_82_code
def yX8_isWithin : MethodName := ⟨RX8, "isWithin", "(II)Z"⟩
abbrev cX8_farFromRoot : ByteArray := prog_10_method_83_code
def yX8_farFromRoot : MethodName := ⟨RX8, "farFromRoot", "(I)I"⟩
abbrev cX8_move : ByteArray := prog_10_method_84_code
def yX8_move : MethodName := ⟨RX8, "move", "(III)I"⟩
abbrev cX8_isRowFree : ByteArray := prog_10_method_85_code
def yX8_isRowFree : MethodName := ⟨RX8, "isRowFree", "(III)Z"⟩
abbrev cX8_gathers : ByteArray := prog_10_method_86_code
def yX8_gathers : MethodName := ⟨RX8, "gathers", "(III)V"⟩
abbrev cX8_gather : ByteArray := prog_10_method_87_code
def yX8_gather : MethodName := ⟨RX8, "gather", "(I)I"⟩
abbrev cX8_gets : ByteArray := prog_10_method_88_code
def yX8_gets : MethodName := ⟨RX8, "gets", "()I"⟩
abbrev cX8_deed : ByteArray := prog_10_method_89_code
def yX8_deed : MethodName := ⟨RX8, "deed", "(IIII)I"⟩
abbrev cX8_draw : ByteArray := prog_10_method_90_code
def yX8_draw : MethodName := ⟨RX8, "draw", "(II)I"⟩
abbrev cX8_flip : ByteArray := prog_10_method_91_code
def yX8_flip : MethodName := ⟨RX8, "flip", "(I)I"⟩
abbrev cX8_check : ByteArray := prog_10_method_92_code
def yX8_check : MethodName := ⟨RX8, "check", "(I)I"⟩
abbrev cX8_mend : ByteArray := prog_10_method_93_code
def yX8_mend : MethodName := ⟨RX8, "mend", "()I"⟩
abbrev cX8_keep : ByteArray := prog_10_method_94_code
def yX8_keep : MethodName := ⟨RX8, "keep", "(I)I"⟩
abbrev cX8_back : ByteArray := prog_10_method_95_code
def yX8_back : MethodName := ⟨RX8, "back", "(I)I"⟩
abbrev cX8_count : ByteArray := prog_10_method_96_code
def yX8_count : MethodName := ⟨RX8, "count", "(I)I"⟩
def RJ6 : String := "java/lang/Integer"
def TJ6 : u_T := fun k => match k with
  | _ => ("", "", "", false)
def tyJ6 : Nat → FieldType := fun k => match k with
  | _ => .int
abbrev wsJ60 : List Cond := u_ws RJ6 TJ6 0
theorem nmJ6 : ∀ a, a < 0 → ∀ b, b < 0 → a ≠ b → (TJ6 a).2.1 ≠ (TJ6 b).2.1 := by decide +kernel
theorem tyJ6_ok : ∀ k, k < 0 → parseFieldDescriptor (TJ6 k).2.2.1 = some (tyJ6 k) := by decide +kernel
abbrev cJ6_bitCount_0f7a4 : ByteArray := prog_11_method_49_code
def yJ6_bitCount_0f7a4 : MethodName := ⟨RJ6, "bitCount", "(I)I"⟩
def RJ0 : String := "java/lang/String"
def TJ0 : u_T := fun k => match k with
  | _ => ("", "", "", false)
def tyJ0 : Nat → FieldType := fun k => match k with
  | _ => .int
abbrev wsJ00 : List Cond := u_ws RJ0 TJ0 0
theorem nmJ0 : ∀ a, a < 0 → ∀ b, b < 0 → a ≠ b → (TJ0 a).2.1 ≠ (TJ0 b).2.1 := by decide +kernel
theorem tyJ0_ok : ∀ k, k < 0 → parseFieldDescriptor (TJ0 k).2.2.1 = some (tyJ0 k) := by decide +kernel
abbrev cJ0_length_8abf5 : ByteArray := prog_12_method_54_code
def yJ0_length_8abf5 : MethodName := ⟨RJ0, "length", "()I"⟩
abbrev cJ0_charAt_5068e : ByteArray := prog_12_method_56_code
def yJ0_charAt_5068e : MethodName := ⟨RJ0, "charAt", "(I)C"⟩
abbrev cJ0_coder_7d493 : ByteArray := prog_12_method_152_code
def yJ0_coder_7d493 : MethodName := ⟨RJ0, "coder", "()B"⟩
abbrev cJ0_isLatin1_aae02 : ByteArray := prog_12_method_154_code
def yJ0_isLatin1_aae02 : MethodName := ⟨RJ0, "isLatin1", "()Z"⟩
abbrev cJ0_checkIndex_df160 : ByteArray := prog_12_method_155_code
def yJ0_checkIndex_df160 : MethodName := ⟨RJ0, "checkIndex", "(II)V"⟩
def RJ1 : String := "java/lang/StringLatin1"
def TJ1 : u_T := fun k => match k with
  | _ => ("", "", "", false)
def tyJ1 : Nat → FieldType := fun k => match k with
  | _ => .int
abbrev wsJ10 : List Cond := u_ws RJ1 TJ1 0
theorem nmJ1 : ∀ a, a < 0 → ∀ b, b < 0 → a ≠ b → (TJ1 a).2.1 ≠ (TJ1 b).2.1 := by decide +kernel
theorem tyJ1_ok : ∀ k, k < 0 → parseFieldDescriptor (TJ1 k).2.2.1 = some (tyJ1 k) := by decide +kernel
abbrev cJ1_charAt_3b067 : ByteArray := prog_13_method_2_code
def yJ1_charAt_3b067 : MethodName := ⟨RJ1, "charAt", "([BI)C"⟩
def RJ2 : String := "java/lang/StringUTF16"
def TJ2 : u_T := fun k => match k with
  | _ => ("", "", "", false)
def tyJ2 : Nat → FieldType := fun k => match k with
  | _ => .int
abbrev wsJ20 : List Cond := u_ws RJ2 TJ2 0
theorem nmJ2 : ∀ a, a < 0 → ∀ b, b < 0 → a ≠ b → (TJ2 a).2.1 ≠ (TJ2 b).2.1 := by decide +kernel
theorem tyJ2_ok : ∀ k, k < 0 → parseFieldDescriptor (TJ2 k).2.2.1 = some (tyJ2 k) := by decide +kernel
abbrev cJ2_getChar_3b067 : ByteArray := prog_14_method_5_code
def yJ2_getChar_3b067 : MethodName := ⟨RJ2, "getChar", "([BI)C"⟩
abbrev cJ2_length_9d52b : ByteArray := prog_14_method_6_code
def yJ2_length_9d52b : MethodName := ⟨RJ2, "length", "([B)I"⟩
abbrev cJ2_charAt_3b067 : ByteArray := prog_14_method_83_code
def yJ2_charAt_3b067 : MethodName := ⟨RJ2, "charAt", "([BI)C"⟩
abbrev cJ2_checkIndex_2214a : ByteArray := prog_14_method_91_code
def yJ2_checkIndex_2214a : MethodName := ⟨RJ2, "checkIndex", "(I[B)V"⟩
def RJ10 : String := "java/lang/System"
def TJ10 : u_T := fun k => match k with
  | _ => ("", "", "", false)
def tyJ10 : Nat → FieldType := fun k => match k with
  | _ => .int
abbrev wsJ100 : List Cond := u_ws RJ10 TJ10 0
theorem nmJ10 : ∀ a, a < 0 → ∀ b, b < 0 → a ≠ b → (TJ10 a).2.1 ≠ (TJ10 b).2.1 := by decide +kernel
theorem tyJ10_ok : ∀ k, k < 0 → parseFieldDescriptor (TJ10 k).2.2.1 = some (tyJ10 k) := by decide +kernel
def RJ3 : String := "jdk/internal/util/Preconditions"
def TJ3 : u_T := fun k => match k with
  | _ => ("", "", "", false)
def tyJ3 : Nat → FieldType := fun k => match k with
  | _ => .int
abbrev wsJ30 : List Cond := u_ws RJ3 TJ3 0
theorem nmJ3 : ∀ a, a < 0 → ∀ b, b < 0 → a ≠ b → (TJ3 a).2.1 ≠ (TJ3 b).2.1 := by decide +kernel
theorem tyJ3_ok : ∀ k, k < 0 → parseFieldDescriptor (TJ3 k).2.2.1 = some (tyJ3 k) := by decide +kernel
abbrev cJ3_checkIndex_8e157 : ByteArray := prog_16_method_11_code
def yJ3_checkIndex_8e157 : MethodName := ⟨RJ3, "checkIndex", "(IILjava/util/function/BiFunction;)I"⟩
def RL : String := "SpreadGroupsLaw"
abbrev cL_law : ByteArray := code
def yL_law : MethodName := ⟨RL, "law", "([I)Z"⟩
abbrev vwCl : List vw_C := [(RX0, TX0, 5), (RX1, TX1, 2), (RX2, TX2, 7), (RX3, TX3, 6), (RX4, TX4, 9), (RX5, TX5, 2), (RX6, TX6, 6), (RX7, TX7, 14), (RX8, TX8, 16)]
end
section
theorem dJ0_length_8abf5_0 : decode cJ0_length_8abf5 0 = .ok (.aload_n 0, 1) := by decide +kernel
theorem dJ0_length_8abf5_1 : decode cJ0_length_8abf5 1 = .ok (.getfield 9, 3) := by decide +kernel
theorem dJ0_length_8abf5_4 : decode cJ0_length_8abf5 4 = .ok (.arraylength, 1) := by decide +kernel
theorem dJ0_length_8abf5_5 : decode cJ0_length_8abf5 5 = .ok (.aload_n 0, 1) := by decide +kernel
theorem dJ0_length_8abf5_6 : decode cJ0_length_8abf5 6 = .ok (.invokevirtual 335, 3) := by decide +kernel
theorem dJ0_length_8abf5_9 : decode cJ0_length_8abf5 9 = .ok (.ishr, 1) := by decide +kernel
theorem dJ0_length_8abf5_10 : decode cJ0_length_8abf5 10 = .ok (.ireturn, 1) := by decide +kernel
theorem dJ0_charAt_5068e_0 : decode cJ0_charAt_5068e 0 = .ok (.aload_n 0, 1) := by decide +kernel
theorem dJ0_charAt_5068e_1 : decode cJ0_charAt_5068e 1 = .ok (.invokevirtual 492, 3) := by decide +kernel
theorem dJ0_charAt_5068e_4 : decode cJ0_charAt_5068e 4 = .ok (.ifCond .eq 12, 3) := by decide +kernel
theorem dJ0_charAt_5068e_7 : decode cJ0_charAt_5068e 7 = .ok (.aload_n 0, 1) := by decide +kernel
theorem dJ0_charAt_5068e_8 : decode cJ0_charAt_5068e 8 = .ok (.getfield 9, 3) := by decide +kernel
theorem dJ0_charAt_5068e_11 : decode cJ0_charAt_5068e 11 = .ok (.iload_n 1, 1) := by decide +kernel
theorem dJ0_charAt_5068e_12 : decode cJ0_charAt_5068e 12 = .ok (.invokestatic 495, 3) := by decide +kernel
theorem dJ0_charAt_5068e_15 : decode cJ0_charAt_5068e 15 = .ok (.ireturn, 1) := by decide +kernel
theorem dJ0_charAt_5068e_16 : decode cJ0_charAt_5068e 16 = .ok (.aload_n 0, 1) := by decide +kernel
theorem dJ0_charAt_5068e_17 : decode cJ0_charAt_5068e 17 = .ok (.getfield 9, 3) := by decide +kernel
theorem dJ0_charAt_5068e_20 : decode cJ0_charAt_5068e 20 = .ok (.iload_n 1, 1) := by decide +kernel
theorem dJ0_charAt_5068e_21 : decode cJ0_charAt_5068e 21 = .ok (.invokestatic 498, 3) := by decide +kernel
theorem dJ0_charAt_5068e_24 : decode cJ0_charAt_5068e 24 = .ok (.ireturn, 1) := by decide +kernel
theorem dJ0_coder_7d493_0 : decode cJ0_coder_7d493 0 = .ok (.getstatic 38, 3) := by decide +kernel
theorem dJ0_coder_7d493_3 : decode cJ0_coder_7d493 3 = .ok (.ifCond .eq 10, 3) := by decide +kernel
theorem dJ0_coder_7d493_6 : decode cJ0_coder_7d493 6 = .ok (.aload_n 0, 1) := by decide +kernel
theorem dJ0_coder_7d493_7 : decode cJ0_coder_7d493 7 = .ok (.getfield 15, 3) := by decide +kernel
theorem dJ0_coder_7d493_10 : decode cJ0_coder_7d493 10 = .ok (.goto 4, 3) := by decide +kernel
theorem dJ0_coder_7d493_13 : decode cJ0_coder_7d493 13 = .ok (.iconst 1, 1) := by decide +kernel
theorem dJ0_coder_7d493_14 : decode cJ0_coder_7d493 14 = .ok (.ireturn, 1) := by decide +kernel
theorem dJ0_isLatin1_aae02_0 : decode cJ0_isLatin1_aae02 0 = .ok (.getstatic 38, 3) := by decide +kernel
theorem dJ0_isLatin1_aae02_3 : decode cJ0_isLatin1_aae02 3 = .ok (.ifCond .eq 14, 3) := by decide +kernel
theorem dJ0_isLatin1_aae02_6 : decode cJ0_isLatin1_aae02 6 = .ok (.aload_n 0, 1) := by decide +kernel
theorem dJ0_isLatin1_aae02_7 : decode cJ0_isLatin1_aae02 7 = .ok (.getfield 15, 3) := by decide +kernel
theorem dJ0_isLatin1_aae02_10 : decode cJ0_isLatin1_aae02 10 = .ok (.ifCond .ne 7, 3) := by decide +kernel
theorem dJ0_isLatin1_aae02_13 : decode cJ0_isLatin1_aae02 13 = .ok (.iconst 1, 1) := by decide +kernel
theorem dJ0_isLatin1_aae02_14 : decode cJ0_isLatin1_aae02 14 = .ok (.goto 4, 3) := by decide +kernel
theorem dJ0_isLatin1_aae02_17 : decode cJ0_isLatin1_aae02 17 = .ok (.iconst 0, 1) := by decide +kernel
theorem dJ0_isLatin1_aae02_18 : decode cJ0_isLatin1_aae02 18 = .ok (.ireturn, 1) := by decide +kernel
theorem dJ0_checkIndex_df160_0 : decode cJ0_checkIndex_df160 0 = .ok (.iload_n 0, 1) := by decide +kernel
theorem dJ0_checkIndex_df160_1 : decode cJ0_checkIndex_df160 1 = .ok (.iload_n 1, 1) := by decide +kernel
theorem dJ0_checkIndex_df160_2 : decode cJ0_checkIndex_df160 2 = .ok (.getstatic 1053, 3) := by decide +kernel
theorem dJ0_checkIndex_df160_5 : decode cJ0_checkIndex_df160 5 = .ok (.invokestatic 1059, 3) := by decide +kernel
theorem dJ0_checkIndex_df160_8 : decode cJ0_checkIndex_df160 8 = .ok (.pop, 1) := by decide +kernel
theorem dJ0_checkIndex_df160_9 : decode cJ0_checkIndex_df160 9 = .ok (.return_, 1) := by decide +kernel
theorem dJ1_charAt_3b067_0 : decode cJ1_charAt_3b067 0 = .ok (.iload_n 1, 1) := by decide +kernel
theorem dJ1_charAt_3b067_1 : decode cJ1_charAt_3b067 1 = .ok (.aload_n 0, 1) := by decide +kernel
theorem dJ1_charAt_3b067_2 : decode cJ1_charAt_3b067 2 = .ok (.arraylength, 1) := by decide +kernel
theorem dJ1_charAt_3b067_3 : decode cJ1_charAt_3b067 3 = .ok (.invokestatic 9, 3) := by decide +kernel
theorem dJ1_charAt_3b067_6 : decode cJ1_charAt_3b067 6 = .ok (.aload_n 0, 1) := by decide +kernel
theorem dJ1_charAt_3b067_7 : decode cJ1_charAt_3b067 7 = .ok (.iload_n 1, 1) := by decide +kernel
theorem dJ1_charAt_3b067_8 : decode cJ1_charAt_3b067 8 = .ok (.baload, 1) := by decide +kernel
theorem dJ1_charAt_3b067_9 : decode cJ1_charAt_3b067 9 = .ok (.sipush 255, 3) := by decide +kernel
theorem dJ1_charAt_3b067_12 : decode cJ1_charAt_3b067 12 = .ok (.iand, 1) := by decide +kernel
theorem dJ1_charAt_3b067_13 : decode cJ1_charAt_3b067 13 = .ok (.i2c, 1) := by decide +kernel
theorem dJ1_charAt_3b067_14 : decode cJ1_charAt_3b067 14 = .ok (.ireturn, 1) := by decide +kernel
theorem dJ2_getChar_3b067_0 : decode cJ2_getChar_3b067 0 = .ok (.getstatic 44, 3) := by decide +kernel
theorem dJ2_getChar_3b067_3 : decode cJ2_getChar_3b067 3 = .ok (.ifCond .ne 25, 3) := by decide +kernel
theorem dJ2_getChar_3b067_6 : decode cJ2_getChar_3b067 6 = .ok (.iload_n 1, 1) := by decide +kernel
theorem dJ2_getChar_3b067_7 : decode cJ2_getChar_3b067 7 = .ok (.ifCond .lt 11, 3) := by decide +kernel
theorem dJ2_getChar_3b067_10 : decode cJ2_getChar_3b067 10 = .ok (.iload_n 1, 1) := by decide +kernel
theorem dJ2_getChar_3b067_11 : decode cJ2_getChar_3b067 11 = .ok (.aload_n 0, 1) := by decide +kernel
theorem dJ2_getChar_3b067_12 : decode cJ2_getChar_3b067 12 = .ok (.invokestatic 48, 3) := by decide +kernel
theorem dJ2_getChar_3b067_15 : decode cJ2_getChar_3b067 15 = .ok (.if_icmp .lt 13, 3) := by decide +kernel
theorem dJ2_getChar_3b067_18 : decode cJ2_getChar_3b067 18 = .ok (.new 52, 3) := by decide +kernel
theorem dJ2_getChar_3b067_21 : decode cJ2_getChar_3b067 21 = .ok (.dup, 1) := by decide +kernel
theorem dJ2_getChar_3b067_22 : decode cJ2_getChar_3b067 22 = .ok (.ldc 54, 2) := by decide +kernel
theorem dJ2_getChar_3b067_24 : decode cJ2_getChar_3b067 24 = .ok (.invokespecial 56, 3) := by decide +kernel
theorem dJ2_getChar_3b067_27 : decode cJ2_getChar_3b067 27 = .ok (.athrow, 1) := by decide +kernel
theorem dJ2_getChar_3b067_28 : decode cJ2_getChar_3b067 28 = .ok (.iload_n 1, 1) := by decide +kernel
theorem dJ2_getChar_3b067_29 : decode cJ2_getChar_3b067 29 = .ok (.iconst 1, 1) := by decide +kernel
theorem dJ2_getChar_3b067_30 : decode cJ2_getChar_3b067 30 = .ok (.ishl, 1) := by decide +kernel
theorem dJ2_getChar_3b067_31 : decode cJ2_getChar_3b067 31 = .ok (.istore_n 1, 1) := by decide +kernel
theorem dJ2_getChar_3b067_32 : decode cJ2_getChar_3b067 32 = .ok (.aload_n 0, 1) := by decide +kernel
theorem dJ2_getChar_3b067_33 : decode cJ2_getChar_3b067 33 = .ok (.iload_n 1, 1) := by decide +kernel
theorem dJ2_getChar_3b067_34 : decode cJ2_getChar_3b067 34 = .ok (.iinc 1 1, 3) := by decide +kernel
theorem dJ2_getChar_3b067_37 : decode cJ2_getChar_3b067 37 = .ok (.baload, 1) := by decide +kernel
theorem dJ2_getChar_3b067_38 : decode cJ2_getChar_3b067 38 = .ok (.sipush 255, 3) := by decide +kernel
theorem dJ2_getChar_3b067_41 : decode cJ2_getChar_3b067 41 = .ok (.iand, 1) := by decide +kernel
theorem dJ2_getChar_3b067_42 : decode cJ2_getChar_3b067 42 = .ok (.getstatic 59, 3) := by decide +kernel
theorem dJ2_getChar_3b067_45 : decode cJ2_getChar_3b067 45 = .ok (.ishl, 1) := by decide +kernel
theorem dJ2_getChar_3b067_46 : decode cJ2_getChar_3b067 46 = .ok (.aload_n 0, 1) := by decide +kernel
theorem dJ2_getChar_3b067_47 : decode cJ2_getChar_3b067 47 = .ok (.iload_n 1, 1) := by decide +kernel
theorem dJ2_getChar_3b067_48 : decode cJ2_getChar_3b067 48 = .ok (.baload, 1) := by decide +kernel
theorem dJ2_getChar_3b067_49 : decode cJ2_getChar_3b067 49 = .ok (.sipush 255, 3) := by decide +kernel
theorem dJ2_getChar_3b067_52 : decode cJ2_getChar_3b067 52 = .ok (.iand, 1) := by decide +kernel
theorem dJ2_getChar_3b067_53 : decode cJ2_getChar_3b067 53 = .ok (.getstatic 63, 3) := by decide +kernel
theorem dJ2_getChar_3b067_56 : decode cJ2_getChar_3b067 56 = .ok (.ishl, 1) := by decide +kernel
theorem dJ2_getChar_3b067_57 : decode cJ2_getChar_3b067 57 = .ok (.ior, 1) := by decide +kernel
theorem dJ2_getChar_3b067_58 : decode cJ2_getChar_3b067 58 = .ok (.i2c, 1) := by decide +kernel
theorem dJ2_getChar_3b067_59 : decode cJ2_getChar_3b067 59 = .ok (.ireturn, 1) := by decide +kernel
theorem dJ2_length_9d52b_0 : decode cJ2_length_9d52b 0 = .ok (.aload_n 0, 1) := by decide +kernel
theorem dJ2_length_9d52b_1 : decode cJ2_length_9d52b 1 = .ok (.arraylength, 1) := by decide +kernel
theorem dJ2_length_9d52b_2 : decode cJ2_length_9d52b 2 = .ok (.iconst 1, 1) := by decide +kernel
theorem dJ2_length_9d52b_3 : decode cJ2_length_9d52b 3 = .ok (.ishr, 1) := by decide +kernel
theorem dJ2_length_9d52b_4 : decode cJ2_length_9d52b 4 = .ok (.ireturn, 1) := by decide +kernel
theorem dJ2_charAt_3b067_0 : decode cJ2_charAt_3b067 0 = .ok (.iload_n 1, 1) := by decide +kernel
theorem dJ2_charAt_3b067_1 : decode cJ2_charAt_3b067 1 = .ok (.aload_n 0, 1) := by decide +kernel
theorem dJ2_charAt_3b067_2 : decode cJ2_charAt_3b067 2 = .ok (.invokestatic 67, 3) := by decide +kernel
theorem dJ2_charAt_3b067_5 : decode cJ2_charAt_3b067 5 = .ok (.aload_n 0, 1) := by decide +kernel
theorem dJ2_charAt_3b067_6 : decode cJ2_charAt_3b067 6 = .ok (.iload_n 1, 1) := by decide +kernel
theorem dJ2_charAt_3b067_7 : decode cJ2_charAt_3b067 7 = .ok (.invokestatic 71, 3) := by decide +kernel
theorem dJ2_charAt_3b067_10 : decode cJ2_charAt_3b067 10 = .ok (.ireturn, 1) := by decide +kernel
theorem dJ2_checkIndex_2214a_0 : decode cJ2_checkIndex_2214a 0 = .ok (.iload_n 0, 1) := by decide +kernel
theorem dJ2_checkIndex_2214a_1 : decode cJ2_checkIndex_2214a 1 = .ok (.aload_n 1, 1) := by decide +kernel
theorem dJ2_checkIndex_2214a_2 : decode cJ2_checkIndex_2214a 2 = .ok (.invokestatic 48, 3) := by decide +kernel
theorem dJ2_checkIndex_2214a_5 : decode cJ2_checkIndex_2214a 5 = .ok (.invokestatic 414, 3) := by decide +kernel
theorem dJ2_checkIndex_2214a_8 : decode cJ2_checkIndex_2214a 8 = .ok (.return_, 1) := by decide +kernel
theorem dJ3_checkIndex_8e157_0 : decode cJ3_checkIndex_8e157 0 = .ok (.iload_n 0, 1) := by decide +kernel
theorem dJ3_checkIndex_8e157_1 : decode cJ3_checkIndex_8e157 1 = .ok (.ifCond .lt 8, 3) := by decide +kernel
theorem dJ3_checkIndex_8e157_4 : decode cJ3_checkIndex_8e157 4 = .ok (.iload_n 0, 1) := by decide +kernel
theorem dJ3_checkIndex_8e157_5 : decode cJ3_checkIndex_8e157 5 = .ok (.iload_n 1, 1) := by decide +kernel
theorem dJ3_checkIndex_8e157_6 : decode cJ3_checkIndex_8e157 6 = .ok (.if_icmp .lt 10, 3) := by decide +kernel
theorem dJ3_checkIndex_8e157_9 : decode cJ3_checkIndex_8e157 9 = .ok (.aload_n 2, 1) := by decide +kernel
theorem dJ3_checkIndex_8e157_10 : decode cJ3_checkIndex_8e157 10 = .ok (.iload_n 0, 1) := by decide +kernel
theorem dJ3_checkIndex_8e157_11 : decode cJ3_checkIndex_8e157 11 = .ok (.iload_n 1, 1) := by decide +kernel
theorem dJ3_checkIndex_8e157_12 : decode cJ3_checkIndex_8e157 12 = .ok (.invokestatic 95, 3) := by decide +kernel
theorem dJ3_checkIndex_8e157_15 : decode cJ3_checkIndex_8e157 15 = .ok (.athrow, 1) := by decide +kernel
theorem dJ3_checkIndex_8e157_16 : decode cJ3_checkIndex_8e157 16 = .ok (.iload_n 0, 1) := by decide +kernel
theorem dJ3_checkIndex_8e157_17 : decode cJ3_checkIndex_8e157 17 = .ok (.ireturn, 1) := by decide +kernel
theorem dJ6_bitCount_0f7a4_0 : decode cJ6_bitCount_0f7a4 0 = .ok (.iload_n 0, 1) := by decide +kernel
theorem dJ6_bitCount_0f7a4_1 : decode cJ6_bitCount_0f7a4 1 = .ok (.iload_n 0, 1) := by decide +kernel
theorem dJ6_bitCount_0f7a4_2 : decode cJ6_bitCount_0f7a4 2 = .ok (.iconst 1, 1) := by decide +kernel
theorem dJ6_bitCount_0f7a4_3 : decode cJ6_bitCount_0f7a4 3 = .ok (.iushr, 1) := by decide +kernel
theorem dJ6_bitCount_0f7a4_4 : decode cJ6_bitCount_0f7a4 4 = .ok (.ldc_w 265, 3) := by decide +kernel
theorem dJ6_bitCount_0f7a4_7 : decode cJ6_bitCount_0f7a4 7 = .ok (.iand, 1) := by decide +kernel
theorem dJ6_bitCount_0f7a4_8 : decode cJ6_bitCount_0f7a4 8 = .ok (.isub, 1) := by decide +kernel
theorem dJ6_bitCount_0f7a4_9 : decode cJ6_bitCount_0f7a4 9 = .ok (.istore_n 0, 1) := by decide +kernel
theorem dJ6_bitCount_0f7a4_10 : decode cJ6_bitCount_0f7a4 10 = .ok (.iload_n 0, 1) := by decide +kernel
theorem dJ6_bitCount_0f7a4_11 : decode cJ6_bitCount_0f7a4 11 = .ok (.ldc_w 266, 3) := by decide +kernel
theorem dJ6_bitCount_0f7a4_14 : decode cJ6_bitCount_0f7a4 14 = .ok (.iand, 1) := by decide +kernel
theorem dJ6_bitCount_0f7a4_15 : decode cJ6_bitCount_0f7a4 15 = .ok (.iload_n 0, 1) := by decide +kernel
theorem dJ6_bitCount_0f7a4_16 : decode cJ6_bitCount_0f7a4 16 = .ok (.iconst 2, 1) := by decide +kernel
theorem dJ6_bitCount_0f7a4_17 : decode cJ6_bitCount_0f7a4 17 = .ok (.iushr, 1) := by decide +kernel
theorem dJ6_bitCount_0f7a4_18 : decode cJ6_bitCount_0f7a4 18 = .ok (.ldc_w 266, 3) := by decide +kernel
theorem dJ6_bitCount_0f7a4_21 : decode cJ6_bitCount_0f7a4 21 = .ok (.iand, 1) := by decide +kernel
theorem dJ6_bitCount_0f7a4_22 : decode cJ6_bitCount_0f7a4 22 = .ok (.iadd, 1) := by decide +kernel
theorem dJ6_bitCount_0f7a4_23 : decode cJ6_bitCount_0f7a4 23 = .ok (.istore_n 0, 1) := by decide +kernel
theorem dJ6_bitCount_0f7a4_24 : decode cJ6_bitCount_0f7a4 24 = .ok (.iload_n 0, 1) := by decide +kernel
theorem dJ6_bitCount_0f7a4_25 : decode cJ6_bitCount_0f7a4 25 = .ok (.iload_n 0, 1) := by decide +kernel
theorem dJ6_bitCount_0f7a4_26 : decode cJ6_bitCount_0f7a4 26 = .ok (.iconst 4, 1) := by decide +kernel
theorem dJ6_bitCount_0f7a4_27 : decode cJ6_bitCount_0f7a4 27 = .ok (.iushr, 1) := by decide +kernel
theorem dJ6_bitCount_0f7a4_28 : decode cJ6_bitCount_0f7a4 28 = .ok (.iadd, 1) := by decide +kernel
theorem dJ6_bitCount_0f7a4_29 : decode cJ6_bitCount_0f7a4 29 = .ok (.ldc_w 267, 3) := by decide +kernel
theorem dJ6_bitCount_0f7a4_32 : decode cJ6_bitCount_0f7a4 32 = .ok (.iand, 1) := by decide +kernel
theorem dJ6_bitCount_0f7a4_33 : decode cJ6_bitCount_0f7a4 33 = .ok (.istore_n 0, 1) := by decide +kernel
theorem dJ6_bitCount_0f7a4_34 : decode cJ6_bitCount_0f7a4 34 = .ok (.iload_n 0, 1) := by decide +kernel
theorem dJ6_bitCount_0f7a4_35 : decode cJ6_bitCount_0f7a4 35 = .ok (.iload_n 0, 1) := by decide +kernel
theorem dJ6_bitCount_0f7a4_36 : decode cJ6_bitCount_0f7a4 36 = .ok (.bipush 8, 2) := by decide +kernel
theorem dJ6_bitCount_0f7a4_38 : decode cJ6_bitCount_0f7a4 38 = .ok (.iushr, 1) := by decide +kernel
theorem dJ6_bitCount_0f7a4_39 : decode cJ6_bitCount_0f7a4 39 = .ok (.iadd, 1) := by decide +kernel
theorem dJ6_bitCount_0f7a4_40 : decode cJ6_bitCount_0f7a4 40 = .ok (.istore_n 0, 1) := by decide +kernel
theorem dJ6_bitCount_0f7a4_41 : decode cJ6_bitCount_0f7a4 41 = .ok (.iload_n 0, 1) := by decide +kernel
theorem dJ6_bitCount_0f7a4_42 : decode cJ6_bitCount_0f7a4 42 = .ok (.iload_n 0, 1) := by decide +kernel
theorem dJ6_bitCount_0f7a4_43 : decode cJ6_bitCount_0f7a4 43 = .ok (.bipush 16, 2) := by decide +kernel
theorem dJ6_bitCount_0f7a4_45 : decode cJ6_bitCount_0f7a4 45 = .ok (.iushr, 1) := by decide +kernel
theorem dJ6_bitCount_0f7a4_46 : decode cJ6_bitCount_0f7a4 46 = .ok (.iadd, 1) := by decide +kernel
theorem dJ6_bitCount_0f7a4_47 : decode cJ6_bitCount_0f7a4 47 = .ok (.istore_n 0, 1) := by decide +kernel
theorem dJ6_bitCount_0f7a4_48 : decode cJ6_bitCount_0f7a4 48 = .ok (.iload_n 0, 1) := by decide +kernel
theorem dJ6_bitCount_0f7a4_49 : decode cJ6_bitCount_0f7a4 49 = .ok (.bipush 63, 2) := by decide +kernel
theorem dJ6_bitCount_0f7a4_51 : decode cJ6_bitCount_0f7a4 51 = .ok (.iand, 1) := by decide +kernel
theorem dJ6_bitCount_0f7a4_52 : decode cJ6_bitCount_0f7a4 52 = .ok (.ireturn, 1) := by decide +kernel
theorem dX0_init_0 : decode cX0_init 0 = .ok (.aload_n 0, 1) := by decide +kernel
theorem dX0_init_1 : decode cX0_init 1 = .ok (.invokespecial 3, 3) := by decide +kernel
theorem dX0_init_4 : decode cX0_init 4 = .ok (.aload_n 0, 1) := by decide +kernel
theorem dX0_init_5 : decode cX0_init 5 = .ok (.aload_n 1, 1) := by decide +kernel
theorem dX0_init_6 : decode cX0_init 6 = .ok (.putfield 9, 3) := by decide +kernel
theorem dX0_init_9 : decode cX0_init 9 = .ok (.aload_n 0, 1) := by decide +kernel
theorem dX0_init_10 : decode cX0_init 10 = .ok (.aload_n 1, 1) := by decide +kernel
theorem dX0_init_11 : decode cX0_init 11 = .ok (.getfield 15, 3) := by decide +kernel
theorem dX0_init_14 : decode cX0_init 14 = .ok (.putfield 21, 3) := by decide +kernel
theorem dX0_init_17 : decode cX0_init 17 = .ok (.aload_n 0, 1) := by decide +kernel
theorem dX0_init_18 : decode cX0_init 18 = .ok (.aload_n 1, 1) := by decide +kernel
theorem dX0_init_19 : decode cX0_init 19 = .ok (.getfield 22, 3) := by decide +kernel
theorem dX0_init_22 : decode cX0_init 22 = .ok (.putfield 26, 3) := by decide +kernel
theorem dX0_init_25 : decode cX0_init 25 = .ok (.aload_n 0, 1) := by decide +kernel
theorem dX0_init_26 : decode cX0_init 26 = .ok (.aload_n 1, 1) := by decide +kernel
theorem dX0_init_27 : decode cX0_init 27 = .ok (.getfield 27, 3) := by decide +kernel
theorem dX0_init_30 : decode cX0_init 30 = .ok (.putfield 31, 3) := by decide +kernel
theorem dX0_init_33 : decode cX0_init 33 = .ok (.aload_n 0, 1) := by decide +kernel
theorem dX0_init_34 : decode cX0_init 34 = .ok (.new 32, 3) := by decide +kernel
theorem dX0_init_37 : decode cX0_init 37 = .ok (.dup, 1) := by decide +kernel
theorem dX0_init_38 : decode cX0_init 38 = .ok (.aload_n 1, 1) := by decide +kernel
theorem dX0_init_39 : decode cX0_init 39 = .ok (.getfield 15, 3) := by decide +kernel
theorem dX0_init_42 : decode cX0_init 42 = .ok (.invokespecial 34, 3) := by decide +kernel
theorem dX0_init_45 : decode cX0_init 45 = .ok (.putfield 37, 3) := by decide +kernel
theorem dX0_init_48 : decode cX0_init 48 = .ok (.return_, 1) := by decide +kernel
theorem dX0_makeInode_0 : decode cX0_makeInode 0 = .ok (.aload_n 0, 1) := by decide +kernel
theorem dX0_makeInode_1 : decode cX0_makeInode 1 = .ok (.getfield 31, 3) := by decide +kernel
theorem dX0_makeInode_4 : decode cX0_makeInode 4 = .ok (.iload_n 1, 1) := by decide +kernel
theorem dX0_makeInode_5 : decode cX0_makeInode 5 = .ok (.invokevirtual 40, 3) := by decide +kernel
theorem dX0_makeInode_8 : decode cX0_makeInode 8 = .ok (.iconst 1, 1) := by decide +kernel
theorem dX0_makeInode_9 : decode cX0_makeInode 9 = .ok (.if_icmp .ne 20, 3) := by decide +kernel
theorem dX0_makeInode_12 : decode cX0_makeInode 12 = .ok (.iload_n 2, 1) := by decide +kernel
theorem dX0_makeInode_13 : decode cX0_makeInode 13 = .ok (.invokestatic 46, 3) := by decide +kernel
theorem dX0_makeInode_16 : decode cX0_makeInode 16 = .ok (.ifCond .eq 13, 3) := by decide +kernel
theorem dX0_makeInode_19 : decode cX0_makeInode 19 = .ok (.iload_n 3, 1) := by decide +kernel
theorem dX0_makeInode_20 : decode cX0_makeInode 20 = .ok (.iconst 1, 1) := by decide +kernel
theorem dX0_makeInode_21 : decode cX0_makeInode 21 = .ok (.if_icmp .eq 10, 3) := by decide +kernel
theorem dX0_makeInode_24 : decode cX0_makeInode 24 = .ok (.iload_n 3, 1) := by decide +kernel
theorem dX0_makeInode_25 : decode cX0_makeInode 25 = .ok (.iconst 2, 1) := by decide +kernel
theorem dX0_makeInode_26 : decode cX0_makeInode 26 = .ok (.if_icmp .eq 5, 3) := by decide +kernel
theorem dX0_makeInode_29 : decode cX0_makeInode 29 = .ok (.iconst (-1), 1) := by decide +kernel
theorem dX0_makeInode_30 : decode cX0_makeInode 30 = .ok (.ireturn, 1) := by decide +kernel
theorem dX0_makeInode_31 : decode cX0_makeInode 31 = .ok (.aload_n 0, 1) := by decide +kernel
theorem dX0_makeInode_32 : decode cX0_makeInode 32 = .ok (.getfield 9, 3) := by decide +kernel
theorem dX0_makeInode_35 : decode cX0_makeInode 35 = .ok (.invokevirtual 50, 3) := by decide +kernel
theorem dX0_makeInode_38 : decode cX0_makeInode 38 = .ok (.ifCond .ne 17, 3) := by decide +kernel
theorem dX0_makeInode_41 : decode cX0_makeInode 41 = .ok (.aload_n 0, 1) := by decide +kernel
theorem dX0_makeInode_42 : decode cX0_makeInode 42 = .ok (.getfield 31, 3) := by decide +kernel
theorem dX0_makeInode_45 : decode cX0_makeInode 45 = .ok (.iload_n 1, 1) := by decide +kernel
theorem dX0_makeInode_46 : decode cX0_makeInode 46 = .ok (.iload_n 2, 1) := by decide +kernel
theorem dX0_makeInode_47 : decode cX0_makeInode 47 = .ok (.invokevirtual 54, 3) := by decide +kernel
theorem dX0_makeInode_50 : decode cX0_makeInode 50 = .ok (.bipush (-4), 2) := by decide +kernel
theorem dX0_makeInode_52 : decode cX0_makeInode 52 = .ok (.if_icmp .eq 6, 3) := by decide +kernel
theorem dX0_makeInode_55 : decode cX0_makeInode 55 = .ok (.bipush (-2), 2) := by decide +kernel
theorem dX0_makeInode_57 : decode cX0_makeInode 57 = .ok (.ireturn, 1) := by decide +kernel
theorem dX0_makeInode_58 : decode cX0_makeInode 58 = .ok (.aload_n 0, 1) := by decide +kernel
theorem dX0_makeInode_59 : decode cX0_makeInode 59 = .ok (.getfield 9, 3) := by decide +kernel
theorem dX0_makeInode_62 : decode cX0_makeInode 62 = .ok (.iload_n 1, 1) := by decide +kernel
theorem dX0_makeInode_63 : decode cX0_makeInode 63 = .ok (.iload_n 3, 1) := by decide +kernel
theorem dX0_makeInode_64 : decode cX0_makeInode 64 = .ok (.invokevirtual 58, 3) := by decide +kernel
theorem dX0_makeInode_67 : decode cX0_makeInode 67 = .ok (.istore 4, 2) := by decide +kernel
theorem dX0_makeInode_69 : decode cX0_makeInode 69 = .ok (.iload 4, 2) := by decide +kernel
theorem dX0_makeInode_71 : decode cX0_makeInode 71 = .ok (.bipush (-4), 2) := by decide +kernel
theorem dX0_makeInode_73 : decode cX0_makeInode 73 = .ok (.if_icmp .eq 16, 3) := by decide +kernel
theorem dX0_makeInode_76 : decode cX0_makeInode 76 = .ok (.iload_n 3, 1) := by decide +kernel
theorem dX0_makeInode_77 : decode cX0_makeInode 77 = .ok (.iconst 1, 1) := by decide +kernel
theorem dX0_makeInode_78 : decode cX0_makeInode 78 = .ok (.if_icmp .ne 14, 3) := by decide +kernel
theorem dX0_makeInode_81 : decode cX0_makeInode 81 = .ok (.aload_n 0, 1) := by decide +kernel
theorem dX0_makeInode_82 : decode cX0_makeInode 82 = .ok (.iconst 1, 1) := by decide +kernel
theorem dX0_makeInode_83 : decode cX0_makeInode 83 = .ok (.invokevirtual 61, 3) := by decide +kernel
theorem dX0_makeInode_86 : decode cX0_makeInode 86 = .ok (.ifCond .eq 6, 3) := by decide +kernel
theorem dX0_makeInode_89 : decode cX0_makeInode 89 = .ok (.bipush (-3), 2) := by decide +kernel
theorem dX0_makeInode_91 : decode cX0_makeInode 91 = .ok (.ireturn, 1) := by decide +kernel
theorem dX0_makeInode_92 : decode cX0_makeInode 92 = .ok (.aload_n 0, 1) := by decide +kernel
theorem dX0_makeInode_93 : decode cX0_makeInode 93 = .ok (.getfield 31, 3) := by decide +kernel
theorem dX0_makeInode_96 : decode cX0_makeInode 96 = .ok (.iload 4, 2) := by decide +kernel
theorem dX0_makeInode_98 : decode cX0_makeInode 98 = .ok (.invokevirtual 64, 3) := by decide +kernel
theorem dX0_makeInode_101 : decode cX0_makeInode 101 = .ok (.istore 5, 2) := by decide +kernel
theorem dX0_makeInode_103 : decode cX0_makeInode 103 = .ok (.iload_n 3, 1) := by decide +kernel
theorem dX0_makeInode_104 : decode cX0_makeInode 104 = .ok (.iconst 1, 1) := by decide +kernel
theorem dX0_makeInode_105 : decode cX0_makeInode 105 = .ok (.if_icmp .ne 16, 3) := by decide +kernel
theorem dX0_makeInode_108 : decode cX0_makeInode 108 = .ok (.aload_n 0, 1) := by decide +kernel
theorem dX0_makeInode_109 : decode cX0_makeInode 109 = .ok (.getfield 26, 3) := by decide +kernel
theorem dX0_makeInode_112 : decode cX0_makeInode 112 = .ok (.iload 4, 2) := by decide +kernel
theorem dX0_makeInode_114 : decode cX0_makeInode 114 = .ok (.iconst 1, 1) := by decide +kernel
theorem dX0_makeInode_115 : decode cX0_makeInode 115 = .ok (.invokevirtual 67, 3) := by decide +kernel
theorem dX0_makeInode_118 : decode cX0_makeInode 118 = .ok (.goto 5, 3) := by decide +kernel
theorem dX0_makeInode_121 : decode cX0_makeInode 121 = .ok (.bipush (-4), 2) := by decide +kernel
theorem dX0_makeInode_123 : decode cX0_makeInode 123 = .ok (.istore 6, 2) := by decide +kernel
theorem dX0_makeInode_125 : decode cX0_makeInode 125 = .ok (.aload_n 0, 1) := by decide +kernel
theorem dX0_makeInode_126 : decode cX0_makeInode 126 = .ok (.getfield 31, 3) := by decide +kernel
theorem dX0_makeInode_129 : decode cX0_makeInode 129 = .ok (.iload 5, 2) := by decide +kernel
theorem dX0_makeInode_131 : decode cX0_makeInode 131 = .ok (.iload_n 3, 1) := by decide +kernel
theorem dX0_makeInode_132 : decode cX0_makeInode 132 = .ok (.iload_n 1, 1) := by decide +kernel
theorem dX0_makeInode_133 : decode cX0_makeInode 133 = .ok (.iload_n 2, 1) := by decide +kernel
theorem dX0_makeInode_134 : decode cX0_makeInode 134 = .ok (.invokevirtual 70, 3) := by decide +kernel
theorem dX0_makeInode_137 : decode cX0_makeInode 137 = .ok (.aload_n 0, 1) := by decide +kernel
theorem dX0_makeInode_138 : decode cX0_makeInode 138 = .ok (.getfield 31, 3) := by decide +kernel
theorem dX0_makeInode_141 : decode cX0_makeInode 141 = .ok (.iload 5, 2) := by decide +kernel
theorem dX0_makeInode_143 : decode cX0_makeInode 143 = .ok (.iload_n 3, 1) := by decide +kernel
theorem dX0_makeInode_144 : decode cX0_makeInode 144 = .ok (.iconst 1, 1) := by decide +kernel
theorem dX0_makeInode_145 : decode cX0_makeInode 145 = .ok (.if_icmp .ne 7, 3) := by decide +kernel
theorem dX0_makeInode_148 : decode cX0_makeInode 148 = .ok (.iconst 1, 1) := by decide +kernel
theorem dX0_makeInode_149 : decode cX0_makeInode 149 = .ok (.goto 4, 3) := by decide +kernel
theorem dX0_makeInode_152 : decode cX0_makeInode 152 = .ok (.iconst 0, 1) := by decide +kernel
theorem dX0_makeInode_153 : decode cX0_makeInode 153 = .ok (.iload 6, 2) := by decide +kernel
theorem dX0_makeInode_155 : decode cX0_makeInode 155 = .ok (.invokevirtual 74, 3) := by decide +kernel
theorem dX0_makeInode_158 : decode cX0_makeInode 158 = .ok (.iload 5, 2) := by decide +kernel
theorem dX0_makeInode_160 : decode cX0_makeInode 160 = .ok (.ireturn, 1) := by decide +kernel
theorem dX0_lacksRoomFor_0 : decode cX0_lacksRoomFor 0 = .ok (.aload_n 0, 1) := by decide +kernel
theorem dX0_lacksRoomFor_1 : decode cX0_lacksRoomFor 1 = .ok (.getfield 26, 3) := by decide +kernel
theorem dX0_lacksRoomFor_4 : decode cX0_lacksRoomFor 4 = .ok (.invokevirtual 78, 3) := by decide +kernel
theorem dX0_lacksRoomFor_7 : decode cX0_lacksRoomFor 7 = .ok (.iload_n 1, 1) := by decide +kernel
theorem dX0_lacksRoomFor_8 : decode cX0_lacksRoomFor 8 = .ok (.isub, 1) := by decide +kernel
theorem dX0_lacksRoomFor_9 : decode cX0_lacksRoomFor 9 = .ok (.aload_n 0, 1) := by decide +kernel
theorem dX0_lacksRoomFor_10 : decode cX0_lacksRoomFor 10 = .ok (.getfield 21, 3) := by decide +kernel
theorem dX0_lacksRoomFor_13 : decode cX0_lacksRoomFor 13 = .ok (.getfield 82, 3) := by decide +kernel
theorem dX0_lacksRoomFor_16 : decode cX0_lacksRoomFor 16 = .ok (.if_icmp .ge 7, 3) := by decide +kernel
theorem dX0_lacksRoomFor_19 : decode cX0_lacksRoomFor 19 = .ok (.iconst 1, 1) := by decide +kernel
theorem dX0_lacksRoomFor_20 : decode cX0_lacksRoomFor 20 = .ok (.goto 4, 3) := by decide +kernel
theorem dX0_lacksRoomFor_23 : decode cX0_lacksRoomFor 23 = .ok (.iconst 0, 1) := by decide +kernel
theorem dX0_lacksRoomFor_24 : decode cX0_lacksRoomFor 24 = .ok (.ireturn, 1) := by decide +kernel
theorem dX0_growFile_0 : decode cX0_growFile 0 = .ok (.aload_n 0, 1) := by decide +kernel
theorem dX0_growFile_1 : decode cX0_growFile 1 = .ok (.getfield 31, 3) := by decide +kernel
theorem dX0_growFile_4 : decode cX0_growFile 4 = .ok (.iload_n 1, 1) := by decide +kernel
theorem dX0_growFile_5 : decode cX0_growFile 5 = .ok (.invokevirtual 40, 3) := by decide +kernel
theorem dX0_growFile_8 : decode cX0_growFile 8 = .ok (.iconst 2, 1) := by decide +kernel
theorem dX0_growFile_9 : decode cX0_growFile 9 = .ok (.if_icmp .ne 14, 3) := by decide +kernel
theorem dX0_growFile_12 : decode cX0_growFile 12 = .ok (.iload_n 2, 1) := by decide +kernel
theorem dX0_growFile_13 : decode cX0_growFile 13 = .ok (.iconst 1, 1) := by decide +kernel
theorem dX0_growFile_14 : decode cX0_growFile 14 = .ok (.if_icmp .lt 9, 3) := by decide +kernel
theorem dX0_growFile_17 : decode cX0_growFile 17 = .ok (.iload_n 2, 1) := by decide +kernel
theorem dX0_growFile_18 : decode cX0_growFile 18 = .ok (.bipush 40, 2) := by decide +kernel
theorem dX0_growFile_20 : decode cX0_growFile 20 = .ok (.if_icmp .le 5, 3) := by decide +kernel
theorem dX0_growFile_23 : decode cX0_growFile 23 = .ok (.iconst (-1), 1) := by decide +kernel
theorem dX0_growFile_24 : decode cX0_growFile 24 = .ok (.ireturn, 1) := by decide +kernel
theorem dX0_growFile_25 : decode cX0_growFile 25 = .ok (.aload_n 0, 1) := by decide +kernel
theorem dX0_growFile_26 : decode cX0_growFile 26 = .ok (.getfield 9, 3) := by decide +kernel
theorem dX0_growFile_29 : decode cX0_growFile 29 = .ok (.invokevirtual 50, 3) := by decide +kernel
theorem dX0_growFile_32 : decode cX0_growFile 32 = .ok (.ifCond .eq 6, 3) := by decide +kernel
theorem dX0_growFile_35 : decode cX0_growFile 35 = .ok (.bipush (-2), 2) := by decide +kernel
theorem dX0_growFile_37 : decode cX0_growFile 37 = .ok (.ireturn, 1) := by decide +kernel
theorem dX0_growFile_38 : decode cX0_growFile 38 = .ok (.aload_n 0, 1) := by decide +kernel
theorem dX0_growFile_39 : decode cX0_growFile 39 = .ok (.getfield 31, 3) := by decide +kernel
theorem dX0_growFile_42 : decode cX0_growFile 42 = .ok (.iload_n 1, 1) := by decide +kernel
theorem dX0_growFile_43 : decode cX0_growFile 43 = .ok (.invokevirtual 88, 3) := by decide +kernel
theorem dX0_growFile_46 : decode cX0_growFile 46 = .ok (.iload_n 2, 1) := by decide +kernel
theorem dX0_growFile_47 : decode cX0_growFile 47 = .ok (.iadd, 1) := by decide +kernel
theorem dX0_growFile_48 : decode cX0_growFile 48 = .ok (.istore_n 3, 1) := by decide +kernel
theorem dX0_growFile_49 : decode cX0_growFile 49 = .ok (.iload_n 3, 1) := by decide +kernel
theorem dX0_growFile_50 : decode cX0_growFile 50 = .ok (.bipush 40, 2) := by decide +kernel
theorem dX0_growFile_52 : decode cX0_growFile 52 = .ok (.if_icmp .gt 11, 3) := by decide +kernel
theorem dX0_growFile_55 : decode cX0_growFile 55 = .ok (.aload_n 0, 1) := by decide +kernel
theorem dX0_growFile_56 : decode cX0_growFile 56 = .ok (.iload_n 2, 1) := by decide +kernel
theorem dX0_growFile_57 : decode cX0_growFile 57 = .ok (.invokevirtual 61, 3) := by decide +kernel
theorem dX0_growFile_60 : decode cX0_growFile 60 = .ok (.ifCond .eq 6, 3) := by decide +kernel
theorem dX0_growFile_63 : decode cX0_growFile 63 = .ok (.bipush (-3), 2) := by decide +kernel
theorem dX0_growFile_65 : decode cX0_growFile 65 = .ok (.ireturn, 1) := by decide +kernel
theorem dX0_growFile_66 : decode cX0_growFile 66 = .ok (.aload_n 0, 1) := by decide +kernel
theorem dX0_growFile_67 : decode cX0_growFile 67 = .ok (.getfield 37, 3) := by decide +kernel
theorem dX0_growFile_70 : decode cX0_growFile 70 = .ok (.aload_n 0, 1) := by decide +kernel
theorem dX0_growFile_71 : decode cX0_growFile 71 = .ok (.getfield 26, 3) := by decide +kernel
theorem dX0_growFile_74 : decode cX0_growFile 74 = .ok (.invokevirtual 91, 3) := by decide +kernel
theorem dX0_growFile_77 : decode cX0_growFile 77 = .ok (.iload_n 3, 1) := by decide +kernel
theorem dX0_growFile_78 : decode cX0_growFile 78 = .ok (.iconst 4, 1) := by decide +kernel
theorem dX0_growFile_79 : decode cX0_growFile 79 = .ok (.idiv, 1) := by decide +kernel
theorem dX0_growFile_80 : decode cX0_growFile 80 = .ok (.aload_n 0, 1) := by decide +kernel
theorem dX0_growFile_81 : decode cX0_growFile 81 = .ok (.getfield 31, 3) := by decide +kernel
theorem dX0_growFile_84 : decode cX0_growFile 84 = .ok (.iload_n 1, 1) := by decide +kernel
theorem dX0_growFile_85 : decode cX0_growFile 85 = .ok (.invokevirtual 95, 3) := by decide +kernel
theorem dX0_growFile_88 : decode cX0_growFile 88 = .ok (.if_icmp .ne 12, 3) := by decide +kernel
theorem dX0_growFile_91 : decode cX0_growFile 91 = .ok (.aload_n 0, 1) := by decide +kernel
theorem dX0_growFile_92 : decode cX0_growFile 92 = .ok (.iload_n 1, 1) := by decide +kernel
theorem dX0_growFile_93 : decode cX0_growFile 93 = .ok (.iload_n 3, 1) := by decide +kernel
theorem dX0_growFile_94 : decode cX0_growFile 94 = .ok (.invokevirtual 98, 3) := by decide +kernel
theorem dX0_growFile_97 : decode cX0_growFile 97 = .ok (.goto 9, 3) := by decide +kernel
theorem dX0_growFile_100 : decode cX0_growFile 100 = .ok (.aload_n 0, 1) := by decide +kernel
theorem dX0_growFile_101 : decode cX0_growFile 101 = .ok (.iload_n 1, 1) := by decide +kernel
theorem dX0_growFile_102 : decode cX0_growFile 102 = .ok (.iload_n 3, 1) := by decide +kernel
theorem dX0_growFile_103 : decode cX0_growFile 103 = .ok (.invokevirtual 102, 3) := by decide +kernel
theorem dX0_growFile_106 : decode cX0_growFile 106 = .ok (.istore 4, 2) := by decide +kernel
theorem dX0_growFile_108 : decode cX0_growFile 108 = .ok (.iload 4, 2) := by decide +kernel
theorem dX0_growFile_110 : decode cX0_growFile 110 = .ok (.ifCond .ne 17, 3) := by decide +kernel
theorem dX0_growFile_113 : decode cX0_growFile 113 = .ok (.aload_n 0, 1) := by decide +kernel
theorem dX0_growFile_114 : decode cX0_growFile 114 = .ok (.getfield 26, 3) := by decide +kernel
theorem dX0_growFile_117 : decode cX0_growFile 117 = .ok (.aload_n 0, 1) := by decide +kernel
theorem dX0_growFile_118 : decode cX0_growFile 118 = .ok (.getfield 37, 3) := by decide +kernel
theorem dX0_growFile_121 : decode cX0_growFile 121 = .ok (.invokevirtual 91, 3) := by decide +kernel
theorem dX0_growFile_124 : decode cX0_growFile 124 = .ok (.bipush (-3), 2) := by decide +kernel
theorem dX0_growFile_126 : decode cX0_growFile 126 = .ok (.ireturn, 1) := by decide +kernel
theorem dX0_growFile_127 : decode cX0_growFile 127 = .ok (.iload_n 3, 1) := by decide +kernel
theorem dX0_growFile_128 : decode cX0_growFile 128 = .ok (.ireturn, 1) := by decide +kernel
theorem dX0_layTail_0 : decode cX0_layTail 0 = .ok (.aload_n 0, 1) := by decide +kernel
theorem dX0_layTail_1 : decode cX0_layTail 1 = .ok (.getfield 31, 3) := by decide +kernel
theorem dX0_layTail_4 : decode cX0_layTail 4 = .ok (.iload_n 1, 1) := by decide +kernel
theorem dX0_layTail_5 : decode cX0_layTail 5 = .ok (.invokevirtual 105, 3) := by decide +kernel
theorem dX0_layTail_8 : decode cX0_layTail 8 = .ok (.istore_n 3, 1) := by decide +kernel
theorem dX0_layTail_9 : decode cX0_layTail 9 = .ok (.aload_n 0, 1) := by decide +kernel
theorem dX0_layTail_10 : decode cX0_layTail 10 = .ok (.getfield 31, 3) := by decide +kernel
theorem dX0_layTail_13 : decode cX0_layTail 13 = .ok (.iload_n 1, 1) := by decide +kernel
theorem dX0_layTail_14 : decode cX0_layTail 14 = .ok (.invokevirtual 108, 3) := by decide +kernel
theorem dX0_layTail_17 : decode cX0_layTail 17 = .ok (.istore 4, 2) := by decide +kernel
theorem dX0_layTail_19 : decode cX0_layTail 19 = .ok (.iload_n 2, 1) := by decide +kernel
theorem dX0_layTail_20 : decode cX0_layTail 20 = .ok (.iconst 4, 1) := by decide +kernel
theorem dX0_layTail_21 : decode cX0_layTail 21 = .ok (.irem, 1) := by decide +kernel
theorem dX0_layTail_22 : decode cX0_layTail 22 = .ok (.iload_n 3, 1) := by decide +kernel
theorem dX0_layTail_23 : decode cX0_layTail 23 = .ok (.isub, 1) := by decide +kernel
theorem dX0_layTail_24 : decode cX0_layTail 24 = .ok (.istore 5, 2) := by decide +kernel
theorem dX0_layTail_26 : decode cX0_layTail 26 = .ok (.iload_n 3, 1) := by decide +kernel
theorem dX0_layTail_27 : decode cX0_layTail 27 = .ok (.ifCond .le 20, 3) := by decide +kernel
theorem dX0_layTail_30 : decode cX0_layTail 30 = .ok (.iload 4, 2) := by decide +kernel
theorem dX0_layTail_32 : decode cX0_layTail 32 = .ok (.iconst 4, 1) := by decide +kernel
theorem dX0_layTail_33 : decode cX0_layTail 33 = .ok (.irem, 1) := by decide +kernel
theorem dX0_layTail_34 : decode cX0_layTail 34 = .ok (.iload_n 3, 1) := by decide +kernel
theorem dX0_layTail_35 : decode cX0_layTail 35 = .ok (.iadd, 1) := by decide +kernel
theorem dX0_layTail_36 : decode cX0_layTail 36 = .ok (.iload 5, 2) := by decide +kernel
theorem dX0_layTail_38 : decode cX0_layTail 38 = .ok (.iadd, 1) := by decide +kernel
theorem dX0_layTail_39 : decode cX0_layTail 39 = .ok (.iconst 4, 1) := by decide +kernel
theorem dX0_layTail_40 : decode cX0_layTail 40 = .ok (.if_icmp .gt 7, 3) := by decide +kernel
theorem dX0_layTail_43 : decode cX0_layTail 43 = .ok (.iconst 1, 1) := by decide +kernel
theorem dX0_layTail_44 : decode cX0_layTail 44 = .ok (.goto 4, 3) := by decide +kernel
theorem dX0_layTail_47 : decode cX0_layTail 47 = .ok (.iconst 0, 1) := by decide +kernel
theorem dX0_layTail_48 : decode cX0_layTail 48 = .ok (.istore 6, 2) := by decide +kernel
theorem dX0_layTail_50 : decode cX0_layTail 50 = .ok (.iload 6, 2) := by decide +kernel
theorem dX0_layTail_52 : decode cX0_layTail 52 = .ok (.ifCond .eq 59, 3) := by decide +kernel
theorem dX0_layTail_55 : decode cX0_layTail 55 = .ok (.aload_n 0, 1) := by decide +kernel
theorem dX0_layTail_56 : decode cX0_layTail 56 = .ok (.getfield 26, 3) := by decide +kernel
theorem dX0_layTail_59 : decode cX0_layTail 59 = .ok (.iload 4, 2) := by decide +kernel
theorem dX0_layTail_61 : decode cX0_layTail 61 = .ok (.iload_n 3, 1) := by decide +kernel
theorem dX0_layTail_62 : decode cX0_layTail 62 = .ok (.iadd, 1) := by decide +kernel
theorem dX0_layTail_63 : decode cX0_layTail 63 = .ok (.iload 5, 2) := by decide +kernel
theorem dX0_layTail_65 : decode cX0_layTail 65 = .ok (.invokevirtual 111, 3) := by decide +kernel
theorem dX0_layTail_68 : decode cX0_layTail 68 = .ok (.ifCond .eq 43, 3) := by decide +kernel
theorem dX0_layTail_71 : decode cX0_layTail 71 = .ok (.aload_n 0, 1) := by decide +kernel
theorem dX0_layTail_72 : decode cX0_layTail 72 = .ok (.getfield 26, 3) := by decide +kernel
theorem dX0_layTail_75 : decode cX0_layTail 75 = .ok (.iload 4, 2) := by decide +kernel
theorem dX0_layTail_77 : decode cX0_layTail 77 = .ok (.iload_n 3, 1) := by decide +kernel
theorem dX0_layTail_78 : decode cX0_layTail 78 = .ok (.iadd, 1) := by decide +kernel
theorem dX0_layTail_79 : decode cX0_layTail 79 = .ok (.iload 5, 2) := by decide +kernel
theorem dX0_layTail_81 : decode cX0_layTail 81 = .ok (.iconst 0, 1) := by decide +kernel
theorem dX0_layTail_82 : decode cX0_layTail 82 = .ok (.invokevirtual 114, 3) := by decide +kernel
theorem dX0_layTail_85 : decode cX0_layTail 85 = .ok (.aload_n 0, 1) := by decide +kernel
theorem dX0_layTail_86 : decode cX0_layTail 86 = .ok (.getfield 9, 3) := by decide +kernel
theorem dX0_layTail_89 : decode cX0_layTail 89 = .ok (.dup, 1) := by decide +kernel
theorem dX0_layTail_90 : decode cX0_layTail 90 = .ok (.getfield 118, 3) := by decide +kernel
theorem dX0_layTail_93 : decode cX0_layTail 93 = .ok (.iconst 1, 1) := by decide +kernel
theorem dX0_layTail_94 : decode cX0_layTail 94 = .ok (.iadd, 1) := by decide +kernel
theorem dX0_layTail_95 : decode cX0_layTail 95 = .ok (.putfield 118, 3) := by decide +kernel
theorem dX0_layTail_98 : decode cX0_layTail 98 = .ok (.aload_n 0, 1) := by decide +kernel
theorem dX0_layTail_99 : decode cX0_layTail 99 = .ok (.getfield 31, 3) := by decide +kernel
theorem dX0_layTail_102 : decode cX0_layTail 102 = .ok (.iload_n 1, 1) := by decide +kernel
theorem dX0_layTail_103 : decode cX0_layTail 103 = .ok (.iload_n 2, 1) := by decide +kernel
theorem dX0_layTail_104 : decode cX0_layTail 104 = .ok (.iload 4, 2) := by decide +kernel
theorem dX0_layTail_106 : decode cX0_layTail 106 = .ok (.invokevirtual 74, 3) := by decide +kernel
theorem dX0_layTail_109 : decode cX0_layTail 109 = .ok (.iconst 1, 1) := by decide +kernel
theorem dX0_layTail_110 : decode cX0_layTail 110 = .ok (.ireturn, 1) := by decide +kernel
theorem dX0_layTail_111 : decode cX0_layTail 111 = .ok (.aload_n 0, 1) := by decide +kernel
theorem dX0_layTail_112 : decode cX0_layTail 112 = .ok (.getfield 26, 3) := by decide +kernel
theorem dX0_layTail_115 : decode cX0_layTail 115 = .ok (.aload_n 0, 1) := by decide +kernel
theorem dX0_layTail_116 : decode cX0_layTail 116 = .ok (.iload_n 1, 1) := by decide +kernel
theorem dX0_layTail_117 : decode cX0_layTail 117 = .ok (.aload_n 0, 1) := by decide +kernel
theorem dX0_layTail_118 : decode cX0_layTail 118 = .ok (.getfield 31, 3) := by decide +kernel
theorem dX0_layTail_121 : decode cX0_layTail 121 = .ok (.iload_n 1, 1) := by decide +kernel
theorem dX0_layTail_122 : decode cX0_layTail 122 = .ok (.invokevirtual 95, 3) := by decide +kernel
theorem dX0_layTail_125 : decode cX0_layTail 125 = .ok (.invokevirtual 121, 3) := by decide +kernel
theorem dX0_layTail_128 : decode cX0_layTail 128 = .ok (.iload_n 2, 1) := by decide +kernel
theorem dX0_layTail_129 : decode cX0_layTail 129 = .ok (.iconst 4, 1) := by decide +kernel
theorem dX0_layTail_130 : decode cX0_layTail 130 = .ok (.irem, 1) := by decide +kernel
theorem dX0_layTail_131 : decode cX0_layTail 131 = .ok (.invokevirtual 67, 3) := by decide +kernel
theorem dX0_layTail_134 : decode cX0_layTail 134 = .ok (.istore 7, 2) := by decide +kernel
theorem dX0_layTail_136 : decode cX0_layTail 136 = .ok (.iload 7, 2) := by decide +kernel
theorem dX0_layTail_138 : decode cX0_layTail 138 = .ok (.bipush (-4), 2) := by decide +kernel
theorem dX0_layTail_140 : decode cX0_layTail 140 = .ok (.if_icmp .ne 5, 3) := by decide +kernel
theorem dX0_layTail_143 : decode cX0_layTail 143 = .ok (.iconst 0, 1) := by decide +kernel
theorem dX0_layTail_144 : decode cX0_layTail 144 = .ok (.ireturn, 1) := by decide +kernel
theorem dX0_layTail_145 : decode cX0_layTail 145 = .ok (.iload_n 3, 1) := by decide +kernel
theorem dX0_layTail_146 : decode cX0_layTail 146 = .ok (.ifCond .le 27, 3) := by decide +kernel
theorem dX0_layTail_149 : decode cX0_layTail 149 = .ok (.aload_n 0, 1) := by decide +kernel
theorem dX0_layTail_150 : decode cX0_layTail 150 = .ok (.getfield 26, 3) := by decide +kernel
theorem dX0_layTail_153 : decode cX0_layTail 153 = .ok (.iload 4, 2) := by decide +kernel
theorem dX0_layTail_155 : decode cX0_layTail 155 = .ok (.iload_n 3, 1) := by decide +kernel
theorem dX0_layTail_156 : decode cX0_layTail 156 = .ok (.iconst 1, 1) := by decide +kernel
theorem dX0_layTail_157 : decode cX0_layTail 157 = .ok (.invokevirtual 114, 3) := by decide +kernel
theorem dX0_layTail_160 : decode cX0_layTail 160 = .ok (.aload_n 0, 1) := by decide +kernel
theorem dX0_layTail_161 : decode cX0_layTail 161 = .ok (.getfield 9, 3) := by decide +kernel
theorem dX0_layTail_164 : decode cX0_layTail 164 = .ok (.dup, 1) := by decide +kernel
theorem dX0_layTail_165 : decode cX0_layTail 165 = .ok (.getfield 124, 3) := by decide +kernel
theorem dX0_layTail_168 : decode cX0_layTail 168 = .ok (.iconst 1, 1) := by decide +kernel
theorem dX0_layTail_169 : decode cX0_layTail 169 = .ok (.iadd, 1) := by decide +kernel
theorem dX0_layTail_170 : decode cX0_layTail 170 = .ok (.putfield 124, 3) := by decide +kernel
theorem dX0_layTail_173 : decode cX0_layTail 173 = .ok (.aload_n 0, 1) := by decide +kernel
theorem dX0_layTail_174 : decode cX0_layTail 174 = .ok (.getfield 31, 3) := by decide +kernel
theorem dX0_layTail_177 : decode cX0_layTail 177 = .ok (.iload_n 1, 1) := by decide +kernel
theorem dX0_layTail_178 : decode cX0_layTail 178 = .ok (.iload_n 2, 1) := by decide +kernel
theorem dX0_layTail_179 : decode cX0_layTail 179 = .ok (.iload 7, 2) := by decide +kernel
theorem dX0_layTail_181 : decode cX0_layTail 181 = .ok (.invokevirtual 74, 3) := by decide +kernel
theorem dX0_layTail_184 : decode cX0_layTail 184 = .ok (.iconst 1, 1) := by decide +kernel
theorem dX0_layTail_185 : decode cX0_layTail 185 = .ok (.ireturn, 1) := by decide +kernel
theorem dX0_layBlocks_0 : decode cX0_layBlocks 0 = .ok (.aload_n 0, 1) := by decide +kernel
theorem dX0_layBlocks_1 : decode cX0_layBlocks 1 = .ok (.getfield 31, 3) := by decide +kernel
theorem dX0_layBlocks_4 : decode cX0_layBlocks 4 = .ok (.iload_n 1, 1) := by decide +kernel
theorem dX0_layBlocks_5 : decode cX0_layBlocks 5 = .ok (.invokevirtual 105, 3) := by decide +kernel
theorem dX0_layBlocks_8 : decode cX0_layBlocks 8 = .ok (.istore_n 3, 1) := by decide +kernel
theorem dX0_layBlocks_9 : decode cX0_layBlocks 9 = .ok (.aload_n 0, 1) := by decide +kernel
theorem dX0_layBlocks_10 : decode cX0_layBlocks 10 = .ok (.getfield 31, 3) := by decide +kernel
theorem dX0_layBlocks_13 : decode cX0_layBlocks 13 = .ok (.iload_n 1, 1) := by decide +kernel
theorem dX0_layBlocks_14 : decode cX0_layBlocks 14 = .ok (.invokevirtual 108, 3) := by decide +kernel
theorem dX0_layBlocks_17 : decode cX0_layBlocks 17 = .ok (.istore 4, 2) := by decide +kernel
theorem dX0_layBlocks_19 : decode cX0_layBlocks 19 = .ok (.aload_n 0, 1) := by decide +kernel
theorem dX0_layBlocks_20 : decode cX0_layBlocks 20 = .ok (.getfield 31, 3) := by decide +kernel
theorem dX0_layBlocks_23 : decode cX0_layBlocks 23 = .ok (.iload_n 1, 1) := by decide +kernel
theorem dX0_layBlocks_24 : decode cX0_layBlocks 24 = .ok (.invokevirtual 95, 3) := by decide +kernel
theorem dX0_layBlocks_27 : decode cX0_layBlocks 27 = .ok (.istore 5, 2) := by decide +kernel
theorem dX0_layBlocks_29 : decode cX0_layBlocks 29 = .ok (.iload_n 3, 1) := by decide +kernel
theorem dX0_layBlocks_30 : decode cX0_layBlocks 30 = .ok (.ifCond .le 31, 3) := by decide +kernel
theorem dX0_layBlocks_33 : decode cX0_layBlocks 33 = .ok (.iload 4, 2) := by decide +kernel
theorem dX0_layBlocks_35 : decode cX0_layBlocks 35 = .ok (.iconst 4, 1) := by decide +kernel
theorem dX0_layBlocks_36 : decode cX0_layBlocks 36 = .ok (.irem, 1) := by decide +kernel
theorem dX0_layBlocks_37 : decode cX0_layBlocks 37 = .ok (.ifCond .ne 24, 3) := by decide +kernel
theorem dX0_layBlocks_40 : decode cX0_layBlocks 40 = .ok (.aload_n 0, 1) := by decide +kernel
theorem dX0_layBlocks_41 : decode cX0_layBlocks 41 = .ok (.getfield 26, 3) := by decide +kernel
theorem dX0_layBlocks_44 : decode cX0_layBlocks 44 = .ok (.iload 4, 2) := by decide +kernel
theorem dX0_layBlocks_46 : decode cX0_layBlocks 46 = .ok (.iload_n 3, 1) := by decide +kernel
theorem dX0_layBlocks_47 : decode cX0_layBlocks 47 = .ok (.iadd, 1) := by decide +kernel
theorem dX0_layBlocks_48 : decode cX0_layBlocks 48 = .ok (.iconst 4, 1) := by decide +kernel
theorem dX0_layBlocks_49 : decode cX0_layBlocks 49 = .ok (.iload_n 3, 1) := by decide +kernel
theorem dX0_layBlocks_50 : decode cX0_layBlocks 50 = .ok (.isub, 1) := by decide +kernel
theorem dX0_layBlocks_51 : decode cX0_layBlocks 51 = .ok (.invokevirtual 111, 3) := by decide +kernel
theorem dX0_layBlocks_54 : decode cX0_layBlocks 54 = .ok (.ifCond .eq 7, 3) := by decide +kernel
theorem dX0_layBlocks_57 : decode cX0_layBlocks 57 = .ok (.iconst 1, 1) := by decide +kernel
theorem dX0_layBlocks_58 : decode cX0_layBlocks 58 = .ok (.goto 4, 3) := by decide +kernel
theorem dX0_layBlocks_61 : decode cX0_layBlocks 61 = .ok (.iconst 0, 1) := by decide +kernel
theorem dX0_layBlocks_62 : decode cX0_layBlocks 62 = .ok (.istore 6, 2) := by decide +kernel
theorem dX0_layBlocks_64 : decode cX0_layBlocks 64 = .ok (.iload 6, 2) := by decide +kernel
theorem dX0_layBlocks_66 : decode cX0_layBlocks 66 = .ok (.ifCond .eq 31, 3) := by decide +kernel
theorem dX0_layBlocks_69 : decode cX0_layBlocks 69 = .ok (.aload_n 0, 1) := by decide +kernel
theorem dX0_layBlocks_70 : decode cX0_layBlocks 70 = .ok (.getfield 26, 3) := by decide +kernel
theorem dX0_layBlocks_73 : decode cX0_layBlocks 73 = .ok (.iload 4, 2) := by decide +kernel
theorem dX0_layBlocks_75 : decode cX0_layBlocks 75 = .ok (.iconst 4, 1) := by decide +kernel
theorem dX0_layBlocks_76 : decode cX0_layBlocks 76 = .ok (.iconst 0, 1) := by decide +kernel
theorem dX0_layBlocks_77 : decode cX0_layBlocks 77 = .ok (.invokevirtual 114, 3) := by decide +kernel
theorem dX0_layBlocks_80 : decode cX0_layBlocks 80 = .ok (.aload_n 0, 1) := by decide +kernel
theorem dX0_layBlocks_81 : decode cX0_layBlocks 81 = .ok (.getfield 31, 3) := by decide +kernel
theorem dX0_layBlocks_84 : decode cX0_layBlocks 84 = .ok (.iload_n 1, 1) := by decide +kernel
theorem dX0_layBlocks_85 : decode cX0_layBlocks 85 = .ok (.iload 5, 2) := by decide +kernel
theorem dX0_layBlocks_87 : decode cX0_layBlocks 87 = .ok (.iload 4, 2) := by decide +kernel
theorem dX0_layBlocks_89 : decode cX0_layBlocks 89 = .ok (.iconst 4, 1) := by decide +kernel
theorem dX0_layBlocks_90 : decode cX0_layBlocks 90 = .ok (.idiv, 1) := by decide +kernel
theorem dX0_layBlocks_91 : decode cX0_layBlocks 91 = .ok (.invokevirtual 127, 3) := by decide +kernel
theorem dX0_layBlocks_94 : decode cX0_layBlocks 94 = .ok (.goto 26, 3) := by decide +kernel
theorem dX0_layBlocks_97 : decode cX0_layBlocks 97 = .ok (.aload_n 0, 1) := by decide +kernel
theorem dX0_layBlocks_98 : decode cX0_layBlocks 98 = .ok (.iload_n 1, 1) := by decide +kernel
theorem dX0_layBlocks_99 : decode cX0_layBlocks 99 = .ok (.iload 5, 2) := by decide +kernel
theorem dX0_layBlocks_101 : decode cX0_layBlocks 101 = .ok (.invokevirtual 130, 3) := by decide +kernel
theorem dX0_layBlocks_104 : decode cX0_layBlocks 104 = .ok (.ifCond .ne 5, 3) := by decide +kernel
theorem dX0_layBlocks_107 : decode cX0_layBlocks 107 = .ok (.iconst 0, 1) := by decide +kernel
theorem dX0_layBlocks_108 : decode cX0_layBlocks 108 = .ok (.ireturn, 1) := by decide +kernel
theorem dX0_layBlocks_109 : decode cX0_layBlocks 109 = .ok (.aload_n 0, 1) := by decide +kernel
theorem dX0_layBlocks_110 : decode cX0_layBlocks 110 = .ok (.getfield 26, 3) := by decide +kernel
theorem dX0_layBlocks_113 : decode cX0_layBlocks 113 = .ok (.iload 4, 2) := by decide +kernel
theorem dX0_layBlocks_115 : decode cX0_layBlocks 115 = .ok (.iload_n 3, 1) := by decide +kernel
theorem dX0_layBlocks_116 : decode cX0_layBlocks 116 = .ok (.iconst 1, 1) := by decide +kernel
theorem dX0_layBlocks_117 : decode cX0_layBlocks 117 = .ok (.invokevirtual 114, 3) := by decide +kernel
theorem dX0_layBlocks_120 : decode cX0_layBlocks 120 = .ok (.iload 5, 2) := by decide +kernel
theorem dX0_layBlocks_122 : decode cX0_layBlocks 122 = .ok (.iconst 1, 1) := by decide +kernel
theorem dX0_layBlocks_123 : decode cX0_layBlocks 123 = .ok (.iadd, 1) := by decide +kernel
theorem dX0_layBlocks_124 : decode cX0_layBlocks 124 = .ok (.istore 7, 2) := by decide +kernel
theorem dX0_layBlocks_126 : decode cX0_layBlocks 126 = .ok (.iload 7, 2) := by decide +kernel
theorem dX0_layBlocks_128 : decode cX0_layBlocks 128 = .ok (.iload_n 2, 1) := by decide +kernel
theorem dX0_layBlocks_129 : decode cX0_layBlocks 129 = .ok (.iconst 4, 1) := by decide +kernel
theorem dX0_layBlocks_130 : decode cX0_layBlocks 130 = .ok (.idiv, 1) := by decide +kernel
theorem dX0_layBlocks_131 : decode cX0_layBlocks 131 = .ok (.if_icmp .ge 21, 3) := by decide +kernel
theorem dX0_layBlocks_134 : decode cX0_layBlocks 134 = .ok (.aload_n 0, 1) := by decide +kernel
theorem dX0_layBlocks_135 : decode cX0_layBlocks 135 = .ok (.iload_n 1, 1) := by decide +kernel
theorem dX0_layBlocks_136 : decode cX0_layBlocks 136 = .ok (.iload 7, 2) := by decide +kernel
theorem dX0_layBlocks_138 : decode cX0_layBlocks 138 = .ok (.invokevirtual 130, 3) := by decide +kernel
theorem dX0_layBlocks_141 : decode cX0_layBlocks 141 = .ok (.ifCond .ne 5, 3) := by decide +kernel
theorem dX0_layBlocks_144 : decode cX0_layBlocks 144 = .ok (.iconst 0, 1) := by decide +kernel
theorem dX0_layBlocks_145 : decode cX0_layBlocks 145 = .ok (.ireturn, 1) := by decide +kernel
theorem dX0_layBlocks_146 : decode cX0_layBlocks 146 = .ok (.iinc 7 1, 3) := by decide +kernel
theorem dX0_layBlocks_149 : decode cX0_layBlocks 149 = .ok (.goto (-23), 3) := by decide +kernel
theorem dX0_layBlocks_152 : decode cX0_layBlocks 152 = .ok (.bipush (-4), 2) := by decide +kernel
theorem dX0_layBlocks_154 : decode cX0_layBlocks 154 = .ok (.istore 7, 2) := by decide +kernel
theorem dX0_layBlocks_156 : decode cX0_layBlocks 156 = .ok (.iload_n 2, 1) := by decide +kernel
theorem dX0_layBlocks_157 : decode cX0_layBlocks 157 = .ok (.iconst 4, 1) := by decide +kernel
theorem dX0_layBlocks_158 : decode cX0_layBlocks 158 = .ok (.irem, 1) := by decide +kernel
theorem dX0_layBlocks_159 : decode cX0_layBlocks 159 = .ok (.ifCond .le 32, 3) := by decide +kernel
theorem dX0_layBlocks_162 : decode cX0_layBlocks 162 = .ok (.aload_n 0, 1) := by decide +kernel
theorem dX0_layBlocks_163 : decode cX0_layBlocks 163 = .ok (.getfield 26, 3) := by decide +kernel
theorem dX0_layBlocks_166 : decode cX0_layBlocks 166 = .ok (.aload_n 0, 1) := by decide +kernel
theorem dX0_layBlocks_167 : decode cX0_layBlocks 167 = .ok (.iload_n 1, 1) := by decide +kernel
theorem dX0_layBlocks_168 : decode cX0_layBlocks 168 = .ok (.iload_n 2, 1) := by decide +kernel
theorem dX0_layBlocks_169 : decode cX0_layBlocks 169 = .ok (.iconst 4, 1) := by decide +kernel
theorem dX0_layBlocks_170 : decode cX0_layBlocks 170 = .ok (.idiv, 1) := by decide +kernel
theorem dX0_layBlocks_171 : decode cX0_layBlocks 171 = .ok (.invokevirtual 121, 3) := by decide +kernel
theorem dX0_layBlocks_174 : decode cX0_layBlocks 174 = .ok (.iload_n 2, 1) := by decide +kernel
theorem dX0_layBlocks_175 : decode cX0_layBlocks 175 = .ok (.iconst 4, 1) := by decide +kernel
theorem dX0_layBlocks_176 : decode cX0_layBlocks 176 = .ok (.irem, 1) := by decide +kernel
theorem dX0_layBlocks_177 : decode cX0_layBlocks 177 = .ok (.invokevirtual 67, 3) := by decide +kernel
theorem dX0_layBlocks_180 : decode cX0_layBlocks 180 = .ok (.istore 7, 2) := by decide +kernel
theorem dX0_layBlocks_182 : decode cX0_layBlocks 182 = .ok (.iload 7, 2) := by decide +kernel
theorem dX0_layBlocks_184 : decode cX0_layBlocks 184 = .ok (.bipush (-4), 2) := by decide +kernel
theorem dX0_layBlocks_186 : decode cX0_layBlocks 186 = .ok (.if_icmp .ne 5, 3) := by decide +kernel
theorem dX0_layBlocks_189 : decode cX0_layBlocks 189 = .ok (.iconst 0, 1) := by decide +kernel
theorem dX0_layBlocks_190 : decode cX0_layBlocks 190 = .ok (.ireturn, 1) := by decide +kernel
theorem dX0_layBlocks_191 : decode cX0_layBlocks 191 = .ok (.aload_n 0, 1) := by decide +kernel
theorem dX0_layBlocks_192 : decode cX0_layBlocks 192 = .ok (.getfield 9, 3) := by decide +kernel
theorem dX0_layBlocks_195 : decode cX0_layBlocks 195 = .ok (.dup, 1) := by decide +kernel
theorem dX0_layBlocks_196 : decode cX0_layBlocks 196 = .ok (.getfield 118, 3) := by decide +kernel
theorem dX0_layBlocks_199 : decode cX0_layBlocks 199 = .ok (.iload 6, 2) := by decide +kernel
theorem dX0_layBlocks_201 : decode cX0_layBlocks 201 = .ok (.ifCond .eq 7, 3) := by decide +kernel
theorem dX0_layBlocks_204 : decode cX0_layBlocks 204 = .ok (.iconst 1, 1) := by decide +kernel
theorem dX0_layBlocks_205 : decode cX0_layBlocks 205 = .ok (.goto 4, 3) := by decide +kernel
theorem dX0_layBlocks_208 : decode cX0_layBlocks 208 = .ok (.iconst 0, 1) := by decide +kernel
theorem dX0_layBlocks_209 : decode cX0_layBlocks 209 = .ok (.iadd, 1) := by decide +kernel
theorem dX0_layBlocks_210 : decode cX0_layBlocks 210 = .ok (.putfield 118, 3) := by decide +kernel
theorem dX0_layBlocks_213 : decode cX0_layBlocks 213 = .ok (.aload_n 0, 1) := by decide +kernel
theorem dX0_layBlocks_214 : decode cX0_layBlocks 214 = .ok (.getfield 9, 3) := by decide +kernel
theorem dX0_layBlocks_217 : decode cX0_layBlocks 217 = .ok (.dup, 1) := by decide +kernel
theorem dX0_layBlocks_218 : decode cX0_layBlocks 218 = .ok (.getfield 124, 3) := by decide +kernel
theorem dX0_layBlocks_221 : decode cX0_layBlocks 221 = .ok (.iload_n 3, 1) := by decide +kernel
theorem dX0_layBlocks_222 : decode cX0_layBlocks 222 = .ok (.ifCond .le 12, 3) := by decide +kernel
theorem dX0_layBlocks_225 : decode cX0_layBlocks 225 = .ok (.iload 6, 2) := by decide +kernel
theorem dX0_layBlocks_227 : decode cX0_layBlocks 227 = .ok (.ifCond .ne 7, 3) := by decide +kernel
theorem dX0_layBlocks_230 : decode cX0_layBlocks 230 = .ok (.iconst 1, 1) := by decide +kernel
theorem dX0_layBlocks_231 : decode cX0_layBlocks 231 = .ok (.goto 4, 3) := by decide +kernel
theorem dX0_layBlocks_234 : decode cX0_layBlocks 234 = .ok (.iconst 0, 1) := by decide +kernel
theorem dX0_layBlocks_235 : decode cX0_layBlocks 235 = .ok (.iadd, 1) := by decide +kernel
theorem dX0_layBlocks_236 : decode cX0_layBlocks 236 = .ok (.putfield 124, 3) := by decide +kernel
theorem dX0_layBlocks_239 : decode cX0_layBlocks 239 = .ok (.aload_n 0, 1) := by decide +kernel
theorem dX0_layBlocks_240 : decode cX0_layBlocks 240 = .ok (.getfield 31, 3) := by decide +kernel
theorem dX0_layBlocks_243 : decode cX0_layBlocks 243 = .ok (.iload_n 1, 1) := by decide +kernel
theorem dX0_layBlocks_244 : decode cX0_layBlocks 244 = .ok (.iload_n 2, 1) := by decide +kernel
theorem dX0_layBlocks_245 : decode cX0_layBlocks 245 = .ok (.iload 7, 2) := by decide +kernel
theorem dX0_layBlocks_247 : decode cX0_layBlocks 247 = .ok (.invokevirtual 74, 3) := by decide +kernel
theorem dX0_layBlocks_250 : decode cX0_layBlocks 250 = .ok (.iconst 1, 1) := by decide +kernel
theorem dX0_layBlocks_251 : decode cX0_layBlocks 251 = .ok (.ireturn, 1) := by decide +kernel
theorem dX0_layBlock_0 : decode cX0_layBlock 0 = .ok (.aload_n 0, 1) := by decide +kernel
theorem dX0_layBlock_1 : decode cX0_layBlock 1 = .ok (.getfield 31, 3) := by decide +kernel
theorem dX0_layBlock_4 : decode cX0_layBlock 4 = .ok (.iload_n 1, 1) := by decide +kernel
theorem dX0_layBlock_5 : decode cX0_layBlock 5 = .ok (.iload_n 2, 1) := by decide +kernel
theorem dX0_layBlock_6 : decode cX0_layBlock 6 = .ok (.iconst 1, 1) := by decide +kernel
theorem dX0_layBlock_7 : decode cX0_layBlock 7 = .ok (.isub, 1) := by decide +kernel
theorem dX0_layBlock_8 : decode cX0_layBlock 8 = .ok (.invokevirtual 133, 3) := by decide +kernel
theorem dX0_layBlock_11 : decode cX0_layBlock 11 = .ok (.istore_n 3, 1) := by decide +kernel
theorem dX0_layBlock_12 : decode cX0_layBlock 12 = .ok (.iload_n 2, 1) := by decide +kernel
theorem dX0_layBlock_13 : decode cX0_layBlock 13 = .ok (.ifCond .ne 14, 3) := by decide +kernel
theorem dX0_layBlock_16 : decode cX0_layBlock 16 = .ok (.aload_n 0, 1) := by decide +kernel
theorem dX0_layBlock_17 : decode cX0_layBlock 17 = .ok (.getfield 21, 3) := by decide +kernel
theorem dX0_layBlock_20 : decode cX0_layBlock 20 = .ok (.iload_n 1, 1) := by decide +kernel
theorem dX0_layBlock_21 : decode cX0_layBlock 21 = .ok (.invokevirtual 136, 3) := by decide +kernel
theorem dX0_layBlock_24 : decode cX0_layBlock 24 = .ok (.goto 11, 3) := by decide +kernel
theorem dX0_layBlock_27 : decode cX0_layBlock 27 = .ok (.aload_n 0, 1) := by decide +kernel
theorem dX0_layBlock_28 : decode cX0_layBlock 28 = .ok (.getfield 21, 3) := by decide +kernel
theorem dX0_layBlock_31 : decode cX0_layBlock 31 = .ok (.iload_n 3, 1) := by decide +kernel
theorem dX0_layBlock_32 : decode cX0_layBlock 32 = .ok (.invokevirtual 139, 3) := by decide +kernel
theorem dX0_layBlock_35 : decode cX0_layBlock 35 = .ok (.istore 4, 2) := by decide +kernel
theorem dX0_layBlock_37 : decode cX0_layBlock 37 = .ok (.iconst 0, 1) := by decide +kernel
theorem dX0_layBlock_38 : decode cX0_layBlock 38 = .ok (.istore 5, 2) := by decide +kernel
theorem dX0_layBlock_40 : decode cX0_layBlock 40 = .ok (.iload_n 2, 1) := by decide +kernel
theorem dX0_layBlock_41 : decode cX0_layBlock 41 = .ok (.ifCond .le 28, 3) := by decide +kernel
theorem dX0_layBlock_44 : decode cX0_layBlock 44 = .ok (.aload_n 0, 1) := by decide +kernel
theorem dX0_layBlock_45 : decode cX0_layBlock 45 = .ok (.getfield 21, 3) := by decide +kernel
theorem dX0_layBlock_48 : decode cX0_layBlock 48 = .ok (.iload_n 2, 1) := by decide +kernel
theorem dX0_layBlock_49 : decode cX0_layBlock 49 = .ok (.invokevirtual 142, 3) := by decide +kernel
theorem dX0_layBlock_52 : decode cX0_layBlock 52 = .ok (.ifCond .eq 17, 3) := by decide +kernel
theorem dX0_layBlock_55 : decode cX0_layBlock 55 = .ok (.aload_n 0, 1) := by decide +kernel
theorem dX0_layBlock_56 : decode cX0_layBlock 56 = .ok (.getfield 26, 3) := by decide +kernel
theorem dX0_layBlock_59 : decode cX0_layBlock 59 = .ok (.iload 4, 2) := by decide +kernel
theorem dX0_layBlock_61 : decode cX0_layBlock 61 = .ok (.invokevirtual 145, 3) := by decide +kernel
theorem dX0_layBlock_64 : decode cX0_layBlock 64 = .ok (.istore 4, 2) := by decide +kernel
theorem dX0_layBlock_66 : decode cX0_layBlock 66 = .ok (.goto 17, 3) := by decide +kernel
theorem dX0_layBlock_69 : decode cX0_layBlock 69 = .ok (.iload_n 2, 1) := by decide +kernel
theorem dX0_layBlock_70 : decode cX0_layBlock 70 = .ok (.ifCond .le 13, 3) := by decide +kernel
theorem dX0_layBlock_73 : decode cX0_layBlock 73 = .ok (.aload_n 0, 1) := by decide +kernel
theorem dX0_layBlock_74 : decode cX0_layBlock 74 = .ok (.getfield 21, 3) := by decide +kernel
theorem dX0_layBlock_77 : decode cX0_layBlock 77 = .ok (.iload_n 3, 1) := by decide +kernel
theorem dX0_layBlock_78 : decode cX0_layBlock 78 = .ok (.invokevirtual 148, 3) := by decide +kernel
theorem dX0_layBlock_81 : decode cX0_layBlock 81 = .ok (.istore 5, 2) := by decide +kernel
theorem dX0_layBlock_83 : decode cX0_layBlock 83 = .ok (.aload_n 0, 1) := by decide +kernel
theorem dX0_layBlock_84 : decode cX0_layBlock 84 = .ok (.getfield 26, 3) := by decide +kernel
theorem dX0_layBlock_87 : decode cX0_layBlock 87 = .ok (.iload 4, 2) := by decide +kernel
theorem dX0_layBlock_89 : decode cX0_layBlock 89 = .ok (.iload 5, 2) := by decide +kernel
theorem dX0_layBlock_91 : decode cX0_layBlock 91 = .ok (.invokevirtual 151, 3) := by decide +kernel
theorem dX0_layBlock_94 : decode cX0_layBlock 94 = .ok (.istore 6, 2) := by decide +kernel
theorem dX0_layBlock_96 : decode cX0_layBlock 96 = .ok (.aload_n 0, 1) := by decide +kernel
theorem dX0_layBlock_97 : decode cX0_layBlock 97 = .ok (.getfield 31, 3) := by decide +kernel
theorem dX0_layBlock_100 : decode cX0_layBlock 100 = .ok (.iload_n 1, 1) := by decide +kernel
theorem dX0_layBlock_101 : decode cX0_layBlock 101 = .ok (.iload_n 2, 1) := by decide +kernel
theorem dX0_layBlock_102 : decode cX0_layBlock 102 = .ok (.iload 6, 2) := by decide +kernel
theorem dX0_layBlock_104 : decode cX0_layBlock 104 = .ok (.invokevirtual 127, 3) := by decide +kernel
theorem dX0_layBlock_107 : decode cX0_layBlock 107 = .ok (.iload 6, 2) := by decide +kernel
theorem dX0_layBlock_109 : decode cX0_layBlock 109 = .ok (.bipush (-4), 2) := by decide +kernel
theorem dX0_layBlock_111 : decode cX0_layBlock 111 = .ok (.if_icmp .eq 7, 3) := by decide +kernel
theorem dX0_layBlock_114 : decode cX0_layBlock 114 = .ok (.iconst 1, 1) := by decide +kernel
theorem dX0_layBlock_115 : decode cX0_layBlock 115 = .ok (.goto 4, 3) := by decide +kernel
theorem dX0_layBlock_118 : decode cX0_layBlock 118 = .ok (.iconst 0, 1) := by decide +kernel
theorem dX0_layBlock_119 : decode cX0_layBlock 119 = .ok (.ireturn, 1) := by decide +kernel
theorem dX0_groupForTail_0 : decode cX0_groupForTail 0 = .ok (.iload_n 2, 1) := by decide +kernel
theorem dX0_groupForTail_1 : decode cX0_groupForTail 1 = .ok (.ifCond .ne 12, 3) := by decide +kernel
theorem dX0_groupForTail_4 : decode cX0_groupForTail 4 = .ok (.aload_n 0, 1) := by decide +kernel
theorem dX0_groupForTail_5 : decode cX0_groupForTail 5 = .ok (.getfield 21, 3) := by decide +kernel
theorem dX0_groupForTail_8 : decode cX0_groupForTail 8 = .ok (.iload_n 1, 1) := by decide +kernel
theorem dX0_groupForTail_9 : decode cX0_groupForTail 9 = .ok (.invokevirtual 136, 3) := by decide +kernel
theorem dX0_groupForTail_12 : decode cX0_groupForTail 12 = .ok (.ireturn, 1) := by decide +kernel
theorem dX0_groupForTail_13 : decode cX0_groupForTail 13 = .ok (.aload_n 0, 1) := by decide +kernel
theorem dX0_groupForTail_14 : decode cX0_groupForTail 14 = .ok (.getfield 21, 3) := by decide +kernel
theorem dX0_groupForTail_17 : decode cX0_groupForTail 17 = .ok (.aload_n 0, 1) := by decide +kernel
theorem dX0_groupForTail_18 : decode cX0_groupForTail 18 = .ok (.getfield 31, 3) := by decide +kernel
theorem dX0_groupForTail_21 : decode cX0_groupForTail 21 = .ok (.iload_n 1, 1) := by decide +kernel
theorem dX0_groupForTail_22 : decode cX0_groupForTail 22 = .ok (.iload_n 2, 1) := by decide +kernel
theorem dX0_groupForTail_23 : decode cX0_groupForTail 23 = .ok (.iconst 1, 1) := by decide +kernel
theorem dX0_groupForTail_24 : decode cX0_groupForTail 24 = .ok (.isub, 1) := by decide +kernel
theorem dX0_groupForTail_25 : decode cX0_groupForTail 25 = .ok (.invokevirtual 133, 3) := by decide +kernel
theorem dX0_groupForTail_28 : decode cX0_groupForTail 28 = .ok (.invokevirtual 139, 3) := by decide +kernel
theorem dX0_groupForTail_31 : decode cX0_groupForTail 31 = .ok (.ireturn, 1) := by decide +kernel
theorem dX0_shrinkFile_0 : decode cX0_shrinkFile 0 = .ok (.aload_n 0, 1) := by decide +kernel
theorem dX0_shrinkFile_1 : decode cX0_shrinkFile 1 = .ok (.getfield 31, 3) := by decide +kernel
theorem dX0_shrinkFile_4 : decode cX0_shrinkFile 4 = .ok (.iload_n 1, 1) := by decide +kernel
theorem dX0_shrinkFile_5 : decode cX0_shrinkFile 5 = .ok (.invokevirtual 40, 3) := by decide +kernel
theorem dX0_shrinkFile_8 : decode cX0_shrinkFile 8 = .ok (.iconst 2, 1) := by decide +kernel
theorem dX0_shrinkFile_9 : decode cX0_shrinkFile 9 = .ok (.if_icmp .ne 20, 3) := by decide +kernel
theorem dX0_shrinkFile_12 : decode cX0_shrinkFile 12 = .ok (.iload_n 2, 1) := by decide +kernel
theorem dX0_shrinkFile_13 : decode cX0_shrinkFile 13 = .ok (.iconst 1, 1) := by decide +kernel
theorem dX0_shrinkFile_14 : decode cX0_shrinkFile 14 = .ok (.if_icmp .lt 15, 3) := by decide +kernel
theorem dX0_shrinkFile_17 : decode cX0_shrinkFile 17 = .ok (.iload_n 2, 1) := by decide +kernel
theorem dX0_shrinkFile_18 : decode cX0_shrinkFile 18 = .ok (.aload_n 0, 1) := by decide +kernel
theorem dX0_shrinkFile_19 : decode cX0_shrinkFile 19 = .ok (.getfield 31, 3) := by decide +kernel
theorem dX0_shrinkFile_22 : decode cX0_shrinkFile 22 = .ok (.iload_n 1, 1) := by decide +kernel
theorem dX0_shrinkFile_23 : decode cX0_shrinkFile 23 = .ok (.invokevirtual 88, 3) := by decide +kernel
theorem dX0_shrinkFile_26 : decode cX0_shrinkFile 26 = .ok (.if_icmp .le 5, 3) := by decide +kernel
theorem dX0_shrinkFile_29 : decode cX0_shrinkFile 29 = .ok (.iconst (-1), 1) := by decide +kernel
theorem dX0_shrinkFile_30 : decode cX0_shrinkFile 30 = .ok (.ireturn, 1) := by decide +kernel
theorem dX0_shrinkFile_31 : decode cX0_shrinkFile 31 = .ok (.aload_n 0, 1) := by decide +kernel
theorem dX0_shrinkFile_32 : decode cX0_shrinkFile 32 = .ok (.getfield 9, 3) := by decide +kernel
theorem dX0_shrinkFile_35 : decode cX0_shrinkFile 35 = .ok (.invokevirtual 50, 3) := by decide +kernel
theorem dX0_shrinkFile_38 : decode cX0_shrinkFile 38 = .ok (.ifCond .eq 6, 3) := by decide +kernel
theorem dX0_shrinkFile_41 : decode cX0_shrinkFile 41 = .ok (.bipush (-2), 2) := by decide +kernel
theorem dX0_shrinkFile_43 : decode cX0_shrinkFile 43 = .ok (.ireturn, 1) := by decide +kernel
theorem dX0_shrinkFile_44 : decode cX0_shrinkFile 44 = .ok (.aload_n 0, 1) := by decide +kernel
theorem dX0_shrinkFile_45 : decode cX0_shrinkFile 45 = .ok (.getfield 31, 3) := by decide +kernel
theorem dX0_shrinkFile_48 : decode cX0_shrinkFile 48 = .ok (.iload_n 1, 1) := by decide +kernel
theorem dX0_shrinkFile_49 : decode cX0_shrinkFile 49 = .ok (.invokevirtual 88, 3) := by decide +kernel
theorem dX0_shrinkFile_52 : decode cX0_shrinkFile 52 = .ok (.iload_n 2, 1) := by decide +kernel
theorem dX0_shrinkFile_53 : decode cX0_shrinkFile 53 = .ok (.isub, 1) := by decide +kernel
theorem dX0_shrinkFile_54 : decode cX0_shrinkFile 54 = .ok (.istore_n 3, 1) := by decide +kernel
theorem dX0_shrinkFile_55 : decode cX0_shrinkFile 55 = .ok (.iload_n 3, 1) := by decide +kernel
theorem dX0_shrinkFile_56 : decode cX0_shrinkFile 56 = .ok (.iconst 4, 1) := by decide +kernel
theorem dX0_shrinkFile_57 : decode cX0_shrinkFile 57 = .ok (.idiv, 1) := by decide +kernel
theorem dX0_shrinkFile_58 : decode cX0_shrinkFile 58 = .ok (.istore 4, 2) := by decide +kernel
theorem dX0_shrinkFile_60 : decode cX0_shrinkFile 60 = .ok (.bipush (-4), 2) := by decide +kernel
theorem dX0_shrinkFile_62 : decode cX0_shrinkFile 62 = .ok (.istore 5, 2) := by decide +kernel
theorem dX0_shrinkFile_64 : decode cX0_shrinkFile 64 = .ok (.iload_n 3, 1) := by decide +kernel
theorem dX0_shrinkFile_65 : decode cX0_shrinkFile 65 = .ok (.iconst 4, 1) := by decide +kernel
theorem dX0_shrinkFile_66 : decode cX0_shrinkFile 66 = .ok (.irem, 1) := by decide +kernel
theorem dX0_shrinkFile_67 : decode cX0_shrinkFile 67 = .ok (.ifCond .le 41, 3) := by decide +kernel
theorem dX0_shrinkFile_70 : decode cX0_shrinkFile 70 = .ok (.iload 4, 2) := by decide +kernel
theorem dX0_shrinkFile_72 : decode cX0_shrinkFile 72 = .ok (.aload_n 0, 1) := by decide +kernel
theorem dX0_shrinkFile_73 : decode cX0_shrinkFile 73 = .ok (.getfield 31, 3) := by decide +kernel
theorem dX0_shrinkFile_76 : decode cX0_shrinkFile 76 = .ok (.iload_n 1, 1) := by decide +kernel
theorem dX0_shrinkFile_77 : decode cX0_shrinkFile 77 = .ok (.invokevirtual 95, 3) := by decide +kernel
theorem dX0_shrinkFile_80 : decode cX0_shrinkFile 80 = .ok (.if_icmp .ge 18, 3) := by decide +kernel
theorem dX0_shrinkFile_83 : decode cX0_shrinkFile 83 = .ok (.aload_n 0, 1) := by decide +kernel
theorem dX0_shrinkFile_84 : decode cX0_shrinkFile 84 = .ok (.getfield 31, 3) := by decide +kernel
theorem dX0_shrinkFile_87 : decode cX0_shrinkFile 87 = .ok (.iload_n 1, 1) := by decide +kernel
theorem dX0_shrinkFile_88 : decode cX0_shrinkFile 88 = .ok (.iload 4, 2) := by decide +kernel
theorem dX0_shrinkFile_90 : decode cX0_shrinkFile 90 = .ok (.invokevirtual 133, 3) := by decide +kernel
theorem dX0_shrinkFile_93 : decode cX0_shrinkFile 93 = .ok (.iconst 4, 1) := by decide +kernel
theorem dX0_shrinkFile_94 : decode cX0_shrinkFile 94 = .ok (.imul, 1) := by decide +kernel
theorem dX0_shrinkFile_95 : decode cX0_shrinkFile 95 = .ok (.goto 11, 3) := by decide +kernel
theorem dX0_shrinkFile_98 : decode cX0_shrinkFile 98 = .ok (.aload_n 0, 1) := by decide +kernel
theorem dX0_shrinkFile_99 : decode cX0_shrinkFile 99 = .ok (.getfield 31, 3) := by decide +kernel
theorem dX0_shrinkFile_102 : decode cX0_shrinkFile 102 = .ok (.iload_n 1, 1) := by decide +kernel
theorem dX0_shrinkFile_103 : decode cX0_shrinkFile 103 = .ok (.invokevirtual 108, 3) := by decide +kernel
theorem dX0_shrinkFile_106 : decode cX0_shrinkFile 106 = .ok (.istore 5, 2) := by decide +kernel
theorem dX0_shrinkFile_108 : decode cX0_shrinkFile 108 = .ok (.aload_n 0, 1) := by decide +kernel
theorem dX0_shrinkFile_109 : decode cX0_shrinkFile 109 = .ok (.getfield 9, 3) := by decide +kernel
theorem dX0_shrinkFile_112 : decode cX0_shrinkFile 112 = .ok (.iload_n 1, 1) := by decide +kernel
theorem dX0_shrinkFile_113 : decode cX0_shrinkFile 113 = .ok (.iload 4, 2) := by decide +kernel
theorem dX0_shrinkFile_115 : decode cX0_shrinkFile 115 = .ok (.aload_n 0, 1) := by decide +kernel
theorem dX0_shrinkFile_116 : decode cX0_shrinkFile 116 = .ok (.getfield 26, 3) := by decide +kernel
theorem dX0_shrinkFile_119 : decode cX0_shrinkFile 119 = .ok (.iconst 1, 1) := by decide +kernel
theorem dX0_shrinkFile_120 : decode cX0_shrinkFile 120 = .ok (.invokevirtual 154, 3) := by decide +kernel
theorem dX0_shrinkFile_123 : decode cX0_shrinkFile 123 = .ok (.aload_n 0, 1) := by decide +kernel
theorem dX0_shrinkFile_124 : decode cX0_shrinkFile 124 = .ok (.getfield 26, 3) := by decide +kernel
theorem dX0_shrinkFile_127 : decode cX0_shrinkFile 127 = .ok (.iload 5, 2) := by decide +kernel
theorem dX0_shrinkFile_129 : decode cX0_shrinkFile 129 = .ok (.iload_n 3, 1) := by decide +kernel
theorem dX0_shrinkFile_130 : decode cX0_shrinkFile 130 = .ok (.iconst 4, 1) := by decide +kernel
theorem dX0_shrinkFile_131 : decode cX0_shrinkFile 131 = .ok (.irem, 1) := by decide +kernel
theorem dX0_shrinkFile_132 : decode cX0_shrinkFile 132 = .ok (.iconst 0, 1) := by decide +kernel
theorem dX0_shrinkFile_133 : decode cX0_shrinkFile 133 = .ok (.invokevirtual 114, 3) := by decide +kernel
theorem dX0_shrinkFile_136 : decode cX0_shrinkFile 136 = .ok (.aload_n 0, 1) := by decide +kernel
theorem dX0_shrinkFile_137 : decode cX0_shrinkFile 137 = .ok (.getfield 31, 3) := by decide +kernel
theorem dX0_shrinkFile_140 : decode cX0_shrinkFile 140 = .ok (.iload_n 1, 1) := by decide +kernel
theorem dX0_shrinkFile_141 : decode cX0_shrinkFile 141 = .ok (.iload_n 3, 1) := by decide +kernel
theorem dX0_shrinkFile_142 : decode cX0_shrinkFile 142 = .ok (.iload 5, 2) := by decide +kernel
theorem dX0_shrinkFile_144 : decode cX0_shrinkFile 144 = .ok (.invokevirtual 74, 3) := by decide +kernel
theorem dX0_shrinkFile_147 : decode cX0_shrinkFile 147 = .ok (.iload_n 3, 1) := by decide +kernel
theorem dX0_shrinkFile_148 : decode cX0_shrinkFile 148 = .ok (.ireturn, 1) := by decide +kernel
theorem dX0_removeInode_0 : decode cX0_removeInode 0 = .ok (.aload_n 0, 1) := by decide +kernel
theorem dX0_removeInode_1 : decode cX0_removeInode 1 = .ok (.getfield 31, 3) := by decide +kernel
theorem dX0_removeInode_4 : decode cX0_removeInode 4 = .ok (.iload_n 1, 1) := by decide +kernel
theorem dX0_removeInode_5 : decode cX0_removeInode 5 = .ok (.invokevirtual 40, 3) := by decide +kernel
theorem dX0_removeInode_8 : decode cX0_removeInode 8 = .ok (.ifCond .ne 5, 3) := by decide +kernel
theorem dX0_removeInode_11 : decode cX0_removeInode 11 = .ok (.iconst (-1), 1) := by decide +kernel
theorem dX0_removeInode_12 : decode cX0_removeInode 12 = .ok (.ireturn, 1) := by decide +kernel
theorem dX0_removeInode_13 : decode cX0_removeInode 13 = .ok (.aload_n 0, 1) := by decide +kernel
theorem dX0_removeInode_14 : decode cX0_removeInode 14 = .ok (.getfield 9, 3) := by decide +kernel
theorem dX0_removeInode_17 : decode cX0_removeInode 17 = .ok (.invokevirtual 50, 3) := by decide +kernel
theorem dX0_removeInode_20 : decode cX0_removeInode 20 = .ok (.ifCond .ne 18, 3) := by decide +kernel
theorem dX0_removeInode_23 : decode cX0_removeInode 23 = .ok (.iload_n 1, 1) := by decide +kernel
theorem dX0_removeInode_24 : decode cX0_removeInode 24 = .ok (.ifCond .eq 14, 3) := by decide +kernel
theorem dX0_removeInode_27 : decode cX0_removeInode 27 = .ok (.aload_n 0, 1) := by decide +kernel
theorem dX0_removeInode_28 : decode cX0_removeInode 28 = .ok (.getfield 31, 3) := by decide +kernel
theorem dX0_removeInode_31 : decode cX0_removeInode 31 = .ok (.iload_n 1, 1) := by decide +kernel
theorem dX0_removeInode_32 : decode cX0_removeInode 32 = .ok (.invokevirtual 158, 3) := by decide +kernel
theorem dX0_removeInode_35 : decode cX0_removeInode 35 = .ok (.ifCond .eq 6, 3) := by decide +kernel
theorem dX0_removeInode_38 : decode cX0_removeInode 38 = .ok (.bipush (-2), 2) := by decide +kernel
theorem dX0_removeInode_40 : decode cX0_removeInode 40 = .ok (.ireturn, 1) := by decide +kernel
theorem dX0_removeInode_41 : decode cX0_removeInode 41 = .ok (.aload_n 0, 1) := by decide +kernel
theorem dX0_removeInode_42 : decode cX0_removeInode 42 = .ok (.getfield 31, 3) := by decide +kernel
theorem dX0_removeInode_45 : decode cX0_removeInode 45 = .ok (.iload_n 1, 1) := by decide +kernel
theorem dX0_removeInode_46 : decode cX0_removeInode 46 = .ok (.invokevirtual 88, 3) := by decide +kernel
theorem dX0_removeInode_49 : decode cX0_removeInode 49 = .ok (.istore_n 2, 1) := by decide +kernel
theorem dX0_removeInode_50 : decode cX0_removeInode 50 = .ok (.aload_n 0, 1) := by decide +kernel
theorem dX0_removeInode_51 : decode cX0_removeInode 51 = .ok (.getfield 9, 3) := by decide +kernel
theorem dX0_removeInode_54 : decode cX0_removeInode 54 = .ok (.iload_n 1, 1) := by decide +kernel
theorem dX0_removeInode_55 : decode cX0_removeInode 55 = .ok (.iconst 0, 1) := by decide +kernel
theorem dX0_removeInode_56 : decode cX0_removeInode 56 = .ok (.aload_n 0, 1) := by decide +kernel
theorem dX0_removeInode_57 : decode cX0_removeInode 57 = .ok (.getfield 26, 3) := by decide +kernel
theorem dX0_removeInode_60 : decode cX0_removeInode 60 = .ok (.iconst 1, 1) := by decide +kernel
theorem dX0_removeInode_61 : decode cX0_removeInode 61 = .ok (.invokevirtual 154, 3) := by decide +kernel
theorem dX0_removeInode_64 : decode cX0_removeInode 64 = .ok (.aload_n 0, 1) := by decide +kernel
theorem dX0_removeInode_65 : decode cX0_removeInode 65 = .ok (.getfield 31, 3) := by decide +kernel
theorem dX0_removeInode_68 : decode cX0_removeInode 68 = .ok (.iload_n 1, 1) := by decide +kernel
theorem dX0_removeInode_69 : decode cX0_removeInode 69 = .ok (.iconst 0, 1) := by decide +kernel
theorem dX0_removeInode_70 : decode cX0_removeInode 70 = .ok (.bipush (-4), 2) := by decide +kernel
theorem dX0_removeInode_72 : decode cX0_removeInode 72 = .ok (.bipush (-4), 2) := by decide +kernel
theorem dX0_removeInode_74 : decode cX0_removeInode 74 = .ok (.invokevirtual 70, 3) := by decide +kernel
theorem dX0_removeInode_77 : decode cX0_removeInode 77 = .ok (.iload_n 2, 1) := by decide +kernel
theorem dX0_removeInode_78 : decode cX0_removeInode 78 = .ok (.ireturn, 1) := by decide +kernel
theorem dX0_moveInode_0 : decode cX0_moveInode 0 = .ok (.aload_n 0, 1) := by decide +kernel
theorem dX0_moveInode_1 : decode cX0_moveInode 1 = .ok (.getfield 31, 3) := by decide +kernel
theorem dX0_moveInode_4 : decode cX0_moveInode 4 = .ok (.iload_n 1, 1) := by decide +kernel
theorem dX0_moveInode_5 : decode cX0_moveInode 5 = .ok (.invokevirtual 40, 3) := by decide +kernel
theorem dX0_moveInode_8 : decode cX0_moveInode 8 = .ok (.ifCond .eq 22, 3) := by decide +kernel
theorem dX0_moveInode_11 : decode cX0_moveInode 11 = .ok (.aload_n 0, 1) := by decide +kernel
theorem dX0_moveInode_12 : decode cX0_moveInode 12 = .ok (.getfield 31, 3) := by decide +kernel
theorem dX0_moveInode_15 : decode cX0_moveInode 15 = .ok (.iload_n 2, 1) := by decide +kernel
theorem dX0_moveInode_16 : decode cX0_moveInode 16 = .ok (.invokevirtual 40, 3) := by decide +kernel
theorem dX0_moveInode_19 : decode cX0_moveInode 19 = .ok (.iconst 1, 1) := by decide +kernel
theorem dX0_moveInode_20 : decode cX0_moveInode 20 = .ok (.if_icmp .ne 10, 3) := by decide +kernel
theorem dX0_moveInode_23 : decode cX0_moveInode 23 = .ok (.iload_n 3, 1) := by decide +kernel
theorem dX0_moveInode_24 : decode cX0_moveInode 24 = .ok (.invokestatic 46, 3) := by decide +kernel
theorem dX0_moveInode_27 : decode cX0_moveInode 27 = .ok (.ifCond .ne 5, 3) := by decide +kernel
theorem dX0_moveInode_30 : decode cX0_moveInode 30 = .ok (.iconst (-1), 1) := by decide +kernel
theorem dX0_moveInode_31 : decode cX0_moveInode 31 = .ok (.ireturn, 1) := by decide +kernel
theorem dX0_moveInode_32 : decode cX0_moveInode 32 = .ok (.aload_n 0, 1) := by decide +kernel
theorem dX0_moveInode_33 : decode cX0_moveInode 33 = .ok (.getfield 31, 3) := by decide +kernel
theorem dX0_moveInode_36 : decode cX0_moveInode 36 = .ok (.iload_n 2, 1) := by decide +kernel
theorem dX0_moveInode_37 : decode cX0_moveInode 37 = .ok (.iload_n 3, 1) := by decide +kernel
theorem dX0_moveInode_38 : decode cX0_moveInode 38 = .ok (.invokevirtual 54, 3) := by decide +kernel
theorem dX0_moveInode_41 : decode cX0_moveInode 41 = .ok (.istore 4, 2) := by decide +kernel
theorem dX0_moveInode_43 : decode cX0_moveInode 43 = .ok (.aload_n 0, 1) := by decide +kernel
theorem dX0_moveInode_44 : decode cX0_moveInode 44 = .ok (.getfield 9, 3) := by decide +kernel
theorem dX0_moveInode_47 : decode cX0_moveInode 47 = .ok (.invokevirtual 50, 3) := by decide +kernel
theorem dX0_moveInode_50 : decode cX0_moveInode 50 = .ok (.ifCond .ne 34, 3) := by decide +kernel
theorem dX0_moveInode_53 : decode cX0_moveInode 53 = .ok (.iload_n 1, 1) := by decide +kernel
theorem dX0_moveInode_54 : decode cX0_moveInode 54 = .ok (.ifCond .eq 30, 3) := by decide +kernel
theorem dX0_moveInode_57 : decode cX0_moveInode 57 = .ok (.aload_n 0, 1) := by decide +kernel
theorem dX0_moveInode_58 : decode cX0_moveInode 58 = .ok (.getfield 31, 3) := by decide +kernel
theorem dX0_moveInode_61 : decode cX0_moveInode 61 = .ok (.iload_n 1, 1) := by decide +kernel
theorem dX0_moveInode_62 : decode cX0_moveInode 62 = .ok (.iload_n 2, 1) := by decide +kernel
theorem dX0_moveInode_63 : decode cX0_moveInode 63 = .ok (.invokevirtual 161, 3) := by decide +kernel
theorem dX0_moveInode_66 : decode cX0_moveInode 66 = .ok (.bipush (-4), 2) := by decide +kernel
theorem dX0_moveInode_68 : decode cX0_moveInode 68 = .ok (.if_icmp .ne 16, 3) := by decide +kernel
theorem dX0_moveInode_71 : decode cX0_moveInode 71 = .ok (.iload 4, 2) := by decide +kernel
theorem dX0_moveInode_73 : decode cX0_moveInode 73 = .ok (.bipush (-4), 2) := by decide +kernel
theorem dX0_moveInode_75 : decode cX0_moveInode 75 = .ok (.if_icmp .eq 12, 3) := by decide +kernel
theorem dX0_moveInode_78 : decode cX0_moveInode 78 = .ok (.iload 4, 2) := by decide +kernel
theorem dX0_moveInode_80 : decode cX0_moveInode 80 = .ok (.iload_n 1, 1) := by decide +kernel
theorem dX0_moveInode_81 : decode cX0_moveInode 81 = .ok (.if_icmp .eq 6, 3) := by decide +kernel
theorem dX0_moveInode_84 : decode cX0_moveInode 84 = .ok (.bipush (-2), 2) := by decide +kernel
theorem dX0_moveInode_86 : decode cX0_moveInode 86 = .ok (.ireturn, 1) := by decide +kernel
theorem dX0_moveInode_87 : decode cX0_moveInode 87 = .ok (.aload_n 0, 1) := by decide +kernel
theorem dX0_moveInode_88 : decode cX0_moveInode 88 = .ok (.getfield 31, 3) := by decide +kernel
theorem dX0_moveInode_91 : decode cX0_moveInode 91 = .ok (.iload_n 1, 1) := by decide +kernel
theorem dX0_moveInode_92 : decode cX0_moveInode 92 = .ok (.iload_n 2, 1) := by decide +kernel
theorem dX0_moveInode_93 : decode cX0_moveInode 93 = .ok (.iload_n 3, 1) := by decide +kernel
theorem dX0_moveInode_94 : decode cX0_moveInode 94 = .ok (.invokevirtual 164, 3) := by decide +kernel
theorem dX0_moveInode_97 : decode cX0_moveInode 97 = .ok (.aload_n 0, 1) := by decide +kernel
theorem dX0_moveInode_98 : decode cX0_moveInode 98 = .ok (.getfield 31, 3) := by decide +kernel
theorem dX0_moveInode_101 : decode cX0_moveInode 101 = .ok (.iconst 0, 1) := by decide +kernel
theorem dX0_moveInode_102 : decode cX0_moveInode 102 = .ok (.iload_n 1, 1) := by decide +kernel
theorem dX0_moveInode_103 : decode cX0_moveInode 103 = .ok (.invokevirtual 161, 3) := by decide +kernel
theorem dX0_moveInode_106 : decode cX0_moveInode 106 = .ok (.ireturn, 1) := by decide +kernel
theorem dX0_gatherFile_0 : decode cX0_gatherFile 0 = .ok (.aload_n 0, 1) := by decide +kernel
theorem dX0_gatherFile_1 : decode cX0_gatherFile 1 = .ok (.getfield 31, 3) := by decide +kernel
theorem dX0_gatherFile_4 : decode cX0_gatherFile 4 = .ok (.iload_n 1, 1) := by decide +kernel
theorem dX0_gatherFile_5 : decode cX0_gatherFile 5 = .ok (.invokevirtual 40, 3) := by decide +kernel
theorem dX0_gatherFile_8 : decode cX0_gatherFile 8 = .ok (.iconst 2, 1) := by decide +kernel
theorem dX0_gatherFile_9 : decode cX0_gatherFile 9 = .ok (.if_icmp .eq 5, 3) := by decide +kernel
theorem dX0_gatherFile_12 : decode cX0_gatherFile 12 = .ok (.iconst (-1), 1) := by decide +kernel
theorem dX0_gatherFile_13 : decode cX0_gatherFile 13 = .ok (.ireturn, 1) := by decide +kernel
theorem dX0_gatherFile_14 : decode cX0_gatherFile 14 = .ok (.aload_n 0, 1) := by decide +kernel
theorem dX0_gatherFile_15 : decode cX0_gatherFile 15 = .ok (.getfield 31, 3) := by decide +kernel
theorem dX0_gatherFile_18 : decode cX0_gatherFile 18 = .ok (.iload_n 1, 1) := by decide +kernel
theorem dX0_gatherFile_19 : decode cX0_gatherFile 19 = .ok (.invokevirtual 95, 3) := by decide +kernel
theorem dX0_gatherFile_22 : decode cX0_gatherFile 22 = .ok (.istore_n 2, 1) := by decide +kernel
theorem dX0_gatherFile_23 : decode cX0_gatherFile 23 = .ok (.aload_n 0, 1) := by decide +kernel
theorem dX0_gatherFile_24 : decode cX0_gatherFile 24 = .ok (.getfield 9, 3) := by decide +kernel
theorem dX0_gatherFile_27 : decode cX0_gatherFile 27 = .ok (.invokevirtual 50, 3) := by decide +kernel
theorem dX0_gatherFile_30 : decode cX0_gatherFile 30 = .ok (.ifCond .ne 8, 3) := by decide +kernel
theorem dX0_gatherFile_33 : decode cX0_gatherFile 33 = .ok (.iload_n 2, 1) := by decide +kernel
theorem dX0_gatherFile_34 : decode cX0_gatherFile 34 = .ok (.iconst 2, 1) := by decide +kernel
theorem dX0_gatherFile_35 : decode cX0_gatherFile 35 = .ok (.if_icmp .ge 6, 3) := by decide +kernel
theorem dX0_gatherFile_38 : decode cX0_gatherFile 38 = .ok (.bipush (-2), 2) := by decide +kernel
theorem dX0_gatherFile_40 : decode cX0_gatherFile 40 = .ok (.ireturn, 1) := by decide +kernel
theorem dX0_gatherFile_41 : decode cX0_gatherFile 41 = .ok (.aload_n 0, 1) := by decide +kernel
theorem dX0_gatherFile_42 : decode cX0_gatherFile 42 = .ok (.getfield 21, 3) := by decide +kernel
theorem dX0_gatherFile_45 : decode cX0_gatherFile 45 = .ok (.iload_n 1, 1) := by decide +kernel
theorem dX0_gatherFile_46 : decode cX0_gatherFile 46 = .ok (.invokevirtual 136, 3) := by decide +kernel
theorem dX0_gatherFile_49 : decode cX0_gatherFile 49 = .ok (.istore_n 3, 1) := by decide +kernel
theorem dX0_gatherFile_50 : decode cX0_gatherFile 50 = .ok (.iconst 0, 1) := by decide +kernel
theorem dX0_gatherFile_51 : decode cX0_gatherFile 51 = .ok (.istore 4, 2) := by decide +kernel
theorem dX0_gatherFile_53 : decode cX0_gatherFile 53 = .ok (.iload 4, 2) := by decide +kernel
theorem dX0_gatherFile_55 : decode cX0_gatherFile 55 = .ok (.aload_n 0, 1) := by decide +kernel
theorem dX0_gatherFile_56 : decode cX0_gatherFile 56 = .ok (.getfield 21, 3) := by decide +kernel
theorem dX0_gatherFile_59 : decode cX0_gatherFile 59 = .ok (.getfield 167, 3) := by decide +kernel
theorem dX0_gatherFile_62 : decode cX0_gatherFile 62 = .ok (.if_icmp .ge 53, 3) := by decide +kernel
theorem dX0_gatherFile_65 : decode cX0_gatherFile 65 = .ok (.aload_n 0, 1) := by decide +kernel
theorem dX0_gatherFile_66 : decode cX0_gatherFile 66 = .ok (.getfield 26, 3) := by decide +kernel
theorem dX0_gatherFile_69 : decode cX0_gatherFile 69 = .ok (.aload_n 0, 1) := by decide +kernel
theorem dX0_gatherFile_70 : decode cX0_gatherFile 70 = .ok (.getfield 21, 3) := by decide +kernel
theorem dX0_gatherFile_73 : decode cX0_gatherFile 73 = .ok (.iload_n 3, 1) := by decide +kernel
theorem dX0_gatherFile_74 : decode cX0_gatherFile 74 = .ok (.iload 4, 2) := by decide +kernel
theorem dX0_gatherFile_76 : decode cX0_gatherFile 76 = .ok (.invokevirtual 170, 3) := by decide +kernel
theorem dX0_gatherFile_79 : decode cX0_gatherFile 79 = .ok (.iload_n 2, 1) := by decide +kernel
theorem dX0_gatherFile_80 : decode cX0_gatherFile 80 = .ok (.invokevirtual 173, 3) := by decide +kernel
theorem dX0_gatherFile_83 : decode cX0_gatherFile 83 = .ok (.istore 5, 2) := by decide +kernel
theorem dX0_gatherFile_85 : decode cX0_gatherFile 85 = .ok (.iload 5, 2) := by decide +kernel
theorem dX0_gatherFile_87 : decode cX0_gatherFile 87 = .ok (.bipush (-4), 2) := by decide +kernel
theorem dX0_gatherFile_89 : decode cX0_gatherFile 89 = .ok (.if_icmp .eq 20, 3) := by decide +kernel
theorem dX0_gatherFile_92 : decode cX0_gatherFile 92 = .ok (.aload_n 0, 1) := by decide +kernel
theorem dX0_gatherFile_93 : decode cX0_gatherFile 93 = .ok (.iload_n 1, 1) := by decide +kernel
theorem dX0_gatherFile_94 : decode cX0_gatherFile 94 = .ok (.iload 5, 2) := by decide +kernel
theorem dX0_gatherFile_96 : decode cX0_gatherFile 96 = .ok (.invokevirtual 176, 3) := by decide +kernel
theorem dX0_gatherFile_99 : decode cX0_gatherFile 99 = .ok (.aload_n 0, 1) := by decide +kernel
theorem dX0_gatherFile_100 : decode cX0_gatherFile 100 = .ok (.getfield 9, 3) := by decide +kernel
theorem dX0_gatherFile_103 : decode cX0_gatherFile 103 = .ok (.iload_n 1, 1) := by decide +kernel
theorem dX0_gatherFile_104 : decode cX0_gatherFile 104 = .ok (.iconst 1, 1) := by decide +kernel
theorem dX0_gatherFile_105 : decode cX0_gatherFile 105 = .ok (.invokevirtual 180, 3) := by decide +kernel
theorem dX0_gatherFile_108 : decode cX0_gatherFile 108 = .ok (.ireturn, 1) := by decide +kernel
theorem dX0_gatherFile_109 : decode cX0_gatherFile 109 = .ok (.iinc 4 1, 3) := by decide +kernel
theorem dX0_gatherFile_112 : decode cX0_gatherFile 112 = .ok (.goto (-59), 3) := by decide +kernel
theorem dX0_gatherFile_115 : decode cX0_gatherFile 115 = .ok (.bipush (-3), 2) := by decide +kernel
theorem dX0_gatherFile_117 : decode cX0_gatherFile 117 = .ok (.ireturn, 1) := by decide +kernel
theorem dX0_gatherAt_0 : decode cX0_gatherAt 0 = .ok (.aload_n 0, 1) := by decide +kernel
theorem dX0_gatherAt_1 : decode cX0_gatherAt 1 = .ok (.getfield 31, 3) := by decide +kernel
theorem dX0_gatherAt_4 : decode cX0_gatherAt 4 = .ok (.iload_n 1, 1) := by decide +kernel
theorem dX0_gatherAt_5 : decode cX0_gatherAt 5 = .ok (.invokevirtual 95, 3) := by decide +kernel
theorem dX0_gatherAt_8 : decode cX0_gatherAt 8 = .ok (.istore_n 3, 1) := by decide +kernel
theorem dX0_gatherAt_9 : decode cX0_gatherAt 9 = .ok (.iconst 0, 1) := by decide +kernel
theorem dX0_gatherAt_10 : decode cX0_gatherAt 10 = .ok (.istore 4, 2) := by decide +kernel
theorem dX0_gatherAt_12 : decode cX0_gatherAt 12 = .ok (.iload 4, 2) := by decide +kernel
theorem dX0_gatherAt_14 : decode cX0_gatherAt 14 = .ok (.iload_n 3, 1) := by decide +kernel
theorem dX0_gatherAt_15 : decode cX0_gatherAt 15 = .ok (.if_icmp .ge 71, 3) := by decide +kernel
theorem dX0_gatherAt_18 : decode cX0_gatherAt 18 = .ok (.iload_n 2, 1) := by decide +kernel
theorem dX0_gatherAt_19 : decode cX0_gatherAt 19 = .ok (.iload 4, 2) := by decide +kernel
theorem dX0_gatherAt_21 : decode cX0_gatherAt 21 = .ok (.iconst 1, 1) := by decide +kernel
theorem dX0_gatherAt_22 : decode cX0_gatherAt 22 = .ok (.aload_n 0, 1) := by decide +kernel
theorem dX0_gatherAt_23 : decode cX0_gatherAt 23 = .ok (.getfield 21, 3) := by decide +kernel
theorem dX0_gatherAt_26 : decode cX0_gatherAt 26 = .ok (.getfield 184, 3) := by decide +kernel
theorem dX0_gatherAt_29 : decode cX0_gatherAt 29 = .ok (.iadd, 1) := by decide +kernel
theorem dX0_gatherAt_30 : decode cX0_gatherAt 30 = .ok (.imul, 1) := by decide +kernel
theorem dX0_gatherAt_31 : decode cX0_gatherAt 31 = .ok (.iadd, 1) := by decide +kernel
theorem dX0_gatherAt_32 : decode cX0_gatherAt 32 = .ok (.istore 5, 2) := by decide +kernel
theorem dX0_gatherAt_34 : decode cX0_gatherAt 34 = .ok (.aload_n 0, 1) := by decide +kernel
theorem dX0_gatherAt_35 : decode cX0_gatherAt 35 = .ok (.getfield 26, 3) := by decide +kernel
theorem dX0_gatherAt_38 : decode cX0_gatherAt 38 = .ok (.aload_n 0, 1) := by decide +kernel
theorem dX0_gatherAt_39 : decode cX0_gatherAt 39 = .ok (.getfield 31, 3) := by decide +kernel
theorem dX0_gatherAt_42 : decode cX0_gatherAt 42 = .ok (.iload_n 1, 1) := by decide +kernel
theorem dX0_gatherAt_43 : decode cX0_gatherAt 43 = .ok (.iload 4, 2) := by decide +kernel
theorem dX0_gatherAt_45 : decode cX0_gatherAt 45 = .ok (.invokevirtual 133, 3) := by decide +kernel
theorem dX0_gatherAt_48 : decode cX0_gatherAt 48 = .ok (.iconst 4, 1) := by decide +kernel
theorem dX0_gatherAt_49 : decode cX0_gatherAt 49 = .ok (.imul, 1) := by decide +kernel
theorem dX0_gatherAt_50 : decode cX0_gatherAt 50 = .ok (.iconst 4, 1) := by decide +kernel
theorem dX0_gatherAt_51 : decode cX0_gatherAt 51 = .ok (.iconst 1, 1) := by decide +kernel
theorem dX0_gatherAt_52 : decode cX0_gatherAt 52 = .ok (.invokevirtual 114, 3) := by decide +kernel
theorem dX0_gatherAt_55 : decode cX0_gatherAt 55 = .ok (.aload_n 0, 1) := by decide +kernel
theorem dX0_gatherAt_56 : decode cX0_gatherAt 56 = .ok (.getfield 26, 3) := by decide +kernel
theorem dX0_gatherAt_59 : decode cX0_gatherAt 59 = .ok (.iload 5, 2) := by decide +kernel
theorem dX0_gatherAt_61 : decode cX0_gatherAt 61 = .ok (.iconst 4, 1) := by decide +kernel
theorem dX0_gatherAt_62 : decode cX0_gatherAt 62 = .ok (.imul, 1) := by decide +kernel
theorem dX0_gatherAt_63 : decode cX0_gatherAt 63 = .ok (.iconst 4, 1) := by decide +kernel
theorem dX0_gatherAt_64 : decode cX0_gatherAt 64 = .ok (.iconst 0, 1) := by decide +kernel
theorem dX0_gatherAt_65 : decode cX0_gatherAt 65 = .ok (.invokevirtual 114, 3) := by decide +kernel
theorem dX0_gatherAt_68 : decode cX0_gatherAt 68 = .ok (.aload_n 0, 1) := by decide +kernel
theorem dX0_gatherAt_69 : decode cX0_gatherAt 69 = .ok (.getfield 31, 3) := by decide +kernel
theorem dX0_gatherAt_72 : decode cX0_gatherAt 72 = .ok (.iload_n 1, 1) := by decide +kernel
theorem dX0_gatherAt_73 : decode cX0_gatherAt 73 = .ok (.iload 4, 2) := by decide +kernel
theorem dX0_gatherAt_75 : decode cX0_gatherAt 75 = .ok (.iload 5, 2) := by decide +kernel
theorem dX0_gatherAt_77 : decode cX0_gatherAt 77 = .ok (.invokevirtual 127, 3) := by decide +kernel
theorem dX0_gatherAt_80 : decode cX0_gatherAt 80 = .ok (.iinc 4 1, 3) := by decide +kernel
theorem dX0_gatherAt_83 : decode cX0_gatherAt 83 = .ok (.goto (-71), 3) := by decide +kernel
theorem dX0_gatherAt_86 : decode cX0_gatherAt 86 = .ok (.aload_n 0, 1) := by decide +kernel
theorem dX0_gatherAt_87 : decode cX0_gatherAt 87 = .ok (.getfield 9, 3) := by decide +kernel
theorem dX0_gatherAt_90 : decode cX0_gatherAt 90 = .ok (.dup, 1) := by decide +kernel
theorem dX0_gatherAt_91 : decode cX0_gatherAt 91 = .ok (.getfield 124, 3) := by decide +kernel
theorem dX0_gatherAt_94 : decode cX0_gatherAt 94 = .ok (.iload_n 3, 1) := by decide +kernel
theorem dX0_gatherAt_95 : decode cX0_gatherAt 95 = .ok (.iadd, 1) := by decide +kernel
theorem dX0_gatherAt_96 : decode cX0_gatherAt 96 = .ok (.putfield 124, 3) := by decide +kernel
theorem dX0_gatherAt_99 : decode cX0_gatherAt 99 = .ok (.return_, 1) := by decide +kernel
theorem dX1_init_0 : decode cX1_init 0 = .ok (.aload_n 0, 1) := by decide +kernel
theorem dX1_init_1 : decode cX1_init 1 = .ok (.invokespecial 3, 3) := by decide +kernel
theorem dX1_init_4 : decode cX1_init 4 = .ok (.aload_n 0, 1) := by decide +kernel
theorem dX1_init_5 : decode cX1_init 5 = .ok (.bipush 32, 2) := by decide +kernel
theorem dX1_init_7 : decode cX1_init 7 = .ok (.newarray .int, 2) := by decide +kernel
theorem dX1_init_9 : decode cX1_init 9 = .ok (.putfield 9, 3) := by decide +kernel
theorem dX1_init_12 : decode cX1_init 12 = .ok (.aload_n 0, 1) := by decide +kernel
theorem dX1_init_13 : decode cX1_init 13 = .ok (.aload_n 1, 1) := by decide +kernel
theorem dX1_init_14 : decode cX1_init 14 = .ok (.putfield 15, 3) := by decide +kernel
theorem dX1_init_17 : decode cX1_init 17 = .ok (.return_, 1) := by decide +kernel
theorem dX1_copyFrom_0 : decode cX1_copyFrom 0 = .ok (.aload_n 1, 1) := by decide +kernel
theorem dX1_copyFrom_1 : decode cX1_copyFrom 1 = .ok (.getfield 9, 3) := by decide +kernel
theorem dX1_copyFrom_4 : decode cX1_copyFrom 4 = .ok (.iconst 0, 1) := by decide +kernel
theorem dX1_copyFrom_5 : decode cX1_copyFrom 5 = .ok (.aload_n 0, 1) := by decide +kernel
theorem dX1_copyFrom_6 : decode cX1_copyFrom 6 = .ok (.getfield 9, 3) := by decide +kernel
theorem dX1_copyFrom_9 : decode cX1_copyFrom 9 = .ok (.iconst 0, 1) := by decide +kernel
theorem dX1_copyFrom_10 : decode cX1_copyFrom 10 = .ok (.bipush 32, 2) := by decide +kernel
theorem dX1_copyFrom_12 : decode cX1_copyFrom 12 = .ok (.invokestatic 19, 3) := by decide +kernel
theorem dX1_copyFrom_15 : decode cX1_copyFrom 15 = .ok (.return_, 1) := by decide +kernel
theorem dX1_freeAll_0 : decode cX1_freeAll 0 = .ok (.iconst 0, 1) := by decide +kernel
theorem dX1_freeAll_1 : decode cX1_freeAll 1 = .ok (.istore_n 1, 1) := by decide +kernel
theorem dX1_freeAll_2 : decode cX1_freeAll 2 = .ok (.iload_n 1, 1) := by decide +kernel
theorem dX1_freeAll_3 : decode cX1_freeAll 3 = .ok (.aload_n 0, 1) := by decide +kernel
theorem dX1_freeAll_4 : decode cX1_freeAll 4 = .ok (.getfield 9, 3) := by decide +kernel
theorem dX1_freeAll_7 : decode cX1_freeAll 7 = .ok (.arraylength, 1) := by decide +kernel
theorem dX1_freeAll_8 : decode cX1_freeAll 8 = .ok (.if_icmp .ge 32, 3) := by decide +kernel
theorem dX1_freeAll_11 : decode cX1_freeAll 11 = .ok (.aload_n 0, 1) := by decide +kernel
theorem dX1_freeAll_12 : decode cX1_freeAll 12 = .ok (.getfield 9, 3) := by decide +kernel
theorem dX1_freeAll_15 : decode cX1_freeAll 15 = .ok (.iload_n 1, 1) := by decide +kernel
theorem dX1_freeAll_16 : decode cX1_freeAll 16 = .ok (.iload_n 1, 1) := by decide +kernel
theorem dX1_freeAll_17 : decode cX1_freeAll 17 = .ok (.aload_n 0, 1) := by decide +kernel
theorem dX1_freeAll_18 : decode cX1_freeAll 18 = .ok (.getfield 15, 3) := by decide +kernel
theorem dX1_freeAll_21 : decode cX1_freeAll 21 = .ok (.invokevirtual 25, 3) := by decide +kernel
theorem dX1_freeAll_24 : decode cX1_freeAll 24 = .ok (.if_icmp .ge 8, 3) := by decide +kernel
theorem dX1_freeAll_27 : decode cX1_freeAll 27 = .ok (.bipush 15, 2) := by decide +kernel
theorem dX1_freeAll_29 : decode cX1_freeAll 29 = .ok (.goto 4, 3) := by decide +kernel
theorem dX1_freeAll_32 : decode cX1_freeAll 32 = .ok (.iconst 0, 1) := by decide +kernel
theorem dX1_freeAll_33 : decode cX1_freeAll 33 = .ok (.iastore, 1) := by decide +kernel
theorem dX1_freeAll_34 : decode cX1_freeAll 34 = .ok (.iinc 1 1, 3) := by decide +kernel
theorem dX1_freeAll_37 : decode cX1_freeAll 37 = .ok (.goto (-35), 3) := by decide +kernel
theorem dX1_freeAll_40 : decode cX1_freeAll 40 = .ok (.return_, 1) := by decide +kernel
theorem dX1_bitsOf_0 : decode cX1_bitsOf 0 = .ok (.iload_n 1, 1) := by decide +kernel
theorem dX1_bitsOf_1 : decode cX1_bitsOf 1 = .ok (.ifCond .lt 21, 3) := by decide +kernel
theorem dX1_bitsOf_4 : decode cX1_bitsOf 4 = .ok (.iload_n 1, 1) := by decide +kernel
theorem dX1_bitsOf_5 : decode cX1_bitsOf 5 = .ok (.aload_n 0, 1) := by decide +kernel
theorem dX1_bitsOf_6 : decode cX1_bitsOf 6 = .ok (.getfield 9, 3) := by decide +kernel
theorem dX1_bitsOf_9 : decode cX1_bitsOf 9 = .ok (.arraylength, 1) := by decide +kernel
theorem dX1_bitsOf_10 : decode cX1_bitsOf 10 = .ok (.if_icmp .ge 12, 3) := by decide +kernel
theorem dX1_bitsOf_13 : decode cX1_bitsOf 13 = .ok (.aload_n 0, 1) := by decide +kernel
theorem dX1_bitsOf_14 : decode cX1_bitsOf 14 = .ok (.getfield 9, 3) := by decide +kernel
theorem dX1_bitsOf_17 : decode cX1_bitsOf 17 = .ok (.iload_n 1, 1) := by decide +kernel
theorem dX1_bitsOf_18 : decode cX1_bitsOf 18 = .ok (.iaload, 1) := by decide +kernel
theorem dX1_bitsOf_19 : decode cX1_bitsOf 19 = .ok (.goto 4, 3) := by decide +kernel
theorem dX1_bitsOf_22 : decode cX1_bitsOf 22 = .ok (.iconst 0, 1) := by decide +kernel
theorem dX1_bitsOf_23 : decode cX1_bitsOf 23 = .ok (.ireturn, 1) := by decide +kernel
theorem dX1_isFreeBlock_0 : decode cX1_isFreeBlock 0 = .ok (.iload_n 1, 1) := by decide +kernel
theorem dX1_isFreeBlock_1 : decode cX1_isFreeBlock 1 = .ok (.ifCond .lt 27, 3) := by decide +kernel
theorem dX1_isFreeBlock_4 : decode cX1_isFreeBlock 4 = .ok (.iload_n 1, 1) := by decide +kernel
theorem dX1_isFreeBlock_5 : decode cX1_isFreeBlock 5 = .ok (.aload_n 0, 1) := by decide +kernel
theorem dX1_isFreeBlock_6 : decode cX1_isFreeBlock 6 = .ok (.getfield 9, 3) := by decide +kernel
theorem dX1_isFreeBlock_9 : decode cX1_isFreeBlock 9 = .ok (.arraylength, 1) := by decide +kernel
theorem dX1_isFreeBlock_10 : decode cX1_isFreeBlock 10 = .ok (.if_icmp .ge 18, 3) := by decide +kernel
theorem dX1_isFreeBlock_13 : decode cX1_isFreeBlock 13 = .ok (.aload_n 0, 1) := by decide +kernel
theorem dX1_isFreeBlock_14 : decode cX1_isFreeBlock 14 = .ok (.getfield 9, 3) := by decide +kernel
theorem dX1_isFreeBlock_17 : decode cX1_isFreeBlock 17 = .ok (.iload_n 1, 1) := by decide +kernel
theorem dX1_isFreeBlock_18 : decode cX1_isFreeBlock 18 = .ok (.iaload, 1) := by decide +kernel
theorem dX1_isFreeBlock_19 : decode cX1_isFreeBlock 19 = .ok (.bipush 15, 2) := by decide +kernel
theorem dX1_isFreeBlock_21 : decode cX1_isFreeBlock 21 = .ok (.if_icmp .ne 7, 3) := by decide +kernel
theorem dX1_isFreeBlock_24 : decode cX1_isFreeBlock 24 = .ok (.iconst 1, 1) := by decide +kernel
theorem dX1_isFreeBlock_25 : decode cX1_isFreeBlock 25 = .ok (.goto 4, 3) := by decide +kernel
theorem dX1_isFreeBlock_28 : decode cX1_isFreeBlock 28 = .ok (.iconst 0, 1) := by decide +kernel
theorem dX1_isFreeBlock_29 : decode cX1_isFreeBlock 29 = .ok (.ireturn, 1) := by decide +kernel
theorem dX1_isFree_0 : decode cX1_isFree 0 = .ok (.aload_n 0, 1) := by decide +kernel
theorem dX1_isFree_1 : decode cX1_isFree 1 = .ok (.iload_n 1, 1) := by decide +kernel
theorem dX1_isFree_2 : decode cX1_isFree 2 = .ok (.iconst 1, 1) := by decide +kernel
theorem dX1_isFree_3 : decode cX1_isFree 3 = .ok (.invokevirtual 31, 3) := by decide +kernel
theorem dX1_isFree_6 : decode cX1_isFree 6 = .ok (.ireturn, 1) := by decide +kernel
theorem dX1_areFree_0 : decode cX1_areFree 0 = .ok (.iload_n 1, 1) := by decide +kernel
theorem dX1_areFree_1 : decode cX1_areFree 1 = .ok (.ifCond .lt 16, 3) := by decide +kernel
theorem dX1_areFree_4 : decode cX1_areFree 4 = .ok (.iload_n 2, 1) := by decide +kernel
theorem dX1_areFree_5 : decode cX1_areFree 5 = .ok (.ifCond .lt 12, 3) := by decide +kernel
theorem dX1_areFree_8 : decode cX1_areFree 8 = .ok (.iload_n 1, 1) := by decide +kernel
theorem dX1_areFree_9 : decode cX1_areFree 9 = .ok (.iconst 4, 1) := by decide +kernel
theorem dX1_areFree_10 : decode cX1_areFree 10 = .ok (.irem, 1) := by decide +kernel
theorem dX1_areFree_11 : decode cX1_areFree 11 = .ok (.iload_n 2, 1) := by decide +kernel
theorem dX1_areFree_12 : decode cX1_areFree 12 = .ok (.iadd, 1) := by decide +kernel
theorem dX1_areFree_13 : decode cX1_areFree 13 = .ok (.iconst 4, 1) := by decide +kernel
theorem dX1_areFree_14 : decode cX1_areFree 14 = .ok (.if_icmp .le 5, 3) := by decide +kernel
theorem dX1_areFree_17 : decode cX1_areFree 17 = .ok (.iconst 0, 1) := by decide +kernel
theorem dX1_areFree_18 : decode cX1_areFree 18 = .ok (.ireturn, 1) := by decide +kernel
theorem dX1_areFree_19 : decode cX1_areFree 19 = .ok (.iconst 1, 1) := by decide +kernel
theorem dX1_areFree_20 : decode cX1_areFree 20 = .ok (.iload_n 2, 1) := by decide +kernel
theorem dX1_areFree_21 : decode cX1_areFree 21 = .ok (.ishl, 1) := by decide +kernel
theorem dX1_areFree_22 : decode cX1_areFree 22 = .ok (.iconst 1, 1) := by decide +kernel
theorem dX1_areFree_23 : decode cX1_areFree 23 = .ok (.isub, 1) := by decide +kernel
theorem dX1_areFree_24 : decode cX1_areFree 24 = .ok (.iload_n 1, 1) := by decide +kernel
theorem dX1_areFree_25 : decode cX1_areFree 25 = .ok (.iconst 4, 1) := by decide +kernel
theorem dX1_areFree_26 : decode cX1_areFree 26 = .ok (.irem, 1) := by decide +kernel
theorem dX1_areFree_27 : decode cX1_areFree 27 = .ok (.ishl, 1) := by decide +kernel
theorem dX1_areFree_28 : decode cX1_areFree 28 = .ok (.istore_n 3, 1) := by decide +kernel
theorem dX1_areFree_29 : decode cX1_areFree 29 = .ok (.aload_n 0, 1) := by decide +kernel
theorem dX1_areFree_30 : decode cX1_areFree 30 = .ok (.iload_n 1, 1) := by decide +kernel
theorem dX1_areFree_31 : decode cX1_areFree 31 = .ok (.iconst 4, 1) := by decide +kernel
theorem dX1_areFree_32 : decode cX1_areFree 32 = .ok (.idiv, 1) := by decide +kernel
theorem dX1_areFree_33 : decode cX1_areFree 33 = .ok (.invokevirtual 35, 3) := by decide +kernel
theorem dX1_areFree_36 : decode cX1_areFree 36 = .ok (.iload_n 3, 1) := by decide +kernel
theorem dX1_areFree_37 : decode cX1_areFree 37 = .ok (.iand, 1) := by decide +kernel
theorem dX1_areFree_38 : decode cX1_areFree 38 = .ok (.iload_n 3, 1) := by decide +kernel
theorem dX1_areFree_39 : decode cX1_areFree 39 = .ok (.if_icmp .ne 7, 3) := by decide +kernel
theorem dX1_areFree_42 : decode cX1_areFree 42 = .ok (.iconst 1, 1) := by decide +kernel
theorem dX1_areFree_43 : decode cX1_areFree 43 = .ok (.goto 4, 3) := by decide +kernel
theorem dX1_areFree_46 : decode cX1_areFree 46 = .ok (.iconst 0, 1) := by decide +kernel
theorem dX1_areFree_47 : decode cX1_areFree 47 = .ok (.ireturn, 1) := by decide +kernel
theorem dX1_put_0 : decode cX1_put 0 = .ok (.iload_n 1, 1) := by decide +kernel
theorem dX1_put_1 : decode cX1_put 1 = .ok (.ifCond .lt 27, 3) := by decide +kernel
theorem dX1_put_4 : decode cX1_put 4 = .ok (.iload_n 2, 1) := by decide +kernel
theorem dX1_put_5 : decode cX1_put 5 = .ok (.ifCond .lt 23, 3) := by decide +kernel
theorem dX1_put_8 : decode cX1_put 8 = .ok (.iload_n 1, 1) := by decide +kernel
theorem dX1_put_9 : decode cX1_put 9 = .ok (.iconst 4, 1) := by decide +kernel
theorem dX1_put_10 : decode cX1_put 10 = .ok (.irem, 1) := by decide +kernel
theorem dX1_put_11 : decode cX1_put 11 = .ok (.iload_n 2, 1) := by decide +kernel
theorem dX1_put_12 : decode cX1_put 12 = .ok (.iadd, 1) := by decide +kernel
theorem dX1_put_13 : decode cX1_put 13 = .ok (.iconst 4, 1) := by decide +kernel
theorem dX1_put_14 : decode cX1_put 14 = .ok (.if_icmp .gt 14, 3) := by decide +kernel
theorem dX1_put_17 : decode cX1_put 17 = .ok (.iload_n 1, 1) := by decide +kernel
theorem dX1_put_18 : decode cX1_put 18 = .ok (.iconst 4, 1) := by decide +kernel
theorem dX1_put_19 : decode cX1_put 19 = .ok (.idiv, 1) := by decide +kernel
theorem dX1_put_20 : decode cX1_put 20 = .ok (.aload_n 0, 1) := by decide +kernel
theorem dX1_put_21 : decode cX1_put 21 = .ok (.getfield 9, 3) := by decide +kernel
theorem dX1_put_24 : decode cX1_put 24 = .ok (.arraylength, 1) := by decide +kernel
theorem dX1_put_25 : decode cX1_put 25 = .ok (.if_icmp .lt 4, 3) := by decide +kernel
theorem dX1_put_28 : decode cX1_put 28 = .ok (.return_, 1) := by decide +kernel
theorem dX1_put_29 : decode cX1_put 29 = .ok (.iconst 1, 1) := by decide +kernel
theorem dX1_put_30 : decode cX1_put 30 = .ok (.iload_n 2, 1) := by decide +kernel
theorem dX1_put_31 : decode cX1_put 31 = .ok (.ishl, 1) := by decide +kernel
theorem dX1_put_32 : decode cX1_put 32 = .ok (.iconst 1, 1) := by decide +kernel
theorem dX1_put_33 : decode cX1_put 33 = .ok (.isub, 1) := by decide +kernel
theorem dX1_put_34 : decode cX1_put 34 = .ok (.iload_n 1, 1) := by decide +kernel
theorem dX1_put_35 : decode cX1_put 35 = .ok (.iconst 4, 1) := by decide +kernel
theorem dX1_put_36 : decode cX1_put 36 = .ok (.irem, 1) := by decide +kernel
theorem dX1_put_37 : decode cX1_put 37 = .ok (.ishl, 1) := by decide +kernel
theorem dX1_put_38 : decode cX1_put 38 = .ok (.istore 4, 2) := by decide +kernel
theorem dX1_put_40 : decode cX1_put 40 = .ok (.iload_n 1, 1) := by decide +kernel
theorem dX1_put_41 : decode cX1_put 41 = .ok (.iconst 4, 1) := by decide +kernel
theorem dX1_put_42 : decode cX1_put 42 = .ok (.idiv, 1) := by decide +kernel
theorem dX1_put_43 : decode cX1_put 43 = .ok (.istore 5, 2) := by decide +kernel
theorem dX1_put_45 : decode cX1_put 45 = .ok (.aload_n 0, 1) := by decide +kernel
theorem dX1_put_46 : decode cX1_put 46 = .ok (.getfield 9, 3) := by decide +kernel
theorem dX1_put_49 : decode cX1_put 49 = .ok (.iload 5, 2) := by decide +kernel
theorem dX1_put_51 : decode cX1_put 51 = .ok (.iload_n 3, 1) := by decide +kernel
theorem dX1_put_52 : decode cX1_put 52 = .ok (.ifCond .eq 16, 3) := by decide +kernel
theorem dX1_put_55 : decode cX1_put 55 = .ok (.aload_n 0, 1) := by decide +kernel
theorem dX1_put_56 : decode cX1_put 56 = .ok (.getfield 9, 3) := by decide +kernel
theorem dX1_put_59 : decode cX1_put 59 = .ok (.iload 5, 2) := by decide +kernel
theorem dX1_put_61 : decode cX1_put 61 = .ok (.iaload, 1) := by decide +kernel
theorem dX1_put_62 : decode cX1_put 62 = .ok (.iload 4, 2) := by decide +kernel
theorem dX1_put_64 : decode cX1_put 64 = .ok (.ior, 1) := by decide +kernel
theorem dX1_put_65 : decode cX1_put 65 = .ok (.goto 15, 3) := by decide +kernel
theorem dX1_put_68 : decode cX1_put 68 = .ok (.aload_n 0, 1) := by decide +kernel
theorem dX1_put_69 : decode cX1_put 69 = .ok (.getfield 9, 3) := by decide +kernel
theorem dX1_put_72 : decode cX1_put 72 = .ok (.iload 5, 2) := by decide +kernel
theorem dX1_put_74 : decode cX1_put 74 = .ok (.iaload, 1) := by decide +kernel
theorem dX1_put_75 : decode cX1_put 75 = .ok (.iload 4, 2) := by decide +kernel
theorem dX1_put_77 : decode cX1_put 77 = .ok (.iconst (-1), 1) := by decide +kernel
theorem dX1_put_78 : decode cX1_put 78 = .ok (.ixor, 1) := by decide +kernel
theorem dX1_put_79 : decode cX1_put 79 = .ok (.iand, 1) := by decide +kernel
theorem dX1_put_80 : decode cX1_put 80 = .ok (.iastore, 1) := by decide +kernel
theorem dX1_put_81 : decode cX1_put 81 = .ok (.return_, 1) := by decide +kernel
theorem dX1_freeFragmentsIn_0 : decode cX1_freeFragmentsIn 0 = .ok (.iconst 0, 1) := by decide +kernel
theorem dX1_freeFragmentsIn_1 : decode cX1_freeFragmentsIn 1 = .ok (.istore_n 2, 1) := by decide +kernel
theorem dX1_freeFragmentsIn_2 : decode cX1_freeFragmentsIn 2 = .ok (.iconst 0, 1) := by decide +kernel
theorem dX1_freeFragmentsIn_3 : decode cX1_freeFragmentsIn 3 = .ok (.istore_n 3, 1) := by decide +kernel
theorem dX1_freeFragmentsIn_4 : decode cX1_freeFragmentsIn 4 = .ok (.iload_n 3, 1) := by decide +kernel
theorem dX1_freeFragmentsIn_5 : decode cX1_freeFragmentsIn 5 = .ok (.aload_n 0, 1) := by decide +kernel
theorem dX1_freeFragmentsIn_6 : decode cX1_freeFragmentsIn 6 = .ok (.getfield 15, 3) := by decide +kernel
theorem dX1_freeFragmentsIn_9 : decode cX1_freeFragmentsIn 9 = .ok (.getfield 39, 3) := by decide +kernel
theorem dX1_freeFragmentsIn_12 : decode cX1_freeFragmentsIn 12 = .ok (.if_icmp .ge 30, 3) := by decide +kernel
theorem dX1_freeFragmentsIn_15 : decode cX1_freeFragmentsIn 15 = .ok (.iload_n 2, 1) := by decide +kernel
theorem dX1_freeFragmentsIn_16 : decode cX1_freeFragmentsIn 16 = .ok (.aload_n 0, 1) := by decide +kernel
theorem dX1_freeFragmentsIn_17 : decode cX1_freeFragmentsIn 17 = .ok (.iload_n 1, 1) := by decide +kernel
theorem dX1_freeFragmentsIn_18 : decode cX1_freeFragmentsIn 18 = .ok (.aload_n 0, 1) := by decide +kernel
theorem dX1_freeFragmentsIn_19 : decode cX1_freeFragmentsIn 19 = .ok (.getfield 15, 3) := by decide +kernel
theorem dX1_freeFragmentsIn_22 : decode cX1_freeFragmentsIn 22 = .ok (.getfield 39, 3) := by decide +kernel
theorem dX1_freeFragmentsIn_25 : decode cX1_freeFragmentsIn 25 = .ok (.imul, 1) := by decide +kernel
theorem dX1_freeFragmentsIn_26 : decode cX1_freeFragmentsIn 26 = .ok (.iload_n 3, 1) := by decide +kernel
theorem dX1_freeFragmentsIn_27 : decode cX1_freeFragmentsIn 27 = .ok (.iadd, 1) := by decide +kernel
theorem dX1_freeFragmentsIn_28 : decode cX1_freeFragmentsIn 28 = .ok (.invokevirtual 35, 3) := by decide +kernel
theorem dX1_freeFragmentsIn_31 : decode cX1_freeFragmentsIn 31 = .ok (.invokestatic 43, 3) := by decide +kernel
theorem dX1_freeFragmentsIn_34 : decode cX1_freeFragmentsIn 34 = .ok (.iadd, 1) := by decide +kernel
theorem dX1_freeFragmentsIn_35 : decode cX1_freeFragmentsIn 35 = .ok (.istore_n 2, 1) := by decide +kernel
theorem dX1_freeFragmentsIn_36 : decode cX1_freeFragmentsIn 36 = .ok (.iinc 3 1, 3) := by decide +kernel
theorem dX1_freeFragmentsIn_39 : decode cX1_freeFragmentsIn 39 = .ok (.goto (-35), 3) := by decide +kernel
theorem dX1_freeFragmentsIn_42 : decode cX1_freeFragmentsIn 42 = .ok (.iload_n 2, 1) := by decide +kernel
theorem dX1_freeFragmentsIn_43 : decode cX1_freeFragmentsIn 43 = .ok (.ireturn, 1) := by decide +kernel
theorem dX1_freeFragments_0 : decode cX1_freeFragments 0 = .ok (.iconst 0, 1) := by decide +kernel
theorem dX1_freeFragments_1 : decode cX1_freeFragments 1 = .ok (.istore_n 1, 1) := by decide +kernel
theorem dX1_freeFragments_2 : decode cX1_freeFragments 2 = .ok (.iconst 0, 1) := by decide +kernel
theorem dX1_freeFragments_3 : decode cX1_freeFragments 3 = .ok (.istore_n 2, 1) := by decide +kernel
theorem dX1_freeFragments_4 : decode cX1_freeFragments 4 = .ok (.iload_n 2, 1) := by decide +kernel
theorem dX1_freeFragments_5 : decode cX1_freeFragments 5 = .ok (.aload_n 0, 1) := by decide +kernel
theorem dX1_freeFragments_6 : decode cX1_freeFragments 6 = .ok (.getfield 15, 3) := by decide +kernel
theorem dX1_freeFragments_9 : decode cX1_freeFragments 9 = .ok (.getfield 48, 3) := by decide +kernel
theorem dX1_freeFragments_12 : decode cX1_freeFragments 12 = .ok (.if_icmp .ge 17, 3) := by decide +kernel
theorem dX1_freeFragments_15 : decode cX1_freeFragments 15 = .ok (.iload_n 1, 1) := by decide +kernel
theorem dX1_freeFragments_16 : decode cX1_freeFragments 16 = .ok (.aload_n 0, 1) := by decide +kernel
theorem dX1_freeFragments_17 : decode cX1_freeFragments 17 = .ok (.iload_n 2, 1) := by decide +kernel
theorem dX1_freeFragments_18 : decode cX1_freeFragments 18 = .ok (.invokevirtual 51, 3) := by decide +kernel
theorem dX1_freeFragments_21 : decode cX1_freeFragments 21 = .ok (.iadd, 1) := by decide +kernel
theorem dX1_freeFragments_22 : decode cX1_freeFragments 22 = .ok (.istore_n 1, 1) := by decide +kernel
theorem dX1_freeFragments_23 : decode cX1_freeFragments 23 = .ok (.iinc 2 1, 3) := by decide +kernel
theorem dX1_freeFragments_26 : decode cX1_freeFragments 26 = .ok (.goto (-22), 3) := by decide +kernel
theorem dX1_freeFragments_29 : decode cX1_freeFragments 29 = .ok (.iload_n 1, 1) := by decide +kernel
theorem dX1_freeFragments_30 : decode cX1_freeFragments 30 = .ok (.ireturn, 1) := by decide +kernel
theorem dX1_freeBlocksIn_0 : decode cX1_freeBlocksIn 0 = .ok (.iconst 0, 1) := by decide +kernel
theorem dX1_freeBlocksIn_1 : decode cX1_freeBlocksIn 1 = .ok (.istore_n 2, 1) := by decide +kernel
theorem dX1_freeBlocksIn_2 : decode cX1_freeBlocksIn 2 = .ok (.iconst 0, 1) := by decide +kernel
theorem dX1_freeBlocksIn_3 : decode cX1_freeBlocksIn 3 = .ok (.istore_n 3, 1) := by decide +kernel
theorem dX1_freeBlocksIn_4 : decode cX1_freeBlocksIn 4 = .ok (.iload_n 3, 1) := by decide +kernel
theorem dX1_freeBlocksIn_5 : decode cX1_freeBlocksIn 5 = .ok (.aload_n 0, 1) := by decide +kernel
theorem dX1_freeBlocksIn_6 : decode cX1_freeBlocksIn 6 = .ok (.getfield 15, 3) := by decide +kernel
theorem dX1_freeBlocksIn_9 : decode cX1_freeBlocksIn 9 = .ok (.getfield 39, 3) := by decide +kernel
theorem dX1_freeBlocksIn_12 : decode cX1_freeBlocksIn 12 = .ok (.if_icmp .ge 30, 3) := by decide +kernel
theorem dX1_freeBlocksIn_15 : decode cX1_freeBlocksIn 15 = .ok (.aload_n 0, 1) := by decide +kernel
theorem dX1_freeBlocksIn_16 : decode cX1_freeBlocksIn 16 = .ok (.iload_n 1, 1) := by decide +kernel
theorem dX1_freeBlocksIn_17 : decode cX1_freeBlocksIn 17 = .ok (.aload_n 0, 1) := by decide +kernel
theorem dX1_freeBlocksIn_18 : decode cX1_freeBlocksIn 18 = .ok (.getfield 15, 3) := by decide +kernel
theorem dX1_freeBlocksIn_21 : decode cX1_freeBlocksIn 21 = .ok (.getfield 39, 3) := by decide +kernel
theorem dX1_freeBlocksIn_24 : decode cX1_freeBlocksIn 24 = .ok (.imul, 1) := by decide +kernel
theorem dX1_freeBlocksIn_25 : decode cX1_freeBlocksIn 25 = .ok (.iload_n 3, 1) := by decide +kernel
theorem dX1_freeBlocksIn_26 : decode cX1_freeBlocksIn 26 = .ok (.iadd, 1) := by decide +kernel
theorem dX1_freeBlocksIn_27 : decode cX1_freeBlocksIn 27 = .ok (.invokevirtual 54, 3) := by decide +kernel
theorem dX1_freeBlocksIn_30 : decode cX1_freeBlocksIn 30 = .ok (.ifCond .eq 6, 3) := by decide +kernel
theorem dX1_freeBlocksIn_33 : decode cX1_freeBlocksIn 33 = .ok (.iinc 2 1, 3) := by decide +kernel
theorem dX1_freeBlocksIn_36 : decode cX1_freeBlocksIn 36 = .ok (.iinc 3 1, 3) := by decide +kernel
theorem dX1_freeBlocksIn_39 : decode cX1_freeBlocksIn 39 = .ok (.goto (-35), 3) := by decide +kernel
theorem dX1_freeBlocksIn_42 : decode cX1_freeBlocksIn 42 = .ok (.iload_n 2, 1) := by decide +kernel
theorem dX1_freeBlocksIn_43 : decode cX1_freeBlocksIn 43 = .ok (.ireturn, 1) := by decide +kernel
theorem dX1_freeBlocks_0 : decode cX1_freeBlocks 0 = .ok (.iconst 0, 1) := by decide +kernel
theorem dX1_freeBlocks_1 : decode cX1_freeBlocks 1 = .ok (.istore_n 1, 1) := by decide +kernel
theorem dX1_freeBlocks_2 : decode cX1_freeBlocks 2 = .ok (.iconst 0, 1) := by decide +kernel
theorem dX1_freeBlocks_3 : decode cX1_freeBlocks 3 = .ok (.istore_n 2, 1) := by decide +kernel
theorem dX1_freeBlocks_4 : decode cX1_freeBlocks 4 = .ok (.iload_n 2, 1) := by decide +kernel
theorem dX1_freeBlocks_5 : decode cX1_freeBlocks 5 = .ok (.aload_n 0, 1) := by decide +kernel
theorem dX1_freeBlocks_6 : decode cX1_freeBlocks 6 = .ok (.getfield 15, 3) := by decide +kernel
theorem dX1_freeBlocks_9 : decode cX1_freeBlocks 9 = .ok (.invokevirtual 25, 3) := by decide +kernel
theorem dX1_freeBlocks_12 : decode cX1_freeBlocks 12 = .ok (.if_icmp .ge 20, 3) := by decide +kernel
theorem dX1_freeBlocks_15 : decode cX1_freeBlocks 15 = .ok (.aload_n 0, 1) := by decide +kernel
theorem dX1_freeBlocks_16 : decode cX1_freeBlocks 16 = .ok (.iload_n 2, 1) := by decide +kernel
theorem dX1_freeBlocks_17 : decode cX1_freeBlocks 17 = .ok (.invokevirtual 54, 3) := by decide +kernel
theorem dX1_freeBlocks_20 : decode cX1_freeBlocks 20 = .ok (.ifCond .eq 6, 3) := by decide +kernel
theorem dX1_freeBlocks_23 : decode cX1_freeBlocks 23 = .ok (.iinc 1 1, 3) := by decide +kernel
theorem dX1_freeBlocks_26 : decode cX1_freeBlocks 26 = .ok (.iinc 2 1, 3) := by decide +kernel
theorem dX1_freeBlocks_29 : decode cX1_freeBlocks 29 = .ok (.goto (-25), 3) := by decide +kernel
theorem dX1_freeBlocks_32 : decode cX1_freeBlocks 32 = .ok (.iload_n 1, 1) := by decide +kernel
theorem dX1_freeBlocks_33 : decode cX1_freeBlocks 33 = .ok (.ireturn, 1) := by decide +kernel
theorem dX1_runAt_0 : decode cX1_runAt 0 = .ok (.iload_n 1, 1) := by decide +kernel
theorem dX1_runAt_1 : decode cX1_runAt 1 = .ok (.ifCond .lt 14, 3) := by decide +kernel
theorem dX1_runAt_4 : decode cX1_runAt 4 = .ok (.iload_n 1, 1) := by decide +kernel
theorem dX1_runAt_5 : decode cX1_runAt 5 = .ok (.iconst 4, 1) := by decide +kernel
theorem dX1_runAt_6 : decode cX1_runAt 6 = .ok (.idiv, 1) := by decide +kernel
theorem dX1_runAt_7 : decode cX1_runAt 7 = .ok (.aload_n 0, 1) := by decide +kernel
theorem dX1_runAt_8 : decode cX1_runAt 8 = .ok (.getfield 9, 3) := by decide +kernel
theorem dX1_runAt_11 : decode cX1_runAt 11 = .ok (.arraylength, 1) := by decide +kernel
theorem dX1_runAt_12 : decode cX1_runAt 12 = .ok (.if_icmp .lt 5, 3) := by decide +kernel
theorem dX1_runAt_15 : decode cX1_runAt 15 = .ok (.iconst 0, 1) := by decide +kernel
theorem dX1_runAt_16 : decode cX1_runAt 16 = .ok (.ireturn, 1) := by decide +kernel
theorem dX1_runAt_17 : decode cX1_runAt 17 = .ok (.aload_n 0, 1) := by decide +kernel
theorem dX1_runAt_18 : decode cX1_runAt 18 = .ok (.getfield 9, 3) := by decide +kernel
theorem dX1_runAt_21 : decode cX1_runAt 21 = .ok (.iload_n 1, 1) := by decide +kernel
theorem dX1_runAt_22 : decode cX1_runAt 22 = .ok (.iconst 4, 1) := by decide +kernel
theorem dX1_runAt_23 : decode cX1_runAt 23 = .ok (.idiv, 1) := by decide +kernel
theorem dX1_runAt_24 : decode cX1_runAt 24 = .ok (.iaload, 1) := by decide +kernel
theorem dX1_runAt_25 : decode cX1_runAt 25 = .ok (.istore_n 2, 1) := by decide +kernel
theorem dX1_runAt_26 : decode cX1_runAt 26 = .ok (.iload_n 1, 1) := by decide +kernel
theorem dX1_runAt_27 : decode cX1_runAt 27 = .ok (.iconst 4, 1) := by decide +kernel
theorem dX1_runAt_28 : decode cX1_runAt 28 = .ok (.irem, 1) := by decide +kernel
theorem dX1_runAt_29 : decode cX1_runAt 29 = .ok (.istore_n 3, 1) := by decide +kernel
theorem dX1_runAt_30 : decode cX1_runAt 30 = .ok (.iload_n 3, 1) := by decide +kernel
theorem dX1_runAt_31 : decode cX1_runAt 31 = .ok (.ifCond .le 18, 3) := by decide +kernel
theorem dX1_runAt_34 : decode cX1_runAt 34 = .ok (.iload_n 2, 1) := by decide +kernel
theorem dX1_runAt_35 : decode cX1_runAt 35 = .ok (.iload_n 3, 1) := by decide +kernel
theorem dX1_runAt_36 : decode cX1_runAt 36 = .ok (.iconst 1, 1) := by decide +kernel
theorem dX1_runAt_37 : decode cX1_runAt 37 = .ok (.isub, 1) := by decide +kernel
theorem dX1_runAt_38 : decode cX1_runAt 38 = .ok (.ishr, 1) := by decide +kernel
theorem dX1_runAt_39 : decode cX1_runAt 39 = .ok (.iconst 1, 1) := by decide +kernel
theorem dX1_runAt_40 : decode cX1_runAt 40 = .ok (.iand, 1) := by decide +kernel
theorem dX1_runAt_41 : decode cX1_runAt 41 = .ok (.iconst 1, 1) := by decide +kernel
theorem dX1_runAt_42 : decode cX1_runAt 42 = .ok (.if_icmp .ne 7, 3) := by decide +kernel
theorem dX1_runAt_45 : decode cX1_runAt 45 = .ok (.iconst 1, 1) := by decide +kernel
theorem dX1_runAt_46 : decode cX1_runAt 46 = .ok (.goto 4, 3) := by decide +kernel
theorem dX1_runAt_49 : decode cX1_runAt 49 = .ok (.iconst 0, 1) := by decide +kernel
theorem dX1_runAt_50 : decode cX1_runAt 50 = .ok (.istore 4, 2) := by decide +kernel
theorem dX1_runAt_52 : decode cX1_runAt 52 = .ok (.iload_n 2, 1) := by decide +kernel
theorem dX1_runAt_53 : decode cX1_runAt 53 = .ok (.bipush 15, 2) := by decide +kernel
theorem dX1_runAt_55 : decode cX1_runAt 55 = .ok (.if_icmp .eq 8, 3) := by decide +kernel
theorem dX1_runAt_58 : decode cX1_runAt 58 = .ok (.iload 4, 2) := by decide +kernel
theorem dX1_runAt_60 : decode cX1_runAt 60 = .ok (.ifCond .eq 5, 3) := by decide +kernel
theorem dX1_runAt_63 : decode cX1_runAt 63 = .ok (.iconst 0, 1) := by decide +kernel
theorem dX1_runAt_64 : decode cX1_runAt 64 = .ok (.ireturn, 1) := by decide +kernel
theorem dX1_runAt_65 : decode cX1_runAt 65 = .ok (.iconst 0, 1) := by decide +kernel
theorem dX1_runAt_66 : decode cX1_runAt 66 = .ok (.istore 5, 2) := by decide +kernel
theorem dX1_runAt_68 : decode cX1_runAt 68 = .ok (.iload_n 3, 1) := by decide +kernel
theorem dX1_runAt_69 : decode cX1_runAt 69 = .ok (.iload 5, 2) := by decide +kernel
theorem dX1_runAt_71 : decode cX1_runAt 71 = .ok (.iadd, 1) := by decide +kernel
theorem dX1_runAt_72 : decode cX1_runAt 72 = .ok (.iconst 4, 1) := by decide +kernel
theorem dX1_runAt_73 : decode cX1_runAt 73 = .ok (.if_icmp .ge 21, 3) := by decide +kernel
theorem dX1_runAt_76 : decode cX1_runAt 76 = .ok (.iload_n 2, 1) := by decide +kernel
theorem dX1_runAt_77 : decode cX1_runAt 77 = .ok (.iload_n 3, 1) := by decide +kernel
theorem dX1_runAt_78 : decode cX1_runAt 78 = .ok (.iload 5, 2) := by decide +kernel
theorem dX1_runAt_80 : decode cX1_runAt 80 = .ok (.iadd, 1) := by decide +kernel
theorem dX1_runAt_81 : decode cX1_runAt 81 = .ok (.ishr, 1) := by decide +kernel
theorem dX1_runAt_82 : decode cX1_runAt 82 = .ok (.iconst 1, 1) := by decide +kernel
theorem dX1_runAt_83 : decode cX1_runAt 83 = .ok (.iand, 1) := by decide +kernel
theorem dX1_runAt_84 : decode cX1_runAt 84 = .ok (.iconst 1, 1) := by decide +kernel
theorem dX1_runAt_85 : decode cX1_runAt 85 = .ok (.if_icmp .ne 9, 3) := by decide +kernel
theorem dX1_runAt_88 : decode cX1_runAt 88 = .ok (.iinc 5 1, 3) := by decide +kernel
theorem dX1_runAt_91 : decode cX1_runAt 91 = .ok (.goto (-23), 3) := by decide +kernel
theorem dX1_runAt_94 : decode cX1_runAt 94 = .ok (.iload 5, 2) := by decide +kernel
theorem dX1_runAt_96 : decode cX1_runAt 96 = .ok (.ireturn, 1) := by decide +kernel
theorem dX1_runsIn_0 : decode cX1_runsIn 0 = .ok (.iconst 0, 1) := by decide +kernel
theorem dX1_runsIn_1 : decode cX1_runsIn 1 = .ok (.istore_n 3, 1) := by decide +kernel
theorem dX1_runsIn_2 : decode cX1_runsIn 2 = .ok (.iload_n 1, 1) := by decide +kernel
theorem dX1_runsIn_3 : decode cX1_runsIn 3 = .ok (.aload_n 0, 1) := by decide +kernel
theorem dX1_runsIn_4 : decode cX1_runsIn 4 = .ok (.getfield 15, 3) := by decide +kernel
theorem dX1_runsIn_7 : decode cX1_runsIn 7 = .ok (.getfield 39, 3) := by decide +kernel
theorem dX1_runsIn_10 : decode cX1_runsIn 10 = .ok (.imul, 1) := by decide +kernel
theorem dX1_runsIn_11 : decode cX1_runsIn 11 = .ok (.iconst 4, 1) := by decide +kernel
theorem dX1_runsIn_12 : decode cX1_runsIn 12 = .ok (.imul, 1) := by decide +kernel
theorem dX1_runsIn_13 : decode cX1_runsIn 13 = .ok (.istore 4, 2) := by decide +kernel
theorem dX1_runsIn_15 : decode cX1_runsIn 15 = .ok (.iload 4, 2) := by decide +kernel
theorem dX1_runsIn_17 : decode cX1_runsIn 17 = .ok (.istore 5, 2) := by decide +kernel
theorem dX1_runsIn_19 : decode cX1_runsIn 19 = .ok (.iload 5, 2) := by decide +kernel
theorem dX1_runsIn_21 : decode cX1_runsIn 21 = .ok (.iload 4, 2) := by decide +kernel
theorem dX1_runsIn_23 : decode cX1_runsIn 23 = .ok (.aload_n 0, 1) := by decide +kernel
theorem dX1_runsIn_24 : decode cX1_runsIn 24 = .ok (.getfield 15, 3) := by decide +kernel
theorem dX1_runsIn_27 : decode cX1_runsIn 27 = .ok (.getfield 39, 3) := by decide +kernel
theorem dX1_runsIn_30 : decode cX1_runsIn 30 = .ok (.iconst 4, 1) := by decide +kernel
theorem dX1_runsIn_31 : decode cX1_runsIn 31 = .ok (.imul, 1) := by decide +kernel
theorem dX1_runsIn_32 : decode cX1_runsIn 32 = .ok (.iadd, 1) := by decide +kernel
theorem dX1_runsIn_33 : decode cX1_runsIn 33 = .ok (.if_icmp .ge 22, 3) := by decide +kernel
theorem dX1_runsIn_36 : decode cX1_runsIn 36 = .ok (.aload_n 0, 1) := by decide +kernel
theorem dX1_runsIn_37 : decode cX1_runsIn 37 = .ok (.iload 5, 2) := by decide +kernel
theorem dX1_runsIn_39 : decode cX1_runsIn 39 = .ok (.invokevirtual 58, 3) := by decide +kernel
theorem dX1_runsIn_42 : decode cX1_runsIn 42 = .ok (.iload_n 2, 1) := by decide +kernel
theorem dX1_runsIn_43 : decode cX1_runsIn 43 = .ok (.if_icmp .ne 6, 3) := by decide +kernel
theorem dX1_runsIn_46 : decode cX1_runsIn 46 = .ok (.iinc 3 1, 3) := by decide +kernel
theorem dX1_runsIn_49 : decode cX1_runsIn 49 = .ok (.iinc 5 1, 3) := by decide +kernel
theorem dX1_runsIn_52 : decode cX1_runsIn 52 = .ok (.goto (-33), 3) := by decide +kernel
theorem dX1_runsIn_55 : decode cX1_runsIn 55 = .ok (.iload_n 3, 1) := by decide +kernel
theorem dX1_runsIn_56 : decode cX1_runsIn 56 = .ok (.ireturn, 1) := by decide +kernel
theorem dX1_shortestRunIn_0 : decode cX1_shortestRunIn 0 = .ok (.bipush (-4), 2) := by decide +kernel
theorem dX1_shortestRunIn_2 : decode cX1_shortestRunIn 2 = .ok (.istore_n 3, 1) := by decide +kernel
theorem dX1_shortestRunIn_3 : decode cX1_shortestRunIn 3 = .ok (.iconst 4, 1) := by decide +kernel
theorem dX1_shortestRunIn_4 : decode cX1_shortestRunIn 4 = .ok (.istore 4, 2) := by decide +kernel
theorem dX1_shortestRunIn_6 : decode cX1_shortestRunIn 6 = .ok (.iload_n 1, 1) := by decide +kernel
theorem dX1_shortestRunIn_7 : decode cX1_shortestRunIn 7 = .ok (.aload_n 0, 1) := by decide +kernel
theorem dX1_shortestRunIn_8 : decode cX1_shortestRunIn 8 = .ok (.getfield 15, 3) := by decide +kernel
theorem dX1_shortestRunIn_11 : decode cX1_shortestRunIn 11 = .ok (.getfield 39, 3) := by decide +kernel
theorem dX1_shortestRunIn_14 : decode cX1_shortestRunIn 14 = .ok (.imul, 1) := by decide +kernel
theorem dX1_shortestRunIn_15 : decode cX1_shortestRunIn 15 = .ok (.iconst 4, 1) := by decide +kernel
theorem dX1_shortestRunIn_16 : decode cX1_shortestRunIn 16 = .ok (.imul, 1) := by decide +kernel
theorem dX1_shortestRunIn_17 : decode cX1_shortestRunIn 17 = .ok (.istore 5, 2) := by decide +kernel
theorem dX1_shortestRunIn_19 : decode cX1_shortestRunIn 19 = .ok (.iload 5, 2) := by decide +kernel
theorem dX1_shortestRunIn_21 : decode cX1_shortestRunIn 21 = .ok (.istore 6, 2) := by decide +kernel
theorem dX1_shortestRunIn_23 : decode cX1_shortestRunIn 23 = .ok (.iload 6, 2) := by decide +kernel
theorem dX1_shortestRunIn_25 : decode cX1_shortestRunIn 25 = .ok (.iload 5, 2) := by decide +kernel
theorem dX1_shortestRunIn_27 : decode cX1_shortestRunIn 27 = .ok (.aload_n 0, 1) := by decide +kernel
theorem dX1_shortestRunIn_28 : decode cX1_shortestRunIn 28 = .ok (.getfield 15, 3) := by decide +kernel
theorem dX1_shortestRunIn_31 : decode cX1_shortestRunIn 31 = .ok (.getfield 39, 3) := by decide +kernel
theorem dX1_shortestRunIn_34 : decode cX1_shortestRunIn 34 = .ok (.iconst 4, 1) := by decide +kernel
theorem dX1_shortestRunIn_35 : decode cX1_shortestRunIn 35 = .ok (.imul, 1) := by decide +kernel
theorem dX1_shortestRunIn_36 : decode cX1_shortestRunIn 36 = .ok (.iadd, 1) := by decide +kernel
theorem dX1_shortestRunIn_37 : decode cX1_shortestRunIn 37 = .ok (.if_icmp .ge 37, 3) := by decide +kernel
theorem dX1_shortestRunIn_40 : decode cX1_shortestRunIn 40 = .ok (.aload_n 0, 1) := by decide +kernel
theorem dX1_shortestRunIn_41 : decode cX1_shortestRunIn 41 = .ok (.iload 6, 2) := by decide +kernel
theorem dX1_shortestRunIn_43 : decode cX1_shortestRunIn 43 = .ok (.invokevirtual 58, 3) := by decide +kernel
theorem dX1_shortestRunIn_46 : decode cX1_shortestRunIn 46 = .ok (.istore 7, 2) := by decide +kernel
theorem dX1_shortestRunIn_48 : decode cX1_shortestRunIn 48 = .ok (.iload 7, 2) := by decide +kernel
theorem dX1_shortestRunIn_50 : decode cX1_shortestRunIn 50 = .ok (.iload_n 2, 1) := by decide +kernel
theorem dX1_shortestRunIn_51 : decode cX1_shortestRunIn 51 = .ok (.if_icmp .lt 17, 3) := by decide +kernel
theorem dX1_shortestRunIn_54 : decode cX1_shortestRunIn 54 = .ok (.iload 7, 2) := by decide +kernel
theorem dX1_shortestRunIn_56 : decode cX1_shortestRunIn 56 = .ok (.iload 4, 2) := by decide +kernel
theorem dX1_shortestRunIn_58 : decode cX1_shortestRunIn 58 = .ok (.if_icmp .ge 10, 3) := by decide +kernel
theorem dX1_shortestRunIn_61 : decode cX1_shortestRunIn 61 = .ok (.iload 6, 2) := by decide +kernel
theorem dX1_shortestRunIn_63 : decode cX1_shortestRunIn 63 = .ok (.istore_n 3, 1) := by decide +kernel
theorem dX1_shortestRunIn_64 : decode cX1_shortestRunIn 64 = .ok (.iload 7, 2) := by decide +kernel
theorem dX1_shortestRunIn_66 : decode cX1_shortestRunIn 66 = .ok (.istore 4, 2) := by decide +kernel
theorem dX1_shortestRunIn_68 : decode cX1_shortestRunIn 68 = .ok (.iinc 6 1, 3) := by decide +kernel
theorem dX1_shortestRunIn_71 : decode cX1_shortestRunIn 71 = .ok (.goto (-48), 3) := by decide +kernel
theorem dX1_shortestRunIn_74 : decode cX1_shortestRunIn 74 = .ok (.iload_n 3, 1) := by decide +kernel
theorem dX1_shortestRunIn_75 : decode cX1_shortestRunIn 75 = .ok (.ireturn, 1) := by decide +kernel
theorem dX1_freeBlockIn_0 : decode cX1_freeBlockIn 0 = .ok (.iconst 0, 1) := by decide +kernel
theorem dX1_freeBlockIn_1 : decode cX1_freeBlockIn 1 = .ok (.istore_n 3, 1) := by decide +kernel
theorem dX1_freeBlockIn_2 : decode cX1_freeBlockIn 2 = .ok (.iload_n 3, 1) := by decide +kernel
theorem dX1_freeBlockIn_3 : decode cX1_freeBlockIn 3 = .ok (.aload_n 0, 1) := by decide +kernel
theorem dX1_freeBlockIn_4 : decode cX1_freeBlockIn 4 = .ok (.getfield 15, 3) := by decide +kernel
theorem dX1_freeBlockIn_7 : decode cX1_freeBlockIn 7 = .ok (.getfield 39, 3) := by decide +kernel
theorem dX1_freeBlockIn_10 : decode cX1_freeBlockIn 10 = .ok (.if_icmp .ge 67, 3) := by decide +kernel
theorem dX1_freeBlockIn_13 : decode cX1_freeBlockIn 13 = .ok (.iload_n 2, 1) := by decide +kernel
theorem dX1_freeBlockIn_14 : decode cX1_freeBlockIn 14 = .ok (.iload_n 3, 1) := by decide +kernel
theorem dX1_freeBlockIn_15 : decode cX1_freeBlockIn 15 = .ok (.iadd, 1) := by decide +kernel
theorem dX1_freeBlockIn_16 : decode cX1_freeBlockIn 16 = .ok (.aload_n 0, 1) := by decide +kernel
theorem dX1_freeBlockIn_17 : decode cX1_freeBlockIn 17 = .ok (.getfield 15, 3) := by decide +kernel
theorem dX1_freeBlockIn_20 : decode cX1_freeBlockIn 20 = .ok (.getfield 39, 3) := by decide +kernel
theorem dX1_freeBlockIn_23 : decode cX1_freeBlockIn 23 = .ok (.if_icmp .ge 9, 3) := by decide +kernel
theorem dX1_freeBlockIn_26 : decode cX1_freeBlockIn 26 = .ok (.iload_n 2, 1) := by decide +kernel
theorem dX1_freeBlockIn_27 : decode cX1_freeBlockIn 27 = .ok (.iload_n 3, 1) := by decide +kernel
theorem dX1_freeBlockIn_28 : decode cX1_freeBlockIn 28 = .ok (.iadd, 1) := by decide +kernel
theorem dX1_freeBlockIn_29 : decode cX1_freeBlockIn 29 = .ok (.goto 14, 3) := by decide +kernel
theorem dX1_freeBlockIn_32 : decode cX1_freeBlockIn 32 = .ok (.iload_n 2, 1) := by decide +kernel
theorem dX1_freeBlockIn_33 : decode cX1_freeBlockIn 33 = .ok (.iload_n 3, 1) := by decide +kernel
theorem dX1_freeBlockIn_34 : decode cX1_freeBlockIn 34 = .ok (.iadd, 1) := by decide +kernel
theorem dX1_freeBlockIn_35 : decode cX1_freeBlockIn 35 = .ok (.aload_n 0, 1) := by decide +kernel
theorem dX1_freeBlockIn_36 : decode cX1_freeBlockIn 36 = .ok (.getfield 15, 3) := by decide +kernel
theorem dX1_freeBlockIn_39 : decode cX1_freeBlockIn 39 = .ok (.getfield 39, 3) := by decide +kernel
theorem dX1_freeBlockIn_42 : decode cX1_freeBlockIn 42 = .ok (.isub, 1) := by decide +kernel
theorem dX1_freeBlockIn_43 : decode cX1_freeBlockIn 43 = .ok (.istore 4, 2) := by decide +kernel
theorem dX1_freeBlockIn_45 : decode cX1_freeBlockIn 45 = .ok (.iload_n 1, 1) := by decide +kernel
theorem dX1_freeBlockIn_46 : decode cX1_freeBlockIn 46 = .ok (.aload_n 0, 1) := by decide +kernel
theorem dX1_freeBlockIn_47 : decode cX1_freeBlockIn 47 = .ok (.getfield 15, 3) := by decide +kernel
theorem dX1_freeBlockIn_50 : decode cX1_freeBlockIn 50 = .ok (.getfield 39, 3) := by decide +kernel
theorem dX1_freeBlockIn_53 : decode cX1_freeBlockIn 53 = .ok (.imul, 1) := by decide +kernel
theorem dX1_freeBlockIn_54 : decode cX1_freeBlockIn 54 = .ok (.iload 4, 2) := by decide +kernel
theorem dX1_freeBlockIn_56 : decode cX1_freeBlockIn 56 = .ok (.iadd, 1) := by decide +kernel
theorem dX1_freeBlockIn_57 : decode cX1_freeBlockIn 57 = .ok (.istore 5, 2) := by decide +kernel
theorem dX1_freeBlockIn_59 : decode cX1_freeBlockIn 59 = .ok (.aload_n 0, 1) := by decide +kernel
theorem dX1_freeBlockIn_60 : decode cX1_freeBlockIn 60 = .ok (.iload 5, 2) := by decide +kernel
theorem dX1_freeBlockIn_62 : decode cX1_freeBlockIn 62 = .ok (.invokevirtual 54, 3) := by decide +kernel
theorem dX1_freeBlockIn_65 : decode cX1_freeBlockIn 65 = .ok (.ifCond .eq 6, 3) := by decide +kernel
theorem dX1_freeBlockIn_68 : decode cX1_freeBlockIn 68 = .ok (.iload 5, 2) := by decide +kernel
theorem dX1_freeBlockIn_70 : decode cX1_freeBlockIn 70 = .ok (.ireturn, 1) := by decide +kernel
theorem dX1_freeBlockIn_71 : decode cX1_freeBlockIn 71 = .ok (.iinc 3 1, 3) := by decide +kernel
theorem dX1_freeBlockIn_74 : decode cX1_freeBlockIn 74 = .ok (.goto (-72), 3) := by decide +kernel
theorem dX1_freeBlockIn_77 : decode cX1_freeBlockIn 77 = .ok (.bipush (-4), 2) := by decide +kernel
theorem dX1_freeBlockIn_79 : decode cX1_freeBlockIn 79 = .ok (.ireturn, 1) := by decide +kernel
theorem dX1_takeBlock_0 : decode cX1_takeBlock 0 = .ok (.iconst 0, 1) := by decide +kernel
theorem dX1_takeBlock_1 : decode cX1_takeBlock 1 = .ok (.istore_n 3, 1) := by decide +kernel
theorem dX1_takeBlock_2 : decode cX1_takeBlock 2 = .ok (.iload_n 3, 1) := by decide +kernel
theorem dX1_takeBlock_3 : decode cX1_takeBlock 3 = .ok (.aload_n 0, 1) := by decide +kernel
theorem dX1_takeBlock_4 : decode cX1_takeBlock 4 = .ok (.getfield 15, 3) := by decide +kernel
theorem dX1_takeBlock_7 : decode cX1_takeBlock 7 = .ok (.getfield 48, 3) := by decide +kernel
theorem dX1_takeBlock_10 : decode cX1_takeBlock 10 = .ok (.if_icmp .ge 53, 3) := by decide +kernel
theorem dX1_takeBlock_13 : decode cX1_takeBlock 13 = .ok (.aload_n 0, 1) := by decide +kernel
theorem dX1_takeBlock_14 : decode cX1_takeBlock 14 = .ok (.aload_n 0, 1) := by decide +kernel
theorem dX1_takeBlock_15 : decode cX1_takeBlock 15 = .ok (.getfield 15, 3) := by decide +kernel
theorem dX1_takeBlock_18 : decode cX1_takeBlock 18 = .ok (.iload_n 1, 1) := by decide +kernel
theorem dX1_takeBlock_19 : decode cX1_takeBlock 19 = .ok (.iload_n 3, 1) := by decide +kernel
theorem dX1_takeBlock_20 : decode cX1_takeBlock 20 = .ok (.invokevirtual 61, 3) := by decide +kernel
theorem dX1_takeBlock_23 : decode cX1_takeBlock 23 = .ok (.iload_n 3, 1) := by decide +kernel
theorem dX1_takeBlock_24 : decode cX1_takeBlock 24 = .ok (.ifCond .ne 7, 3) := by decide +kernel
theorem dX1_takeBlock_27 : decode cX1_takeBlock 27 = .ok (.iload_n 2, 1) := by decide +kernel
theorem dX1_takeBlock_28 : decode cX1_takeBlock 28 = .ok (.goto 4, 3) := by decide +kernel
theorem dX1_takeBlock_31 : decode cX1_takeBlock 31 = .ok (.iconst 0, 1) := by decide +kernel
theorem dX1_takeBlock_32 : decode cX1_takeBlock 32 = .ok (.invokevirtual 65, 3) := by decide +kernel
theorem dX1_takeBlock_35 : decode cX1_takeBlock 35 = .ok (.istore 4, 2) := by decide +kernel
theorem dX1_takeBlock_37 : decode cX1_takeBlock 37 = .ok (.iload 4, 2) := by decide +kernel
theorem dX1_takeBlock_39 : decode cX1_takeBlock 39 = .ok (.bipush (-4), 2) := by decide +kernel
theorem dX1_takeBlock_41 : decode cX1_takeBlock 41 = .ok (.if_icmp .eq 16, 3) := by decide +kernel
theorem dX1_takeBlock_44 : decode cX1_takeBlock 44 = .ok (.aload_n 0, 1) := by decide +kernel
theorem dX1_takeBlock_45 : decode cX1_takeBlock 45 = .ok (.iload 4, 2) := by decide +kernel
theorem dX1_takeBlock_47 : decode cX1_takeBlock 47 = .ok (.iconst 4, 1) := by decide +kernel
theorem dX1_takeBlock_48 : decode cX1_takeBlock 48 = .ok (.imul, 1) := by decide +kernel
theorem dX1_takeBlock_49 : decode cX1_takeBlock 49 = .ok (.iconst 4, 1) := by decide +kernel
theorem dX1_takeBlock_50 : decode cX1_takeBlock 50 = .ok (.iconst 0, 1) := by decide +kernel
theorem dX1_takeBlock_51 : decode cX1_takeBlock 51 = .ok (.invokevirtual 68, 3) := by decide +kernel
theorem dX1_takeBlock_54 : decode cX1_takeBlock 54 = .ok (.iload 4, 2) := by decide +kernel
theorem dX1_takeBlock_56 : decode cX1_takeBlock 56 = .ok (.ireturn, 1) := by decide +kernel
theorem dX1_takeBlock_57 : decode cX1_takeBlock 57 = .ok (.iinc 3 1, 3) := by decide +kernel
theorem dX1_takeBlock_60 : decode cX1_takeBlock 60 = .ok (.goto (-58), 3) := by decide +kernel
theorem dX1_takeBlock_63 : decode cX1_takeBlock 63 = .ok (.bipush (-4), 2) := by decide +kernel
theorem dX1_takeBlock_65 : decode cX1_takeBlock 65 = .ok (.ireturn, 1) := by decide +kernel
theorem dX1_takeRun_0 : decode cX1_takeRun 0 = .ok (.iconst 0, 1) := by decide +kernel
theorem dX1_takeRun_1 : decode cX1_takeRun 1 = .ok (.istore_n 3, 1) := by decide +kernel
theorem dX1_takeRun_2 : decode cX1_takeRun 2 = .ok (.iload_n 3, 1) := by decide +kernel
theorem dX1_takeRun_3 : decode cX1_takeRun 3 = .ok (.aload_n 0, 1) := by decide +kernel
theorem dX1_takeRun_4 : decode cX1_takeRun 4 = .ok (.getfield 15, 3) := by decide +kernel
theorem dX1_takeRun_7 : decode cX1_takeRun 7 = .ok (.getfield 48, 3) := by decide +kernel
theorem dX1_takeRun_10 : decode cX1_takeRun 10 = .ok (.if_icmp .ge 81, 3) := by decide +kernel
theorem dX1_takeRun_13 : decode cX1_takeRun 13 = .ok (.aload_n 0, 1) := by decide +kernel
theorem dX1_takeRun_14 : decode cX1_takeRun 14 = .ok (.getfield 15, 3) := by decide +kernel
theorem dX1_takeRun_17 : decode cX1_takeRun 17 = .ok (.iload_n 1, 1) := by decide +kernel
theorem dX1_takeRun_18 : decode cX1_takeRun 18 = .ok (.iload_n 3, 1) := by decide +kernel
theorem dX1_takeRun_19 : decode cX1_takeRun 19 = .ok (.invokevirtual 61, 3) := by decide +kernel
theorem dX1_takeRun_22 : decode cX1_takeRun 22 = .ok (.istore 4, 2) := by decide +kernel
theorem dX1_takeRun_24 : decode cX1_takeRun 24 = .ok (.aload_n 0, 1) := by decide +kernel
theorem dX1_takeRun_25 : decode cX1_takeRun 25 = .ok (.iload 4, 2) := by decide +kernel
theorem dX1_takeRun_27 : decode cX1_takeRun 27 = .ok (.iload_n 2, 1) := by decide +kernel
theorem dX1_takeRun_28 : decode cX1_takeRun 28 = .ok (.invokevirtual 72, 3) := by decide +kernel
theorem dX1_takeRun_31 : decode cX1_takeRun 31 = .ok (.istore 5, 2) := by decide +kernel
theorem dX1_takeRun_33 : decode cX1_takeRun 33 = .ok (.iload 5, 2) := by decide +kernel
theorem dX1_takeRun_35 : decode cX1_takeRun 35 = .ok (.bipush (-4), 2) := by decide +kernel
theorem dX1_takeRun_37 : decode cX1_takeRun 37 = .ok (.if_icmp .ne 30, 3) := by decide +kernel
theorem dX1_takeRun_40 : decode cX1_takeRun 40 = .ok (.aload_n 0, 1) := by decide +kernel
theorem dX1_takeRun_41 : decode cX1_takeRun 41 = .ok (.iload 4, 2) := by decide +kernel
theorem dX1_takeRun_43 : decode cX1_takeRun 43 = .ok (.iconst 0, 1) := by decide +kernel
theorem dX1_takeRun_44 : decode cX1_takeRun 44 = .ok (.invokevirtual 65, 3) := by decide +kernel
theorem dX1_takeRun_47 : decode cX1_takeRun 47 = .ok (.istore 6, 2) := by decide +kernel
theorem dX1_takeRun_49 : decode cX1_takeRun 49 = .ok (.iload 6, 2) := by decide +kernel
theorem dX1_takeRun_51 : decode cX1_takeRun 51 = .ok (.bipush (-4), 2) := by decide +kernel
theorem dX1_takeRun_53 : decode cX1_takeRun 53 = .ok (.if_icmp .ne 8, 3) := by decide +kernel
theorem dX1_takeRun_56 : decode cX1_takeRun 56 = .ok (.bipush (-4), 2) := by decide +kernel
theorem dX1_takeRun_58 : decode cX1_takeRun 58 = .ok (.goto 7, 3) := by decide +kernel
theorem dX1_takeRun_61 : decode cX1_takeRun 61 = .ok (.iload 6, 2) := by decide +kernel
theorem dX1_takeRun_63 : decode cX1_takeRun 63 = .ok (.iconst 4, 1) := by decide +kernel
theorem dX1_takeRun_64 : decode cX1_takeRun 64 = .ok (.imul, 1) := by decide +kernel
theorem dX1_takeRun_65 : decode cX1_takeRun 65 = .ok (.istore 5, 2) := by decide +kernel
theorem dX1_takeRun_67 : decode cX1_takeRun 67 = .ok (.iload 5, 2) := by decide +kernel
theorem dX1_takeRun_69 : decode cX1_takeRun 69 = .ok (.bipush (-4), 2) := by decide +kernel
theorem dX1_takeRun_71 : decode cX1_takeRun 71 = .ok (.if_icmp .eq 14, 3) := by decide +kernel
theorem dX1_takeRun_74 : decode cX1_takeRun 74 = .ok (.aload_n 0, 1) := by decide +kernel
theorem dX1_takeRun_75 : decode cX1_takeRun 75 = .ok (.iload 5, 2) := by decide +kernel
theorem dX1_takeRun_77 : decode cX1_takeRun 77 = .ok (.iload_n 2, 1) := by decide +kernel
theorem dX1_takeRun_78 : decode cX1_takeRun 78 = .ok (.iconst 0, 1) := by decide +kernel
theorem dX1_takeRun_79 : decode cX1_takeRun 79 = .ok (.invokevirtual 68, 3) := by decide +kernel
theorem dX1_takeRun_82 : decode cX1_takeRun 82 = .ok (.iload 5, 2) := by decide +kernel
theorem dX1_takeRun_84 : decode cX1_takeRun 84 = .ok (.ireturn, 1) := by decide +kernel
theorem dX1_takeRun_85 : decode cX1_takeRun 85 = .ok (.iinc 3 1, 3) := by decide +kernel
theorem dX1_takeRun_88 : decode cX1_takeRun 88 = .ok (.goto (-86), 3) := by decide +kernel
theorem dX1_takeRun_91 : decode cX1_takeRun 91 = .ok (.bipush (-4), 2) := by decide +kernel
theorem dX1_takeRun_93 : decode cX1_takeRun 93 = .ok (.ireturn, 1) := by decide +kernel
theorem dX1_groupOnward_0 : decode cX1_groupOnward 0 = .ok (.aload_n 0, 1) := by decide +kernel
theorem dX1_groupOnward_1 : decode cX1_groupOnward 1 = .ok (.invokevirtual 75, 3) := by decide +kernel
theorem dX1_groupOnward_4 : decode cX1_groupOnward 4 = .ok (.istore_n 2, 1) := by decide +kernel
theorem dX1_groupOnward_5 : decode cX1_groupOnward 5 = .ok (.iconst 1, 1) := by decide +kernel
theorem dX1_groupOnward_6 : decode cX1_groupOnward 6 = .ok (.istore_n 3, 1) := by decide +kernel
theorem dX1_groupOnward_7 : decode cX1_groupOnward 7 = .ok (.iload_n 3, 1) := by decide +kernel
theorem dX1_groupOnward_8 : decode cX1_groupOnward 8 = .ok (.aload_n 0, 1) := by decide +kernel
theorem dX1_groupOnward_9 : decode cX1_groupOnward 9 = .ok (.getfield 15, 3) := by decide +kernel
theorem dX1_groupOnward_12 : decode cX1_groupOnward 12 = .ok (.getfield 48, 3) := by decide +kernel
theorem dX1_groupOnward_15 : decode cX1_groupOnward 15 = .ok (.if_icmp .ge 41, 3) := by decide +kernel
theorem dX1_groupOnward_18 : decode cX1_groupOnward 18 = .ok (.aload_n 0, 1) := by decide +kernel
theorem dX1_groupOnward_19 : decode cX1_groupOnward 19 = .ok (.getfield 15, 3) := by decide +kernel
theorem dX1_groupOnward_22 : decode cX1_groupOnward 22 = .ok (.iload_n 1, 1) := by decide +kernel
theorem dX1_groupOnward_23 : decode cX1_groupOnward 23 = .ok (.iload_n 3, 1) := by decide +kernel
theorem dX1_groupOnward_24 : decode cX1_groupOnward 24 = .ok (.invokevirtual 61, 3) := by decide +kernel
theorem dX1_groupOnward_27 : decode cX1_groupOnward 27 = .ok (.istore 4, 2) := by decide +kernel
theorem dX1_groupOnward_29 : decode cX1_groupOnward 29 = .ok (.aload_n 0, 1) := by decide +kernel
theorem dX1_groupOnward_30 : decode cX1_groupOnward 30 = .ok (.iload 4, 2) := by decide +kernel
theorem dX1_groupOnward_32 : decode cX1_groupOnward 32 = .ok (.invokevirtual 78, 3) := by decide +kernel
theorem dX1_groupOnward_35 : decode cX1_groupOnward 35 = .ok (.aload_n 0, 1) := by decide +kernel
theorem dX1_groupOnward_36 : decode cX1_groupOnward 36 = .ok (.getfield 15, 3) := by decide +kernel
theorem dX1_groupOnward_39 : decode cX1_groupOnward 39 = .ok (.getfield 48, 3) := by decide +kernel
theorem dX1_groupOnward_42 : decode cX1_groupOnward 42 = .ok (.imul, 1) := by decide +kernel
theorem dX1_groupOnward_43 : decode cX1_groupOnward 43 = .ok (.iload_n 2, 1) := by decide +kernel
theorem dX1_groupOnward_44 : decode cX1_groupOnward 44 = .ok (.if_icmp .lt 6, 3) := by decide +kernel
theorem dX1_groupOnward_47 : decode cX1_groupOnward 47 = .ok (.iload 4, 2) := by decide +kernel
theorem dX1_groupOnward_49 : decode cX1_groupOnward 49 = .ok (.ireturn, 1) := by decide +kernel
theorem dX1_groupOnward_50 : decode cX1_groupOnward 50 = .ok (.iinc 3 1, 3) := by decide +kernel
theorem dX1_groupOnward_53 : decode cX1_groupOnward 53 = .ok (.goto (-46), 3) := by decide +kernel
theorem dX1_groupOnward_56 : decode cX1_groupOnward 56 = .ok (.iload_n 1, 1) := by decide +kernel
theorem dX1_groupOnward_57 : decode cX1_groupOnward 57 = .ok (.ireturn, 1) := by decide +kernel
theorem dX1_gatheredRowIn_0 : decode cX1_gatheredRowIn 0 = .ok (.iconst 1, 1) := by decide +kernel
theorem dX1_gatheredRowIn_1 : decode cX1_gatheredRowIn 1 = .ok (.aload_n 0, 1) := by decide +kernel
theorem dX1_gatheredRowIn_2 : decode cX1_gatheredRowIn 2 = .ok (.getfield 15, 3) := by decide +kernel
theorem dX1_gatheredRowIn_5 : decode cX1_gatheredRowIn 5 = .ok (.getfield 81, 3) := by decide +kernel
theorem dX1_gatheredRowIn_8 : decode cX1_gatheredRowIn 8 = .ok (.iadd, 1) := by decide +kernel
theorem dX1_gatheredRowIn_9 : decode cX1_gatheredRowIn 9 = .ok (.istore_n 3, 1) := by decide +kernel
theorem dX1_gatheredRowIn_10 : decode cX1_gatheredRowIn 10 = .ok (.iconst 0, 1) := by decide +kernel
theorem dX1_gatheredRowIn_11 : decode cX1_gatheredRowIn 11 = .ok (.istore 4, 2) := by decide +kernel
theorem dX1_gatheredRowIn_13 : decode cX1_gatheredRowIn 13 = .ok (.iload 4, 2) := by decide +kernel
theorem dX1_gatheredRowIn_15 : decode cX1_gatheredRowIn 15 = .ok (.iload_n 2, 1) := by decide +kernel
theorem dX1_gatheredRowIn_16 : decode cX1_gatheredRowIn 16 = .ok (.iconst 1, 1) := by decide +kernel
theorem dX1_gatheredRowIn_17 : decode cX1_gatheredRowIn 17 = .ok (.isub, 1) := by decide +kernel
theorem dX1_gatheredRowIn_18 : decode cX1_gatheredRowIn 18 = .ok (.iload_n 3, 1) := by decide +kernel
theorem dX1_gatheredRowIn_19 : decode cX1_gatheredRowIn 19 = .ok (.imul, 1) := by decide +kernel
theorem dX1_gatheredRowIn_20 : decode cX1_gatheredRowIn 20 = .ok (.iadd, 1) := by decide +kernel
theorem dX1_gatheredRowIn_21 : decode cX1_gatheredRowIn 21 = .ok (.aload_n 0, 1) := by decide +kernel
theorem dX1_gatheredRowIn_22 : decode cX1_gatheredRowIn 22 = .ok (.getfield 15, 3) := by decide +kernel
theorem dX1_gatheredRowIn_25 : decode cX1_gatheredRowIn 25 = .ok (.getfield 39, 3) := by decide +kernel
theorem dX1_gatheredRowIn_28 : decode cX1_gatheredRowIn 28 = .ok (.if_icmp .ge 67, 3) := by decide +kernel
theorem dX1_gatheredRowIn_31 : decode cX1_gatheredRowIn 31 = .ok (.iconst 0, 1) := by decide +kernel
theorem dX1_gatheredRowIn_32 : decode cX1_gatheredRowIn 32 = .ok (.istore 5, 2) := by decide +kernel
theorem dX1_gatheredRowIn_34 : decode cX1_gatheredRowIn 34 = .ok (.iload 5, 2) := by decide +kernel
theorem dX1_gatheredRowIn_36 : decode cX1_gatheredRowIn 36 = .ok (.iload_n 2, 1) := by decide +kernel
theorem dX1_gatheredRowIn_37 : decode cX1_gatheredRowIn 37 = .ok (.if_icmp .ge 33, 3) := by decide +kernel
theorem dX1_gatheredRowIn_40 : decode cX1_gatheredRowIn 40 = .ok (.aload_n 0, 1) := by decide +kernel
theorem dX1_gatheredRowIn_41 : decode cX1_gatheredRowIn 41 = .ok (.iload_n 1, 1) := by decide +kernel
theorem dX1_gatheredRowIn_42 : decode cX1_gatheredRowIn 42 = .ok (.aload_n 0, 1) := by decide +kernel
theorem dX1_gatheredRowIn_43 : decode cX1_gatheredRowIn 43 = .ok (.getfield 15, 3) := by decide +kernel
theorem dX1_gatheredRowIn_46 : decode cX1_gatheredRowIn 46 = .ok (.getfield 39, 3) := by decide +kernel
theorem dX1_gatheredRowIn_49 : decode cX1_gatheredRowIn 49 = .ok (.imul, 1) := by decide +kernel
theorem dX1_gatheredRowIn_50 : decode cX1_gatheredRowIn 50 = .ok (.iload 4, 2) := by decide +kernel
theorem dX1_gatheredRowIn_52 : decode cX1_gatheredRowIn 52 = .ok (.iadd, 1) := by decide +kernel
theorem dX1_gatheredRowIn_53 : decode cX1_gatheredRowIn 53 = .ok (.iload 5, 2) := by decide +kernel
theorem dX1_gatheredRowIn_55 : decode cX1_gatheredRowIn 55 = .ok (.iload_n 3, 1) := by decide +kernel
theorem dX1_gatheredRowIn_56 : decode cX1_gatheredRowIn 56 = .ok (.imul, 1) := by decide +kernel
theorem dX1_gatheredRowIn_57 : decode cX1_gatheredRowIn 57 = .ok (.iadd, 1) := by decide +kernel
theorem dX1_gatheredRowIn_58 : decode cX1_gatheredRowIn 58 = .ok (.invokevirtual 54, 3) := by decide +kernel
theorem dX1_gatheredRowIn_61 : decode cX1_gatheredRowIn 61 = .ok (.ifCond .eq 9, 3) := by decide +kernel
theorem dX1_gatheredRowIn_64 : decode cX1_gatheredRowIn 64 = .ok (.iinc 5 1, 3) := by decide +kernel
theorem dX1_gatheredRowIn_67 : decode cX1_gatheredRowIn 67 = .ok (.goto (-33), 3) := by decide +kernel
theorem dX1_gatheredRowIn_70 : decode cX1_gatheredRowIn 70 = .ok (.iload 5, 2) := by decide +kernel
theorem dX1_gatheredRowIn_72 : decode cX1_gatheredRowIn 72 = .ok (.iload_n 2, 1) := by decide +kernel
theorem dX1_gatheredRowIn_73 : decode cX1_gatheredRowIn 73 = .ok (.if_icmp .ne 16, 3) := by decide +kernel
theorem dX1_gatheredRowIn_76 : decode cX1_gatheredRowIn 76 = .ok (.iload_n 1, 1) := by decide +kernel
theorem dX1_gatheredRowIn_77 : decode cX1_gatheredRowIn 77 = .ok (.aload_n 0, 1) := by decide +kernel
theorem dX1_gatheredRowIn_78 : decode cX1_gatheredRowIn 78 = .ok (.getfield 15, 3) := by decide +kernel
theorem dX1_gatheredRowIn_81 : decode cX1_gatheredRowIn 81 = .ok (.getfield 39, 3) := by decide +kernel
theorem dX1_gatheredRowIn_84 : decode cX1_gatheredRowIn 84 = .ok (.imul, 1) := by decide +kernel
theorem dX1_gatheredRowIn_85 : decode cX1_gatheredRowIn 85 = .ok (.iload 4, 2) := by decide +kernel
theorem dX1_gatheredRowIn_87 : decode cX1_gatheredRowIn 87 = .ok (.iadd, 1) := by decide +kernel
theorem dX1_gatheredRowIn_88 : decode cX1_gatheredRowIn 88 = .ok (.ireturn, 1) := by decide +kernel
theorem dX1_gatheredRowIn_89 : decode cX1_gatheredRowIn 89 = .ok (.iinc 4 1, 3) := by decide +kernel
theorem dX1_gatheredRowIn_92 : decode cX1_gatheredRowIn 92 = .ok (.goto (-79), 3) := by decide +kernel
theorem dX1_gatheredRowIn_95 : decode cX1_gatheredRowIn 95 = .ok (.bipush (-4), 2) := by decide +kernel
theorem dX1_gatheredRowIn_97 : decode cX1_gatheredRowIn 97 = .ok (.ireturn, 1) := by decide +kernel
theorem dX2_init_0 : decode cX2_init 0 = .ok (.aload_n 0, 1) := by decide +kernel
theorem dX2_init_1 : decode cX2_init 1 = .ok (.invokespecial 3, 3) := by decide +kernel
theorem dX2_init_4 : decode cX2_init 4 = .ok (.aload_n 0, 1) := by decide +kernel
theorem dX2_init_5 : decode cX2_init 5 = .ok (.bipush 24, 2) := by decide +kernel
theorem dX2_init_7 : decode cX2_init 7 = .ok (.newarray .int, 2) := by decide +kernel
theorem dX2_init_9 : decode cX2_init 9 = .ok (.putfield 9, 3) := by decide +kernel
theorem dX2_init_12 : decode cX2_init 12 = .ok (.aload_n 0, 1) := by decide +kernel
theorem dX2_init_13 : decode cX2_init 13 = .ok (.bipush 24, 2) := by decide +kernel
theorem dX2_init_15 : decode cX2_init 15 = .ok (.newarray .int, 2) := by decide +kernel
theorem dX2_init_17 : decode cX2_init 17 = .ok (.putfield 15, 3) := by decide +kernel
theorem dX2_init_20 : decode cX2_init 20 = .ok (.aload_n 0, 1) := by decide +kernel
theorem dX2_init_21 : decode cX2_init 21 = .ok (.bipush 24, 2) := by decide +kernel
theorem dX2_init_23 : decode cX2_init 23 = .ok (.newarray .int, 2) := by decide +kernel
theorem dX2_init_25 : decode cX2_init 25 = .ok (.putfield 18, 3) := by decide +kernel
theorem dX2_init_28 : decode cX2_init 28 = .ok (.aload_n 0, 1) := by decide +kernel
theorem dX2_init_29 : decode cX2_init 29 = .ok (.bipush 24, 2) := by decide +kernel
theorem dX2_init_31 : decode cX2_init 31 = .ok (.newarray .int, 2) := by decide +kernel
theorem dX2_init_33 : decode cX2_init 33 = .ok (.putfield 21, 3) := by decide +kernel
theorem dX2_init_36 : decode cX2_init 36 = .ok (.aload_n 0, 1) := by decide +kernel
theorem dX2_init_37 : decode cX2_init 37 = .ok (.bipush 24, 2) := by decide +kernel
theorem dX2_init_39 : decode cX2_init 39 = .ok (.newarray .int, 2) := by decide +kernel
theorem dX2_init_41 : decode cX2_init 41 = .ok (.putfield 24, 3) := by decide +kernel
theorem dX2_init_44 : decode cX2_init 44 = .ok (.aload_n 0, 1) := by decide +kernel
theorem dX2_init_45 : decode cX2_init 45 = .ok (.sipush 240, 3) := by decide +kernel
theorem dX2_init_48 : decode cX2_init 48 = .ok (.newarray .int, 2) := by decide +kernel
theorem dX2_init_50 : decode cX2_init 50 = .ok (.putfield 27, 3) := by decide +kernel
theorem dX2_init_53 : decode cX2_init 53 = .ok (.aload_n 0, 1) := by decide +kernel
theorem dX2_init_54 : decode cX2_init 54 = .ok (.aload_n 1, 1) := by decide +kernel
theorem dX2_init_55 : decode cX2_init 55 = .ok (.putfield 30, 3) := by decide +kernel
theorem dX2_init_58 : decode cX2_init 58 = .ok (.return_, 1) := by decide +kernel
theorem dX2_copyFrom_0 : decode cX2_copyFrom 0 = .ok (.aload_n 1, 1) := by decide +kernel
theorem dX2_copyFrom_1 : decode cX2_copyFrom 1 = .ok (.getfield 9, 3) := by decide +kernel
theorem dX2_copyFrom_4 : decode cX2_copyFrom 4 = .ok (.iconst 0, 1) := by decide +kernel
theorem dX2_copyFrom_5 : decode cX2_copyFrom 5 = .ok (.aload_n 0, 1) := by decide +kernel
theorem dX2_copyFrom_6 : decode cX2_copyFrom 6 = .ok (.getfield 9, 3) := by decide +kernel
theorem dX2_copyFrom_9 : decode cX2_copyFrom 9 = .ok (.iconst 0, 1) := by decide +kernel
theorem dX2_copyFrom_10 : decode cX2_copyFrom 10 = .ok (.bipush 24, 2) := by decide +kernel
theorem dX2_copyFrom_12 : decode cX2_copyFrom 12 = .ok (.invokestatic 34, 3) := by decide +kernel
theorem dX2_copyFrom_15 : decode cX2_copyFrom 15 = .ok (.aload_n 1, 1) := by decide +kernel
theorem dX2_copyFrom_16 : decode cX2_copyFrom 16 = .ok (.getfield 15, 3) := by decide +kernel
theorem dX2_copyFrom_19 : decode cX2_copyFrom 19 = .ok (.iconst 0, 1) := by decide +kernel
theorem dX2_copyFrom_20 : decode cX2_copyFrom 20 = .ok (.aload_n 0, 1) := by decide +kernel
theorem dX2_copyFrom_21 : decode cX2_copyFrom 21 = .ok (.getfield 15, 3) := by decide +kernel
theorem dX2_copyFrom_24 : decode cX2_copyFrom 24 = .ok (.iconst 0, 1) := by decide +kernel
theorem dX2_copyFrom_25 : decode cX2_copyFrom 25 = .ok (.bipush 24, 2) := by decide +kernel
theorem dX2_copyFrom_27 : decode cX2_copyFrom 27 = .ok (.invokestatic 34, 3) := by decide +kernel
theorem dX2_copyFrom_30 : decode cX2_copyFrom 30 = .ok (.aload_n 1, 1) := by decide +kernel
theorem dX2_copyFrom_31 : decode cX2_copyFrom 31 = .ok (.getfield 18, 3) := by decide +kernel
theorem dX2_copyFrom_34 : decode cX2_copyFrom 34 = .ok (.iconst 0, 1) := by decide +kernel
theorem dX2_copyFrom_35 : decode cX2_copyFrom 35 = .ok (.aload_n 0, 1) := by decide +kernel
theorem dX2_copyFrom_36 : decode cX2_copyFrom 36 = .ok (.getfield 18, 3) := by decide +kernel
theorem dX2_copyFrom_39 : decode cX2_copyFrom 39 = .ok (.iconst 0, 1) := by decide +kernel
theorem dX2_copyFrom_40 : decode cX2_copyFrom 40 = .ok (.bipush 24, 2) := by decide +kernel
theorem dX2_copyFrom_42 : decode cX2_copyFrom 42 = .ok (.invokestatic 34, 3) := by decide +kernel
theorem dX2_copyFrom_45 : decode cX2_copyFrom 45 = .ok (.aload_n 1, 1) := by decide +kernel
theorem dX2_copyFrom_46 : decode cX2_copyFrom 46 = .ok (.getfield 21, 3) := by decide +kernel
theorem dX2_copyFrom_49 : decode cX2_copyFrom 49 = .ok (.iconst 0, 1) := by decide +kernel
theorem dX2_copyFrom_50 : decode cX2_copyFrom 50 = .ok (.aload_n 0, 1) := by decide +kernel
theorem dX2_copyFrom_51 : decode cX2_copyFrom 51 = .ok (.getfield 21, 3) := by decide +kernel
theorem dX2_copyFrom_54 : decode cX2_copyFrom 54 = .ok (.iconst 0, 1) := by decide +kernel
theorem dX2_copyFrom_55 : decode cX2_copyFrom 55 = .ok (.bipush 24, 2) := by decide +kernel
theorem dX2_copyFrom_57 : decode cX2_copyFrom 57 = .ok (.invokestatic 34, 3) := by decide +kernel
theorem dX2_copyFrom_60 : decode cX2_copyFrom 60 = .ok (.aload_n 1, 1) := by decide +kernel
theorem dX2_copyFrom_61 : decode cX2_copyFrom 61 = .ok (.getfield 24, 3) := by decide +kernel
theorem dX2_copyFrom_64 : decode cX2_copyFrom 64 = .ok (.iconst 0, 1) := by decide +kernel
theorem dX2_copyFrom_65 : decode cX2_copyFrom 65 = .ok (.aload_n 0, 1) := by decide +kernel
theorem dX2_copyFrom_66 : decode cX2_copyFrom 66 = .ok (.getfield 24, 3) := by decide +kernel
theorem dX2_copyFrom_69 : decode cX2_copyFrom 69 = .ok (.iconst 0, 1) := by decide +kernel
theorem dX2_copyFrom_70 : decode cX2_copyFrom 70 = .ok (.bipush 24, 2) := by decide +kernel
theorem dX2_copyFrom_72 : decode cX2_copyFrom 72 = .ok (.invokestatic 34, 3) := by decide +kernel
theorem dX2_copyFrom_75 : decode cX2_copyFrom 75 = .ok (.aload_n 1, 1) := by decide +kernel
theorem dX2_copyFrom_76 : decode cX2_copyFrom 76 = .ok (.getfield 27, 3) := by decide +kernel
theorem dX2_copyFrom_79 : decode cX2_copyFrom 79 = .ok (.iconst 0, 1) := by decide +kernel
theorem dX2_copyFrom_80 : decode cX2_copyFrom 80 = .ok (.aload_n 0, 1) := by decide +kernel
theorem dX2_copyFrom_81 : decode cX2_copyFrom 81 = .ok (.getfield 27, 3) := by decide +kernel
theorem dX2_copyFrom_84 : decode cX2_copyFrom 84 = .ok (.iconst 0, 1) := by decide +kernel
theorem dX2_copyFrom_85 : decode cX2_copyFrom 85 = .ok (.sipush 240, 3) := by decide +kernel
theorem dX2_copyFrom_88 : decode cX2_copyFrom 88 = .ok (.invokestatic 34, 3) := by decide +kernel
theorem dX2_copyFrom_91 : decode cX2_copyFrom 91 = .ok (.return_, 1) := by decide +kernel
theorem dX2_clear_0 : decode cX2_clear 0 = .ok (.iconst 0, 1) := by decide +kernel
theorem dX2_clear_1 : decode cX2_clear 1 = .ok (.istore_n 1, 1) := by decide +kernel
theorem dX2_clear_2 : decode cX2_clear 2 = .ok (.iload_n 1, 1) := by decide +kernel
theorem dX2_clear_3 : decode cX2_clear 3 = .ok (.bipush 24, 2) := by decide +kernel
theorem dX2_clear_5 : decode cX2_clear 5 = .ok (.if_icmp .ge 19, 3) := by decide +kernel
theorem dX2_clear_8 : decode cX2_clear 8 = .ok (.aload_n 0, 1) := by decide +kernel
theorem dX2_clear_9 : decode cX2_clear 9 = .ok (.iload_n 1, 1) := by decide +kernel
theorem dX2_clear_10 : decode cX2_clear 10 = .ok (.iconst 0, 1) := by decide +kernel
theorem dX2_clear_11 : decode cX2_clear 11 = .ok (.bipush (-4), 2) := by decide +kernel
theorem dX2_clear_13 : decode cX2_clear 13 = .ok (.bipush (-4), 2) := by decide +kernel
theorem dX2_clear_15 : decode cX2_clear 15 = .ok (.invokevirtual 40, 3) := by decide +kernel
theorem dX2_clear_18 : decode cX2_clear 18 = .ok (.iinc 1 1, 3) := by decide +kernel
theorem dX2_clear_21 : decode cX2_clear 21 = .ok (.goto (-19), 3) := by decide +kernel
theorem dX2_clear_24 : decode cX2_clear 24 = .ok (.return_, 1) := by decide +kernel
theorem dX2_become_0 : decode cX2_become 0 = .ok (.iload_n 1, 1) := by decide +kernel
theorem dX2_become_1 : decode cX2_become 1 = .ok (.ifCond .lt 16, 3) := by decide +kernel
theorem dX2_become_4 : decode cX2_become 4 = .ok (.iload_n 1, 1) := by decide +kernel
theorem dX2_become_5 : decode cX2_become 5 = .ok (.bipush 24, 2) := by decide +kernel
theorem dX2_become_7 : decode cX2_become 7 = .ok (.if_icmp .ge 10, 3) := by decide +kernel
theorem dX2_become_10 : decode cX2_become 10 = .ok (.aload_n 0, 1) := by decide +kernel
theorem dX2_become_11 : decode cX2_become 11 = .ok (.getfield 9, 3) := by decide +kernel
theorem dX2_become_14 : decode cX2_become 14 = .ok (.iload_n 1, 1) := by decide +kernel
theorem dX2_become_15 : decode cX2_become 15 = .ok (.iload_n 2, 1) := by decide +kernel
theorem dX2_become_16 : decode cX2_become 16 = .ok (.iastore, 1) := by decide +kernel
theorem dX2_become_17 : decode cX2_become 17 = .ok (.aload_n 0, 1) := by decide +kernel
theorem dX2_become_18 : decode cX2_become 18 = .ok (.iload_n 1, 1) := by decide +kernel
theorem dX2_become_19 : decode cX2_become 19 = .ok (.iload_n 3, 1) := by decide +kernel
theorem dX2_become_20 : decode cX2_become 20 = .ok (.iload 4, 2) := by decide +kernel
theorem dX2_become_22 : decode cX2_become 22 = .ok (.invokevirtual 44, 3) := by decide +kernel
theorem dX2_become_25 : decode cX2_become 25 = .ok (.aload_n 0, 1) := by decide +kernel
theorem dX2_become_26 : decode cX2_become 26 = .ok (.iload_n 1, 1) := by decide +kernel
theorem dX2_become_27 : decode cX2_become 27 = .ok (.iconst 0, 1) := by decide +kernel
theorem dX2_become_28 : decode cX2_become 28 = .ok (.bipush (-4), 2) := by decide +kernel
theorem dX2_become_30 : decode cX2_become 30 = .ok (.invokevirtual 48, 3) := by decide +kernel
theorem dX2_become_33 : decode cX2_become 33 = .ok (.return_, 1) := by decide +kernel
theorem dX2_setEntry_0 : decode cX2_setEntry 0 = .ok (.iload_n 1, 1) := by decide +kernel
theorem dX2_setEntry_1 : decode cX2_setEntry 1 = .ok (.ifCond .lt 23, 3) := by decide +kernel
theorem dX2_setEntry_4 : decode cX2_setEntry 4 = .ok (.iload_n 1, 1) := by decide +kernel
theorem dX2_setEntry_5 : decode cX2_setEntry 5 = .ok (.bipush 24, 2) := by decide +kernel
theorem dX2_setEntry_7 : decode cX2_setEntry 7 = .ok (.if_icmp .ge 17, 3) := by decide +kernel
theorem dX2_setEntry_10 : decode cX2_setEntry 10 = .ok (.aload_n 0, 1) := by decide +kernel
theorem dX2_setEntry_11 : decode cX2_setEntry 11 = .ok (.getfield 15, 3) := by decide +kernel
theorem dX2_setEntry_14 : decode cX2_setEntry 14 = .ok (.iload_n 1, 1) := by decide +kernel
theorem dX2_setEntry_15 : decode cX2_setEntry 15 = .ok (.iload_n 2, 1) := by decide +kernel
theorem dX2_setEntry_16 : decode cX2_setEntry 16 = .ok (.iastore, 1) := by decide +kernel
theorem dX2_setEntry_17 : decode cX2_setEntry 17 = .ok (.aload_n 0, 1) := by decide +kernel
theorem dX2_setEntry_18 : decode cX2_setEntry 18 = .ok (.getfield 18, 3) := by decide +kernel
theorem dX2_setEntry_21 : decode cX2_setEntry 21 = .ok (.iload_n 1, 1) := by decide +kernel
theorem dX2_setEntry_22 : decode cX2_setEntry 22 = .ok (.iload_n 3, 1) := by decide +kernel
theorem dX2_setEntry_23 : decode cX2_setEntry 23 = .ok (.iastore, 1) := by decide +kernel
theorem dX2_setEntry_24 : decode cX2_setEntry 24 = .ok (.return_, 1) := by decide +kernel
theorem dX2_setSize_0 : decode cX2_setSize 0 = .ok (.iload_n 1, 1) := by decide +kernel
theorem dX2_setSize_1 : decode cX2_setSize 1 = .ok (.ifCond .lt 23, 3) := by decide +kernel
theorem dX2_setSize_4 : decode cX2_setSize 4 = .ok (.iload_n 1, 1) := by decide +kernel
theorem dX2_setSize_5 : decode cX2_setSize 5 = .ok (.bipush 24, 2) := by decide +kernel
theorem dX2_setSize_7 : decode cX2_setSize 7 = .ok (.if_icmp .ge 17, 3) := by decide +kernel
theorem dX2_setSize_10 : decode cX2_setSize 10 = .ok (.aload_n 0, 1) := by decide +kernel
theorem dX2_setSize_11 : decode cX2_setSize 11 = .ok (.getfield 21, 3) := by decide +kernel
theorem dX2_setSize_14 : decode cX2_setSize 14 = .ok (.iload_n 1, 1) := by decide +kernel
theorem dX2_setSize_15 : decode cX2_setSize 15 = .ok (.iload_n 2, 1) := by decide +kernel
theorem dX2_setSize_16 : decode cX2_setSize 16 = .ok (.iastore, 1) := by decide +kernel
theorem dX2_setSize_17 : decode cX2_setSize 17 = .ok (.aload_n 0, 1) := by decide +kernel
theorem dX2_setSize_18 : decode cX2_setSize 18 = .ok (.getfield 24, 3) := by decide +kernel
theorem dX2_setSize_21 : decode cX2_setSize 21 = .ok (.iload_n 1, 1) := by decide +kernel
theorem dX2_setSize_22 : decode cX2_setSize 22 = .ok (.iload_n 3, 1) := by decide +kernel
theorem dX2_setSize_23 : decode cX2_setSize 23 = .ok (.iastore, 1) := by decide +kernel
theorem dX2_setSize_24 : decode cX2_setSize 24 = .ok (.return_, 1) := by decide +kernel
theorem dX2_setBlock_0 : decode cX2_setBlock 0 = .ok (.iload_n 1, 1) := by decide +kernel
theorem dX2_setBlock_1 : decode cX2_setBlock 1 = .ok (.ifCond .lt 31, 3) := by decide +kernel
theorem dX2_setBlock_4 : decode cX2_setBlock 4 = .ok (.iload_n 1, 1) := by decide +kernel
theorem dX2_setBlock_5 : decode cX2_setBlock 5 = .ok (.bipush 24, 2) := by decide +kernel
theorem dX2_setBlock_7 : decode cX2_setBlock 7 = .ok (.if_icmp .ge 25, 3) := by decide +kernel
theorem dX2_setBlock_10 : decode cX2_setBlock 10 = .ok (.iload_n 2, 1) := by decide +kernel
theorem dX2_setBlock_11 : decode cX2_setBlock 11 = .ok (.ifCond .lt 21, 3) := by decide +kernel
theorem dX2_setBlock_14 : decode cX2_setBlock 14 = .ok (.iload_n 2, 1) := by decide +kernel
theorem dX2_setBlock_15 : decode cX2_setBlock 15 = .ok (.bipush 10, 2) := by decide +kernel
theorem dX2_setBlock_17 : decode cX2_setBlock 17 = .ok (.if_icmp .ge 15, 3) := by decide +kernel
theorem dX2_setBlock_20 : decode cX2_setBlock 20 = .ok (.aload_n 0, 1) := by decide +kernel
theorem dX2_setBlock_21 : decode cX2_setBlock 21 = .ok (.getfield 27, 3) := by decide +kernel
theorem dX2_setBlock_24 : decode cX2_setBlock 24 = .ok (.iload_n 1, 1) := by decide +kernel
theorem dX2_setBlock_25 : decode cX2_setBlock 25 = .ok (.bipush 10, 2) := by decide +kernel
theorem dX2_setBlock_27 : decode cX2_setBlock 27 = .ok (.imul, 1) := by decide +kernel
theorem dX2_setBlock_28 : decode cX2_setBlock 28 = .ok (.iload_n 2, 1) := by decide +kernel
theorem dX2_setBlock_29 : decode cX2_setBlock 29 = .ok (.iadd, 1) := by decide +kernel
theorem dX2_setBlock_30 : decode cX2_setBlock 30 = .ok (.iload_n 3, 1) := by decide +kernel
theorem dX2_setBlock_31 : decode cX2_setBlock 31 = .ok (.iastore, 1) := by decide +kernel
theorem dX2_setBlock_32 : decode cX2_setBlock 32 = .ok (.return_, 1) := by decide +kernel
theorem dX2_blockAt_0 : decode cX2_blockAt 0 = .ok (.iload_n 1, 1) := by decide +kernel
theorem dX2_blockAt_1 : decode cX2_blockAt 1 = .ok (.ifCond .lt 19, 3) := by decide +kernel
theorem dX2_blockAt_4 : decode cX2_blockAt 4 = .ok (.iload_n 1, 1) := by decide +kernel
theorem dX2_blockAt_5 : decode cX2_blockAt 5 = .ok (.bipush 24, 2) := by decide +kernel
theorem dX2_blockAt_7 : decode cX2_blockAt 7 = .ok (.if_icmp .ge 13, 3) := by decide +kernel
theorem dX2_blockAt_10 : decode cX2_blockAt 10 = .ok (.iload_n 2, 1) := by decide +kernel
theorem dX2_blockAt_11 : decode cX2_blockAt 11 = .ok (.ifCond .lt 9, 3) := by decide +kernel
theorem dX2_blockAt_14 : decode cX2_blockAt 14 = .ok (.iload_n 2, 1) := by decide +kernel
theorem dX2_blockAt_15 : decode cX2_blockAt 15 = .ok (.bipush 10, 2) := by decide +kernel
theorem dX2_blockAt_17 : decode cX2_blockAt 17 = .ok (.if_icmp .lt 6, 3) := by decide +kernel
theorem dX2_blockAt_20 : decode cX2_blockAt 20 = .ok (.bipush (-4), 2) := by decide +kernel
theorem dX2_blockAt_22 : decode cX2_blockAt 22 = .ok (.ireturn, 1) := by decide +kernel
theorem dX2_blockAt_23 : decode cX2_blockAt 23 = .ok (.aload_n 0, 1) := by decide +kernel
theorem dX2_blockAt_24 : decode cX2_blockAt 24 = .ok (.getfield 27, 3) := by decide +kernel
theorem dX2_blockAt_27 : decode cX2_blockAt 27 = .ok (.iload_n 1, 1) := by decide +kernel
theorem dX2_blockAt_28 : decode cX2_blockAt 28 = .ok (.bipush 10, 2) := by decide +kernel
theorem dX2_blockAt_30 : decode cX2_blockAt 30 = .ok (.imul, 1) := by decide +kernel
theorem dX2_blockAt_31 : decode cX2_blockAt 31 = .ok (.iload_n 2, 1) := by decide +kernel
theorem dX2_blockAt_32 : decode cX2_blockAt 32 = .ok (.iadd, 1) := by decide +kernel
theorem dX2_blockAt_33 : decode cX2_blockAt 33 = .ok (.iaload, 1) := by decide +kernel
theorem dX2_blockAt_34 : decode cX2_blockAt 34 = .ok (.ireturn, 1) := by decide +kernel
theorem dX2_isNumber_0 : decode cX2_isNumber 0 = .ok (.iload_n 1, 1) := by decide +kernel
theorem dX2_isNumber_1 : decode cX2_isNumber 1 = .ok (.ifCond .lt 18, 3) := by decide +kernel
theorem dX2_isNumber_4 : decode cX2_isNumber 4 = .ok (.iload_n 1, 1) := by decide +kernel
theorem dX2_isNumber_5 : decode cX2_isNumber 5 = .ok (.aload_n 0, 1) := by decide +kernel
theorem dX2_isNumber_6 : decode cX2_isNumber 6 = .ok (.getfield 30, 3) := by decide +kernel
theorem dX2_isNumber_9 : decode cX2_isNumber 9 = .ok (.invokevirtual 51, 3) := by decide +kernel
theorem dX2_isNumber_12 : decode cX2_isNumber 12 = .ok (.if_icmp .ge 7, 3) := by decide +kernel
theorem dX2_isNumber_15 : decode cX2_isNumber 15 = .ok (.iconst 1, 1) := by decide +kernel
theorem dX2_isNumber_16 : decode cX2_isNumber 16 = .ok (.goto 4, 3) := by decide +kernel
theorem dX2_isNumber_19 : decode cX2_isNumber 19 = .ok (.iconst 0, 1) := by decide +kernel
theorem dX2_isNumber_20 : decode cX2_isNumber 20 = .ok (.ireturn, 1) := by decide +kernel
theorem dX2_kindOf_0 : decode cX2_kindOf 0 = .ok (.iload_n 1, 1) := by decide +kernel
theorem dX2_kindOf_1 : decode cX2_kindOf 1 = .ok (.ifCond .lt 18, 3) := by decide +kernel
theorem dX2_kindOf_4 : decode cX2_kindOf 4 = .ok (.iload_n 1, 1) := by decide +kernel
theorem dX2_kindOf_5 : decode cX2_kindOf 5 = .ok (.bipush 24, 2) := by decide +kernel
theorem dX2_kindOf_7 : decode cX2_kindOf 7 = .ok (.if_icmp .ge 12, 3) := by decide +kernel
theorem dX2_kindOf_10 : decode cX2_kindOf 10 = .ok (.aload_n 0, 1) := by decide +kernel
theorem dX2_kindOf_11 : decode cX2_kindOf 11 = .ok (.getfield 9, 3) := by decide +kernel
theorem dX2_kindOf_14 : decode cX2_kindOf 14 = .ok (.iload_n 1, 1) := by decide +kernel
theorem dX2_kindOf_15 : decode cX2_kindOf 15 = .ok (.iaload, 1) := by decide +kernel
theorem dX2_kindOf_16 : decode cX2_kindOf 16 = .ok (.goto 4, 3) := by decide +kernel
theorem dX2_kindOf_19 : decode cX2_kindOf 19 = .ok (.iconst 0, 1) := by decide +kernel
theorem dX2_kindOf_20 : decode cX2_kindOf 20 = .ok (.ireturn, 1) := by decide +kernel
theorem dX2_parentOf_0 : decode cX2_parentOf 0 = .ok (.iload_n 1, 1) := by decide +kernel
theorem dX2_parentOf_1 : decode cX2_parentOf 1 = .ok (.ifCond .lt 18, 3) := by decide +kernel
theorem dX2_parentOf_4 : decode cX2_parentOf 4 = .ok (.iload_n 1, 1) := by decide +kernel
theorem dX2_parentOf_5 : decode cX2_parentOf 5 = .ok (.bipush 24, 2) := by decide +kernel
theorem dX2_parentOf_7 : decode cX2_parentOf 7 = .ok (.if_icmp .ge 12, 3) := by decide +kernel
theorem dX2_parentOf_10 : decode cX2_parentOf 10 = .ok (.aload_n 0, 1) := by decide +kernel
theorem dX2_parentOf_11 : decode cX2_parentOf 11 = .ok (.getfield 15, 3) := by decide +kernel
theorem dX2_parentOf_14 : decode cX2_parentOf 14 = .ok (.iload_n 1, 1) := by decide +kernel
theorem dX2_parentOf_15 : decode cX2_parentOf 15 = .ok (.iaload, 1) := by decide +kernel
theorem dX2_parentOf_16 : decode cX2_parentOf 16 = .ok (.goto 5, 3) := by decide +kernel
theorem dX2_parentOf_19 : decode cX2_parentOf 19 = .ok (.bipush (-4), 2) := by decide +kernel
theorem dX2_parentOf_21 : decode cX2_parentOf 21 = .ok (.ireturn, 1) := by decide +kernel
theorem dX2_nameOf_0 : decode cX2_nameOf 0 = .ok (.iload_n 1, 1) := by decide +kernel
theorem dX2_nameOf_1 : decode cX2_nameOf 1 = .ok (.ifCond .lt 18, 3) := by decide +kernel
theorem dX2_nameOf_4 : decode cX2_nameOf 4 = .ok (.iload_n 1, 1) := by decide +kernel
theorem dX2_nameOf_5 : decode cX2_nameOf 5 = .ok (.bipush 24, 2) := by decide +kernel
theorem dX2_nameOf_7 : decode cX2_nameOf 7 = .ok (.if_icmp .ge 12, 3) := by decide +kernel
theorem dX2_nameOf_10 : decode cX2_nameOf 10 = .ok (.aload_n 0, 1) := by decide +kernel
theorem dX2_nameOf_11 : decode cX2_nameOf 11 = .ok (.getfield 18, 3) := by decide +kernel
theorem dX2_nameOf_14 : decode cX2_nameOf 14 = .ok (.iload_n 1, 1) := by decide +kernel
theorem dX2_nameOf_15 : decode cX2_nameOf 15 = .ok (.iaload, 1) := by decide +kernel
theorem dX2_nameOf_16 : decode cX2_nameOf 16 = .ok (.goto 5, 3) := by decide +kernel
theorem dX2_nameOf_19 : decode cX2_nameOf 19 = .ok (.bipush (-4), 2) := by decide +kernel
theorem dX2_nameOf_21 : decode cX2_nameOf 21 = .ok (.ireturn, 1) := by decide +kernel
theorem dX2_sizeOf_0 : decode cX2_sizeOf 0 = .ok (.iload_n 1, 1) := by decide +kernel
theorem dX2_sizeOf_1 : decode cX2_sizeOf 1 = .ok (.ifCond .lt 18, 3) := by decide +kernel
theorem dX2_sizeOf_4 : decode cX2_sizeOf 4 = .ok (.iload_n 1, 1) := by decide +kernel
theorem dX2_sizeOf_5 : decode cX2_sizeOf 5 = .ok (.bipush 24, 2) := by decide +kernel
theorem dX2_sizeOf_7 : decode cX2_sizeOf 7 = .ok (.if_icmp .ge 12, 3) := by decide +kernel
theorem dX2_sizeOf_10 : decode cX2_sizeOf 10 = .ok (.aload_n 0, 1) := by decide +kernel
theorem dX2_sizeOf_11 : decode cX2_sizeOf 11 = .ok (.getfield 21, 3) := by decide +kernel
theorem dX2_sizeOf_14 : decode cX2_sizeOf 14 = .ok (.iload_n 1, 1) := by decide +kernel
theorem dX2_sizeOf_15 : decode cX2_sizeOf 15 = .ok (.iaload, 1) := by decide +kernel
theorem dX2_sizeOf_16 : decode cX2_sizeOf 16 = .ok (.goto 4, 3) := by decide +kernel
theorem dX2_sizeOf_19 : decode cX2_sizeOf 19 = .ok (.iconst 0, 1) := by decide +kernel
theorem dX2_sizeOf_20 : decode cX2_sizeOf 20 = .ok (.ireturn, 1) := by decide +kernel
theorem dX2_blocksOf_0 : decode cX2_blocksOf 0 = .ok (.iload_n 1, 1) := by decide +kernel
theorem dX2_blocksOf_1 : decode cX2_blocksOf 1 = .ok (.ifCond .lt 20, 3) := by decide +kernel
theorem dX2_blocksOf_4 : decode cX2_blocksOf 4 = .ok (.iload_n 1, 1) := by decide +kernel
theorem dX2_blocksOf_5 : decode cX2_blocksOf 5 = .ok (.bipush 24, 2) := by decide +kernel
theorem dX2_blocksOf_7 : decode cX2_blocksOf 7 = .ok (.if_icmp .ge 14, 3) := by decide +kernel
theorem dX2_blocksOf_10 : decode cX2_blocksOf 10 = .ok (.aload_n 0, 1) := by decide +kernel
theorem dX2_blocksOf_11 : decode cX2_blocksOf 11 = .ok (.getfield 21, 3) := by decide +kernel
theorem dX2_blocksOf_14 : decode cX2_blocksOf 14 = .ok (.iload_n 1, 1) := by decide +kernel
theorem dX2_blocksOf_15 : decode cX2_blocksOf 15 = .ok (.iaload, 1) := by decide +kernel
theorem dX2_blocksOf_16 : decode cX2_blocksOf 16 = .ok (.iconst 4, 1) := by decide +kernel
theorem dX2_blocksOf_17 : decode cX2_blocksOf 17 = .ok (.idiv, 1) := by decide +kernel
theorem dX2_blocksOf_18 : decode cX2_blocksOf 18 = .ok (.goto 4, 3) := by decide +kernel
theorem dX2_blocksOf_21 : decode cX2_blocksOf 21 = .ok (.iconst 0, 1) := by decide +kernel
theorem dX2_blocksOf_22 : decode cX2_blocksOf 22 = .ok (.ireturn, 1) := by decide +kernel
theorem dX2_tailOf_0 : decode cX2_tailOf 0 = .ok (.iload_n 1, 1) := by decide +kernel
theorem dX2_tailOf_1 : decode cX2_tailOf 1 = .ok (.ifCond .lt 18, 3) := by decide +kernel
theorem dX2_tailOf_4 : decode cX2_tailOf 4 = .ok (.iload_n 1, 1) := by decide +kernel
theorem dX2_tailOf_5 : decode cX2_tailOf 5 = .ok (.bipush 24, 2) := by decide +kernel
theorem dX2_tailOf_7 : decode cX2_tailOf 7 = .ok (.if_icmp .ge 12, 3) := by decide +kernel
theorem dX2_tailOf_10 : decode cX2_tailOf 10 = .ok (.aload_n 0, 1) := by decide +kernel
theorem dX2_tailOf_11 : decode cX2_tailOf 11 = .ok (.getfield 24, 3) := by decide +kernel
theorem dX2_tailOf_14 : decode cX2_tailOf 14 = .ok (.iload_n 1, 1) := by decide +kernel
theorem dX2_tailOf_15 : decode cX2_tailOf 15 = .ok (.iaload, 1) := by decide +kernel
theorem dX2_tailOf_16 : decode cX2_tailOf 16 = .ok (.goto 5, 3) := by decide +kernel
theorem dX2_tailOf_19 : decode cX2_tailOf 19 = .ok (.bipush (-4), 2) := by decide +kernel
theorem dX2_tailOf_21 : decode cX2_tailOf 21 = .ok (.ireturn, 1) := by decide +kernel
theorem dX2_tailLengthOf_0 : decode cX2_tailLengthOf 0 = .ok (.iload_n 1, 1) := by decide +kernel
theorem dX2_tailLengthOf_1 : decode cX2_tailLengthOf 1 = .ok (.ifCond .lt 20, 3) := by decide +kernel
theorem dX2_tailLengthOf_4 : decode cX2_tailLengthOf 4 = .ok (.iload_n 1, 1) := by decide +kernel
theorem dX2_tailLengthOf_5 : decode cX2_tailLengthOf 5 = .ok (.bipush 24, 2) := by decide +kernel
theorem dX2_tailLengthOf_7 : decode cX2_tailLengthOf 7 = .ok (.if_icmp .ge 14, 3) := by decide +kernel
theorem dX2_tailLengthOf_10 : decode cX2_tailLengthOf 10 = .ok (.aload_n 0, 1) := by decide +kernel
theorem dX2_tailLengthOf_11 : decode cX2_tailLengthOf 11 = .ok (.getfield 21, 3) := by decide +kernel
theorem dX2_tailLengthOf_14 : decode cX2_tailLengthOf 14 = .ok (.iload_n 1, 1) := by decide +kernel
theorem dX2_tailLengthOf_15 : decode cX2_tailLengthOf 15 = .ok (.iaload, 1) := by decide +kernel
theorem dX2_tailLengthOf_16 : decode cX2_tailLengthOf 16 = .ok (.iconst 4, 1) := by decide +kernel
theorem dX2_tailLengthOf_17 : decode cX2_tailLengthOf 17 = .ok (.irem, 1) := by decide +kernel
theorem dX2_tailLengthOf_18 : decode cX2_tailLengthOf 18 = .ok (.goto 4, 3) := by decide +kernel
theorem dX2_tailLengthOf_21 : decode cX2_tailLengthOf 21 = .ok (.iconst 0, 1) := by decide +kernel
theorem dX2_tailLengthOf_22 : decode cX2_tailLengthOf 22 = .ok (.ireturn, 1) := by decide +kernel
theorem dX2_howManyIn_0 : decode cX2_howManyIn 0 = .ok (.iconst 0, 1) := by decide +kernel
theorem dX2_howManyIn_1 : decode cX2_howManyIn 1 = .ok (.istore_n 3, 1) := by decide +kernel
theorem dX2_howManyIn_2 : decode cX2_howManyIn 2 = .ok (.iconst 0, 1) := by decide +kernel
theorem dX2_howManyIn_3 : decode cX2_howManyIn 3 = .ok (.istore 4, 2) := by decide +kernel
theorem dX2_howManyIn_5 : decode cX2_howManyIn 5 = .ok (.iload 4, 2) := by decide +kernel
theorem dX2_howManyIn_7 : decode cX2_howManyIn 7 = .ok (.aload_n 0, 1) := by decide +kernel
theorem dX2_howManyIn_8 : decode cX2_howManyIn 8 = .ok (.getfield 30, 3) := by decide +kernel
theorem dX2_howManyIn_11 : decode cX2_howManyIn 11 = .ok (.getfield 57, 3) := by decide +kernel
theorem dX2_howManyIn_14 : decode cX2_howManyIn 14 = .ok (.if_icmp .ge 32, 3) := by decide +kernel
theorem dX2_howManyIn_17 : decode cX2_howManyIn 17 = .ok (.aload_n 0, 1) := by decide +kernel
theorem dX2_howManyIn_18 : decode cX2_howManyIn 18 = .ok (.iload_n 1, 1) := by decide +kernel
theorem dX2_howManyIn_19 : decode cX2_howManyIn 19 = .ok (.aload_n 0, 1) := by decide +kernel
theorem dX2_howManyIn_20 : decode cX2_howManyIn 20 = .ok (.getfield 30, 3) := by decide +kernel
theorem dX2_howManyIn_23 : decode cX2_howManyIn 23 = .ok (.getfield 57, 3) := by decide +kernel
theorem dX2_howManyIn_26 : decode cX2_howManyIn 26 = .ok (.imul, 1) := by decide +kernel
theorem dX2_howManyIn_27 : decode cX2_howManyIn 27 = .ok (.iload 4, 2) := by decide +kernel
theorem dX2_howManyIn_29 : decode cX2_howManyIn 29 = .ok (.iadd, 1) := by decide +kernel
theorem dX2_howManyIn_30 : decode cX2_howManyIn 30 = .ok (.invokevirtual 61, 3) := by decide +kernel
theorem dX2_howManyIn_33 : decode cX2_howManyIn 33 = .ok (.iload_n 2, 1) := by decide +kernel
theorem dX2_howManyIn_34 : decode cX2_howManyIn 34 = .ok (.if_icmp .ne 6, 3) := by decide +kernel
theorem dX2_howManyIn_37 : decode cX2_howManyIn 37 = .ok (.iinc 3 1, 3) := by decide +kernel
theorem dX2_howManyIn_40 : decode cX2_howManyIn 40 = .ok (.iinc 4 1, 3) := by decide +kernel
theorem dX2_howManyIn_43 : decode cX2_howManyIn 43 = .ok (.goto (-38), 3) := by decide +kernel
theorem dX2_howManyIn_46 : decode cX2_howManyIn 46 = .ok (.iload_n 3, 1) := by decide +kernel
theorem dX2_howManyIn_47 : decode cX2_howManyIn 47 = .ok (.ireturn, 1) := by decide +kernel
theorem dX2_howMany_0 : decode cX2_howMany 0 = .ok (.iconst 0, 1) := by decide +kernel
theorem dX2_howMany_1 : decode cX2_howMany 1 = .ok (.istore_n 2, 1) := by decide +kernel
theorem dX2_howMany_2 : decode cX2_howMany 2 = .ok (.iconst 0, 1) := by decide +kernel
theorem dX2_howMany_3 : decode cX2_howMany 3 = .ok (.istore_n 3, 1) := by decide +kernel
theorem dX2_howMany_4 : decode cX2_howMany 4 = .ok (.iload_n 3, 1) := by decide +kernel
theorem dX2_howMany_5 : decode cX2_howMany 5 = .ok (.aload_n 0, 1) := by decide +kernel
theorem dX2_howMany_6 : decode cX2_howMany 6 = .ok (.getfield 30, 3) := by decide +kernel
theorem dX2_howMany_9 : decode cX2_howMany 9 = .ok (.invokevirtual 51, 3) := by decide +kernel
theorem dX2_howMany_12 : decode cX2_howMany 12 = .ok (.if_icmp .ge 21, 3) := by decide +kernel
theorem dX2_howMany_15 : decode cX2_howMany 15 = .ok (.aload_n 0, 1) := by decide +kernel
theorem dX2_howMany_16 : decode cX2_howMany 16 = .ok (.iload_n 3, 1) := by decide +kernel
theorem dX2_howMany_17 : decode cX2_howMany 17 = .ok (.invokevirtual 61, 3) := by decide +kernel
theorem dX2_howMany_20 : decode cX2_howMany 20 = .ok (.iload_n 1, 1) := by decide +kernel
theorem dX2_howMany_21 : decode cX2_howMany 21 = .ok (.if_icmp .ne 6, 3) := by decide +kernel
theorem dX2_howMany_24 : decode cX2_howMany 24 = .ok (.iinc 2 1, 3) := by decide +kernel
theorem dX2_howMany_27 : decode cX2_howMany 27 = .ok (.iinc 3 1, 3) := by decide +kernel
theorem dX2_howMany_30 : decode cX2_howMany 30 = .ok (.goto (-26), 3) := by decide +kernel
theorem dX2_howMany_33 : decode cX2_howMany 33 = .ok (.iload_n 2, 1) := by decide +kernel
theorem dX2_howMany_34 : decode cX2_howMany 34 = .ok (.ireturn, 1) := by decide +kernel
theorem dX2_howManyAreThere_0 : decode cX2_howManyAreThere 0 = .ok (.aload_n 0, 1) := by decide +kernel
theorem dX2_howManyAreThere_1 : decode cX2_howManyAreThere 1 = .ok (.getfield 30, 3) := by decide +kernel
theorem dX2_howManyAreThere_4 : decode cX2_howManyAreThere 4 = .ok (.invokevirtual 51, 3) := by decide +kernel
theorem dX2_howManyAreThere_7 : decode cX2_howManyAreThere 7 = .ok (.aload_n 0, 1) := by decide +kernel
theorem dX2_howManyAreThere_8 : decode cX2_howManyAreThere 8 = .ok (.iconst 0, 1) := by decide +kernel
theorem dX2_howManyAreThere_9 : decode cX2_howManyAreThere 9 = .ok (.invokevirtual 65, 3) := by decide +kernel
theorem dX2_howManyAreThere_12 : decode cX2_howManyAreThere 12 = .ok (.isub, 1) := by decide +kernel
theorem dX2_howManyAreThere_13 : decode cX2_howManyAreThere 13 = .ok (.ireturn, 1) := by decide +kernel
theorem dX2_sizesOfAll_0 : decode cX2_sizesOfAll 0 = .ok (.iconst 0, 1) := by decide +kernel
theorem dX2_sizesOfAll_1 : decode cX2_sizesOfAll 1 = .ok (.istore_n 1, 1) := by decide +kernel
theorem dX2_sizesOfAll_2 : decode cX2_sizesOfAll 2 = .ok (.iconst 0, 1) := by decide +kernel
theorem dX2_sizesOfAll_3 : decode cX2_sizesOfAll 3 = .ok (.istore_n 2, 1) := by decide +kernel
theorem dX2_sizesOfAll_4 : decode cX2_sizesOfAll 4 = .ok (.iload_n 2, 1) := by decide +kernel
theorem dX2_sizesOfAll_5 : decode cX2_sizesOfAll 5 = .ok (.aload_n 0, 1) := by decide +kernel
theorem dX2_sizesOfAll_6 : decode cX2_sizesOfAll 6 = .ok (.getfield 30, 3) := by decide +kernel
theorem dX2_sizesOfAll_9 : decode cX2_sizesOfAll 9 = .ok (.invokevirtual 51, 3) := by decide +kernel
theorem dX2_sizesOfAll_12 : decode cX2_sizesOfAll 12 = .ok (.if_icmp .ge 17, 3) := by decide +kernel
theorem dX2_sizesOfAll_15 : decode cX2_sizesOfAll 15 = .ok (.iload_n 1, 1) := by decide +kernel
theorem dX2_sizesOfAll_16 : decode cX2_sizesOfAll 16 = .ok (.aload_n 0, 1) := by decide +kernel
theorem dX2_sizesOfAll_17 : decode cX2_sizesOfAll 17 = .ok (.iload_n 2, 1) := by decide +kernel
theorem dX2_sizesOfAll_18 : decode cX2_sizesOfAll 18 = .ok (.invokevirtual 68, 3) := by decide +kernel
theorem dX2_sizesOfAll_21 : decode cX2_sizesOfAll 21 = .ok (.iadd, 1) := by decide +kernel
theorem dX2_sizesOfAll_22 : decode cX2_sizesOfAll 22 = .ok (.istore_n 1, 1) := by decide +kernel
theorem dX2_sizesOfAll_23 : decode cX2_sizesOfAll 23 = .ok (.iinc 2 1, 3) := by decide +kernel
theorem dX2_sizesOfAll_26 : decode cX2_sizesOfAll 26 = .ok (.goto (-22), 3) := by decide +kernel
theorem dX2_sizesOfAll_29 : decode cX2_sizesOfAll 29 = .ok (.iload_n 1, 1) := by decide +kernel
theorem dX2_sizesOfAll_30 : decode cX2_sizesOfAll 30 = .ok (.ireturn, 1) := by decide +kernel
theorem dX2_firstNothingIn_0 : decode cX2_firstNothingIn 0 = .ok (.iconst 0, 1) := by decide +kernel
theorem dX2_firstNothingIn_1 : decode cX2_firstNothingIn 1 = .ok (.istore_n 2, 1) := by decide +kernel
theorem dX2_firstNothingIn_2 : decode cX2_firstNothingIn 2 = .ok (.iload_n 2, 1) := by decide +kernel
theorem dX2_firstNothingIn_3 : decode cX2_firstNothingIn 3 = .ok (.aload_n 0, 1) := by decide +kernel
theorem dX2_firstNothingIn_4 : decode cX2_firstNothingIn 4 = .ok (.getfield 30, 3) := by decide +kernel
theorem dX2_firstNothingIn_7 : decode cX2_firstNothingIn 7 = .ok (.getfield 57, 3) := by decide +kernel
theorem dX2_firstNothingIn_10 : decode cX2_firstNothingIn 10 = .ok (.if_icmp .ge 31, 3) := by decide +kernel
theorem dX2_firstNothingIn_13 : decode cX2_firstNothingIn 13 = .ok (.iload_n 1, 1) := by decide +kernel
theorem dX2_firstNothingIn_14 : decode cX2_firstNothingIn 14 = .ok (.aload_n 0, 1) := by decide +kernel
theorem dX2_firstNothingIn_15 : decode cX2_firstNothingIn 15 = .ok (.getfield 30, 3) := by decide +kernel
theorem dX2_firstNothingIn_18 : decode cX2_firstNothingIn 18 = .ok (.getfield 57, 3) := by decide +kernel
theorem dX2_firstNothingIn_21 : decode cX2_firstNothingIn 21 = .ok (.imul, 1) := by decide +kernel
theorem dX2_firstNothingIn_22 : decode cX2_firstNothingIn 22 = .ok (.iload_n 2, 1) := by decide +kernel
theorem dX2_firstNothingIn_23 : decode cX2_firstNothingIn 23 = .ok (.iadd, 1) := by decide +kernel
theorem dX2_firstNothingIn_24 : decode cX2_firstNothingIn 24 = .ok (.istore_n 3, 1) := by decide +kernel
theorem dX2_firstNothingIn_25 : decode cX2_firstNothingIn 25 = .ok (.aload_n 0, 1) := by decide +kernel
theorem dX2_firstNothingIn_26 : decode cX2_firstNothingIn 26 = .ok (.iload_n 3, 1) := by decide +kernel
theorem dX2_firstNothingIn_27 : decode cX2_firstNothingIn 27 = .ok (.invokevirtual 61, 3) := by decide +kernel
theorem dX2_firstNothingIn_30 : decode cX2_firstNothingIn 30 = .ok (.ifCond .ne 5, 3) := by decide +kernel
theorem dX2_firstNothingIn_33 : decode cX2_firstNothingIn 33 = .ok (.iload_n 3, 1) := by decide +kernel
theorem dX2_firstNothingIn_34 : decode cX2_firstNothingIn 34 = .ok (.ireturn, 1) := by decide +kernel
theorem dX2_firstNothingIn_35 : decode cX2_firstNothingIn 35 = .ok (.iinc 2 1, 3) := by decide +kernel
theorem dX2_firstNothingIn_38 : decode cX2_firstNothingIn 38 = .ok (.goto (-36), 3) := by decide +kernel
theorem dX2_firstNothingIn_41 : decode cX2_firstNothingIn 41 = .ok (.bipush (-4), 2) := by decide +kernel
theorem dX2_firstNothingIn_43 : decode cX2_firstNothingIn 43 = .ok (.ireturn, 1) := by decide +kernel
theorem dX2_named_0 : decode cX2_named 0 = .ok (.iconst 0, 1) := by decide +kernel
theorem dX2_named_1 : decode cX2_named 1 = .ok (.istore_n 3, 1) := by decide +kernel
theorem dX2_named_2 : decode cX2_named 2 = .ok (.iload_n 3, 1) := by decide +kernel
theorem dX2_named_3 : decode cX2_named 3 = .ok (.aload_n 0, 1) := by decide +kernel
theorem dX2_named_4 : decode cX2_named 4 = .ok (.getfield 30, 3) := by decide +kernel
theorem dX2_named_7 : decode cX2_named 7 = .ok (.invokevirtual 51, 3) := by decide +kernel
theorem dX2_named_10 : decode cX2_named 10 = .ok (.if_icmp .ge 37, 3) := by decide +kernel
theorem dX2_named_13 : decode cX2_named 13 = .ok (.aload_n 0, 1) := by decide +kernel
theorem dX2_named_14 : decode cX2_named 14 = .ok (.iload_n 3, 1) := by decide +kernel
theorem dX2_named_15 : decode cX2_named 15 = .ok (.invokevirtual 61, 3) := by decide +kernel
theorem dX2_named_18 : decode cX2_named 18 = .ok (.ifCond .eq 23, 3) := by decide +kernel
theorem dX2_named_21 : decode cX2_named 21 = .ok (.aload_n 0, 1) := by decide +kernel
theorem dX2_named_22 : decode cX2_named 22 = .ok (.iload_n 3, 1) := by decide +kernel
theorem dX2_named_23 : decode cX2_named 23 = .ok (.invokevirtual 71, 3) := by decide +kernel
theorem dX2_named_26 : decode cX2_named 26 = .ok (.iload_n 1, 1) := by decide +kernel
theorem dX2_named_27 : decode cX2_named 27 = .ok (.if_icmp .ne 14, 3) := by decide +kernel
theorem dX2_named_30 : decode cX2_named 30 = .ok (.aload_n 0, 1) := by decide +kernel
theorem dX2_named_31 : decode cX2_named 31 = .ok (.iload_n 3, 1) := by decide +kernel
theorem dX2_named_32 : decode cX2_named 32 = .ok (.invokevirtual 74, 3) := by decide +kernel
theorem dX2_named_35 : decode cX2_named 35 = .ok (.iload_n 2, 1) := by decide +kernel
theorem dX2_named_36 : decode cX2_named 36 = .ok (.if_icmp .ne 5, 3) := by decide +kernel
theorem dX2_named_39 : decode cX2_named 39 = .ok (.iload_n 3, 1) := by decide +kernel
theorem dX2_named_40 : decode cX2_named 40 = .ok (.ireturn, 1) := by decide +kernel
theorem dX2_named_41 : decode cX2_named 41 = .ok (.iinc 3 1, 3) := by decide +kernel
theorem dX2_named_44 : decode cX2_named 44 = .ok (.goto (-42), 3) := by decide +kernel
theorem dX2_named_47 : decode cX2_named 47 = .ok (.bipush (-4), 2) := by decide +kernel
theorem dX2_named_49 : decode cX2_named 49 = .ok (.ireturn, 1) := by decide +kernel
theorem dX2_hasOthers_0 : decode cX2_hasOthers 0 = .ok (.iconst 0, 1) := by decide +kernel
theorem dX2_hasOthers_1 : decode cX2_hasOthers 1 = .ok (.istore_n 2, 1) := by decide +kernel
theorem dX2_hasOthers_2 : decode cX2_hasOthers 2 = .ok (.iload_n 2, 1) := by decide +kernel
theorem dX2_hasOthers_3 : decode cX2_hasOthers 3 = .ok (.aload_n 0, 1) := by decide +kernel
theorem dX2_hasOthers_4 : decode cX2_hasOthers 4 = .ok (.getfield 30, 3) := by decide +kernel
theorem dX2_hasOthers_7 : decode cX2_hasOthers 7 = .ok (.invokevirtual 51, 3) := by decide +kernel
theorem dX2_hasOthers_10 : decode cX2_hasOthers 10 = .ok (.if_icmp .ge 28, 3) := by decide +kernel
theorem dX2_hasOthers_13 : decode cX2_hasOthers 13 = .ok (.aload_n 0, 1) := by decide +kernel
theorem dX2_hasOthers_14 : decode cX2_hasOthers 14 = .ok (.iload_n 2, 1) := by decide +kernel
theorem dX2_hasOthers_15 : decode cX2_hasOthers 15 = .ok (.invokevirtual 61, 3) := by decide +kernel
theorem dX2_hasOthers_18 : decode cX2_hasOthers 18 = .ok (.ifCond .eq 14, 3) := by decide +kernel
theorem dX2_hasOthers_21 : decode cX2_hasOthers 21 = .ok (.aload_n 0, 1) := by decide +kernel
theorem dX2_hasOthers_22 : decode cX2_hasOthers 22 = .ok (.iload_n 2, 1) := by decide +kernel
theorem dX2_hasOthers_23 : decode cX2_hasOthers 23 = .ok (.invokevirtual 71, 3) := by decide +kernel
theorem dX2_hasOthers_26 : decode cX2_hasOthers 26 = .ok (.iload_n 1, 1) := by decide +kernel
theorem dX2_hasOthers_27 : decode cX2_hasOthers 27 = .ok (.if_icmp .ne 5, 3) := by decide +kernel
theorem dX2_hasOthers_30 : decode cX2_hasOthers 30 = .ok (.iconst 1, 1) := by decide +kernel
theorem dX2_hasOthers_31 : decode cX2_hasOthers 31 = .ok (.ireturn, 1) := by decide +kernel
theorem dX2_hasOthers_32 : decode cX2_hasOthers 32 = .ok (.iinc 2 1, 3) := by decide +kernel
theorem dX2_hasOthers_35 : decode cX2_hasOthers 35 = .ok (.goto (-33), 3) := by decide +kernel
theorem dX2_hasOthers_38 : decode cX2_hasOthers 38 = .ok (.iconst 0, 1) := by decide +kernel
theorem dX2_hasOthers_39 : decode cX2_hasOthers 39 = .ok (.ireturn, 1) := by decide +kernel
theorem dX2_depthBelow_0 : decode cX2_depthBelow 0 = .ok (.iload_n 2, 1) := by decide +kernel
theorem dX2_depthBelow_1 : decode cX2_depthBelow 1 = .ok (.istore_n 3, 1) := by decide +kernel
theorem dX2_depthBelow_2 : decode cX2_depthBelow 2 = .ok (.iconst 0, 1) := by decide +kernel
theorem dX2_depthBelow_3 : decode cX2_depthBelow 3 = .ok (.istore 4, 2) := by decide +kernel
theorem dX2_depthBelow_5 : decode cX2_depthBelow 5 = .ok (.iload 4, 2) := by decide +kernel
theorem dX2_depthBelow_7 : decode cX2_depthBelow 7 = .ok (.bipush 24, 2) := by decide +kernel
theorem dX2_depthBelow_9 : decode cX2_depthBelow 9 = .ok (.if_icmp .ge 30, 3) := by decide +kernel
theorem dX2_depthBelow_12 : decode cX2_depthBelow 12 = .ok (.iload_n 3, 1) := by decide +kernel
theorem dX2_depthBelow_13 : decode cX2_depthBelow 13 = .ok (.iload_n 1, 1) := by decide +kernel
theorem dX2_depthBelow_14 : decode cX2_depthBelow 14 = .ok (.if_icmp .ne 6, 3) := by decide +kernel
theorem dX2_depthBelow_17 : decode cX2_depthBelow 17 = .ok (.iload 4, 2) := by decide +kernel
theorem dX2_depthBelow_19 : decode cX2_depthBelow 19 = .ok (.ireturn, 1) := by decide +kernel
theorem dX2_depthBelow_20 : decode cX2_depthBelow 20 = .ok (.iload_n 3, 1) := by decide +kernel
theorem dX2_depthBelow_21 : decode cX2_depthBelow 21 = .ok (.ifCond .ge 6, 3) := by decide +kernel
theorem dX2_depthBelow_24 : decode cX2_depthBelow 24 = .ok (.bipush (-4), 2) := by decide +kernel
theorem dX2_depthBelow_26 : decode cX2_depthBelow 26 = .ok (.ireturn, 1) := by decide +kernel
theorem dX2_depthBelow_27 : decode cX2_depthBelow 27 = .ok (.aload_n 0, 1) := by decide +kernel
theorem dX2_depthBelow_28 : decode cX2_depthBelow 28 = .ok (.iload_n 3, 1) := by decide +kernel
theorem dX2_depthBelow_29 : decode cX2_depthBelow 29 = .ok (.invokevirtual 71, 3) := by decide +kernel
theorem dX2_depthBelow_32 : decode cX2_depthBelow 32 = .ok (.istore_n 3, 1) := by decide +kernel
theorem dX2_depthBelow_33 : decode cX2_depthBelow 33 = .ok (.iinc 4 1, 3) := by decide +kernel
theorem dX2_depthBelow_36 : decode cX2_depthBelow 36 = .ok (.goto (-31), 3) := by decide +kernel
theorem dX2_depthBelow_39 : decode cX2_depthBelow 39 = .ok (.bipush (-4), 2) := by decide +kernel
theorem dX2_depthBelow_41 : decode cX2_depthBelow 41 = .ok (.ireturn, 1) := by decide +kernel
theorem dX2_ownerOf_0 : decode cX2_ownerOf 0 = .ok (.iconst 0, 1) := by decide +kernel
theorem dX2_ownerOf_1 : decode cX2_ownerOf 1 = .ok (.istore_n 2, 1) := by decide +kernel
theorem dX2_ownerOf_2 : decode cX2_ownerOf 2 = .ok (.iload_n 2, 1) := by decide +kernel
theorem dX2_ownerOf_3 : decode cX2_ownerOf 3 = .ok (.aload_n 0, 1) := by decide +kernel
theorem dX2_ownerOf_4 : decode cX2_ownerOf 4 = .ok (.getfield 30, 3) := by decide +kernel
theorem dX2_ownerOf_7 : decode cX2_ownerOf 7 = .ok (.invokevirtual 51, 3) := by decide +kernel
theorem dX2_ownerOf_10 : decode cX2_ownerOf 10 = .ok (.if_icmp .ge 74, 3) := by decide +kernel
theorem dX2_ownerOf_13 : decode cX2_ownerOf 13 = .ok (.aload_n 0, 1) := by decide +kernel
theorem dX2_ownerOf_14 : decode cX2_ownerOf 14 = .ok (.iload_n 2, 1) := by decide +kernel
theorem dX2_ownerOf_15 : decode cX2_ownerOf 15 = .ok (.invokevirtual 77, 3) := by decide +kernel
theorem dX2_ownerOf_18 : decode cX2_ownerOf 18 = .ok (.ifCond .le 29, 3) := by decide +kernel
theorem dX2_ownerOf_21 : decode cX2_ownerOf 21 = .ok (.iload_n 1, 1) := by decide +kernel
theorem dX2_ownerOf_22 : decode cX2_ownerOf 22 = .ok (.aload_n 0, 1) := by decide +kernel
theorem dX2_ownerOf_23 : decode cX2_ownerOf 23 = .ok (.iload_n 2, 1) := by decide +kernel
theorem dX2_ownerOf_24 : decode cX2_ownerOf 24 = .ok (.invokevirtual 80, 3) := by decide +kernel
theorem dX2_ownerOf_27 : decode cX2_ownerOf 27 = .ok (.if_icmp .lt 20, 3) := by decide +kernel
theorem dX2_ownerOf_30 : decode cX2_ownerOf 30 = .ok (.iload_n 1, 1) := by decide +kernel
theorem dX2_ownerOf_31 : decode cX2_ownerOf 31 = .ok (.aload_n 0, 1) := by decide +kernel
theorem dX2_ownerOf_32 : decode cX2_ownerOf 32 = .ok (.iload_n 2, 1) := by decide +kernel
theorem dX2_ownerOf_33 : decode cX2_ownerOf 33 = .ok (.invokevirtual 80, 3) := by decide +kernel
theorem dX2_ownerOf_36 : decode cX2_ownerOf 36 = .ok (.aload_n 0, 1) := by decide +kernel
theorem dX2_ownerOf_37 : decode cX2_ownerOf 37 = .ok (.iload_n 2, 1) := by decide +kernel
theorem dX2_ownerOf_38 : decode cX2_ownerOf 38 = .ok (.invokevirtual 77, 3) := by decide +kernel
theorem dX2_ownerOf_41 : decode cX2_ownerOf 41 = .ok (.iadd, 1) := by decide +kernel
theorem dX2_ownerOf_42 : decode cX2_ownerOf 42 = .ok (.if_icmp .ge 5, 3) := by decide +kernel
theorem dX2_ownerOf_45 : decode cX2_ownerOf 45 = .ok (.iload_n 2, 1) := by decide +kernel
theorem dX2_ownerOf_46 : decode cX2_ownerOf 46 = .ok (.ireturn, 1) := by decide +kernel
theorem dX2_ownerOf_47 : decode cX2_ownerOf 47 = .ok (.iconst 0, 1) := by decide +kernel
theorem dX2_ownerOf_48 : decode cX2_ownerOf 48 = .ok (.istore_n 3, 1) := by decide +kernel
theorem dX2_ownerOf_49 : decode cX2_ownerOf 49 = .ok (.iload_n 3, 1) := by decide +kernel
theorem dX2_ownerOf_50 : decode cX2_ownerOf 50 = .ok (.aload_n 0, 1) := by decide +kernel
theorem dX2_ownerOf_51 : decode cX2_ownerOf 51 = .ok (.iload_n 2, 1) := by decide +kernel
theorem dX2_ownerOf_52 : decode cX2_ownerOf 52 = .ok (.invokevirtual 83, 3) := by decide +kernel
theorem dX2_ownerOf_55 : decode cX2_ownerOf 55 = .ok (.if_icmp .ge 23, 3) := by decide +kernel
theorem dX2_ownerOf_58 : decode cX2_ownerOf 58 = .ok (.iload_n 1, 1) := by decide +kernel
theorem dX2_ownerOf_59 : decode cX2_ownerOf 59 = .ok (.iconst 4, 1) := by decide +kernel
theorem dX2_ownerOf_60 : decode cX2_ownerOf 60 = .ok (.idiv, 1) := by decide +kernel
theorem dX2_ownerOf_61 : decode cX2_ownerOf 61 = .ok (.aload_n 0, 1) := by decide +kernel
theorem dX2_ownerOf_62 : decode cX2_ownerOf 62 = .ok (.iload_n 2, 1) := by decide +kernel
theorem dX2_ownerOf_63 : decode cX2_ownerOf 63 = .ok (.iload_n 3, 1) := by decide +kernel
theorem dX2_ownerOf_64 : decode cX2_ownerOf 64 = .ok (.invokevirtual 86, 3) := by decide +kernel
theorem dX2_ownerOf_67 : decode cX2_ownerOf 67 = .ok (.if_icmp .ne 5, 3) := by decide +kernel
theorem dX2_ownerOf_70 : decode cX2_ownerOf 70 = .ok (.iload_n 2, 1) := by decide +kernel
theorem dX2_ownerOf_71 : decode cX2_ownerOf 71 = .ok (.ireturn, 1) := by decide +kernel
theorem dX2_ownerOf_72 : decode cX2_ownerOf 72 = .ok (.iinc 3 1, 3) := by decide +kernel
theorem dX2_ownerOf_75 : decode cX2_ownerOf 75 = .ok (.goto (-26), 3) := by decide +kernel
theorem dX2_ownerOf_78 : decode cX2_ownerOf 78 = .ok (.iinc 2 1, 3) := by decide +kernel
theorem dX2_ownerOf_81 : decode cX2_ownerOf 81 = .ok (.goto (-79), 3) := by decide +kernel
theorem dX2_ownerOf_84 : decode cX2_ownerOf 84 = .ok (.bipush (-4), 2) := by decide +kernel
theorem dX2_ownerOf_86 : decode cX2_ownerOf 86 = .ok (.ireturn, 1) := by decide +kernel
theorem dX3_init_0 : decode cX3_init 0 = .ok (.aload_n 0, 1) := by decide +kernel
theorem dX3_init_1 : decode cX3_init 1 = .ok (.invokespecial 3, 3) := by decide +kernel
theorem dX3_init_4 : decode cX3_init 4 = .ok (.return_, 1) := by decide +kernel
theorem dX3_set_0 : decode cX3_set 0 = .ok (.aload_n 1, 1) := by decide +kernel
theorem dX3_set_1 : decode cX3_set 1 = .ok (.ifnull 10, 3) := by decide +kernel
theorem dX3_set_4 : decode cX3_set 4 = .ok (.aload_n 1, 1) := by decide +kernel
theorem dX3_set_5 : decode cX3_set 5 = .ok (.arraylength, 1) := by decide +kernel
theorem dX3_set_6 : decode cX3_set 6 = .ok (.bipush 6, 2) := by decide +kernel
theorem dX3_set_8 : decode cX3_set 8 = .ok (.if_icmp .ge 4, 3) := by decide +kernel
theorem dX3_set_11 : decode cX3_set 11 = .ok (.return_, 1) := by decide +kernel
theorem dX3_set_12 : decode cX3_set 12 = .ok (.aload_n 0, 1) := by decide +kernel
theorem dX3_set_13 : decode cX3_set 13 = .ok (.aload_n 1, 1) := by decide +kernel
theorem dX3_set_14 : decode cX3_set 14 = .ok (.iconst 0, 1) := by decide +kernel
theorem dX3_set_15 : decode cX3_set 15 = .ok (.iaload, 1) := by decide +kernel
theorem dX3_set_16 : decode cX3_set 16 = .ok (.putfield 9, 3) := by decide +kernel
theorem dX3_set_19 : decode cX3_set 19 = .ok (.aload_n 0, 1) := by decide +kernel
theorem dX3_set_20 : decode cX3_set 20 = .ok (.aload_n 1, 1) := by decide +kernel
theorem dX3_set_21 : decode cX3_set 21 = .ok (.iconst 1, 1) := by decide +kernel
theorem dX3_set_22 : decode cX3_set 22 = .ok (.iaload, 1) := by decide +kernel
theorem dX3_set_23 : decode cX3_set 23 = .ok (.putfield 15, 3) := by decide +kernel
theorem dX3_set_26 : decode cX3_set 26 = .ok (.aload_n 0, 1) := by decide +kernel
theorem dX3_set_27 : decode cX3_set 27 = .ok (.aload_n 1, 1) := by decide +kernel
theorem dX3_set_28 : decode cX3_set 28 = .ok (.iconst 2, 1) := by decide +kernel
theorem dX3_set_29 : decode cX3_set 29 = .ok (.iaload, 1) := by decide +kernel
theorem dX3_set_30 : decode cX3_set 30 = .ok (.putfield 18, 3) := by decide +kernel
theorem dX3_set_33 : decode cX3_set 33 = .ok (.aload_n 0, 1) := by decide +kernel
theorem dX3_set_34 : decode cX3_set 34 = .ok (.aload_n 1, 1) := by decide +kernel
theorem dX3_set_35 : decode cX3_set 35 = .ok (.iconst 3, 1) := by decide +kernel
theorem dX3_set_36 : decode cX3_set 36 = .ok (.iaload, 1) := by decide +kernel
theorem dX3_set_37 : decode cX3_set 37 = .ok (.putfield 21, 3) := by decide +kernel
theorem dX3_set_40 : decode cX3_set 40 = .ok (.aload_n 0, 1) := by decide +kernel
theorem dX3_set_41 : decode cX3_set 41 = .ok (.aload_n 1, 1) := by decide +kernel
theorem dX3_set_42 : decode cX3_set 42 = .ok (.iconst 4, 1) := by decide +kernel
theorem dX3_set_43 : decode cX3_set 43 = .ok (.iaload, 1) := by decide +kernel
theorem dX3_set_44 : decode cX3_set 44 = .ok (.putfield 24, 3) := by decide +kernel
theorem dX3_set_47 : decode cX3_set 47 = .ok (.aload_n 0, 1) := by decide +kernel
theorem dX3_set_48 : decode cX3_set 48 = .ok (.aload_n 1, 1) := by decide +kernel
theorem dX3_set_49 : decode cX3_set 49 = .ok (.iconst 5, 1) := by decide +kernel
theorem dX3_set_50 : decode cX3_set 50 = .ok (.iaload, 1) := by decide +kernel
theorem dX3_set_51 : decode cX3_set 51 = .ok (.putfield 27, 3) := by decide +kernel
theorem dX3_set_54 : decode cX3_set 54 = .ok (.return_, 1) := by decide +kernel
theorem dX3_copyFrom_0 : decode cX3_copyFrom 0 = .ok (.aload_n 0, 1) := by decide +kernel
theorem dX3_copyFrom_1 : decode cX3_copyFrom 1 = .ok (.aload_n 1, 1) := by decide +kernel
theorem dX3_copyFrom_2 : decode cX3_copyFrom 2 = .ok (.getfield 9, 3) := by decide +kernel
theorem dX3_copyFrom_5 : decode cX3_copyFrom 5 = .ok (.putfield 9, 3) := by decide +kernel
theorem dX3_copyFrom_8 : decode cX3_copyFrom 8 = .ok (.aload_n 0, 1) := by decide +kernel
theorem dX3_copyFrom_9 : decode cX3_copyFrom 9 = .ok (.aload_n 1, 1) := by decide +kernel
theorem dX3_copyFrom_10 : decode cX3_copyFrom 10 = .ok (.getfield 15, 3) := by decide +kernel
theorem dX3_copyFrom_13 : decode cX3_copyFrom 13 = .ok (.putfield 15, 3) := by decide +kernel
theorem dX3_copyFrom_16 : decode cX3_copyFrom 16 = .ok (.aload_n 0, 1) := by decide +kernel
theorem dX3_copyFrom_17 : decode cX3_copyFrom 17 = .ok (.aload_n 1, 1) := by decide +kernel
theorem dX3_copyFrom_18 : decode cX3_copyFrom 18 = .ok (.getfield 18, 3) := by decide +kernel
theorem dX3_copyFrom_21 : decode cX3_copyFrom 21 = .ok (.putfield 18, 3) := by decide +kernel
theorem dX3_copyFrom_24 : decode cX3_copyFrom 24 = .ok (.aload_n 0, 1) := by decide +kernel
theorem dX3_copyFrom_25 : decode cX3_copyFrom 25 = .ok (.aload_n 1, 1) := by decide +kernel
theorem dX3_copyFrom_26 : decode cX3_copyFrom 26 = .ok (.getfield 21, 3) := by decide +kernel
theorem dX3_copyFrom_29 : decode cX3_copyFrom 29 = .ok (.putfield 21, 3) := by decide +kernel
theorem dX3_copyFrom_32 : decode cX3_copyFrom 32 = .ok (.aload_n 0, 1) := by decide +kernel
theorem dX3_copyFrom_33 : decode cX3_copyFrom 33 = .ok (.aload_n 1, 1) := by decide +kernel
theorem dX3_copyFrom_34 : decode cX3_copyFrom 34 = .ok (.getfield 24, 3) := by decide +kernel
theorem dX3_copyFrom_37 : decode cX3_copyFrom 37 = .ok (.putfield 24, 3) := by decide +kernel
theorem dX3_copyFrom_40 : decode cX3_copyFrom 40 = .ok (.aload_n 0, 1) := by decide +kernel
theorem dX3_copyFrom_41 : decode cX3_copyFrom 41 = .ok (.aload_n 1, 1) := by decide +kernel
theorem dX3_copyFrom_42 : decode cX3_copyFrom 42 = .ok (.getfield 27, 3) := by decide +kernel
theorem dX3_copyFrom_45 : decode cX3_copyFrom 45 = .ok (.putfield 27, 3) := by decide +kernel
theorem dX3_copyFrom_48 : decode cX3_copyFrom 48 = .ok (.return_, 1) := by decide +kernel
theorem dX3_number_0 : decode cX3_number 0 = .ok (.iload_n 1, 1) := by decide +kernel
theorem dX3_number_1 : decode cX3_number 1 = .ok (.tableswitch 60 0 4 #[35, 40, 45, 50, 55], 35) := by decide +kernel
theorem dX3_number_36 : decode cX3_number 36 = .ok (.aload_n 0, 1) := by decide +kernel
theorem dX3_number_37 : decode cX3_number 37 = .ok (.getfield 9, 3) := by decide +kernel
theorem dX3_number_40 : decode cX3_number 40 = .ok (.ireturn, 1) := by decide +kernel
theorem dX3_number_41 : decode cX3_number 41 = .ok (.aload_n 0, 1) := by decide +kernel
theorem dX3_number_42 : decode cX3_number 42 = .ok (.getfield 15, 3) := by decide +kernel
theorem dX3_number_45 : decode cX3_number 45 = .ok (.ireturn, 1) := by decide +kernel
theorem dX3_number_46 : decode cX3_number 46 = .ok (.aload_n 0, 1) := by decide +kernel
theorem dX3_number_47 : decode cX3_number 47 = .ok (.getfield 18, 3) := by decide +kernel
theorem dX3_number_50 : decode cX3_number 50 = .ok (.ireturn, 1) := by decide +kernel
theorem dX3_number_51 : decode cX3_number 51 = .ok (.aload_n 0, 1) := by decide +kernel
theorem dX3_number_52 : decode cX3_number 52 = .ok (.getfield 21, 3) := by decide +kernel
theorem dX3_number_55 : decode cX3_number 55 = .ok (.ireturn, 1) := by decide +kernel
theorem dX3_number_56 : decode cX3_number 56 = .ok (.aload_n 0, 1) := by decide +kernel
theorem dX3_number_57 : decode cX3_number 57 = .ok (.getfield 24, 3) := by decide +kernel
theorem dX3_number_60 : decode cX3_number 60 = .ok (.ireturn, 1) := by decide +kernel
theorem dX3_number_61 : decode cX3_number 61 = .ok (.aload_n 0, 1) := by decide +kernel
theorem dX3_number_62 : decode cX3_number 62 = .ok (.getfield 27, 3) := by decide +kernel
theorem dX3_number_65 : decode cX3_number 65 = .ok (.ireturn, 1) := by decide +kernel
theorem dX3_allBlocks_0 : decode cX3_allBlocks 0 = .ok (.aload_n 0, 1) := by decide +kernel
theorem dX3_allBlocks_1 : decode cX3_allBlocks 1 = .ok (.getfield 9, 3) := by decide +kernel
theorem dX3_allBlocks_4 : decode cX3_allBlocks 4 = .ok (.aload_n 0, 1) := by decide +kernel
theorem dX3_allBlocks_5 : decode cX3_allBlocks 5 = .ok (.getfield 15, 3) := by decide +kernel
theorem dX3_allBlocks_8 : decode cX3_allBlocks 8 = .ok (.imul, 1) := by decide +kernel
theorem dX3_allBlocks_9 : decode cX3_allBlocks 9 = .ok (.ireturn, 1) := by decide +kernel
theorem dX3_allInodes_0 : decode cX3_allInodes 0 = .ok (.aload_n 0, 1) := by decide +kernel
theorem dX3_allInodes_1 : decode cX3_allInodes 1 = .ok (.getfield 9, 3) := by decide +kernel
theorem dX3_allInodes_4 : decode cX3_allInodes 4 = .ok (.aload_n 0, 1) := by decide +kernel
theorem dX3_allInodes_5 : decode cX3_allInodes 5 = .ok (.getfield 18, 3) := by decide +kernel
theorem dX3_allInodes_8 : decode cX3_allInodes 8 = .ok (.imul, 1) := by decide +kernel
theorem dX3_allInodes_9 : decode cX3_allInodes 9 = .ok (.ireturn, 1) := by decide +kernel
theorem dX3_isFragment_0 : decode cX3_isFragment 0 = .ok (.iload_n 1, 1) := by decide +kernel
theorem dX3_isFragment_1 : decode cX3_isFragment 1 = .ok (.ifCond .lt 22, 3) := by decide +kernel
theorem dX3_isFragment_4 : decode cX3_isFragment 4 = .ok (.iload_n 1, 1) := by decide +kernel
theorem dX3_isFragment_5 : decode cX3_isFragment 5 = .ok (.aload_n 0, 1) := by decide +kernel
theorem dX3_isFragment_6 : decode cX3_isFragment 6 = .ok (.getfield 9, 3) := by decide +kernel
theorem dX3_isFragment_9 : decode cX3_isFragment 9 = .ok (.aload_n 0, 1) := by decide +kernel
theorem dX3_isFragment_10 : decode cX3_isFragment 10 = .ok (.getfield 15, 3) := by decide +kernel
theorem dX3_isFragment_13 : decode cX3_isFragment 13 = .ok (.imul, 1) := by decide +kernel
theorem dX3_isFragment_14 : decode cX3_isFragment 14 = .ok (.iconst 4, 1) := by decide +kernel
theorem dX3_isFragment_15 : decode cX3_isFragment 15 = .ok (.imul, 1) := by decide +kernel
theorem dX3_isFragment_16 : decode cX3_isFragment 16 = .ok (.if_icmp .ge 7, 3) := by decide +kernel
theorem dX3_isFragment_19 : decode cX3_isFragment 19 = .ok (.iconst 1, 1) := by decide +kernel
theorem dX3_isFragment_20 : decode cX3_isFragment 20 = .ok (.goto 4, 3) := by decide +kernel
theorem dX3_isFragment_23 : decode cX3_isFragment 23 = .ok (.iconst 0, 1) := by decide +kernel
theorem dX3_isFragment_24 : decode cX3_isFragment 24 = .ok (.ireturn, 1) := by decide +kernel
theorem dX3_behind_0 : decode cX3_behind 0 = .ok (.iload_n 1, 1) := by decide +kernel
theorem dX3_behind_1 : decode cX3_behind 1 = .ok (.iload_n 2, 1) := by decide +kernel
theorem dX3_behind_2 : decode cX3_behind 2 = .ok (.iadd, 1) := by decide +kernel
theorem dX3_behind_3 : decode cX3_behind 3 = .ok (.istore_n 3, 1) := by decide +kernel
theorem dX3_behind_4 : decode cX3_behind 4 = .ok (.iload_n 3, 1) := by decide +kernel
theorem dX3_behind_5 : decode cX3_behind 5 = .ok (.aload_n 0, 1) := by decide +kernel
theorem dX3_behind_6 : decode cX3_behind 6 = .ok (.getfield 9, 3) := by decide +kernel
theorem dX3_behind_9 : decode cX3_behind 9 = .ok (.if_icmp .ge 7, 3) := by decide +kernel
theorem dX3_behind_12 : decode cX3_behind 12 = .ok (.iload_n 3, 1) := by decide +kernel
theorem dX3_behind_13 : decode cX3_behind 13 = .ok (.goto 9, 3) := by decide +kernel
theorem dX3_behind_16 : decode cX3_behind 16 = .ok (.iload_n 3, 1) := by decide +kernel
theorem dX3_behind_17 : decode cX3_behind 17 = .ok (.aload_n 0, 1) := by decide +kernel
theorem dX3_behind_18 : decode cX3_behind 18 = .ok (.getfield 9, 3) := by decide +kernel
theorem dX3_behind_21 : decode cX3_behind 21 = .ok (.isub, 1) := by decide +kernel
theorem dX3_behind_22 : decode cX3_behind 22 = .ok (.ireturn, 1) := by decide +kernel
theorem dX3_groupOfInode_0 : decode cX3_groupOfInode 0 = .ok (.aload_n 0, 1) := by decide +kernel
theorem dX3_groupOfInode_1 : decode cX3_groupOfInode 1 = .ok (.getfield 18, 3) := by decide +kernel
theorem dX3_groupOfInode_4 : decode cX3_groupOfInode 4 = .ok (.ifCond .le 12, 3) := by decide +kernel
theorem dX3_groupOfInode_7 : decode cX3_groupOfInode 7 = .ok (.iload_n 1, 1) := by decide +kernel
theorem dX3_groupOfInode_8 : decode cX3_groupOfInode 8 = .ok (.aload_n 0, 1) := by decide +kernel
theorem dX3_groupOfInode_9 : decode cX3_groupOfInode 9 = .ok (.getfield 18, 3) := by decide +kernel
theorem dX3_groupOfInode_12 : decode cX3_groupOfInode 12 = .ok (.idiv, 1) := by decide +kernel
theorem dX3_groupOfInode_13 : decode cX3_groupOfInode 13 = .ok (.goto 4, 3) := by decide +kernel
theorem dX3_groupOfInode_16 : decode cX3_groupOfInode 16 = .ok (.iconst 0, 1) := by decide +kernel
theorem dX3_groupOfInode_17 : decode cX3_groupOfInode 17 = .ok (.ireturn, 1) := by decide +kernel
theorem dX3_groupOfBlock_0 : decode cX3_groupOfBlock 0 = .ok (.aload_n 0, 1) := by decide +kernel
theorem dX3_groupOfBlock_1 : decode cX3_groupOfBlock 1 = .ok (.getfield 15, 3) := by decide +kernel
theorem dX3_groupOfBlock_4 : decode cX3_groupOfBlock 4 = .ok (.ifCond .le 12, 3) := by decide +kernel
theorem dX3_groupOfBlock_7 : decode cX3_groupOfBlock 7 = .ok (.iload_n 1, 1) := by decide +kernel
theorem dX3_groupOfBlock_8 : decode cX3_groupOfBlock 8 = .ok (.aload_n 0, 1) := by decide +kernel
theorem dX3_groupOfBlock_9 : decode cX3_groupOfBlock 9 = .ok (.getfield 15, 3) := by decide +kernel
theorem dX3_groupOfBlock_12 : decode cX3_groupOfBlock 12 = .ok (.idiv, 1) := by decide +kernel
theorem dX3_groupOfBlock_13 : decode cX3_groupOfBlock 13 = .ok (.goto 4, 3) := by decide +kernel
theorem dX3_groupOfBlock_16 : decode cX3_groupOfBlock 16 = .ok (.iconst 0, 1) := by decide +kernel
theorem dX3_groupOfBlock_17 : decode cX3_groupOfBlock 17 = .ok (.ireturn, 1) := by decide +kernel
theorem dX3_placeBehind_0 : decode cX3_placeBehind 0 = .ok (.aload_n 0, 1) := by decide +kernel
theorem dX3_placeBehind_1 : decode cX3_placeBehind 1 = .ok (.getfield 15, 3) := by decide +kernel
theorem dX3_placeBehind_4 : decode cX3_placeBehind 4 = .ok (.ifCond .le 24, 3) := by decide +kernel
theorem dX3_placeBehind_7 : decode cX3_placeBehind 7 = .ok (.iload_n 1, 1) := by decide +kernel
theorem dX3_placeBehind_8 : decode cX3_placeBehind 8 = .ok (.aload_n 0, 1) := by decide +kernel
theorem dX3_placeBehind_9 : decode cX3_placeBehind 9 = .ok (.getfield 15, 3) := by decide +kernel
theorem dX3_placeBehind_12 : decode cX3_placeBehind 12 = .ok (.irem, 1) := by decide +kernel
theorem dX3_placeBehind_13 : decode cX3_placeBehind 13 = .ok (.iconst 1, 1) := by decide +kernel
theorem dX3_placeBehind_14 : decode cX3_placeBehind 14 = .ok (.iadd, 1) := by decide +kernel
theorem dX3_placeBehind_15 : decode cX3_placeBehind 15 = .ok (.aload_n 0, 1) := by decide +kernel
theorem dX3_placeBehind_16 : decode cX3_placeBehind 16 = .ok (.getfield 21, 3) := by decide +kernel
theorem dX3_placeBehind_19 : decode cX3_placeBehind 19 = .ok (.iadd, 1) := by decide +kernel
theorem dX3_placeBehind_20 : decode cX3_placeBehind 20 = .ok (.aload_n 0, 1) := by decide +kernel
theorem dX3_placeBehind_21 : decode cX3_placeBehind 21 = .ok (.getfield 15, 3) := by decide +kernel
theorem dX3_placeBehind_24 : decode cX3_placeBehind 24 = .ok (.irem, 1) := by decide +kernel
theorem dX3_placeBehind_25 : decode cX3_placeBehind 25 = .ok (.goto 4, 3) := by decide +kernel
theorem dX3_placeBehind_28 : decode cX3_placeBehind 28 = .ok (.iconst 0, 1) := by decide +kernel
theorem dX3_placeBehind_29 : decode cX3_placeBehind 29 = .ok (.ireturn, 1) := by decide +kernel
theorem dX3_leadsOn_0 : decode cX3_leadsOn 0 = .ok (.aload_n 0, 1) := by decide +kernel
theorem dX3_leadsOn_1 : decode cX3_leadsOn 1 = .ok (.getfield 27, 3) := by decide +kernel
theorem dX3_leadsOn_4 : decode cX3_leadsOn 4 = .ok (.ifCond .le 16, 3) := by decide +kernel
theorem dX3_leadsOn_7 : decode cX3_leadsOn 7 = .ok (.iload_n 1, 1) := by decide +kernel
theorem dX3_leadsOn_8 : decode cX3_leadsOn 8 = .ok (.aload_n 0, 1) := by decide +kernel
theorem dX3_leadsOn_9 : decode cX3_leadsOn 9 = .ok (.getfield 27, 3) := by decide +kernel
theorem dX3_leadsOn_12 : decode cX3_leadsOn 12 = .ok (.irem, 1) := by decide +kernel
theorem dX3_leadsOn_13 : decode cX3_leadsOn 13 = .ok (.ifCond .ne 7, 3) := by decide +kernel
theorem dX3_leadsOn_16 : decode cX3_leadsOn 16 = .ok (.iconst 1, 1) := by decide +kernel
theorem dX3_leadsOn_17 : decode cX3_leadsOn 17 = .ok (.goto 4, 3) := by decide +kernel
theorem dX3_leadsOn_20 : decode cX3_leadsOn 20 = .ok (.iconst 0, 1) := by decide +kernel
theorem dX3_leadsOn_21 : decode cX3_leadsOn 21 = .ok (.ireturn, 1) := by decide +kernel
theorem dX4_init_0 : decode cX4_init 0 = .ok (.aload_n 0, 1) := by decide +kernel
theorem dX4_init_1 : decode cX4_init 1 = .ok (.invokespecial 3, 3) := by decide +kernel
theorem dX4_init_4 : decode cX4_init 4 = .ok (.aload_n 0, 1) := by decide +kernel
theorem dX4_init_5 : decode cX4_init 5 = .ok (.bipush 6, 2) := by decide +kernel
theorem dX4_init_7 : decode cX4_init 7 = .ok (.newarray .int, 2) := by decide +kernel
theorem dX4_init_9 : decode cX4_init 9 = .ok (.putfield 9, 3) := by decide +kernel
theorem dX4_init_12 : decode cX4_init 12 = .ok (.aload_n 0, 1) := by decide +kernel
theorem dX4_init_13 : decode cX4_init 13 = .ok (.aload_n 1, 1) := by decide +kernel
theorem dX4_init_14 : decode cX4_init 14 = .ok (.putfield 15, 3) := by decide +kernel
theorem dX4_init_17 : decode cX4_init 17 = .ok (.return_, 1) := by decide +kernel
theorem dX4_rewind_0 : decode cX4_rewind 0 = .ok (.aload_n 0, 1) := by decide +kernel
theorem dX4_rewind_1 : decode cX4_rewind 1 = .ok (.iconst 0, 1) := by decide +kernel
theorem dX4_rewind_2 : decode cX4_rewind 2 = .ok (.putfield 19, 3) := by decide +kernel
theorem dX4_rewind_5 : decode cX4_rewind 5 = .ok (.aload_n 0, 1) := by decide +kernel
theorem dX4_rewind_6 : decode cX4_rewind 6 = .ok (.iconst 0, 1) := by decide +kernel
theorem dX4_rewind_7 : decode cX4_rewind 7 = .ok (.putfield 23, 3) := by decide +kernel
theorem dX4_rewind_10 : decode cX4_rewind 10 = .ok (.aload_n 0, 1) := by decide +kernel
theorem dX4_rewind_11 : decode cX4_rewind 11 = .ok (.iconst 0, 1) := by decide +kernel
theorem dX4_rewind_12 : decode cX4_rewind 12 = .ok (.putfield 26, 3) := by decide +kernel
theorem dX4_rewind_15 : decode cX4_rewind 15 = .ok (.return_, 1) := by decide +kernel
theorem dX4_hasMore_0 : decode cX4_hasMore 0 = .ok (.aload_n 0, 1) := by decide +kernel
theorem dX4_hasMore_1 : decode cX4_hasMore 1 = .ok (.invokevirtual 29, 3) := by decide +kernel
theorem dX4_hasMore_4 : decode cX4_hasMore 4 = .ok (.aload_n 0, 1) := by decide +kernel
theorem dX4_hasMore_5 : decode cX4_hasMore 5 = .ok (.getfield 19, 3) := by decide +kernel
theorem dX4_hasMore_8 : decode cX4_hasMore 8 = .ok (.aload_n 0, 1) := by decide +kernel
theorem dX4_hasMore_9 : decode cX4_hasMore 9 = .ok (.getfield 15, 3) := by decide +kernel
theorem dX4_hasMore_12 : decode cX4_hasMore 12 = .ok (.getfield 32, 3) := by decide +kernel
theorem dX4_hasMore_15 : decode cX4_hasMore 15 = .ok (.if_icmp .ge 7, 3) := by decide +kernel
theorem dX4_hasMore_18 : decode cX4_hasMore 18 = .ok (.iconst 1, 1) := by decide +kernel
theorem dX4_hasMore_19 : decode cX4_hasMore 19 = .ok (.goto 4, 3) := by decide +kernel
theorem dX4_hasMore_22 : decode cX4_hasMore 22 = .ok (.iconst 0, 1) := by decide +kernel
theorem dX4_hasMore_23 : decode cX4_hasMore 23 = .ok (.ireturn, 1) := by decide +kernel
theorem dX4_readRules_0 : decode cX4_readRules 0 = .ok (.aload_n 0, 1) := by decide +kernel
theorem dX4_readRules_1 : decode cX4_readRules 1 = .ok (.ldc 37, 2) := by decide +kernel
theorem dX4_readRules_3 : decode cX4_readRules 3 = .ok (.invokevirtual 39, 3) := by decide +kernel
theorem dX4_readRules_6 : decode cX4_readRules 6 = .ok (.ifCond .ne 5, 3) := by decide +kernel
theorem dX4_readRules_9 : decode cX4_readRules 9 = .ok (.iconst 0, 1) := by decide +kernel
theorem dX4_readRules_10 : decode cX4_readRules 10 = .ok (.ireturn, 1) := by decide +kernel
theorem dX4_readRules_11 : decode cX4_readRules 11 = .ok (.iconst 0, 1) := by decide +kernel
theorem dX4_readRules_12 : decode cX4_readRules 12 = .ok (.istore_n 1, 1) := by decide +kernel
theorem dX4_readRules_13 : decode cX4_readRules 13 = .ok (.iload_n 1, 1) := by decide +kernel
theorem dX4_readRules_14 : decode cX4_readRules 14 = .ok (.bipush 6, 2) := by decide +kernel
theorem dX4_readRules_16 : decode cX4_readRules 16 = .ok (.if_icmp .ge 29, 3) := by decide +kernel
theorem dX4_readRules_19 : decode cX4_readRules 19 = .ok (.aload_n 0, 1) := by decide +kernel
theorem dX4_readRules_20 : decode cX4_readRules 20 = .ok (.iload_n 1, 1) := by decide +kernel
theorem dX4_readRules_21 : decode cX4_readRules 21 = .ok (.getstatic 43, 3) := by decide +kernel
theorem dX4_readRules_24 : decode cX4_readRules 24 = .ok (.iload_n 1, 1) := by decide +kernel
theorem dX4_readRules_25 : decode cX4_readRules 25 = .ok (.iaload, 1) := by decide +kernel
theorem dX4_readRules_26 : decode cX4_readRules 26 = .ok (.getstatic 46, 3) := by decide +kernel
theorem dX4_readRules_29 : decode cX4_readRules 29 = .ok (.iload_n 1, 1) := by decide +kernel
theorem dX4_readRules_30 : decode cX4_readRules 30 = .ok (.iaload, 1) := by decide +kernel
theorem dX4_readRules_31 : decode cX4_readRules 31 = .ok (.invokevirtual 49, 3) := by decide +kernel
theorem dX4_readRules_34 : decode cX4_readRules 34 = .ok (.ifCond .ne 5, 3) := by decide +kernel
theorem dX4_readRules_37 : decode cX4_readRules 37 = .ok (.iconst 0, 1) := by decide +kernel
theorem dX4_readRules_38 : decode cX4_readRules 38 = .ok (.ireturn, 1) := by decide +kernel
theorem dX4_readRules_39 : decode cX4_readRules 39 = .ok (.iinc 1 1, 3) := by decide +kernel
theorem dX4_readRules_42 : decode cX4_readRules 42 = .ok (.goto (-29), 3) := by decide +kernel
theorem dX4_readRules_45 : decode cX4_readRules 45 = .ok (.aload_n 0, 1) := by decide +kernel
theorem dX4_readRules_46 : decode cX4_readRules 46 = .ok (.invokevirtual 53, 3) := by decide +kernel
theorem dX4_readRules_49 : decode cX4_readRules 49 = .ok (.ireturn, 1) := by decide +kernel
theorem dX4_readLine_0 : decode cX4_readLine 0 = .ok (.aload_n 0, 1) := by decide +kernel
theorem dX4_readLine_1 : decode cX4_readLine 1 = .ok (.invokevirtual 57, 3) := by decide +kernel
theorem dX4_readLine_4 : decode cX4_readLine 4 = .ok (.ifCond .ne 5, 3) := by decide +kernel
theorem dX4_readLine_7 : decode cX4_readLine 7 = .ok (.iconst 0, 1) := by decide +kernel
theorem dX4_readLine_8 : decode cX4_readLine 8 = .ok (.ireturn, 1) := by decide +kernel
theorem dX4_readLine_9 : decode cX4_readLine 9 = .ok (.aload_n 0, 1) := by decide +kernel
theorem dX4_readLine_10 : decode cX4_readLine 10 = .ok (.ldc 60, 2) := by decide +kernel
theorem dX4_readLine_12 : decode cX4_readLine 12 = .ok (.invokevirtual 62, 3) := by decide +kernel
theorem dX4_readLine_15 : decode cX4_readLine 15 = .ok (.ifCond .ne 22, 3) := by decide +kernel
theorem dX4_readLine_18 : decode cX4_readLine 18 = .ok (.aload_n 0, 1) := by decide +kernel
theorem dX4_readLine_19 : decode cX4_readLine 19 = .ok (.ldc 65, 2) := by decide +kernel
theorem dX4_readLine_21 : decode cX4_readLine 21 = .ok (.invokevirtual 62, 3) := by decide +kernel
theorem dX4_readLine_24 : decode cX4_readLine 24 = .ok (.ifCond .ne 13, 3) := by decide +kernel
theorem dX4_readLine_27 : decode cX4_readLine 27 = .ok (.aload_n 0, 1) := by decide +kernel
theorem dX4_readLine_28 : decode cX4_readLine 28 = .ok (.iconst 2, 1) := by decide +kernel
theorem dX4_readLine_29 : decode cX4_readLine 29 = .ok (.aload_n 0, 1) := by decide +kernel
theorem dX4_readLine_30 : decode cX4_readLine 30 = .ok (.getfield 67, 3) := by decide +kernel
theorem dX4_readLine_33 : decode cX4_readLine 33 = .ok (.invokevirtual 70, 3) := by decide +kernel
theorem dX4_readLine_36 : decode cX4_readLine 36 = .ok (.ireturn, 1) := by decide +kernel
theorem dX4_readLine_37 : decode cX4_readLine 37 = .ok (.aload_n 0, 1) := by decide +kernel
theorem dX4_readLine_38 : decode cX4_readLine 38 = .ok (.aload_n 0, 1) := by decide +kernel
theorem dX4_readLine_39 : decode cX4_readLine 39 = .ok (.ldc 60, 2) := by decide +kernel
theorem dX4_readLine_41 : decode cX4_readLine 41 = .ok (.invokevirtual 62, 3) := by decide +kernel
theorem dX4_readLine_44 : decode cX4_readLine 44 = .ok (.ifCond .eq 7, 3) := by decide +kernel
theorem dX4_readLine_47 : decode cX4_readLine 47 = .ok (.iconst 1, 1) := by decide +kernel
theorem dX4_readLine_48 : decode cX4_readLine 48 = .ok (.goto 4, 3) := by decide +kernel
theorem dX4_readLine_51 : decode cX4_readLine 51 = .ok (.iconst 2, 1) := by decide +kernel
theorem dX4_readLine_52 : decode cX4_readLine 52 = .ok (.putfield 74, 3) := by decide +kernel
theorem dX4_readLine_55 : decode cX4_readLine 55 = .ok (.aload_n 0, 1) := by decide +kernel
theorem dX4_readLine_56 : decode cX4_readLine 56 = .ok (.iconst 0, 1) := by decide +kernel
theorem dX4_readLine_57 : decode cX4_readLine 57 = .ok (.iconst 0, 1) := by decide +kernel
theorem dX4_readLine_58 : decode cX4_readLine 58 = .ok (.iload_n 1, 1) := by decide +kernel
theorem dX4_readLine_59 : decode cX4_readLine 59 = .ok (.invokevirtual 49, 3) := by decide +kernel
theorem dX4_readLine_62 : decode cX4_readLine 62 = .ok (.ifCond .eq 44, 3) := by decide +kernel
theorem dX4_readLine_65 : decode cX4_readLine 65 = .ok (.aload_n 0, 1) := by decide +kernel
theorem dX4_readLine_66 : decode cX4_readLine 66 = .ok (.iconst 1, 1) := by decide +kernel
theorem dX4_readLine_67 : decode cX4_readLine 67 = .ok (.iconst 0, 1) := by decide +kernel
theorem dX4_readLine_68 : decode cX4_readLine 68 = .ok (.bipush 9, 2) := by decide +kernel
theorem dX4_readLine_70 : decode cX4_readLine 70 = .ok (.invokevirtual 49, 3) := by decide +kernel
theorem dX4_readLine_73 : decode cX4_readLine 73 = .ok (.ifCond .eq 33, 3) := by decide +kernel
theorem dX4_readLine_76 : decode cX4_readLine 76 = .ok (.aload_n 0, 1) := by decide +kernel
theorem dX4_readLine_77 : decode cX4_readLine 77 = .ok (.getfield 74, 3) := by decide +kernel
theorem dX4_readLine_80 : decode cX4_readLine 80 = .ok (.iconst 1, 1) := by decide +kernel
theorem dX4_readLine_81 : decode cX4_readLine 81 = .ok (.if_icmp .eq 14, 3) := by decide +kernel
theorem dX4_readLine_84 : decode cX4_readLine 84 = .ok (.aload_n 0, 1) := by decide +kernel
theorem dX4_readLine_85 : decode cX4_readLine 85 = .ok (.iconst 2, 1) := by decide +kernel
theorem dX4_readLine_86 : decode cX4_readLine 86 = .ok (.iconst 0, 1) := by decide +kernel
theorem dX4_readLine_87 : decode cX4_readLine 87 = .ok (.bipush 40, 2) := by decide +kernel
theorem dX4_readLine_89 : decode cX4_readLine 89 = .ok (.invokevirtual 49, 3) := by decide +kernel
theorem dX4_readLine_92 : decode cX4_readLine 92 = .ok (.ifCond .eq 14, 3) := by decide +kernel
theorem dX4_readLine_95 : decode cX4_readLine 95 = .ok (.aload_n 0, 1) := by decide +kernel
theorem dX4_readLine_96 : decode cX4_readLine 96 = .ok (.invokevirtual 53, 3) := by decide +kernel
theorem dX4_readLine_99 : decode cX4_readLine 99 = .ok (.ifCond .eq 7, 3) := by decide +kernel
theorem dX4_readLine_102 : decode cX4_readLine 102 = .ok (.iconst 1, 1) := by decide +kernel
theorem dX4_readLine_103 : decode cX4_readLine 103 = .ok (.goto 4, 3) := by decide +kernel
theorem dX4_readLine_106 : decode cX4_readLine 106 = .ok (.iconst 0, 1) := by decide +kernel
theorem dX4_readLine_107 : decode cX4_readLine 107 = .ok (.ireturn, 1) := by decide +kernel
theorem dX4_refuseLine_0 : decode cX4_refuseLine 0 = .ok (.aload_n 0, 1) := by decide +kernel
theorem dX4_refuseLine_1 : decode cX4_refuseLine 1 = .ok (.iload_n 1, 1) := by decide +kernel
theorem dX4_refuseLine_2 : decode cX4_refuseLine 2 = .ok (.aload_n 0, 1) := by decide +kernel
theorem dX4_refuseLine_3 : decode cX4_refuseLine 3 = .ok (.getfield 67, 3) := by decide +kernel
theorem dX4_refuseLine_6 : decode cX4_refuseLine 6 = .ok (.invokevirtual 70, 3) := by decide +kernel
theorem dX4_refuseLine_9 : decode cX4_refuseLine 9 = .ok (.ireturn, 1) := by decide +kernel
theorem dX4_refuse_0 : decode cX4_refuse 0 = .ok (.aload_n 0, 1) := by decide +kernel
theorem dX4_refuse_1 : decode cX4_refuse 1 = .ok (.iload_n 1, 1) := by decide +kernel
theorem dX4_refuse_2 : decode cX4_refuse 2 = .ok (.putfield 23, 3) := by decide +kernel
theorem dX4_refuse_5 : decode cX4_refuse 5 = .ok (.aload_n 0, 1) := by decide +kernel
theorem dX4_refuse_6 : decode cX4_refuse 6 = .ok (.iload_n 2, 1) := by decide +kernel
theorem dX4_refuse_7 : decode cX4_refuse 7 = .ok (.putfield 26, 3) := by decide +kernel
theorem dX4_refuse_10 : decode cX4_refuse 10 = .ok (.iconst 0, 1) := by decide +kernel
theorem dX4_refuse_11 : decode cX4_refuse 11 = .ok (.ireturn, 1) := by decide +kernel
theorem dX4_takeWord_0 : decode cX4_takeWord 0 = .ok (.aload_n 0, 1) := by decide +kernel
theorem dX4_takeWord_1 : decode cX4_takeWord 1 = .ok (.invokevirtual 57, 3) := by decide +kernel
theorem dX4_takeWord_4 : decode cX4_takeWord 4 = .ok (.ifCond .eq 27, 3) := by decide +kernel
theorem dX4_takeWord_7 : decode cX4_takeWord 7 = .ok (.aload_n 0, 1) := by decide +kernel
theorem dX4_takeWord_8 : decode cX4_takeWord 8 = .ok (.aload_n 1, 1) := by decide +kernel
theorem dX4_takeWord_9 : decode cX4_takeWord 9 = .ok (.invokevirtual 62, 3) := by decide +kernel
theorem dX4_takeWord_12 : decode cX4_takeWord 12 = .ok (.ifCond .ne 15, 3) := by decide +kernel
theorem dX4_takeWord_15 : decode cX4_takeWord 15 = .ok (.aload_n 0, 1) := by decide +kernel
theorem dX4_takeWord_16 : decode cX4_takeWord 16 = .ok (.iconst 2, 1) := by decide +kernel
theorem dX4_takeWord_17 : decode cX4_takeWord 17 = .ok (.aload_n 0, 1) := by decide +kernel
theorem dX4_takeWord_18 : decode cX4_takeWord 18 = .ok (.getfield 67, 3) := by decide +kernel
theorem dX4_takeWord_21 : decode cX4_takeWord 21 = .ok (.invokevirtual 70, 3) := by decide +kernel
theorem dX4_takeWord_24 : decode cX4_takeWord 24 = .ok (.ifCond .eq 7, 3) := by decide +kernel
theorem dX4_takeWord_27 : decode cX4_takeWord 27 = .ok (.iconst 1, 1) := by decide +kernel
theorem dX4_takeWord_28 : decode cX4_takeWord 28 = .ok (.goto 4, 3) := by decide +kernel
theorem dX4_takeWord_31 : decode cX4_takeWord 31 = .ok (.iconst 0, 1) := by decide +kernel
theorem dX4_takeWord_32 : decode cX4_takeWord 32 = .ok (.ireturn, 1) := by decide +kernel
theorem dX4_takeSign_0 : decode cX4_takeSign 0 = .ok (.aload_n 0, 1) := by decide +kernel
theorem dX4_takeSign_1 : decode cX4_takeSign 1 = .ok (.invokevirtual 57, 3) := by decide +kernel
theorem dX4_takeSign_4 : decode cX4_takeSign 4 = .ok (.ifCond .eq 27, 3) := by decide +kernel
theorem dX4_takeSign_7 : decode cX4_takeSign 7 = .ok (.aload_n 0, 1) := by decide +kernel
theorem dX4_takeSign_8 : decode cX4_takeSign 8 = .ok (.getfield 77, 3) := by decide +kernel
theorem dX4_takeSign_11 : decode cX4_takeSign 11 = .ok (.iconst 3, 1) := by decide +kernel
theorem dX4_takeSign_12 : decode cX4_takeSign 12 = .ok (.if_icmp .eq 15, 3) := by decide +kernel
theorem dX4_takeSign_15 : decode cX4_takeSign 15 = .ok (.aload_n 0, 1) := by decide +kernel
theorem dX4_takeSign_16 : decode cX4_takeSign 16 = .ok (.iconst 2, 1) := by decide +kernel
theorem dX4_takeSign_17 : decode cX4_takeSign 17 = .ok (.aload_n 0, 1) := by decide +kernel
theorem dX4_takeSign_18 : decode cX4_takeSign 18 = .ok (.getfield 67, 3) := by decide +kernel
theorem dX4_takeSign_21 : decode cX4_takeSign 21 = .ok (.invokevirtual 70, 3) := by decide +kernel
theorem dX4_takeSign_24 : decode cX4_takeSign 24 = .ok (.ifCond .eq 7, 3) := by decide +kernel
theorem dX4_takeSign_27 : decode cX4_takeSign 27 = .ok (.iconst 1, 1) := by decide +kernel
theorem dX4_takeSign_28 : decode cX4_takeSign 28 = .ok (.goto 4, 3) := by decide +kernel
theorem dX4_takeSign_31 : decode cX4_takeSign 31 = .ok (.iconst 0, 1) := by decide +kernel
theorem dX4_takeSign_32 : decode cX4_takeSign 32 = .ok (.ireturn, 1) := by decide +kernel
theorem dX4_takeNumber_0 : decode cX4_takeNumber 0 = .ok (.aload_n 0, 1) := by decide +kernel
theorem dX4_takeNumber_1 : decode cX4_takeNumber 1 = .ok (.invokevirtual 57, 3) := by decide +kernel
theorem dX4_takeNumber_4 : decode cX4_takeNumber 4 = .ok (.ifCond .ne 5, 3) := by decide +kernel
theorem dX4_takeNumber_7 : decode cX4_takeNumber 7 = .ok (.iconst 0, 1) := by decide +kernel
theorem dX4_takeNumber_8 : decode cX4_takeNumber 8 = .ok (.ireturn, 1) := by decide +kernel
theorem dX4_takeNumber_9 : decode cX4_takeNumber 9 = .ok (.aload_n 0, 1) := by decide +kernel
theorem dX4_takeNumber_10 : decode cX4_takeNumber 10 = .ok (.getfield 77, 3) := by decide +kernel
theorem dX4_takeNumber_13 : decode cX4_takeNumber 13 = .ok (.iconst 2, 1) := by decide +kernel
theorem dX4_takeNumber_14 : decode cX4_takeNumber 14 = .ok (.if_icmp .eq 13, 3) := by decide +kernel
theorem dX4_takeNumber_17 : decode cX4_takeNumber 17 = .ok (.aload_n 0, 1) := by decide +kernel
theorem dX4_takeNumber_18 : decode cX4_takeNumber 18 = .ok (.iconst 2, 1) := by decide +kernel
theorem dX4_takeNumber_19 : decode cX4_takeNumber 19 = .ok (.aload_n 0, 1) := by decide +kernel
theorem dX4_takeNumber_20 : decode cX4_takeNumber 20 = .ok (.getfield 67, 3) := by decide +kernel
theorem dX4_takeNumber_23 : decode cX4_takeNumber 23 = .ok (.invokevirtual 70, 3) := by decide +kernel
theorem dX4_takeNumber_26 : decode cX4_takeNumber 26 = .ok (.ireturn, 1) := by decide +kernel
theorem dX4_takeNumber_27 : decode cX4_takeNumber 27 = .ok (.aload_n 0, 1) := by decide +kernel
theorem dX4_takeNumber_28 : decode cX4_takeNumber 28 = .ok (.getfield 80, 3) := by decide +kernel
theorem dX4_takeNumber_31 : decode cX4_takeNumber 31 = .ok (.iload_n 2, 1) := by decide +kernel
theorem dX4_takeNumber_32 : decode cX4_takeNumber 32 = .ok (.if_icmp .lt 24, 3) := by decide +kernel
theorem dX4_takeNumber_35 : decode cX4_takeNumber 35 = .ok (.aload_n 0, 1) := by decide +kernel
theorem dX4_takeNumber_36 : decode cX4_takeNumber 36 = .ok (.getfield 80, 3) := by decide +kernel
theorem dX4_takeNumber_39 : decode cX4_takeNumber 39 = .ok (.iload_n 3, 1) := by decide +kernel
theorem dX4_takeNumber_40 : decode cX4_takeNumber 40 = .ok (.if_icmp .gt 16, 3) := by decide +kernel
theorem dX4_takeNumber_43 : decode cX4_takeNumber 43 = .ok (.iload_n 1, 1) := by decide +kernel
theorem dX4_takeNumber_44 : decode cX4_takeNumber 44 = .ok (.ifCond .lt 12, 3) := by decide +kernel
theorem dX4_takeNumber_47 : decode cX4_takeNumber 47 = .ok (.iload_n 1, 1) := by decide +kernel
theorem dX4_takeNumber_48 : decode cX4_takeNumber 48 = .ok (.aload_n 0, 1) := by decide +kernel
theorem dX4_takeNumber_49 : decode cX4_takeNumber 49 = .ok (.getfield 9, 3) := by decide +kernel
theorem dX4_takeNumber_52 : decode cX4_takeNumber 52 = .ok (.arraylength, 1) := by decide +kernel
theorem dX4_takeNumber_53 : decode cX4_takeNumber 53 = .ok (.if_icmp .lt 13, 3) := by decide +kernel
theorem dX4_takeNumber_56 : decode cX4_takeNumber 56 = .ok (.aload_n 0, 1) := by decide +kernel
theorem dX4_takeNumber_57 : decode cX4_takeNumber 57 = .ok (.iconst 3, 1) := by decide +kernel
theorem dX4_takeNumber_58 : decode cX4_takeNumber 58 = .ok (.aload_n 0, 1) := by decide +kernel
theorem dX4_takeNumber_59 : decode cX4_takeNumber 59 = .ok (.getfield 67, 3) := by decide +kernel
theorem dX4_takeNumber_62 : decode cX4_takeNumber 62 = .ok (.invokevirtual 70, 3) := by decide +kernel
theorem dX4_takeNumber_65 : decode cX4_takeNumber 65 = .ok (.ireturn, 1) := by decide +kernel
theorem dX4_takeNumber_66 : decode cX4_takeNumber 66 = .ok (.aload_n 0, 1) := by decide +kernel
theorem dX4_takeNumber_67 : decode cX4_takeNumber 67 = .ok (.getfield 9, 3) := by decide +kernel
theorem dX4_takeNumber_70 : decode cX4_takeNumber 70 = .ok (.iload_n 1, 1) := by decide +kernel
theorem dX4_takeNumber_71 : decode cX4_takeNumber 71 = .ok (.aload_n 0, 1) := by decide +kernel
theorem dX4_takeNumber_72 : decode cX4_takeNumber 72 = .ok (.getfield 80, 3) := by decide +kernel
theorem dX4_takeNumber_75 : decode cX4_takeNumber 75 = .ok (.iastore, 1) := by decide +kernel
theorem dX4_takeNumber_76 : decode cX4_takeNumber 76 = .ok (.iconst 1, 1) := by decide +kernel
theorem dX4_takeNumber_77 : decode cX4_takeNumber 77 = .ok (.ireturn, 1) := by decide +kernel
theorem dX4_isWord_0 : decode cX4_isWord 0 = .ok (.aload_n 0, 1) := by decide +kernel
theorem dX4_isWord_1 : decode cX4_isWord 1 = .ok (.getfield 77, 3) := by decide +kernel
theorem dX4_isWord_4 : decode cX4_isWord 4 = .ok (.iconst 1, 1) := by decide +kernel
theorem dX4_isWord_5 : decode cX4_isWord 5 = .ok (.if_icmp .ne 19, 3) := by decide +kernel
theorem dX4_isWord_8 : decode cX4_isWord 8 = .ok (.aload_n 0, 1) := by decide +kernel
theorem dX4_isWord_9 : decode cX4_isWord 9 = .ok (.getfield 19, 3) := by decide +kernel
theorem dX4_isWord_12 : decode cX4_isWord 12 = .ok (.aload_n 0, 1) := by decide +kernel
theorem dX4_isWord_13 : decode cX4_isWord 13 = .ok (.getfield 67, 3) := by decide +kernel
theorem dX4_isWord_16 : decode cX4_isWord 16 = .ok (.isub, 1) := by decide +kernel
theorem dX4_isWord_17 : decode cX4_isWord 17 = .ok (.aload_n 1, 1) := by decide +kernel
theorem dX4_isWord_18 : decode cX4_isWord 18 = .ok (.invokevirtual 83, 3) := by decide +kernel
theorem dX4_isWord_21 : decode cX4_isWord 21 = .ok (.if_icmp .eq 5, 3) := by decide +kernel
theorem dX4_isWord_24 : decode cX4_isWord 24 = .ok (.iconst 0, 1) := by decide +kernel
theorem dX4_isWord_25 : decode cX4_isWord 25 = .ok (.ireturn, 1) := by decide +kernel
theorem dX4_isWord_26 : decode cX4_isWord 26 = .ok (.iconst 0, 1) := by decide +kernel
theorem dX4_isWord_27 : decode cX4_isWord 27 = .ok (.istore_n 2, 1) := by decide +kernel
theorem dX4_isWord_28 : decode cX4_isWord 28 = .ok (.iload_n 2, 1) := by decide +kernel
theorem dX4_isWord_29 : decode cX4_isWord 29 = .ok (.aload_n 1, 1) := by decide +kernel
theorem dX4_isWord_30 : decode cX4_isWord 30 = .ok (.invokevirtual 83, 3) := by decide +kernel
theorem dX4_isWord_33 : decode cX4_isWord 33 = .ok (.if_icmp .ge 32, 3) := by decide +kernel
theorem dX4_isWord_36 : decode cX4_isWord 36 = .ok (.aload_n 0, 1) := by decide +kernel
theorem dX4_isWord_37 : decode cX4_isWord 37 = .ok (.getfield 15, 3) := by decide +kernel
theorem dX4_isWord_40 : decode cX4_isWord 40 = .ok (.aload_n 0, 1) := by decide +kernel
theorem dX4_isWord_41 : decode cX4_isWord 41 = .ok (.getfield 67, 3) := by decide +kernel
theorem dX4_isWord_44 : decode cX4_isWord 44 = .ok (.iload_n 2, 1) := by decide +kernel
theorem dX4_isWord_45 : decode cX4_isWord 45 = .ok (.iadd, 1) := by decide +kernel
theorem dX4_isWord_46 : decode cX4_isWord 46 = .ok (.invokevirtual 88, 3) := by decide +kernel
theorem dX4_isWord_49 : decode cX4_isWord 49 = .ok (.aload_n 1, 1) := by decide +kernel
theorem dX4_isWord_50 : decode cX4_isWord 50 = .ok (.iload_n 2, 1) := by decide +kernel
theorem dX4_isWord_51 : decode cX4_isWord 51 = .ok (.invokevirtual 92, 3) := by decide +kernel
theorem dX4_isWord_54 : decode cX4_isWord 54 = .ok (.if_icmp .eq 5, 3) := by decide +kernel
theorem dX4_isWord_57 : decode cX4_isWord 57 = .ok (.iconst 0, 1) := by decide +kernel
theorem dX4_isWord_58 : decode cX4_isWord 58 = .ok (.ireturn, 1) := by decide +kernel
theorem dX4_isWord_59 : decode cX4_isWord 59 = .ok (.iinc 2 1, 3) := by decide +kernel
theorem dX4_isWord_62 : decode cX4_isWord 62 = .ok (.goto (-34), 3) := by decide +kernel
theorem dX4_isWord_65 : decode cX4_isWord 65 = .ok (.iconst 1, 1) := by decide +kernel
theorem dX4_isWord_66 : decode cX4_isWord 66 = .ok (.ireturn, 1) := by decide +kernel
theorem dX4_readToken_0 : decode cX4_readToken 0 = .ok (.aload_n 0, 1) := by decide +kernel
theorem dX4_readToken_1 : decode cX4_readToken 1 = .ok (.invokevirtual 29, 3) := by decide +kernel
theorem dX4_readToken_4 : decode cX4_readToken 4 = .ok (.aload_n 0, 1) := by decide +kernel
theorem dX4_readToken_5 : decode cX4_readToken 5 = .ok (.aload_n 0, 1) := by decide +kernel
theorem dX4_readToken_6 : decode cX4_readToken 6 = .ok (.getfield 19, 3) := by decide +kernel
theorem dX4_readToken_9 : decode cX4_readToken 9 = .ok (.putfield 67, 3) := by decide +kernel
theorem dX4_readToken_12 : decode cX4_readToken 12 = .ok (.aload_n 0, 1) := by decide +kernel
theorem dX4_readToken_13 : decode cX4_readToken 13 = .ok (.getfield 19, 3) := by decide +kernel
theorem dX4_readToken_16 : decode cX4_readToken 16 = .ok (.aload_n 0, 1) := by decide +kernel
theorem dX4_readToken_17 : decode cX4_readToken 17 = .ok (.getfield 15, 3) := by decide +kernel
theorem dX4_readToken_20 : decode cX4_readToken 20 = .ok (.getfield 32, 3) := by decide +kernel
theorem dX4_readToken_23 : decode cX4_readToken 23 = .ok (.if_icmp .lt 10, 3) := by decide +kernel
theorem dX4_readToken_26 : decode cX4_readToken 26 = .ok (.aload_n 0, 1) := by decide +kernel
theorem dX4_readToken_27 : decode cX4_readToken 27 = .ok (.iconst 4, 1) := by decide +kernel
theorem dX4_readToken_28 : decode cX4_readToken 28 = .ok (.putfield 77, 3) := by decide +kernel
theorem dX4_readToken_31 : decode cX4_readToken 31 = .ok (.iconst 1, 1) := by decide +kernel
theorem dX4_readToken_32 : decode cX4_readToken 32 = .ok (.ireturn, 1) := by decide +kernel
theorem dX4_readToken_33 : decode cX4_readToken 33 = .ok (.aload_n 0, 1) := by decide +kernel
theorem dX4_readToken_34 : decode cX4_readToken 34 = .ok (.getfield 15, 3) := by decide +kernel
theorem dX4_readToken_37 : decode cX4_readToken 37 = .ok (.aload_n 0, 1) := by decide +kernel
theorem dX4_readToken_38 : decode cX4_readToken 38 = .ok (.getfield 19, 3) := by decide +kernel
theorem dX4_readToken_41 : decode cX4_readToken 41 = .ok (.invokevirtual 96, 3) := by decide +kernel
theorem dX4_readToken_44 : decode cX4_readToken 44 = .ok (.ifCond .eq 8, 3) := by decide +kernel
theorem dX4_readToken_47 : decode cX4_readToken 47 = .ok (.aload_n 0, 1) := by decide +kernel
theorem dX4_readToken_48 : decode cX4_readToken 48 = .ok (.invokevirtual 100, 3) := by decide +kernel
theorem dX4_readToken_51 : decode cX4_readToken 51 = .ok (.ireturn, 1) := by decide +kernel
theorem dX4_readToken_52 : decode cX4_readToken 52 = .ok (.aload_n 0, 1) := by decide +kernel
theorem dX4_readToken_53 : decode cX4_readToken 53 = .ok (.getfield 15, 3) := by decide +kernel
theorem dX4_readToken_56 : decode cX4_readToken 56 = .ok (.aload_n 0, 1) := by decide +kernel
theorem dX4_readToken_57 : decode cX4_readToken 57 = .ok (.getfield 19, 3) := by decide +kernel
theorem dX4_readToken_60 : decode cX4_readToken 60 = .ok (.invokevirtual 103, 3) := by decide +kernel
theorem dX4_readToken_63 : decode cX4_readToken 63 = .ok (.ifCond .eq 51, 3) := by decide +kernel
theorem dX4_readToken_66 : decode cX4_readToken 66 = .ok (.aload_n 0, 1) := by decide +kernel
theorem dX4_readToken_67 : decode cX4_readToken 67 = .ok (.iconst 1, 1) := by decide +kernel
theorem dX4_readToken_68 : decode cX4_readToken 68 = .ok (.putfield 77, 3) := by decide +kernel
theorem dX4_readToken_71 : decode cX4_readToken 71 = .ok (.aload_n 0, 1) := by decide +kernel
theorem dX4_readToken_72 : decode cX4_readToken 72 = .ok (.getfield 19, 3) := by decide +kernel
theorem dX4_readToken_75 : decode cX4_readToken 75 = .ok (.aload_n 0, 1) := by decide +kernel
theorem dX4_readToken_76 : decode cX4_readToken 76 = .ok (.getfield 15, 3) := by decide +kernel
theorem dX4_readToken_79 : decode cX4_readToken 79 = .ok (.getfield 32, 3) := by decide +kernel
theorem dX4_readToken_82 : decode cX4_readToken 82 = .ok (.if_icmp .ge 30, 3) := by decide +kernel
theorem dX4_readToken_85 : decode cX4_readToken 85 = .ok (.aload_n 0, 1) := by decide +kernel
theorem dX4_readToken_86 : decode cX4_readToken 86 = .ok (.getfield 15, 3) := by decide +kernel
theorem dX4_readToken_89 : decode cX4_readToken 89 = .ok (.aload_n 0, 1) := by decide +kernel
theorem dX4_readToken_90 : decode cX4_readToken 90 = .ok (.getfield 19, 3) := by decide +kernel
theorem dX4_readToken_93 : decode cX4_readToken 93 = .ok (.invokevirtual 103, 3) := by decide +kernel
theorem dX4_readToken_96 : decode cX4_readToken 96 = .ok (.ifCond .eq 16, 3) := by decide +kernel
theorem dX4_readToken_99 : decode cX4_readToken 99 = .ok (.aload_n 0, 1) := by decide +kernel
theorem dX4_readToken_100 : decode cX4_readToken 100 = .ok (.dup, 1) := by decide +kernel
theorem dX4_readToken_101 : decode cX4_readToken 101 = .ok (.getfield 19, 3) := by decide +kernel
theorem dX4_readToken_104 : decode cX4_readToken 104 = .ok (.iconst 1, 1) := by decide +kernel
theorem dX4_readToken_105 : decode cX4_readToken 105 = .ok (.iadd, 1) := by decide +kernel
theorem dX4_readToken_106 : decode cX4_readToken 106 = .ok (.putfield 19, 3) := by decide +kernel
theorem dX4_readToken_109 : decode cX4_readToken 109 = .ok (.goto (-38), 3) := by decide +kernel
theorem dX4_readToken_112 : decode cX4_readToken 112 = .ok (.iconst 1, 1) := by decide +kernel
theorem dX4_readToken_113 : decode cX4_readToken 113 = .ok (.ireturn, 1) := by decide +kernel
theorem dX4_readToken_114 : decode cX4_readToken 114 = .ok (.aload_n 0, 1) := by decide +kernel
theorem dX4_readToken_115 : decode cX4_readToken 115 = .ok (.getfield 15, 3) := by decide +kernel
theorem dX4_readToken_118 : decode cX4_readToken 118 = .ok (.aload_n 0, 1) := by decide +kernel
theorem dX4_readToken_119 : decode cX4_readToken 119 = .ok (.getfield 19, 3) := by decide +kernel
theorem dX4_readToken_122 : decode cX4_readToken 122 = .ok (.invokevirtual 88, 3) := by decide +kernel
theorem dX4_readToken_125 : decode cX4_readToken 125 = .ok (.bipush 59, 2) := by decide +kernel
theorem dX4_readToken_127 : decode cX4_readToken 127 = .ok (.if_icmp .eq 13, 3) := by decide +kernel
theorem dX4_readToken_130 : decode cX4_readToken 130 = .ok (.aload_n 0, 1) := by decide +kernel
theorem dX4_readToken_131 : decode cX4_readToken 131 = .ok (.iconst 1, 1) := by decide +kernel
theorem dX4_readToken_132 : decode cX4_readToken 132 = .ok (.aload_n 0, 1) := by decide +kernel
theorem dX4_readToken_133 : decode cX4_readToken 133 = .ok (.getfield 67, 3) := by decide +kernel
theorem dX4_readToken_136 : decode cX4_readToken 136 = .ok (.invokevirtual 70, 3) := by decide +kernel
theorem dX4_readToken_139 : decode cX4_readToken 139 = .ok (.ireturn, 1) := by decide +kernel
theorem dX4_readToken_140 : decode cX4_readToken 140 = .ok (.aload_n 0, 1) := by decide +kernel
theorem dX4_readToken_141 : decode cX4_readToken 141 = .ok (.iconst 3, 1) := by decide +kernel
theorem dX4_readToken_142 : decode cX4_readToken 142 = .ok (.putfield 77, 3) := by decide +kernel
theorem dX4_readToken_145 : decode cX4_readToken 145 = .ok (.aload_n 0, 1) := by decide +kernel
theorem dX4_readToken_146 : decode cX4_readToken 146 = .ok (.dup, 1) := by decide +kernel
theorem dX4_readToken_147 : decode cX4_readToken 147 = .ok (.getfield 19, 3) := by decide +kernel
theorem dX4_readToken_150 : decode cX4_readToken 150 = .ok (.iconst 1, 1) := by decide +kernel
theorem dX4_readToken_151 : decode cX4_readToken 151 = .ok (.iadd, 1) := by decide +kernel
theorem dX4_readToken_152 : decode cX4_readToken 152 = .ok (.putfield 19, 3) := by decide +kernel
theorem dX4_readToken_155 : decode cX4_readToken 155 = .ok (.iconst 1, 1) := by decide +kernel
theorem dX4_readToken_156 : decode cX4_readToken 156 = .ok (.ireturn, 1) := by decide +kernel
theorem dX4_readNumber_0 : decode cX4_readNumber 0 = .ok (.aload_n 0, 1) := by decide +kernel
theorem dX4_readNumber_1 : decode cX4_readNumber 1 = .ok (.iconst 2, 1) := by decide +kernel
theorem dX4_readNumber_2 : decode cX4_readNumber 2 = .ok (.putfield 77, 3) := by decide +kernel
theorem dX4_readNumber_5 : decode cX4_readNumber 5 = .ok (.aload_n 0, 1) := by decide +kernel
theorem dX4_readNumber_6 : decode cX4_readNumber 6 = .ok (.iconst 0, 1) := by decide +kernel
theorem dX4_readNumber_7 : decode cX4_readNumber 7 = .ok (.putfield 80, 3) := by decide +kernel
theorem dX4_readNumber_10 : decode cX4_readNumber 10 = .ok (.aload_n 0, 1) := by decide +kernel
theorem dX4_readNumber_11 : decode cX4_readNumber 11 = .ok (.getfield 19, 3) := by decide +kernel
theorem dX4_readNumber_14 : decode cX4_readNumber 14 = .ok (.aload_n 0, 1) := by decide +kernel
theorem dX4_readNumber_15 : decode cX4_readNumber 15 = .ok (.getfield 15, 3) := by decide +kernel
theorem dX4_readNumber_18 : decode cX4_readNumber 18 = .ok (.getfield 32, 3) := by decide +kernel
theorem dX4_readNumber_21 : decode cX4_readNumber 21 = .ok (.if_icmp .ge 56, 3) := by decide +kernel
theorem dX4_readNumber_24 : decode cX4_readNumber 24 = .ok (.aload_n 0, 1) := by decide +kernel
theorem dX4_readNumber_25 : decode cX4_readNumber 25 = .ok (.getfield 15, 3) := by decide +kernel
theorem dX4_readNumber_28 : decode cX4_readNumber 28 = .ok (.aload_n 0, 1) := by decide +kernel
theorem dX4_readNumber_29 : decode cX4_readNumber 29 = .ok (.getfield 19, 3) := by decide +kernel
theorem dX4_readNumber_32 : decode cX4_readNumber 32 = .ok (.invokevirtual 96, 3) := by decide +kernel
theorem dX4_readNumber_35 : decode cX4_readNumber 35 = .ok (.ifCond .eq 42, 3) := by decide +kernel
theorem dX4_readNumber_38 : decode cX4_readNumber 38 = .ok (.aload_n 0, 1) := by decide +kernel
theorem dX4_readNumber_39 : decode cX4_readNumber 39 = .ok (.aload_n 0, 1) := by decide +kernel
theorem dX4_readNumber_40 : decode cX4_readNumber 40 = .ok (.getfield 80, 3) := by decide +kernel
theorem dX4_readNumber_43 : decode cX4_readNumber 43 = .ok (.bipush 10, 2) := by decide +kernel
theorem dX4_readNumber_45 : decode cX4_readNumber 45 = .ok (.imul, 1) := by decide +kernel
theorem dX4_readNumber_46 : decode cX4_readNumber 46 = .ok (.aload_n 0, 1) := by decide +kernel
theorem dX4_readNumber_47 : decode cX4_readNumber 47 = .ok (.getfield 15, 3) := by decide +kernel
theorem dX4_readNumber_50 : decode cX4_readNumber 50 = .ok (.aload_n 0, 1) := by decide +kernel
theorem dX4_readNumber_51 : decode cX4_readNumber 51 = .ok (.getfield 19, 3) := by decide +kernel
theorem dX4_readNumber_54 : decode cX4_readNumber 54 = .ok (.invokevirtual 88, 3) := by decide +kernel
theorem dX4_readNumber_57 : decode cX4_readNumber 57 = .ok (.bipush 48, 2) := by decide +kernel
theorem dX4_readNumber_59 : decode cX4_readNumber 59 = .ok (.isub, 1) := by decide +kernel
theorem dX4_readNumber_60 : decode cX4_readNumber 60 = .ok (.iadd, 1) := by decide +kernel
theorem dX4_readNumber_61 : decode cX4_readNumber 61 = .ok (.putfield 80, 3) := by decide +kernel
theorem dX4_readNumber_64 : decode cX4_readNumber 64 = .ok (.aload_n 0, 1) := by decide +kernel
theorem dX4_readNumber_65 : decode cX4_readNumber 65 = .ok (.dup, 1) := by decide +kernel
theorem dX4_readNumber_66 : decode cX4_readNumber 66 = .ok (.getfield 19, 3) := by decide +kernel
theorem dX4_readNumber_69 : decode cX4_readNumber 69 = .ok (.iconst 1, 1) := by decide +kernel
theorem dX4_readNumber_70 : decode cX4_readNumber 70 = .ok (.iadd, 1) := by decide +kernel
theorem dX4_readNumber_71 : decode cX4_readNumber 71 = .ok (.putfield 19, 3) := by decide +kernel
theorem dX4_readNumber_74 : decode cX4_readNumber 74 = .ok (.goto (-64), 3) := by decide +kernel
theorem dX4_readNumber_77 : decode cX4_readNumber 77 = .ok (.aload_n 0, 1) := by decide +kernel
theorem dX4_readNumber_78 : decode cX4_readNumber 78 = .ok (.getfield 19, 3) := by decide +kernel
theorem dX4_readNumber_81 : decode cX4_readNumber 81 = .ok (.aload_n 0, 1) := by decide +kernel
theorem dX4_readNumber_82 : decode cX4_readNumber 82 = .ok (.getfield 67, 3) := by decide +kernel
theorem dX4_readNumber_85 : decode cX4_readNumber 85 = .ok (.isub, 1) := by decide +kernel
theorem dX4_readNumber_86 : decode cX4_readNumber 86 = .ok (.iconst 2, 1) := by decide +kernel
theorem dX4_readNumber_87 : decode cX4_readNumber 87 = .ok (.if_icmp .le 15, 3) := by decide +kernel
theorem dX4_readNumber_90 : decode cX4_readNumber 90 = .ok (.aload_n 0, 1) := by decide +kernel
theorem dX4_readNumber_91 : decode cX4_readNumber 91 = .ok (.iconst 1, 1) := by decide +kernel
theorem dX4_readNumber_92 : decode cX4_readNumber 92 = .ok (.aload_n 0, 1) := by decide +kernel
theorem dX4_readNumber_93 : decode cX4_readNumber 93 = .ok (.getfield 67, 3) := by decide +kernel
theorem dX4_readNumber_96 : decode cX4_readNumber 96 = .ok (.invokevirtual 70, 3) := by decide +kernel
theorem dX4_readNumber_99 : decode cX4_readNumber 99 = .ok (.ifCond .eq 7, 3) := by decide +kernel
theorem dX4_readNumber_102 : decode cX4_readNumber 102 = .ok (.iconst 1, 1) := by decide +kernel
theorem dX4_readNumber_103 : decode cX4_readNumber 103 = .ok (.goto 4, 3) := by decide +kernel
theorem dX4_readNumber_106 : decode cX4_readNumber 106 = .ok (.iconst 0, 1) := by decide +kernel
theorem dX4_readNumber_107 : decode cX4_readNumber 107 = .ok (.ireturn, 1) := by decide +kernel
theorem dX4_passBlanks_0 : decode cX4_passBlanks 0 = .ok (.aload_n 0, 1) := by decide +kernel
theorem dX4_passBlanks_1 : decode cX4_passBlanks 1 = .ok (.getfield 19, 3) := by decide +kernel
theorem dX4_passBlanks_4 : decode cX4_passBlanks 4 = .ok (.aload_n 0, 1) := by decide +kernel
theorem dX4_passBlanks_5 : decode cX4_passBlanks 5 = .ok (.getfield 15, 3) := by decide +kernel
theorem dX4_passBlanks_8 : decode cX4_passBlanks 8 = .ok (.getfield 32, 3) := by decide +kernel
theorem dX4_passBlanks_11 : decode cX4_passBlanks 11 = .ok (.if_icmp .ge 32, 3) := by decide +kernel
theorem dX4_passBlanks_14 : decode cX4_passBlanks 14 = .ok (.aload_n 0, 1) := by decide +kernel
theorem dX4_passBlanks_15 : decode cX4_passBlanks 15 = .ok (.getfield 15, 3) := by decide +kernel
theorem dX4_passBlanks_18 : decode cX4_passBlanks 18 = .ok (.aload_n 0, 1) := by decide +kernel
theorem dX4_passBlanks_19 : decode cX4_passBlanks 19 = .ok (.getfield 19, 3) := by decide +kernel
theorem dX4_passBlanks_22 : decode cX4_passBlanks 22 = .ok (.invokevirtual 88, 3) := by decide +kernel
theorem dX4_passBlanks_25 : decode cX4_passBlanks 25 = .ok (.bipush 32, 2) := by decide +kernel
theorem dX4_passBlanks_27 : decode cX4_passBlanks 27 = .ok (.if_icmp .ne 16, 3) := by decide +kernel
theorem dX4_passBlanks_30 : decode cX4_passBlanks 30 = .ok (.aload_n 0, 1) := by decide +kernel
theorem dX4_passBlanks_31 : decode cX4_passBlanks 31 = .ok (.dup, 1) := by decide +kernel
theorem dX4_passBlanks_32 : decode cX4_passBlanks 32 = .ok (.getfield 19, 3) := by decide +kernel
theorem dX4_passBlanks_35 : decode cX4_passBlanks 35 = .ok (.iconst 1, 1) := by decide +kernel
theorem dX4_passBlanks_36 : decode cX4_passBlanks 36 = .ok (.iadd, 1) := by decide +kernel
theorem dX4_passBlanks_37 : decode cX4_passBlanks 37 = .ok (.putfield 19, 3) := by decide +kernel
theorem dX4_passBlanks_40 : decode cX4_passBlanks 40 = .ok (.goto (-40), 3) := by decide +kernel
theorem dX4_passBlanks_43 : decode cX4_passBlanks 43 = .ok (.return_, 1) := by decide +kernel
theorem dX5_init_0 : decode cX5_init 0 = .ok (.aload_n 0, 1) := by decide +kernel
theorem dX5_init_1 : decode cX5_init 1 = .ok (.invokespecial 3, 3) := by decide +kernel
theorem dX5_init_4 : decode cX5_init 4 = .ok (.aload_n 0, 1) := by decide +kernel
theorem dX5_init_5 : decode cX5_init 5 = .ok (.sipush 200, 3) := by decide +kernel
theorem dX5_init_8 : decode cX5_init 8 = .ok (.newarray .int, 2) := by decide +kernel
theorem dX5_init_10 : decode cX5_init 10 = .ok (.putfield 9, 3) := by decide +kernel
theorem dX5_init_13 : decode cX5_init 13 = .ok (.return_, 1) := by decide +kernel
theorem dX5_append_0 : decode cX5_append 0 = .ok (.aload_n 0, 1) := by decide +kernel
theorem dX5_append_1 : decode cX5_append 1 = .ok (.getfield 15, 3) := by decide +kernel
theorem dX5_append_4 : decode cX5_append 4 = .ok (.ifCond .lt 15, 3) := by decide +kernel
theorem dX5_append_7 : decode cX5_append 7 = .ok (.aload_n 0, 1) := by decide +kernel
theorem dX5_append_8 : decode cX5_append 8 = .ok (.getfield 15, 3) := by decide +kernel
theorem dX5_append_11 : decode cX5_append 11 = .ok (.aload_n 0, 1) := by decide +kernel
theorem dX5_append_12 : decode cX5_append 12 = .ok (.getfield 9, 3) := by decide +kernel
theorem dX5_append_15 : decode cX5_append 15 = .ok (.arraylength, 1) := by decide +kernel
theorem dX5_append_16 : decode cX5_append 16 = .ok (.if_icmp .lt 5, 3) := by decide +kernel
theorem dX5_append_19 : decode cX5_append 19 = .ok (.iconst 0, 1) := by decide +kernel
theorem dX5_append_20 : decode cX5_append 20 = .ok (.ireturn, 1) := by decide +kernel
theorem dX5_append_21 : decode cX5_append 21 = .ok (.aload_n 0, 1) := by decide +kernel
theorem dX5_append_22 : decode cX5_append 22 = .ok (.getfield 9, 3) := by decide +kernel
theorem dX5_append_25 : decode cX5_append 25 = .ok (.aload_n 0, 1) := by decide +kernel
theorem dX5_append_26 : decode cX5_append 26 = .ok (.getfield 15, 3) := by decide +kernel
theorem dX5_append_29 : decode cX5_append 29 = .ok (.iload_n 1, 1) := by decide +kernel
theorem dX5_append_30 : decode cX5_append 30 = .ok (.iastore, 1) := by decide +kernel
theorem dX5_append_31 : decode cX5_append 31 = .ok (.aload_n 0, 1) := by decide +kernel
theorem dX5_append_32 : decode cX5_append 32 = .ok (.dup, 1) := by decide +kernel
theorem dX5_append_33 : decode cX5_append 33 = .ok (.getfield 15, 3) := by decide +kernel
theorem dX5_append_36 : decode cX5_append 36 = .ok (.iconst 1, 1) := by decide +kernel
theorem dX5_append_37 : decode cX5_append 37 = .ok (.iadd, 1) := by decide +kernel
theorem dX5_append_38 : decode cX5_append 38 = .ok (.putfield 15, 3) := by decide +kernel
theorem dX5_append_41 : decode cX5_append 41 = .ok (.iconst 1, 1) := by decide +kernel
theorem dX5_append_42 : decode cX5_append 42 = .ok (.ireturn, 1) := by decide +kernel
theorem dX5_byteAt_0 : decode cX5_byteAt 0 = .ok (.iload_n 1, 1) := by decide +kernel
theorem dX5_byteAt_1 : decode cX5_byteAt 1 = .ok (.ifCond .lt 29, 3) := by decide +kernel
theorem dX5_byteAt_4 : decode cX5_byteAt 4 = .ok (.iload_n 1, 1) := by decide +kernel
theorem dX5_byteAt_5 : decode cX5_byteAt 5 = .ok (.aload_n 0, 1) := by decide +kernel
theorem dX5_byteAt_6 : decode cX5_byteAt 6 = .ok (.getfield 15, 3) := by decide +kernel
theorem dX5_byteAt_9 : decode cX5_byteAt 9 = .ok (.if_icmp .ge 21, 3) := by decide +kernel
theorem dX5_byteAt_12 : decode cX5_byteAt 12 = .ok (.iload_n 1, 1) := by decide +kernel
theorem dX5_byteAt_13 : decode cX5_byteAt 13 = .ok (.aload_n 0, 1) := by decide +kernel
theorem dX5_byteAt_14 : decode cX5_byteAt 14 = .ok (.getfield 9, 3) := by decide +kernel
theorem dX5_byteAt_17 : decode cX5_byteAt 17 = .ok (.arraylength, 1) := by decide +kernel
theorem dX5_byteAt_18 : decode cX5_byteAt 18 = .ok (.if_icmp .ge 12, 3) := by decide +kernel
theorem dX5_byteAt_21 : decode cX5_byteAt 21 = .ok (.aload_n 0, 1) := by decide +kernel
theorem dX5_byteAt_22 : decode cX5_byteAt 22 = .ok (.getfield 9, 3) := by decide +kernel
theorem dX5_byteAt_25 : decode cX5_byteAt 25 = .ok (.iload_n 1, 1) := by decide +kernel
theorem dX5_byteAt_26 : decode cX5_byteAt 26 = .ok (.iaload, 1) := by decide +kernel
theorem dX5_byteAt_27 : decode cX5_byteAt 27 = .ok (.goto 5, 3) := by decide +kernel
theorem dX5_byteAt_30 : decode cX5_byteAt 30 = .ok (.bipush (-4), 2) := by decide +kernel
theorem dX5_byteAt_32 : decode cX5_byteAt 32 = .ok (.ireturn, 1) := by decide +kernel
theorem dX5_hasLetterAt_0 : decode cX5_hasLetterAt 0 = .ok (.aload_n 0, 1) := by decide +kernel
theorem dX5_hasLetterAt_1 : decode cX5_hasLetterAt 1 = .ok (.iload_n 1, 1) := by decide +kernel
theorem dX5_hasLetterAt_2 : decode cX5_hasLetterAt 2 = .ok (.invokevirtual 19, 3) := by decide +kernel
theorem dX5_hasLetterAt_5 : decode cX5_hasLetterAt 5 = .ok (.istore_n 2, 1) := by decide +kernel
theorem dX5_hasLetterAt_6 : decode cX5_hasLetterAt 6 = .ok (.iload_n 2, 1) := by decide +kernel
theorem dX5_hasLetterAt_7 : decode cX5_hasLetterAt 7 = .ok (.bipush 97, 2) := by decide +kernel
theorem dX5_hasLetterAt_9 : decode cX5_hasLetterAt 9 = .ok (.if_icmp .lt 13, 3) := by decide +kernel
theorem dX5_hasLetterAt_12 : decode cX5_hasLetterAt 12 = .ok (.iload_n 2, 1) := by decide +kernel
theorem dX5_hasLetterAt_13 : decode cX5_hasLetterAt 13 = .ok (.bipush 122, 2) := by decide +kernel
theorem dX5_hasLetterAt_15 : decode cX5_hasLetterAt 15 = .ok (.if_icmp .gt 7, 3) := by decide +kernel
theorem dX5_hasLetterAt_18 : decode cX5_hasLetterAt 18 = .ok (.iconst 1, 1) := by decide +kernel
theorem dX5_hasLetterAt_19 : decode cX5_hasLetterAt 19 = .ok (.goto 4, 3) := by decide +kernel
theorem dX5_hasLetterAt_22 : decode cX5_hasLetterAt 22 = .ok (.iconst 0, 1) := by decide +kernel
theorem dX5_hasLetterAt_23 : decode cX5_hasLetterAt 23 = .ok (.ireturn, 1) := by decide +kernel
theorem dX5_hasFigureAt_0 : decode cX5_hasFigureAt 0 = .ok (.aload_n 0, 1) := by decide +kernel
theorem dX5_hasFigureAt_1 : decode cX5_hasFigureAt 1 = .ok (.iload_n 1, 1) := by decide +kernel
theorem dX5_hasFigureAt_2 : decode cX5_hasFigureAt 2 = .ok (.invokevirtual 19, 3) := by decide +kernel
theorem dX5_hasFigureAt_5 : decode cX5_hasFigureAt 5 = .ok (.istore_n 2, 1) := by decide +kernel
theorem dX5_hasFigureAt_6 : decode cX5_hasFigureAt 6 = .ok (.iload_n 2, 1) := by decide +kernel
theorem dX5_hasFigureAt_7 : decode cX5_hasFigureAt 7 = .ok (.bipush 48, 2) := by decide +kernel
theorem dX5_hasFigureAt_9 : decode cX5_hasFigureAt 9 = .ok (.if_icmp .lt 13, 3) := by decide +kernel
theorem dX5_hasFigureAt_12 : decode cX5_hasFigureAt 12 = .ok (.iload_n 2, 1) := by decide +kernel
theorem dX5_hasFigureAt_13 : decode cX5_hasFigureAt 13 = .ok (.bipush 57, 2) := by decide +kernel
theorem dX5_hasFigureAt_15 : decode cX5_hasFigureAt 15 = .ok (.if_icmp .gt 7, 3) := by decide +kernel
theorem dX5_hasFigureAt_18 : decode cX5_hasFigureAt 18 = .ok (.iconst 1, 1) := by decide +kernel
theorem dX5_hasFigureAt_19 : decode cX5_hasFigureAt 19 = .ok (.goto 4, 3) := by decide +kernel
theorem dX5_hasFigureAt_22 : decode cX5_hasFigureAt 22 = .ok (.iconst 0, 1) := by decide +kernel
theorem dX5_hasFigureAt_23 : decode cX5_hasFigureAt 23 = .ok (.ireturn, 1) := by decide +kernel
theorem dX6_init_0 : decode cX6_init 0 = .ok (.aload_n 0, 1) := by decide +kernel
theorem dX6_init_1 : decode cX6_init 1 = .ok (.invokespecial 3, 3) := by decide +kernel
theorem dX6_init_4 : decode cX6_init 4 = .ok (.aload_n 0, 1) := by decide +kernel
theorem dX6_init_5 : decode cX6_init 5 = .ok (.new 9, 3) := by decide +kernel
theorem dX6_init_8 : decode cX6_init 8 = .ok (.dup, 1) := by decide +kernel
theorem dX6_init_9 : decode cX6_init 9 = .ok (.invokespecial 11, 3) := by decide +kernel
theorem dX6_init_12 : decode cX6_init 12 = .ok (.putfield 12, 3) := by decide +kernel
theorem dX6_init_15 : decode cX6_init 15 = .ok (.aload_n 0, 1) := by decide +kernel
theorem dX6_init_16 : decode cX6_init 16 = .ok (.new 18, 3) := by decide +kernel
theorem dX6_init_19 : decode cX6_init 19 = .ok (.dup, 1) := by decide +kernel
theorem dX6_init_20 : decode cX6_init 20 = .ok (.aload_n 0, 1) := by decide +kernel
theorem dX6_init_21 : decode cX6_init 21 = .ok (.getfield 12, 3) := by decide +kernel
theorem dX6_init_24 : decode cX6_init 24 = .ok (.invokespecial 20, 3) := by decide +kernel
theorem dX6_init_27 : decode cX6_init 27 = .ok (.putfield 23, 3) := by decide +kernel
theorem dX6_init_30 : decode cX6_init 30 = .ok (.aload_n 0, 1) := by decide +kernel
theorem dX6_init_31 : decode cX6_init 31 = .ok (.new 18, 3) := by decide +kernel
theorem dX6_init_34 : decode cX6_init 34 = .ok (.dup, 1) := by decide +kernel
theorem dX6_init_35 : decode cX6_init 35 = .ok (.aload_n 0, 1) := by decide +kernel
theorem dX6_init_36 : decode cX6_init 36 = .ok (.getfield 12, 3) := by decide +kernel
theorem dX6_init_39 : decode cX6_init 39 = .ok (.invokespecial 20, 3) := by decide +kernel
theorem dX6_init_42 : decode cX6_init 42 = .ok (.putfield 27, 3) := by decide +kernel
theorem dX6_init_45 : decode cX6_init 45 = .ok (.aload_n 0, 1) := by decide +kernel
theorem dX6_init_46 : decode cX6_init 46 = .ok (.new 30, 3) := by decide +kernel
theorem dX6_init_49 : decode cX6_init 49 = .ok (.dup, 1) := by decide +kernel
theorem dX6_init_50 : decode cX6_init 50 = .ok (.aload_n 0, 1) := by decide +kernel
theorem dX6_init_51 : decode cX6_init 51 = .ok (.getfield 12, 3) := by decide +kernel
theorem dX6_init_54 : decode cX6_init 54 = .ok (.invokespecial 32, 3) := by decide +kernel
theorem dX6_init_57 : decode cX6_init 57 = .ok (.putfield 33, 3) := by decide +kernel
theorem dX6_init_60 : decode cX6_init 60 = .ok (.return_, 1) := by decide +kernel
theorem dX6_startAnew_0 : decode cX6_startAnew 0 = .ok (.aload_n 0, 1) := by decide +kernel
theorem dX6_startAnew_1 : decode cX6_startAnew 1 = .ok (.getfield 12, 3) := by decide +kernel
theorem dX6_startAnew_4 : decode cX6_startAnew 4 = .ok (.aload_n 1, 1) := by decide +kernel
theorem dX6_startAnew_5 : decode cX6_startAnew 5 = .ok (.invokevirtual 37, 3) := by decide +kernel
theorem dX6_startAnew_8 : decode cX6_startAnew 8 = .ok (.aload_n 0, 1) := by decide +kernel
theorem dX6_startAnew_9 : decode cX6_startAnew 9 = .ok (.getfield 33, 3) := by decide +kernel
theorem dX6_startAnew_12 : decode cX6_startAnew 12 = .ok (.invokevirtual 41, 3) := by decide +kernel
theorem dX6_startAnew_15 : decode cX6_startAnew 15 = .ok (.aload_n 0, 1) := by decide +kernel
theorem dX6_startAnew_16 : decode cX6_startAnew 16 = .ok (.getfield 33, 3) := by decide +kernel
theorem dX6_startAnew_19 : decode cX6_startAnew 19 = .ok (.iconst 0, 1) := by decide +kernel
theorem dX6_startAnew_20 : decode cX6_startAnew 20 = .ok (.iconst 1, 1) := by decide +kernel
theorem dX6_startAnew_21 : decode cX6_startAnew 21 = .ok (.bipush (-4), 2) := by decide +kernel
theorem dX6_startAnew_23 : decode cX6_startAnew 23 = .ok (.bipush (-4), 2) := by decide +kernel
theorem dX6_startAnew_25 : decode cX6_startAnew 25 = .ok (.invokevirtual 44, 3) := by decide +kernel
theorem dX6_startAnew_28 : decode cX6_startAnew 28 = .ok (.aload_n 0, 1) := by decide +kernel
theorem dX6_startAnew_29 : decode cX6_startAnew 29 = .ok (.getfield 33, 3) := by decide +kernel
theorem dX6_startAnew_32 : decode cX6_startAnew 32 = .ok (.iconst 0, 1) := by decide +kernel
theorem dX6_startAnew_33 : decode cX6_startAnew 33 = .ok (.iconst 1, 1) := by decide +kernel
theorem dX6_startAnew_34 : decode cX6_startAnew 34 = .ok (.iconst 0, 1) := by decide +kernel
theorem dX6_startAnew_35 : decode cX6_startAnew 35 = .ok (.invokevirtual 48, 3) := by decide +kernel
theorem dX6_startAnew_38 : decode cX6_startAnew 38 = .ok (.aload_n 0, 1) := by decide +kernel
theorem dX6_startAnew_39 : decode cX6_startAnew 39 = .ok (.invokevirtual 52, 3) := by decide +kernel
theorem dX6_startAnew_42 : decode cX6_startAnew 42 = .ok (.aload_n 0, 1) := by decide +kernel
theorem dX6_startAnew_43 : decode cX6_startAnew 43 = .ok (.iconst 0, 1) := by decide +kernel
theorem dX6_startAnew_44 : decode cX6_startAnew 44 = .ok (.putfield 55, 3) := by decide +kernel
theorem dX6_startAnew_47 : decode cX6_startAnew 47 = .ok (.aload_n 0, 1) := by decide +kernel
theorem dX6_startAnew_48 : decode cX6_startAnew 48 = .ok (.iconst 0, 1) := by decide +kernel
theorem dX6_startAnew_49 : decode cX6_startAnew 49 = .ok (.putfield 59, 3) := by decide +kernel
theorem dX6_startAnew_52 : decode cX6_startAnew 52 = .ok (.return_, 1) := by decide +kernel
theorem dX6_copyFrom_0 : decode cX6_copyFrom 0 = .ok (.aload_n 0, 1) := by decide +kernel
theorem dX6_copyFrom_1 : decode cX6_copyFrom 1 = .ok (.getfield 12, 3) := by decide +kernel
theorem dX6_copyFrom_4 : decode cX6_copyFrom 4 = .ok (.aload_n 1, 1) := by decide +kernel
theorem dX6_copyFrom_5 : decode cX6_copyFrom 5 = .ok (.getfield 12, 3) := by decide +kernel
theorem dX6_copyFrom_8 : decode cX6_copyFrom 8 = .ok (.invokevirtual 62, 3) := by decide +kernel
theorem dX6_copyFrom_11 : decode cX6_copyFrom 11 = .ok (.aload_n 0, 1) := by decide +kernel
theorem dX6_copyFrom_12 : decode cX6_copyFrom 12 = .ok (.getfield 23, 3) := by decide +kernel
theorem dX6_copyFrom_15 : decode cX6_copyFrom 15 = .ok (.aload_n 1, 1) := by decide +kernel
theorem dX6_copyFrom_16 : decode cX6_copyFrom 16 = .ok (.getfield 23, 3) := by decide +kernel
theorem dX6_copyFrom_19 : decode cX6_copyFrom 19 = .ok (.invokevirtual 65, 3) := by decide +kernel
theorem dX6_copyFrom_22 : decode cX6_copyFrom 22 = .ok (.aload_n 0, 1) := by decide +kernel
theorem dX6_copyFrom_23 : decode cX6_copyFrom 23 = .ok (.getfield 33, 3) := by decide +kernel
theorem dX6_copyFrom_26 : decode cX6_copyFrom 26 = .ok (.aload_n 1, 1) := by decide +kernel
theorem dX6_copyFrom_27 : decode cX6_copyFrom 27 = .ok (.getfield 33, 3) := by decide +kernel
theorem dX6_copyFrom_30 : decode cX6_copyFrom 30 = .ok (.invokevirtual 68, 3) := by decide +kernel
theorem dX6_copyFrom_33 : decode cX6_copyFrom 33 = .ok (.aload_n 0, 1) := by decide +kernel
theorem dX6_copyFrom_34 : decode cX6_copyFrom 34 = .ok (.aload_n 1, 1) := by decide +kernel
theorem dX6_copyFrom_35 : decode cX6_copyFrom 35 = .ok (.getfield 55, 3) := by decide +kernel
theorem dX6_copyFrom_38 : decode cX6_copyFrom 38 = .ok (.putfield 55, 3) := by decide +kernel
theorem dX6_copyFrom_41 : decode cX6_copyFrom 41 = .ok (.aload_n 0, 1) := by decide +kernel
theorem dX6_copyFrom_42 : decode cX6_copyFrom 42 = .ok (.aload_n 1, 1) := by decide +kernel
theorem dX6_copyFrom_43 : decode cX6_copyFrom 43 = .ok (.getfield 59, 3) := by decide +kernel
theorem dX6_copyFrom_46 : decode cX6_copyFrom 46 = .ok (.putfield 59, 3) := by decide +kernel
theorem dX6_copyFrom_49 : decode cX6_copyFrom 49 = .ok (.return_, 1) := by decide +kernel
theorem dX6_putAllOf_0 : decode cX6_putAllOf 0 = .ok (.iload_n 2, 1) := by decide +kernel
theorem dX6_putAllOf_1 : decode cX6_putAllOf 1 = .ok (.istore 5, 2) := by decide +kernel
theorem dX6_putAllOf_3 : decode cX6_putAllOf 3 = .ok (.iload 5, 2) := by decide +kernel
theorem dX6_putAllOf_5 : decode cX6_putAllOf 5 = .ok (.aload_n 0, 1) := by decide +kernel
theorem dX6_putAllOf_6 : decode cX6_putAllOf 6 = .ok (.getfield 33, 3) := by decide +kernel
theorem dX6_putAllOf_9 : decode cX6_putAllOf 9 = .ok (.iload_n 1, 1) := by decide +kernel
theorem dX6_putAllOf_10 : decode cX6_putAllOf 10 = .ok (.invokevirtual 71, 3) := by decide +kernel
theorem dX6_putAllOf_13 : decode cX6_putAllOf 13 = .ok (.if_icmp .ge 28, 3) := by decide +kernel
theorem dX6_putAllOf_16 : decode cX6_putAllOf 16 = .ok (.aload_n 3, 1) := by decide +kernel
theorem dX6_putAllOf_17 : decode cX6_putAllOf 17 = .ok (.aload_n 0, 1) := by decide +kernel
theorem dX6_putAllOf_18 : decode cX6_putAllOf 18 = .ok (.getfield 33, 3) := by decide +kernel
theorem dX6_putAllOf_21 : decode cX6_putAllOf 21 = .ok (.iload_n 1, 1) := by decide +kernel
theorem dX6_putAllOf_22 : decode cX6_putAllOf 22 = .ok (.iload 5, 2) := by decide +kernel
theorem dX6_putAllOf_24 : decode cX6_putAllOf 24 = .ok (.invokevirtual 75, 3) := by decide +kernel
theorem dX6_putAllOf_27 : decode cX6_putAllOf 27 = .ok (.iconst 4, 1) := by decide +kernel
theorem dX6_putAllOf_28 : decode cX6_putAllOf 28 = .ok (.imul, 1) := by decide +kernel
theorem dX6_putAllOf_29 : decode cX6_putAllOf 29 = .ok (.iconst 4, 1) := by decide +kernel
theorem dX6_putAllOf_30 : decode cX6_putAllOf 30 = .ok (.iload 4, 2) := by decide +kernel
theorem dX6_putAllOf_32 : decode cX6_putAllOf 32 = .ok (.invokevirtual 79, 3) := by decide +kernel
theorem dX6_putAllOf_35 : decode cX6_putAllOf 35 = .ok (.iinc 5 1, 3) := by decide +kernel
theorem dX6_putAllOf_38 : decode cX6_putAllOf 38 = .ok (.goto (-35), 3) := by decide +kernel
theorem dX6_putAllOf_41 : decode cX6_putAllOf 41 = .ok (.aload_n 3, 1) := by decide +kernel
theorem dX6_putAllOf_42 : decode cX6_putAllOf 42 = .ok (.aload_n 0, 1) := by decide +kernel
theorem dX6_putAllOf_43 : decode cX6_putAllOf 43 = .ok (.getfield 33, 3) := by decide +kernel
theorem dX6_putAllOf_46 : decode cX6_putAllOf 46 = .ok (.iload_n 1, 1) := by decide +kernel
theorem dX6_putAllOf_47 : decode cX6_putAllOf 47 = .ok (.invokevirtual 83, 3) := by decide +kernel
theorem dX6_putAllOf_50 : decode cX6_putAllOf 50 = .ok (.aload_n 0, 1) := by decide +kernel
theorem dX6_putAllOf_51 : decode cX6_putAllOf 51 = .ok (.getfield 33, 3) := by decide +kernel
theorem dX6_putAllOf_54 : decode cX6_putAllOf 54 = .ok (.iload_n 1, 1) := by decide +kernel
theorem dX6_putAllOf_55 : decode cX6_putAllOf 55 = .ok (.invokevirtual 86, 3) := by decide +kernel
theorem dX6_putAllOf_58 : decode cX6_putAllOf 58 = .ok (.iload 4, 2) := by decide +kernel
theorem dX6_putAllOf_60 : decode cX6_putAllOf 60 = .ok (.invokevirtual 79, 3) := by decide +kernel
theorem dX6_putAllOf_63 : decode cX6_putAllOf 63 = .ok (.return_, 1) := by decide +kernel
theorem dX6_findMapDue_0 : decode cX6_findMapDue 0 = .ok (.aload_n 0, 1) := by decide +kernel
theorem dX6_findMapDue_1 : decode cX6_findMapDue 1 = .ok (.getfield 27, 3) := by decide +kernel
theorem dX6_findMapDue_4 : decode cX6_findMapDue 4 = .ok (.invokevirtual 89, 3) := by decide +kernel
theorem dX6_findMapDue_7 : decode cX6_findMapDue 7 = .ok (.iconst 0, 1) := by decide +kernel
theorem dX6_findMapDue_8 : decode cX6_findMapDue 8 = .ok (.istore_n 1, 1) := by decide +kernel
theorem dX6_findMapDue_9 : decode cX6_findMapDue 9 = .ok (.iload_n 1, 1) := by decide +kernel
theorem dX6_findMapDue_10 : decode cX6_findMapDue 10 = .ok (.aload_n 0, 1) := by decide +kernel
theorem dX6_findMapDue_11 : decode cX6_findMapDue 11 = .ok (.getfield 12, 3) := by decide +kernel
theorem dX6_findMapDue_14 : decode cX6_findMapDue 14 = .ok (.invokevirtual 92, 3) := by decide +kernel
theorem dX6_findMapDue_17 : decode cX6_findMapDue 17 = .ok (.if_icmp .ge 20, 3) := by decide +kernel
theorem dX6_findMapDue_20 : decode cX6_findMapDue 20 = .ok (.aload_n 0, 1) := by decide +kernel
theorem dX6_findMapDue_21 : decode cX6_findMapDue 21 = .ok (.iload_n 1, 1) := by decide +kernel
theorem dX6_findMapDue_22 : decode cX6_findMapDue 22 = .ok (.iconst 0, 1) := by decide +kernel
theorem dX6_findMapDue_23 : decode cX6_findMapDue 23 = .ok (.aload_n 0, 1) := by decide +kernel
theorem dX6_findMapDue_24 : decode cX6_findMapDue 24 = .ok (.getfield 27, 3) := by decide +kernel
theorem dX6_findMapDue_27 : decode cX6_findMapDue 27 = .ok (.iconst 0, 1) := by decide +kernel
theorem dX6_findMapDue_28 : decode cX6_findMapDue 28 = .ok (.invokevirtual 96, 3) := by decide +kernel
theorem dX6_findMapDue_31 : decode cX6_findMapDue 31 = .ok (.iinc 1 1, 3) := by decide +kernel
theorem dX6_findMapDue_34 : decode cX6_findMapDue 34 = .ok (.goto (-25), 3) := by decide +kernel
theorem dX6_findMapDue_37 : decode cX6_findMapDue 37 = .ok (.return_, 1) := by decide +kernel
theorem dX6_isSpoilt_0 : decode cX6_isSpoilt 0 = .ok (.aload_n 0, 1) := by decide +kernel
theorem dX6_isSpoilt_1 : decode cX6_isSpoilt 1 = .ok (.invokevirtual 100, 3) := by decide +kernel
theorem dX6_isSpoilt_4 : decode cX6_isSpoilt 4 = .ok (.iconst 0, 1) := by decide +kernel
theorem dX6_isSpoilt_5 : decode cX6_isSpoilt 5 = .ok (.istore_n 1, 1) := by decide +kernel
theorem dX6_isSpoilt_6 : decode cX6_isSpoilt 6 = .ok (.iload_n 1, 1) := by decide +kernel
theorem dX6_isSpoilt_7 : decode cX6_isSpoilt 7 = .ok (.bipush 32, 2) := by decide +kernel
theorem dX6_isSpoilt_9 : decode cX6_isSpoilt 9 = .ok (.if_icmp .ge 30, 3) := by decide +kernel
theorem dX6_isSpoilt_12 : decode cX6_isSpoilt 12 = .ok (.aload_n 0, 1) := by decide +kernel
theorem dX6_isSpoilt_13 : decode cX6_isSpoilt 13 = .ok (.getfield 23, 3) := by decide +kernel
theorem dX6_isSpoilt_16 : decode cX6_isSpoilt 16 = .ok (.iload_n 1, 1) := by decide +kernel
theorem dX6_isSpoilt_17 : decode cX6_isSpoilt 17 = .ok (.invokevirtual 103, 3) := by decide +kernel
theorem dX6_isSpoilt_20 : decode cX6_isSpoilt 20 = .ok (.aload_n 0, 1) := by decide +kernel
theorem dX6_isSpoilt_21 : decode cX6_isSpoilt 21 = .ok (.getfield 27, 3) := by decide +kernel
theorem dX6_isSpoilt_24 : decode cX6_isSpoilt 24 = .ok (.iload_n 1, 1) := by decide +kernel
theorem dX6_isSpoilt_25 : decode cX6_isSpoilt 25 = .ok (.invokevirtual 103, 3) := by decide +kernel
theorem dX6_isSpoilt_28 : decode cX6_isSpoilt 28 = .ok (.if_icmp .eq 5, 3) := by decide +kernel
theorem dX6_isSpoilt_31 : decode cX6_isSpoilt 31 = .ok (.iconst 1, 1) := by decide +kernel
theorem dX6_isSpoilt_32 : decode cX6_isSpoilt 32 = .ok (.ireturn, 1) := by decide +kernel
theorem dX6_isSpoilt_33 : decode cX6_isSpoilt 33 = .ok (.iinc 1 1, 3) := by decide +kernel
theorem dX6_isSpoilt_36 : decode cX6_isSpoilt 36 = .ok (.goto (-30), 3) := by decide +kernel
theorem dX6_isSpoilt_39 : decode cX6_isSpoilt 39 = .ok (.iconst 0, 1) := by decide +kernel
theorem dX6_isSpoilt_40 : decode cX6_isSpoilt 40 = .ok (.ireturn, 1) := by decide +kernel
theorem dX6_wrongs_0 : decode cX6_wrongs 0 = .ok (.aload_n 0, 1) := by decide +kernel
theorem dX6_wrongs_1 : decode cX6_wrongs 1 = .ok (.invokevirtual 100, 3) := by decide +kernel
theorem dX6_wrongs_4 : decode cX6_wrongs 4 = .ok (.iconst 0, 1) := by decide +kernel
theorem dX6_wrongs_5 : decode cX6_wrongs 5 = .ok (.istore_n 2, 1) := by decide +kernel
theorem dX6_wrongs_6 : decode cX6_wrongs 6 = .ok (.iconst 0, 1) := by decide +kernel
theorem dX6_wrongs_7 : decode cX6_wrongs 7 = .ok (.istore_n 3, 1) := by decide +kernel
theorem dX6_wrongs_8 : decode cX6_wrongs 8 = .ok (.iload_n 3, 1) := by decide +kernel
theorem dX6_wrongs_9 : decode cX6_wrongs 9 = .ok (.bipush 32, 2) := by decide +kernel
theorem dX6_wrongs_11 : decode cX6_wrongs 11 = .ok (.if_icmp .ge 64, 3) := by decide +kernel
theorem dX6_wrongs_14 : decode cX6_wrongs 14 = .ok (.iload_n 1, 1) := by decide +kernel
theorem dX6_wrongs_15 : decode cX6_wrongs 15 = .ok (.ifCond .eq 25, 3) := by decide +kernel
theorem dX6_wrongs_18 : decode cX6_wrongs 18 = .ok (.aload_n 0, 1) := by decide +kernel
theorem dX6_wrongs_19 : decode cX6_wrongs 19 = .ok (.getfield 23, 3) := by decide +kernel
theorem dX6_wrongs_22 : decode cX6_wrongs 22 = .ok (.iload_n 3, 1) := by decide +kernel
theorem dX6_wrongs_23 : decode cX6_wrongs 23 = .ok (.invokevirtual 103, 3) := by decide +kernel
theorem dX6_wrongs_26 : decode cX6_wrongs 26 = .ok (.aload_n 0, 1) := by decide +kernel
theorem dX6_wrongs_27 : decode cX6_wrongs 27 = .ok (.getfield 27, 3) := by decide +kernel
theorem dX6_wrongs_30 : decode cX6_wrongs 30 = .ok (.iload_n 3, 1) := by decide +kernel
theorem dX6_wrongs_31 : decode cX6_wrongs 31 = .ok (.invokevirtual 103, 3) := by decide +kernel
theorem dX6_wrongs_34 : decode cX6_wrongs 34 = .ok (.iconst (-1), 1) := by decide +kernel
theorem dX6_wrongs_35 : decode cX6_wrongs 35 = .ok (.ixor, 1) := by decide +kernel
theorem dX6_wrongs_36 : decode cX6_wrongs 36 = .ok (.iand, 1) := by decide +kernel
theorem dX6_wrongs_37 : decode cX6_wrongs 37 = .ok (.goto 22, 3) := by decide +kernel
theorem dX6_wrongs_40 : decode cX6_wrongs 40 = .ok (.aload_n 0, 1) := by decide +kernel
theorem dX6_wrongs_41 : decode cX6_wrongs 41 = .ok (.getfield 27, 3) := by decide +kernel
theorem dX6_wrongs_44 : decode cX6_wrongs 44 = .ok (.iload_n 3, 1) := by decide +kernel
theorem dX6_wrongs_45 : decode cX6_wrongs 45 = .ok (.invokevirtual 103, 3) := by decide +kernel
theorem dX6_wrongs_48 : decode cX6_wrongs 48 = .ok (.aload_n 0, 1) := by decide +kernel
theorem dX6_wrongs_49 : decode cX6_wrongs 49 = .ok (.getfield 23, 3) := by decide +kernel
theorem dX6_wrongs_52 : decode cX6_wrongs 52 = .ok (.iload_n 3, 1) := by decide +kernel
theorem dX6_wrongs_53 : decode cX6_wrongs 53 = .ok (.invokevirtual 103, 3) := by decide +kernel
theorem dX6_wrongs_56 : decode cX6_wrongs 56 = .ok (.iconst (-1), 1) := by decide +kernel
theorem dX6_wrongs_57 : decode cX6_wrongs 57 = .ok (.ixor, 1) := by decide +kernel
theorem dX6_wrongs_58 : decode cX6_wrongs 58 = .ok (.iand, 1) := by decide +kernel
theorem dX6_wrongs_59 : decode cX6_wrongs 59 = .ok (.istore 4, 2) := by decide +kernel
theorem dX6_wrongs_61 : decode cX6_wrongs 61 = .ok (.iload_n 2, 1) := by decide +kernel
theorem dX6_wrongs_62 : decode cX6_wrongs 62 = .ok (.iload 4, 2) := by decide +kernel
theorem dX6_wrongs_64 : decode cX6_wrongs 64 = .ok (.invokestatic 106, 3) := by decide +kernel
theorem dX6_wrongs_67 : decode cX6_wrongs 67 = .ok (.iadd, 1) := by decide +kernel
theorem dX6_wrongs_68 : decode cX6_wrongs 68 = .ok (.istore_n 2, 1) := by decide +kernel
theorem dX6_wrongs_69 : decode cX6_wrongs 69 = .ok (.iinc 3 1, 3) := by decide +kernel
theorem dX6_wrongs_72 : decode cX6_wrongs 72 = .ok (.goto (-64), 3) := by decide +kernel
theorem dX6_wrongs_75 : decode cX6_wrongs 75 = .ok (.iload_n 2, 1) := by decide +kernel
theorem dX6_wrongs_76 : decode cX6_wrongs 76 = .ok (.ireturn, 1) := by decide +kernel
theorem dX6_firstWrong_0 : decode cX6_firstWrong 0 = .ok (.aload_n 0, 1) := by decide +kernel
theorem dX6_firstWrong_1 : decode cX6_firstWrong 1 = .ok (.invokevirtual 100, 3) := by decide +kernel
theorem dX6_firstWrong_4 : decode cX6_firstWrong 4 = .ok (.iconst 0, 1) := by decide +kernel
theorem dX6_firstWrong_5 : decode cX6_firstWrong 5 = .ok (.istore_n 1, 1) := by decide +kernel
theorem dX6_firstWrong_6 : decode cX6_firstWrong 6 = .ok (.iload_n 1, 1) := by decide +kernel
theorem dX6_firstWrong_7 : decode cX6_firstWrong 7 = .ok (.aload_n 0, 1) := by decide +kernel
theorem dX6_firstWrong_8 : decode cX6_firstWrong 8 = .ok (.getfield 12, 3) := by decide +kernel
theorem dX6_firstWrong_11 : decode cX6_firstWrong 11 = .ok (.invokevirtual 111, 3) := by decide +kernel
theorem dX6_firstWrong_14 : decode cX6_firstWrong 14 = .ok (.iconst 4, 1) := by decide +kernel
theorem dX6_firstWrong_15 : decode cX6_firstWrong 15 = .ok (.imul, 1) := by decide +kernel
theorem dX6_firstWrong_16 : decode cX6_firstWrong 16 = .ok (.if_icmp .ge 30, 3) := by decide +kernel
theorem dX6_firstWrong_19 : decode cX6_firstWrong 19 = .ok (.aload_n 0, 1) := by decide +kernel
theorem dX6_firstWrong_20 : decode cX6_firstWrong 20 = .ok (.getfield 23, 3) := by decide +kernel
theorem dX6_firstWrong_23 : decode cX6_firstWrong 23 = .ok (.iload_n 1, 1) := by decide +kernel
theorem dX6_firstWrong_24 : decode cX6_firstWrong 24 = .ok (.invokevirtual 114, 3) := by decide +kernel
theorem dX6_firstWrong_27 : decode cX6_firstWrong 27 = .ok (.aload_n 0, 1) := by decide +kernel
theorem dX6_firstWrong_28 : decode cX6_firstWrong 28 = .ok (.getfield 27, 3) := by decide +kernel
theorem dX6_firstWrong_31 : decode cX6_firstWrong 31 = .ok (.iload_n 1, 1) := by decide +kernel
theorem dX6_firstWrong_32 : decode cX6_firstWrong 32 = .ok (.invokevirtual 114, 3) := by decide +kernel
theorem dX6_firstWrong_35 : decode cX6_firstWrong 35 = .ok (.if_icmp .eq 5, 3) := by decide +kernel
theorem dX6_firstWrong_38 : decode cX6_firstWrong 38 = .ok (.iload_n 1, 1) := by decide +kernel
theorem dX6_firstWrong_39 : decode cX6_firstWrong 39 = .ok (.ireturn, 1) := by decide +kernel
theorem dX6_firstWrong_40 : decode cX6_firstWrong 40 = .ok (.iinc 1 1, 3) := by decide +kernel
theorem dX6_firstWrong_43 : decode cX6_firstWrong 43 = .ok (.goto (-37), 3) := by decide +kernel
theorem dX6_firstWrong_46 : decode cX6_firstWrong 46 = .ok (.bipush (-4), 2) := by decide +kernel
theorem dX6_firstWrong_48 : decode cX6_firstWrong 48 = .ok (.ireturn, 1) := by decide +kernel
theorem dX6_mendMap_0 : decode cX6_mendMap 0 = .ok (.aload_n 0, 1) := by decide +kernel
theorem dX6_mendMap_1 : decode cX6_mendMap 1 = .ok (.invokevirtual 100, 3) := by decide +kernel
theorem dX6_mendMap_4 : decode cX6_mendMap 4 = .ok (.aload_n 0, 1) := by decide +kernel
theorem dX6_mendMap_5 : decode cX6_mendMap 5 = .ok (.getfield 23, 3) := by decide +kernel
theorem dX6_mendMap_8 : decode cX6_mendMap 8 = .ok (.aload_n 0, 1) := by decide +kernel
theorem dX6_mendMap_9 : decode cX6_mendMap 9 = .ok (.getfield 27, 3) := by decide +kernel
theorem dX6_mendMap_12 : decode cX6_mendMap 12 = .ok (.invokevirtual 65, 3) := by decide +kernel
theorem dX6_mendMap_15 : decode cX6_mendMap 15 = .ok (.return_, 1) := by decide +kernel
theorem dX6_groupFor_0 : decode cX6_groupFor 0 = .ok (.iload_n 2, 1) := by decide +kernel
theorem dX6_groupFor_1 : decode cX6_groupFor 1 = .ok (.iconst 1, 1) := by decide +kernel
theorem dX6_groupFor_2 : decode cX6_groupFor 2 = .ok (.if_icmp .ne 10, 3) := by decide +kernel
theorem dX6_groupFor_5 : decode cX6_groupFor 5 = .ok (.aload_n 0, 1) := by decide +kernel
theorem dX6_groupFor_6 : decode cX6_groupFor 6 = .ok (.invokevirtual 118, 3) := by decide +kernel
theorem dX6_groupFor_9 : decode cX6_groupFor 9 = .ok (.goto 8, 3) := by decide +kernel
theorem dX6_groupFor_12 : decode cX6_groupFor 12 = .ok (.aload_n 0, 1) := by decide +kernel
theorem dX6_groupFor_13 : decode cX6_groupFor 13 = .ok (.iload_n 1, 1) := by decide +kernel
theorem dX6_groupFor_14 : decode cX6_groupFor 14 = .ok (.invokevirtual 121, 3) := by decide +kernel
theorem dX6_groupFor_17 : decode cX6_groupFor 17 = .ok (.ireturn, 1) := by decide +kernel
theorem dX6_groupForDirectory_0 : decode cX6_groupForDirectory 0 = .ok (.bipush (-4), 2) := by decide +kernel
theorem dX6_groupForDirectory_2 : decode cX6_groupForDirectory 2 = .ok (.istore_n 1, 1) := by decide +kernel
theorem dX6_groupForDirectory_3 : decode cX6_groupForDirectory 3 = .ok (.iconst 0, 1) := by decide +kernel
theorem dX6_groupForDirectory_4 : decode cX6_groupForDirectory 4 = .ok (.istore_n 2, 1) := by decide +kernel
theorem dX6_groupForDirectory_5 : decode cX6_groupForDirectory 5 = .ok (.aload_n 0, 1) := by decide +kernel
theorem dX6_groupForDirectory_6 : decode cX6_groupForDirectory 6 = .ok (.getfield 33, 3) := by decide +kernel
theorem dX6_groupForDirectory_9 : decode cX6_groupForDirectory 9 = .ok (.iconst 0, 1) := by decide +kernel
theorem dX6_groupForDirectory_10 : decode cX6_groupForDirectory 10 = .ok (.invokevirtual 124, 3) := by decide +kernel
theorem dX6_groupForDirectory_13 : decode cX6_groupForDirectory 13 = .ok (.istore_n 3, 1) := by decide +kernel
theorem dX6_groupForDirectory_14 : decode cX6_groupForDirectory 14 = .ok (.iconst 0, 1) := by decide +kernel
theorem dX6_groupForDirectory_15 : decode cX6_groupForDirectory 15 = .ok (.istore 4, 2) := by decide +kernel
theorem dX6_groupForDirectory_17 : decode cX6_groupForDirectory 17 = .ok (.iload 4, 2) := by decide +kernel
theorem dX6_groupForDirectory_19 : decode cX6_groupForDirectory 19 = .ok (.aload_n 0, 1) := by decide +kernel
theorem dX6_groupForDirectory_20 : decode cX6_groupForDirectory 20 = .ok (.getfield 12, 3) := by decide +kernel
theorem dX6_groupForDirectory_23 : decode cX6_groupForDirectory 23 = .ok (.getfield 127, 3) := by decide +kernel
theorem dX6_groupForDirectory_26 : decode cX6_groupForDirectory 26 = .ok (.if_icmp .ge 82, 3) := by decide +kernel
theorem dX6_groupForDirectory_29 : decode cX6_groupForDirectory 29 = .ok (.aload_n 0, 1) := by decide +kernel
theorem dX6_groupForDirectory_30 : decode cX6_groupForDirectory 30 = .ok (.getfield 33, 3) := by decide +kernel
theorem dX6_groupForDirectory_33 : decode cX6_groupForDirectory 33 = .ok (.iload 4, 2) := by decide +kernel
theorem dX6_groupForDirectory_35 : decode cX6_groupForDirectory 35 = .ok (.iconst 0, 1) := by decide +kernel
theorem dX6_groupForDirectory_36 : decode cX6_groupForDirectory 36 = .ok (.invokevirtual 130, 3) := by decide +kernel
theorem dX6_groupForDirectory_39 : decode cX6_groupForDirectory 39 = .ok (.istore 5, 2) := by decide +kernel
theorem dX6_groupForDirectory_41 : decode cX6_groupForDirectory 41 = .ok (.aload_n 0, 1) := by decide +kernel
theorem dX6_groupForDirectory_42 : decode cX6_groupForDirectory 42 = .ok (.getfield 33, 3) := by decide +kernel
theorem dX6_groupForDirectory_45 : decode cX6_groupForDirectory 45 = .ok (.iload 4, 2) := by decide +kernel
theorem dX6_groupForDirectory_47 : decode cX6_groupForDirectory 47 = .ok (.iconst 1, 1) := by decide +kernel
theorem dX6_groupForDirectory_48 : decode cX6_groupForDirectory 48 = .ok (.invokevirtual 130, 3) := by decide +kernel
theorem dX6_groupForDirectory_51 : decode cX6_groupForDirectory 51 = .ok (.istore 6, 2) := by decide +kernel
theorem dX6_groupForDirectory_53 : decode cX6_groupForDirectory 53 = .ok (.iload 5, 2) := by decide +kernel
theorem dX6_groupForDirectory_55 : decode cX6_groupForDirectory 55 = .ok (.ifCond .le 21, 3) := by decide +kernel
theorem dX6_groupForDirectory_58 : decode cX6_groupForDirectory 58 = .ok (.iload 5, 2) := by decide +kernel
theorem dX6_groupForDirectory_60 : decode cX6_groupForDirectory 60 = .ok (.aload_n 0, 1) := by decide +kernel
theorem dX6_groupForDirectory_61 : decode cX6_groupForDirectory 61 = .ok (.getfield 12, 3) := by decide +kernel
theorem dX6_groupForDirectory_64 : decode cX6_groupForDirectory 64 = .ok (.getfield 127, 3) := by decide +kernel
theorem dX6_groupForDirectory_67 : decode cX6_groupForDirectory 67 = .ok (.imul, 1) := by decide +kernel
theorem dX6_groupForDirectory_68 : decode cX6_groupForDirectory 68 = .ok (.iload_n 3, 1) := by decide +kernel
theorem dX6_groupForDirectory_69 : decode cX6_groupForDirectory 69 = .ok (.if_icmp .lt 7, 3) := by decide +kernel
theorem dX6_groupForDirectory_72 : decode cX6_groupForDirectory 72 = .ok (.iconst 1, 1) := by decide +kernel
theorem dX6_groupForDirectory_73 : decode cX6_groupForDirectory 73 = .ok (.goto 4, 3) := by decide +kernel
theorem dX6_groupForDirectory_76 : decode cX6_groupForDirectory 76 = .ok (.iconst 0, 1) := by decide +kernel
theorem dX6_groupForDirectory_77 : decode cX6_groupForDirectory 77 = .ok (.istore 7, 2) := by decide +kernel
theorem dX6_groupForDirectory_79 : decode cX6_groupForDirectory 79 = .ok (.iload 7, 2) := by decide +kernel
theorem dX6_groupForDirectory_81 : decode cX6_groupForDirectory 81 = .ok (.ifCond .eq 21, 3) := by decide +kernel
theorem dX6_groupForDirectory_84 : decode cX6_groupForDirectory 84 = .ok (.iload_n 1, 1) := by decide +kernel
theorem dX6_groupForDirectory_85 : decode cX6_groupForDirectory 85 = .ok (.bipush (-4), 2) := by decide +kernel
theorem dX6_groupForDirectory_87 : decode cX6_groupForDirectory 87 = .ok (.if_icmp .eq 9, 3) := by decide +kernel
theorem dX6_groupForDirectory_90 : decode cX6_groupForDirectory 90 = .ok (.iload 6, 2) := by decide +kernel
theorem dX6_groupForDirectory_92 : decode cX6_groupForDirectory 92 = .ok (.iload_n 2, 1) := by decide +kernel
theorem dX6_groupForDirectory_93 : decode cX6_groupForDirectory 93 = .ok (.if_icmp .ge 9, 3) := by decide +kernel
theorem dX6_groupForDirectory_96 : decode cX6_groupForDirectory 96 = .ok (.iload 4, 2) := by decide +kernel
theorem dX6_groupForDirectory_98 : decode cX6_groupForDirectory 98 = .ok (.istore_n 1, 1) := by decide +kernel
theorem dX6_groupForDirectory_99 : decode cX6_groupForDirectory 99 = .ok (.iload 6, 2) := by decide +kernel
theorem dX6_groupForDirectory_101 : decode cX6_groupForDirectory 101 = .ok (.istore_n 2, 1) := by decide +kernel
theorem dX6_groupForDirectory_102 : decode cX6_groupForDirectory 102 = .ok (.iinc 4 1, 3) := by decide +kernel
theorem dX6_groupForDirectory_105 : decode cX6_groupForDirectory 105 = .ok (.goto (-88), 3) := by decide +kernel
theorem dX6_groupForDirectory_108 : decode cX6_groupForDirectory 108 = .ok (.iload_n 1, 1) := by decide +kernel
theorem dX6_groupForDirectory_109 : decode cX6_groupForDirectory 109 = .ok (.ireturn, 1) := by decide +kernel
theorem dX6_groupForFile_0 : decode cX6_groupForFile 0 = .ok (.aload_n 0, 1) := by decide +kernel
theorem dX6_groupForFile_1 : decode cX6_groupForFile 1 = .ok (.getfield 12, 3) := by decide +kernel
theorem dX6_groupForFile_4 : decode cX6_groupForFile 4 = .ok (.iload_n 1, 1) := by decide +kernel
theorem dX6_groupForFile_5 : decode cX6_groupForFile 5 = .ok (.invokevirtual 133, 3) := by decide +kernel
theorem dX6_groupForFile_8 : decode cX6_groupForFile 8 = .ok (.istore_n 2, 1) := by decide +kernel
theorem dX6_groupForFile_9 : decode cX6_groupForFile 9 = .ok (.iconst 0, 1) := by decide +kernel
theorem dX6_groupForFile_10 : decode cX6_groupForFile 10 = .ok (.istore_n 3, 1) := by decide +kernel
theorem dX6_groupForFile_11 : decode cX6_groupForFile 11 = .ok (.iload_n 3, 1) := by decide +kernel
theorem dX6_groupForFile_12 : decode cX6_groupForFile 12 = .ok (.aload_n 0, 1) := by decide +kernel
theorem dX6_groupForFile_13 : decode cX6_groupForFile 13 = .ok (.getfield 12, 3) := by decide +kernel
theorem dX6_groupForFile_16 : decode cX6_groupForFile 16 = .ok (.getfield 127, 3) := by decide +kernel
theorem dX6_groupForFile_19 : decode cX6_groupForFile 19 = .ok (.if_icmp .ge 37, 3) := by decide +kernel
theorem dX6_groupForFile_22 : decode cX6_groupForFile 22 = .ok (.aload_n 0, 1) := by decide +kernel
theorem dX6_groupForFile_23 : decode cX6_groupForFile 23 = .ok (.getfield 12, 3) := by decide +kernel
theorem dX6_groupForFile_26 : decode cX6_groupForFile 26 = .ok (.iload_n 2, 1) := by decide +kernel
theorem dX6_groupForFile_27 : decode cX6_groupForFile 27 = .ok (.iload_n 3, 1) := by decide +kernel
theorem dX6_groupForFile_28 : decode cX6_groupForFile 28 = .ok (.invokevirtual 136, 3) := by decide +kernel
theorem dX6_groupForFile_31 : decode cX6_groupForFile 31 = .ok (.istore 4, 2) := by decide +kernel
theorem dX6_groupForFile_33 : decode cX6_groupForFile 33 = .ok (.aload_n 0, 1) := by decide +kernel
theorem dX6_groupForFile_34 : decode cX6_groupForFile 34 = .ok (.getfield 33, 3) := by decide +kernel
theorem dX6_groupForFile_37 : decode cX6_groupForFile 37 = .ok (.iload 4, 2) := by decide +kernel
theorem dX6_groupForFile_39 : decode cX6_groupForFile 39 = .ok (.invokevirtual 139, 3) := by decide +kernel
theorem dX6_groupForFile_42 : decode cX6_groupForFile 42 = .ok (.bipush (-4), 2) := by decide +kernel
theorem dX6_groupForFile_44 : decode cX6_groupForFile 44 = .ok (.if_icmp .eq 6, 3) := by decide +kernel
theorem dX6_groupForFile_47 : decode cX6_groupForFile 47 = .ok (.iload 4, 2) := by decide +kernel
theorem dX6_groupForFile_49 : decode cX6_groupForFile 49 = .ok (.ireturn, 1) := by decide +kernel
theorem dX6_groupForFile_50 : decode cX6_groupForFile 50 = .ok (.iinc 3 1, 3) := by decide +kernel
theorem dX6_groupForFile_53 : decode cX6_groupForFile 53 = .ok (.goto (-42), 3) := by decide +kernel
theorem dX6_groupForFile_56 : decode cX6_groupForFile 56 = .ok (.bipush (-4), 2) := by decide +kernel
theorem dX6_groupForFile_58 : decode cX6_groupForFile 58 = .ok (.ireturn, 1) := by decide +kernel
theorem dX6_pairsOf_0 : decode cX6_pairsOf 0 = .ok (.iconst 0, 1) := by decide +kernel
theorem dX6_pairsOf_1 : decode cX6_pairsOf 1 = .ok (.istore_n 3, 1) := by decide +kernel
theorem dX6_pairsOf_2 : decode cX6_pairsOf 2 = .ok (.iconst 1, 1) := by decide +kernel
theorem dX6_pairsOf_3 : decode cX6_pairsOf 3 = .ok (.istore 4, 2) := by decide +kernel
theorem dX6_pairsOf_5 : decode cX6_pairsOf 5 = .ok (.iload 4, 2) := by decide +kernel
theorem dX6_pairsOf_7 : decode cX6_pairsOf 7 = .ok (.aload_n 0, 1) := by decide +kernel
theorem dX6_pairsOf_8 : decode cX6_pairsOf 8 = .ok (.getfield 33, 3) := by decide +kernel
theorem dX6_pairsOf_11 : decode cX6_pairsOf 11 = .ok (.iload_n 1, 1) := by decide +kernel
theorem dX6_pairsOf_12 : decode cX6_pairsOf 12 = .ok (.invokevirtual 71, 3) := by decide +kernel
theorem dX6_pairsOf_15 : decode cX6_pairsOf 15 = .ok (.if_icmp .ge 57, 3) := by decide +kernel
theorem dX6_pairsOf_18 : decode cX6_pairsOf 18 = .ok (.aload_n 0, 1) := by decide +kernel
theorem dX6_pairsOf_19 : decode cX6_pairsOf 19 = .ok (.getfield 12, 3) := by decide +kernel
theorem dX6_pairsOf_22 : decode cX6_pairsOf 22 = .ok (.iload 4, 2) := by decide +kernel
theorem dX6_pairsOf_24 : decode cX6_pairsOf 24 = .ok (.invokevirtual 142, 3) := by decide +kernel
theorem dX6_pairsOf_27 : decode cX6_pairsOf 27 = .ok (.ifCond .ne 39, 3) := by decide +kernel
theorem dX6_pairsOf_30 : decode cX6_pairsOf 30 = .ok (.iload_n 2, 1) := by decide +kernel
theorem dX6_pairsOf_31 : decode cX6_pairsOf 31 = .ok (.ifCond .eq 32, 3) := by decide +kernel
theorem dX6_pairsOf_34 : decode cX6_pairsOf 34 = .ok (.aload_n 0, 1) := by decide +kernel
theorem dX6_pairsOf_35 : decode cX6_pairsOf 35 = .ok (.aload_n 0, 1) := by decide +kernel
theorem dX6_pairsOf_36 : decode cX6_pairsOf 36 = .ok (.getfield 33, 3) := by decide +kernel
theorem dX6_pairsOf_39 : decode cX6_pairsOf 39 = .ok (.iload_n 1, 1) := by decide +kernel
theorem dX6_pairsOf_40 : decode cX6_pairsOf 40 = .ok (.iload 4, 2) := by decide +kernel
theorem dX6_pairsOf_42 : decode cX6_pairsOf 42 = .ok (.iconst 1, 1) := by decide +kernel
theorem dX6_pairsOf_43 : decode cX6_pairsOf 43 = .ok (.isub, 1) := by decide +kernel
theorem dX6_pairsOf_44 : decode cX6_pairsOf 44 = .ok (.invokevirtual 75, 3) := by decide +kernel
theorem dX6_pairsOf_47 : decode cX6_pairsOf 47 = .ok (.aload_n 0, 1) := by decide +kernel
theorem dX6_pairsOf_48 : decode cX6_pairsOf 48 = .ok (.getfield 33, 3) := by decide +kernel
theorem dX6_pairsOf_51 : decode cX6_pairsOf 51 = .ok (.iload_n 1, 1) := by decide +kernel
theorem dX6_pairsOf_52 : decode cX6_pairsOf 52 = .ok (.iload 4, 2) := by decide +kernel
theorem dX6_pairsOf_54 : decode cX6_pairsOf 54 = .ok (.invokevirtual 75, 3) := by decide +kernel
theorem dX6_pairsOf_57 : decode cX6_pairsOf 57 = .ok (.invokevirtual 145, 3) := by decide +kernel
theorem dX6_pairsOf_60 : decode cX6_pairsOf 60 = .ok (.ifCond .eq 6, 3) := by decide +kernel
theorem dX6_pairsOf_63 : decode cX6_pairsOf 63 = .ok (.iinc 3 1, 3) := by decide +kernel
theorem dX6_pairsOf_66 : decode cX6_pairsOf 66 = .ok (.iinc 4 1, 3) := by decide +kernel
theorem dX6_pairsOf_69 : decode cX6_pairsOf 69 = .ok (.goto (-64), 3) := by decide +kernel
theorem dX6_pairsOf_72 : decode cX6_pairsOf 72 = .ok (.iload_n 3, 1) := by decide +kernel
theorem dX6_pairsOf_73 : decode cX6_pairsOf 73 = .ok (.ireturn, 1) := by decide +kernel
theorem dX6_follows_0 : decode cX6_follows 0 = .ok (.iload_n 2, 1) := by decide +kernel
theorem dX6_follows_1 : decode cX6_follows 1 = .ok (.aload_n 0, 1) := by decide +kernel
theorem dX6_follows_2 : decode cX6_follows 2 = .ok (.getfield 12, 3) := by decide +kernel
theorem dX6_follows_5 : decode cX6_follows 5 = .ok (.iload_n 1, 1) := by decide +kernel
theorem dX6_follows_6 : decode cX6_follows 6 = .ok (.invokevirtual 149, 3) := by decide +kernel
theorem dX6_follows_9 : decode cX6_follows 9 = .ok (.aload_n 0, 1) := by decide +kernel
theorem dX6_follows_10 : decode cX6_follows 10 = .ok (.getfield 12, 3) := by decide +kernel
theorem dX6_follows_13 : decode cX6_follows 13 = .ok (.getfield 152, 3) := by decide +kernel
theorem dX6_follows_16 : decode cX6_follows 16 = .ok (.imul, 1) := by decide +kernel
theorem dX6_follows_17 : decode cX6_follows 17 = .ok (.aload_n 0, 1) := by decide +kernel
theorem dX6_follows_18 : decode cX6_follows 18 = .ok (.getfield 12, 3) := by decide +kernel
theorem dX6_follows_21 : decode cX6_follows 21 = .ok (.iload_n 1, 1) := by decide +kernel
theorem dX6_follows_22 : decode cX6_follows 22 = .ok (.invokevirtual 155, 3) := by decide +kernel
theorem dX6_follows_25 : decode cX6_follows 25 = .ok (.iadd, 1) := by decide +kernel
theorem dX6_follows_26 : decode cX6_follows 26 = .ok (.if_icmp .ne 7, 3) := by decide +kernel
theorem dX6_follows_29 : decode cX6_follows 29 = .ok (.iconst 1, 1) := by decide +kernel
theorem dX6_follows_30 : decode cX6_follows 30 = .ok (.goto 4, 3) := by decide +kernel
theorem dX6_follows_33 : decode cX6_follows 33 = .ok (.iconst 0, 1) := by decide +kernel
theorem dX6_follows_34 : decode cX6_follows 34 = .ok (.ireturn, 1) := by decide +kernel
theorem dX6_pairsOfAll_0 : decode cX6_pairsOfAll 0 = .ok (.iconst 0, 1) := by decide +kernel
theorem dX6_pairsOfAll_1 : decode cX6_pairsOfAll 1 = .ok (.istore_n 2, 1) := by decide +kernel
theorem dX6_pairsOfAll_2 : decode cX6_pairsOfAll 2 = .ok (.iconst 0, 1) := by decide +kernel
theorem dX6_pairsOfAll_3 : decode cX6_pairsOfAll 3 = .ok (.istore_n 3, 1) := by decide +kernel
theorem dX6_pairsOfAll_4 : decode cX6_pairsOfAll 4 = .ok (.iload_n 3, 1) := by decide +kernel
theorem dX6_pairsOfAll_5 : decode cX6_pairsOfAll 5 = .ok (.aload_n 0, 1) := by decide +kernel
theorem dX6_pairsOfAll_6 : decode cX6_pairsOfAll 6 = .ok (.getfield 12, 3) := by decide +kernel
theorem dX6_pairsOfAll_9 : decode cX6_pairsOfAll 9 = .ok (.invokevirtual 92, 3) := by decide +kernel
theorem dX6_pairsOfAll_12 : decode cX6_pairsOfAll 12 = .ok (.if_icmp .ge 18, 3) := by decide +kernel
theorem dX6_pairsOfAll_15 : decode cX6_pairsOfAll 15 = .ok (.iload_n 2, 1) := by decide +kernel
theorem dX6_pairsOfAll_16 : decode cX6_pairsOfAll 16 = .ok (.aload_n 0, 1) := by decide +kernel
theorem dX6_pairsOfAll_17 : decode cX6_pairsOfAll 17 = .ok (.iload_n 3, 1) := by decide +kernel
theorem dX6_pairsOfAll_18 : decode cX6_pairsOfAll 18 = .ok (.iload_n 1, 1) := by decide +kernel
theorem dX6_pairsOfAll_19 : decode cX6_pairsOfAll 19 = .ok (.invokevirtual 158, 3) := by decide +kernel
theorem dX6_pairsOfAll_22 : decode cX6_pairsOfAll 22 = .ok (.iadd, 1) := by decide +kernel
theorem dX6_pairsOfAll_23 : decode cX6_pairsOfAll 23 = .ok (.istore_n 2, 1) := by decide +kernel
theorem dX6_pairsOfAll_24 : decode cX6_pairsOfAll 24 = .ok (.iinc 3 1, 3) := by decide +kernel
theorem dX6_pairsOfAll_27 : decode cX6_pairsOfAll 27 = .ok (.goto (-23), 3) := by decide +kernel
theorem dX6_pairsOfAll_30 : decode cX6_pairsOfAll 30 = .ok (.iload_n 2, 1) := by decide +kernel
theorem dX6_pairsOfAll_31 : decode cX6_pairsOfAll 31 = .ok (.ireturn, 1) := by decide +kernel
theorem dX7_init_0 : decode cX7_init 0 = .ok (.aload_n 0, 1) := by decide +kernel
theorem dX7_init_1 : decode cX7_init 1 = .ok (.invokespecial 1, 3) := by decide +kernel
theorem dX7_init_4 : decode cX7_init 4 = .ok (.aload_n 0, 1) := by decide +kernel
theorem dX7_init_5 : decode cX7_init 5 = .ok (.new 7, 3) := by decide +kernel
theorem dX7_init_8 : decode cX7_init 8 = .ok (.dup, 1) := by decide +kernel
theorem dX7_init_9 : decode cX7_init 9 = .ok (.invokespecial 9, 3) := by decide +kernel
theorem dX7_init_12 : decode cX7_init 12 = .ok (.putfield 10, 3) := by decide +kernel
theorem dX7_init_15 : decode cX7_init 15 = .ok (.aload_n 0, 1) := by decide +kernel
theorem dX7_init_16 : decode cX7_init 16 = .ok (.new 16, 3) := by decide +kernel
theorem dX7_init_19 : decode cX7_init 19 = .ok (.dup, 1) := by decide +kernel
theorem dX7_init_20 : decode cX7_init 20 = .ok (.aload_n 0, 1) := by decide +kernel
theorem dX7_init_21 : decode cX7_init 21 = .ok (.getfield 10, 3) := by decide +kernel
theorem dX7_init_24 : decode cX7_init 24 = .ok (.invokespecial 18, 3) := by decide +kernel
theorem dX7_init_27 : decode cX7_init 27 = .ok (.putfield 21, 3) := by decide +kernel
theorem dX7_init_30 : decode cX7_init 30 = .ok (.aload_n 0, 1) := by decide +kernel
theorem dX7_init_31 : decode cX7_init 31 = .ok (.new 25, 3) := by decide +kernel
theorem dX7_init_34 : decode cX7_init 34 = .ok (.dup, 1) := by decide +kernel
theorem dX7_init_35 : decode cX7_init 35 = .ok (.invokespecial 27, 3) := by decide +kernel
theorem dX7_init_38 : decode cX7_init 38 = .ok (.putfield 28, 3) := by decide +kernel
theorem dX7_init_41 : decode cX7_init 41 = .ok (.aload_n 0, 1) := by decide +kernel
theorem dX7_init_42 : decode cX7_init 42 = .ok (.new 32, 3) := by decide +kernel
theorem dX7_init_45 : decode cX7_init 45 = .ok (.dup, 1) := by decide +kernel
theorem dX7_init_46 : decode cX7_init 46 = .ok (.aload_n 0, 1) := by decide +kernel
theorem dX7_init_47 : decode cX7_init 47 = .ok (.getfield 28, 3) := by decide +kernel
theorem dX7_init_50 : decode cX7_init 50 = .ok (.invokespecial 34, 3) := by decide +kernel
theorem dX7_init_53 : decode cX7_init 53 = .ok (.putfield 37, 3) := by decide +kernel
theorem dX7_init_56 : decode cX7_init 56 = .ok (.aload_n 0, 1) := by decide +kernel
theorem dX7_init_57 : decode cX7_init 57 = .ok (.new 7, 3) := by decide +kernel
theorem dX7_init_60 : decode cX7_init 60 = .ok (.dup, 1) := by decide +kernel
theorem dX7_init_61 : decode cX7_init 61 = .ok (.invokespecial 9, 3) := by decide +kernel
theorem dX7_init_64 : decode cX7_init 64 = .ok (.putfield 41, 3) := by decide +kernel
theorem dX7_init_67 : decode cX7_init 67 = .ok (.aload_n 0, 1) := by decide +kernel
theorem dX7_init_68 : decode cX7_init 68 = .ok (.new 16, 3) := by decide +kernel
theorem dX7_init_71 : decode cX7_init 71 = .ok (.dup, 1) := by decide +kernel
theorem dX7_init_72 : decode cX7_init 72 = .ok (.aload_n 0, 1) := by decide +kernel
theorem dX7_init_73 : decode cX7_init 73 = .ok (.getfield 41, 3) := by decide +kernel
theorem dX7_init_76 : decode cX7_init 76 = .ok (.invokespecial 18, 3) := by decide +kernel
theorem dX7_init_79 : decode cX7_init 79 = .ok (.putfield 44, 3) := by decide +kernel
theorem dX7_init_82 : decode cX7_init 82 = .ok (.aload_n 0, 1) := by decide +kernel
theorem dX7_init_83 : decode cX7_init 83 = .ok (.bipush 24, 2) := by decide +kernel
theorem dX7_init_85 : decode cX7_init 85 = .ok (.newarray .int, 2) := by decide +kernel
theorem dX7_init_87 : decode cX7_init 87 = .ok (.putfield 47, 3) := by decide +kernel
theorem dX7_init_90 : decode cX7_init 90 = .ok (.aload_n 0, 1) := by decide +kernel
theorem dX7_init_91 : decode cX7_init 91 = .ok (.new 7, 3) := by decide +kernel
theorem dX7_init_94 : decode cX7_init 94 = .ok (.dup, 1) := by decide +kernel
theorem dX7_init_95 : decode cX7_init 95 = .ok (.invokespecial 9, 3) := by decide +kernel
theorem dX7_init_98 : decode cX7_init 98 = .ok (.putfield 51, 3) := by decide +kernel
theorem dX7_init_101 : decode cX7_init 101 = .ok (.aload_n 0, 1) := by decide +kernel
theorem dX7_init_102 : decode cX7_init 102 = .ok (.new 7, 3) := by decide +kernel
theorem dX7_init_105 : decode cX7_init 105 = .ok (.dup, 1) := by decide +kernel
theorem dX7_init_106 : decode cX7_init 106 = .ok (.invokespecial 9, 3) := by decide +kernel
theorem dX7_init_109 : decode cX7_init 109 = .ok (.putfield 54, 3) := by decide +kernel
theorem dX7_init_112 : decode cX7_init 112 = .ok (.aload_n 0, 1) := by decide +kernel
theorem dX7_init_113 : decode cX7_init 113 = .ok (.getfield 10, 3) := by decide +kernel
theorem dX7_init_116 : decode cX7_init 116 = .ok (.getstatic 57, 3) := by decide +kernel
theorem dX7_init_119 : decode cX7_init 119 = .ok (.invokevirtual 60, 3) := by decide +kernel
theorem dX7_init_122 : decode cX7_init 122 = .ok (.return_, 1) := by decide +kernel
theorem dX7_feed_0 : decode cX7_feed 0 = .ok (.iload_n 1, 1) := by decide +kernel
theorem dX7_feed_1 : decode cX7_feed 1 = .ok (.ifCond .lt 9, 3) := by decide +kernel
theorem dX7_feed_4 : decode cX7_feed 4 = .ok (.iload_n 1, 1) := by decide +kernel
theorem dX7_feed_5 : decode cX7_feed 5 = .ok (.bipush 127, 2) := by decide +kernel
theorem dX7_feed_7 : decode cX7_feed 7 = .ok (.if_icmp .le 5, 3) := by decide +kernel
theorem dX7_feed_10 : decode cX7_feed 10 = .ok (.iconst (-1), 1) := by decide +kernel
theorem dX7_feed_11 : decode cX7_feed 11 = .ok (.ireturn, 1) := by decide +kernel
theorem dX7_feed_12 : decode cX7_feed 12 = .ok (.aload_n 0, 1) := by decide +kernel
theorem dX7_feed_13 : decode cX7_feed 13 = .ok (.getfield 28, 3) := by decide +kernel
theorem dX7_feed_16 : decode cX7_feed 16 = .ok (.iload_n 1, 1) := by decide +kernel
theorem dX7_feed_17 : decode cX7_feed 17 = .ok (.invokevirtual 64, 3) := by decide +kernel
theorem dX7_feed_20 : decode cX7_feed 20 = .ok (.ifCond .eq 13, 3) := by decide +kernel
theorem dX7_feed_23 : decode cX7_feed 23 = .ok (.aload_n 0, 1) := by decide +kernel
theorem dX7_feed_24 : decode cX7_feed 24 = .ok (.getfield 28, 3) := by decide +kernel
theorem dX7_feed_27 : decode cX7_feed 27 = .ok (.getfield 68, 3) := by decide +kernel
theorem dX7_feed_30 : decode cX7_feed 30 = .ok (.goto 5, 3) := by decide +kernel
theorem dX7_feed_33 : decode cX7_feed 33 = .ok (.bipush (-3), 2) := by decide +kernel
theorem dX7_feed_35 : decode cX7_feed 35 = .ok (.ireturn, 1) := by decide +kernel
theorem dX7_end_0 : decode cX7_end 0 = .ok (.iload_n 1, 1) := by decide +kernel
theorem dX7_end_1 : decode cX7_end 1 = .ok (.ifCond .lt 14, 3) := by decide +kernel
theorem dX7_end_4 : decode cX7_end 4 = .ok (.iload_n 1, 1) := by decide +kernel
theorem dX7_end_5 : decode cX7_end 5 = .ok (.aload_n 0, 1) := by decide +kernel
theorem dX7_end_6 : decode cX7_end 6 = .ok (.getfield 28, 3) := by decide +kernel
theorem dX7_end_9 : decode cX7_end 9 = .ok (.getfield 68, 3) := by decide +kernel
theorem dX7_end_12 : decode cX7_end 12 = .ok (.if_icmp .le 5, 3) := by decide +kernel
theorem dX7_end_15 : decode cX7_end 15 = .ok (.iconst (-1), 1) := by decide +kernel
theorem dX7_end_16 : decode cX7_end 16 = .ok (.ireturn, 1) := by decide +kernel
theorem dX7_end_17 : decode cX7_end 17 = .ok (.aload_n 0, 1) := by decide +kernel
theorem dX7_end_18 : decode cX7_end 18 = .ok (.getfield 28, 3) := by decide +kernel
theorem dX7_end_21 : decode cX7_end 21 = .ok (.getfield 68, 3) := by decide +kernel
theorem dX7_end_24 : decode cX7_end 24 = .ok (.istore_n 2, 1) := by decide +kernel
theorem dX7_end_25 : decode cX7_end 25 = .ok (.aload_n 0, 1) := by decide +kernel
theorem dX7_end_26 : decode cX7_end 26 = .ok (.getfield 28, 3) := by decide +kernel
theorem dX7_end_29 : decode cX7_end 29 = .ok (.iload_n 1, 1) := by decide +kernel
theorem dX7_end_30 : decode cX7_end 30 = .ok (.putfield 68, 3) := by decide +kernel
theorem dX7_end_33 : decode cX7_end 33 = .ok (.iload_n 2, 1) := by decide +kernel
theorem dX7_end_34 : decode cX7_end 34 = .ok (.ireturn, 1) := by decide +kernel
theorem dX7_text_0 : decode cX7_text 0 = .ok (.aload_n 0, 1) := by decide +kernel
theorem dX7_text_1 : decode cX7_text 1 = .ok (.getfield 37, 3) := by decide +kernel
theorem dX7_text_4 : decode cX7_text 4 = .ok (.invokevirtual 72, 3) := by decide +kernel
theorem dX7_text_7 : decode cX7_text 7 = .ok (.aload_n 0, 1) := by decide +kernel
theorem dX7_text_8 : decode cX7_text 8 = .ok (.getfield 37, 3) := by decide +kernel
theorem dX7_text_11 : decode cX7_text 11 = .ok (.invokevirtual 75, 3) := by decide +kernel
theorem dX7_text_14 : decode cX7_text 14 = .ok (.istore_n 1, 1) := by decide +kernel
theorem dX7_text_15 : decode cX7_text 15 = .ok (.iload_n 1, 1) := by decide +kernel
theorem dX7_text_16 : decode cX7_text 16 = .ok (.ifCond .eq 22, 3) := by decide +kernel
theorem dX7_text_19 : decode cX7_text 19 = .ok (.aload_n 0, 1) := by decide +kernel
theorem dX7_text_20 : decode cX7_text 20 = .ok (.getfield 41, 3) := by decide +kernel
theorem dX7_text_23 : decode cX7_text 23 = .ok (.aload_n 0, 1) := by decide +kernel
theorem dX7_text_24 : decode cX7_text 24 = .ok (.getfield 37, 3) := by decide +kernel
theorem dX7_text_27 : decode cX7_text 27 = .ok (.getfield 79, 3) := by decide +kernel
theorem dX7_text_30 : decode cX7_text 30 = .ok (.invokevirtual 60, 3) := by decide +kernel
theorem dX7_text_33 : decode cX7_text 33 = .ok (.aload_n 0, 1) := by decide +kernel
theorem dX7_text_34 : decode cX7_text 34 = .ok (.iconst 0, 1) := by decide +kernel
theorem dX7_text_35 : decode cX7_text 35 = .ok (.putfield 82, 3) := by decide +kernel
theorem dX7_text_38 : decode cX7_text 38 = .ok (.iconst 0, 1) := by decide +kernel
theorem dX7_text_39 : decode cX7_text 39 = .ok (.istore_n 2, 1) := by decide +kernel
theorem dX7_text_40 : decode cX7_text 40 = .ok (.iload_n 1, 1) := by decide +kernel
theorem dX7_text_41 : decode cX7_text 41 = .ok (.ifCond .eq 53, 3) := by decide +kernel
theorem dX7_text_44 : decode cX7_text 44 = .ok (.iload_n 2, 1) := by decide +kernel
theorem dX7_text_45 : decode cX7_text 45 = .ok (.sipush 200, 3) := by decide +kernel
theorem dX7_text_48 : decode cX7_text 48 = .ok (.if_icmp .ge 46, 3) := by decide +kernel
theorem dX7_text_51 : decode cX7_text 51 = .ok (.aload_n 0, 1) := by decide +kernel
theorem dX7_text_52 : decode cX7_text 52 = .ok (.getfield 37, 3) := by decide +kernel
theorem dX7_text_55 : decode cX7_text 55 = .ok (.invokevirtual 85, 3) := by decide +kernel
theorem dX7_text_58 : decode cX7_text 58 = .ok (.ifCond .eq 36, 3) := by decide +kernel
theorem dX7_text_61 : decode cX7_text 61 = .ok (.aload_n 0, 1) := by decide +kernel
theorem dX7_text_62 : decode cX7_text 62 = .ok (.getfield 37, 3) := by decide +kernel
theorem dX7_text_65 : decode cX7_text 65 = .ok (.aload_n 0, 1) := by decide +kernel
theorem dX7_text_66 : decode cX7_text 66 = .ok (.getfield 82, 3) := by decide +kernel
theorem dX7_text_69 : decode cX7_text 69 = .ok (.invokevirtual 88, 3) := by decide +kernel
theorem dX7_text_72 : decode cX7_text 72 = .ok (.ifCond .eq 14, 3) := by decide +kernel
theorem dX7_text_75 : decode cX7_text 75 = .ok (.aload_n 0, 1) := by decide +kernel
theorem dX7_text_76 : decode cX7_text 76 = .ok (.invokevirtual 91, 3) := by decide +kernel
theorem dX7_text_79 : decode cX7_text 79 = .ok (.ifCond .eq 7, 3) := by decide +kernel
theorem dX7_text_82 : decode cX7_text 82 = .ok (.iconst 1, 1) := by decide +kernel
theorem dX7_text_83 : decode cX7_text 83 = .ok (.goto 4, 3) := by decide +kernel
theorem dX7_text_86 : decode cX7_text 86 = .ok (.iconst 0, 1) := by decide +kernel
theorem dX7_text_87 : decode cX7_text 87 = .ok (.istore_n 1, 1) := by decide +kernel
theorem dX7_text_88 : decode cX7_text 88 = .ok (.iinc 2 1, 3) := by decide +kernel
theorem dX7_text_91 : decode cX7_text 91 = .ok (.goto (-51), 3) := by decide +kernel
theorem dX7_text_94 : decode cX7_text 94 = .ok (.aload_n 0, 1) := by decide +kernel
theorem dX7_text_95 : decode cX7_text 95 = .ok (.getfield 28, 3) := by decide +kernel
theorem dX7_text_98 : decode cX7_text 98 = .ok (.iconst 0, 1) := by decide +kernel
theorem dX7_text_99 : decode cX7_text 99 = .ok (.putfield 68, 3) := by decide +kernel
theorem dX7_text_102 : decode cX7_text 102 = .ok (.aload_n 0, 1) := by decide +kernel
theorem dX7_text_103 : decode cX7_text 103 = .ok (.aload_n 0, 1) := by decide +kernel
theorem dX7_text_104 : decode cX7_text 104 = .ok (.getfield 37, 3) := by decide +kernel
theorem dX7_text_107 : decode cX7_text 107 = .ok (.getfield 94, 3) := by decide +kernel
theorem dX7_text_110 : decode cX7_text 110 = .ok (.putfield 97, 3) := by decide +kernel
theorem dX7_text_113 : decode cX7_text 113 = .ok (.iload_n 1, 1) := by decide +kernel
theorem dX7_text_114 : decode cX7_text 114 = .ok (.ifCond .ne 14, 3) := by decide +kernel
theorem dX7_text_117 : decode cX7_text 117 = .ok (.bipush (-10), 2) := by decide +kernel
theorem dX7_text_119 : decode cX7_text 119 = .ok (.aload_n 0, 1) := by decide +kernel
theorem dX7_text_120 : decode cX7_text 120 = .ok (.getfield 37, 3) := by decide +kernel
theorem dX7_text_123 : decode cX7_text 123 = .ok (.getfield 100, 3) := by decide +kernel
theorem dX7_text_126 : decode cX7_text 126 = .ok (.isub, 1) := by decide +kernel
theorem dX7_text_127 : decode cX7_text 127 = .ok (.ireturn, 1) := by decide +kernel
theorem dX7_text_128 : decode cX7_text 128 = .ok (.aload_n 0, 1) := by decide +kernel
theorem dX7_text_129 : decode cX7_text 129 = .ok (.getfield 10, 3) := by decide +kernel
theorem dX7_text_132 : decode cX7_text 132 = .ok (.aload_n 0, 1) := by decide +kernel
theorem dX7_text_133 : decode cX7_text 133 = .ok (.getfield 41, 3) := by decide +kernel
theorem dX7_text_136 : decode cX7_text 136 = .ok (.invokevirtual 103, 3) := by decide +kernel
theorem dX7_text_139 : decode cX7_text 139 = .ok (.aload_n 0, 1) := by decide +kernel
theorem dX7_text_140 : decode cX7_text 140 = .ok (.iconst 0, 1) := by decide +kernel
theorem dX7_text_141 : decode cX7_text 141 = .ok (.putfield 106, 3) := by decide +kernel
theorem dX7_text_144 : decode cX7_text 144 = .ok (.aload_n 0, 1) := by decide +kernel
theorem dX7_text_145 : decode cX7_text 145 = .ok (.iconst 0, 1) := by decide +kernel
theorem dX7_text_146 : decode cX7_text 146 = .ok (.putfield 110, 3) := by decide +kernel
theorem dX7_text_149 : decode cX7_text 149 = .ok (.aload_n 0, 1) := by decide +kernel
theorem dX7_text_150 : decode cX7_text 150 = .ok (.getfield 10, 3) := by decide +kernel
theorem dX7_text_153 : decode cX7_text 153 = .ok (.getfield 113, 3) := by decide +kernel
theorem dX7_text_156 : decode cX7_text 156 = .ok (.invokevirtual 117, 3) := by decide +kernel
theorem dX7_text_159 : decode cX7_text 159 = .ok (.ireturn, 1) := by decide +kernel
theorem dX7_tellLine_0 : decode cX7_tellLine 0 = .ok (.aload_n 0, 1) := by decide +kernel
theorem dX7_tellLine_1 : decode cX7_tellLine 1 = .ok (.getfield 44, 3) := by decide +kernel
theorem dX7_tellLine_4 : decode cX7_tellLine 4 = .ok (.aload_n 0, 1) := by decide +kernel
theorem dX7_tellLine_5 : decode cX7_tellLine 5 = .ok (.aload_n 0, 1) := by decide +kernel
theorem dX7_tellLine_6 : decode cX7_tellLine 6 = .ok (.getfield 37, 3) := by decide +kernel
theorem dX7_tellLine_9 : decode cX7_tellLine 9 = .ok (.getfield 79, 3) := by decide +kernel
theorem dX7_tellLine_12 : decode cX7_tellLine 12 = .ok (.iconst 0, 1) := by decide +kernel
theorem dX7_tellLine_13 : decode cX7_tellLine 13 = .ok (.iaload, 1) := by decide +kernel
theorem dX7_tellLine_14 : decode cX7_tellLine 14 = .ok (.invokevirtual 123, 3) := by decide +kernel
theorem dX7_tellLine_17 : decode cX7_tellLine 17 = .ok (.aload_n 0, 1) := by decide +kernel
theorem dX7_tellLine_18 : decode cX7_tellLine 18 = .ok (.getfield 37, 3) := by decide +kernel
theorem dX7_tellLine_21 : decode cX7_tellLine 21 = .ok (.getfield 79, 3) := by decide +kernel
theorem dX7_tellLine_24 : decode cX7_tellLine 24 = .ok (.iconst 1, 1) := by decide +kernel
theorem dX7_tellLine_25 : decode cX7_tellLine 25 = .ok (.iaload, 1) := by decide +kernel
theorem dX7_tellLine_26 : decode cX7_tellLine 26 = .ok (.aload_n 0, 1) := by decide +kernel
theorem dX7_tellLine_27 : decode cX7_tellLine 27 = .ok (.getfield 37, 3) := by decide +kernel
theorem dX7_tellLine_30 : decode cX7_tellLine 30 = .ok (.getfield 127, 3) := by decide +kernel
theorem dX7_tellLine_33 : decode cX7_tellLine 33 = .ok (.invokevirtual 130, 3) := by decide +kernel
theorem dX7_tellLine_36 : decode cX7_tellLine 36 = .ok (.istore_n 1, 1) := by decide +kernel
theorem dX7_tellLine_37 : decode cX7_tellLine 37 = .ok (.iload_n 1, 1) := by decide +kernel
theorem dX7_tellLine_38 : decode cX7_tellLine 38 = .ok (.bipush (-2), 2) := by decide +kernel
theorem dX7_tellLine_40 : decode cX7_tellLine 40 = .ok (.if_icmp .ne 12, 3) := by decide +kernel
theorem dX7_tellLine_43 : decode cX7_tellLine 43 = .ok (.aload_n 0, 1) := by decide +kernel
theorem dX7_tellLine_44 : decode cX7_tellLine 44 = .ok (.getfield 37, 3) := by decide +kernel
theorem dX7_tellLine_47 : decode cX7_tellLine 47 = .ok (.iconst 4, 1) := by decide +kernel
theorem dX7_tellLine_48 : decode cX7_tellLine 48 = .ok (.invokevirtual 134, 3) := by decide +kernel
theorem dX7_tellLine_51 : decode cX7_tellLine 51 = .ok (.ireturn, 1) := by decide +kernel
theorem dX7_tellLine_52 : decode cX7_tellLine 52 = .ok (.iload_n 1, 1) := by decide +kernel
theorem dX7_tellLine_53 : decode cX7_tellLine 53 = .ok (.ifCond .ge 12, 3) := by decide +kernel
theorem dX7_tellLine_56 : decode cX7_tellLine 56 = .ok (.aload_n 0, 1) := by decide +kernel
theorem dX7_tellLine_57 : decode cX7_tellLine 57 = .ok (.getfield 37, 3) := by decide +kernel
theorem dX7_tellLine_60 : decode cX7_tellLine 60 = .ok (.iconst 5, 1) := by decide +kernel
theorem dX7_tellLine_61 : decode cX7_tellLine 61 = .ok (.invokevirtual 134, 3) := by decide +kernel
theorem dX7_tellLine_64 : decode cX7_tellLine 64 = .ok (.ireturn, 1) := by decide +kernel
theorem dX7_tellLine_65 : decode cX7_tellLine 65 = .ok (.aload_n 0, 1) := by decide +kernel
theorem dX7_tellLine_66 : decode cX7_tellLine 66 = .ok (.getfield 37, 3) := by decide +kernel
theorem dX7_tellLine_69 : decode cX7_tellLine 69 = .ok (.getfield 127, 3) := by decide +kernel
theorem dX7_tellLine_72 : decode cX7_tellLine 72 = .ok (.iconst 1, 1) := by decide +kernel
theorem dX7_tellLine_73 : decode cX7_tellLine 73 = .ok (.if_icmp .ne 10, 3) := by decide +kernel
theorem dX7_tellLine_76 : decode cX7_tellLine 76 = .ok (.aload_n 0, 1) := by decide +kernel
theorem dX7_tellLine_77 : decode cX7_tellLine 77 = .ok (.iload_n 1, 1) := by decide +kernel
theorem dX7_tellLine_78 : decode cX7_tellLine 78 = .ok (.invokevirtual 137, 3) := by decide +kernel
theorem dX7_tellLine_81 : decode cX7_tellLine 81 = .ok (.iconst 1, 1) := by decide +kernel
theorem dX7_tellLine_82 : decode cX7_tellLine 82 = .ok (.ireturn, 1) := by decide +kernel
theorem dX7_tellLine_83 : decode cX7_tellLine 83 = .ok (.aload_n 0, 1) := by decide +kernel
theorem dX7_tellLine_84 : decode cX7_tellLine 84 = .ok (.getfield 37, 3) := by decide +kernel
theorem dX7_tellLine_87 : decode cX7_tellLine 87 = .ok (.getfield 79, 3) := by decide +kernel
theorem dX7_tellLine_90 : decode cX7_tellLine 90 = .ok (.iconst 2, 1) := by decide +kernel
theorem dX7_tellLine_91 : decode cX7_tellLine 91 = .ok (.iaload, 1) := by decide +kernel
theorem dX7_tellLine_92 : decode cX7_tellLine 92 = .ok (.istore_n 2, 1) := by decide +kernel
theorem dX7_tellLine_93 : decode cX7_tellLine 93 = .ok (.iload_n 2, 1) := by decide +kernel
theorem dX7_tellLine_94 : decode cX7_tellLine 94 = .ok (.ifCond .le 24, 3) := by decide +kernel
theorem dX7_tellLine_97 : decode cX7_tellLine 97 = .ok (.aload_n 0, 1) := by decide +kernel
theorem dX7_tellLine_98 : decode cX7_tellLine 98 = .ok (.getfield 44, 3) := by decide +kernel
theorem dX7_tellLine_101 : decode cX7_tellLine 101 = .ok (.iload_n 1, 1) := by decide +kernel
theorem dX7_tellLine_102 : decode cX7_tellLine 102 = .ok (.iload_n 2, 1) := by decide +kernel
theorem dX7_tellLine_103 : decode cX7_tellLine 103 = .ok (.invokevirtual 141, 3) := by decide +kernel
theorem dX7_tellLine_106 : decode cX7_tellLine 106 = .ok (.ifCond .ge 12, 3) := by decide +kernel
theorem dX7_tellLine_109 : decode cX7_tellLine 109 = .ok (.aload_n 0, 1) := by decide +kernel
theorem dX7_tellLine_110 : decode cX7_tellLine 110 = .ok (.getfield 37, 3) := by decide +kernel
theorem dX7_tellLine_113 : decode cX7_tellLine 113 = .ok (.iconst 5, 1) := by decide +kernel
theorem dX7_tellLine_114 : decode cX7_tellLine 114 = .ok (.invokevirtual 134, 3) := by decide +kernel
theorem dX7_tellLine_117 : decode cX7_tellLine 117 = .ok (.ireturn, 1) := by decide +kernel
theorem dX7_tellLine_118 : decode cX7_tellLine 118 = .ok (.iconst 1, 1) := by decide +kernel
theorem dX7_tellLine_119 : decode cX7_tellLine 119 = .ok (.ireturn, 1) := by decide +kernel
theorem dX7_toldParent_0 : decode cX7_toldParent 0 = .ok (.iload_n 1, 1) := by decide +kernel
theorem dX7_toldParent_1 : decode cX7_toldParent 1 = .ok (.ifCond .le 31, 3) := by decide +kernel
theorem dX7_toldParent_4 : decode cX7_toldParent 4 = .ok (.iload_n 1, 1) := by decide +kernel
theorem dX7_toldParent_5 : decode cX7_toldParent 5 = .ok (.aload_n 0, 1) := by decide +kernel
theorem dX7_toldParent_6 : decode cX7_toldParent 6 = .ok (.getfield 82, 3) := by decide +kernel
theorem dX7_toldParent_9 : decode cX7_toldParent 9 = .ok (.if_icmp .gt 23, 3) := by decide +kernel
theorem dX7_toldParent_12 : decode cX7_toldParent 12 = .ok (.iload_n 1, 1) := by decide +kernel
theorem dX7_toldParent_13 : decode cX7_toldParent 13 = .ok (.aload_n 0, 1) := by decide +kernel
theorem dX7_toldParent_14 : decode cX7_toldParent 14 = .ok (.getfield 47, 3) := by decide +kernel
theorem dX7_toldParent_17 : decode cX7_toldParent 17 = .ok (.arraylength, 1) := by decide +kernel
theorem dX7_toldParent_18 : decode cX7_toldParent 18 = .ok (.if_icmp .gt 14, 3) := by decide +kernel
theorem dX7_toldParent_21 : decode cX7_toldParent 21 = .ok (.aload_n 0, 1) := by decide +kernel
theorem dX7_toldParent_22 : decode cX7_toldParent 22 = .ok (.getfield 47, 3) := by decide +kernel
theorem dX7_toldParent_25 : decode cX7_toldParent 25 = .ok (.iload_n 1, 1) := by decide +kernel
theorem dX7_toldParent_26 : decode cX7_toldParent 26 = .ok (.iconst 1, 1) := by decide +kernel
theorem dX7_toldParent_27 : decode cX7_toldParent 27 = .ok (.isub, 1) := by decide +kernel
theorem dX7_toldParent_28 : decode cX7_toldParent 28 = .ok (.iaload, 1) := by decide +kernel
theorem dX7_toldParent_29 : decode cX7_toldParent 29 = .ok (.goto 4, 3) := by decide +kernel
theorem dX7_toldParent_32 : decode cX7_toldParent 32 = .ok (.iconst 0, 1) := by decide +kernel
theorem dX7_toldParent_33 : decode cX7_toldParent 33 = .ok (.ireturn, 1) := by decide +kernel
theorem dX7_noteDirectory_0 : decode cX7_noteDirectory 0 = .ok (.aload_n 0, 1) := by decide +kernel
theorem dX7_noteDirectory_1 : decode cX7_noteDirectory 1 = .ok (.getfield 82, 3) := by decide +kernel
theorem dX7_noteDirectory_4 : decode cX7_noteDirectory 4 = .ok (.ifCond .lt 35, 3) := by decide +kernel
theorem dX7_noteDirectory_7 : decode cX7_noteDirectory 7 = .ok (.aload_n 0, 1) := by decide +kernel
theorem dX7_noteDirectory_8 : decode cX7_noteDirectory 8 = .ok (.getfield 82, 3) := by decide +kernel
theorem dX7_noteDirectory_11 : decode cX7_noteDirectory 11 = .ok (.aload_n 0, 1) := by decide +kernel
theorem dX7_noteDirectory_12 : decode cX7_noteDirectory 12 = .ok (.getfield 47, 3) := by decide +kernel
theorem dX7_noteDirectory_15 : decode cX7_noteDirectory 15 = .ok (.arraylength, 1) := by decide +kernel
theorem dX7_noteDirectory_16 : decode cX7_noteDirectory 16 = .ok (.if_icmp .ge 23, 3) := by decide +kernel
theorem dX7_noteDirectory_19 : decode cX7_noteDirectory 19 = .ok (.aload_n 0, 1) := by decide +kernel
theorem dX7_noteDirectory_20 : decode cX7_noteDirectory 20 = .ok (.getfield 47, 3) := by decide +kernel
theorem dX7_noteDirectory_23 : decode cX7_noteDirectory 23 = .ok (.aload_n 0, 1) := by decide +kernel
theorem dX7_noteDirectory_24 : decode cX7_noteDirectory 24 = .ok (.getfield 82, 3) := by decide +kernel
theorem dX7_noteDirectory_27 : decode cX7_noteDirectory 27 = .ok (.iload_n 1, 1) := by decide +kernel
theorem dX7_noteDirectory_28 : decode cX7_noteDirectory 28 = .ok (.iastore, 1) := by decide +kernel
theorem dX7_noteDirectory_29 : decode cX7_noteDirectory 29 = .ok (.aload_n 0, 1) := by decide +kernel
theorem dX7_noteDirectory_30 : decode cX7_noteDirectory 30 = .ok (.dup, 1) := by decide +kernel
theorem dX7_noteDirectory_31 : decode cX7_noteDirectory 31 = .ok (.getfield 82, 3) := by decide +kernel
theorem dX7_noteDirectory_34 : decode cX7_noteDirectory 34 = .ok (.iconst 1, 1) := by decide +kernel
theorem dX7_noteDirectory_35 : decode cX7_noteDirectory 35 = .ok (.iadd, 1) := by decide +kernel
theorem dX7_noteDirectory_36 : decode cX7_noteDirectory 36 = .ok (.putfield 82, 3) := by decide +kernel
theorem dX7_noteDirectory_39 : decode cX7_noteDirectory 39 = .ok (.return_, 1) := by decide +kernel
theorem dX7_fault_0 : decode cX7_fault 0 = .ok (.aload_n 0, 1) := by decide +kernel
theorem dX7_fault_1 : decode cX7_fault 1 = .ok (.getfield 97, 3) := by decide +kernel
theorem dX7_fault_4 : decode cX7_fault 4 = .ok (.ireturn, 1) := by decide +kernel
theorem dX7_rule_0 : decode cX7_rule 0 = .ok (.iload_n 1, 1) := by decide +kernel
theorem dX7_rule_1 : decode cX7_rule 1 = .ok (.ifCond .lt 9, 3) := by decide +kernel
theorem dX7_rule_4 : decode cX7_rule 4 = .ok (.iload_n 1, 1) := by decide +kernel
theorem dX7_rule_5 : decode cX7_rule 5 = .ok (.bipush 14, 2) := by decide +kernel
theorem dX7_rule_7 : decode cX7_rule 7 = .ok (.if_icmp .le 5, 3) := by decide +kernel
theorem dX7_rule_10 : decode cX7_rule 10 = .ok (.iconst (-1), 1) := by decide +kernel
theorem dX7_rule_11 : decode cX7_rule 11 = .ok (.ireturn, 1) := by decide +kernel
theorem dX7_rule_12 : decode cX7_rule 12 = .ok (.iload_n 1, 1) := by decide +kernel
theorem dX7_rule_13 : decode cX7_rule 13 = .ok (.tableswitch 142 6 14 #[51, 62, 73, 85, 97, 108, 117, 126, 134], 51) := by decide +kernel
theorem dX7_rule_64 : decode cX7_rule 64 = .ok (.aload_n 0, 1) := by decide +kernel
theorem dX7_rule_65 : decode cX7_rule 65 = .ok (.getfield 10, 3) := by decide +kernel
theorem dX7_rule_68 : decode cX7_rule 68 = .ok (.getfield 145, 3) := by decide +kernel
theorem dX7_rule_71 : decode cX7_rule 71 = .ok (.invokevirtual 149, 3) := by decide +kernel
theorem dX7_rule_74 : decode cX7_rule 74 = .ok (.ireturn, 1) := by decide +kernel
theorem dX7_rule_75 : decode cX7_rule 75 = .ok (.aload_n 0, 1) := by decide +kernel
theorem dX7_rule_76 : decode cX7_rule 76 = .ok (.getfield 10, 3) := by decide +kernel
theorem dX7_rule_79 : decode cX7_rule 79 = .ok (.getfield 145, 3) := by decide +kernel
theorem dX7_rule_82 : decode cX7_rule 82 = .ok (.invokevirtual 154, 3) := by decide +kernel
theorem dX7_rule_85 : decode cX7_rule 85 = .ok (.ireturn, 1) := by decide +kernel
theorem dX7_rule_86 : decode cX7_rule 86 = .ok (.aload_n 0, 1) := by decide +kernel
theorem dX7_rule_87 : decode cX7_rule 87 = .ok (.getfield 10, 3) := by decide +kernel
theorem dX7_rule_90 : decode cX7_rule 90 = .ok (.getfield 113, 3) := by decide +kernel
theorem dX7_rule_93 : decode cX7_rule 93 = .ok (.iconst 1, 1) := by decide +kernel
theorem dX7_rule_94 : decode cX7_rule 94 = .ok (.invokevirtual 157, 3) := by decide +kernel
theorem dX7_rule_97 : decode cX7_rule 97 = .ok (.ireturn, 1) := by decide +kernel
theorem dX7_rule_98 : decode cX7_rule 98 = .ok (.aload_n 0, 1) := by decide +kernel
theorem dX7_rule_99 : decode cX7_rule 99 = .ok (.getfield 10, 3) := by decide +kernel
theorem dX7_rule_102 : decode cX7_rule 102 = .ok (.getfield 113, 3) := by decide +kernel
theorem dX7_rule_105 : decode cX7_rule 105 = .ok (.iconst 2, 1) := by decide +kernel
theorem dX7_rule_106 : decode cX7_rule 106 = .ok (.invokevirtual 157, 3) := by decide +kernel
theorem dX7_rule_109 : decode cX7_rule 109 = .ok (.ireturn, 1) := by decide +kernel
theorem dX7_rule_110 : decode cX7_rule 110 = .ok (.aload_n 0, 1) := by decide +kernel
theorem dX7_rule_111 : decode cX7_rule 111 = .ok (.getfield 10, 3) := by decide +kernel
theorem dX7_rule_114 : decode cX7_rule 114 = .ok (.getfield 113, 3) := by decide +kernel
theorem dX7_rule_117 : decode cX7_rule 117 = .ok (.invokevirtual 160, 3) := by decide +kernel
theorem dX7_rule_120 : decode cX7_rule 120 = .ok (.ireturn, 1) := by decide +kernel
theorem dX7_rule_121 : decode cX7_rule 121 = .ok (.aload_n 0, 1) := by decide +kernel
theorem dX7_rule_122 : decode cX7_rule 122 = .ok (.getfield 10, 3) := by decide +kernel
theorem dX7_rule_125 : decode cX7_rule 125 = .ok (.iconst 0, 1) := by decide +kernel
theorem dX7_rule_126 : decode cX7_rule 126 = .ok (.invokevirtual 163, 3) := by decide +kernel
theorem dX7_rule_129 : decode cX7_rule 129 = .ok (.ireturn, 1) := by decide +kernel
theorem dX7_rule_130 : decode cX7_rule 130 = .ok (.aload_n 0, 1) := by decide +kernel
theorem dX7_rule_131 : decode cX7_rule 131 = .ok (.getfield 10, 3) := by decide +kernel
theorem dX7_rule_134 : decode cX7_rule 134 = .ok (.iconst 1, 1) := by decide +kernel
theorem dX7_rule_135 : decode cX7_rule 135 = .ok (.invokevirtual 163, 3) := by decide +kernel
theorem dX7_rule_138 : decode cX7_rule 138 = .ok (.ireturn, 1) := by decide +kernel
theorem dX7_rule_139 : decode cX7_rule 139 = .ok (.aload_n 0, 1) := by decide +kernel
theorem dX7_rule_140 : decode cX7_rule 140 = .ok (.getfield 10, 3) := by decide +kernel
theorem dX7_rule_143 : decode cX7_rule 143 = .ok (.getfield 167, 3) := by decide +kernel
theorem dX7_rule_146 : decode cX7_rule 146 = .ok (.ireturn, 1) := by decide +kernel
theorem dX7_rule_147 : decode cX7_rule 147 = .ok (.aload_n 0, 1) := by decide +kernel
theorem dX7_rule_148 : decode cX7_rule 148 = .ok (.getfield 10, 3) := by decide +kernel
theorem dX7_rule_151 : decode cX7_rule 151 = .ok (.getfield 170, 3) := by decide +kernel
theorem dX7_rule_154 : decode cX7_rule 154 = .ok (.ireturn, 1) := by decide +kernel
theorem dX7_rule_155 : decode cX7_rule 155 = .ok (.aload_n 0, 1) := by decide +kernel
theorem dX7_rule_156 : decode cX7_rule 156 = .ok (.getfield 10, 3) := by decide +kernel
theorem dX7_rule_159 : decode cX7_rule 159 = .ok (.getfield 173, 3) := by decide +kernel
theorem dX7_rule_162 : decode cX7_rule 162 = .ok (.iload_n 1, 1) := by decide +kernel
theorem dX7_rule_163 : decode cX7_rule 163 = .ok (.invokevirtual 177, 3) := by decide +kernel
theorem dX7_rule_166 : decode cX7_rule 166 = .ok (.ireturn, 1) := by decide +kernel
theorem dX7_group_0 : decode cX7_group 0 = .ok (.iload_n 1, 1) := by decide +kernel
theorem dX7_group_1 : decode cX7_group 1 = .ok (.ifCond .lt 27, 3) := by decide +kernel
theorem dX7_group_4 : decode cX7_group 4 = .ok (.iload_n 1, 1) := by decide +kernel
theorem dX7_group_5 : decode cX7_group 5 = .ok (.aload_n 0, 1) := by decide +kernel
theorem dX7_group_6 : decode cX7_group 6 = .ok (.getfield 10, 3) := by decide +kernel
theorem dX7_group_9 : decode cX7_group 9 = .ok (.getfield 173, 3) := by decide +kernel
theorem dX7_group_12 : decode cX7_group 12 = .ok (.getfield 182, 3) := by decide +kernel
theorem dX7_group_15 : decode cX7_group 15 = .ok (.if_icmp .ge 13, 3) := by decide +kernel
theorem dX7_group_18 : decode cX7_group 18 = .ok (.iload_n 2, 1) := by decide +kernel
theorem dX7_group_19 : decode cX7_group 19 = .ok (.ifCond .lt 9, 3) := by decide +kernel
theorem dX7_group_22 : decode cX7_group 22 = .ok (.iload_n 2, 1) := by decide +kernel
theorem dX7_group_23 : decode cX7_group 23 = .ok (.bipush 6, 2) := by decide +kernel
theorem dX7_group_25 : decode cX7_group 25 = .ok (.if_icmp .le 5, 3) := by decide +kernel
theorem dX7_group_28 : decode cX7_group 28 = .ok (.iconst (-1), 1) := by decide +kernel
theorem dX7_group_29 : decode cX7_group 29 = .ok (.ireturn, 1) := by decide +kernel
theorem dX7_group_30 : decode cX7_group 30 = .ok (.iload_n 2, 1) := by decide +kernel
theorem dX7_group_31 : decode cX7_group 31 = .ok (.tableswitch 79 0 3 #[29, 41, 53, 66], 29) := by decide +kernel
theorem dX7_group_60 : decode cX7_group 60 = .ok (.aload_n 0, 1) := by decide +kernel
theorem dX7_group_61 : decode cX7_group 61 = .ok (.getfield 10, 3) := by decide +kernel
theorem dX7_group_64 : decode cX7_group 64 = .ok (.getfield 145, 3) := by decide +kernel
theorem dX7_group_67 : decode cX7_group 67 = .ok (.iload_n 1, 1) := by decide +kernel
theorem dX7_group_68 : decode cX7_group 68 = .ok (.invokevirtual 185, 3) := by decide +kernel
theorem dX7_group_71 : decode cX7_group 71 = .ok (.ireturn, 1) := by decide +kernel
theorem dX7_group_72 : decode cX7_group 72 = .ok (.aload_n 0, 1) := by decide +kernel
theorem dX7_group_73 : decode cX7_group 73 = .ok (.getfield 10, 3) := by decide +kernel
theorem dX7_group_76 : decode cX7_group 76 = .ok (.getfield 145, 3) := by decide +kernel
theorem dX7_group_79 : decode cX7_group 79 = .ok (.iload_n 1, 1) := by decide +kernel
theorem dX7_group_80 : decode cX7_group 80 = .ok (.invokevirtual 188, 3) := by decide +kernel
theorem dX7_group_83 : decode cX7_group 83 = .ok (.ireturn, 1) := by decide +kernel
theorem dX7_group_84 : decode cX7_group 84 = .ok (.aload_n 0, 1) := by decide +kernel
theorem dX7_group_85 : decode cX7_group 85 = .ok (.getfield 10, 3) := by decide +kernel
theorem dX7_group_88 : decode cX7_group 88 = .ok (.getfield 113, 3) := by decide +kernel
theorem dX7_group_91 : decode cX7_group 91 = .ok (.iload_n 1, 1) := by decide +kernel
theorem dX7_group_92 : decode cX7_group 92 = .ok (.iconst 0, 1) := by decide +kernel
theorem dX7_group_93 : decode cX7_group 93 = .ok (.invokevirtual 191, 3) := by decide +kernel
theorem dX7_group_96 : decode cX7_group 96 = .ok (.ireturn, 1) := by decide +kernel
theorem dX7_group_97 : decode cX7_group 97 = .ok (.aload_n 0, 1) := by decide +kernel
theorem dX7_group_98 : decode cX7_group 98 = .ok (.getfield 10, 3) := by decide +kernel
theorem dX7_group_101 : decode cX7_group 101 = .ok (.getfield 113, 3) := by decide +kernel
theorem dX7_group_104 : decode cX7_group 104 = .ok (.iload_n 1, 1) := by decide +kernel
theorem dX7_group_105 : decode cX7_group 105 = .ok (.iconst 1, 1) := by decide +kernel
theorem dX7_group_106 : decode cX7_group 106 = .ok (.invokevirtual 191, 3) := by decide +kernel
theorem dX7_group_109 : decode cX7_group 109 = .ok (.ireturn, 1) := by decide +kernel
theorem dX7_group_110 : decode cX7_group 110 = .ok (.aload_n 0, 1) := by decide +kernel
theorem dX7_group_111 : decode cX7_group 111 = .ok (.getfield 10, 3) := by decide +kernel
theorem dX7_group_114 : decode cX7_group 114 = .ok (.getfield 145, 3) := by decide +kernel
theorem dX7_group_117 : decode cX7_group 117 = .ok (.iload_n 1, 1) := by decide +kernel
theorem dX7_group_118 : decode cX7_group 118 = .ok (.iload_n 2, 1) := by decide +kernel
theorem dX7_group_119 : decode cX7_group 119 = .ok (.iconst 3, 1) := by decide +kernel
theorem dX7_group_120 : decode cX7_group 120 = .ok (.isub, 1) := by decide +kernel
theorem dX7_group_121 : decode cX7_group 121 = .ok (.invokevirtual 194, 3) := by decide +kernel
theorem dX7_group_124 : decode cX7_group 124 = .ok (.ireturn, 1) := by decide +kernel
theorem dX7_inode_0 : decode cX7_inode 0 = .ok (.aload_n 0, 1) := by decide +kernel
theorem dX7_inode_1 : decode cX7_inode 1 = .ok (.getfield 10, 3) := by decide +kernel
theorem dX7_inode_4 : decode cX7_inode 4 = .ok (.getfield 113, 3) := by decide +kernel
theorem dX7_inode_7 : decode cX7_inode 7 = .ok (.iload_n 1, 1) := by decide +kernel
theorem dX7_inode_8 : decode cX7_inode 8 = .ok (.invokevirtual 197, 3) := by decide +kernel
theorem dX7_inode_11 : decode cX7_inode 11 = .ok (.ifCond .eq 13, 3) := by decide +kernel
theorem dX7_inode_14 : decode cX7_inode 14 = .ok (.iload_n 2, 1) := by decide +kernel
theorem dX7_inode_15 : decode cX7_inode 15 = .ok (.ifCond .lt 9, 3) := by decide +kernel
theorem dX7_inode_18 : decode cX7_inode 18 = .ok (.iload_n 2, 1) := by decide +kernel
theorem dX7_inode_19 : decode cX7_inode 19 = .ok (.bipush 7, 2) := by decide +kernel
theorem dX7_inode_21 : decode cX7_inode 21 = .ok (.if_icmp .le 5, 3) := by decide +kernel
theorem dX7_inode_24 : decode cX7_inode 24 = .ok (.iconst (-1), 1) := by decide +kernel
theorem dX7_inode_25 : decode cX7_inode 25 = .ok (.ireturn, 1) := by decide +kernel
theorem dX7_inode_26 : decode cX7_inode 26 = .ok (.aload_n 0, 1) := by decide +kernel
theorem dX7_inode_27 : decode cX7_inode 27 = .ok (.getfield 10, 3) := by decide +kernel
theorem dX7_inode_30 : decode cX7_inode 30 = .ok (.getfield 113, 3) := by decide +kernel
theorem dX7_inode_33 : decode cX7_inode 33 = .ok (.iload_n 1, 1) := by decide +kernel
theorem dX7_inode_34 : decode cX7_inode 34 = .ok (.invokevirtual 200, 3) := by decide +kernel
theorem dX7_inode_37 : decode cX7_inode 37 = .ok (.istore_n 3, 1) := by decide +kernel
theorem dX7_inode_38 : decode cX7_inode 38 = .ok (.iload_n 2, 1) := by decide +kernel
theorem dX7_inode_39 : decode cX7_inode 39 = .ok (.ifCond .ne 5, 3) := by decide +kernel
theorem dX7_inode_42 : decode cX7_inode 42 = .ok (.iload_n 3, 1) := by decide +kernel
theorem dX7_inode_43 : decode cX7_inode 43 = .ok (.ireturn, 1) := by decide +kernel
theorem dX7_inode_44 : decode cX7_inode 44 = .ok (.iload_n 3, 1) := by decide +kernel
theorem dX7_inode_45 : decode cX7_inode 45 = .ok (.ifCond .ne 6, 3) := by decide +kernel
theorem dX7_inode_48 : decode cX7_inode 48 = .ok (.bipush (-4), 2) := by decide +kernel
theorem dX7_inode_50 : decode cX7_inode 50 = .ok (.ireturn, 1) := by decide +kernel
theorem dX7_inode_51 : decode cX7_inode 51 = .ok (.iload_n 2, 1) := by decide +kernel
theorem dX7_inode_52 : decode cX7_inode 52 = .ok (.tableswitch 96 1 5 #[36, 48, 60, 72, 84], 36) := by decide +kernel
theorem dX7_inode_88 : decode cX7_inode 88 = .ok (.aload_n 0, 1) := by decide +kernel
theorem dX7_inode_89 : decode cX7_inode 89 = .ok (.getfield 10, 3) := by decide +kernel
theorem dX7_inode_92 : decode cX7_inode 92 = .ok (.getfield 113, 3) := by decide +kernel
theorem dX7_inode_95 : decode cX7_inode 95 = .ok (.iload_n 1, 1) := by decide +kernel
theorem dX7_inode_96 : decode cX7_inode 96 = .ok (.invokevirtual 203, 3) := by decide +kernel
theorem dX7_inode_99 : decode cX7_inode 99 = .ok (.ireturn, 1) := by decide +kernel
theorem dX7_inode_100 : decode cX7_inode 100 = .ok (.aload_n 0, 1) := by decide +kernel
theorem dX7_inode_101 : decode cX7_inode 101 = .ok (.getfield 10, 3) := by decide +kernel
theorem dX7_inode_104 : decode cX7_inode 104 = .ok (.getfield 113, 3) := by decide +kernel
theorem dX7_inode_107 : decode cX7_inode 107 = .ok (.iload_n 1, 1) := by decide +kernel
theorem dX7_inode_108 : decode cX7_inode 108 = .ok (.invokevirtual 206, 3) := by decide +kernel
theorem dX7_inode_111 : decode cX7_inode 111 = .ok (.ireturn, 1) := by decide +kernel
theorem dX7_inode_112 : decode cX7_inode 112 = .ok (.aload_n 0, 1) := by decide +kernel
theorem dX7_inode_113 : decode cX7_inode 113 = .ok (.getfield 10, 3) := by decide +kernel
theorem dX7_inode_116 : decode cX7_inode 116 = .ok (.getfield 113, 3) := by decide +kernel
theorem dX7_inode_119 : decode cX7_inode 119 = .ok (.iload_n 1, 1) := by decide +kernel
theorem dX7_inode_120 : decode cX7_inode 120 = .ok (.invokevirtual 209, 3) := by decide +kernel
theorem dX7_inode_123 : decode cX7_inode 123 = .ok (.ireturn, 1) := by decide +kernel
theorem dX7_inode_124 : decode cX7_inode 124 = .ok (.aload_n 0, 1) := by decide +kernel
theorem dX7_inode_125 : decode cX7_inode 125 = .ok (.getfield 10, 3) := by decide +kernel
theorem dX7_inode_128 : decode cX7_inode 128 = .ok (.getfield 113, 3) := by decide +kernel
theorem dX7_inode_131 : decode cX7_inode 131 = .ok (.iload_n 1, 1) := by decide +kernel
theorem dX7_inode_132 : decode cX7_inode 132 = .ok (.invokevirtual 212, 3) := by decide +kernel
theorem dX7_inode_135 : decode cX7_inode 135 = .ok (.ireturn, 1) := by decide +kernel
theorem dX7_inode_136 : decode cX7_inode 136 = .ok (.aload_n 0, 1) := by decide +kernel
theorem dX7_inode_137 : decode cX7_inode 137 = .ok (.getfield 10, 3) := by decide +kernel
theorem dX7_inode_140 : decode cX7_inode 140 = .ok (.getfield 113, 3) := by decide +kernel
theorem dX7_inode_143 : decode cX7_inode 143 = .ok (.iload_n 1, 1) := by decide +kernel
theorem dX7_inode_144 : decode cX7_inode 144 = .ok (.invokevirtual 215, 3) := by decide +kernel
theorem dX7_inode_147 : decode cX7_inode 147 = .ok (.ireturn, 1) := by decide +kernel
theorem dX7_inode_148 : decode cX7_inode 148 = .ok (.aload_n 0, 1) := by decide +kernel
theorem dX7_inode_149 : decode cX7_inode 149 = .ok (.getfield 10, 3) := by decide +kernel
theorem dX7_inode_152 : decode cX7_inode 152 = .ok (.iload_n 1, 1) := by decide +kernel
theorem dX7_inode_153 : decode cX7_inode 153 = .ok (.iload_n 2, 1) := by decide +kernel
theorem dX7_inode_154 : decode cX7_inode 154 = .ok (.bipush 7, 2) := by decide +kernel
theorem dX7_inode_156 : decode cX7_inode 156 = .ok (.if_icmp .ne 7, 3) := by decide +kernel
theorem dX7_inode_159 : decode cX7_inode 159 = .ok (.iconst 1, 1) := by decide +kernel
theorem dX7_inode_160 : decode cX7_inode 160 = .ok (.goto 4, 3) := by decide +kernel
theorem dX7_inode_163 : decode cX7_inode 163 = .ok (.iconst 0, 1) := by decide +kernel
theorem dX7_inode_164 : decode cX7_inode 164 = .ok (.invokevirtual 218, 3) := by decide +kernel
theorem dX7_inode_167 : decode cX7_inode 167 = .ok (.ireturn, 1) := by decide +kernel
theorem dX7_block_0 : decode cX7_block 0 = .ok (.aload_n 0, 1) := by decide +kernel
theorem dX7_block_1 : decode cX7_block 1 = .ok (.getfield 10, 3) := by decide +kernel
theorem dX7_block_4 : decode cX7_block 4 = .ok (.getfield 113, 3) := by decide +kernel
theorem dX7_block_7 : decode cX7_block 7 = .ok (.iload_n 1, 1) := by decide +kernel
theorem dX7_block_8 : decode cX7_block 8 = .ok (.invokevirtual 197, 3) := by decide +kernel
theorem dX7_block_11 : decode cX7_block 11 = .ok (.ifCond .eq 7, 3) := by decide +kernel
theorem dX7_block_14 : decode cX7_block 14 = .ok (.iload_n 2, 1) := by decide +kernel
theorem dX7_block_15 : decode cX7_block 15 = .ok (.ifCond .ge 5, 3) := by decide +kernel
theorem dX7_block_18 : decode cX7_block 18 = .ok (.iconst (-1), 1) := by decide +kernel
theorem dX7_block_19 : decode cX7_block 19 = .ok (.ireturn, 1) := by decide +kernel
theorem dX7_block_20 : decode cX7_block 20 = .ok (.iload_n 2, 1) := by decide +kernel
theorem dX7_block_21 : decode cX7_block 21 = .ok (.aload_n 0, 1) := by decide +kernel
theorem dX7_block_22 : decode cX7_block 22 = .ok (.getfield 10, 3) := by decide +kernel
theorem dX7_block_25 : decode cX7_block 25 = .ok (.getfield 113, 3) := by decide +kernel
theorem dX7_block_28 : decode cX7_block 28 = .ok (.iload_n 1, 1) := by decide +kernel
theorem dX7_block_29 : decode cX7_block 29 = .ok (.invokevirtual 212, 3) := by decide +kernel
theorem dX7_block_32 : decode cX7_block 32 = .ok (.if_icmp .ge 18, 3) := by decide +kernel
theorem dX7_block_35 : decode cX7_block 35 = .ok (.aload_n 0, 1) := by decide +kernel
theorem dX7_block_36 : decode cX7_block 36 = .ok (.getfield 10, 3) := by decide +kernel
theorem dX7_block_39 : decode cX7_block 39 = .ok (.getfield 113, 3) := by decide +kernel
theorem dX7_block_42 : decode cX7_block 42 = .ok (.iload_n 1, 1) := by decide +kernel
theorem dX7_block_43 : decode cX7_block 43 = .ok (.iload_n 2, 1) := by decide +kernel
theorem dX7_block_44 : decode cX7_block 44 = .ok (.invokevirtual 222, 3) := by decide +kernel
theorem dX7_block_47 : decode cX7_block 47 = .ok (.goto 5, 3) := by decide +kernel
theorem dX7_block_50 : decode cX7_block 50 = .ok (.bipush (-4), 2) := by decide +kernel
theorem dX7_block_52 : decode cX7_block 52 = .ok (.ireturn, 1) := by decide +kernel
theorem dX7_fragment_0 : decode cX7_fragment 0 = .ok (.aload_n 0, 1) := by decide +kernel
theorem dX7_fragment_1 : decode cX7_fragment 1 = .ok (.getfield 10, 3) := by decide +kernel
theorem dX7_fragment_4 : decode cX7_fragment 4 = .ok (.getfield 173, 3) := by decide +kernel
theorem dX7_fragment_7 : decode cX7_fragment 7 = .ok (.iload_n 1, 1) := by decide +kernel
theorem dX7_fragment_8 : decode cX7_fragment 8 = .ok (.invokevirtual 225, 3) := by decide +kernel
theorem dX7_fragment_11 : decode cX7_fragment 11 = .ok (.ifCond .eq 12, 3) := by decide +kernel
theorem dX7_fragment_14 : decode cX7_fragment 14 = .ok (.iload_n 2, 1) := by decide +kernel
theorem dX7_fragment_15 : decode cX7_fragment 15 = .ok (.ifCond .lt 8, 3) := by decide +kernel
theorem dX7_fragment_18 : decode cX7_fragment 18 = .ok (.iload_n 2, 1) := by decide +kernel
theorem dX7_fragment_19 : decode cX7_fragment 19 = .ok (.iconst 1, 1) := by decide +kernel
theorem dX7_fragment_20 : decode cX7_fragment 20 = .ok (.if_icmp .le 5, 3) := by decide +kernel
theorem dX7_fragment_23 : decode cX7_fragment 23 = .ok (.iconst (-1), 1) := by decide +kernel
theorem dX7_fragment_24 : decode cX7_fragment 24 = .ok (.ireturn, 1) := by decide +kernel
theorem dX7_fragment_25 : decode cX7_fragment 25 = .ok (.iload_n 2, 1) := by decide +kernel
theorem dX7_fragment_26 : decode cX7_fragment 26 = .ok (.ifCond .ne 23, 3) := by decide +kernel
theorem dX7_fragment_29 : decode cX7_fragment 29 = .ok (.aload_n 0, 1) := by decide +kernel
theorem dX7_fragment_30 : decode cX7_fragment 30 = .ok (.getfield 10, 3) := by decide +kernel
theorem dX7_fragment_33 : decode cX7_fragment 33 = .ok (.getfield 145, 3) := by decide +kernel
theorem dX7_fragment_36 : decode cX7_fragment 36 = .ok (.iload_n 1, 1) := by decide +kernel
theorem dX7_fragment_37 : decode cX7_fragment 37 = .ok (.invokevirtual 228, 3) := by decide +kernel
theorem dX7_fragment_40 : decode cX7_fragment 40 = .ok (.ifCond .eq 7, 3) := by decide +kernel
theorem dX7_fragment_43 : decode cX7_fragment 43 = .ok (.iconst 1, 1) := by decide +kernel
theorem dX7_fragment_44 : decode cX7_fragment 44 = .ok (.goto 4, 3) := by decide +kernel
theorem dX7_fragment_47 : decode cX7_fragment 47 = .ok (.iconst 0, 1) := by decide +kernel
theorem dX7_fragment_48 : decode cX7_fragment 48 = .ok (.ireturn, 1) := by decide +kernel
theorem dX7_fragment_49 : decode cX7_fragment 49 = .ok (.aload_n 0, 1) := by decide +kernel
theorem dX7_fragment_50 : decode cX7_fragment 50 = .ok (.getfield 10, 3) := by decide +kernel
theorem dX7_fragment_53 : decode cX7_fragment 53 = .ok (.getfield 113, 3) := by decide +kernel
theorem dX7_fragment_56 : decode cX7_fragment 56 = .ok (.iload_n 1, 1) := by decide +kernel
theorem dX7_fragment_57 : decode cX7_fragment 57 = .ok (.invokevirtual 231, 3) := by decide +kernel
theorem dX7_fragment_60 : decode cX7_fragment 60 = .ok (.ireturn, 1) := by decide +kernel
theorem dX7_find_0 : decode cX7_find 0 = .ok (.aload_n 0, 1) := by decide +kernel
theorem dX7_find_1 : decode cX7_find 1 = .ok (.getfield 10, 3) := by decide +kernel
theorem dX7_find_4 : decode cX7_find 4 = .ok (.getfield 113, 3) := by decide +kernel
theorem dX7_find_7 : decode cX7_find 7 = .ok (.iload_n 1, 1) := by decide +kernel
theorem dX7_find_8 : decode cX7_find 8 = .ok (.invokevirtual 200, 3) := by decide +kernel
theorem dX7_find_11 : decode cX7_find 11 = .ok (.iconst 1, 1) := by decide +kernel
theorem dX7_find_12 : decode cX7_find 12 = .ok (.if_icmp .ne 10, 3) := by decide +kernel
theorem dX7_find_15 : decode cX7_find 15 = .ok (.iload_n 2, 1) := by decide +kernel
theorem dX7_find_16 : decode cX7_find 16 = .ok (.invokestatic 234, 3) := by decide +kernel
theorem dX7_find_19 : decode cX7_find 19 = .ok (.ifCond .ne 5, 3) := by decide +kernel
theorem dX7_find_22 : decode cX7_find 22 = .ok (.iconst (-1), 1) := by decide +kernel
theorem dX7_find_23 : decode cX7_find 23 = .ok (.ireturn, 1) := by decide +kernel
theorem dX7_find_24 : decode cX7_find 24 = .ok (.aload_n 0, 1) := by decide +kernel
theorem dX7_find_25 : decode cX7_find 25 = .ok (.getfield 10, 3) := by decide +kernel
theorem dX7_find_28 : decode cX7_find 28 = .ok (.getfield 113, 3) := by decide +kernel
theorem dX7_find_31 : decode cX7_find 31 = .ok (.iload_n 1, 1) := by decide +kernel
theorem dX7_find_32 : decode cX7_find 32 = .ok (.iload_n 2, 1) := by decide +kernel
theorem dX7_find_33 : decode cX7_find 33 = .ok (.invokevirtual 237, 3) := by decide +kernel
theorem dX7_find_36 : decode cX7_find 36 = .ok (.ireturn, 1) := by decide +kernel
theorem dX7_entry_0 : decode cX7_entry 0 = .ok (.aload_n 0, 1) := by decide +kernel
theorem dX7_entry_1 : decode cX7_entry 1 = .ok (.getfield 10, 3) := by decide +kernel
theorem dX7_entry_4 : decode cX7_entry 4 = .ok (.getfield 113, 3) := by decide +kernel
theorem dX7_entry_7 : decode cX7_entry 7 = .ok (.iload_n 1, 1) := by decide +kernel
theorem dX7_entry_8 : decode cX7_entry 8 = .ok (.invokevirtual 200, 3) := by decide +kernel
theorem dX7_entry_11 : decode cX7_entry 11 = .ok (.iconst 1, 1) := by decide +kernel
theorem dX7_entry_12 : decode cX7_entry 12 = .ok (.if_icmp .ne 7, 3) := by decide +kernel
theorem dX7_entry_15 : decode cX7_entry 15 = .ok (.iload_n 2, 1) := by decide +kernel
theorem dX7_entry_16 : decode cX7_entry 16 = .ok (.ifCond .ge 5, 3) := by decide +kernel
theorem dX7_entry_19 : decode cX7_entry 19 = .ok (.iconst (-1), 1) := by decide +kernel
theorem dX7_entry_20 : decode cX7_entry 20 = .ok (.ireturn, 1) := by decide +kernel
theorem dX7_entry_21 : decode cX7_entry 21 = .ok (.iconst 0, 1) := by decide +kernel
theorem dX7_entry_22 : decode cX7_entry 22 = .ok (.istore_n 3, 1) := by decide +kernel
theorem dX7_entry_23 : decode cX7_entry 23 = .ok (.iconst 0, 1) := by decide +kernel
theorem dX7_entry_24 : decode cX7_entry 24 = .ok (.istore 4, 2) := by decide +kernel
theorem dX7_entry_26 : decode cX7_entry 26 = .ok (.iload 4, 2) := by decide +kernel
theorem dX7_entry_28 : decode cX7_entry 28 = .ok (.bipush 10, 2) := by decide +kernel
theorem dX7_entry_30 : decode cX7_entry 30 = .ok (.if_icmp .ge 42, 3) := by decide +kernel
theorem dX7_entry_33 : decode cX7_entry 33 = .ok (.aload_n 0, 1) := by decide +kernel
theorem dX7_entry_34 : decode cX7_entry 34 = .ok (.getfield 10, 3) := by decide +kernel
theorem dX7_entry_37 : decode cX7_entry 37 = .ok (.getfield 113, 3) := by decide +kernel
theorem dX7_entry_40 : decode cX7_entry 40 = .ok (.iload_n 1, 1) := by decide +kernel
theorem dX7_entry_41 : decode cX7_entry 41 = .ok (.iload 4, 2) := by decide +kernel
theorem dX7_entry_43 : decode cX7_entry 43 = .ok (.invokevirtual 237, 3) := by decide +kernel
theorem dX7_entry_46 : decode cX7_entry 46 = .ok (.istore 5, 2) := by decide +kernel
theorem dX7_entry_48 : decode cX7_entry 48 = .ok (.iload 5, 2) := by decide +kernel
theorem dX7_entry_50 : decode cX7_entry 50 = .ok (.bipush (-4), 2) := by decide +kernel
theorem dX7_entry_52 : decode cX7_entry 52 = .ok (.if_icmp .eq 14, 3) := by decide +kernel
theorem dX7_entry_55 : decode cX7_entry 55 = .ok (.iload_n 3, 1) := by decide +kernel
theorem dX7_entry_56 : decode cX7_entry 56 = .ok (.iload_n 2, 1) := by decide +kernel
theorem dX7_entry_57 : decode cX7_entry 57 = .ok (.if_icmp .ne 6, 3) := by decide +kernel
theorem dX7_entry_60 : decode cX7_entry 60 = .ok (.iload 5, 2) := by decide +kernel
theorem dX7_entry_62 : decode cX7_entry 62 = .ok (.ireturn, 1) := by decide +kernel
theorem dX7_entry_63 : decode cX7_entry 63 = .ok (.iinc 3 1, 3) := by decide +kernel
theorem dX7_entry_66 : decode cX7_entry 66 = .ok (.iinc 4 1, 3) := by decide +kernel
theorem dX7_entry_69 : decode cX7_entry 69 = .ok (.goto (-43), 3) := by decide +kernel
theorem dX7_entry_72 : decode cX7_entry 72 = .ok (.bipush (-4), 2) := by decide +kernel
theorem dX7_entry_74 : decode cX7_entry 74 = .ok (.ireturn, 1) := by decide +kernel
theorem dX7_where_0 : decode cX7_where 0 = .ok (.aload_n 0, 1) := by decide +kernel
theorem dX7_where_1 : decode cX7_where 1 = .ok (.getfield 10, 3) := by decide +kernel
theorem dX7_where_4 : decode cX7_where 4 = .ok (.getfield 113, 3) := by decide +kernel
theorem dX7_where_7 : decode cX7_where 7 = .ok (.iload_n 1, 1) := by decide +kernel
theorem dX7_where_8 : decode cX7_where 8 = .ok (.invokevirtual 200, 3) := by decide +kernel
theorem dX7_where_11 : decode cX7_where 11 = .ok (.iconst 1, 1) := by decide +kernel
theorem dX7_where_12 : decode cX7_where 12 = .ok (.if_icmp .ne 13, 3) := by decide +kernel
theorem dX7_where_15 : decode cX7_where 15 = .ok (.iload_n 2, 1) := by decide +kernel
theorem dX7_where_16 : decode cX7_where 16 = .ok (.iconst 1, 1) := by decide +kernel
theorem dX7_where_17 : decode cX7_where 17 = .ok (.if_icmp .eq 10, 3) := by decide +kernel
theorem dX7_where_20 : decode cX7_where 20 = .ok (.iload_n 2, 1) := by decide +kernel
theorem dX7_where_21 : decode cX7_where 21 = .ok (.iconst 2, 1) := by decide +kernel
theorem dX7_where_22 : decode cX7_where 22 = .ok (.if_icmp .eq 5, 3) := by decide +kernel
theorem dX7_where_25 : decode cX7_where 25 = .ok (.iconst (-1), 1) := by decide +kernel
theorem dX7_where_26 : decode cX7_where 26 = .ok (.ireturn, 1) := by decide +kernel
theorem dX7_where_27 : decode cX7_where 27 = .ok (.aload_n 0, 1) := by decide +kernel
theorem dX7_where_28 : decode cX7_where 28 = .ok (.getfield 10, 3) := by decide +kernel
theorem dX7_where_31 : decode cX7_where 31 = .ok (.iload_n 1, 1) := by decide +kernel
theorem dX7_where_32 : decode cX7_where 32 = .ok (.iload_n 2, 1) := by decide +kernel
theorem dX7_where_33 : decode cX7_where 33 = .ok (.invokevirtual 240, 3) := by decide +kernel
theorem dX7_where_36 : decode cX7_where 36 = .ok (.ireturn, 1) := by decide +kernel
theorem dX7_isName_0 : decode cX7_isName 0 = .ok (.iload_n 0, 1) := by decide +kernel
theorem dX7_isName_1 : decode cX7_isName 1 = .ok (.ifCond .lt 13, 3) := by decide +kernel
theorem dX7_isName_4 : decode cX7_isName 4 = .ok (.iload_n 0, 1) := by decide +kernel
theorem dX7_isName_5 : decode cX7_isName 5 = .ok (.bipush 10, 2) := by decide +kernel
theorem dX7_isName_7 : decode cX7_isName 7 = .ok (.if_icmp .ge 7, 3) := by decide +kernel
theorem dX7_isName_10 : decode cX7_isName 10 = .ok (.iconst 1, 1) := by decide +kernel
theorem dX7_isName_11 : decode cX7_isName 11 = .ok (.goto 4, 3) := by decide +kernel
theorem dX7_isName_14 : decode cX7_isName 14 = .ok (.iconst 0, 1) := by decide +kernel
theorem dX7_isName_15 : decode cX7_isName 15 = .ok (.ireturn, 1) := by decide +kernel
theorem dX7_make_0 : decode cX7_make 0 = .ok (.aload_n 0, 1) := by decide +kernel
theorem dX7_make_1 : decode cX7_make 1 = .ok (.getfield 21, 3) := by decide +kernel
theorem dX7_make_4 : decode cX7_make 4 = .ok (.iload_n 1, 1) := by decide +kernel
theorem dX7_make_5 : decode cX7_make 5 = .ok (.iload_n 2, 1) := by decide +kernel
theorem dX7_make_6 : decode cX7_make 6 = .ok (.iload_n 3, 1) := by decide +kernel
theorem dX7_make_7 : decode cX7_make 7 = .ok (.invokevirtual 130, 3) := by decide +kernel
theorem dX7_make_10 : decode cX7_make 10 = .ok (.ireturn, 1) := by decide +kernel
theorem dX7_grow_0 : decode cX7_grow 0 = .ok (.aload_n 0, 1) := by decide +kernel
theorem dX7_grow_1 : decode cX7_grow 1 = .ok (.getfield 21, 3) := by decide +kernel
theorem dX7_grow_4 : decode cX7_grow 4 = .ok (.iload_n 1, 1) := by decide +kernel
theorem dX7_grow_5 : decode cX7_grow 5 = .ok (.iload_n 2, 1) := by decide +kernel
theorem dX7_grow_6 : decode cX7_grow 6 = .ok (.invokevirtual 141, 3) := by decide +kernel
theorem dX7_grow_9 : decode cX7_grow 9 = .ok (.ireturn, 1) := by decide +kernel
theorem dX7_shrink_0 : decode cX7_shrink 0 = .ok (.aload_n 0, 1) := by decide +kernel
theorem dX7_shrink_1 : decode cX7_shrink 1 = .ok (.getfield 21, 3) := by decide +kernel
theorem dX7_shrink_4 : decode cX7_shrink 4 = .ok (.iload_n 1, 1) := by decide +kernel
theorem dX7_shrink_5 : decode cX7_shrink 5 = .ok (.iload_n 2, 1) := by decide +kernel
theorem dX7_shrink_6 : decode cX7_shrink 6 = .ok (.invokevirtual 243, 3) := by decide +kernel
theorem dX7_shrink_9 : decode cX7_shrink 9 = .ok (.ireturn, 1) := by decide +kernel
theorem dX7_remove_0 : decode cX7_remove 0 = .ok (.aload_n 0, 1) := by decide +kernel
theorem dX7_remove_1 : decode cX7_remove 1 = .ok (.getfield 21, 3) := by decide +kernel
theorem dX7_remove_4 : decode cX7_remove 4 = .ok (.iload_n 1, 1) := by decide +kernel
theorem dX7_remove_5 : decode cX7_remove 5 = .ok (.invokevirtual 246, 3) := by decide +kernel
theorem dX7_remove_8 : decode cX7_remove 8 = .ok (.ireturn, 1) := by decide +kernel
theorem dX7_move_0 : decode cX7_move 0 = .ok (.aload_n 0, 1) := by decide +kernel
theorem dX7_move_1 : decode cX7_move 1 = .ok (.getfield 21, 3) := by decide +kernel
theorem dX7_move_4 : decode cX7_move 4 = .ok (.iload_n 1, 1) := by decide +kernel
theorem dX7_move_5 : decode cX7_move 5 = .ok (.iload_n 2, 1) := by decide +kernel
theorem dX7_move_6 : decode cX7_move 6 = .ok (.iload_n 3, 1) := by decide +kernel
theorem dX7_move_7 : decode cX7_move 7 = .ok (.invokevirtual 249, 3) := by decide +kernel
theorem dX7_move_10 : decode cX7_move 10 = .ok (.ireturn, 1) := by decide +kernel
theorem dX7_gather_0 : decode cX7_gather 0 = .ok (.aload_n 0, 1) := by decide +kernel
theorem dX7_gather_1 : decode cX7_gather 1 = .ok (.getfield 21, 3) := by decide +kernel
theorem dX7_gather_4 : decode cX7_gather 4 = .ok (.iload_n 1, 1) := by decide +kernel
theorem dX7_gather_5 : decode cX7_gather 5 = .ok (.invokevirtual 252, 3) := by decide +kernel
theorem dX7_gather_8 : decode cX7_gather 8 = .ok (.ireturn, 1) := by decide +kernel
theorem dX7_draw_0 : decode cX7_draw 0 = .ok (.iload_n 2, 1) := by decide +kernel
theorem dX7_draw_1 : decode cX7_draw 1 = .ok (.iconst 1, 1) := by decide +kernel
theorem dX7_draw_2 : decode cX7_draw 2 = .ok (.if_icmp .lt 9, 3) := by decide +kernel
theorem dX7_draw_5 : decode cX7_draw 5 = .ok (.iload_n 2, 1) := by decide +kernel
theorem dX7_draw_6 : decode cX7_draw 6 = .ok (.bipush 20, 2) := by decide +kernel
theorem dX7_draw_8 : decode cX7_draw 8 = .ok (.if_icmp .le 5, 3) := by decide +kernel
theorem dX7_draw_11 : decode cX7_draw 11 = .ok (.iconst (-1), 1) := by decide +kernel
theorem dX7_draw_12 : decode cX7_draw 12 = .ok (.ireturn, 1) := by decide +kernel
theorem dX7_draw_13 : decode cX7_draw 13 = .ok (.aload_n 0, 1) := by decide +kernel
theorem dX7_draw_14 : decode cX7_draw 14 = .ok (.getfield 10, 3) := by decide +kernel
theorem dX7_draw_17 : decode cX7_draw 17 = .ok (.invokevirtual 255, 3) := by decide +kernel
theorem dX7_draw_20 : decode cX7_draw 20 = .ok (.ifCond .eq 6, 3) := by decide +kernel
theorem dX7_draw_23 : decode cX7_draw 23 = .ok (.bipush (-2), 2) := by decide +kernel
theorem dX7_draw_25 : decode cX7_draw 25 = .ok (.ireturn, 1) := by decide +kernel
theorem dX7_draw_26 : decode cX7_draw 26 = .ok (.aload_n 0, 1) := by decide +kernel
theorem dX7_draw_27 : decode cX7_draw 27 = .ok (.iload_n 1, 1) := by decide +kernel
theorem dX7_draw_28 : decode cX7_draw 28 = .ok (.putfield 258, 3) := by decide +kernel
theorem dX7_draw_31 : decode cX7_draw 31 = .ok (.iconst 0, 1) := by decide +kernel
theorem dX7_draw_32 : decode cX7_draw 32 = .ok (.istore_n 3, 1) := by decide +kernel
theorem dX7_draw_33 : decode cX7_draw 33 = .ok (.iconst 0, 1) := by decide +kernel
theorem dX7_draw_34 : decode cX7_draw 34 = .ok (.istore 4, 2) := by decide +kernel
theorem dX7_draw_36 : decode cX7_draw 36 = .ok (.iload 4, 2) := by decide +kernel
theorem dX7_draw_38 : decode cX7_draw 38 = .ok (.iload_n 2, 1) := by decide +kernel
theorem dX7_draw_39 : decode cX7_draw 39 = .ok (.if_icmp .ge 19, 3) := by decide +kernel
theorem dX7_draw_42 : decode cX7_draw 42 = .ok (.aload_n 0, 1) := by decide +kernel
theorem dX7_draw_43 : decode cX7_draw 43 = .ok (.invokevirtual 261, 3) := by decide +kernel
theorem dX7_draw_46 : decode cX7_draw 46 = .ok (.ifCond .lt 6, 3) := by decide +kernel
theorem dX7_draw_49 : decode cX7_draw 49 = .ok (.iinc 3 1, 3) := by decide +kernel
theorem dX7_draw_52 : decode cX7_draw 52 = .ok (.iinc 4 1, 3) := by decide +kernel
theorem dX7_draw_55 : decode cX7_draw 55 = .ok (.goto (-19), 3) := by decide +kernel
theorem dX7_draw_58 : decode cX7_draw 58 = .ok (.iload_n 3, 1) := by decide +kernel
theorem dX7_draw_59 : decode cX7_draw 59 = .ok (.ireturn, 1) := by decide +kernel
theorem dX7_drawnDeed_0 : decode cX7_drawnDeed 0 = .ok (.aload_n 0, 1) := by decide +kernel
theorem dX7_drawnDeed_1 : decode cX7_drawnDeed 1 = .ok (.invokevirtual 264, 3) := by decide +kernel
theorem dX7_drawnDeed_4 : decode cX7_drawnDeed 4 = .ok (.bipush 6, 2) := by decide +kernel
theorem dX7_drawnDeed_6 : decode cX7_drawnDeed 6 = .ok (.irem, 1) := by decide +kernel
theorem dX7_drawnDeed_7 : decode cX7_drawnDeed 7 = .ok (.istore_n 1, 1) := by decide +kernel
theorem dX7_drawnDeed_8 : decode cX7_drawnDeed 8 = .ok (.aload_n 0, 1) := by decide +kernel
theorem dX7_drawnDeed_9 : decode cX7_drawnDeed 9 = .ok (.getfield 10, 3) := by decide +kernel
theorem dX7_drawnDeed_12 : decode cX7_drawnDeed 12 = .ok (.getfield 173, 3) := by decide +kernel
theorem dX7_drawnDeed_15 : decode cX7_drawnDeed 15 = .ok (.invokevirtual 267, 3) := by decide +kernel
theorem dX7_drawnDeed_18 : decode cX7_drawnDeed 18 = .ok (.istore_n 2, 1) := by decide +kernel
theorem dX7_drawnDeed_19 : decode cX7_drawnDeed 19 = .ok (.aload_n 0, 1) := by decide +kernel
theorem dX7_drawnDeed_20 : decode cX7_drawnDeed 20 = .ok (.invokevirtual 264, 3) := by decide +kernel
theorem dX7_drawnDeed_23 : decode cX7_drawnDeed 23 = .ok (.istore_n 3, 1) := by decide +kernel
theorem dX7_drawnDeed_24 : decode cX7_drawnDeed 24 = .ok (.iload_n 2, 1) := by decide +kernel
theorem dX7_drawnDeed_25 : decode cX7_drawnDeed 25 = .ok (.ifCond .le 9, 3) := by decide +kernel
theorem dX7_drawnDeed_28 : decode cX7_drawnDeed 28 = .ok (.iload_n 3, 1) := by decide +kernel
theorem dX7_drawnDeed_29 : decode cX7_drawnDeed 29 = .ok (.iload_n 2, 1) := by decide +kernel
theorem dX7_drawnDeed_30 : decode cX7_drawnDeed 30 = .ok (.irem, 1) := by decide +kernel
theorem dX7_drawnDeed_31 : decode cX7_drawnDeed 31 = .ok (.goto 4, 3) := by decide +kernel
theorem dX7_drawnDeed_34 : decode cX7_drawnDeed 34 = .ok (.iconst 0, 1) := by decide +kernel
theorem dX7_drawnDeed_35 : decode cX7_drawnDeed 35 = .ok (.istore_n 3, 1) := by decide +kernel
theorem dX7_drawnDeed_36 : decode cX7_drawnDeed 36 = .ok (.aload_n 0, 1) := by decide +kernel
theorem dX7_drawnDeed_37 : decode cX7_drawnDeed 37 = .ok (.invokevirtual 264, 3) := by decide +kernel
theorem dX7_drawnDeed_40 : decode cX7_drawnDeed 40 = .ok (.bipush 10, 2) := by decide +kernel
theorem dX7_drawnDeed_42 : decode cX7_drawnDeed 42 = .ok (.irem, 1) := by decide +kernel
theorem dX7_drawnDeed_43 : decode cX7_drawnDeed 43 = .ok (.istore 4, 2) := by decide +kernel
theorem dX7_drawnDeed_45 : decode cX7_drawnDeed 45 = .ok (.aload_n 0, 1) := by decide +kernel
theorem dX7_drawnDeed_46 : decode cX7_drawnDeed 46 = .ok (.invokevirtual 264, 3) := by decide +kernel
theorem dX7_drawnDeed_49 : decode cX7_drawnDeed 49 = .ok (.bipush 9, 2) := by decide +kernel
theorem dX7_drawnDeed_51 : decode cX7_drawnDeed 51 = .ok (.irem, 1) := by decide +kernel
theorem dX7_drawnDeed_52 : decode cX7_drawnDeed 52 = .ok (.iconst 1, 1) := by decide +kernel
theorem dX7_drawnDeed_53 : decode cX7_drawnDeed 53 = .ok (.iadd, 1) := by decide +kernel
theorem dX7_drawnDeed_54 : decode cX7_drawnDeed 54 = .ok (.istore 5, 2) := by decide +kernel
theorem dX7_drawnDeed_56 : decode cX7_drawnDeed 56 = .ok (.iload_n 1, 1) := by decide +kernel
theorem dX7_drawnDeed_57 : decode cX7_drawnDeed 57 = .ok (.ifCond .ne 15, 3) := by decide +kernel
theorem dX7_drawnDeed_60 : decode cX7_drawnDeed 60 = .ok (.aload_n 0, 1) := by decide +kernel
theorem dX7_drawnDeed_61 : decode cX7_drawnDeed 61 = .ok (.getfield 21, 3) := by decide +kernel
theorem dX7_drawnDeed_64 : decode cX7_drawnDeed 64 = .ok (.iload_n 3, 1) := by decide +kernel
theorem dX7_drawnDeed_65 : decode cX7_drawnDeed 65 = .ok (.iload 4, 2) := by decide +kernel
theorem dX7_drawnDeed_67 : decode cX7_drawnDeed 67 = .ok (.iconst 1, 1) := by decide +kernel
theorem dX7_drawnDeed_68 : decode cX7_drawnDeed 68 = .ok (.invokevirtual 130, 3) := by decide +kernel
theorem dX7_drawnDeed_71 : decode cX7_drawnDeed 71 = .ok (.ireturn, 1) := by decide +kernel
theorem dX7_drawnDeed_72 : decode cX7_drawnDeed 72 = .ok (.iload_n 1, 1) := by decide +kernel
theorem dX7_drawnDeed_73 : decode cX7_drawnDeed 73 = .ok (.iconst 5, 1) := by decide +kernel
theorem dX7_drawnDeed_74 : decode cX7_drawnDeed 74 = .ok (.if_icmp .ne 12, 3) := by decide +kernel
theorem dX7_drawnDeed_77 : decode cX7_drawnDeed 77 = .ok (.aload_n 0, 1) := by decide +kernel
theorem dX7_drawnDeed_78 : decode cX7_drawnDeed 78 = .ok (.getfield 21, 3) := by decide +kernel
theorem dX7_drawnDeed_81 : decode cX7_drawnDeed 81 = .ok (.iload_n 3, 1) := by decide +kernel
theorem dX7_drawnDeed_82 : decode cX7_drawnDeed 82 = .ok (.invokevirtual 246, 3) := by decide +kernel
theorem dX7_drawnDeed_85 : decode cX7_drawnDeed 85 = .ok (.ireturn, 1) := by decide +kernel
theorem dX7_drawnDeed_86 : decode cX7_drawnDeed 86 = .ok (.iload_n 1, 1) := by decide +kernel
theorem dX7_drawnDeed_87 : decode cX7_drawnDeed 87 = .ok (.iconst 2, 1) := by decide +kernel
theorem dX7_drawnDeed_88 : decode cX7_drawnDeed 88 = .ok (.if_icmp .gt 17, 3) := by decide +kernel
theorem dX7_drawnDeed_91 : decode cX7_drawnDeed 91 = .ok (.aload_n 0, 1) := by decide +kernel
theorem dX7_drawnDeed_92 : decode cX7_drawnDeed 92 = .ok (.getfield 21, 3) := by decide +kernel
theorem dX7_drawnDeed_95 : decode cX7_drawnDeed 95 = .ok (.iload_n 3, 1) := by decide +kernel
theorem dX7_drawnDeed_96 : decode cX7_drawnDeed 96 = .ok (.iload 4, 2) := by decide +kernel
theorem dX7_drawnDeed_98 : decode cX7_drawnDeed 98 = .ok (.iconst 2, 1) := by decide +kernel
theorem dX7_drawnDeed_99 : decode cX7_drawnDeed 99 = .ok (.invokevirtual 130, 3) := by decide +kernel
theorem dX7_drawnDeed_102 : decode cX7_drawnDeed 102 = .ok (.goto 4, 3) := by decide +kernel
theorem dX7_drawnDeed_105 : decode cX7_drawnDeed 105 = .ok (.iload_n 3, 1) := by decide +kernel
theorem dX7_drawnDeed_106 : decode cX7_drawnDeed 106 = .ok (.istore 6, 2) := by decide +kernel
theorem dX7_drawnDeed_108 : decode cX7_drawnDeed 108 = .ok (.iload 6, 2) := by decide +kernel
theorem dX7_drawnDeed_110 : decode cX7_drawnDeed 110 = .ok (.ifCond .ge 8, 3) := by decide +kernel
theorem dX7_drawnDeed_113 : decode cX7_drawnDeed 113 = .ok (.iload 6, 2) := by decide +kernel
theorem dX7_drawnDeed_115 : decode cX7_drawnDeed 115 = .ok (.goto 14, 3) := by decide +kernel
theorem dX7_drawnDeed_118 : decode cX7_drawnDeed 118 = .ok (.aload_n 0, 1) := by decide +kernel
theorem dX7_drawnDeed_119 : decode cX7_drawnDeed 119 = .ok (.getfield 21, 3) := by decide +kernel
theorem dX7_drawnDeed_122 : decode cX7_drawnDeed 122 = .ok (.iload 6, 2) := by decide +kernel
theorem dX7_drawnDeed_124 : decode cX7_drawnDeed 124 = .ok (.iload 5, 2) := by decide +kernel
theorem dX7_drawnDeed_126 : decode cX7_drawnDeed 126 = .ok (.invokevirtual 141, 3) := by decide +kernel
theorem dX7_drawnDeed_129 : decode cX7_drawnDeed 129 = .ok (.ireturn, 1) := by decide +kernel
theorem dX7_drawnNumber_0 : decode cX7_drawnNumber 0 = .ok (.aload_n 0, 1) := by decide +kernel
theorem dX7_drawnNumber_1 : decode cX7_drawnNumber 1 = .ok (.aload_n 0, 1) := by decide +kernel
theorem dX7_drawnNumber_2 : decode cX7_drawnNumber 2 = .ok (.getfield 258, 3) := by decide +kernel
theorem dX7_drawnNumber_5 : decode cX7_drawnNumber 5 = .ok (.ldc_w 270, 3) := by decide +kernel
theorem dX7_drawnNumber_8 : decode cX7_drawnNumber 8 = .ok (.imul, 1) := by decide +kernel
theorem dX7_drawnNumber_9 : decode cX7_drawnNumber 9 = .ok (.sipush 12345, 3) := by decide +kernel
theorem dX7_drawnNumber_12 : decode cX7_drawnNumber 12 = .ok (.iadd, 1) := by decide +kernel
theorem dX7_drawnNumber_13 : decode cX7_drawnNumber 13 = .ok (.putfield 258, 3) := by decide +kernel
theorem dX7_drawnNumber_16 : decode cX7_drawnNumber 16 = .ok (.aload_n 0, 1) := by decide +kernel
theorem dX7_drawnNumber_17 : decode cX7_drawnNumber 17 = .ok (.getfield 258, 3) := by decide +kernel
theorem dX7_drawnNumber_20 : decode cX7_drawnNumber 20 = .ok (.bipush 16, 2) := by decide +kernel
theorem dX7_drawnNumber_22 : decode cX7_drawnNumber 22 = .ok (.iushr, 1) := by decide +kernel
theorem dX7_drawnNumber_23 : decode cX7_drawnNumber 23 = .ok (.sipush 32767, 3) := by decide +kernel
theorem dX7_drawnNumber_26 : decode cX7_drawnNumber 26 = .ok (.iand, 1) := by decide +kernel
theorem dX7_drawnNumber_27 : decode cX7_drawnNumber 27 = .ok (.ireturn, 1) := by decide +kernel
theorem dX7_flip_0 : decode cX7_flip 0 = .ok (.aload_n 0, 1) := by decide +kernel
theorem dX7_flip_1 : decode cX7_flip 1 = .ok (.getfield 10, 3) := by decide +kernel
theorem dX7_flip_4 : decode cX7_flip 4 = .ok (.getfield 173, 3) := by decide +kernel
theorem dX7_flip_7 : decode cX7_flip 7 = .ok (.iload_n 1, 1) := by decide +kernel
theorem dX7_flip_8 : decode cX7_flip 8 = .ok (.invokevirtual 225, 3) := by decide +kernel
theorem dX7_flip_11 : decode cX7_flip 11 = .ok (.ifCond .ne 5, 3) := by decide +kernel
theorem dX7_flip_14 : decode cX7_flip 14 = .ok (.iconst (-1), 1) := by decide +kernel
theorem dX7_flip_15 : decode cX7_flip 15 = .ok (.ireturn, 1) := by decide +kernel
theorem dX7_flip_16 : decode cX7_flip 16 = .ok (.aload_n 0, 1) := by decide +kernel
theorem dX7_flip_17 : decode cX7_flip 17 = .ok (.getfield 10, 3) := by decide +kernel
theorem dX7_flip_20 : decode cX7_flip 20 = .ok (.getfield 145, 3) := by decide +kernel
theorem dX7_flip_23 : decode cX7_flip 23 = .ok (.iload_n 1, 1) := by decide +kernel
theorem dX7_flip_24 : decode cX7_flip 24 = .ok (.invokevirtual 228, 3) := by decide +kernel
theorem dX7_flip_27 : decode cX7_flip 27 = .ok (.istore_n 2, 1) := by decide +kernel
theorem dX7_flip_28 : decode cX7_flip 28 = .ok (.aload_n 0, 1) := by decide +kernel
theorem dX7_flip_29 : decode cX7_flip 29 = .ok (.getfield 10, 3) := by decide +kernel
theorem dX7_flip_32 : decode cX7_flip 32 = .ok (.getfield 145, 3) := by decide +kernel
theorem dX7_flip_35 : decode cX7_flip 35 = .ok (.iload_n 1, 1) := by decide +kernel
theorem dX7_flip_36 : decode cX7_flip 36 = .ok (.iconst 1, 1) := by decide +kernel
theorem dX7_flip_37 : decode cX7_flip 37 = .ok (.iload_n 2, 1) := by decide +kernel
theorem dX7_flip_38 : decode cX7_flip 38 = .ok (.ifCond .ne 7, 3) := by decide +kernel
theorem dX7_flip_41 : decode cX7_flip 41 = .ok (.iconst 1, 1) := by decide +kernel
theorem dX7_flip_42 : decode cX7_flip 42 = .ok (.goto 4, 3) := by decide +kernel
theorem dX7_flip_45 : decode cX7_flip 45 = .ok (.iconst 0, 1) := by decide +kernel
theorem dX7_flip_46 : decode cX7_flip 46 = .ok (.invokevirtual 271, 3) := by decide +kernel
theorem dX7_flip_49 : decode cX7_flip 49 = .ok (.iload_n 2, 1) := by decide +kernel
theorem dX7_flip_50 : decode cX7_flip 50 = .ok (.ifCond .eq 7, 3) := by decide +kernel
theorem dX7_flip_53 : decode cX7_flip 53 = .ok (.iconst 1, 1) := by decide +kernel
theorem dX7_flip_54 : decode cX7_flip 54 = .ok (.goto 4, 3) := by decide +kernel
theorem dX7_flip_57 : decode cX7_flip 57 = .ok (.iconst 0, 1) := by decide +kernel
theorem dX7_flip_58 : decode cX7_flip 58 = .ok (.ireturn, 1) := by decide +kernel
theorem dX7_check_0 : decode cX7_check 0 = .ok (.iload_n 1, 1) := by decide +kernel
theorem dX7_check_1 : decode cX7_check 1 = .ok (.ifCond .lt 8, 3) := by decide +kernel
theorem dX7_check_4 : decode cX7_check 4 = .ok (.iload_n 1, 1) := by decide +kernel
theorem dX7_check_5 : decode cX7_check 5 = .ok (.iconst 2, 1) := by decide +kernel
theorem dX7_check_6 : decode cX7_check 6 = .ok (.if_icmp .le 5, 3) := by decide +kernel
theorem dX7_check_9 : decode cX7_check 9 = .ok (.iconst (-1), 1) := by decide +kernel
theorem dX7_check_10 : decode cX7_check 10 = .ok (.ireturn, 1) := by decide +kernel
theorem dX7_check_11 : decode cX7_check 11 = .ok (.iload_n 1, 1) := by decide +kernel
theorem dX7_check_12 : decode cX7_check 12 = .ok (.iconst 2, 1) := by decide +kernel
theorem dX7_check_13 : decode cX7_check 13 = .ok (.if_icmp .ne 11, 3) := by decide +kernel
theorem dX7_check_16 : decode cX7_check 16 = .ok (.aload_n 0, 1) := by decide +kernel
theorem dX7_check_17 : decode cX7_check 17 = .ok (.getfield 10, 3) := by decide +kernel
theorem dX7_check_20 : decode cX7_check 20 = .ok (.invokevirtual 275, 3) := by decide +kernel
theorem dX7_check_23 : decode cX7_check 23 = .ok (.ireturn, 1) := by decide +kernel
theorem dX7_check_24 : decode cX7_check 24 = .ok (.aload_n 0, 1) := by decide +kernel
theorem dX7_check_25 : decode cX7_check 25 = .ok (.getfield 10, 3) := by decide +kernel
theorem dX7_check_28 : decode cX7_check 28 = .ok (.iload_n 1, 1) := by decide +kernel
theorem dX7_check_29 : decode cX7_check 29 = .ok (.ifCond .ne 7, 3) := by decide +kernel
theorem dX7_check_32 : decode cX7_check 32 = .ok (.iconst 1, 1) := by decide +kernel
theorem dX7_check_33 : decode cX7_check 33 = .ok (.goto 4, 3) := by decide +kernel
theorem dX7_check_36 : decode cX7_check 36 = .ok (.iconst 0, 1) := by decide +kernel
theorem dX7_check_37 : decode cX7_check 37 = .ok (.invokevirtual 278, 3) := by decide +kernel
theorem dX7_check_40 : decode cX7_check 40 = .ok (.ireturn, 1) := by decide +kernel
theorem dX7_mend_0 : decode cX7_mend 0 = .ok (.aload_n 0, 1) := by decide +kernel
theorem dX7_mend_1 : decode cX7_mend 1 = .ok (.getfield 10, 3) := by decide +kernel
theorem dX7_mend_4 : decode cX7_mend 4 = .ok (.iconst 1, 1) := by decide +kernel
theorem dX7_mend_5 : decode cX7_mend 5 = .ok (.invokevirtual 278, 3) := by decide +kernel
theorem dX7_mend_8 : decode cX7_mend 8 = .ok (.aload_n 0, 1) := by decide +kernel
theorem dX7_mend_9 : decode cX7_mend 9 = .ok (.getfield 10, 3) := by decide +kernel
theorem dX7_mend_12 : decode cX7_mend 12 = .ok (.iconst 0, 1) := by decide +kernel
theorem dX7_mend_13 : decode cX7_mend 13 = .ok (.invokevirtual 278, 3) := by decide +kernel
theorem dX7_mend_16 : decode cX7_mend 16 = .ok (.iadd, 1) := by decide +kernel
theorem dX7_mend_17 : decode cX7_mend 17 = .ok (.istore_n 1, 1) := by decide +kernel
theorem dX7_mend_18 : decode cX7_mend 18 = .ok (.aload_n 0, 1) := by decide +kernel
theorem dX7_mend_19 : decode cX7_mend 19 = .ok (.getfield 10, 3) := by decide +kernel
theorem dX7_mend_22 : decode cX7_mend 22 = .ok (.invokevirtual 281, 3) := by decide +kernel
theorem dX7_mend_25 : decode cX7_mend 25 = .ok (.iload_n 1, 1) := by decide +kernel
theorem dX7_mend_26 : decode cX7_mend 26 = .ok (.ireturn, 1) := by decide +kernel
theorem dX7_keep_0 : decode cX7_keep 0 = .ok (.iload_n 1, 1) := by decide +kernel
theorem dX7_keep_1 : decode cX7_keep 1 = .ok (.ifCond .lt 8, 3) := by decide +kernel
theorem dX7_keep_4 : decode cX7_keep 4 = .ok (.iload_n 1, 1) := by decide +kernel
theorem dX7_keep_5 : decode cX7_keep 5 = .ok (.iconst 1, 1) := by decide +kernel
theorem dX7_keep_6 : decode cX7_keep 6 = .ok (.if_icmp .le 5, 3) := by decide +kernel
theorem dX7_keep_9 : decode cX7_keep 9 = .ok (.iconst (-1), 1) := by decide +kernel
theorem dX7_keep_10 : decode cX7_keep 10 = .ok (.ireturn, 1) := by decide +kernel
theorem dX7_keep_11 : decode cX7_keep 11 = .ok (.aload_n 0, 1) := by decide +kernel
theorem dX7_keep_12 : decode cX7_keep 12 = .ok (.iload_n 1, 1) := by decide +kernel
theorem dX7_keep_13 : decode cX7_keep 13 = .ok (.invokevirtual 284, 3) := by decide +kernel
theorem dX7_keep_16 : decode cX7_keep 16 = .ok (.istore_n 2, 1) := by decide +kernel
theorem dX7_keep_17 : decode cX7_keep 17 = .ok (.iload_n 1, 1) := by decide +kernel
theorem dX7_keep_18 : decode cX7_keep 18 = .ok (.ifCond .ne 22, 3) := by decide +kernel
theorem dX7_keep_21 : decode cX7_keep 21 = .ok (.aload_n 0, 1) := by decide +kernel
theorem dX7_keep_22 : decode cX7_keep 22 = .ok (.getfield 51, 3) := by decide +kernel
theorem dX7_keep_25 : decode cX7_keep 25 = .ok (.aload_n 0, 1) := by decide +kernel
theorem dX7_keep_26 : decode cX7_keep 26 = .ok (.getfield 10, 3) := by decide +kernel
theorem dX7_keep_29 : decode cX7_keep 29 = .ok (.invokevirtual 103, 3) := by decide +kernel
theorem dX7_keep_32 : decode cX7_keep 32 = .ok (.aload_n 0, 1) := by decide +kernel
theorem dX7_keep_33 : decode cX7_keep 33 = .ok (.iconst 1, 1) := by decide +kernel
theorem dX7_keep_34 : decode cX7_keep 34 = .ok (.putfield 106, 3) := by decide +kernel
theorem dX7_keep_37 : decode cX7_keep 37 = .ok (.goto 19, 3) := by decide +kernel
theorem dX7_keep_40 : decode cX7_keep 40 = .ok (.aload_n 0, 1) := by decide +kernel
theorem dX7_keep_41 : decode cX7_keep 41 = .ok (.getfield 54, 3) := by decide +kernel
theorem dX7_keep_44 : decode cX7_keep 44 = .ok (.aload_n 0, 1) := by decide +kernel
theorem dX7_keep_45 : decode cX7_keep 45 = .ok (.getfield 10, 3) := by decide +kernel
theorem dX7_keep_48 : decode cX7_keep 48 = .ok (.invokevirtual 103, 3) := by decide +kernel
theorem dX7_keep_51 : decode cX7_keep 51 = .ok (.aload_n 0, 1) := by decide +kernel
theorem dX7_keep_52 : decode cX7_keep 52 = .ok (.iconst 1, 1) := by decide +kernel
theorem dX7_keep_53 : decode cX7_keep 53 = .ok (.putfield 110, 3) := by decide +kernel
theorem dX7_keep_56 : decode cX7_keep 56 = .ok (.iload_n 2, 1) := by decide +kernel
theorem dX7_keep_57 : decode cX7_keep 57 = .ok (.ifCond .eq 7, 3) := by decide +kernel
theorem dX7_keep_60 : decode cX7_keep 60 = .ok (.iconst 1, 1) := by decide +kernel
theorem dX7_keep_61 : decode cX7_keep 61 = .ok (.goto 4, 3) := by decide +kernel
theorem dX7_keep_64 : decode cX7_keep 64 = .ok (.iconst 0, 1) := by decide +kernel
theorem dX7_keep_65 : decode cX7_keep 65 = .ok (.ireturn, 1) := by decide +kernel
theorem dX7_back_0 : decode cX7_back 0 = .ok (.iload_n 1, 1) := by decide +kernel
theorem dX7_back_1 : decode cX7_back 1 = .ok (.ifCond .lt 8, 3) := by decide +kernel
theorem dX7_back_4 : decode cX7_back 4 = .ok (.iload_n 1, 1) := by decide +kernel
theorem dX7_back_5 : decode cX7_back 5 = .ok (.iconst 1, 1) := by decide +kernel
theorem dX7_back_6 : decode cX7_back 6 = .ok (.if_icmp .le 5, 3) := by decide +kernel
theorem dX7_back_9 : decode cX7_back 9 = .ok (.iconst (-1), 1) := by decide +kernel
theorem dX7_back_10 : decode cX7_back 10 = .ok (.ireturn, 1) := by decide +kernel
theorem dX7_back_11 : decode cX7_back 11 = .ok (.aload_n 0, 1) := by decide +kernel
theorem dX7_back_12 : decode cX7_back 12 = .ok (.iload_n 1, 1) := by decide +kernel
theorem dX7_back_13 : decode cX7_back 13 = .ok (.invokevirtual 284, 3) := by decide +kernel
theorem dX7_back_16 : decode cX7_back 16 = .ok (.ifCond .ne 6, 3) := by decide +kernel
theorem dX7_back_19 : decode cX7_back 19 = .ok (.bipush (-2), 2) := by decide +kernel
theorem dX7_back_21 : decode cX7_back 21 = .ok (.ireturn, 1) := by decide +kernel
theorem dX7_back_22 : decode cX7_back 22 = .ok (.aload_n 0, 1) := by decide +kernel
theorem dX7_back_23 : decode cX7_back 23 = .ok (.getfield 10, 3) := by decide +kernel
theorem dX7_back_26 : decode cX7_back 26 = .ok (.iload_n 1, 1) := by decide +kernel
theorem dX7_back_27 : decode cX7_back 27 = .ok (.ifCond .ne 10, 3) := by decide +kernel
theorem dX7_back_30 : decode cX7_back 30 = .ok (.aload_n 0, 1) := by decide +kernel
theorem dX7_back_31 : decode cX7_back 31 = .ok (.getfield 51, 3) := by decide +kernel
theorem dX7_back_34 : decode cX7_back 34 = .ok (.goto 7, 3) := by decide +kernel
theorem dX7_back_37 : decode cX7_back 37 = .ok (.aload_n 0, 1) := by decide +kernel
theorem dX7_back_38 : decode cX7_back 38 = .ok (.getfield 54, 3) := by decide +kernel
theorem dX7_back_41 : decode cX7_back 41 = .ok (.invokevirtual 103, 3) := by decide +kernel
theorem dX7_back_44 : decode cX7_back 44 = .ok (.aload_n 0, 1) := by decide +kernel
theorem dX7_back_45 : decode cX7_back 45 = .ok (.getfield 10, 3) := by decide +kernel
theorem dX7_back_48 : decode cX7_back 48 = .ok (.getfield 113, 3) := by decide +kernel
theorem dX7_back_51 : decode cX7_back 51 = .ok (.invokevirtual 117, 3) := by decide +kernel
theorem dX7_back_54 : decode cX7_back 54 = .ok (.ireturn, 1) := by decide +kernel
theorem dX7_count_0 : decode cX7_count 0 = .ok (.iload_n 1, 1) := by decide +kernel
theorem dX7_count_1 : decode cX7_count 1 = .ok (.ifCond .lt 8, 3) := by decide +kernel
theorem dX7_count_4 : decode cX7_count 4 = .ok (.iload_n 1, 1) := by decide +kernel
theorem dX7_count_5 : decode cX7_count 5 = .ok (.iconst 1, 1) := by decide +kernel
theorem dX7_count_6 : decode cX7_count 6 = .ok (.if_icmp .le 5, 3) := by decide +kernel
theorem dX7_count_9 : decode cX7_count 9 = .ok (.iconst (-1), 1) := by decide +kernel
theorem dX7_count_10 : decode cX7_count 10 = .ok (.ireturn, 1) := by decide +kernel
theorem dX7_count_11 : decode cX7_count 11 = .ok (.iload_n 1, 1) := by decide +kernel
theorem dX7_count_12 : decode cX7_count 12 = .ok (.iconst 1, 1) := by decide +kernel
theorem dX7_count_13 : decode cX7_count 13 = .ok (.if_icmp .ne 11, 3) := by decide +kernel
theorem dX7_count_16 : decode cX7_count 16 = .ok (.aload_n 0, 1) := by decide +kernel
theorem dX7_count_17 : decode cX7_count 17 = .ok (.getfield 28, 3) := by decide +kernel
theorem dX7_count_20 : decode cX7_count 20 = .ok (.getfield 68, 3) := by decide +kernel
theorem dX7_count_23 : decode cX7_count 23 = .ok (.ireturn, 1) := by decide +kernel
theorem dX7_count_24 : decode cX7_count 24 = .ok (.aload_n 0, 1) := by decide +kernel
theorem dX7_count_25 : decode cX7_count 25 = .ok (.getfield 106, 3) := by decide +kernel
theorem dX7_count_28 : decode cX7_count 28 = .ok (.ifCond .eq 7, 3) := by decide +kernel
theorem dX7_count_31 : decode cX7_count 31 = .ok (.iconst 1, 1) := by decide +kernel
theorem dX7_count_32 : decode cX7_count 32 = .ok (.goto 4, 3) := by decide +kernel
theorem dX7_count_35 : decode cX7_count 35 = .ok (.iconst 0, 1) := by decide +kernel
theorem dX7_count_36 : decode cX7_count 36 = .ok (.aload_n 0, 1) := by decide +kernel
theorem dX7_count_37 : decode cX7_count 37 = .ok (.getfield 110, 3) := by decide +kernel
theorem dX7_count_40 : decode cX7_count 40 = .ok (.ifCond .eq 7, 3) := by decide +kernel
theorem dX7_count_43 : decode cX7_count 43 = .ok (.iconst 1, 1) := by decide +kernel
theorem dX7_count_44 : decode cX7_count 44 = .ok (.goto 4, 3) := by decide +kernel
theorem dX7_count_47 : decode cX7_count 47 = .ok (.iconst 0, 1) := by decide +kernel
theorem dX7_count_48 : decode cX7_count 48 = .ok (.iadd, 1) := by decide +kernel
theorem dX7_count_49 : decode cX7_count 49 = .ok (.ireturn, 1) := by decide +kernel
theorem dX7_hasImage_0 : decode cX7_hasImage 0 = .ok (.iload_n 1, 1) := by decide +kernel
theorem dX7_hasImage_1 : decode cX7_hasImage 1 = .ok (.ifCond .ne 10, 3) := by decide +kernel
theorem dX7_hasImage_4 : decode cX7_hasImage 4 = .ok (.aload_n 0, 1) := by decide +kernel
theorem dX7_hasImage_5 : decode cX7_hasImage 5 = .ok (.getfield 106, 3) := by decide +kernel
theorem dX7_hasImage_8 : decode cX7_hasImage 8 = .ok (.goto 7, 3) := by decide +kernel
theorem dX7_hasImage_11 : decode cX7_hasImage 11 = .ok (.aload_n 0, 1) := by decide +kernel
theorem dX7_hasImage_12 : decode cX7_hasImage 12 = .ok (.getfield 110, 3) := by decide +kernel
theorem dX7_hasImage_15 : decode cX7_hasImage 15 = .ok (.ireturn, 1) := by decide +kernel
end
section
theorem dX8_init_0 : decode cX8_init 0 = .ok (.aload_n 0, 1) := by decide +kernel
theorem dX8_init_1 : decode cX8_init 1 = .ok (.invokespecial 1, 3) := by decide +kernel
theorem dX8_init_4 : decode cX8_init 4 = .ok (.aload_n 0, 1) := by decide +kernel
theorem dX8_init_5 : decode cX8_init 5 = .ok (.sipush 496, 3) := by decide +kernel
theorem dX8_init_8 : decode cX8_init 8 = .ok (.newarray .int, 2) := by decide +kernel
theorem dX8_init_10 : decode cX8_init 10 = .ok (.putfield 7, 3) := by decide +kernel
theorem dX8_init_13 : decode cX8_init 13 = .ok (.aload_n 0, 1) := by decide +kernel
theorem dX8_init_14 : decode cX8_init 14 = .ok (.sipush 496, 3) := by decide +kernel
theorem dX8_init_17 : decode cX8_init 17 = .ok (.newarray .int, 2) := by decide +kernel
theorem dX8_init_19 : decode cX8_init 19 = .ok (.putfield 13, 3) := by decide +kernel
theorem dX8_init_22 : decode cX8_init 22 = .ok (.aload_n 0, 1) := by decide +kernel
theorem dX8_init_23 : decode cX8_init 23 = .ok (.sipush 496, 3) := by decide +kernel
theorem dX8_init_26 : decode cX8_init 26 = .ok (.newarray .int, 2) := by decide +kernel
theorem dX8_init_28 : decode cX8_init 28 = .ok (.putfield 16, 3) := by decide +kernel
theorem dX8_init_31 : decode cX8_init 31 = .ok (.aload_n 0, 1) := by decide +kernel
theorem dX8_init_32 : decode cX8_init 32 = .ok (.sipush 992, 3) := by decide +kernel
theorem dX8_init_35 : decode cX8_init 35 = .ok (.newarray .int, 2) := by decide +kernel
theorem dX8_init_37 : decode cX8_init 37 = .ok (.putfield 19, 3) := by decide +kernel
theorem dX8_init_40 : decode cX8_init 40 = .ok (.aload_n 0, 1) := by decide +kernel
theorem dX8_init_41 : decode cX8_init 41 = .ok (.iconst 2, 1) := by decide +kernel
theorem dX8_init_42 : decode cX8_init 42 = .ok (.newarray .boolean, 2) := by decide +kernel
theorem dX8_init_44 : decode cX8_init 44 = .ok (.putfield 22, 3) := by decide +kernel
theorem dX8_init_47 : decode cX8_init 47 = .ok (.aload_n 0, 1) := by decide +kernel
theorem dX8_init_48 : decode cX8_init 48 = .ok (.sipush 200, 3) := by decide +kernel
theorem dX8_init_51 : decode cX8_init 51 = .ok (.newarray .int, 2) := by decide +kernel
theorem dX8_init_53 : decode cX8_init 53 = .ok (.putfield 26, 3) := by decide +kernel
theorem dX8_init_56 : decode cX8_init 56 = .ok (.aload_n 0, 1) := by decide +kernel
theorem dX8_init_57 : decode cX8_init 57 = .ok (.bipush 40, 2) := by decide +kernel
theorem dX8_init_59 : decode cX8_init 59 = .ok (.newarray .int, 2) := by decide +kernel
theorem dX8_init_61 : decode cX8_init 61 = .ok (.putfield 29, 3) := by decide +kernel
theorem dX8_init_64 : decode cX8_init 64 = .ok (.aload_n 0, 1) := by decide +kernel
theorem dX8_init_65 : decode cX8_init 65 = .ok (.getfield 7, 3) := by decide +kernel
theorem dX8_init_68 : decode cX8_init 68 = .ok (.iconst 0, 1) := by decide +kernel
theorem dX8_init_69 : decode cX8_init 69 = .ok (.iconst 2, 1) := by decide +kernel
theorem dX8_init_70 : decode cX8_init 70 = .ok (.iastore, 1) := by decide +kernel
theorem dX8_init_71 : decode cX8_init 71 = .ok (.aload_n 0, 1) := by decide +kernel
theorem dX8_init_72 : decode cX8_init 72 = .ok (.getfield 7, 3) := by decide +kernel
theorem dX8_init_75 : decode cX8_init 75 = .ok (.iconst 1, 1) := by decide +kernel
theorem dX8_init_76 : decode cX8_init 76 = .ok (.iconst 4, 1) := by decide +kernel
theorem dX8_init_77 : decode cX8_init 77 = .ok (.iastore, 1) := by decide +kernel
theorem dX8_init_78 : decode cX8_init 78 = .ok (.aload_n 0, 1) := by decide +kernel
theorem dX8_init_79 : decode cX8_init 79 = .ok (.getfield 7, 3) := by decide +kernel
theorem dX8_init_82 : decode cX8_init 82 = .ok (.iconst 2, 1) := by decide +kernel
theorem dX8_init_83 : decode cX8_init 83 = .ok (.iconst 4, 1) := by decide +kernel
theorem dX8_init_84 : decode cX8_init 84 = .ok (.iastore, 1) := by decide +kernel
theorem dX8_init_85 : decode cX8_init 85 = .ok (.aload_n 0, 1) := by decide +kernel
theorem dX8_init_86 : decode cX8_init 86 = .ok (.getfield 7, 3) := by decide +kernel
theorem dX8_init_89 : decode cX8_init 89 = .ok (.iconst 5, 1) := by decide +kernel
theorem dX8_init_90 : decode cX8_init 90 = .ok (.iconst 4, 1) := by decide +kernel
theorem dX8_init_91 : decode cX8_init 91 = .ok (.iastore, 1) := by decide +kernel
theorem dX8_init_92 : decode cX8_init 92 = .ok (.aload_n 0, 1) := by decide +kernel
theorem dX8_init_93 : decode cX8_init 93 = .ok (.invokevirtual 32, 3) := by decide +kernel
theorem dX8_init_96 : decode cX8_init 96 = .ok (.return_, 1) := by decide +kernel
theorem dX8_in_0 : decode cX8_in 0 = .ok (.lload_n 0, 1) := by decide +kernel
theorem dX8_in_1 : decode cX8_in 1 = .ok (.lload_n 2, 1) := by decide +kernel
theorem dX8_in_2 : decode cX8_in 2 = .ok (.lcmp, 1) := by decide +kernel
theorem dX8_in_3 : decode cX8_in 3 = .ok (.ifCond .lt 14, 3) := by decide +kernel
theorem dX8_in_6 : decode cX8_in 6 = .ok (.lload_n 0, 1) := by decide +kernel
theorem dX8_in_7 : decode cX8_in 7 = .ok (.lload 4, 2) := by decide +kernel
theorem dX8_in_9 : decode cX8_in 9 = .ok (.lcmp, 1) := by decide +kernel
theorem dX8_in_10 : decode cX8_in 10 = .ok (.ifCond .gt 7, 3) := by decide +kernel
theorem dX8_in_13 : decode cX8_in 13 = .ok (.iconst 1, 1) := by decide +kernel
theorem dX8_in_14 : decode cX8_in 14 = .ok (.goto 4, 3) := by decide +kernel
theorem dX8_in_17 : decode cX8_in 17 = .ok (.iconst 0, 1) := by decide +kernel
theorem dX8_in_18 : decode cX8_in 18 = .ok (.ireturn, 1) := by decide +kernel
theorem dX8_flag_0 : decode cX8_flag 0 = .ok (.iload_n 0, 1) := by decide +kernel
theorem dX8_flag_1 : decode cX8_flag 1 = .ok (.ifCond .eq 7, 3) := by decide +kernel
theorem dX8_flag_4 : decode cX8_flag 4 = .ok (.iconst 1, 1) := by decide +kernel
theorem dX8_flag_5 : decode cX8_flag 5 = .ok (.goto 4, 3) := by decide +kernel
theorem dX8_flag_8 : decode cX8_flag 8 = .ok (.iconst 0, 1) := by decide +kernel
theorem dX8_flag_9 : decode cX8_flag 9 = .ok (.ireturn, 1) := by decide +kernel
theorem dX8_anew_0 : decode cX8_anew 0 = .ok (.bipush 6, 2) := by decide +kernel
theorem dX8_anew_2 : decode cX8_anew 2 = .ok (.istore_n 1, 1) := by decide +kernel
theorem dX8_anew_3 : decode cX8_anew 3 = .ok (.iload_n 1, 1) := by decide +kernel
theorem dX8_anew_4 : decode cX8_anew 4 = .ok (.sipush 496, 3) := by decide +kernel
theorem dX8_anew_7 : decode cX8_anew 7 = .ok (.if_icmp .ge 37, 3) := by decide +kernel
theorem dX8_anew_10 : decode cX8_anew 10 = .ok (.aload_n 0, 1) := by decide +kernel
theorem dX8_anew_11 : decode cX8_anew 11 = .ok (.getfield 7, 3) := by decide +kernel
theorem dX8_anew_14 : decode cX8_anew 14 = .ok (.iload_n 1, 1) := by decide +kernel
theorem dX8_anew_15 : decode cX8_anew 15 = .ok (.iload_n 1, 1) := by decide +kernel
theorem dX8_anew_16 : decode cX8_anew 16 = .ok (.bipush 8, 2) := by decide +kernel
theorem dX8_anew_18 : decode cX8_anew 18 = .ok (.if_icmp .lt 18, 3) := by decide +kernel
theorem dX8_anew_21 : decode cX8_anew 21 = .ok (.iload_n 1, 1) := by decide +kernel
theorem dX8_anew_22 : decode cX8_anew 22 = .ok (.bipush 8, 2) := by decide +kernel
theorem dX8_anew_24 : decode cX8_anew 24 = .ok (.aload_n 0, 1) := by decide +kernel
theorem dX8_anew_25 : decode cX8_anew 25 = .ok (.invokevirtual 35, 3) := by decide +kernel
theorem dX8_anew_28 : decode cX8_anew 28 = .ok (.iadd, 1) := by decide +kernel
theorem dX8_anew_29 : decode cX8_anew 29 = .ok (.if_icmp .ge 7, 3) := by decide +kernel
theorem dX8_anew_32 : decode cX8_anew 32 = .ok (.iconst 1, 1) := by decide +kernel
theorem dX8_anew_33 : decode cX8_anew 33 = .ok (.goto 4, 3) := by decide +kernel
theorem dX8_anew_36 : decode cX8_anew 36 = .ok (.iconst 0, 1) := by decide +kernel
theorem dX8_anew_37 : decode cX8_anew 37 = .ok (.iastore, 1) := by decide +kernel
theorem dX8_anew_38 : decode cX8_anew 38 = .ok (.iinc 1 1, 3) := by decide +kernel
theorem dX8_anew_41 : decode cX8_anew 41 = .ok (.goto (-38), 3) := by decide +kernel
theorem dX8_anew_44 : decode cX8_anew 44 = .ok (.aload_n 0, 1) := by decide +kernel
theorem dX8_anew_45 : decode cX8_anew 45 = .ok (.getfield 7, 3) := by decide +kernel
theorem dX8_anew_48 : decode cX8_anew 48 = .ok (.bipush 8, 2) := by decide +kernel
theorem dX8_anew_50 : decode cX8_anew 50 = .ok (.iconst 0, 1) := by decide +kernel
theorem dX8_anew_51 : decode cX8_anew 51 = .ok (.iastore, 1) := by decide +kernel
theorem dX8_anew_52 : decode cX8_anew 52 = .ok (.aload_n 0, 1) := by decide +kernel
theorem dX8_anew_53 : decode cX8_anew 53 = .ok (.getfield 7, 3) := by decide +kernel
theorem dX8_anew_56 : decode cX8_anew 56 = .ok (.sipush 136, 3) := by decide +kernel
theorem dX8_anew_59 : decode cX8_anew 59 = .ok (.iconst 1, 1) := by decide +kernel
theorem dX8_anew_60 : decode cX8_anew 60 = .ok (.iastore, 1) := by decide +kernel
theorem dX8_anew_61 : decode cX8_anew 61 = .ok (.aload_n 0, 1) := by decide +kernel
theorem dX8_anew_62 : decode cX8_anew 62 = .ok (.getfield 7, 3) := by decide +kernel
theorem dX8_anew_65 : decode cX8_anew 65 = .ok (.sipush 137, 3) := by decide +kernel
theorem dX8_anew_68 : decode cX8_anew 68 = .ok (.bipush (-4), 2) := by decide +kernel
theorem dX8_anew_70 : decode cX8_anew 70 = .ok (.iastore, 1) := by decide +kernel
theorem dX8_anew_71 : decode cX8_anew 71 = .ok (.aload_n 0, 1) := by decide +kernel
theorem dX8_anew_72 : decode cX8_anew 72 = .ok (.getfield 7, 3) := by decide +kernel
theorem dX8_anew_75 : decode cX8_anew 75 = .ok (.sipush 138, 3) := by decide +kernel
theorem dX8_anew_78 : decode cX8_anew 78 = .ok (.bipush (-4), 2) := by decide +kernel
theorem dX8_anew_80 : decode cX8_anew 80 = .ok (.iastore, 1) := by decide +kernel
theorem dX8_anew_81 : decode cX8_anew 81 = .ok (.aload_n 0, 1) := by decide +kernel
theorem dX8_anew_82 : decode cX8_anew 82 = .ok (.getfield 7, 3) := by decide +kernel
theorem dX8_anew_85 : decode cX8_anew 85 = .ok (.sipush 139, 3) := by decide +kernel
theorem dX8_anew_88 : decode cX8_anew 88 = .ok (.iconst 1, 1) := by decide +kernel
theorem dX8_anew_89 : decode cX8_anew 89 = .ok (.iastore, 1) := by decide +kernel
theorem dX8_anew_90 : decode cX8_anew 90 = .ok (.aload_n 0, 1) := by decide +kernel
theorem dX8_anew_91 : decode cX8_anew 91 = .ok (.getfield 7, 3) := by decide +kernel
theorem dX8_anew_94 : decode cX8_anew 94 = .ok (.sipush 140, 3) := by decide +kernel
theorem dX8_anew_97 : decode cX8_anew 97 = .ok (.iconst 0, 1) := by decide +kernel
theorem dX8_anew_98 : decode cX8_anew 98 = .ok (.iastore, 1) := by decide +kernel
theorem dX8_anew_99 : decode cX8_anew 99 = .ok (.return_, 1) := by decide +kernel
theorem dX8_forgets_0 : decode cX8_forgets 0 = .ok (.aload_n 0, 1) := by decide +kernel
theorem dX8_forgets_1 : decode cX8_forgets 1 = .ok (.getfield 22, 3) := by decide +kernel
theorem dX8_forgets_4 : decode cX8_forgets 4 = .ok (.iconst 0, 1) := by decide +kernel
theorem dX8_forgets_5 : decode cX8_forgets 5 = .ok (.iconst 0, 1) := by decide +kernel
theorem dX8_forgets_6 : decode cX8_forgets 6 = .ok (.bastore, 1) := by decide +kernel
theorem dX8_forgets_7 : decode cX8_forgets 7 = .ok (.aload_n 0, 1) := by decide +kernel
theorem dX8_forgets_8 : decode cX8_forgets 8 = .ok (.getfield 22, 3) := by decide +kernel
theorem dX8_forgets_11 : decode cX8_forgets 11 = .ok (.iconst 1, 1) := by decide +kernel
theorem dX8_forgets_12 : decode cX8_forgets 12 = .ok (.iconst 0, 1) := by decide +kernel
theorem dX8_forgets_13 : decode cX8_forgets 13 = .ok (.bastore, 1) := by decide +kernel
theorem dX8_forgets_14 : decode cX8_forgets 14 = .ok (.return_, 1) := by decide +kernel
theorem dX8_copies_0 : decode cX8_copies 0 = .ok (.iconst 0, 1) := by decide +kernel
theorem dX8_copies_1 : decode cX8_copies 1 = .ok (.istore_n 2, 1) := by decide +kernel
theorem dX8_copies_2 : decode cX8_copies 2 = .ok (.iload_n 2, 1) := by decide +kernel
theorem dX8_copies_3 : decode cX8_copies 3 = .ok (.sipush 496, 3) := by decide +kernel
theorem dX8_copies_6 : decode cX8_copies 6 = .ok (.if_icmp .ge 15, 3) := by decide +kernel
theorem dX8_copies_9 : decode cX8_copies 9 = .ok (.aload_n 1, 1) := by decide +kernel
theorem dX8_copies_10 : decode cX8_copies 10 = .ok (.iload_n 2, 1) := by decide +kernel
theorem dX8_copies_11 : decode cX8_copies 11 = .ok (.aload_n 0, 1) := by decide +kernel
theorem dX8_copies_12 : decode cX8_copies 12 = .ok (.iload_n 2, 1) := by decide +kernel
theorem dX8_copies_13 : decode cX8_copies 13 = .ok (.iaload, 1) := by decide +kernel
theorem dX8_copies_14 : decode cX8_copies 14 = .ok (.iastore, 1) := by decide +kernel
theorem dX8_copies_15 : decode cX8_copies 15 = .ok (.iinc 2 1, 3) := by decide +kernel
theorem dX8_copies_18 : decode cX8_copies 18 = .ok (.goto (-16), 3) := by decide +kernel
theorem dX8_copies_21 : decode cX8_copies 21 = .ok (.return_, 1) := by decide +kernel
theorem dX8_feed_0 : decode cX8_feed 0 = .ok (.iload_n 1, 1) := by decide +kernel
theorem dX8_feed_1 : decode cX8_feed 1 = .ok (.i2l, 1) := by decide +kernel
theorem dX8_feed_2 : decode cX8_feed 2 = .ok (.lconst 0, 1) := by decide +kernel
theorem dX8_feed_3 : decode cX8_feed 3 = .ok (.ldc2_w 39, 3) := by decide +kernel
theorem dX8_feed_6 : decode cX8_feed 6 = .ok (.invokestatic 41, 3) := by decide +kernel
theorem dX8_feed_9 : decode cX8_feed 9 = .ok (.ifCond .ne 5, 3) := by decide +kernel
theorem dX8_feed_12 : decode cX8_feed 12 = .ok (.iconst (-1), 1) := by decide +kernel
theorem dX8_feed_13 : decode cX8_feed 13 = .ok (.ireturn, 1) := by decide +kernel
theorem dX8_feed_14 : decode cX8_feed 14 = .ok (.aload_n 0, 1) := by decide +kernel
theorem dX8_feed_15 : decode cX8_feed 15 = .ok (.getfield 45, 3) := by decide +kernel
theorem dX8_feed_18 : decode cX8_feed 18 = .ok (.sipush 200, 3) := by decide +kernel
theorem dX8_feed_21 : decode cX8_feed 21 = .ok (.if_icmp .ne 6, 3) := by decide +kernel
theorem dX8_feed_24 : decode cX8_feed 24 = .ok (.bipush (-3), 2) := by decide +kernel
theorem dX8_feed_26 : decode cX8_feed 26 = .ok (.ireturn, 1) := by decide +kernel
theorem dX8_feed_27 : decode cX8_feed 27 = .ok (.aload_n 0, 1) := by decide +kernel
theorem dX8_feed_28 : decode cX8_feed 28 = .ok (.getfield 26, 3) := by decide +kernel
theorem dX8_feed_31 : decode cX8_feed 31 = .ok (.aload_n 0, 1) := by decide +kernel
theorem dX8_feed_32 : decode cX8_feed 32 = .ok (.getfield 45, 3) := by decide +kernel
theorem dX8_feed_35 : decode cX8_feed 35 = .ok (.iload_n 1, 1) := by decide +kernel
theorem dX8_feed_36 : decode cX8_feed 36 = .ok (.iastore, 1) := by decide +kernel
theorem dX8_feed_37 : decode cX8_feed 37 = .ok (.aload_n 0, 1) := by decide +kernel
theorem dX8_feed_38 : decode cX8_feed 38 = .ok (.dup, 1) := by decide +kernel
theorem dX8_feed_39 : decode cX8_feed 39 = .ok (.getfield 45, 3) := by decide +kernel
theorem dX8_feed_42 : decode cX8_feed 42 = .ok (.iconst 1, 1) := by decide +kernel
theorem dX8_feed_43 : decode cX8_feed 43 = .ok (.iadd, 1) := by decide +kernel
theorem dX8_feed_44 : decode cX8_feed 44 = .ok (.putfield 45, 3) := by decide +kernel
theorem dX8_feed_47 : decode cX8_feed 47 = .ok (.aload_n 0, 1) := by decide +kernel
theorem dX8_feed_48 : decode cX8_feed 48 = .ok (.getfield 45, 3) := by decide +kernel
theorem dX8_feed_51 : decode cX8_feed 51 = .ok (.ireturn, 1) := by decide +kernel
theorem dX8_end_0 : decode cX8_end 0 = .ok (.iload_n 1, 1) := by decide +kernel
theorem dX8_end_1 : decode cX8_end 1 = .ok (.i2l, 1) := by decide +kernel
theorem dX8_end_2 : decode cX8_end 2 = .ok (.lconst 0, 1) := by decide +kernel
theorem dX8_end_3 : decode cX8_end 3 = .ok (.aload_n 0, 1) := by decide +kernel
theorem dX8_end_4 : decode cX8_end 4 = .ok (.getfield 45, 3) := by decide +kernel
theorem dX8_end_7 : decode cX8_end 7 = .ok (.i2l, 1) := by decide +kernel
theorem dX8_end_8 : decode cX8_end 8 = .ok (.invokestatic 41, 3) := by decide +kernel
theorem dX8_end_11 : decode cX8_end 11 = .ok (.ifCond .ne 5, 3) := by decide +kernel
theorem dX8_end_14 : decode cX8_end 14 = .ok (.iconst (-1), 1) := by decide +kernel
theorem dX8_end_15 : decode cX8_end 15 = .ok (.ireturn, 1) := by decide +kernel
theorem dX8_end_16 : decode cX8_end 16 = .ok (.aload_n 0, 1) := by decide +kernel
theorem dX8_end_17 : decode cX8_end 17 = .ok (.getfield 45, 3) := by decide +kernel
theorem dX8_end_20 : decode cX8_end 20 = .ok (.istore_n 2, 1) := by decide +kernel
theorem dX8_end_21 : decode cX8_end 21 = .ok (.aload_n 0, 1) := by decide +kernel
theorem dX8_end_22 : decode cX8_end 22 = .ok (.iload_n 1, 1) := by decide +kernel
theorem dX8_end_23 : decode cX8_end 23 = .ok (.putfield 45, 3) := by decide +kernel
theorem dX8_end_26 : decode cX8_end 26 = .ok (.iload_n 2, 1) := by decide +kernel
theorem dX8_end_27 : decode cX8_end 27 = .ok (.ireturn, 1) := by decide +kernel
theorem dX8_requires_0 : decode cX8_requires 0 = .ok (.iload_n 1, 1) := by decide +kernel
theorem dX8_requires_1 : decode cX8_requires 1 = .ok (.ifCond .ne 23, 3) := by decide +kernel
theorem dX8_requires_4 : decode cX8_requires 4 = .ok (.aload_n 0, 1) := by decide +kernel
theorem dX8_requires_5 : decode cX8_requires 5 = .ok (.getfield 49, 3) := by decide +kernel
theorem dX8_requires_8 : decode cX8_requires 8 = .ok (.ifCond .ne 16, 3) := by decide +kernel
theorem dX8_requires_11 : decode cX8_requires 11 = .ok (.aload_n 0, 1) := by decide +kernel
theorem dX8_requires_12 : decode cX8_requires 12 = .ok (.iload_n 2, 1) := by decide +kernel
theorem dX8_requires_13 : decode cX8_requires 13 = .ok (.putfield 49, 3) := by decide +kernel
theorem dX8_requires_16 : decode cX8_requires 16 = .ok (.aload_n 0, 1) := by decide +kernel
theorem dX8_requires_17 : decode cX8_requires 17 = .ok (.aload_n 0, 1) := by decide +kernel
theorem dX8_requires_18 : decode cX8_requires 18 = .ok (.getfield 52, 3) := by decide +kernel
theorem dX8_requires_21 : decode cX8_requires 21 = .ok (.putfield 55, 3) := by decide +kernel
theorem dX8_requires_24 : decode cX8_requires 24 = .ok (.return_, 1) := by decide +kernel
theorem dX8_byteAt_0 : decode cX8_byteAt 0 = .ok (.iload_n 1, 1) := by decide +kernel
theorem dX8_byteAt_1 : decode cX8_byteAt 1 = .ok (.aload_n 0, 1) := by decide +kernel
theorem dX8_byteAt_2 : decode cX8_byteAt 2 = .ok (.getfield 45, 3) := by decide +kernel
theorem dX8_byteAt_5 : decode cX8_byteAt 5 = .ok (.if_icmp .ge 12, 3) := by decide +kernel
theorem dX8_byteAt_8 : decode cX8_byteAt 8 = .ok (.aload_n 0, 1) := by decide +kernel
theorem dX8_byteAt_9 : decode cX8_byteAt 9 = .ok (.getfield 26, 3) := by decide +kernel
theorem dX8_byteAt_12 : decode cX8_byteAt 12 = .ok (.iload_n 1, 1) := by decide +kernel
theorem dX8_byteAt_13 : decode cX8_byteAt 13 = .ok (.iaload, 1) := by decide +kernel
theorem dX8_byteAt_14 : decode cX8_byteAt 14 = .ok (.goto 4, 3) := by decide +kernel
theorem dX8_byteAt_17 : decode cX8_byteAt 17 = .ok (.iconst (-1), 1) := by decide +kernel
theorem dX8_byteAt_18 : decode cX8_byteAt 18 = .ok (.ireturn, 1) := by decide +kernel
theorem dX8_is_0 : decode cX8_is 0 = .ok (.aload_n 0, 1) := by decide +kernel
theorem dX8_is_1 : decode cX8_is 1 = .ok (.getfield 58, 3) := by decide +kernel
theorem dX8_is_4 : decode cX8_is 4 = .ok (.iconst 1, 1) := by decide +kernel
theorem dX8_is_5 : decode cX8_is 5 = .ok (.if_icmp .ne 68, 3) := by decide +kernel
theorem dX8_is_8 : decode cX8_is 8 = .ok (.aload_n 0, 1) := by decide +kernel
theorem dX8_is_9 : decode cX8_is 9 = .ok (.getfield 61, 3) := by decide +kernel
theorem dX8_is_12 : decode cX8_is 12 = .ok (.aload_n 0, 1) := by decide +kernel
theorem dX8_is_13 : decode cX8_is 13 = .ok (.getfield 52, 3) := by decide +kernel
theorem dX8_is_16 : decode cX8_is 16 = .ok (.isub, 1) := by decide +kernel
theorem dX8_is_17 : decode cX8_is 17 = .ok (.iload_n 1, 1) := by decide +kernel
theorem dX8_is_18 : decode cX8_is 18 = .ok (.if_icmp .ne 55, 3) := by decide +kernel
theorem dX8_is_21 : decode cX8_is 21 = .ok (.aload_n 0, 1) := by decide +kernel
theorem dX8_is_22 : decode cX8_is 22 = .ok (.aload_n 0, 1) := by decide +kernel
theorem dX8_is_23 : decode cX8_is 23 = .ok (.getfield 52, 3) := by decide +kernel
theorem dX8_is_26 : decode cX8_is 26 = .ok (.iload_n 2, 1) := by decide +kernel
theorem dX8_is_27 : decode cX8_is 27 = .ok (.iadd, 1) := by decide +kernel
theorem dX8_is_28 : decode cX8_is 28 = .ok (.invokevirtual 64, 3) := by decide +kernel
theorem dX8_is_31 : decode cX8_is 31 = .ok (.iload_n 3, 1) := by decide +kernel
theorem dX8_is_32 : decode cX8_is 32 = .ok (.if_icmp .ne 41, 3) := by decide +kernel
theorem dX8_is_35 : decode cX8_is 35 = .ok (.aload_n 0, 1) := by decide +kernel
theorem dX8_is_36 : decode cX8_is 36 = .ok (.aload_n 0, 1) := by decide +kernel
theorem dX8_is_37 : decode cX8_is 37 = .ok (.getfield 52, 3) := by decide +kernel
theorem dX8_is_40 : decode cX8_is 40 = .ok (.iload_n 2, 1) := by decide +kernel
theorem dX8_is_41 : decode cX8_is 41 = .ok (.iadd, 1) := by decide +kernel
theorem dX8_is_42 : decode cX8_is 42 = .ok (.iconst 1, 1) := by decide +kernel
theorem dX8_is_43 : decode cX8_is 43 = .ok (.iadd, 1) := by decide +kernel
theorem dX8_is_44 : decode cX8_is 44 = .ok (.invokevirtual 64, 3) := by decide +kernel
theorem dX8_is_47 : decode cX8_is 47 = .ok (.iload 4, 2) := by decide +kernel
theorem dX8_is_49 : decode cX8_is 49 = .ok (.if_icmp .ne 24, 3) := by decide +kernel
theorem dX8_is_52 : decode cX8_is 52 = .ok (.aload_n 0, 1) := by decide +kernel
theorem dX8_is_53 : decode cX8_is 53 = .ok (.aload_n 0, 1) := by decide +kernel
theorem dX8_is_54 : decode cX8_is 54 = .ok (.getfield 52, 3) := by decide +kernel
theorem dX8_is_57 : decode cX8_is 57 = .ok (.iload_n 2, 1) := by decide +kernel
theorem dX8_is_58 : decode cX8_is 58 = .ok (.iadd, 1) := by decide +kernel
theorem dX8_is_59 : decode cX8_is 59 = .ok (.iconst 2, 1) := by decide +kernel
theorem dX8_is_60 : decode cX8_is 60 = .ok (.iadd, 1) := by decide +kernel
theorem dX8_is_61 : decode cX8_is 61 = .ok (.invokevirtual 64, 3) := by decide +kernel
theorem dX8_is_64 : decode cX8_is 64 = .ok (.iload 5, 2) := by decide +kernel
theorem dX8_is_66 : decode cX8_is 66 = .ok (.if_icmp .ne 7, 3) := by decide +kernel
theorem dX8_is_69 : decode cX8_is 69 = .ok (.iconst 1, 1) := by decide +kernel
theorem dX8_is_70 : decode cX8_is 70 = .ok (.goto 4, 3) := by decide +kernel
theorem dX8_is_73 : decode cX8_is 73 = .ok (.iconst 0, 1) := by decide +kernel
theorem dX8_is_74 : decode cX8_is 74 = .ok (.ireturn, 1) := by decide +kernel
theorem dX8_lineNow_0 : decode cX8_lineNow 0 = .ok (.aload_n 0, 1) := by decide +kernel
theorem dX8_lineNow_1 : decode cX8_lineNow 1 = .ok (.bipush 6, 2) := by decide +kernel
theorem dX8_lineNow_3 : decode cX8_lineNow 3 = .ok (.iconst 0, 1) := by decide +kernel
theorem dX8_lineNow_4 : decode cX8_lineNow 4 = .ok (.bipush 118, 2) := by decide +kernel
theorem dX8_lineNow_6 : decode cX8_lineNow 6 = .ok (.bipush 111, 2) := by decide +kernel
theorem dX8_lineNow_8 : decode cX8_lineNow 8 = .ok (.bipush 108, 2) := by decide +kernel
theorem dX8_lineNow_10 : decode cX8_lineNow 10 = .ok (.invokevirtual 68, 3) := by decide +kernel
theorem dX8_lineNow_13 : decode cX8_lineNow 13 = .ok (.ifCond .eq 21, 3) := by decide +kernel
theorem dX8_lineNow_16 : decode cX8_lineNow 16 = .ok (.aload_n 0, 1) := by decide +kernel
theorem dX8_lineNow_17 : decode cX8_lineNow 17 = .ok (.bipush 6, 2) := by decide +kernel
theorem dX8_lineNow_19 : decode cX8_lineNow 19 = .ok (.iconst 3, 1) := by decide +kernel
theorem dX8_lineNow_20 : decode cX8_lineNow 20 = .ok (.bipush 117, 2) := by decide +kernel
theorem dX8_lineNow_22 : decode cX8_lineNow 22 = .ok (.bipush 109, 2) := by decide +kernel
theorem dX8_lineNow_24 : decode cX8_lineNow 24 = .ok (.bipush 101, 2) := by decide +kernel
theorem dX8_lineNow_26 : decode cX8_lineNow 26 = .ok (.invokevirtual 68, 3) := by decide +kernel
theorem dX8_lineNow_29 : decode cX8_lineNow 29 = .ok (.ifCond .eq 5, 3) := by decide +kernel
theorem dX8_lineNow_32 : decode cX8_lineNow 32 = .ok (.iconst 0, 1) := by decide +kernel
theorem dX8_lineNow_33 : decode cX8_lineNow 33 = .ok (.ireturn, 1) := by decide +kernel
theorem dX8_lineNow_34 : decode cX8_lineNow 34 = .ok (.aload_n 0, 1) := by decide +kernel
theorem dX8_lineNow_35 : decode cX8_lineNow 35 = .ok (.iconst 3, 1) := by decide +kernel
theorem dX8_lineNow_36 : decode cX8_lineNow 36 = .ok (.iconst 0, 1) := by decide +kernel
theorem dX8_lineNow_37 : decode cX8_lineNow 37 = .ok (.bipush 100, 2) := by decide +kernel
theorem dX8_lineNow_39 : decode cX8_lineNow 39 = .ok (.bipush 105, 2) := by decide +kernel
theorem dX8_lineNow_41 : decode cX8_lineNow 41 = .ok (.bipush 114, 2) := by decide +kernel
theorem dX8_lineNow_43 : decode cX8_lineNow 43 = .ok (.invokevirtual 68, 3) := by decide +kernel
theorem dX8_lineNow_46 : decode cX8_lineNow 46 = .ok (.ifCond .eq 5, 3) := by decide +kernel
theorem dX8_lineNow_49 : decode cX8_lineNow 49 = .ok (.iconst 1, 1) := by decide +kernel
theorem dX8_lineNow_50 : decode cX8_lineNow 50 = .ok (.ireturn, 1) := by decide +kernel
theorem dX8_lineNow_51 : decode cX8_lineNow 51 = .ok (.aload_n 0, 1) := by decide +kernel
theorem dX8_lineNow_52 : decode cX8_lineNow 52 = .ok (.iconst 4, 1) := by decide +kernel
theorem dX8_lineNow_53 : decode cX8_lineNow 53 = .ok (.iconst 0, 1) := by decide +kernel
theorem dX8_lineNow_54 : decode cX8_lineNow 54 = .ok (.bipush 102, 2) := by decide +kernel
theorem dX8_lineNow_56 : decode cX8_lineNow 56 = .ok (.bipush 105, 2) := by decide +kernel
theorem dX8_lineNow_58 : decode cX8_lineNow 58 = .ok (.bipush 108, 2) := by decide +kernel
theorem dX8_lineNow_60 : decode cX8_lineNow 60 = .ok (.invokevirtual 68, 3) := by decide +kernel
theorem dX8_lineNow_63 : decode cX8_lineNow 63 = .ok (.ifCond .eq 22, 3) := by decide +kernel
theorem dX8_lineNow_66 : decode cX8_lineNow 66 = .ok (.aload_n 0, 1) := by decide +kernel
theorem dX8_lineNow_67 : decode cX8_lineNow 67 = .ok (.iconst 4, 1) := by decide +kernel
theorem dX8_lineNow_68 : decode cX8_lineNow 68 = .ok (.iconst 1, 1) := by decide +kernel
theorem dX8_lineNow_69 : decode cX8_lineNow 69 = .ok (.bipush 105, 2) := by decide +kernel
theorem dX8_lineNow_71 : decode cX8_lineNow 71 = .ok (.bipush 108, 2) := by decide +kernel
theorem dX8_lineNow_73 : decode cX8_lineNow 73 = .ok (.bipush 101, 2) := by decide +kernel
theorem dX8_lineNow_75 : decode cX8_lineNow 75 = .ok (.invokevirtual 68, 3) := by decide +kernel
theorem dX8_lineNow_78 : decode cX8_lineNow 78 = .ok (.ifCond .eq 7, 3) := by decide +kernel
theorem dX8_lineNow_81 : decode cX8_lineNow 81 = .ok (.iconst 2, 1) := by decide +kernel
theorem dX8_lineNow_82 : decode cX8_lineNow 82 = .ok (.goto 5, 3) := by decide +kernel
theorem dX8_lineNow_85 : decode cX8_lineNow 85 = .ok (.bipush (-4), 2) := by decide +kernel
theorem dX8_lineNow_87 : decode cX8_lineNow 87 = .ok (.ireturn, 1) := by decide +kernel
theorem dX8_reads_0 : decode cX8_reads 0 = .ok (.aload_n 0, 1) := by decide +kernel
theorem dX8_reads_1 : decode cX8_reads 1 = .ok (.getfield 49, 3) := by decide +kernel
theorem dX8_reads_4 : decode cX8_reads 4 = .ok (.ifCond .le 4, 3) := by decide +kernel
theorem dX8_reads_7 : decode cX8_reads 7 = .ok (.return_, 1) := by decide +kernel
theorem dX8_reads_8 : decode cX8_reads 8 = .ok (.aload_n 0, 1) := by decide +kernel
theorem dX8_reads_9 : decode cX8_reads 9 = .ok (.aload_n 0, 1) := by decide +kernel
theorem dX8_reads_10 : decode cX8_reads 10 = .ok (.getfield 61, 3) := by decide +kernel
theorem dX8_reads_13 : decode cX8_reads 13 = .ok (.invokevirtual 64, 3) := by decide +kernel
theorem dX8_reads_16 : decode cX8_reads 16 = .ok (.bipush 32, 2) := by decide +kernel
theorem dX8_reads_18 : decode cX8_reads 18 = .ok (.if_icmp .ne 16, 3) := by decide +kernel
theorem dX8_reads_21 : decode cX8_reads 21 = .ok (.aload_n 0, 1) := by decide +kernel
theorem dX8_reads_22 : decode cX8_reads 22 = .ok (.dup, 1) := by decide +kernel
theorem dX8_reads_23 : decode cX8_reads 23 = .ok (.getfield 61, 3) := by decide +kernel
theorem dX8_reads_26 : decode cX8_reads 26 = .ok (.iconst 1, 1) := by decide +kernel
theorem dX8_reads_27 : decode cX8_reads 27 = .ok (.iadd, 1) := by decide +kernel
theorem dX8_reads_28 : decode cX8_reads 28 = .ok (.putfield 61, 3) := by decide +kernel
theorem dX8_reads_31 : decode cX8_reads 31 = .ok (.goto (-23), 3) := by decide +kernel
theorem dX8_reads_34 : decode cX8_reads 34 = .ok (.aload_n 0, 1) := by decide +kernel
theorem dX8_reads_35 : decode cX8_reads 35 = .ok (.aload_n 0, 1) := by decide +kernel
theorem dX8_reads_36 : decode cX8_reads 36 = .ok (.getfield 61, 3) := by decide +kernel
theorem dX8_reads_39 : decode cX8_reads 39 = .ok (.putfield 52, 3) := by decide +kernel
theorem dX8_reads_42 : decode cX8_reads 42 = .ok (.aload_n 0, 1) := by decide +kernel
theorem dX8_reads_43 : decode cX8_reads 43 = .ok (.aload_n 0, 1) := by decide +kernel
theorem dX8_reads_44 : decode cX8_reads 44 = .ok (.getfield 61, 3) := by decide +kernel
theorem dX8_reads_47 : decode cX8_reads 47 = .ok (.invokevirtual 64, 3) := by decide +kernel
theorem dX8_reads_50 : decode cX8_reads 50 = .ok (.istore_n 1, 1) := by decide +kernel
theorem dX8_reads_51 : decode cX8_reads 51 = .ok (.iload_n 1, 1) := by decide +kernel
theorem dX8_reads_52 : decode cX8_reads 52 = .ok (.ifCond .ge 11, 3) := by decide +kernel
theorem dX8_reads_55 : decode cX8_reads 55 = .ok (.aload_n 0, 1) := by decide +kernel
theorem dX8_reads_56 : decode cX8_reads 56 = .ok (.iconst 0, 1) := by decide +kernel
theorem dX8_reads_57 : decode cX8_reads 57 = .ok (.putfield 58, 3) := by decide +kernel
theorem dX8_reads_60 : decode cX8_reads 60 = .ok (.goto 214, 3) := by decide +kernel
theorem dX8_reads_63 : decode cX8_reads 63 = .ok (.iload_n 1, 1) := by decide +kernel
theorem dX8_reads_64 : decode cX8_reads 64 = .ok (.i2l, 1) := by decide +kernel
theorem dX8_reads_65 : decode cX8_reads 65 = .ok (.ldc2_w 72, 3) := by decide +kernel
theorem dX8_reads_68 : decode cX8_reads 68 = .ok (.ldc2_w 74, 3) := by decide +kernel
theorem dX8_reads_71 : decode cX8_reads 71 = .ok (.invokestatic 41, 3) := by decide +kernel
theorem dX8_reads_74 : decode cX8_reads 74 = .ok (.ifCond .eq 42, 3) := by decide +kernel
theorem dX8_reads_77 : decode cX8_reads 77 = .ok (.aload_n 0, 1) := by decide +kernel
theorem dX8_reads_78 : decode cX8_reads 78 = .ok (.iconst 1, 1) := by decide +kernel
theorem dX8_reads_79 : decode cX8_reads 79 = .ok (.putfield 58, 3) := by decide +kernel
theorem dX8_reads_82 : decode cX8_reads 82 = .ok (.aload_n 0, 1) := by decide +kernel
theorem dX8_reads_83 : decode cX8_reads 83 = .ok (.aload_n 0, 1) := by decide +kernel
theorem dX8_reads_84 : decode cX8_reads 84 = .ok (.getfield 61, 3) := by decide +kernel
theorem dX8_reads_87 : decode cX8_reads 87 = .ok (.invokevirtual 64, 3) := by decide +kernel
theorem dX8_reads_90 : decode cX8_reads 90 = .ok (.i2l, 1) := by decide +kernel
theorem dX8_reads_91 : decode cX8_reads 91 = .ok (.ldc2_w 72, 3) := by decide +kernel
theorem dX8_reads_94 : decode cX8_reads 94 = .ok (.ldc2_w 74, 3) := by decide +kernel
theorem dX8_reads_97 : decode cX8_reads 97 = .ok (.invokestatic 41, 3) := by decide +kernel
theorem dX8_reads_100 : decode cX8_reads 100 = .ok (.ifCond .eq 174, 3) := by decide +kernel
theorem dX8_reads_103 : decode cX8_reads 103 = .ok (.aload_n 0, 1) := by decide +kernel
theorem dX8_reads_104 : decode cX8_reads 104 = .ok (.dup, 1) := by decide +kernel
theorem dX8_reads_105 : decode cX8_reads 105 = .ok (.getfield 61, 3) := by decide +kernel
theorem dX8_reads_108 : decode cX8_reads 108 = .ok (.iconst 1, 1) := by decide +kernel
theorem dX8_reads_109 : decode cX8_reads 109 = .ok (.iadd, 1) := by decide +kernel
theorem dX8_reads_110 : decode cX8_reads 110 = .ok (.putfield 61, 3) := by decide +kernel
theorem dX8_reads_113 : decode cX8_reads 113 = .ok (.goto (-31), 3) := by decide +kernel
theorem dX8_reads_116 : decode cX8_reads 116 = .ok (.iload_n 1, 1) := by decide +kernel
theorem dX8_reads_117 : decode cX8_reads 117 = .ok (.i2l, 1) := by decide +kernel
theorem dX8_reads_118 : decode cX8_reads 118 = .ok (.ldc2_w 76, 3) := by decide +kernel
theorem dX8_reads_121 : decode cX8_reads 121 = .ok (.ldc2_w 78, 3) := by decide +kernel
theorem dX8_reads_124 : decode cX8_reads 124 = .ok (.invokestatic 41, 3) := by decide +kernel
theorem dX8_reads_127 : decode cX8_reads 127 = .ok (.ifCond .eq 116, 3) := by decide +kernel
theorem dX8_reads_130 : decode cX8_reads 130 = .ok (.aload_n 0, 1) := by decide +kernel
theorem dX8_reads_131 : decode cX8_reads 131 = .ok (.iconst 2, 1) := by decide +kernel
theorem dX8_reads_132 : decode cX8_reads 132 = .ok (.putfield 58, 3) := by decide +kernel
theorem dX8_reads_135 : decode cX8_reads 135 = .ok (.aload_n 0, 1) := by decide +kernel
theorem dX8_reads_136 : decode cX8_reads 136 = .ok (.iconst 0, 1) := by decide +kernel
theorem dX8_reads_137 : decode cX8_reads 137 = .ok (.putfield 80, 3) := by decide +kernel
theorem dX8_reads_140 : decode cX8_reads 140 = .ok (.aload_n 0, 1) := by decide +kernel
theorem dX8_reads_141 : decode cX8_reads 141 = .ok (.aload_n 0, 1) := by decide +kernel
theorem dX8_reads_142 : decode cX8_reads 142 = .ok (.getfield 61, 3) := by decide +kernel
theorem dX8_reads_145 : decode cX8_reads 145 = .ok (.invokevirtual 64, 3) := by decide +kernel
theorem dX8_reads_148 : decode cX8_reads 148 = .ok (.i2l, 1) := by decide +kernel
theorem dX8_reads_149 : decode cX8_reads 149 = .ok (.ldc2_w 76, 3) := by decide +kernel
theorem dX8_reads_152 : decode cX8_reads 152 = .ok (.ldc2_w 78, 3) := by decide +kernel
theorem dX8_reads_155 : decode cX8_reads 155 = .ok (.invokestatic 41, 3) := by decide +kernel
theorem dX8_reads_158 : decode cX8_reads 158 = .ok (.ifCond .eq 59, 3) := by decide +kernel
theorem dX8_reads_161 : decode cX8_reads 161 = .ok (.aload_n 0, 1) := by decide +kernel
theorem dX8_reads_162 : decode cX8_reads 162 = .ok (.aload_n 0, 1) := by decide +kernel
theorem dX8_reads_163 : decode cX8_reads 163 = .ok (.getfield 61, 3) := by decide +kernel
theorem dX8_reads_166 : decode cX8_reads 166 = .ok (.aload_n 0, 1) := by decide +kernel
theorem dX8_reads_167 : decode cX8_reads 167 = .ok (.getfield 52, 3) := by decide +kernel
theorem dX8_reads_170 : decode cX8_reads 170 = .ok (.isub, 1) := by decide +kernel
theorem dX8_reads_171 : decode cX8_reads 171 = .ok (.iconst 2, 1) := by decide +kernel
theorem dX8_reads_172 : decode cX8_reads 172 = .ok (.if_icmp .ge 25, 3) := by decide +kernel
theorem dX8_reads_175 : decode cX8_reads 175 = .ok (.bipush 10, 2) := by decide +kernel
theorem dX8_reads_177 : decode cX8_reads 177 = .ok (.aload_n 0, 1) := by decide +kernel
theorem dX8_reads_178 : decode cX8_reads 178 = .ok (.getfield 80, 3) := by decide +kernel
theorem dX8_reads_181 : decode cX8_reads 181 = .ok (.imul, 1) := by decide +kernel
theorem dX8_reads_182 : decode cX8_reads 182 = .ok (.aload_n 0, 1) := by decide +kernel
theorem dX8_reads_183 : decode cX8_reads 183 = .ok (.aload_n 0, 1) := by decide +kernel
theorem dX8_reads_184 : decode cX8_reads 184 = .ok (.getfield 61, 3) := by decide +kernel
theorem dX8_reads_187 : decode cX8_reads 187 = .ok (.invokevirtual 64, 3) := by decide +kernel
theorem dX8_reads_190 : decode cX8_reads 190 = .ok (.iadd, 1) := by decide +kernel
theorem dX8_reads_191 : decode cX8_reads 191 = .ok (.bipush 48, 2) := by decide +kernel
theorem dX8_reads_193 : decode cX8_reads 193 = .ok (.isub, 1) := by decide +kernel
theorem dX8_reads_194 : decode cX8_reads 194 = .ok (.goto 7, 3) := by decide +kernel
theorem dX8_reads_197 : decode cX8_reads 197 = .ok (.aload_n 0, 1) := by decide +kernel
theorem dX8_reads_198 : decode cX8_reads 198 = .ok (.getfield 80, 3) := by decide +kernel
theorem dX8_reads_201 : decode cX8_reads 201 = .ok (.putfield 80, 3) := by decide +kernel
theorem dX8_reads_204 : decode cX8_reads 204 = .ok (.aload_n 0, 1) := by decide +kernel
theorem dX8_reads_205 : decode cX8_reads 205 = .ok (.dup, 1) := by decide +kernel
theorem dX8_reads_206 : decode cX8_reads 206 = .ok (.getfield 61, 3) := by decide +kernel
theorem dX8_reads_209 : decode cX8_reads 209 = .ok (.iconst 1, 1) := by decide +kernel
theorem dX8_reads_210 : decode cX8_reads 210 = .ok (.iadd, 1) := by decide +kernel
theorem dX8_reads_211 : decode cX8_reads 211 = .ok (.putfield 61, 3) := by decide +kernel
theorem dX8_reads_214 : decode cX8_reads 214 = .ok (.goto (-74), 3) := by decide +kernel
theorem dX8_reads_217 : decode cX8_reads 217 = .ok (.aload_n 0, 1) := by decide +kernel
theorem dX8_reads_218 : decode cX8_reads 218 = .ok (.aload_n 0, 1) := by decide +kernel
theorem dX8_reads_219 : decode cX8_reads 219 = .ok (.getfield 61, 3) := by decide +kernel
theorem dX8_reads_222 : decode cX8_reads 222 = .ok (.aload_n 0, 1) := by decide +kernel
theorem dX8_reads_223 : decode cX8_reads 223 = .ok (.getfield 52, 3) := by decide +kernel
theorem dX8_reads_226 : decode cX8_reads 226 = .ok (.isub, 1) := by decide +kernel
theorem dX8_reads_227 : decode cX8_reads 227 = .ok (.iconst 2, 1) := by decide +kernel
theorem dX8_reads_228 : decode cX8_reads 228 = .ok (.if_icmp .gt 7, 3) := by decide +kernel
theorem dX8_reads_231 : decode cX8_reads 231 = .ok (.iconst 1, 1) := by decide +kernel
theorem dX8_reads_232 : decode cX8_reads 232 = .ok (.goto 4, 3) := by decide +kernel
theorem dX8_reads_235 : decode cX8_reads 235 = .ok (.iconst 0, 1) := by decide +kernel
theorem dX8_reads_236 : decode cX8_reads 236 = .ok (.iconst 1, 1) := by decide +kernel
theorem dX8_reads_237 : decode cX8_reads 237 = .ok (.invokevirtual 83, 3) := by decide +kernel
theorem dX8_reads_240 : decode cX8_reads 240 = .ok (.goto 34, 3) := by decide +kernel
theorem dX8_reads_243 : decode cX8_reads 243 = .ok (.aload_n 0, 1) := by decide +kernel
theorem dX8_reads_244 : decode cX8_reads 244 = .ok (.iconst 3, 1) := by decide +kernel
theorem dX8_reads_245 : decode cX8_reads 245 = .ok (.putfield 58, 3) := by decide +kernel
theorem dX8_reads_248 : decode cX8_reads 248 = .ok (.aload_n 0, 1) := by decide +kernel
theorem dX8_reads_249 : decode cX8_reads 249 = .ok (.iload_n 1, 1) := by decide +kernel
theorem dX8_reads_250 : decode cX8_reads 250 = .ok (.bipush 59, 2) := by decide +kernel
theorem dX8_reads_252 : decode cX8_reads 252 = .ok (.if_icmp .ne 7, 3) := by decide +kernel
theorem dX8_reads_255 : decode cX8_reads 255 = .ok (.iconst 1, 1) := by decide +kernel
theorem dX8_reads_256 : decode cX8_reads 256 = .ok (.goto 4, 3) := by decide +kernel
theorem dX8_reads_259 : decode cX8_reads 259 = .ok (.iconst 0, 1) := by decide +kernel
theorem dX8_reads_260 : decode cX8_reads 260 = .ok (.iconst 1, 1) := by decide +kernel
theorem dX8_reads_261 : decode cX8_reads 261 = .ok (.invokevirtual 83, 3) := by decide +kernel
theorem dX8_reads_264 : decode cX8_reads 264 = .ok (.aload_n 0, 1) := by decide +kernel
theorem dX8_reads_265 : decode cX8_reads 265 = .ok (.dup, 1) := by decide +kernel
theorem dX8_reads_266 : decode cX8_reads 266 = .ok (.getfield 61, 3) := by decide +kernel
theorem dX8_reads_269 : decode cX8_reads 269 = .ok (.iconst 1, 1) := by decide +kernel
theorem dX8_reads_270 : decode cX8_reads 270 = .ok (.iadd, 1) := by decide +kernel
theorem dX8_reads_271 : decode cX8_reads 271 = .ok (.putfield 61, 3) := by decide +kernel
theorem dX8_reads_274 : decode cX8_reads 274 = .ok (.return_, 1) := by decide +kernel
theorem dX8_readNumber_0 : decode cX8_readNumber 0 = .ok (.aload_n 0, 1) := by decide +kernel
theorem dX8_readNumber_1 : decode cX8_readNumber 1 = .ok (.getfield 49, 3) := by decide +kernel
theorem dX8_readNumber_4 : decode cX8_readNumber 4 = .ok (.ifCond .ne 21, 3) := by decide +kernel
theorem dX8_readNumber_7 : decode cX8_readNumber 7 = .ok (.aload_n 0, 1) := by decide +kernel
theorem dX8_readNumber_8 : decode cX8_readNumber 8 = .ok (.aload_n 0, 1) := by decide +kernel
theorem dX8_readNumber_9 : decode cX8_readNumber 9 = .ok (.getfield 58, 3) := by decide +kernel
theorem dX8_readNumber_12 : decode cX8_readNumber 12 = .ok (.iconst 2, 1) := by decide +kernel
theorem dX8_readNumber_13 : decode cX8_readNumber 13 = .ok (.if_icmp .ne 7, 3) := by decide +kernel
theorem dX8_readNumber_16 : decode cX8_readNumber 16 = .ok (.iconst 1, 1) := by decide +kernel
theorem dX8_readNumber_17 : decode cX8_readNumber 17 = .ok (.goto 4, 3) := by decide +kernel
theorem dX8_readNumber_20 : decode cX8_readNumber 20 = .ok (.iconst 0, 1) := by decide +kernel
theorem dX8_readNumber_21 : decode cX8_readNumber 21 = .ok (.iconst 2, 1) := by decide +kernel
theorem dX8_readNumber_22 : decode cX8_readNumber 22 = .ok (.invokevirtual 83, 3) := by decide +kernel
theorem dX8_readNumber_25 : decode cX8_readNumber 25 = .ok (.aload_n 0, 1) := by decide +kernel
theorem dX8_readNumber_26 : decode cX8_readNumber 26 = .ok (.getfield 49, 3) := by decide +kernel
theorem dX8_readNumber_29 : decode cX8_readNumber 29 = .ok (.ifCond .ne 20, 3) := by decide +kernel
theorem dX8_readNumber_32 : decode cX8_readNumber 32 = .ok (.aload_n 0, 1) := by decide +kernel
theorem dX8_readNumber_33 : decode cX8_readNumber 33 = .ok (.aload_n 0, 1) := by decide +kernel
theorem dX8_readNumber_34 : decode cX8_readNumber 34 = .ok (.getfield 80, 3) := by decide +kernel
theorem dX8_readNumber_37 : decode cX8_readNumber 37 = .ok (.i2l, 1) := by decide +kernel
theorem dX8_readNumber_38 : decode cX8_readNumber 38 = .ok (.iload_n 1, 1) := by decide +kernel
theorem dX8_readNumber_39 : decode cX8_readNumber 39 = .ok (.i2l, 1) := by decide +kernel
theorem dX8_readNumber_40 : decode cX8_readNumber 40 = .ok (.iload_n 2, 1) := by decide +kernel
theorem dX8_readNumber_41 : decode cX8_readNumber 41 = .ok (.i2l, 1) := by decide +kernel
theorem dX8_readNumber_42 : decode cX8_readNumber 42 = .ok (.invokestatic 41, 3) := by decide +kernel
theorem dX8_readNumber_45 : decode cX8_readNumber 45 = .ok (.iconst 3, 1) := by decide +kernel
theorem dX8_readNumber_46 : decode cX8_readNumber 46 = .ok (.invokevirtual 83, 3) := by decide +kernel
theorem dX8_readNumber_49 : decode cX8_readNumber 49 = .ok (.aload_n 0, 1) := by decide +kernel
theorem dX8_readNumber_50 : decode cX8_readNumber 50 = .ok (.getfield 49, 3) := by decide +kernel
theorem dX8_readNumber_53 : decode cX8_readNumber 53 = .ok (.ifCond .ne 10, 3) := by decide +kernel
theorem dX8_readNumber_56 : decode cX8_readNumber 56 = .ok (.aload_n 0, 1) := by decide +kernel
theorem dX8_readNumber_57 : decode cX8_readNumber 57 = .ok (.getfield 80, 3) := by decide +kernel
theorem dX8_readNumber_60 : decode cX8_readNumber 60 = .ok (.goto 4, 3) := by decide +kernel
theorem dX8_readNumber_63 : decode cX8_readNumber 63 = .ok (.iconst 0, 1) := by decide +kernel
theorem dX8_readNumber_64 : decode cX8_readNumber 64 = .ok (.istore_n 3, 1) := by decide +kernel
theorem dX8_readNumber_65 : decode cX8_readNumber 65 = .ok (.aload_n 0, 1) := by decide +kernel
theorem dX8_readNumber_66 : decode cX8_readNumber 66 = .ok (.invokevirtual 87, 3) := by decide +kernel
theorem dX8_readNumber_69 : decode cX8_readNumber 69 = .ok (.iload_n 3, 1) := by decide +kernel
theorem dX8_readNumber_70 : decode cX8_readNumber 70 = .ok (.ireturn, 1) := by decide +kernel
theorem dX8_requiresStop_0 : decode cX8_requiresStop 0 = .ok (.aload_n 0, 1) := by decide +kernel
theorem dX8_requiresStop_1 : decode cX8_requiresStop 1 = .ok (.getfield 49, 3) := by decide +kernel
theorem dX8_requiresStop_4 : decode cX8_requiresStop 4 = .ok (.ifCond .ne 21, 3) := by decide +kernel
theorem dX8_requiresStop_7 : decode cX8_requiresStop 7 = .ok (.aload_n 0, 1) := by decide +kernel
theorem dX8_requiresStop_8 : decode cX8_requiresStop 8 = .ok (.aload_n 0, 1) := by decide +kernel
theorem dX8_requiresStop_9 : decode cX8_requiresStop 9 = .ok (.getfield 58, 3) := by decide +kernel
theorem dX8_requiresStop_12 : decode cX8_requiresStop 12 = .ok (.iconst 3, 1) := by decide +kernel
theorem dX8_requiresStop_13 : decode cX8_requiresStop 13 = .ok (.if_icmp .ne 7, 3) := by decide +kernel
theorem dX8_requiresStop_16 : decode cX8_requiresStop 16 = .ok (.iconst 1, 1) := by decide +kernel
theorem dX8_requiresStop_17 : decode cX8_requiresStop 17 = .ok (.goto 4, 3) := by decide +kernel
theorem dX8_requiresStop_20 : decode cX8_requiresStop 20 = .ok (.iconst 0, 1) := by decide +kernel
theorem dX8_requiresStop_21 : decode cX8_requiresStop 21 = .ok (.iconst 2, 1) := by decide +kernel
theorem dX8_requiresStop_22 : decode cX8_requiresStop 22 = .ok (.invokevirtual 83, 3) := by decide +kernel
theorem dX8_requiresStop_25 : decode cX8_requiresStop 25 = .ok (.return_, 1) := by decide +kernel
theorem dX8_readVolume_0 : decode cX8_readVolume 0 = .ok (.aload_n 0, 1) := by decide +kernel
theorem dX8_readVolume_1 : decode cX8_readVolume 1 = .ok (.aload_n 0, 1) := by decide +kernel
theorem dX8_readVolume_2 : decode cX8_readVolume 2 = .ok (.invokevirtual 90, 3) := by decide +kernel
theorem dX8_readVolume_5 : decode cX8_readVolume 5 = .ok (.ifCond .ne 7, 3) := by decide +kernel
theorem dX8_readVolume_8 : decode cX8_readVolume 8 = .ok (.iconst 1, 1) := by decide +kernel
theorem dX8_readVolume_9 : decode cX8_readVolume 9 = .ok (.goto 4, 3) := by decide +kernel
theorem dX8_readVolume_12 : decode cX8_readVolume 12 = .ok (.iconst 0, 1) := by decide +kernel
theorem dX8_readVolume_13 : decode cX8_readVolume 13 = .ok (.iconst 2, 1) := by decide +kernel
theorem dX8_readVolume_14 : decode cX8_readVolume 14 = .ok (.invokevirtual 83, 3) := by decide +kernel
theorem dX8_readVolume_17 : decode cX8_readVolume 17 = .ok (.aload_n 0, 1) := by decide +kernel
theorem dX8_readVolume_18 : decode cX8_readVolume 18 = .ok (.invokevirtual 87, 3) := by decide +kernel
theorem dX8_readVolume_21 : decode cX8_readVolume 21 = .ok (.aload_n 0, 1) := by decide +kernel
theorem dX8_readVolume_22 : decode cX8_readVolume 22 = .ok (.iconst 1, 1) := by decide +kernel
theorem dX8_readVolume_23 : decode cX8_readVolume 23 = .ok (.iconst 4, 1) := by decide +kernel
theorem dX8_readVolume_24 : decode cX8_readVolume 24 = .ok (.invokevirtual 93, 3) := by decide +kernel
theorem dX8_readVolume_27 : decode cX8_readVolume 27 = .ok (.istore_n 1, 1) := by decide +kernel
theorem dX8_readVolume_28 : decode cX8_readVolume 28 = .ok (.aload_n 0, 1) := by decide +kernel
theorem dX8_readVolume_29 : decode cX8_readVolume 29 = .ok (.iconst 1, 1) := by decide +kernel
theorem dX8_readVolume_30 : decode cX8_readVolume 30 = .ok (.bipush 8, 2) := by decide +kernel
theorem dX8_readVolume_32 : decode cX8_readVolume 32 = .ok (.invokevirtual 93, 3) := by decide +kernel
theorem dX8_readVolume_35 : decode cX8_readVolume 35 = .ok (.istore_n 2, 1) := by decide +kernel
theorem dX8_readVolume_36 : decode cX8_readVolume 36 = .ok (.aload_n 0, 1) := by decide +kernel
theorem dX8_readVolume_37 : decode cX8_readVolume 37 = .ok (.iconst 1, 1) := by decide +kernel
theorem dX8_readVolume_38 : decode cX8_readVolume 38 = .ok (.bipush 6, 2) := by decide +kernel
theorem dX8_readVolume_40 : decode cX8_readVolume 40 = .ok (.invokevirtual 93, 3) := by decide +kernel
theorem dX8_readVolume_43 : decode cX8_readVolume 43 = .ok (.istore_n 3, 1) := by decide +kernel
theorem dX8_readVolume_44 : decode cX8_readVolume 44 = .ok (.aload_n 0, 1) := by decide +kernel
theorem dX8_readVolume_45 : decode cX8_readVolume 45 = .ok (.iconst 0, 1) := by decide +kernel
theorem dX8_readVolume_46 : decode cX8_readVolume 46 = .ok (.iconst 3, 1) := by decide +kernel
theorem dX8_readVolume_47 : decode cX8_readVolume 47 = .ok (.invokevirtual 93, 3) := by decide +kernel
theorem dX8_readVolume_50 : decode cX8_readVolume 50 = .ok (.istore 4, 2) := by decide +kernel
theorem dX8_readVolume_52 : decode cX8_readVolume 52 = .ok (.aload_n 0, 1) := by decide +kernel
theorem dX8_readVolume_53 : decode cX8_readVolume 53 = .ok (.iconst 0, 1) := by decide +kernel
theorem dX8_readVolume_54 : decode cX8_readVolume 54 = .ok (.bipush 99, 2) := by decide +kernel
theorem dX8_readVolume_56 : decode cX8_readVolume 56 = .ok (.invokevirtual 93, 3) := by decide +kernel
theorem dX8_readVolume_59 : decode cX8_readVolume 59 = .ok (.istore 5, 2) := by decide +kernel
theorem dX8_readVolume_61 : decode cX8_readVolume 61 = .ok (.aload_n 0, 1) := by decide +kernel
theorem dX8_readVolume_62 : decode cX8_readVolume 62 = .ok (.iconst 1, 1) := by decide +kernel
theorem dX8_readVolume_63 : decode cX8_readVolume 63 = .ok (.bipush 8, 2) := by decide +kernel
theorem dX8_readVolume_65 : decode cX8_readVolume 65 = .ok (.invokevirtual 93, 3) := by decide +kernel
theorem dX8_readVolume_68 : decode cX8_readVolume 68 = .ok (.istore 6, 2) := by decide +kernel
theorem dX8_readVolume_70 : decode cX8_readVolume 70 = .ok (.aload_n 0, 1) := by decide +kernel
theorem dX8_readVolume_71 : decode cX8_readVolume 71 = .ok (.invokevirtual 97, 3) := by decide +kernel
theorem dX8_readVolume_74 : decode cX8_readVolume 74 = .ok (.aload_n 0, 1) := by decide +kernel
theorem dX8_readVolume_75 : decode cX8_readVolume 75 = .ok (.getfield 49, 3) := by decide +kernel
theorem dX8_readVolume_78 : decode cX8_readVolume 78 = .ok (.ifCond .ne 52, 3) := by decide +kernel
theorem dX8_readVolume_81 : decode cX8_readVolume 81 = .ok (.aload_n 0, 1) := by decide +kernel
theorem dX8_readVolume_82 : decode cX8_readVolume 82 = .ok (.getfield 7, 3) := by decide +kernel
theorem dX8_readVolume_85 : decode cX8_readVolume 85 = .ok (.iconst 0, 1) := by decide +kernel
theorem dX8_readVolume_86 : decode cX8_readVolume 86 = .ok (.iload_n 1, 1) := by decide +kernel
theorem dX8_readVolume_87 : decode cX8_readVolume 87 = .ok (.iastore, 1) := by decide +kernel
theorem dX8_readVolume_88 : decode cX8_readVolume 88 = .ok (.aload_n 0, 1) := by decide +kernel
theorem dX8_readVolume_89 : decode cX8_readVolume 89 = .ok (.getfield 7, 3) := by decide +kernel
theorem dX8_readVolume_92 : decode cX8_readVolume 92 = .ok (.iconst 1, 1) := by decide +kernel
theorem dX8_readVolume_93 : decode cX8_readVolume 93 = .ok (.iload_n 2, 1) := by decide +kernel
theorem dX8_readVolume_94 : decode cX8_readVolume 94 = .ok (.iastore, 1) := by decide +kernel
theorem dX8_readVolume_95 : decode cX8_readVolume 95 = .ok (.aload_n 0, 1) := by decide +kernel
theorem dX8_readVolume_96 : decode cX8_readVolume 96 = .ok (.getfield 7, 3) := by decide +kernel
theorem dX8_readVolume_99 : decode cX8_readVolume 99 = .ok (.iconst 2, 1) := by decide +kernel
theorem dX8_readVolume_100 : decode cX8_readVolume 100 = .ok (.iload_n 3, 1) := by decide +kernel
theorem dX8_readVolume_101 : decode cX8_readVolume 101 = .ok (.iastore, 1) := by decide +kernel
theorem dX8_readVolume_102 : decode cX8_readVolume 102 = .ok (.aload_n 0, 1) := by decide +kernel
theorem dX8_readVolume_103 : decode cX8_readVolume 103 = .ok (.getfield 7, 3) := by decide +kernel
theorem dX8_readVolume_106 : decode cX8_readVolume 106 = .ok (.iconst 3, 1) := by decide +kernel
theorem dX8_readVolume_107 : decode cX8_readVolume 107 = .ok (.iload 4, 2) := by decide +kernel
theorem dX8_readVolume_109 : decode cX8_readVolume 109 = .ok (.iastore, 1) := by decide +kernel
theorem dX8_readVolume_110 : decode cX8_readVolume 110 = .ok (.aload_n 0, 1) := by decide +kernel
theorem dX8_readVolume_111 : decode cX8_readVolume 111 = .ok (.getfield 7, 3) := by decide +kernel
theorem dX8_readVolume_114 : decode cX8_readVolume 114 = .ok (.iconst 4, 1) := by decide +kernel
theorem dX8_readVolume_115 : decode cX8_readVolume 115 = .ok (.iload 5, 2) := by decide +kernel
theorem dX8_readVolume_117 : decode cX8_readVolume 117 = .ok (.iastore, 1) := by decide +kernel
theorem dX8_readVolume_118 : decode cX8_readVolume 118 = .ok (.aload_n 0, 1) := by decide +kernel
theorem dX8_readVolume_119 : decode cX8_readVolume 119 = .ok (.getfield 7, 3) := by decide +kernel
theorem dX8_readVolume_122 : decode cX8_readVolume 122 = .ok (.iconst 5, 1) := by decide +kernel
theorem dX8_readVolume_123 : decode cX8_readVolume 123 = .ok (.iload 6, 2) := by decide +kernel
theorem dX8_readVolume_125 : decode cX8_readVolume 125 = .ok (.iastore, 1) := by decide +kernel
theorem dX8_readVolume_126 : decode cX8_readVolume 126 = .ok (.aload_n 0, 1) := by decide +kernel
theorem dX8_readVolume_127 : decode cX8_readVolume 127 = .ok (.invokevirtual 32, 3) := by decide +kernel
theorem dX8_readVolume_130 : decode cX8_readVolume 130 = .ok (.aload_n 0, 1) := by decide +kernel
theorem dX8_readVolume_131 : decode cX8_readVolume 131 = .ok (.invokevirtual 87, 3) := by decide +kernel
theorem dX8_readVolume_134 : decode cX8_readVolume 134 = .ok (.return_, 1) := by decide +kernel
theorem dX8_readLine_0 : decode cX8_readLine 0 = .ok (.aload_n 0, 1) := by decide +kernel
theorem dX8_readLine_1 : decode cX8_readLine 1 = .ok (.invokevirtual 90, 3) := by decide +kernel
theorem dX8_readLine_4 : decode cX8_readLine 4 = .ok (.istore_n 1, 1) := by decide +kernel
theorem dX8_readLine_5 : decode cX8_readLine 5 = .ok (.aload_n 0, 1) := by decide +kernel
theorem dX8_readLine_6 : decode cX8_readLine 6 = .ok (.iload_n 1, 1) := by decide +kernel
theorem dX8_readLine_7 : decode cX8_readLine 7 = .ok (.iconst 1, 1) := by decide +kernel
theorem dX8_readLine_8 : decode cX8_readLine 8 = .ok (.if_icmp .eq 8, 3) := by decide +kernel
theorem dX8_readLine_11 : decode cX8_readLine 11 = .ok (.iload_n 1, 1) := by decide +kernel
theorem dX8_readLine_12 : decode cX8_readLine 12 = .ok (.iconst 2, 1) := by decide +kernel
theorem dX8_readLine_13 : decode cX8_readLine 13 = .ok (.if_icmp .ne 7, 3) := by decide +kernel
theorem dX8_readLine_16 : decode cX8_readLine 16 = .ok (.iconst 1, 1) := by decide +kernel
theorem dX8_readLine_17 : decode cX8_readLine 17 = .ok (.goto 4, 3) := by decide +kernel
theorem dX8_readLine_20 : decode cX8_readLine 20 = .ok (.iconst 0, 1) := by decide +kernel
theorem dX8_readLine_21 : decode cX8_readLine 21 = .ok (.iconst 2, 1) := by decide +kernel
theorem dX8_readLine_22 : decode cX8_readLine 22 = .ok (.invokevirtual 83, 3) := by decide +kernel
theorem dX8_readLine_25 : decode cX8_readLine 25 = .ok (.aload_n 0, 1) := by decide +kernel
theorem dX8_readLine_26 : decode cX8_readLine 26 = .ok (.invokevirtual 87, 3) := by decide +kernel
theorem dX8_readLine_29 : decode cX8_readLine 29 = .ok (.aload_n 0, 1) := by decide +kernel
theorem dX8_readLine_30 : decode cX8_readLine 30 = .ok (.iconst 0, 1) := by decide +kernel
theorem dX8_readLine_31 : decode cX8_readLine 31 = .ok (.aload_n 0, 1) := by decide +kernel
theorem dX8_readLine_32 : decode cX8_readLine 32 = .ok (.getfield 100, 3) := by decide +kernel
theorem dX8_readLine_35 : decode cX8_readLine 35 = .ok (.invokevirtual 93, 3) := by decide +kernel
theorem dX8_readLine_38 : decode cX8_readLine 38 = .ok (.istore_n 2, 1) := by decide +kernel
theorem dX8_readLine_39 : decode cX8_readLine 39 = .ok (.aload_n 0, 1) := by decide +kernel
theorem dX8_readLine_40 : decode cX8_readLine 40 = .ok (.iconst 0, 1) := by decide +kernel
theorem dX8_readLine_41 : decode cX8_readLine 41 = .ok (.bipush 9, 2) := by decide +kernel
theorem dX8_readLine_43 : decode cX8_readLine 43 = .ok (.invokevirtual 93, 3) := by decide +kernel
theorem dX8_readLine_46 : decode cX8_readLine 46 = .ok (.istore_n 3, 1) := by decide +kernel
theorem dX8_readLine_47 : decode cX8_readLine 47 = .ok (.iload_n 1, 1) := by decide +kernel
theorem dX8_readLine_48 : decode cX8_readLine 48 = .ok (.iconst 2, 1) := by decide +kernel
theorem dX8_readLine_49 : decode cX8_readLine 49 = .ok (.if_icmp .ne 20, 3) := by decide +kernel
theorem dX8_readLine_52 : decode cX8_readLine 52 = .ok (.aload_n 0, 1) := by decide +kernel
theorem dX8_readLine_53 : decode cX8_readLine 53 = .ok (.getfield 49, 3) := by decide +kernel
theorem dX8_readLine_56 : decode cX8_readLine 56 = .ok (.ifCond .ne 13, 3) := by decide +kernel
theorem dX8_readLine_59 : decode cX8_readLine 59 = .ok (.aload_n 0, 1) := by decide +kernel
theorem dX8_readLine_60 : decode cX8_readLine 60 = .ok (.iconst 0, 1) := by decide +kernel
theorem dX8_readLine_61 : decode cX8_readLine 61 = .ok (.bipush 40, 2) := by decide +kernel
theorem dX8_readLine_63 : decode cX8_readLine 63 = .ok (.invokevirtual 93, 3) := by decide +kernel
theorem dX8_readLine_66 : decode cX8_readLine 66 = .ok (.goto 4, 3) := by decide +kernel
theorem dX8_readLine_69 : decode cX8_readLine 69 = .ok (.iconst 0, 1) := by decide +kernel
theorem dX8_readLine_70 : decode cX8_readLine 70 = .ok (.istore 4, 2) := by decide +kernel
theorem dX8_readLine_72 : decode cX8_readLine 72 = .ok (.aload_n 0, 1) := by decide +kernel
theorem dX8_readLine_73 : decode cX8_readLine 73 = .ok (.invokevirtual 97, 3) := by decide +kernel
theorem dX8_readLine_76 : decode cX8_readLine 76 = .ok (.aload_n 0, 1) := by decide +kernel
theorem dX8_readLine_77 : decode cX8_readLine 77 = .ok (.getfield 49, 3) := by decide +kernel
theorem dX8_readLine_80 : decode cX8_readLine 80 = .ok (.ifCond .ne 60, 3) := by decide +kernel
theorem dX8_readLine_83 : decode cX8_readLine 83 = .ok (.iload_n 2, 1) := by decide +kernel
theorem dX8_readLine_84 : decode cX8_readLine 84 = .ok (.ifCond .ne 7, 3) := by decide +kernel
theorem dX8_readLine_87 : decode cX8_readLine 87 = .ok (.iconst 0, 1) := by decide +kernel
theorem dX8_readLine_88 : decode cX8_readLine 88 = .ok (.goto 11, 3) := by decide +kernel
theorem dX8_readLine_91 : decode cX8_readLine 91 = .ok (.aload_n 0, 1) := by decide +kernel
theorem dX8_readLine_92 : decode cX8_readLine 92 = .ok (.getfield 29, 3) := by decide +kernel
theorem dX8_readLine_95 : decode cX8_readLine 95 = .ok (.iload_n 2, 1) := by decide +kernel
theorem dX8_readLine_96 : decode cX8_readLine 96 = .ok (.iconst 1, 1) := by decide +kernel
theorem dX8_readLine_97 : decode cX8_readLine 97 = .ok (.isub, 1) := by decide +kernel
theorem dX8_readLine_98 : decode cX8_readLine 98 = .ok (.iaload, 1) := by decide +kernel
theorem dX8_readLine_99 : decode cX8_readLine 99 = .ok (.istore 5, 2) := by decide +kernel
theorem dX8_readLine_101 : decode cX8_readLine 101 = .ok (.aload_n 0, 1) := by decide +kernel
theorem dX8_readLine_102 : decode cX8_readLine 102 = .ok (.aload_n 0, 1) := by decide +kernel
theorem dX8_readLine_103 : decode cX8_readLine 103 = .ok (.iload 5, 2) := by decide +kernel
theorem dX8_readLine_105 : decode cX8_readLine 105 = .ok (.iload_n 3, 1) := by decide +kernel
theorem dX8_readLine_106 : decode cX8_readLine 106 = .ok (.invokevirtual 103, 3) := by decide +kernel
theorem dX8_readLine_109 : decode cX8_readLine 109 = .ok (.bipush (-4), 2) := by decide +kernel
theorem dX8_readLine_111 : decode cX8_readLine 111 = .ok (.if_icmp .ne 7, 3) := by decide +kernel
theorem dX8_readLine_114 : decode cX8_readLine 114 = .ok (.iconst 1, 1) := by decide +kernel
theorem dX8_readLine_115 : decode cX8_readLine 115 = .ok (.goto 4, 3) := by decide +kernel
theorem dX8_readLine_118 : decode cX8_readLine 118 = .ok (.iconst 0, 1) := by decide +kernel
theorem dX8_readLine_119 : decode cX8_readLine 119 = .ok (.iconst 4, 1) := by decide +kernel
theorem dX8_readLine_120 : decode cX8_readLine 120 = .ok (.invokevirtual 83, 3) := by decide +kernel
theorem dX8_readLine_123 : decode cX8_readLine 123 = .ok (.aload_n 0, 1) := by decide +kernel
theorem dX8_readLine_124 : decode cX8_readLine 124 = .ok (.getfield 49, 3) := by decide +kernel
theorem dX8_readLine_127 : decode cX8_readLine 127 = .ok (.ifCond .ne 13, 3) := by decide +kernel
theorem dX8_readLine_130 : decode cX8_readLine 130 = .ok (.aload_n 0, 1) := by decide +kernel
theorem dX8_readLine_131 : decode cX8_readLine 131 = .ok (.iload 5, 2) := by decide +kernel
theorem dX8_readLine_133 : decode cX8_readLine 133 = .ok (.iload_n 3, 1) := by decide +kernel
theorem dX8_readLine_134 : decode cX8_readLine 134 = .ok (.iload_n 1, 1) := by decide +kernel
theorem dX8_readLine_135 : decode cX8_readLine 135 = .ok (.iload 4, 2) := by decide +kernel
theorem dX8_readLine_137 : decode cX8_readLine 137 = .ok (.invokevirtual 106, 3) := by decide +kernel
theorem dX8_readLine_140 : decode cX8_readLine 140 = .ok (.aload_n 0, 1) := by decide +kernel
theorem dX8_readLine_141 : decode cX8_readLine 141 = .ok (.invokevirtual 87, 3) := by decide +kernel
theorem dX8_readLine_144 : decode cX8_readLine 144 = .ok (.return_, 1) := by decide +kernel
theorem dX8_comes_0 : decode cX8_comes 0 = .ok (.aload_n 0, 1) := by decide +kernel
theorem dX8_comes_1 : decode cX8_comes 1 = .ok (.iload_n 1, 1) := by decide +kernel
theorem dX8_comes_2 : decode cX8_comes 2 = .ok (.iload_n 2, 1) := by decide +kernel
theorem dX8_comes_3 : decode cX8_comes 3 = .ok (.iload_n 3, 1) := by decide +kernel
theorem dX8_comes_4 : decode cX8_comes 4 = .ok (.invokevirtual 110, 3) := by decide +kernel
theorem dX8_comes_7 : decode cX8_comes 7 = .ok (.istore 5, 2) := by decide +kernel
theorem dX8_comes_9 : decode cX8_comes 9 = .ok (.aload_n 0, 1) := by decide +kernel
theorem dX8_comes_10 : decode cX8_comes 10 = .ok (.iload 5, 2) := by decide +kernel
theorem dX8_comes_12 : decode cX8_comes 12 = .ok (.ifCond .lt 7, 3) := by decide +kernel
theorem dX8_comes_15 : decode cX8_comes 15 = .ok (.iconst 1, 1) := by decide +kernel
theorem dX8_comes_16 : decode cX8_comes 16 = .ok (.goto 4, 3) := by decide +kernel
theorem dX8_comes_19 : decode cX8_comes 19 = .ok (.iconst 0, 1) := by decide +kernel
theorem dX8_comes_20 : decode cX8_comes 20 = .ok (.iconst 5, 1) := by decide +kernel
theorem dX8_comes_21 : decode cX8_comes 21 = .ok (.invokevirtual 83, 3) := by decide +kernel
theorem dX8_comes_24 : decode cX8_comes 24 = .ok (.aload_n 0, 1) := by decide +kernel
theorem dX8_comes_25 : decode cX8_comes 25 = .ok (.getfield 49, 3) := by decide +kernel
theorem dX8_comes_28 : decode cX8_comes 28 = .ok (.ifCond .ne 29, 3) := by decide +kernel
theorem dX8_comes_31 : decode cX8_comes 31 = .ok (.iload 4, 2) := by decide +kernel
theorem dX8_comes_33 : decode cX8_comes 33 = .ok (.ifCond .le 24, 3) := by decide +kernel
theorem dX8_comes_36 : decode cX8_comes 36 = .ok (.aload_n 0, 1) := by decide +kernel
theorem dX8_comes_37 : decode cX8_comes 37 = .ok (.aload_n 0, 1) := by decide +kernel
theorem dX8_comes_38 : decode cX8_comes 38 = .ok (.iload 5, 2) := by decide +kernel
theorem dX8_comes_40 : decode cX8_comes 40 = .ok (.iload 4, 2) := by decide +kernel
theorem dX8_comes_42 : decode cX8_comes 42 = .ok (.invokevirtual 114, 3) := by decide +kernel
theorem dX8_comes_45 : decode cX8_comes 45 = .ok (.ifCond .lt 7, 3) := by decide +kernel
theorem dX8_comes_48 : decode cX8_comes 48 = .ok (.iconst 1, 1) := by decide +kernel
theorem dX8_comes_49 : decode cX8_comes 49 = .ok (.goto 4, 3) := by decide +kernel
theorem dX8_comes_52 : decode cX8_comes 52 = .ok (.iconst 0, 1) := by decide +kernel
theorem dX8_comes_53 : decode cX8_comes 53 = .ok (.iconst 5, 1) := by decide +kernel
theorem dX8_comes_54 : decode cX8_comes 54 = .ok (.invokevirtual 83, 3) := by decide +kernel
theorem dX8_comes_57 : decode cX8_comes 57 = .ok (.aload_n 0, 1) := by decide +kernel
theorem dX8_comes_58 : decode cX8_comes 58 = .ok (.getfield 49, 3) := by decide +kernel
theorem dX8_comes_61 : decode cX8_comes 61 = .ok (.ifCond .ne 29, 3) := by decide +kernel
theorem dX8_comes_64 : decode cX8_comes 64 = .ok (.iload_n 3, 1) := by decide +kernel
theorem dX8_comes_65 : decode cX8_comes 65 = .ok (.iconst 1, 1) := by decide +kernel
theorem dX8_comes_66 : decode cX8_comes 66 = .ok (.if_icmp .ne 24, 3) := by decide +kernel
theorem dX8_comes_69 : decode cX8_comes 69 = .ok (.aload_n 0, 1) := by decide +kernel
theorem dX8_comes_70 : decode cX8_comes 70 = .ok (.getfield 29, 3) := by decide +kernel
theorem dX8_comes_73 : decode cX8_comes 73 = .ok (.aload_n 0, 1) := by decide +kernel
theorem dX8_comes_74 : decode cX8_comes 74 = .ok (.getfield 100, 3) := by decide +kernel
theorem dX8_comes_77 : decode cX8_comes 77 = .ok (.iload 5, 2) := by decide +kernel
theorem dX8_comes_79 : decode cX8_comes 79 = .ok (.iastore, 1) := by decide +kernel
theorem dX8_comes_80 : decode cX8_comes 80 = .ok (.aload_n 0, 1) := by decide +kernel
theorem dX8_comes_81 : decode cX8_comes 81 = .ok (.dup, 1) := by decide +kernel
theorem dX8_comes_82 : decode cX8_comes 82 = .ok (.getfield 100, 3) := by decide +kernel
theorem dX8_comes_85 : decode cX8_comes 85 = .ok (.iconst 1, 1) := by decide +kernel
theorem dX8_comes_86 : decode cX8_comes 86 = .ok (.iadd, 1) := by decide +kernel
theorem dX8_comes_87 : decode cX8_comes 87 = .ok (.putfield 100, 3) := by decide +kernel
theorem dX8_comes_90 : decode cX8_comes 90 = .ok (.return_, 1) := by decide +kernel
theorem dX8_text_0 : decode cX8_text 0 = .ok (.aload_n 0, 1) := by decide +kernel
theorem dX8_text_1 : decode cX8_text 1 = .ok (.iconst 0, 1) := by decide +kernel
theorem dX8_text_2 : decode cX8_text 2 = .ok (.putfield 49, 3) := by decide +kernel
theorem dX8_text_5 : decode cX8_text 5 = .ok (.aload_n 0, 1) := by decide +kernel
theorem dX8_text_6 : decode cX8_text 6 = .ok (.iconst 0, 1) := by decide +kernel
theorem dX8_text_7 : decode cX8_text 7 = .ok (.putfield 61, 3) := by decide +kernel
theorem dX8_text_10 : decode cX8_text 10 = .ok (.aload_n 0, 1) := by decide +kernel
theorem dX8_text_11 : decode cX8_text 11 = .ok (.iconst 0, 1) := by decide +kernel
theorem dX8_text_12 : decode cX8_text 12 = .ok (.putfield 100, 3) := by decide +kernel
theorem dX8_text_15 : decode cX8_text 15 = .ok (.aload_n 0, 1) := by decide +kernel
theorem dX8_text_16 : decode cX8_text 16 = .ok (.getfield 7, 3) := by decide +kernel
theorem dX8_text_19 : decode cX8_text 19 = .ok (.aload_n 0, 1) := by decide +kernel
theorem dX8_text_20 : decode cX8_text 20 = .ok (.getfield 16, 3) := by decide +kernel
theorem dX8_text_23 : decode cX8_text 23 = .ok (.invokestatic 117, 3) := by decide +kernel
theorem dX8_text_26 : decode cX8_text 26 = .ok (.aload_n 0, 1) := by decide +kernel
theorem dX8_text_27 : decode cX8_text 27 = .ok (.invokevirtual 87, 3) := by decide +kernel
theorem dX8_text_30 : decode cX8_text 30 = .ok (.aload_n 0, 1) := by decide +kernel
theorem dX8_text_31 : decode cX8_text 31 = .ok (.invokevirtual 121, 3) := by decide +kernel
theorem dX8_text_34 : decode cX8_text 34 = .ok (.aload_n 0, 1) := by decide +kernel
theorem dX8_text_35 : decode cX8_text 35 = .ok (.getfield 49, 3) := by decide +kernel
theorem dX8_text_38 : decode cX8_text 38 = .ok (.ifCond .ne 17, 3) := by decide +kernel
theorem dX8_text_41 : decode cX8_text 41 = .ok (.aload_n 0, 1) := by decide +kernel
theorem dX8_text_42 : decode cX8_text 42 = .ok (.getfield 58, 3) := by decide +kernel
theorem dX8_text_45 : decode cX8_text 45 = .ok (.ifCond .eq 10, 3) := by decide +kernel
theorem dX8_text_48 : decode cX8_text 48 = .ok (.aload_n 0, 1) := by decide +kernel
theorem dX8_text_49 : decode cX8_text 49 = .ok (.invokevirtual 124, 3) := by decide +kernel
theorem dX8_text_52 : decode cX8_text 52 = .ok (.goto (-18), 3) := by decide +kernel
theorem dX8_text_55 : decode cX8_text 55 = .ok (.aload_n 0, 1) := by decide +kernel
theorem dX8_text_56 : decode cX8_text 56 = .ok (.iconst 0, 1) := by decide +kernel
theorem dX8_text_57 : decode cX8_text 57 = .ok (.putfield 45, 3) := by decide +kernel
theorem dX8_text_60 : decode cX8_text 60 = .ok (.aload_n 0, 1) := by decide +kernel
theorem dX8_text_61 : decode cX8_text 61 = .ok (.getfield 49, 3) := by decide +kernel
theorem dX8_text_64 : decode cX8_text 64 = .ok (.ifCond .le 22, 3) := by decide +kernel
theorem dX8_text_67 : decode cX8_text 67 = .ok (.aload_n 0, 1) := by decide +kernel
theorem dX8_text_68 : decode cX8_text 68 = .ok (.getfield 16, 3) := by decide +kernel
theorem dX8_text_71 : decode cX8_text 71 = .ok (.aload_n 0, 1) := by decide +kernel
theorem dX8_text_72 : decode cX8_text 72 = .ok (.getfield 7, 3) := by decide +kernel
theorem dX8_text_75 : decode cX8_text 75 = .ok (.invokestatic 117, 3) := by decide +kernel
theorem dX8_text_78 : decode cX8_text 78 = .ok (.bipush (-10), 2) := by decide +kernel
theorem dX8_text_80 : decode cX8_text 80 = .ok (.aload_n 0, 1) := by decide +kernel
theorem dX8_text_81 : decode cX8_text 81 = .ok (.getfield 55, 3) := by decide +kernel
theorem dX8_text_84 : decode cX8_text 84 = .ok (.isub, 1) := by decide +kernel
theorem dX8_text_85 : decode cX8_text 85 = .ok (.ireturn, 1) := by decide +kernel
theorem dX8_text_86 : decode cX8_text 86 = .ok (.aload_n 0, 1) := by decide +kernel
theorem dX8_text_87 : decode cX8_text 87 = .ok (.getfield 7, 3) := by decide +kernel
theorem dX8_text_90 : decode cX8_text 90 = .ok (.bipush 6, 2) := by decide +kernel
theorem dX8_text_92 : decode cX8_text 92 = .ok (.iconst 0, 1) := by decide +kernel
theorem dX8_text_93 : decode cX8_text 93 = .ok (.iastore, 1) := by decide +kernel
theorem dX8_text_94 : decode cX8_text 94 = .ok (.aload_n 0, 1) := by decide +kernel
theorem dX8_text_95 : decode cX8_text 95 = .ok (.getfield 7, 3) := by decide +kernel
theorem dX8_text_98 : decode cX8_text 98 = .ok (.bipush 7, 2) := by decide +kernel
theorem dX8_text_100 : decode cX8_text 100 = .ok (.iconst 0, 1) := by decide +kernel
theorem dX8_text_101 : decode cX8_text 101 = .ok (.iastore, 1) := by decide +kernel
theorem dX8_text_102 : decode cX8_text 102 = .ok (.aload_n 0, 1) := by decide +kernel
theorem dX8_text_103 : decode cX8_text 103 = .ok (.invokevirtual 127, 3) := by decide +kernel
theorem dX8_text_106 : decode cX8_text 106 = .ok (.aload_n 0, 1) := by decide +kernel
theorem dX8_text_107 : decode cX8_text 107 = .ok (.invokevirtual 130, 3) := by decide +kernel
theorem dX8_text_110 : decode cX8_text 110 = .ok (.ireturn, 1) := by decide +kernel
theorem dX8_fault_0 : decode cX8_fault 0 = .ok (.aload_n 0, 1) := by decide +kernel
theorem dX8_fault_1 : decode cX8_fault 1 = .ok (.getfield 49, 3) := by decide +kernel
theorem dX8_fault_4 : decode cX8_fault 4 = .ok (.ireturn, 1) := by decide +kernel
theorem dX8_fragments_0 : decode cX8_fragments 0 = .ok (.iconst 4, 1) := by decide +kernel
theorem dX8_fragments_1 : decode cX8_fragments 1 = .ok (.aload_n 0, 1) := by decide +kernel
theorem dX8_fragments_2 : decode cX8_fragments 2 = .ok (.getfield 7, 3) := by decide +kernel
theorem dX8_fragments_5 : decode cX8_fragments 5 = .ok (.iconst 0, 1) := by decide +kernel
theorem dX8_fragments_6 : decode cX8_fragments 6 = .ok (.iaload, 1) := by decide +kernel
theorem dX8_fragments_7 : decode cX8_fragments 7 = .ok (.imul, 1) := by decide +kernel
theorem dX8_fragments_8 : decode cX8_fragments 8 = .ok (.aload_n 0, 1) := by decide +kernel
theorem dX8_fragments_9 : decode cX8_fragments 9 = .ok (.getfield 7, 3) := by decide +kernel
theorem dX8_fragments_12 : decode cX8_fragments 12 = .ok (.iconst 1, 1) := by decide +kernel
theorem dX8_fragments_13 : decode cX8_fragments 13 = .ok (.iaload, 1) := by decide +kernel
theorem dX8_fragments_14 : decode cX8_fragments 14 = .ok (.imul, 1) := by decide +kernel
theorem dX8_fragments_15 : decode cX8_fragments 15 = .ok (.ireturn, 1) := by decide +kernel
theorem dX8_isFree_0 : decode cX8_isFree 0 = .ok (.aload_n 0, 1) := by decide +kernel
theorem dX8_isFree_1 : decode cX8_isFree 1 = .ok (.getfield 7, 3) := by decide +kernel
theorem dX8_isFree_4 : decode cX8_isFree 4 = .ok (.bipush 8, 2) := by decide +kernel
theorem dX8_isFree_6 : decode cX8_isFree 6 = .ok (.iload_n 1, 1) := by decide +kernel
theorem dX8_isFree_7 : decode cX8_isFree 7 = .ok (.iadd, 1) := by decide +kernel
theorem dX8_isFree_8 : decode cX8_isFree 8 = .ok (.iaload, 1) := by decide +kernel
theorem dX8_isFree_9 : decode cX8_isFree 9 = .ok (.iconst 1, 1) := by decide +kernel
theorem dX8_isFree_10 : decode cX8_isFree 10 = .ok (.if_icmp .ne 7, 3) := by decide +kernel
theorem dX8_isFree_13 : decode cX8_isFree 13 = .ok (.iconst 1, 1) := by decide +kernel
theorem dX8_isFree_14 : decode cX8_isFree 14 = .ok (.goto 4, 3) := by decide +kernel
theorem dX8_isFree_17 : decode cX8_isFree 17 = .ok (.iconst 0, 1) := by decide +kernel
theorem dX8_isFree_18 : decode cX8_isFree 18 = .ok (.ireturn, 1) := by decide +kernel
theorem dX8_lets_0 : decode cX8_lets 0 = .ok (.aload_n 0, 1) := by decide +kernel
theorem dX8_lets_1 : decode cX8_lets 1 = .ok (.getfield 7, 3) := by decide +kernel
theorem dX8_lets_4 : decode cX8_lets 4 = .ok (.bipush 8, 2) := by decide +kernel
theorem dX8_lets_6 : decode cX8_lets 6 = .ok (.iload_n 1, 1) := by decide +kernel
theorem dX8_lets_7 : decode cX8_lets 7 = .ok (.iadd, 1) := by decide +kernel
theorem dX8_lets_8 : decode cX8_lets 8 = .ok (.iload_n 2, 1) := by decide +kernel
theorem dX8_lets_9 : decode cX8_lets 9 = .ok (.invokestatic 133, 3) := by decide +kernel
theorem dX8_lets_12 : decode cX8_lets 12 = .ok (.iastore, 1) := by decide +kernel
theorem dX8_lets_13 : decode cX8_lets 13 = .ok (.return_, 1) := by decide +kernel
theorem dX8_letsAll_0 : decode cX8_letsAll 0 = .ok (.iconst 0, 1) := by decide +kernel
theorem dX8_letsAll_1 : decode cX8_letsAll 1 = .ok (.istore 4, 2) := by decide +kernel
theorem dX8_letsAll_3 : decode cX8_letsAll 3 = .ok (.iload 4, 2) := by decide +kernel
theorem dX8_letsAll_5 : decode cX8_letsAll 5 = .ok (.iload_n 2, 1) := by decide +kernel
theorem dX8_letsAll_6 : decode cX8_letsAll 6 = .ok (.if_icmp .ge 18, 3) := by decide +kernel
theorem dX8_letsAll_9 : decode cX8_letsAll 9 = .ok (.aload_n 0, 1) := by decide +kernel
theorem dX8_letsAll_10 : decode cX8_letsAll 10 = .ok (.iload_n 1, 1) := by decide +kernel
theorem dX8_letsAll_11 : decode cX8_letsAll 11 = .ok (.iload 4, 2) := by decide +kernel
theorem dX8_letsAll_13 : decode cX8_letsAll 13 = .ok (.iadd, 1) := by decide +kernel
theorem dX8_letsAll_14 : decode cX8_letsAll 14 = .ok (.iload_n 3, 1) := by decide +kernel
theorem dX8_letsAll_15 : decode cX8_letsAll 15 = .ok (.invokevirtual 137, 3) := by decide +kernel
theorem dX8_letsAll_18 : decode cX8_letsAll 18 = .ok (.iinc 4 1, 3) := by decide +kernel
theorem dX8_letsAll_21 : decode cX8_letsAll 21 = .ok (.goto (-18), 3) := by decide +kernel
theorem dX8_letsAll_24 : decode cX8_letsAll 24 = .ok (.return_, 1) := by decide +kernel
theorem dX8_areFree_0 : decode cX8_areFree 0 = .ok (.iconst 1, 1) := by decide +kernel
theorem dX8_areFree_1 : decode cX8_areFree 1 = .ok (.istore_n 3, 1) := by decide +kernel
theorem dX8_areFree_2 : decode cX8_areFree 2 = .ok (.iconst 0, 1) := by decide +kernel
theorem dX8_areFree_3 : decode cX8_areFree 3 = .ok (.istore 4, 2) := by decide +kernel
theorem dX8_areFree_5 : decode cX8_areFree 5 = .ok (.iload 4, 2) := by decide +kernel
theorem dX8_areFree_7 : decode cX8_areFree 7 = .ok (.iload_n 2, 1) := by decide +kernel
theorem dX8_areFree_8 : decode cX8_areFree 8 = .ok (.if_icmp .ge 30, 3) := by decide +kernel
theorem dX8_areFree_11 : decode cX8_areFree 11 = .ok (.iload_n 3, 1) := by decide +kernel
theorem dX8_areFree_12 : decode cX8_areFree 12 = .ok (.ifCond .eq 18, 3) := by decide +kernel
theorem dX8_areFree_15 : decode cX8_areFree 15 = .ok (.aload_n 0, 1) := by decide +kernel
theorem dX8_areFree_16 : decode cX8_areFree 16 = .ok (.iload_n 1, 1) := by decide +kernel
theorem dX8_areFree_17 : decode cX8_areFree 17 = .ok (.iload 4, 2) := by decide +kernel
theorem dX8_areFree_19 : decode cX8_areFree 19 = .ok (.iadd, 1) := by decide +kernel
theorem dX8_areFree_20 : decode cX8_areFree 20 = .ok (.invokevirtual 141, 3) := by decide +kernel
theorem dX8_areFree_23 : decode cX8_areFree 23 = .ok (.ifCond .eq 7, 3) := by decide +kernel
theorem dX8_areFree_26 : decode cX8_areFree 26 = .ok (.iconst 1, 1) := by decide +kernel
theorem dX8_areFree_27 : decode cX8_areFree 27 = .ok (.goto 4, 3) := by decide +kernel
theorem dX8_areFree_30 : decode cX8_areFree 30 = .ok (.iconst 0, 1) := by decide +kernel
theorem dX8_areFree_31 : decode cX8_areFree 31 = .ok (.istore_n 3, 1) := by decide +kernel
theorem dX8_areFree_32 : decode cX8_areFree 32 = .ok (.iinc 4 1, 3) := by decide +kernel
theorem dX8_areFree_35 : decode cX8_areFree 35 = .ok (.goto (-30), 3) := by decide +kernel
theorem dX8_areFree_38 : decode cX8_areFree 38 = .ok (.iload_n 3, 1) := by decide +kernel
theorem dX8_areFree_39 : decode cX8_areFree 39 = .ok (.ireturn, 1) := by decide +kernel
theorem dX8_isFreeBlock_0 : decode cX8_isFreeBlock 0 = .ok (.aload_n 0, 1) := by decide +kernel
theorem dX8_isFreeBlock_1 : decode cX8_isFreeBlock 1 = .ok (.iconst 4, 1) := by decide +kernel
theorem dX8_isFreeBlock_2 : decode cX8_isFreeBlock 2 = .ok (.iload_n 1, 1) := by decide +kernel
theorem dX8_isFreeBlock_3 : decode cX8_isFreeBlock 3 = .ok (.imul, 1) := by decide +kernel
theorem dX8_isFreeBlock_4 : decode cX8_isFreeBlock 4 = .ok (.iconst 4, 1) := by decide +kernel
theorem dX8_isFreeBlock_5 : decode cX8_isFreeBlock 5 = .ok (.invokevirtual 145, 3) := by decide +kernel
theorem dX8_isFreeBlock_8 : decode cX8_isFreeBlock 8 = .ok (.ireturn, 1) := by decide +kernel
theorem dX8_freeBlocks_0 : decode cX8_freeBlocks 0 = .ok (.iconst 0, 1) := by decide +kernel
theorem dX8_freeBlocks_1 : decode cX8_freeBlocks 1 = .ok (.istore_n 2, 1) := by decide +kernel
theorem dX8_freeBlocks_2 : decode cX8_freeBlocks 2 = .ok (.iconst 0, 1) := by decide +kernel
theorem dX8_freeBlocks_3 : decode cX8_freeBlocks 3 = .ok (.istore_n 3, 1) := by decide +kernel
theorem dX8_freeBlocks_4 : decode cX8_freeBlocks 4 = .ok (.iload_n 3, 1) := by decide +kernel
theorem dX8_freeBlocks_5 : decode cX8_freeBlocks 5 = .ok (.aload_n 0, 1) := by decide +kernel
theorem dX8_freeBlocks_6 : decode cX8_freeBlocks 6 = .ok (.getfield 7, 3) := by decide +kernel
theorem dX8_freeBlocks_9 : decode cX8_freeBlocks 9 = .ok (.iconst 1, 1) := by decide +kernel
theorem dX8_freeBlocks_10 : decode cX8_freeBlocks 10 = .ok (.iaload, 1) := by decide +kernel
theorem dX8_freeBlocks_11 : decode cX8_freeBlocks 11 = .ok (.if_icmp .ge 29, 3) := by decide +kernel
theorem dX8_freeBlocks_14 : decode cX8_freeBlocks 14 = .ok (.iload_n 2, 1) := by decide +kernel
theorem dX8_freeBlocks_15 : decode cX8_freeBlocks 15 = .ok (.aload_n 0, 1) := by decide +kernel
theorem dX8_freeBlocks_16 : decode cX8_freeBlocks 16 = .ok (.aload_n 0, 1) := by decide +kernel
theorem dX8_freeBlocks_17 : decode cX8_freeBlocks 17 = .ok (.getfield 7, 3) := by decide +kernel
theorem dX8_freeBlocks_20 : decode cX8_freeBlocks 20 = .ok (.iconst 1, 1) := by decide +kernel
theorem dX8_freeBlocks_21 : decode cX8_freeBlocks 21 = .ok (.iaload, 1) := by decide +kernel
theorem dX8_freeBlocks_22 : decode cX8_freeBlocks 22 = .ok (.iload_n 1, 1) := by decide +kernel
theorem dX8_freeBlocks_23 : decode cX8_freeBlocks 23 = .ok (.imul, 1) := by decide +kernel
theorem dX8_freeBlocks_24 : decode cX8_freeBlocks 24 = .ok (.iload_n 3, 1) := by decide +kernel
theorem dX8_freeBlocks_25 : decode cX8_freeBlocks 25 = .ok (.iadd, 1) := by decide +kernel
theorem dX8_freeBlocks_26 : decode cX8_freeBlocks 26 = .ok (.invokevirtual 149, 3) := by decide +kernel
theorem dX8_freeBlocks_29 : decode cX8_freeBlocks 29 = .ok (.invokestatic 133, 3) := by decide +kernel
theorem dX8_freeBlocks_32 : decode cX8_freeBlocks 32 = .ok (.iadd, 1) := by decide +kernel
theorem dX8_freeBlocks_33 : decode cX8_freeBlocks 33 = .ok (.istore_n 2, 1) := by decide +kernel
theorem dX8_freeBlocks_34 : decode cX8_freeBlocks 34 = .ok (.iinc 3 1, 3) := by decide +kernel
theorem dX8_freeBlocks_37 : decode cX8_freeBlocks 37 = .ok (.goto (-33), 3) := by decide +kernel
theorem dX8_freeBlocks_40 : decode cX8_freeBlocks 40 = .ok (.iload_n 2, 1) := by decide +kernel
theorem dX8_freeBlocks_41 : decode cX8_freeBlocks 41 = .ok (.ireturn, 1) := by decide +kernel
theorem dX8_allFreeBlocks_0 : decode cX8_allFreeBlocks 0 = .ok (.iconst 0, 1) := by decide +kernel
theorem dX8_allFreeBlocks_1 : decode cX8_allFreeBlocks 1 = .ok (.istore_n 1, 1) := by decide +kernel
theorem dX8_allFreeBlocks_2 : decode cX8_allFreeBlocks 2 = .ok (.iconst 0, 1) := by decide +kernel
theorem dX8_allFreeBlocks_3 : decode cX8_allFreeBlocks 3 = .ok (.istore_n 2, 1) := by decide +kernel
theorem dX8_allFreeBlocks_4 : decode cX8_allFreeBlocks 4 = .ok (.iload_n 2, 1) := by decide +kernel
theorem dX8_allFreeBlocks_5 : decode cX8_allFreeBlocks 5 = .ok (.aload_n 0, 1) := by decide +kernel
theorem dX8_allFreeBlocks_6 : decode cX8_allFreeBlocks 6 = .ok (.getfield 7, 3) := by decide +kernel
theorem dX8_allFreeBlocks_9 : decode cX8_allFreeBlocks 9 = .ok (.iconst 0, 1) := by decide +kernel
theorem dX8_allFreeBlocks_10 : decode cX8_allFreeBlocks 10 = .ok (.iaload, 1) := by decide +kernel
theorem dX8_allFreeBlocks_11 : decode cX8_allFreeBlocks 11 = .ok (.if_icmp .ge 17, 3) := by decide +kernel
theorem dX8_allFreeBlocks_14 : decode cX8_allFreeBlocks 14 = .ok (.iload_n 1, 1) := by decide +kernel
theorem dX8_allFreeBlocks_15 : decode cX8_allFreeBlocks 15 = .ok (.aload_n 0, 1) := by decide +kernel
theorem dX8_allFreeBlocks_16 : decode cX8_allFreeBlocks 16 = .ok (.iload_n 2, 1) := by decide +kernel
theorem dX8_allFreeBlocks_17 : decode cX8_allFreeBlocks 17 = .ok (.invokevirtual 152, 3) := by decide +kernel
theorem dX8_allFreeBlocks_20 : decode cX8_allFreeBlocks 20 = .ok (.iadd, 1) := by decide +kernel
theorem dX8_allFreeBlocks_21 : decode cX8_allFreeBlocks 21 = .ok (.istore_n 1, 1) := by decide +kernel
theorem dX8_allFreeBlocks_22 : decode cX8_allFreeBlocks 22 = .ok (.iinc 2 1, 3) := by decide +kernel
theorem dX8_allFreeBlocks_25 : decode cX8_allFreeBlocks 25 = .ok (.goto (-21), 3) := by decide +kernel
theorem dX8_allFreeBlocks_28 : decode cX8_allFreeBlocks 28 = .ok (.iload_n 1, 1) := by decide +kernel
theorem dX8_allFreeBlocks_29 : decode cX8_allFreeBlocks 29 = .ok (.ireturn, 1) := by decide +kernel
theorem dX8_freeIn_0 : decode cX8_freeIn 0 = .ok (.iconst 0, 1) := by decide +kernel
theorem dX8_freeIn_1 : decode cX8_freeIn 1 = .ok (.istore_n 3, 1) := by decide +kernel
theorem dX8_freeIn_2 : decode cX8_freeIn 2 = .ok (.iconst 0, 1) := by decide +kernel
theorem dX8_freeIn_3 : decode cX8_freeIn 3 = .ok (.istore 4, 2) := by decide +kernel
theorem dX8_freeIn_5 : decode cX8_freeIn 5 = .ok (.iload 4, 2) := by decide +kernel
theorem dX8_freeIn_7 : decode cX8_freeIn 7 = .ok (.iload_n 2, 1) := by decide +kernel
theorem dX8_freeIn_8 : decode cX8_freeIn 8 = .ok (.if_icmp .ge 23, 3) := by decide +kernel
theorem dX8_freeIn_11 : decode cX8_freeIn 11 = .ok (.iload_n 3, 1) := by decide +kernel
theorem dX8_freeIn_12 : decode cX8_freeIn 12 = .ok (.aload_n 0, 1) := by decide +kernel
theorem dX8_freeIn_13 : decode cX8_freeIn 13 = .ok (.iload_n 1, 1) := by decide +kernel
theorem dX8_freeIn_14 : decode cX8_freeIn 14 = .ok (.iload 4, 2) := by decide +kernel
theorem dX8_freeIn_16 : decode cX8_freeIn 16 = .ok (.iadd, 1) := by decide +kernel
theorem dX8_freeIn_17 : decode cX8_freeIn 17 = .ok (.invokevirtual 141, 3) := by decide +kernel
theorem dX8_freeIn_20 : decode cX8_freeIn 20 = .ok (.invokestatic 133, 3) := by decide +kernel
theorem dX8_freeIn_23 : decode cX8_freeIn 23 = .ok (.iadd, 1) := by decide +kernel
theorem dX8_freeIn_24 : decode cX8_freeIn 24 = .ok (.istore_n 3, 1) := by decide +kernel
theorem dX8_freeIn_25 : decode cX8_freeIn 25 = .ok (.iinc 4 1, 3) := by decide +kernel
theorem dX8_freeIn_28 : decode cX8_freeIn 28 = .ok (.goto (-23), 3) := by decide +kernel
theorem dX8_freeIn_31 : decode cX8_freeIn 31 = .ok (.iload_n 3, 1) := by decide +kernel
theorem dX8_freeIn_32 : decode cX8_freeIn 32 = .ok (.ireturn, 1) := by decide +kernel
theorem dX8_room_0 : decode cX8_room 0 = .ok (.aload_n 0, 1) := by decide +kernel
theorem dX8_room_1 : decode cX8_room 1 = .ok (.iconst 0, 1) := by decide +kernel
theorem dX8_room_2 : decode cX8_room 2 = .ok (.aload_n 0, 1) := by decide +kernel
theorem dX8_room_3 : decode cX8_room 3 = .ok (.invokevirtual 35, 3) := by decide +kernel
theorem dX8_room_6 : decode cX8_room 6 = .ok (.invokevirtual 155, 3) := by decide +kernel
theorem dX8_room_9 : decode cX8_room 9 = .ok (.ireturn, 1) := by decide +kernel
theorem dX8_runAt_0 : decode cX8_runAt 0 = .ok (.iload_n 1, 1) := by decide +kernel
theorem dX8_runAt_1 : decode cX8_runAt 1 = .ok (.iconst 4, 1) := by decide +kernel
theorem dX8_runAt_2 : decode cX8_runAt 2 = .ok (.idiv, 1) := by decide +kernel
theorem dX8_runAt_3 : decode cX8_runAt 3 = .ok (.iconst 4, 1) := by decide +kernel
theorem dX8_runAt_4 : decode cX8_runAt 4 = .ok (.imul, 1) := by decide +kernel
theorem dX8_runAt_5 : decode cX8_runAt 5 = .ok (.istore_n 2, 1) := by decide +kernel
theorem dX8_runAt_6 : decode cX8_runAt 6 = .ok (.aload_n 0, 1) := by decide +kernel
theorem dX8_runAt_7 : decode cX8_runAt 7 = .ok (.iload_n 1, 1) := by decide +kernel
theorem dX8_runAt_8 : decode cX8_runAt 8 = .ok (.invokevirtual 141, 3) := by decide +kernel
theorem dX8_runAt_11 : decode cX8_runAt 11 = .ok (.ifCond .eq 28, 3) := by decide +kernel
theorem dX8_runAt_14 : decode cX8_runAt 14 = .ok (.iload_n 1, 1) := by decide +kernel
theorem dX8_runAt_15 : decode cX8_runAt 15 = .ok (.iload_n 2, 1) := by decide +kernel
theorem dX8_runAt_16 : decode cX8_runAt 16 = .ok (.if_icmp .le 13, 3) := by decide +kernel
theorem dX8_runAt_19 : decode cX8_runAt 19 = .ok (.aload_n 0, 1) := by decide +kernel
theorem dX8_runAt_20 : decode cX8_runAt 20 = .ok (.iload_n 1, 1) := by decide +kernel
theorem dX8_runAt_21 : decode cX8_runAt 21 = .ok (.iconst 1, 1) := by decide +kernel
theorem dX8_runAt_22 : decode cX8_runAt 22 = .ok (.isub, 1) := by decide +kernel
theorem dX8_runAt_23 : decode cX8_runAt 23 = .ok (.invokevirtual 141, 3) := by decide +kernel
theorem dX8_runAt_26 : decode cX8_runAt 26 = .ok (.ifCond .ne 13, 3) := by decide +kernel
theorem dX8_runAt_29 : decode cX8_runAt 29 = .ok (.aload_n 0, 1) := by decide +kernel
theorem dX8_runAt_30 : decode cX8_runAt 30 = .ok (.iload_n 1, 1) := by decide +kernel
theorem dX8_runAt_31 : decode cX8_runAt 31 = .ok (.iconst 4, 1) := by decide +kernel
theorem dX8_runAt_32 : decode cX8_runAt 32 = .ok (.idiv, 1) := by decide +kernel
theorem dX8_runAt_33 : decode cX8_runAt 33 = .ok (.invokevirtual 149, 3) := by decide +kernel
theorem dX8_runAt_36 : decode cX8_runAt 36 = .ok (.ifCond .eq 5, 3) := by decide +kernel
theorem dX8_runAt_39 : decode cX8_runAt 39 = .ok (.iconst 0, 1) := by decide +kernel
theorem dX8_runAt_40 : decode cX8_runAt 40 = .ok (.ireturn, 1) := by decide +kernel
theorem dX8_runAt_41 : decode cX8_runAt 41 = .ok (.iconst 1, 1) := by decide +kernel
theorem dX8_runAt_42 : decode cX8_runAt 42 = .ok (.istore_n 3, 1) := by decide +kernel
theorem dX8_runAt_43 : decode cX8_runAt 43 = .ok (.iload_n 1, 1) := by decide +kernel
theorem dX8_runAt_44 : decode cX8_runAt 44 = .ok (.iload_n 3, 1) := by decide +kernel
theorem dX8_runAt_45 : decode cX8_runAt 45 = .ok (.iadd, 1) := by decide +kernel
theorem dX8_runAt_46 : decode cX8_runAt 46 = .ok (.iload_n 2, 1) := by decide +kernel
theorem dX8_runAt_47 : decode cX8_runAt 47 = .ok (.iconst 4, 1) := by decide +kernel
theorem dX8_runAt_48 : decode cX8_runAt 48 = .ok (.iadd, 1) := by decide +kernel
theorem dX8_runAt_49 : decode cX8_runAt 49 = .ok (.if_icmp .ge 19, 3) := by decide +kernel
theorem dX8_runAt_52 : decode cX8_runAt 52 = .ok (.aload_n 0, 1) := by decide +kernel
theorem dX8_runAt_53 : decode cX8_runAt 53 = .ok (.iload_n 1, 1) := by decide +kernel
theorem dX8_runAt_54 : decode cX8_runAt 54 = .ok (.iload_n 3, 1) := by decide +kernel
theorem dX8_runAt_55 : decode cX8_runAt 55 = .ok (.iadd, 1) := by decide +kernel
theorem dX8_runAt_56 : decode cX8_runAt 56 = .ok (.invokevirtual 141, 3) := by decide +kernel
theorem dX8_runAt_59 : decode cX8_runAt 59 = .ok (.ifCond .eq 9, 3) := by decide +kernel
theorem dX8_runAt_62 : decode cX8_runAt 62 = .ok (.iinc 3 1, 3) := by decide +kernel
theorem dX8_runAt_65 : decode cX8_runAt 65 = .ok (.goto (-22), 3) := by decide +kernel
theorem dX8_runAt_68 : decode cX8_runAt 68 = .ok (.iload_n 3, 1) := by decide +kernel
theorem dX8_runAt_69 : decode cX8_runAt 69 = .ok (.ireturn, 1) := by decide +kernel
theorem dX8_runs_0 : decode cX8_runs 0 = .ok (.iconst 0, 1) := by decide +kernel
theorem dX8_runs_1 : decode cX8_runs 1 = .ok (.istore_n 3, 1) := by decide +kernel
theorem dX8_runs_2 : decode cX8_runs 2 = .ok (.iconst 4, 1) := by decide +kernel
theorem dX8_runs_3 : decode cX8_runs 3 = .ok (.aload_n 0, 1) := by decide +kernel
theorem dX8_runs_4 : decode cX8_runs 4 = .ok (.getfield 7, 3) := by decide +kernel
theorem dX8_runs_7 : decode cX8_runs 7 = .ok (.iconst 1, 1) := by decide +kernel
theorem dX8_runs_8 : decode cX8_runs 8 = .ok (.iaload, 1) := by decide +kernel
theorem dX8_runs_9 : decode cX8_runs 9 = .ok (.imul, 1) := by decide +kernel
theorem dX8_runs_10 : decode cX8_runs 10 = .ok (.iload_n 1, 1) := by decide +kernel
theorem dX8_runs_11 : decode cX8_runs 11 = .ok (.imul, 1) := by decide +kernel
theorem dX8_runs_12 : decode cX8_runs 12 = .ok (.istore 4, 2) := by decide +kernel
theorem dX8_runs_14 : decode cX8_runs 14 = .ok (.iload 4, 2) := by decide +kernel
theorem dX8_runs_16 : decode cX8_runs 16 = .ok (.iconst 4, 1) := by decide +kernel
theorem dX8_runs_17 : decode cX8_runs 17 = .ok (.aload_n 0, 1) := by decide +kernel
theorem dX8_runs_18 : decode cX8_runs 18 = .ok (.getfield 7, 3) := by decide +kernel
theorem dX8_runs_21 : decode cX8_runs 21 = .ok (.iconst 1, 1) := by decide +kernel
theorem dX8_runs_22 : decode cX8_runs 22 = .ok (.iaload, 1) := by decide +kernel
theorem dX8_runs_23 : decode cX8_runs 23 = .ok (.imul, 1) := by decide +kernel
theorem dX8_runs_24 : decode cX8_runs 24 = .ok (.iload_n 1, 1) := by decide +kernel
theorem dX8_runs_25 : decode cX8_runs 25 = .ok (.iconst 1, 1) := by decide +kernel
theorem dX8_runs_26 : decode cX8_runs 26 = .ok (.iadd, 1) := by decide +kernel
theorem dX8_runs_27 : decode cX8_runs 27 = .ok (.imul, 1) := by decide +kernel
theorem dX8_runs_28 : decode cX8_runs 28 = .ok (.if_icmp .ge 30, 3) := by decide +kernel
theorem dX8_runs_31 : decode cX8_runs 31 = .ok (.iload_n 3, 1) := by decide +kernel
theorem dX8_runs_32 : decode cX8_runs 32 = .ok (.aload_n 0, 1) := by decide +kernel
theorem dX8_runs_33 : decode cX8_runs 33 = .ok (.iload 4, 2) := by decide +kernel
theorem dX8_runs_35 : decode cX8_runs 35 = .ok (.invokevirtual 158, 3) := by decide +kernel
theorem dX8_runs_38 : decode cX8_runs 38 = .ok (.iload_n 2, 1) := by decide +kernel
theorem dX8_runs_39 : decode cX8_runs 39 = .ok (.if_icmp .ne 7, 3) := by decide +kernel
theorem dX8_runs_42 : decode cX8_runs 42 = .ok (.iconst 1, 1) := by decide +kernel
theorem dX8_runs_43 : decode cX8_runs 43 = .ok (.goto 4, 3) := by decide +kernel
theorem dX8_runs_46 : decode cX8_runs 46 = .ok (.iconst 0, 1) := by decide +kernel
theorem dX8_runs_47 : decode cX8_runs 47 = .ok (.invokestatic 133, 3) := by decide +kernel
theorem dX8_runs_50 : decode cX8_runs 50 = .ok (.iadd, 1) := by decide +kernel
theorem dX8_runs_51 : decode cX8_runs 51 = .ok (.istore_n 3, 1) := by decide +kernel
theorem dX8_runs_52 : decode cX8_runs 52 = .ok (.iinc 4 1, 3) := by decide +kernel
theorem dX8_runs_55 : decode cX8_runs 55 = .ok (.goto (-41), 3) := by decide +kernel
theorem dX8_runs_58 : decode cX8_runs 58 = .ok (.iload_n 3, 1) := by decide +kernel
theorem dX8_runs_59 : decode cX8_runs 59 = .ok (.ireturn, 1) := by decide +kernel
theorem dX8_behind_0 : decode cX8_behind 0 = .ok (.iload_n 1, 1) := by decide +kernel
theorem dX8_behind_1 : decode cX8_behind 1 = .ok (.iload_n 2, 1) := by decide +kernel
theorem dX8_behind_2 : decode cX8_behind 2 = .ok (.iadd, 1) := by decide +kernel
theorem dX8_behind_3 : decode cX8_behind 3 = .ok (.aload_n 0, 1) := by decide +kernel
theorem dX8_behind_4 : decode cX8_behind 4 = .ok (.getfield 7, 3) := by decide +kernel
theorem dX8_behind_7 : decode cX8_behind 7 = .ok (.iconst 0, 1) := by decide +kernel
theorem dX8_behind_8 : decode cX8_behind 8 = .ok (.iaload, 1) := by decide +kernel
theorem dX8_behind_9 : decode cX8_behind 9 = .ok (.irem, 1) := by decide +kernel
theorem dX8_behind_10 : decode cX8_behind 10 = .ok (.ireturn, 1) := by decide +kernel
theorem dX8_blockNear_0 : decode cX8_blockNear 0 = .ok (.iconst 0, 1) := by decide +kernel
theorem dX8_blockNear_1 : decode cX8_blockNear 1 = .ok (.istore_n 3, 1) := by decide +kernel
theorem dX8_blockNear_2 : decode cX8_blockNear 2 = .ok (.iload_n 3, 1) := by decide +kernel
theorem dX8_blockNear_3 : decode cX8_blockNear 3 = .ok (.aload_n 0, 1) := by decide +kernel
theorem dX8_blockNear_4 : decode cX8_blockNear 4 = .ok (.getfield 7, 3) := by decide +kernel
theorem dX8_blockNear_7 : decode cX8_blockNear 7 = .ok (.iconst 0, 1) := by decide +kernel
theorem dX8_blockNear_8 : decode cX8_blockNear 8 = .ok (.iaload, 1) := by decide +kernel
theorem dX8_blockNear_9 : decode cX8_blockNear 9 = .ok (.if_icmp .ge 77, 3) := by decide +kernel
theorem dX8_blockNear_12 : decode cX8_blockNear 12 = .ok (.iconst 0, 1) := by decide +kernel
theorem dX8_blockNear_13 : decode cX8_blockNear 13 = .ok (.istore 4, 2) := by decide +kernel
theorem dX8_blockNear_15 : decode cX8_blockNear 15 = .ok (.iload 4, 2) := by decide +kernel
theorem dX8_blockNear_17 : decode cX8_blockNear 17 = .ok (.aload_n 0, 1) := by decide +kernel
theorem dX8_blockNear_18 : decode cX8_blockNear 18 = .ok (.getfield 7, 3) := by decide +kernel
theorem dX8_blockNear_21 : decode cX8_blockNear 21 = .ok (.iconst 1, 1) := by decide +kernel
theorem dX8_blockNear_22 : decode cX8_blockNear 22 = .ok (.iaload, 1) := by decide +kernel
theorem dX8_blockNear_23 : decode cX8_blockNear 23 = .ok (.if_icmp .ge 57, 3) := by decide +kernel
theorem dX8_blockNear_26 : decode cX8_blockNear 26 = .ok (.aload_n 0, 1) := by decide +kernel
theorem dX8_blockNear_27 : decode cX8_blockNear 27 = .ok (.getfield 7, 3) := by decide +kernel
theorem dX8_blockNear_30 : decode cX8_blockNear 30 = .ok (.iconst 1, 1) := by decide +kernel
theorem dX8_blockNear_31 : decode cX8_blockNear 31 = .ok (.iaload, 1) := by decide +kernel
theorem dX8_blockNear_32 : decode cX8_blockNear 32 = .ok (.aload_n 0, 1) := by decide +kernel
theorem dX8_blockNear_33 : decode cX8_blockNear 33 = .ok (.iload_n 1, 1) := by decide +kernel
theorem dX8_blockNear_34 : decode cX8_blockNear 34 = .ok (.iload_n 3, 1) := by decide +kernel
theorem dX8_blockNear_35 : decode cX8_blockNear 35 = .ok (.invokevirtual 161, 3) := by decide +kernel
theorem dX8_blockNear_38 : decode cX8_blockNear 38 = .ok (.imul, 1) := by decide +kernel
theorem dX8_blockNear_39 : decode cX8_blockNear 39 = .ok (.iload_n 3, 1) := by decide +kernel
theorem dX8_blockNear_40 : decode cX8_blockNear 40 = .ok (.ifCond .ne 17, 3) := by decide +kernel
theorem dX8_blockNear_43 : decode cX8_blockNear 43 = .ok (.iload_n 2, 1) := by decide +kernel
theorem dX8_blockNear_44 : decode cX8_blockNear 44 = .ok (.iload 4, 2) := by decide +kernel
theorem dX8_blockNear_46 : decode cX8_blockNear 46 = .ok (.iadd, 1) := by decide +kernel
theorem dX8_blockNear_47 : decode cX8_blockNear 47 = .ok (.aload_n 0, 1) := by decide +kernel
theorem dX8_blockNear_48 : decode cX8_blockNear 48 = .ok (.getfield 7, 3) := by decide +kernel
theorem dX8_blockNear_51 : decode cX8_blockNear 51 = .ok (.iconst 1, 1) := by decide +kernel
theorem dX8_blockNear_52 : decode cX8_blockNear 52 = .ok (.iaload, 1) := by decide +kernel
theorem dX8_blockNear_53 : decode cX8_blockNear 53 = .ok (.irem, 1) := by decide +kernel
theorem dX8_blockNear_54 : decode cX8_blockNear 54 = .ok (.goto 5, 3) := by decide +kernel
theorem dX8_blockNear_57 : decode cX8_blockNear 57 = .ok (.iload 4, 2) := by decide +kernel
theorem dX8_blockNear_59 : decode cX8_blockNear 59 = .ok (.iadd, 1) := by decide +kernel
theorem dX8_blockNear_60 : decode cX8_blockNear 60 = .ok (.istore 5, 2) := by decide +kernel
theorem dX8_blockNear_62 : decode cX8_blockNear 62 = .ok (.aload_n 0, 1) := by decide +kernel
theorem dX8_blockNear_63 : decode cX8_blockNear 63 = .ok (.iload 5, 2) := by decide +kernel
theorem dX8_blockNear_65 : decode cX8_blockNear 65 = .ok (.invokevirtual 149, 3) := by decide +kernel
theorem dX8_blockNear_68 : decode cX8_blockNear 68 = .ok (.ifCond .eq 6, 3) := by decide +kernel
theorem dX8_blockNear_71 : decode cX8_blockNear 71 = .ok (.iload 5, 2) := by decide +kernel
theorem dX8_blockNear_73 : decode cX8_blockNear 73 = .ok (.ireturn, 1) := by decide +kernel
theorem dX8_blockNear_74 : decode cX8_blockNear 74 = .ok (.iinc 4 1, 3) := by decide +kernel
theorem dX8_blockNear_77 : decode cX8_blockNear 77 = .ok (.goto (-62), 3) := by decide +kernel
theorem dX8_blockNear_80 : decode cX8_blockNear 80 = .ok (.iinc 3 1, 3) := by decide +kernel
theorem dX8_blockNear_83 : decode cX8_blockNear 83 = .ok (.goto (-81), 3) := by decide +kernel
theorem dX8_blockNear_86 : decode cX8_blockNear 86 = .ok (.bipush (-4), 2) := by decide +kernel
theorem dX8_blockNear_88 : decode cX8_blockNear 88 = .ok (.ireturn, 1) := by decide +kernel
theorem dX8_runIn_0 : decode cX8_runIn 0 = .ok (.iconst 4, 1) := by decide +kernel
theorem dX8_runIn_1 : decode cX8_runIn 1 = .ok (.aload_n 0, 1) := by decide +kernel
theorem dX8_runIn_2 : decode cX8_runIn 2 = .ok (.getfield 7, 3) := by decide +kernel
theorem dX8_runIn_5 : decode cX8_runIn 5 = .ok (.iconst 1, 1) := by decide +kernel
theorem dX8_runIn_6 : decode cX8_runIn 6 = .ok (.iaload, 1) := by decide +kernel
theorem dX8_runIn_7 : decode cX8_runIn 7 = .ok (.imul, 1) := by decide +kernel
theorem dX8_runIn_8 : decode cX8_runIn 8 = .ok (.iload_n 1, 1) := by decide +kernel
theorem dX8_runIn_9 : decode cX8_runIn 9 = .ok (.imul, 1) := by decide +kernel
theorem dX8_runIn_10 : decode cX8_runIn 10 = .ok (.istore_n 3, 1) := by decide +kernel
theorem dX8_runIn_11 : decode cX8_runIn 11 = .ok (.iload_n 2, 1) := by decide +kernel
theorem dX8_runIn_12 : decode cX8_runIn 12 = .ok (.istore 4, 2) := by decide +kernel
theorem dX8_runIn_14 : decode cX8_runIn 14 = .ok (.iload 4, 2) := by decide +kernel
theorem dX8_runIn_16 : decode cX8_runIn 16 = .ok (.iconst 4, 1) := by decide +kernel
theorem dX8_runIn_17 : decode cX8_runIn 17 = .ok (.if_icmp .ge 47, 3) := by decide +kernel
theorem dX8_runIn_20 : decode cX8_runIn 20 = .ok (.iload_n 3, 1) := by decide +kernel
theorem dX8_runIn_21 : decode cX8_runIn 21 = .ok (.istore 5, 2) := by decide +kernel
theorem dX8_runIn_23 : decode cX8_runIn 23 = .ok (.iload 5, 2) := by decide +kernel
theorem dX8_runIn_25 : decode cX8_runIn 25 = .ok (.iload_n 3, 1) := by decide +kernel
theorem dX8_runIn_26 : decode cX8_runIn 26 = .ok (.iconst 4, 1) := by decide +kernel
theorem dX8_runIn_27 : decode cX8_runIn 27 = .ok (.aload_n 0, 1) := by decide +kernel
theorem dX8_runIn_28 : decode cX8_runIn 28 = .ok (.getfield 7, 3) := by decide +kernel
theorem dX8_runIn_31 : decode cX8_runIn 31 = .ok (.iconst 1, 1) := by decide +kernel
theorem dX8_runIn_32 : decode cX8_runIn 32 = .ok (.iaload, 1) := by decide +kernel
theorem dX8_runIn_33 : decode cX8_runIn 33 = .ok (.imul, 1) := by decide +kernel
theorem dX8_runIn_34 : decode cX8_runIn 34 = .ok (.iadd, 1) := by decide +kernel
theorem dX8_runIn_35 : decode cX8_runIn 35 = .ok (.if_icmp .ge 23, 3) := by decide +kernel
theorem dX8_runIn_38 : decode cX8_runIn 38 = .ok (.aload_n 0, 1) := by decide +kernel
theorem dX8_runIn_39 : decode cX8_runIn 39 = .ok (.iload 5, 2) := by decide +kernel
theorem dX8_runIn_41 : decode cX8_runIn 41 = .ok (.invokevirtual 158, 3) := by decide +kernel
theorem dX8_runIn_44 : decode cX8_runIn 44 = .ok (.iload 4, 2) := by decide +kernel
theorem dX8_runIn_46 : decode cX8_runIn 46 = .ok (.if_icmp .ne 6, 3) := by decide +kernel
theorem dX8_runIn_49 : decode cX8_runIn 49 = .ok (.iload 5, 2) := by decide +kernel
theorem dX8_runIn_51 : decode cX8_runIn 51 = .ok (.ireturn, 1) := by decide +kernel
theorem dX8_runIn_52 : decode cX8_runIn 52 = .ok (.iinc 5 1, 3) := by decide +kernel
theorem dX8_runIn_55 : decode cX8_runIn 55 = .ok (.goto (-32), 3) := by decide +kernel
theorem dX8_runIn_58 : decode cX8_runIn 58 = .ok (.iinc 4 1, 3) := by decide +kernel
theorem dX8_runIn_61 : decode cX8_runIn 61 = .ok (.goto (-47), 3) := by decide +kernel
theorem dX8_runIn_64 : decode cX8_runIn 64 = .ok (.aload_n 0, 1) := by decide +kernel
theorem dX8_runIn_65 : decode cX8_runIn 65 = .ok (.getfield 7, 3) := by decide +kernel
theorem dX8_runIn_68 : decode cX8_runIn 68 = .ok (.iconst 1, 1) := by decide +kernel
theorem dX8_runIn_69 : decode cX8_runIn 69 = .ok (.iaload, 1) := by decide +kernel
theorem dX8_runIn_70 : decode cX8_runIn 70 = .ok (.iload_n 1, 1) := by decide +kernel
theorem dX8_runIn_71 : decode cX8_runIn 71 = .ok (.imul, 1) := by decide +kernel
theorem dX8_runIn_72 : decode cX8_runIn 72 = .ok (.istore 4, 2) := by decide +kernel
theorem dX8_runIn_74 : decode cX8_runIn 74 = .ok (.iload 4, 2) := by decide +kernel
theorem dX8_runIn_76 : decode cX8_runIn 76 = .ok (.aload_n 0, 1) := by decide +kernel
theorem dX8_runIn_77 : decode cX8_runIn 77 = .ok (.getfield 7, 3) := by decide +kernel
theorem dX8_runIn_80 : decode cX8_runIn 80 = .ok (.iconst 1, 1) := by decide +kernel
theorem dX8_runIn_81 : decode cX8_runIn 81 = .ok (.iaload, 1) := by decide +kernel
theorem dX8_runIn_82 : decode cX8_runIn 82 = .ok (.iload_n 1, 1) := by decide +kernel
theorem dX8_runIn_83 : decode cX8_runIn 83 = .ok (.iconst 1, 1) := by decide +kernel
theorem dX8_runIn_84 : decode cX8_runIn 84 = .ok (.iadd, 1) := by decide +kernel
theorem dX8_runIn_85 : decode cX8_runIn 85 = .ok (.imul, 1) := by decide +kernel
theorem dX8_runIn_86 : decode cX8_runIn 86 = .ok (.if_icmp .ge 23, 3) := by decide +kernel
theorem dX8_runIn_89 : decode cX8_runIn 89 = .ok (.aload_n 0, 1) := by decide +kernel
theorem dX8_runIn_90 : decode cX8_runIn 90 = .ok (.iload 4, 2) := by decide +kernel
theorem dX8_runIn_92 : decode cX8_runIn 92 = .ok (.invokevirtual 149, 3) := by decide +kernel
theorem dX8_runIn_95 : decode cX8_runIn 95 = .ok (.ifCond .eq 8, 3) := by decide +kernel
theorem dX8_runIn_98 : decode cX8_runIn 98 = .ok (.iconst 4, 1) := by decide +kernel
theorem dX8_runIn_99 : decode cX8_runIn 99 = .ok (.iload 4, 2) := by decide +kernel
theorem dX8_runIn_101 : decode cX8_runIn 101 = .ok (.imul, 1) := by decide +kernel
theorem dX8_runIn_102 : decode cX8_runIn 102 = .ok (.ireturn, 1) := by decide +kernel
theorem dX8_runIn_103 : decode cX8_runIn 103 = .ok (.iinc 4 1, 3) := by decide +kernel
theorem dX8_runIn_106 : decode cX8_runIn 106 = .ok (.goto (-32), 3) := by decide +kernel
theorem dX8_runIn_109 : decode cX8_runIn 109 = .ok (.bipush (-4), 2) := by decide +kernel
theorem dX8_runIn_111 : decode cX8_runIn 111 = .ok (.ireturn, 1) := by decide +kernel
theorem dX8_runNear_0 : decode cX8_runNear 0 = .ok (.iconst 0, 1) := by decide +kernel
theorem dX8_runNear_1 : decode cX8_runNear 1 = .ok (.istore_n 3, 1) := by decide +kernel
theorem dX8_runNear_2 : decode cX8_runNear 2 = .ok (.iload_n 3, 1) := by decide +kernel
theorem dX8_runNear_3 : decode cX8_runNear 3 = .ok (.aload_n 0, 1) := by decide +kernel
theorem dX8_runNear_4 : decode cX8_runNear 4 = .ok (.getfield 7, 3) := by decide +kernel
theorem dX8_runNear_7 : decode cX8_runNear 7 = .ok (.iconst 0, 1) := by decide +kernel
theorem dX8_runNear_8 : decode cX8_runNear 8 = .ok (.iaload, 1) := by decide +kernel
theorem dX8_runNear_9 : decode cX8_runNear 9 = .ok (.if_icmp .ge 32, 3) := by decide +kernel
theorem dX8_runNear_12 : decode cX8_runNear 12 = .ok (.aload_n 0, 1) := by decide +kernel
theorem dX8_runNear_13 : decode cX8_runNear 13 = .ok (.aload_n 0, 1) := by decide +kernel
theorem dX8_runNear_14 : decode cX8_runNear 14 = .ok (.iload_n 1, 1) := by decide +kernel
theorem dX8_runNear_15 : decode cX8_runNear 15 = .ok (.iload_n 3, 1) := by decide +kernel
theorem dX8_runNear_16 : decode cX8_runNear 16 = .ok (.invokevirtual 161, 3) := by decide +kernel
theorem dX8_runNear_19 : decode cX8_runNear 19 = .ok (.iload_n 2, 1) := by decide +kernel
theorem dX8_runNear_20 : decode cX8_runNear 20 = .ok (.invokevirtual 164, 3) := by decide +kernel
theorem dX8_runNear_23 : decode cX8_runNear 23 = .ok (.istore 4, 2) := by decide +kernel
theorem dX8_runNear_25 : decode cX8_runNear 25 = .ok (.iload 4, 2) := by decide +kernel
theorem dX8_runNear_27 : decode cX8_runNear 27 = .ok (.bipush (-4), 2) := by decide +kernel
theorem dX8_runNear_29 : decode cX8_runNear 29 = .ok (.if_icmp .eq 6, 3) := by decide +kernel
theorem dX8_runNear_32 : decode cX8_runNear 32 = .ok (.iload 4, 2) := by decide +kernel
theorem dX8_runNear_34 : decode cX8_runNear 34 = .ok (.ireturn, 1) := by decide +kernel
theorem dX8_runNear_35 : decode cX8_runNear 35 = .ok (.iinc 3 1, 3) := by decide +kernel
theorem dX8_runNear_38 : decode cX8_runNear 38 = .ok (.goto (-36), 3) := by decide +kernel
theorem dX8_runNear_41 : decode cX8_runNear 41 = .ok (.bipush (-4), 2) := by decide +kernel
theorem dX8_runNear_43 : decode cX8_runNear 43 = .ok (.ireturn, 1) := by decide +kernel
theorem dX8_inodes_0 : decode cX8_inodes 0 = .ok (.aload_n 0, 1) := by decide +kernel
theorem dX8_inodes_1 : decode cX8_inodes 1 = .ok (.getfield 7, 3) := by decide +kernel
theorem dX8_inodes_4 : decode cX8_inodes 4 = .ok (.iconst 0, 1) := by decide +kernel
theorem dX8_inodes_5 : decode cX8_inodes 5 = .ok (.iaload, 1) := by decide +kernel
theorem dX8_inodes_6 : decode cX8_inodes 6 = .ok (.aload_n 0, 1) := by decide +kernel
theorem dX8_inodes_7 : decode cX8_inodes 7 = .ok (.getfield 7, 3) := by decide +kernel
theorem dX8_inodes_10 : decode cX8_inodes 10 = .ok (.iconst 2, 1) := by decide +kernel
theorem dX8_inodes_11 : decode cX8_inodes 11 = .ok (.iaload, 1) := by decide +kernel
theorem dX8_inodes_12 : decode cX8_inodes 12 = .ok (.imul, 1) := by decide +kernel
theorem dX8_inodes_13 : decode cX8_inodes 13 = .ok (.ireturn, 1) := by decide +kernel
theorem dX8_isInode_0 : decode cX8_isInode 0 = .ok (.iload_n 1, 1) := by decide +kernel
theorem dX8_isInode_1 : decode cX8_isInode 1 = .ok (.i2l, 1) := by decide +kernel
theorem dX8_isInode_2 : decode cX8_isInode 2 = .ok (.lconst 0, 1) := by decide +kernel
theorem dX8_isInode_3 : decode cX8_isInode 3 = .ok (.aload_n 0, 1) := by decide +kernel
theorem dX8_isInode_4 : decode cX8_isInode 4 = .ok (.invokevirtual 167, 3) := by decide +kernel
theorem dX8_isInode_7 : decode cX8_isInode 7 = .ok (.iconst 1, 1) := by decide +kernel
theorem dX8_isInode_8 : decode cX8_isInode 8 = .ok (.isub, 1) := by decide +kernel
theorem dX8_isInode_9 : decode cX8_isInode 9 = .ok (.i2l, 1) := by decide +kernel
theorem dX8_isInode_10 : decode cX8_isInode 10 = .ok (.invokestatic 41, 3) := by decide +kernel
theorem dX8_isInode_13 : decode cX8_isInode 13 = .ok (.ireturn, 1) := by decide +kernel
theorem dX8_of_0 : decode cX8_of 0 = .ok (.aload_n 0, 1) := by decide +kernel
theorem dX8_of_1 : decode cX8_of 1 = .ok (.getfield 7, 3) := by decide +kernel
theorem dX8_of_4 : decode cX8_of 4 = .ok (.sipush 136, 3) := by decide +kernel
theorem dX8_of_7 : decode cX8_of 7 = .ok (.bipush 15, 2) := by decide +kernel
theorem dX8_of_9 : decode cX8_of 9 = .ok (.iload_n 1, 1) := by decide +kernel
theorem dX8_of_10 : decode cX8_of 10 = .ok (.imul, 1) := by decide +kernel
theorem dX8_of_11 : decode cX8_of 11 = .ok (.iadd, 1) := by decide +kernel
theorem dX8_of_12 : decode cX8_of 12 = .ok (.iload_n 2, 1) := by decide +kernel
theorem dX8_of_13 : decode cX8_of 13 = .ok (.iadd, 1) := by decide +kernel
theorem dX8_of_14 : decode cX8_of 14 = .ok (.iaload, 1) := by decide +kernel
theorem dX8_of_15 : decode cX8_of 15 = .ok (.ireturn, 1) := by decide +kernel
theorem dX8_sets_0 : decode cX8_sets 0 = .ok (.aload_n 0, 1) := by decide +kernel
theorem dX8_sets_1 : decode cX8_sets 1 = .ok (.getfield 7, 3) := by decide +kernel
theorem dX8_sets_4 : decode cX8_sets 4 = .ok (.sipush 136, 3) := by decide +kernel
theorem dX8_sets_7 : decode cX8_sets 7 = .ok (.bipush 15, 2) := by decide +kernel
theorem dX8_sets_9 : decode cX8_sets 9 = .ok (.iload_n 1, 1) := by decide +kernel
theorem dX8_sets_10 : decode cX8_sets 10 = .ok (.imul, 1) := by decide +kernel
theorem dX8_sets_11 : decode cX8_sets 11 = .ok (.iadd, 1) := by decide +kernel
theorem dX8_sets_12 : decode cX8_sets 12 = .ok (.iload_n 2, 1) := by decide +kernel
theorem dX8_sets_13 : decode cX8_sets 13 = .ok (.iadd, 1) := by decide +kernel
theorem dX8_sets_14 : decode cX8_sets 14 = .ok (.iload_n 3, 1) := by decide +kernel
theorem dX8_sets_15 : decode cX8_sets 15 = .ok (.iastore, 1) := by decide +kernel
theorem dX8_sets_16 : decode cX8_sets 16 = .ok (.return_, 1) := by decide +kernel
theorem dX8_isThere_0 : decode cX8_isThere 0 = .ok (.aload_n 0, 1) := by decide +kernel
theorem dX8_isThere_1 : decode cX8_isThere 1 = .ok (.iload_n 1, 1) := by decide +kernel
theorem dX8_isThere_2 : decode cX8_isThere 2 = .ok (.invokevirtual 170, 3) := by decide +kernel
theorem dX8_isThere_5 : decode cX8_isThere 5 = .ok (.ifCond .eq 16, 3) := by decide +kernel
theorem dX8_isThere_8 : decode cX8_isThere 8 = .ok (.aload_n 0, 1) := by decide +kernel
theorem dX8_isThere_9 : decode cX8_isThere 9 = .ok (.iload_n 1, 1) := by decide +kernel
theorem dX8_isThere_10 : decode cX8_isThere 10 = .ok (.iconst 0, 1) := by decide +kernel
theorem dX8_isThere_11 : decode cX8_isThere 11 = .ok (.invokevirtual 173, 3) := by decide +kernel
theorem dX8_isThere_14 : decode cX8_isThere 14 = .ok (.ifCond .eq 7, 3) := by decide +kernel
theorem dX8_isThere_17 : decode cX8_isThere 17 = .ok (.iconst 1, 1) := by decide +kernel
theorem dX8_isThere_18 : decode cX8_isThere 18 = .ok (.goto 4, 3) := by decide +kernel
theorem dX8_isThere_21 : decode cX8_isThere 21 = .ok (.iconst 0, 1) := by decide +kernel
theorem dX8_isThere_22 : decode cX8_isThere 22 = .ok (.ireturn, 1) := by decide +kernel
theorem dX8_isDirectory_0 : decode cX8_isDirectory 0 = .ok (.aload_n 0, 1) := by decide +kernel
theorem dX8_isDirectory_1 : decode cX8_isDirectory 1 = .ok (.iload_n 1, 1) := by decide +kernel
theorem dX8_isDirectory_2 : decode cX8_isDirectory 2 = .ok (.invokevirtual 170, 3) := by decide +kernel
theorem dX8_isDirectory_5 : decode cX8_isDirectory 5 = .ok (.ifCond .eq 17, 3) := by decide +kernel
theorem dX8_isDirectory_8 : decode cX8_isDirectory 8 = .ok (.aload_n 0, 1) := by decide +kernel
theorem dX8_isDirectory_9 : decode cX8_isDirectory 9 = .ok (.iload_n 1, 1) := by decide +kernel
theorem dX8_isDirectory_10 : decode cX8_isDirectory 10 = .ok (.iconst 0, 1) := by decide +kernel
theorem dX8_isDirectory_11 : decode cX8_isDirectory 11 = .ok (.invokevirtual 173, 3) := by decide +kernel
theorem dX8_isDirectory_14 : decode cX8_isDirectory 14 = .ok (.iconst 1, 1) := by decide +kernel
theorem dX8_isDirectory_15 : decode cX8_isDirectory 15 = .ok (.if_icmp .ne 7, 3) := by decide +kernel
theorem dX8_isDirectory_18 : decode cX8_isDirectory 18 = .ok (.iconst 1, 1) := by decide +kernel
theorem dX8_isDirectory_19 : decode cX8_isDirectory 19 = .ok (.goto 4, 3) := by decide +kernel
theorem dX8_isDirectory_22 : decode cX8_isDirectory 22 = .ok (.iconst 0, 1) := by decide +kernel
theorem dX8_isDirectory_23 : decode cX8_isDirectory 23 = .ok (.ireturn, 1) := by decide +kernel
theorem dX8_isFile_0 : decode cX8_isFile 0 = .ok (.aload_n 0, 1) := by decide +kernel
theorem dX8_isFile_1 : decode cX8_isFile 1 = .ok (.iload_n 1, 1) := by decide +kernel
theorem dX8_isFile_2 : decode cX8_isFile 2 = .ok (.invokevirtual 170, 3) := by decide +kernel
theorem dX8_isFile_5 : decode cX8_isFile 5 = .ok (.ifCond .eq 17, 3) := by decide +kernel
theorem dX8_isFile_8 : decode cX8_isFile 8 = .ok (.aload_n 0, 1) := by decide +kernel
theorem dX8_isFile_9 : decode cX8_isFile 9 = .ok (.iload_n 1, 1) := by decide +kernel
theorem dX8_isFile_10 : decode cX8_isFile 10 = .ok (.iconst 0, 1) := by decide +kernel
theorem dX8_isFile_11 : decode cX8_isFile 11 = .ok (.invokevirtual 173, 3) := by decide +kernel
theorem dX8_isFile_14 : decode cX8_isFile 14 = .ok (.iconst 2, 1) := by decide +kernel
theorem dX8_isFile_15 : decode cX8_isFile 15 = .ok (.if_icmp .ne 7, 3) := by decide +kernel
theorem dX8_isFile_18 : decode cX8_isFile 18 = .ok (.iconst 1, 1) := by decide +kernel
theorem dX8_isFile_19 : decode cX8_isFile 19 = .ok (.goto 4, 3) := by decide +kernel
theorem dX8_isFile_22 : decode cX8_isFile 22 = .ok (.iconst 0, 1) := by decide +kernel
theorem dX8_isFile_23 : decode cX8_isFile 23 = .ok (.ireturn, 1) := by decide +kernel
theorem dX8_blocks_0 : decode cX8_blocks 0 = .ok (.aload_n 0, 1) := by decide +kernel
theorem dX8_blocks_1 : decode cX8_blocks 1 = .ok (.iload_n 1, 1) := by decide +kernel
theorem dX8_blocks_2 : decode cX8_blocks 2 = .ok (.iconst 3, 1) := by decide +kernel
theorem dX8_blocks_3 : decode cX8_blocks 3 = .ok (.invokevirtual 173, 3) := by decide +kernel
theorem dX8_blocks_6 : decode cX8_blocks 6 = .ok (.iconst 4, 1) := by decide +kernel
theorem dX8_blocks_7 : decode cX8_blocks 7 = .ok (.idiv, 1) := by decide +kernel
theorem dX8_blocks_8 : decode cX8_blocks 8 = .ok (.ireturn, 1) := by decide +kernel
theorem dX8_tail_0 : decode cX8_tail 0 = .ok (.aload_n 0, 1) := by decide +kernel
theorem dX8_tail_1 : decode cX8_tail 1 = .ok (.iload_n 1, 1) := by decide +kernel
theorem dX8_tail_2 : decode cX8_tail 2 = .ok (.iconst 3, 1) := by decide +kernel
theorem dX8_tail_3 : decode cX8_tail 3 = .ok (.invokevirtual 173, 3) := by decide +kernel
theorem dX8_tail_6 : decode cX8_tail 6 = .ok (.iconst 4, 1) := by decide +kernel
theorem dX8_tail_7 : decode cX8_tail 7 = .ok (.irem, 1) := by decide +kernel
theorem dX8_tail_8 : decode cX8_tail 8 = .ok (.ireturn, 1) := by decide +kernel
theorem dX8_inodesThere_0 : decode cX8_inodesThere 0 = .ok (.iconst 0, 1) := by decide +kernel
theorem dX8_inodesThere_1 : decode cX8_inodesThere 1 = .ok (.istore_n 1, 1) := by decide +kernel
theorem dX8_inodesThere_2 : decode cX8_inodesThere 2 = .ok (.iconst 0, 1) := by decide +kernel
theorem dX8_inodesThere_3 : decode cX8_inodesThere 3 = .ok (.istore_n 2, 1) := by decide +kernel
theorem dX8_inodesThere_4 : decode cX8_inodesThere 4 = .ok (.iload_n 2, 1) := by decide +kernel
theorem dX8_inodesThere_5 : decode cX8_inodesThere 5 = .ok (.aload_n 0, 1) := by decide +kernel
theorem dX8_inodesThere_6 : decode cX8_inodesThere 6 = .ok (.invokevirtual 167, 3) := by decide +kernel
theorem dX8_inodesThere_9 : decode cX8_inodesThere 9 = .ok (.if_icmp .ge 20, 3) := by decide +kernel
theorem dX8_inodesThere_12 : decode cX8_inodesThere 12 = .ok (.iload_n 1, 1) := by decide +kernel
theorem dX8_inodesThere_13 : decode cX8_inodesThere 13 = .ok (.aload_n 0, 1) := by decide +kernel
theorem dX8_inodesThere_14 : decode cX8_inodesThere 14 = .ok (.iload_n 2, 1) := by decide +kernel
theorem dX8_inodesThere_15 : decode cX8_inodesThere 15 = .ok (.invokevirtual 176, 3) := by decide +kernel
theorem dX8_inodesThere_18 : decode cX8_inodesThere 18 = .ok (.invokestatic 133, 3) := by decide +kernel
theorem dX8_inodesThere_21 : decode cX8_inodesThere 21 = .ok (.iadd, 1) := by decide +kernel
theorem dX8_inodesThere_22 : decode cX8_inodesThere 22 = .ok (.istore_n 1, 1) := by decide +kernel
theorem dX8_inodesThere_23 : decode cX8_inodesThere 23 = .ok (.iinc 2 1, 3) := by decide +kernel
theorem dX8_inodesThere_26 : decode cX8_inodesThere 26 = .ok (.goto (-22), 3) := by decide +kernel
theorem dX8_inodesThere_29 : decode cX8_inodesThere 29 = .ok (.iload_n 1, 1) := by decide +kernel
theorem dX8_inodesThere_30 : decode cX8_inodesThere 30 = .ok (.ireturn, 1) := by decide +kernel
theorem dX8_inodeOf_0 : decode cX8_inodeOf 0 = .ok (.iconst 1, 1) := by decide +kernel
theorem dX8_inodeOf_1 : decode cX8_inodeOf 1 = .ok (.istore_n 3, 1) := by decide +kernel
theorem dX8_inodeOf_2 : decode cX8_inodeOf 2 = .ok (.iload_n 3, 1) := by decide +kernel
theorem dX8_inodeOf_3 : decode cX8_inodeOf 3 = .ok (.aload_n 0, 1) := by decide +kernel
theorem dX8_inodeOf_4 : decode cX8_inodeOf 4 = .ok (.invokevirtual 167, 3) := by decide +kernel
theorem dX8_inodeOf_7 : decode cX8_inodeOf 7 = .ok (.if_icmp .ge 39, 3) := by decide +kernel
theorem dX8_inodeOf_10 : decode cX8_inodeOf 10 = .ok (.aload_n 0, 1) := by decide +kernel
theorem dX8_inodeOf_11 : decode cX8_inodeOf 11 = .ok (.iload_n 3, 1) := by decide +kernel
theorem dX8_inodeOf_12 : decode cX8_inodeOf 12 = .ok (.invokevirtual 176, 3) := by decide +kernel
theorem dX8_inodeOf_15 : decode cX8_inodeOf 15 = .ok (.ifCond .eq 25, 3) := by decide +kernel
theorem dX8_inodeOf_18 : decode cX8_inodeOf 18 = .ok (.aload_n 0, 1) := by decide +kernel
theorem dX8_inodeOf_19 : decode cX8_inodeOf 19 = .ok (.iload_n 3, 1) := by decide +kernel
theorem dX8_inodeOf_20 : decode cX8_inodeOf 20 = .ok (.iconst 1, 1) := by decide +kernel
theorem dX8_inodeOf_21 : decode cX8_inodeOf 21 = .ok (.invokevirtual 173, 3) := by decide +kernel
theorem dX8_inodeOf_24 : decode cX8_inodeOf 24 = .ok (.iload_n 1, 1) := by decide +kernel
theorem dX8_inodeOf_25 : decode cX8_inodeOf 25 = .ok (.if_icmp .ne 15, 3) := by decide +kernel
theorem dX8_inodeOf_28 : decode cX8_inodeOf 28 = .ok (.aload_n 0, 1) := by decide +kernel
theorem dX8_inodeOf_29 : decode cX8_inodeOf 29 = .ok (.iload_n 3, 1) := by decide +kernel
theorem dX8_inodeOf_30 : decode cX8_inodeOf 30 = .ok (.iconst 2, 1) := by decide +kernel
theorem dX8_inodeOf_31 : decode cX8_inodeOf 31 = .ok (.invokevirtual 173, 3) := by decide +kernel
theorem dX8_inodeOf_34 : decode cX8_inodeOf 34 = .ok (.iload_n 2, 1) := by decide +kernel
theorem dX8_inodeOf_35 : decode cX8_inodeOf 35 = .ok (.if_icmp .ne 5, 3) := by decide +kernel
theorem dX8_inodeOf_38 : decode cX8_inodeOf 38 = .ok (.iload_n 3, 1) := by decide +kernel
theorem dX8_inodeOf_39 : decode cX8_inodeOf 39 = .ok (.ireturn, 1) := by decide +kernel
theorem dX8_inodeOf_40 : decode cX8_inodeOf 40 = .ok (.iinc 3 1, 3) := by decide +kernel
theorem dX8_inodeOf_43 : decode cX8_inodeOf 43 = .ok (.goto (-41), 3) := by decide +kernel
theorem dX8_inodeOf_46 : decode cX8_inodeOf 46 = .ok (.bipush (-4), 2) := by decide +kernel
theorem dX8_inodeOf_48 : decode cX8_inodeOf 48 = .ok (.ireturn, 1) := by decide +kernel
theorem dX8_nothings_0 : decode cX8_nothings 0 = .ok (.iconst 0, 1) := by decide +kernel
theorem dX8_nothings_1 : decode cX8_nothings 1 = .ok (.istore_n 2, 1) := by decide +kernel
theorem dX8_nothings_2 : decode cX8_nothings 2 = .ok (.iconst 0, 1) := by decide +kernel
theorem dX8_nothings_3 : decode cX8_nothings 3 = .ok (.istore_n 3, 1) := by decide +kernel
theorem dX8_nothings_4 : decode cX8_nothings 4 = .ok (.iload_n 3, 1) := by decide +kernel
theorem dX8_nothings_5 : decode cX8_nothings 5 = .ok (.aload_n 0, 1) := by decide +kernel
theorem dX8_nothings_6 : decode cX8_nothings 6 = .ok (.getfield 7, 3) := by decide +kernel
theorem dX8_nothings_9 : decode cX8_nothings 9 = .ok (.iconst 2, 1) := by decide +kernel
theorem dX8_nothings_10 : decode cX8_nothings 10 = .ok (.iaload, 1) := by decide +kernel
theorem dX8_nothings_11 : decode cX8_nothings 11 = .ok (.if_icmp .ge 38, 3) := by decide +kernel
theorem dX8_nothings_14 : decode cX8_nothings 14 = .ok (.iload_n 2, 1) := by decide +kernel
theorem dX8_nothings_15 : decode cX8_nothings 15 = .ok (.aload_n 0, 1) := by decide +kernel
theorem dX8_nothings_16 : decode cX8_nothings 16 = .ok (.aload_n 0, 1) := by decide +kernel
theorem dX8_nothings_17 : decode cX8_nothings 17 = .ok (.getfield 7, 3) := by decide +kernel
theorem dX8_nothings_20 : decode cX8_nothings 20 = .ok (.iconst 2, 1) := by decide +kernel
theorem dX8_nothings_21 : decode cX8_nothings 21 = .ok (.iaload, 1) := by decide +kernel
theorem dX8_nothings_22 : decode cX8_nothings 22 = .ok (.iload_n 1, 1) := by decide +kernel
theorem dX8_nothings_23 : decode cX8_nothings 23 = .ok (.imul, 1) := by decide +kernel
theorem dX8_nothings_24 : decode cX8_nothings 24 = .ok (.iload_n 3, 1) := by decide +kernel
theorem dX8_nothings_25 : decode cX8_nothings 25 = .ok (.iadd, 1) := by decide +kernel
theorem dX8_nothings_26 : decode cX8_nothings 26 = .ok (.iconst 0, 1) := by decide +kernel
theorem dX8_nothings_27 : decode cX8_nothings 27 = .ok (.invokevirtual 173, 3) := by decide +kernel
theorem dX8_nothings_30 : decode cX8_nothings 30 = .ok (.ifCond .ne 7, 3) := by decide +kernel
theorem dX8_nothings_33 : decode cX8_nothings 33 = .ok (.iconst 1, 1) := by decide +kernel
theorem dX8_nothings_34 : decode cX8_nothings 34 = .ok (.goto 4, 3) := by decide +kernel
theorem dX8_nothings_37 : decode cX8_nothings 37 = .ok (.iconst 0, 1) := by decide +kernel
theorem dX8_nothings_38 : decode cX8_nothings 38 = .ok (.invokestatic 133, 3) := by decide +kernel
theorem dX8_nothings_41 : decode cX8_nothings 41 = .ok (.iadd, 1) := by decide +kernel
theorem dX8_nothings_42 : decode cX8_nothings 42 = .ok (.istore_n 2, 1) := by decide +kernel
theorem dX8_nothings_43 : decode cX8_nothings 43 = .ok (.iinc 3 1, 3) := by decide +kernel
theorem dX8_nothings_46 : decode cX8_nothings 46 = .ok (.goto (-42), 3) := by decide +kernel
theorem dX8_nothings_49 : decode cX8_nothings 49 = .ok (.iload_n 2, 1) := by decide +kernel
theorem dX8_nothings_50 : decode cX8_nothings 50 = .ok (.ireturn, 1) := by decide +kernel
theorem dX8_directories_0 : decode cX8_directories 0 = .ok (.iconst 0, 1) := by decide +kernel
theorem dX8_directories_1 : decode cX8_directories 1 = .ok (.istore_n 2, 1) := by decide +kernel
theorem dX8_directories_2 : decode cX8_directories 2 = .ok (.iconst 0, 1) := by decide +kernel
theorem dX8_directories_3 : decode cX8_directories 3 = .ok (.istore_n 3, 1) := by decide +kernel
theorem dX8_directories_4 : decode cX8_directories 4 = .ok (.iload_n 3, 1) := by decide +kernel
theorem dX8_directories_5 : decode cX8_directories 5 = .ok (.aload_n 0, 1) := by decide +kernel
theorem dX8_directories_6 : decode cX8_directories 6 = .ok (.getfield 7, 3) := by decide +kernel
theorem dX8_directories_9 : decode cX8_directories 9 = .ok (.iconst 2, 1) := by decide +kernel
theorem dX8_directories_10 : decode cX8_directories 10 = .ok (.iaload, 1) := by decide +kernel
theorem dX8_directories_11 : decode cX8_directories 11 = .ok (.if_icmp .ge 39, 3) := by decide +kernel
theorem dX8_directories_14 : decode cX8_directories 14 = .ok (.iload_n 2, 1) := by decide +kernel
theorem dX8_directories_15 : decode cX8_directories 15 = .ok (.aload_n 0, 1) := by decide +kernel
theorem dX8_directories_16 : decode cX8_directories 16 = .ok (.aload_n 0, 1) := by decide +kernel
theorem dX8_directories_17 : decode cX8_directories 17 = .ok (.getfield 7, 3) := by decide +kernel
theorem dX8_directories_20 : decode cX8_directories 20 = .ok (.iconst 2, 1) := by decide +kernel
theorem dX8_directories_21 : decode cX8_directories 21 = .ok (.iaload, 1) := by decide +kernel
theorem dX8_directories_22 : decode cX8_directories 22 = .ok (.iload_n 1, 1) := by decide +kernel
theorem dX8_directories_23 : decode cX8_directories 23 = .ok (.imul, 1) := by decide +kernel
theorem dX8_directories_24 : decode cX8_directories 24 = .ok (.iload_n 3, 1) := by decide +kernel
theorem dX8_directories_25 : decode cX8_directories 25 = .ok (.iadd, 1) := by decide +kernel
theorem dX8_directories_26 : decode cX8_directories 26 = .ok (.iconst 0, 1) := by decide +kernel
theorem dX8_directories_27 : decode cX8_directories 27 = .ok (.invokevirtual 173, 3) := by decide +kernel
theorem dX8_directories_30 : decode cX8_directories 30 = .ok (.iconst 1, 1) := by decide +kernel
theorem dX8_directories_31 : decode cX8_directories 31 = .ok (.if_icmp .ne 7, 3) := by decide +kernel
theorem dX8_directories_34 : decode cX8_directories 34 = .ok (.iconst 1, 1) := by decide +kernel
theorem dX8_directories_35 : decode cX8_directories 35 = .ok (.goto 4, 3) := by decide +kernel
theorem dX8_directories_38 : decode cX8_directories 38 = .ok (.iconst 0, 1) := by decide +kernel
theorem dX8_directories_39 : decode cX8_directories 39 = .ok (.invokestatic 133, 3) := by decide +kernel
theorem dX8_directories_42 : decode cX8_directories 42 = .ok (.iadd, 1) := by decide +kernel
theorem dX8_directories_43 : decode cX8_directories 43 = .ok (.istore_n 2, 1) := by decide +kernel
theorem dX8_directories_44 : decode cX8_directories 44 = .ok (.iinc 3 1, 3) := by decide +kernel
theorem dX8_directories_47 : decode cX8_directories 47 = .ok (.goto (-43), 3) := by decide +kernel
theorem dX8_directories_50 : decode cX8_directories 50 = .ok (.iload_n 2, 1) := by decide +kernel
theorem dX8_directories_51 : decode cX8_directories 51 = .ok (.ireturn, 1) := by decide +kernel
theorem dX8_groupForDirectory_0 : decode cX8_groupForDirectory 0 = .ok (.iconst 0, 1) := by decide +kernel
theorem dX8_groupForDirectory_1 : decode cX8_groupForDirectory 1 = .ok (.istore_n 1, 1) := by decide +kernel
theorem dX8_groupForDirectory_2 : decode cX8_groupForDirectory 2 = .ok (.iconst 0, 1) := by decide +kernel
theorem dX8_groupForDirectory_3 : decode cX8_groupForDirectory 3 = .ok (.istore_n 2, 1) := by decide +kernel
theorem dX8_groupForDirectory_4 : decode cX8_groupForDirectory 4 = .ok (.iload_n 2, 1) := by decide +kernel
theorem dX8_groupForDirectory_5 : decode cX8_groupForDirectory 5 = .ok (.aload_n 0, 1) := by decide +kernel
theorem dX8_groupForDirectory_6 : decode cX8_groupForDirectory 6 = .ok (.getfield 7, 3) := by decide +kernel
theorem dX8_groupForDirectory_9 : decode cX8_groupForDirectory 9 = .ok (.iconst 0, 1) := by decide +kernel
theorem dX8_groupForDirectory_10 : decode cX8_groupForDirectory 10 = .ok (.iaload, 1) := by decide +kernel
theorem dX8_groupForDirectory_11 : decode cX8_groupForDirectory 11 = .ok (.if_icmp .ge 17, 3) := by decide +kernel
theorem dX8_groupForDirectory_14 : decode cX8_groupForDirectory 14 = .ok (.iload_n 1, 1) := by decide +kernel
theorem dX8_groupForDirectory_15 : decode cX8_groupForDirectory 15 = .ok (.aload_n 0, 1) := by decide +kernel
theorem dX8_groupForDirectory_16 : decode cX8_groupForDirectory 16 = .ok (.iload_n 2, 1) := by decide +kernel
theorem dX8_groupForDirectory_17 : decode cX8_groupForDirectory 17 = .ok (.invokevirtual 179, 3) := by decide +kernel
theorem dX8_groupForDirectory_20 : decode cX8_groupForDirectory 20 = .ok (.iadd, 1) := by decide +kernel
theorem dX8_groupForDirectory_21 : decode cX8_groupForDirectory 21 = .ok (.istore_n 1, 1) := by decide +kernel
theorem dX8_groupForDirectory_22 : decode cX8_groupForDirectory 22 = .ok (.iinc 2 1, 3) := by decide +kernel
theorem dX8_groupForDirectory_25 : decode cX8_groupForDirectory 25 = .ok (.goto (-21), 3) := by decide +kernel
theorem dX8_groupForDirectory_28 : decode cX8_groupForDirectory 28 = .ok (.bipush (-4), 2) := by decide +kernel
theorem dX8_groupForDirectory_30 : decode cX8_groupForDirectory 30 = .ok (.istore_n 2, 1) := by decide +kernel
theorem dX8_groupForDirectory_31 : decode cX8_groupForDirectory 31 = .ok (.iconst 0, 1) := by decide +kernel
theorem dX8_groupForDirectory_32 : decode cX8_groupForDirectory 32 = .ok (.istore_n 3, 1) := by decide +kernel
theorem dX8_groupForDirectory_33 : decode cX8_groupForDirectory 33 = .ok (.iload_n 3, 1) := by decide +kernel
theorem dX8_groupForDirectory_34 : decode cX8_groupForDirectory 34 = .ok (.aload_n 0, 1) := by decide +kernel
theorem dX8_groupForDirectory_35 : decode cX8_groupForDirectory 35 = .ok (.getfield 7, 3) := by decide +kernel
theorem dX8_groupForDirectory_38 : decode cX8_groupForDirectory 38 = .ok (.iconst 0, 1) := by decide +kernel
theorem dX8_groupForDirectory_39 : decode cX8_groupForDirectory 39 = .ok (.iaload, 1) := by decide +kernel
theorem dX8_groupForDirectory_40 : decode cX8_groupForDirectory 40 = .ok (.if_icmp .ge 70, 3) := by decide +kernel
theorem dX8_groupForDirectory_43 : decode cX8_groupForDirectory 43 = .ok (.aload_n 0, 1) := by decide +kernel
theorem dX8_groupForDirectory_44 : decode cX8_groupForDirectory 44 = .ok (.iload_n 3, 1) := by decide +kernel
theorem dX8_groupForDirectory_45 : decode cX8_groupForDirectory 45 = .ok (.invokevirtual 179, 3) := by decide +kernel
theorem dX8_groupForDirectory_48 : decode cX8_groupForDirectory 48 = .ok (.ifCond .le 23, 3) := by decide +kernel
theorem dX8_groupForDirectory_51 : decode cX8_groupForDirectory 51 = .ok (.aload_n 0, 1) := by decide +kernel
theorem dX8_groupForDirectory_52 : decode cX8_groupForDirectory 52 = .ok (.iload_n 3, 1) := by decide +kernel
theorem dX8_groupForDirectory_53 : decode cX8_groupForDirectory 53 = .ok (.invokevirtual 179, 3) := by decide +kernel
theorem dX8_groupForDirectory_56 : decode cX8_groupForDirectory 56 = .ok (.aload_n 0, 1) := by decide +kernel
theorem dX8_groupForDirectory_57 : decode cX8_groupForDirectory 57 = .ok (.getfield 7, 3) := by decide +kernel
theorem dX8_groupForDirectory_60 : decode cX8_groupForDirectory 60 = .ok (.iconst 0, 1) := by decide +kernel
theorem dX8_groupForDirectory_61 : decode cX8_groupForDirectory 61 = .ok (.iaload, 1) := by decide +kernel
theorem dX8_groupForDirectory_62 : decode cX8_groupForDirectory 62 = .ok (.imul, 1) := by decide +kernel
theorem dX8_groupForDirectory_63 : decode cX8_groupForDirectory 63 = .ok (.iload_n 1, 1) := by decide +kernel
theorem dX8_groupForDirectory_64 : decode cX8_groupForDirectory 64 = .ok (.if_icmp .lt 7, 3) := by decide +kernel
theorem dX8_groupForDirectory_67 : decode cX8_groupForDirectory 67 = .ok (.iconst 1, 1) := by decide +kernel
theorem dX8_groupForDirectory_68 : decode cX8_groupForDirectory 68 = .ok (.goto 4, 3) := by decide +kernel
theorem dX8_groupForDirectory_71 : decode cX8_groupForDirectory 71 = .ok (.iconst 0, 1) := by decide +kernel
theorem dX8_groupForDirectory_72 : decode cX8_groupForDirectory 72 = .ok (.istore 4, 2) := by decide +kernel
theorem dX8_groupForDirectory_74 : decode cX8_groupForDirectory 74 = .ok (.iload 4, 2) := by decide +kernel
theorem dX8_groupForDirectory_76 : decode cX8_groupForDirectory 76 = .ok (.ifCond .eq 26, 3) := by decide +kernel
theorem dX8_groupForDirectory_79 : decode cX8_groupForDirectory 79 = .ok (.iload_n 2, 1) := by decide +kernel
theorem dX8_groupForDirectory_80 : decode cX8_groupForDirectory 80 = .ok (.bipush (-4), 2) := by decide +kernel
theorem dX8_groupForDirectory_82 : decode cX8_groupForDirectory 82 = .ok (.if_icmp .eq 16, 3) := by decide +kernel
theorem dX8_groupForDirectory_85 : decode cX8_groupForDirectory 85 = .ok (.aload_n 0, 1) := by decide +kernel
theorem dX8_groupForDirectory_86 : decode cX8_groupForDirectory 86 = .ok (.iload_n 3, 1) := by decide +kernel
theorem dX8_groupForDirectory_87 : decode cX8_groupForDirectory 87 = .ok (.invokevirtual 182, 3) := by decide +kernel
theorem dX8_groupForDirectory_90 : decode cX8_groupForDirectory 90 = .ok (.aload_n 0, 1) := by decide +kernel
theorem dX8_groupForDirectory_91 : decode cX8_groupForDirectory 91 = .ok (.iload_n 2, 1) := by decide +kernel
theorem dX8_groupForDirectory_92 : decode cX8_groupForDirectory 92 = .ok (.invokevirtual 182, 3) := by decide +kernel
theorem dX8_groupForDirectory_95 : decode cX8_groupForDirectory 95 = .ok (.if_icmp .ge 7, 3) := by decide +kernel
theorem dX8_groupForDirectory_98 : decode cX8_groupForDirectory 98 = .ok (.iload_n 3, 1) := by decide +kernel
theorem dX8_groupForDirectory_99 : decode cX8_groupForDirectory 99 = .ok (.goto 4, 3) := by decide +kernel
theorem dX8_groupForDirectory_102 : decode cX8_groupForDirectory 102 = .ok (.iload_n 2, 1) := by decide +kernel
theorem dX8_groupForDirectory_103 : decode cX8_groupForDirectory 103 = .ok (.istore_n 2, 1) := by decide +kernel
theorem dX8_groupForDirectory_104 : decode cX8_groupForDirectory 104 = .ok (.iinc 3 1, 3) := by decide +kernel
theorem dX8_groupForDirectory_107 : decode cX8_groupForDirectory 107 = .ok (.goto (-74), 3) := by decide +kernel
theorem dX8_groupForDirectory_110 : decode cX8_groupForDirectory 110 = .ok (.iload_n 2, 1) := by decide +kernel
theorem dX8_groupForDirectory_111 : decode cX8_groupForDirectory 111 = .ok (.ireturn, 1) := by decide +kernel
theorem dX8_groupForFile_0 : decode cX8_groupForFile 0 = .ok (.iconst 0, 1) := by decide +kernel
theorem dX8_groupForFile_1 : decode cX8_groupForFile 1 = .ok (.istore_n 2, 1) := by decide +kernel
theorem dX8_groupForFile_2 : decode cX8_groupForFile 2 = .ok (.iload_n 2, 1) := by decide +kernel
theorem dX8_groupForFile_3 : decode cX8_groupForFile 3 = .ok (.aload_n 0, 1) := by decide +kernel
theorem dX8_groupForFile_4 : decode cX8_groupForFile 4 = .ok (.getfield 7, 3) := by decide +kernel
theorem dX8_groupForFile_7 : decode cX8_groupForFile 7 = .ok (.iconst 0, 1) := by decide +kernel
theorem dX8_groupForFile_8 : decode cX8_groupForFile 8 = .ok (.iaload, 1) := by decide +kernel
theorem dX8_groupForFile_9 : decode cX8_groupForFile 9 = .ok (.if_icmp .ge 33, 3) := by decide +kernel
theorem dX8_groupForFile_12 : decode cX8_groupForFile 12 = .ok (.aload_n 0, 1) := by decide +kernel
theorem dX8_groupForFile_13 : decode cX8_groupForFile 13 = .ok (.iload_n 1, 1) := by decide +kernel
theorem dX8_groupForFile_14 : decode cX8_groupForFile 14 = .ok (.aload_n 0, 1) := by decide +kernel
theorem dX8_groupForFile_15 : decode cX8_groupForFile 15 = .ok (.getfield 7, 3) := by decide +kernel
theorem dX8_groupForFile_18 : decode cX8_groupForFile 18 = .ok (.iconst 2, 1) := by decide +kernel
theorem dX8_groupForFile_19 : decode cX8_groupForFile 19 = .ok (.iaload, 1) := by decide +kernel
theorem dX8_groupForFile_20 : decode cX8_groupForFile 20 = .ok (.idiv, 1) := by decide +kernel
theorem dX8_groupForFile_21 : decode cX8_groupForFile 21 = .ok (.iload_n 2, 1) := by decide +kernel
theorem dX8_groupForFile_22 : decode cX8_groupForFile 22 = .ok (.invokevirtual 161, 3) := by decide +kernel
theorem dX8_groupForFile_25 : decode cX8_groupForFile 25 = .ok (.istore_n 3, 1) := by decide +kernel
theorem dX8_groupForFile_26 : decode cX8_groupForFile 26 = .ok (.aload_n 0, 1) := by decide +kernel
theorem dX8_groupForFile_27 : decode cX8_groupForFile 27 = .ok (.iload_n 3, 1) := by decide +kernel
theorem dX8_groupForFile_28 : decode cX8_groupForFile 28 = .ok (.invokevirtual 179, 3) := by decide +kernel
theorem dX8_groupForFile_31 : decode cX8_groupForFile 31 = .ok (.ifCond .le 5, 3) := by decide +kernel
theorem dX8_groupForFile_34 : decode cX8_groupForFile 34 = .ok (.iload_n 3, 1) := by decide +kernel
theorem dX8_groupForFile_35 : decode cX8_groupForFile 35 = .ok (.ireturn, 1) := by decide +kernel
theorem dX8_groupForFile_36 : decode cX8_groupForFile 36 = .ok (.iinc 2 1, 3) := by decide +kernel
theorem dX8_groupForFile_39 : decode cX8_groupForFile 39 = .ok (.goto (-37), 3) := by decide +kernel
theorem dX8_groupForFile_42 : decode cX8_groupForFile 42 = .ok (.bipush (-4), 2) := by decide +kernel
theorem dX8_groupForFile_44 : decode cX8_groupForFile 44 = .ok (.ireturn, 1) := by decide +kernel
theorem dX8_groupFor_0 : decode cX8_groupFor 0 = .ok (.iload_n 2, 1) := by decide +kernel
theorem dX8_groupFor_1 : decode cX8_groupFor 1 = .ok (.iconst 1, 1) := by decide +kernel
theorem dX8_groupFor_2 : decode cX8_groupFor 2 = .ok (.if_icmp .ne 10, 3) := by decide +kernel
theorem dX8_groupFor_5 : decode cX8_groupFor 5 = .ok (.aload_n 0, 1) := by decide +kernel
theorem dX8_groupFor_6 : decode cX8_groupFor 6 = .ok (.invokevirtual 185, 3) := by decide +kernel
theorem dX8_groupFor_9 : decode cX8_groupFor 9 = .ok (.goto 8, 3) := by decide +kernel
theorem dX8_groupFor_12 : decode cX8_groupFor 12 = .ok (.aload_n 0, 1) := by decide +kernel
theorem dX8_groupFor_13 : decode cX8_groupFor 13 = .ok (.iload_n 1, 1) := by decide +kernel
theorem dX8_groupFor_14 : decode cX8_groupFor 14 = .ok (.invokevirtual 188, 3) := by decide +kernel
theorem dX8_groupFor_17 : decode cX8_groupFor 17 = .ok (.ireturn, 1) := by decide +kernel
theorem dX8_owner_0 : decode cX8_owner 0 = .ok (.iconst 0, 1) := by decide +kernel
theorem dX8_owner_1 : decode cX8_owner 1 = .ok (.istore_n 2, 1) := by decide +kernel
theorem dX8_owner_2 : decode cX8_owner 2 = .ok (.iload_n 2, 1) := by decide +kernel
theorem dX8_owner_3 : decode cX8_owner 3 = .ok (.aload_n 0, 1) := by decide +kernel
theorem dX8_owner_4 : decode cX8_owner 4 = .ok (.invokevirtual 167, 3) := by decide +kernel
theorem dX8_owner_7 : decode cX8_owner 7 = .ok (.if_icmp .ge 119, 3) := by decide +kernel
theorem dX8_owner_10 : decode cX8_owner 10 = .ok (.aload_n 0, 1) := by decide +kernel
theorem dX8_owner_11 : decode cX8_owner 11 = .ok (.iload_n 2, 1) := by decide +kernel
theorem dX8_owner_12 : decode cX8_owner 12 = .ok (.invokevirtual 176, 3) := by decide +kernel
theorem dX8_owner_15 : decode cX8_owner 15 = .ok (.ifCond .eq 45, 3) := by decide +kernel
theorem dX8_owner_18 : decode cX8_owner 18 = .ok (.aload_n 0, 1) := by decide +kernel
theorem dX8_owner_19 : decode cX8_owner 19 = .ok (.iload_n 2, 1) := by decide +kernel
theorem dX8_owner_20 : decode cX8_owner 20 = .ok (.invokevirtual 191, 3) := by decide +kernel
theorem dX8_owner_23 : decode cX8_owner 23 = .ok (.ifCond .le 37, 3) := by decide +kernel
theorem dX8_owner_26 : decode cX8_owner 26 = .ok (.iload_n 1, 1) := by decide +kernel
theorem dX8_owner_27 : decode cX8_owner 27 = .ok (.i2l, 1) := by decide +kernel
theorem dX8_owner_28 : decode cX8_owner 28 = .ok (.aload_n 0, 1) := by decide +kernel
theorem dX8_owner_29 : decode cX8_owner 29 = .ok (.iload_n 2, 1) := by decide +kernel
theorem dX8_owner_30 : decode cX8_owner 30 = .ok (.iconst 4, 1) := by decide +kernel
theorem dX8_owner_31 : decode cX8_owner 31 = .ok (.invokevirtual 173, 3) := by decide +kernel
theorem dX8_owner_34 : decode cX8_owner 34 = .ok (.i2l, 1) := by decide +kernel
theorem dX8_owner_35 : decode cX8_owner 35 = .ok (.aload_n 0, 1) := by decide +kernel
theorem dX8_owner_36 : decode cX8_owner 36 = .ok (.iload_n 2, 1) := by decide +kernel
theorem dX8_owner_37 : decode cX8_owner 37 = .ok (.iconst 4, 1) := by decide +kernel
theorem dX8_owner_38 : decode cX8_owner 38 = .ok (.invokevirtual 173, 3) := by decide +kernel
theorem dX8_owner_41 : decode cX8_owner 41 = .ok (.aload_n 0, 1) := by decide +kernel
theorem dX8_owner_42 : decode cX8_owner 42 = .ok (.iload_n 2, 1) := by decide +kernel
theorem dX8_owner_43 : decode cX8_owner 43 = .ok (.invokevirtual 191, 3) := by decide +kernel
theorem dX8_owner_46 : decode cX8_owner 46 = .ok (.iadd, 1) := by decide +kernel
theorem dX8_owner_47 : decode cX8_owner 47 = .ok (.iconst 1, 1) := by decide +kernel
theorem dX8_owner_48 : decode cX8_owner 48 = .ok (.isub, 1) := by decide +kernel
theorem dX8_owner_49 : decode cX8_owner 49 = .ok (.i2l, 1) := by decide +kernel
theorem dX8_owner_50 : decode cX8_owner 50 = .ok (.invokestatic 41, 3) := by decide +kernel
theorem dX8_owner_53 : decode cX8_owner 53 = .ok (.ifCond .eq 7, 3) := by decide +kernel
theorem dX8_owner_56 : decode cX8_owner 56 = .ok (.iconst 1, 1) := by decide +kernel
theorem dX8_owner_57 : decode cX8_owner 57 = .ok (.goto 4, 3) := by decide +kernel
theorem dX8_owner_60 : decode cX8_owner 60 = .ok (.iconst 0, 1) := by decide +kernel
theorem dX8_owner_61 : decode cX8_owner 61 = .ok (.istore_n 3, 1) := by decide +kernel
theorem dX8_owner_62 : decode cX8_owner 62 = .ok (.iconst 0, 1) := by decide +kernel
theorem dX8_owner_63 : decode cX8_owner 63 = .ok (.istore 4, 2) := by decide +kernel
theorem dX8_owner_65 : decode cX8_owner 65 = .ok (.aload_n 0, 1) := by decide +kernel
theorem dX8_owner_66 : decode cX8_owner 66 = .ok (.iload_n 2, 1) := by decide +kernel
theorem dX8_owner_67 : decode cX8_owner 67 = .ok (.invokevirtual 176, 3) := by decide +kernel
theorem dX8_owner_70 : decode cX8_owner 70 = .ok (.ifCond .eq 44, 3) := by decide +kernel
theorem dX8_owner_73 : decode cX8_owner 73 = .ok (.iload 4, 2) := by decide +kernel
theorem dX8_owner_75 : decode cX8_owner 75 = .ok (.aload_n 0, 1) := by decide +kernel
theorem dX8_owner_76 : decode cX8_owner 76 = .ok (.iload_n 2, 1) := by decide +kernel
theorem dX8_owner_77 : decode cX8_owner 77 = .ok (.invokevirtual 194, 3) := by decide +kernel
theorem dX8_owner_80 : decode cX8_owner 80 = .ok (.if_icmp .ge 34, 3) := by decide +kernel
theorem dX8_owner_83 : decode cX8_owner 83 = .ok (.iload_n 3, 1) := by decide +kernel
theorem dX8_owner_84 : decode cX8_owner 84 = .ok (.ifCond .ne 18, 3) := by decide +kernel
theorem dX8_owner_87 : decode cX8_owner 87 = .ok (.iload_n 1, 1) := by decide +kernel
theorem dX8_owner_88 : decode cX8_owner 88 = .ok (.iconst 4, 1) := by decide +kernel
theorem dX8_owner_89 : decode cX8_owner 89 = .ok (.idiv, 1) := by decide +kernel
theorem dX8_owner_90 : decode cX8_owner 90 = .ok (.aload_n 0, 1) := by decide +kernel
theorem dX8_owner_91 : decode cX8_owner 91 = .ok (.iload_n 2, 1) := by decide +kernel
theorem dX8_owner_92 : decode cX8_owner 92 = .ok (.iconst 5, 1) := by decide +kernel
theorem dX8_owner_93 : decode cX8_owner 93 = .ok (.iload 4, 2) := by decide +kernel
theorem dX8_owner_95 : decode cX8_owner 95 = .ok (.iadd, 1) := by decide +kernel
theorem dX8_owner_96 : decode cX8_owner 96 = .ok (.invokevirtual 173, 3) := by decide +kernel
theorem dX8_owner_99 : decode cX8_owner 99 = .ok (.if_icmp .ne 7, 3) := by decide +kernel
theorem dX8_owner_102 : decode cX8_owner 102 = .ok (.iconst 1, 1) := by decide +kernel
theorem dX8_owner_103 : decode cX8_owner 103 = .ok (.goto 4, 3) := by decide +kernel
theorem dX8_owner_106 : decode cX8_owner 106 = .ok (.iconst 0, 1) := by decide +kernel
theorem dX8_owner_107 : decode cX8_owner 107 = .ok (.istore_n 3, 1) := by decide +kernel
theorem dX8_owner_108 : decode cX8_owner 108 = .ok (.iinc 4 1, 3) := by decide +kernel
theorem dX8_owner_111 : decode cX8_owner 111 = .ok (.goto (-46), 3) := by decide +kernel
theorem dX8_owner_114 : decode cX8_owner 114 = .ok (.iload_n 3, 1) := by decide +kernel
theorem dX8_owner_115 : decode cX8_owner 115 = .ok (.ifCond .eq 5, 3) := by decide +kernel
theorem dX8_owner_118 : decode cX8_owner 118 = .ok (.iload_n 2, 1) := by decide +kernel
theorem dX8_owner_119 : decode cX8_owner 119 = .ok (.ireturn, 1) := by decide +kernel
theorem dX8_owner_120 : decode cX8_owner 120 = .ok (.iinc 2 1, 3) := by decide +kernel
theorem dX8_owner_123 : decode cX8_owner 123 = .ok (.goto (-121), 3) := by decide +kernel
theorem dX8_owner_126 : decode cX8_owner 126 = .ok (.bipush (-4), 2) := by decide +kernel
theorem dX8_owner_128 : decode cX8_owner 128 = .ok (.ireturn, 1) := by decide +kernel
theorem dX8_isSpoilt_0 : decode cX8_isSpoilt 0 = .ok (.iconst 0, 1) := by decide +kernel
theorem dX8_isSpoilt_1 : decode cX8_isSpoilt 1 = .ok (.istore_n 1, 1) := by decide +kernel
theorem dX8_isSpoilt_2 : decode cX8_isSpoilt 2 = .ok (.iconst 0, 1) := by decide +kernel
theorem dX8_isSpoilt_3 : decode cX8_isSpoilt 3 = .ok (.istore_n 2, 1) := by decide +kernel
theorem dX8_isSpoilt_4 : decode cX8_isSpoilt 4 = .ok (.iload_n 2, 1) := by decide +kernel
theorem dX8_isSpoilt_5 : decode cX8_isSpoilt 5 = .ok (.aload_n 0, 1) := by decide +kernel
theorem dX8_isSpoilt_6 : decode cX8_isSpoilt 6 = .ok (.invokevirtual 35, 3) := by decide +kernel
theorem dX8_isSpoilt_9 : decode cX8_isSpoilt 9 = .ok (.if_icmp .ge 42, 3) := by decide +kernel
theorem dX8_isSpoilt_12 : decode cX8_isSpoilt 12 = .ok (.iload_n 1, 1) := by decide +kernel
theorem dX8_isSpoilt_13 : decode cX8_isSpoilt 13 = .ok (.ifCond .ne 26, 3) := by decide +kernel
theorem dX8_isSpoilt_16 : decode cX8_isSpoilt 16 = .ok (.aload_n 0, 1) := by decide +kernel
theorem dX8_isSpoilt_17 : decode cX8_isSpoilt 17 = .ok (.iload_n 2, 1) := by decide +kernel
theorem dX8_isSpoilt_18 : decode cX8_isSpoilt 18 = .ok (.invokevirtual 141, 3) := by decide +kernel
theorem dX8_isSpoilt_21 : decode cX8_isSpoilt 21 = .ok (.aload_n 0, 1) := by decide +kernel
theorem dX8_isSpoilt_22 : decode cX8_isSpoilt 22 = .ok (.iload_n 2, 1) := by decide +kernel
theorem dX8_isSpoilt_23 : decode cX8_isSpoilt 23 = .ok (.invokevirtual 197, 3) := by decide +kernel
theorem dX8_isSpoilt_26 : decode cX8_isSpoilt 26 = .ok (.bipush (-4), 2) := by decide +kernel
theorem dX8_isSpoilt_28 : decode cX8_isSpoilt 28 = .ok (.if_icmp .ne 7, 3) := by decide +kernel
theorem dX8_isSpoilt_31 : decode cX8_isSpoilt 31 = .ok (.iconst 1, 1) := by decide +kernel
theorem dX8_isSpoilt_32 : decode cX8_isSpoilt 32 = .ok (.goto 4, 3) := by decide +kernel
theorem dX8_isSpoilt_35 : decode cX8_isSpoilt 35 = .ok (.iconst 0, 1) := by decide +kernel
theorem dX8_isSpoilt_36 : decode cX8_isSpoilt 36 = .ok (.if_icmp .eq 7, 3) := by decide +kernel
theorem dX8_isSpoilt_39 : decode cX8_isSpoilt 39 = .ok (.iconst 1, 1) := by decide +kernel
theorem dX8_isSpoilt_40 : decode cX8_isSpoilt 40 = .ok (.goto 4, 3) := by decide +kernel
theorem dX8_isSpoilt_43 : decode cX8_isSpoilt 43 = .ok (.iconst 0, 1) := by decide +kernel
theorem dX8_isSpoilt_44 : decode cX8_isSpoilt 44 = .ok (.istore_n 1, 1) := by decide +kernel
theorem dX8_isSpoilt_45 : decode cX8_isSpoilt 45 = .ok (.iinc 2 1, 3) := by decide +kernel
theorem dX8_isSpoilt_48 : decode cX8_isSpoilt 48 = .ok (.goto (-44), 3) := by decide +kernel
theorem dX8_isSpoilt_51 : decode cX8_isSpoilt 51 = .ok (.iload_n 1, 1) := by decide +kernel
theorem dX8_isSpoilt_52 : decode cX8_isSpoilt 52 = .ok (.ireturn, 1) := by decide +kernel
theorem dX8_pairs_0 : decode cX8_pairs 0 = .ok (.iconst 0, 1) := by decide +kernel
theorem dX8_pairs_1 : decode cX8_pairs 1 = .ok (.istore_n 2, 1) := by decide +kernel
theorem dX8_pairs_2 : decode cX8_pairs 2 = .ok (.iconst 1, 1) := by decide +kernel
theorem dX8_pairs_3 : decode cX8_pairs 3 = .ok (.istore_n 3, 1) := by decide +kernel
theorem dX8_pairs_4 : decode cX8_pairs 4 = .ok (.iload_n 3, 1) := by decide +kernel
theorem dX8_pairs_5 : decode cX8_pairs 5 = .ok (.aload_n 0, 1) := by decide +kernel
theorem dX8_pairs_6 : decode cX8_pairs 6 = .ok (.iload_n 1, 1) := by decide +kernel
theorem dX8_pairs_7 : decode cX8_pairs 7 = .ok (.invokevirtual 194, 3) := by decide +kernel
theorem dX8_pairs_10 : decode cX8_pairs 10 = .ok (.if_icmp .ge 31, 3) := by decide +kernel
theorem dX8_pairs_13 : decode cX8_pairs 13 = .ok (.iload_n 2, 1) := by decide +kernel
theorem dX8_pairs_14 : decode cX8_pairs 14 = .ok (.iload_n 3, 1) := by decide +kernel
theorem dX8_pairs_15 : decode cX8_pairs 15 = .ok (.aload_n 0, 1) := by decide +kernel
theorem dX8_pairs_16 : decode cX8_pairs 16 = .ok (.getfield 7, 3) := by decide +kernel
theorem dX8_pairs_19 : decode cX8_pairs 19 = .ok (.iconst 5, 1) := by decide +kernel
theorem dX8_pairs_20 : decode cX8_pairs 20 = .ok (.iaload, 1) := by decide +kernel
theorem dX8_pairs_21 : decode cX8_pairs 21 = .ok (.irem, 1) := by decide +kernel
theorem dX8_pairs_22 : decode cX8_pairs 22 = .ok (.ifCond .eq 7, 3) := by decide +kernel
theorem dX8_pairs_25 : decode cX8_pairs 25 = .ok (.iconst 1, 1) := by decide +kernel
theorem dX8_pairs_26 : decode cX8_pairs 26 = .ok (.goto 4, 3) := by decide +kernel
theorem dX8_pairs_29 : decode cX8_pairs 29 = .ok (.iconst 0, 1) := by decide +kernel
theorem dX8_pairs_30 : decode cX8_pairs 30 = .ok (.invokestatic 133, 3) := by decide +kernel
theorem dX8_pairs_33 : decode cX8_pairs 33 = .ok (.iadd, 1) := by decide +kernel
theorem dX8_pairs_34 : decode cX8_pairs 34 = .ok (.istore_n 2, 1) := by decide +kernel
theorem dX8_pairs_35 : decode cX8_pairs 35 = .ok (.iinc 3 1, 3) := by decide +kernel
theorem dX8_pairs_38 : decode cX8_pairs 38 = .ok (.goto (-34), 3) := by decide +kernel
theorem dX8_pairs_41 : decode cX8_pairs 41 = .ok (.iload_n 2, 1) := by decide +kernel
theorem dX8_pairs_42 : decode cX8_pairs 42 = .ok (.ireturn, 1) := by decide +kernel
theorem dX8_follows_0 : decode cX8_follows 0 = .ok (.iconst 0, 1) := by decide +kernel
theorem dX8_follows_1 : decode cX8_follows 1 = .ok (.istore_n 2, 1) := by decide +kernel
theorem dX8_follows_2 : decode cX8_follows 2 = .ok (.iconst 1, 1) := by decide +kernel
theorem dX8_follows_3 : decode cX8_follows 3 = .ok (.istore_n 3, 1) := by decide +kernel
theorem dX8_follows_4 : decode cX8_follows 4 = .ok (.iload_n 3, 1) := by decide +kernel
theorem dX8_follows_5 : decode cX8_follows 5 = .ok (.aload_n 0, 1) := by decide +kernel
theorem dX8_follows_6 : decode cX8_follows 6 = .ok (.iload_n 1, 1) := by decide +kernel
theorem dX8_follows_7 : decode cX8_follows 7 = .ok (.invokevirtual 194, 3) := by decide +kernel
theorem dX8_follows_10 : decode cX8_follows 10 = .ok (.if_icmp .ge 111, 3) := by decide +kernel
theorem dX8_follows_13 : decode cX8_follows 13 = .ok (.aload_n 0, 1) := by decide +kernel
theorem dX8_follows_14 : decode cX8_follows 14 = .ok (.iload_n 1, 1) := by decide +kernel
theorem dX8_follows_15 : decode cX8_follows 15 = .ok (.iconst 5, 1) := by decide +kernel
theorem dX8_follows_16 : decode cX8_follows 16 = .ok (.iload_n 3, 1) := by decide +kernel
theorem dX8_follows_17 : decode cX8_follows 17 = .ok (.iadd, 1) := by decide +kernel
theorem dX8_follows_18 : decode cX8_follows 18 = .ok (.iconst 1, 1) := by decide +kernel
theorem dX8_follows_19 : decode cX8_follows 19 = .ok (.isub, 1) := by decide +kernel
theorem dX8_follows_20 : decode cX8_follows 20 = .ok (.invokevirtual 173, 3) := by decide +kernel
theorem dX8_follows_23 : decode cX8_follows 23 = .ok (.istore 4, 2) := by decide +kernel
theorem dX8_follows_25 : decode cX8_follows 25 = .ok (.aload_n 0, 1) := by decide +kernel
theorem dX8_follows_26 : decode cX8_follows 26 = .ok (.iload_n 1, 1) := by decide +kernel
theorem dX8_follows_27 : decode cX8_follows 27 = .ok (.iconst 5, 1) := by decide +kernel
theorem dX8_follows_28 : decode cX8_follows 28 = .ok (.iload_n 3, 1) := by decide +kernel
theorem dX8_follows_29 : decode cX8_follows 29 = .ok (.iadd, 1) := by decide +kernel
theorem dX8_follows_30 : decode cX8_follows 30 = .ok (.invokevirtual 173, 3) := by decide +kernel
theorem dX8_follows_33 : decode cX8_follows 33 = .ok (.istore 5, 2) := by decide +kernel
theorem dX8_follows_35 : decode cX8_follows 35 = .ok (.iload_n 2, 1) := by decide +kernel
theorem dX8_follows_36 : decode cX8_follows 36 = .ok (.iload_n 3, 1) := by decide +kernel
theorem dX8_follows_37 : decode cX8_follows 37 = .ok (.aload_n 0, 1) := by decide +kernel
theorem dX8_follows_38 : decode cX8_follows 38 = .ok (.getfield 7, 3) := by decide +kernel
theorem dX8_follows_41 : decode cX8_follows 41 = .ok (.iconst 5, 1) := by decide +kernel
theorem dX8_follows_42 : decode cX8_follows 42 = .ok (.iaload, 1) := by decide +kernel
theorem dX8_follows_43 : decode cX8_follows 43 = .ok (.irem, 1) := by decide +kernel
theorem dX8_follows_44 : decode cX8_follows 44 = .ok (.ifCond .eq 65, 3) := by decide +kernel
theorem dX8_follows_47 : decode cX8_follows 47 = .ok (.iload 4, 2) := by decide +kernel
theorem dX8_follows_49 : decode cX8_follows 49 = .ok (.aload_n 0, 1) := by decide +kernel
theorem dX8_follows_50 : decode cX8_follows 50 = .ok (.getfield 7, 3) := by decide +kernel
theorem dX8_follows_53 : decode cX8_follows 53 = .ok (.iconst 1, 1) := by decide +kernel
theorem dX8_follows_54 : decode cX8_follows 54 = .ok (.iaload, 1) := by decide +kernel
theorem dX8_follows_55 : decode cX8_follows 55 = .ok (.idiv, 1) := by decide +kernel
theorem dX8_follows_56 : decode cX8_follows 56 = .ok (.iload 5, 2) := by decide +kernel
theorem dX8_follows_58 : decode cX8_follows 58 = .ok (.aload_n 0, 1) := by decide +kernel
theorem dX8_follows_59 : decode cX8_follows 59 = .ok (.getfield 7, 3) := by decide +kernel
theorem dX8_follows_62 : decode cX8_follows 62 = .ok (.iconst 1, 1) := by decide +kernel
theorem dX8_follows_63 : decode cX8_follows 63 = .ok (.iaload, 1) := by decide +kernel
theorem dX8_follows_64 : decode cX8_follows 64 = .ok (.idiv, 1) := by decide +kernel
theorem dX8_follows_65 : decode cX8_follows 65 = .ok (.if_icmp .ne 44, 3) := by decide +kernel
theorem dX8_follows_68 : decode cX8_follows 68 = .ok (.iload 5, 2) := by decide +kernel
theorem dX8_follows_70 : decode cX8_follows 70 = .ok (.aload_n 0, 1) := by decide +kernel
theorem dX8_follows_71 : decode cX8_follows 71 = .ok (.getfield 7, 3) := by decide +kernel
theorem dX8_follows_74 : decode cX8_follows 74 = .ok (.iconst 1, 1) := by decide +kernel
theorem dX8_follows_75 : decode cX8_follows 75 = .ok (.iaload, 1) := by decide +kernel
theorem dX8_follows_76 : decode cX8_follows 76 = .ok (.irem, 1) := by decide +kernel
theorem dX8_follows_77 : decode cX8_follows 77 = .ok (.iload 4, 2) := by decide +kernel
theorem dX8_follows_79 : decode cX8_follows 79 = .ok (.aload_n 0, 1) := by decide +kernel
theorem dX8_follows_80 : decode cX8_follows 80 = .ok (.getfield 7, 3) := by decide +kernel
theorem dX8_follows_83 : decode cX8_follows 83 = .ok (.iconst 1, 1) := by decide +kernel
theorem dX8_follows_84 : decode cX8_follows 84 = .ok (.iaload, 1) := by decide +kernel
theorem dX8_follows_85 : decode cX8_follows 85 = .ok (.irem, 1) := by decide +kernel
theorem dX8_follows_86 : decode cX8_follows 86 = .ok (.iconst 1, 1) := by decide +kernel
theorem dX8_follows_87 : decode cX8_follows 87 = .ok (.iadd, 1) := by decide +kernel
theorem dX8_follows_88 : decode cX8_follows 88 = .ok (.aload_n 0, 1) := by decide +kernel
theorem dX8_follows_89 : decode cX8_follows 89 = .ok (.getfield 7, 3) := by decide +kernel
theorem dX8_follows_92 : decode cX8_follows 92 = .ok (.iconst 3, 1) := by decide +kernel
theorem dX8_follows_93 : decode cX8_follows 93 = .ok (.iaload, 1) := by decide +kernel
theorem dX8_follows_94 : decode cX8_follows 94 = .ok (.iadd, 1) := by decide +kernel
theorem dX8_follows_95 : decode cX8_follows 95 = .ok (.aload_n 0, 1) := by decide +kernel
theorem dX8_follows_96 : decode cX8_follows 96 = .ok (.getfield 7, 3) := by decide +kernel
theorem dX8_follows_99 : decode cX8_follows 99 = .ok (.iconst 1, 1) := by decide +kernel
theorem dX8_follows_100 : decode cX8_follows 100 = .ok (.iaload, 1) := by decide +kernel
theorem dX8_follows_101 : decode cX8_follows 101 = .ok (.irem, 1) := by decide +kernel
theorem dX8_follows_102 : decode cX8_follows 102 = .ok (.if_icmp .ne 7, 3) := by decide +kernel
theorem dX8_follows_105 : decode cX8_follows 105 = .ok (.iconst 1, 1) := by decide +kernel
theorem dX8_follows_106 : decode cX8_follows 106 = .ok (.goto 4, 3) := by decide +kernel
theorem dX8_follows_109 : decode cX8_follows 109 = .ok (.iconst 0, 1) := by decide +kernel
theorem dX8_follows_110 : decode cX8_follows 110 = .ok (.invokestatic 133, 3) := by decide +kernel
theorem dX8_follows_113 : decode cX8_follows 113 = .ok (.iadd, 1) := by decide +kernel
theorem dX8_follows_114 : decode cX8_follows 114 = .ok (.istore_n 2, 1) := by decide +kernel
theorem dX8_follows_115 : decode cX8_follows 115 = .ok (.iinc 3 1, 3) := by decide +kernel
theorem dX8_follows_118 : decode cX8_follows 118 = .ok (.goto (-114), 3) := by decide +kernel
theorem dX8_follows_121 : decode cX8_follows 121 = .ok (.iload_n 2, 1) := by decide +kernel
theorem dX8_follows_122 : decode cX8_follows 122 = .ok (.ireturn, 1) := by decide +kernel
theorem dX8_ofKind_0 : decode cX8_ofKind 0 = .ok (.iconst 0, 1) := by decide +kernel
theorem dX8_ofKind_1 : decode cX8_ofKind 1 = .ok (.istore_n 2, 1) := by decide +kernel
theorem dX8_ofKind_2 : decode cX8_ofKind 2 = .ok (.iconst 0, 1) := by decide +kernel
theorem dX8_ofKind_3 : decode cX8_ofKind 3 = .ok (.istore_n 3, 1) := by decide +kernel
theorem dX8_ofKind_4 : decode cX8_ofKind 4 = .ok (.iload_n 3, 1) := by decide +kernel
theorem dX8_ofKind_5 : decode cX8_ofKind 5 = .ok (.aload_n 0, 1) := by decide +kernel
theorem dX8_ofKind_6 : decode cX8_ofKind 6 = .ok (.invokevirtual 167, 3) := by decide +kernel
theorem dX8_ofKind_9 : decode cX8_ofKind 9 = .ok (.if_icmp .ge 30, 3) := by decide +kernel
theorem dX8_ofKind_12 : decode cX8_ofKind 12 = .ok (.iload_n 2, 1) := by decide +kernel
theorem dX8_ofKind_13 : decode cX8_ofKind 13 = .ok (.aload_n 0, 1) := by decide +kernel
theorem dX8_ofKind_14 : decode cX8_ofKind 14 = .ok (.iload_n 3, 1) := by decide +kernel
theorem dX8_ofKind_15 : decode cX8_ofKind 15 = .ok (.iconst 0, 1) := by decide +kernel
theorem dX8_ofKind_16 : decode cX8_ofKind 16 = .ok (.invokevirtual 173, 3) := by decide +kernel
theorem dX8_ofKind_19 : decode cX8_ofKind 19 = .ok (.iload_n 1, 1) := by decide +kernel
theorem dX8_ofKind_20 : decode cX8_ofKind 20 = .ok (.if_icmp .ne 7, 3) := by decide +kernel
theorem dX8_ofKind_23 : decode cX8_ofKind 23 = .ok (.iconst 1, 1) := by decide +kernel
theorem dX8_ofKind_24 : decode cX8_ofKind 24 = .ok (.goto 4, 3) := by decide +kernel
theorem dX8_ofKind_27 : decode cX8_ofKind 27 = .ok (.iconst 0, 1) := by decide +kernel
theorem dX8_ofKind_28 : decode cX8_ofKind 28 = .ok (.invokestatic 133, 3) := by decide +kernel
theorem dX8_ofKind_31 : decode cX8_ofKind 31 = .ok (.iadd, 1) := by decide +kernel
theorem dX8_ofKind_32 : decode cX8_ofKind 32 = .ok (.istore_n 2, 1) := by decide +kernel
theorem dX8_ofKind_33 : decode cX8_ofKind 33 = .ok (.iinc 3 1, 3) := by decide +kernel
theorem dX8_ofKind_36 : decode cX8_ofKind 36 = .ok (.goto (-32), 3) := by decide +kernel
theorem dX8_ofKind_39 : decode cX8_ofKind 39 = .ok (.iload_n 2, 1) := by decide +kernel
theorem dX8_ofKind_40 : decode cX8_ofKind 40 = .ok (.ireturn, 1) := by decide +kernel
theorem dX8_summed_0 : decode cX8_summed 0 = .ok (.iconst 0, 1) := by decide +kernel
theorem dX8_summed_1 : decode cX8_summed 1 = .ok (.istore_n 2, 1) := by decide +kernel
theorem dX8_summed_2 : decode cX8_summed 2 = .ok (.iconst 0, 1) := by decide +kernel
theorem dX8_summed_3 : decode cX8_summed 3 = .ok (.istore_n 3, 1) := by decide +kernel
theorem dX8_summed_4 : decode cX8_summed 4 = .ok (.iload_n 3, 1) := by decide +kernel
theorem dX8_summed_5 : decode cX8_summed 5 = .ok (.aload_n 0, 1) := by decide +kernel
theorem dX8_summed_6 : decode cX8_summed 6 = .ok (.invokevirtual 167, 3) := by decide +kernel
theorem dX8_summed_9 : decode cX8_summed 9 = .ok (.if_icmp .ge 58, 3) := by decide +kernel
theorem dX8_summed_12 : decode cX8_summed 12 = .ok (.iload_n 2, 1) := by decide +kernel
theorem dX8_summed_13 : decode cX8_summed 13 = .ok (.aload_n 0, 1) := by decide +kernel
theorem dX8_summed_14 : decode cX8_summed 14 = .ok (.iload_n 3, 1) := by decide +kernel
theorem dX8_summed_15 : decode cX8_summed 15 = .ok (.invokevirtual 176, 3) := by decide +kernel
theorem dX8_summed_18 : decode cX8_summed 18 = .ok (.ifCond .ne 7, 3) := by decide +kernel
theorem dX8_summed_21 : decode cX8_summed 21 = .ok (.iconst 0, 1) := by decide +kernel
theorem dX8_summed_22 : decode cX8_summed 22 = .ok (.goto 37, 3) := by decide +kernel
theorem dX8_summed_25 : decode cX8_summed 25 = .ok (.iload_n 1, 1) := by decide +kernel
theorem dX8_summed_26 : decode cX8_summed 26 = .ok (.bipush 10, 2) := by decide +kernel
theorem dX8_summed_28 : decode cX8_summed 28 = .ok (.if_icmp .ne 12, 3) := by decide +kernel
theorem dX8_summed_31 : decode cX8_summed 31 = .ok (.aload_n 0, 1) := by decide +kernel
theorem dX8_summed_32 : decode cX8_summed 32 = .ok (.iload_n 3, 1) := by decide +kernel
theorem dX8_summed_33 : decode cX8_summed 33 = .ok (.iconst 3, 1) := by decide +kernel
theorem dX8_summed_34 : decode cX8_summed 34 = .ok (.invokevirtual 173, 3) := by decide +kernel
theorem dX8_summed_37 : decode cX8_summed 37 = .ok (.goto 22, 3) := by decide +kernel
theorem dX8_summed_40 : decode cX8_summed 40 = .ok (.iload_n 1, 1) := by decide +kernel
theorem dX8_summed_41 : decode cX8_summed 41 = .ok (.bipush 11, 2) := by decide +kernel
theorem dX8_summed_43 : decode cX8_summed 43 = .ok (.if_icmp .ne 11, 3) := by decide +kernel
theorem dX8_summed_46 : decode cX8_summed 46 = .ok (.aload_n 0, 1) := by decide +kernel
theorem dX8_summed_47 : decode cX8_summed 47 = .ok (.iload_n 3, 1) := by decide +kernel
theorem dX8_summed_48 : decode cX8_summed 48 = .ok (.invokevirtual 200, 3) := by decide +kernel
theorem dX8_summed_51 : decode cX8_summed 51 = .ok (.goto 8, 3) := by decide +kernel
theorem dX8_summed_54 : decode cX8_summed 54 = .ok (.aload_n 0, 1) := by decide +kernel
theorem dX8_summed_55 : decode cX8_summed 55 = .ok (.iload_n 3, 1) := by decide +kernel
theorem dX8_summed_56 : decode cX8_summed 56 = .ok (.invokevirtual 203, 3) := by decide +kernel
theorem dX8_summed_59 : decode cX8_summed 59 = .ok (.iadd, 1) := by decide +kernel
theorem dX8_summed_60 : decode cX8_summed 60 = .ok (.istore_n 2, 1) := by decide +kernel
theorem dX8_summed_61 : decode cX8_summed 61 = .ok (.iinc 3 1, 3) := by decide +kernel
theorem dX8_summed_64 : decode cX8_summed 64 = .ok (.goto (-60), 3) := by decide +kernel
theorem dX8_summed_67 : decode cX8_summed 67 = .ok (.iload_n 2, 1) := by decide +kernel
theorem dX8_summed_68 : decode cX8_summed 68 = .ok (.ireturn, 1) := by decide +kernel
theorem dX8_rule_0 : decode cX8_rule 0 = .ok (.iload_n 1, 1) := by decide +kernel
theorem dX8_rule_1 : decode cX8_rule 1 = .ok (.tableswitch 120 0 14 #[75, 75, 75, 75, 75, 75, 82, 87, 92, 92, 101, 101, 101, 107, 107], 75) := by decide +kernel
theorem dX8_rule_76 : decode cX8_rule 76 = .ok (.aload_n 0, 1) := by decide +kernel
theorem dX8_rule_77 : decode cX8_rule 77 = .ok (.getfield 7, 3) := by decide +kernel
theorem dX8_rule_80 : decode cX8_rule 80 = .ok (.iload_n 1, 1) := by decide +kernel
theorem dX8_rule_81 : decode cX8_rule 81 = .ok (.iaload, 1) := by decide +kernel
theorem dX8_rule_82 : decode cX8_rule 82 = .ok (.ireturn, 1) := by decide +kernel
theorem dX8_rule_83 : decode cX8_rule 83 = .ok (.aload_n 0, 1) := by decide +kernel
theorem dX8_rule_84 : decode cX8_rule 84 = .ok (.invokevirtual 206, 3) := by decide +kernel
theorem dX8_rule_87 : decode cX8_rule 87 = .ok (.ireturn, 1) := by decide +kernel
theorem dX8_rule_88 : decode cX8_rule 88 = .ok (.aload_n 0, 1) := by decide +kernel
theorem dX8_rule_89 : decode cX8_rule 89 = .ok (.invokevirtual 209, 3) := by decide +kernel
theorem dX8_rule_92 : decode cX8_rule 92 = .ok (.ireturn, 1) := by decide +kernel
theorem dX8_rule_93 : decode cX8_rule 93 = .ok (.aload_n 0, 1) := by decide +kernel
theorem dX8_rule_94 : decode cX8_rule 94 = .ok (.iload_n 1, 1) := by decide +kernel
theorem dX8_rule_95 : decode cX8_rule 95 = .ok (.bipush 7, 2) := by decide +kernel
theorem dX8_rule_97 : decode cX8_rule 97 = .ok (.isub, 1) := by decide +kernel
theorem dX8_rule_98 : decode cX8_rule 98 = .ok (.invokevirtual 212, 3) := by decide +kernel
theorem dX8_rule_101 : decode cX8_rule 101 = .ok (.ireturn, 1) := by decide +kernel
theorem dX8_rule_102 : decode cX8_rule 102 = .ok (.aload_n 0, 1) := by decide +kernel
theorem dX8_rule_103 : decode cX8_rule 103 = .ok (.iload_n 1, 1) := by decide +kernel
theorem dX8_rule_104 : decode cX8_rule 104 = .ok (.invokevirtual 215, 3) := by decide +kernel
theorem dX8_rule_107 : decode cX8_rule 107 = .ok (.ireturn, 1) := by decide +kernel
theorem dX8_rule_108 : decode cX8_rule 108 = .ok (.aload_n 0, 1) := by decide +kernel
theorem dX8_rule_109 : decode cX8_rule 109 = .ok (.getfield 7, 3) := by decide +kernel
theorem dX8_rule_112 : decode cX8_rule 112 = .ok (.bipush 6, 2) := by decide +kernel
theorem dX8_rule_114 : decode cX8_rule 114 = .ok (.iload_n 1, 1) := by decide +kernel
theorem dX8_rule_115 : decode cX8_rule 115 = .ok (.iadd, 1) := by decide +kernel
theorem dX8_rule_116 : decode cX8_rule 116 = .ok (.bipush 13, 2) := by decide +kernel
theorem dX8_rule_118 : decode cX8_rule 118 = .ok (.isub, 1) := by decide +kernel
theorem dX8_rule_119 : decode cX8_rule 119 = .ok (.iaload, 1) := by decide +kernel
theorem dX8_rule_120 : decode cX8_rule 120 = .ok (.ireturn, 1) := by decide +kernel
theorem dX8_rule_121 : decode cX8_rule 121 = .ok (.iconst (-1), 1) := by decide +kernel
theorem dX8_rule_122 : decode cX8_rule 122 = .ok (.ireturn, 1) := by decide +kernel
theorem dX8_group_0 : decode cX8_group 0 = .ok (.iload_n 1, 1) := by decide +kernel
theorem dX8_group_1 : decode cX8_group 1 = .ok (.i2l, 1) := by decide +kernel
theorem dX8_group_2 : decode cX8_group 2 = .ok (.lconst 0, 1) := by decide +kernel
theorem dX8_group_3 : decode cX8_group 3 = .ok (.aload_n 0, 1) := by decide +kernel
theorem dX8_group_4 : decode cX8_group 4 = .ok (.getfield 7, 3) := by decide +kernel
theorem dX8_group_7 : decode cX8_group 7 = .ok (.iconst 0, 1) := by decide +kernel
theorem dX8_group_8 : decode cX8_group 8 = .ok (.iaload, 1) := by decide +kernel
theorem dX8_group_9 : decode cX8_group 9 = .ok (.iconst 1, 1) := by decide +kernel
theorem dX8_group_10 : decode cX8_group 10 = .ok (.isub, 1) := by decide +kernel
theorem dX8_group_11 : decode cX8_group 11 = .ok (.i2l, 1) := by decide +kernel
theorem dX8_group_12 : decode cX8_group 12 = .ok (.invokestatic 41, 3) := by decide +kernel
theorem dX8_group_15 : decode cX8_group 15 = .ok (.ifCond .ne 5, 3) := by decide +kernel
theorem dX8_group_18 : decode cX8_group 18 = .ok (.iconst (-1), 1) := by decide +kernel
theorem dX8_group_19 : decode cX8_group 19 = .ok (.ireturn, 1) := by decide +kernel
theorem dX8_group_20 : decode cX8_group 20 = .ok (.iload_n 2, 1) := by decide +kernel
theorem dX8_group_21 : decode cX8_group 21 = .ok (.tableswitch 93 0 6 #[43, 66, 72, 78, 84, 84, 84], 43) := by decide +kernel
theorem dX8_group_64 : decode cX8_group 64 = .ok (.aload_n 0, 1) := by decide +kernel
theorem dX8_group_65 : decode cX8_group 65 = .ok (.iconst 4, 1) := by decide +kernel
theorem dX8_group_66 : decode cX8_group 66 = .ok (.aload_n 0, 1) := by decide +kernel
theorem dX8_group_67 : decode cX8_group 67 = .ok (.getfield 7, 3) := by decide +kernel
theorem dX8_group_70 : decode cX8_group 70 = .ok (.iconst 1, 1) := by decide +kernel
theorem dX8_group_71 : decode cX8_group 71 = .ok (.iaload, 1) := by decide +kernel
theorem dX8_group_72 : decode cX8_group 72 = .ok (.imul, 1) := by decide +kernel
theorem dX8_group_73 : decode cX8_group 73 = .ok (.iload_n 1, 1) := by decide +kernel
theorem dX8_group_74 : decode cX8_group 74 = .ok (.imul, 1) := by decide +kernel
theorem dX8_group_75 : decode cX8_group 75 = .ok (.iconst 4, 1) := by decide +kernel
theorem dX8_group_76 : decode cX8_group 76 = .ok (.aload_n 0, 1) := by decide +kernel
theorem dX8_group_77 : decode cX8_group 77 = .ok (.getfield 7, 3) := by decide +kernel
theorem dX8_group_80 : decode cX8_group 80 = .ok (.iconst 1, 1) := by decide +kernel
theorem dX8_group_81 : decode cX8_group 81 = .ok (.iaload, 1) := by decide +kernel
theorem dX8_group_82 : decode cX8_group 82 = .ok (.imul, 1) := by decide +kernel
theorem dX8_group_83 : decode cX8_group 83 = .ok (.invokevirtual 155, 3) := by decide +kernel
theorem dX8_group_86 : decode cX8_group 86 = .ok (.ireturn, 1) := by decide +kernel
theorem dX8_group_87 : decode cX8_group 87 = .ok (.aload_n 0, 1) := by decide +kernel
theorem dX8_group_88 : decode cX8_group 88 = .ok (.iload_n 1, 1) := by decide +kernel
theorem dX8_group_89 : decode cX8_group 89 = .ok (.invokevirtual 152, 3) := by decide +kernel
theorem dX8_group_92 : decode cX8_group 92 = .ok (.ireturn, 1) := by decide +kernel
theorem dX8_group_93 : decode cX8_group 93 = .ok (.aload_n 0, 1) := by decide +kernel
theorem dX8_group_94 : decode cX8_group 94 = .ok (.iload_n 1, 1) := by decide +kernel
theorem dX8_group_95 : decode cX8_group 95 = .ok (.invokevirtual 179, 3) := by decide +kernel
theorem dX8_group_98 : decode cX8_group 98 = .ok (.ireturn, 1) := by decide +kernel
theorem dX8_group_99 : decode cX8_group 99 = .ok (.aload_n 0, 1) := by decide +kernel
theorem dX8_group_100 : decode cX8_group 100 = .ok (.iload_n 1, 1) := by decide +kernel
theorem dX8_group_101 : decode cX8_group 101 = .ok (.invokevirtual 182, 3) := by decide +kernel
theorem dX8_group_104 : decode cX8_group 104 = .ok (.ireturn, 1) := by decide +kernel
theorem dX8_group_105 : decode cX8_group 105 = .ok (.aload_n 0, 1) := by decide +kernel
theorem dX8_group_106 : decode cX8_group 106 = .ok (.iload_n 1, 1) := by decide +kernel
theorem dX8_group_107 : decode cX8_group 107 = .ok (.iload_n 2, 1) := by decide +kernel
theorem dX8_group_108 : decode cX8_group 108 = .ok (.iconst 3, 1) := by decide +kernel
theorem dX8_group_109 : decode cX8_group 109 = .ok (.isub, 1) := by decide +kernel
theorem dX8_group_110 : decode cX8_group 110 = .ok (.invokevirtual 218, 3) := by decide +kernel
theorem dX8_group_113 : decode cX8_group 113 = .ok (.ireturn, 1) := by decide +kernel
theorem dX8_group_114 : decode cX8_group 114 = .ok (.iconst (-1), 1) := by decide +kernel
theorem dX8_group_115 : decode cX8_group 115 = .ok (.ireturn, 1) := by decide +kernel
theorem dX8_inode_0 : decode cX8_inode 0 = .ok (.aload_n 0, 1) := by decide +kernel
theorem dX8_inode_1 : decode cX8_inode 1 = .ok (.iload_n 1, 1) := by decide +kernel
theorem dX8_inode_2 : decode cX8_inode 2 = .ok (.invokevirtual 170, 3) := by decide +kernel
theorem dX8_inode_5 : decode cX8_inode 5 = .ok (.ifCond .eq 15, 3) := by decide +kernel
theorem dX8_inode_8 : decode cX8_inode 8 = .ok (.iload_n 2, 1) := by decide +kernel
theorem dX8_inode_9 : decode cX8_inode 9 = .ok (.i2l, 1) := by decide +kernel
theorem dX8_inode_10 : decode cX8_inode 10 = .ok (.lconst 0, 1) := by decide +kernel
theorem dX8_inode_11 : decode cX8_inode 11 = .ok (.ldc2_w 221, 3) := by decide +kernel
theorem dX8_inode_14 : decode cX8_inode 14 = .ok (.invokestatic 41, 3) := by decide +kernel
theorem dX8_inode_17 : decode cX8_inode 17 = .ok (.ifCond .ne 5, 3) := by decide +kernel
theorem dX8_inode_20 : decode cX8_inode 20 = .ok (.iconst (-1), 1) := by decide +kernel
theorem dX8_inode_21 : decode cX8_inode 21 = .ok (.ireturn, 1) := by decide +kernel
theorem dX8_inode_22 : decode cX8_inode 22 = .ok (.iload_n 2, 1) := by decide +kernel
theorem dX8_inode_23 : decode cX8_inode 23 = .ok (.ifCond .eq 11, 3) := by decide +kernel
theorem dX8_inode_26 : decode cX8_inode 26 = .ok (.aload_n 0, 1) := by decide +kernel
theorem dX8_inode_27 : decode cX8_inode 27 = .ok (.iload_n 1, 1) := by decide +kernel
theorem dX8_inode_28 : decode cX8_inode 28 = .ok (.invokevirtual 176, 3) := by decide +kernel
theorem dX8_inode_31 : decode cX8_inode 31 = .ok (.ifCond .ne 19, 3) := by decide +kernel
theorem dX8_inode_34 : decode cX8_inode 34 = .ok (.iload_n 2, 1) := by decide +kernel
theorem dX8_inode_35 : decode cX8_inode 35 = .ok (.ifCond .ne 12, 3) := by decide +kernel
theorem dX8_inode_38 : decode cX8_inode 38 = .ok (.aload_n 0, 1) := by decide +kernel
theorem dX8_inode_39 : decode cX8_inode 39 = .ok (.iload_n 1, 1) := by decide +kernel
theorem dX8_inode_40 : decode cX8_inode 40 = .ok (.iconst 0, 1) := by decide +kernel
theorem dX8_inode_41 : decode cX8_inode 41 = .ok (.invokevirtual 173, 3) := by decide +kernel
theorem dX8_inode_44 : decode cX8_inode 44 = .ok (.goto 5, 3) := by decide +kernel
theorem dX8_inode_47 : decode cX8_inode 47 = .ok (.bipush (-4), 2) := by decide +kernel
theorem dX8_inode_49 : decode cX8_inode 49 = .ok (.ireturn, 1) := by decide +kernel
theorem dX8_inode_50 : decode cX8_inode 50 = .ok (.iload_n 2, 1) := by decide +kernel
theorem dX8_inode_51 : decode cX8_inode 51 = .ok (.tableswitch 76 1 6 #[37, 37, 37, 44, 50, 70], 37) := by decide +kernel
theorem dX8_inode_88 : decode cX8_inode 88 = .ok (.aload_n 0, 1) := by decide +kernel
theorem dX8_inode_89 : decode cX8_inode 89 = .ok (.iload_n 1, 1) := by decide +kernel
theorem dX8_inode_90 : decode cX8_inode 90 = .ok (.iload_n 2, 1) := by decide +kernel
theorem dX8_inode_91 : decode cX8_inode 91 = .ok (.invokevirtual 173, 3) := by decide +kernel
theorem dX8_inode_94 : decode cX8_inode 94 = .ok (.ireturn, 1) := by decide +kernel
theorem dX8_inode_95 : decode cX8_inode 95 = .ok (.aload_n 0, 1) := by decide +kernel
theorem dX8_inode_96 : decode cX8_inode 96 = .ok (.iload_n 1, 1) := by decide +kernel
theorem dX8_inode_97 : decode cX8_inode 97 = .ok (.invokevirtual 194, 3) := by decide +kernel
theorem dX8_inode_100 : decode cX8_inode 100 = .ok (.ireturn, 1) := by decide +kernel
theorem dX8_inode_101 : decode cX8_inode 101 = .ok (.aload_n 0, 1) := by decide +kernel
theorem dX8_inode_102 : decode cX8_inode 102 = .ok (.iload_n 1, 1) := by decide +kernel
theorem dX8_inode_103 : decode cX8_inode 103 = .ok (.invokevirtual 191, 3) := by decide +kernel
theorem dX8_inode_106 : decode cX8_inode 106 = .ok (.ifCond .ne 8, 3) := by decide +kernel
theorem dX8_inode_109 : decode cX8_inode 109 = .ok (.bipush (-4), 2) := by decide +kernel
theorem dX8_inode_111 : decode cX8_inode 111 = .ok (.goto 9, 3) := by decide +kernel
theorem dX8_inode_114 : decode cX8_inode 114 = .ok (.aload_n 0, 1) := by decide +kernel
theorem dX8_inode_115 : decode cX8_inode 115 = .ok (.iload_n 1, 1) := by decide +kernel
theorem dX8_inode_116 : decode cX8_inode 116 = .ok (.iconst 4, 1) := by decide +kernel
theorem dX8_inode_117 : decode cX8_inode 117 = .ok (.invokevirtual 173, 3) := by decide +kernel
theorem dX8_inode_120 : decode cX8_inode 120 = .ok (.ireturn, 1) := by decide +kernel
theorem dX8_inode_121 : decode cX8_inode 121 = .ok (.aload_n 0, 1) := by decide +kernel
theorem dX8_inode_122 : decode cX8_inode 122 = .ok (.iload_n 1, 1) := by decide +kernel
theorem dX8_inode_123 : decode cX8_inode 123 = .ok (.invokevirtual 200, 3) := by decide +kernel
theorem dX8_inode_126 : decode cX8_inode 126 = .ok (.ireturn, 1) := by decide +kernel
theorem dX8_inode_127 : decode cX8_inode 127 = .ok (.aload_n 0, 1) := by decide +kernel
theorem dX8_inode_128 : decode cX8_inode 128 = .ok (.iload_n 1, 1) := by decide +kernel
theorem dX8_inode_129 : decode cX8_inode 129 = .ok (.invokevirtual 203, 3) := by decide +kernel
theorem dX8_inode_132 : decode cX8_inode 132 = .ok (.ireturn, 1) := by decide +kernel
theorem dX8_block_0 : decode cX8_block 0 = .ok (.aload_n 0, 1) := by decide +kernel
theorem dX8_block_1 : decode cX8_block 1 = .ok (.iload_n 1, 1) := by decide +kernel
theorem dX8_block_2 : decode cX8_block 2 = .ok (.invokevirtual 170, 3) := by decide +kernel
theorem dX8_block_5 : decode cX8_block 5 = .ok (.ifCond .eq 7, 3) := by decide +kernel
theorem dX8_block_8 : decode cX8_block 8 = .ok (.iload_n 2, 1) := by decide +kernel
theorem dX8_block_9 : decode cX8_block 9 = .ok (.ifCond .ge 5, 3) := by decide +kernel
theorem dX8_block_12 : decode cX8_block 12 = .ok (.iconst (-1), 1) := by decide +kernel
theorem dX8_block_13 : decode cX8_block 13 = .ok (.ireturn, 1) := by decide +kernel
theorem dX8_block_14 : decode cX8_block 14 = .ok (.aload_n 0, 1) := by decide +kernel
theorem dX8_block_15 : decode cX8_block 15 = .ok (.iload_n 1, 1) := by decide +kernel
theorem dX8_block_16 : decode cX8_block 16 = .ok (.invokevirtual 176, 3) := by decide +kernel
theorem dX8_block_19 : decode cX8_block 19 = .ok (.ifCond .eq 23, 3) := by decide +kernel
theorem dX8_block_22 : decode cX8_block 22 = .ok (.iload_n 2, 1) := by decide +kernel
theorem dX8_block_23 : decode cX8_block 23 = .ok (.aload_n 0, 1) := by decide +kernel
theorem dX8_block_24 : decode cX8_block 24 = .ok (.iload_n 1, 1) := by decide +kernel
theorem dX8_block_25 : decode cX8_block 25 = .ok (.invokevirtual 194, 3) := by decide +kernel
theorem dX8_block_28 : decode cX8_block 28 = .ok (.if_icmp .ge 14, 3) := by decide +kernel
theorem dX8_block_31 : decode cX8_block 31 = .ok (.aload_n 0, 1) := by decide +kernel
theorem dX8_block_32 : decode cX8_block 32 = .ok (.iload_n 1, 1) := by decide +kernel
theorem dX8_block_33 : decode cX8_block 33 = .ok (.iconst 5, 1) := by decide +kernel
theorem dX8_block_34 : decode cX8_block 34 = .ok (.iload_n 2, 1) := by decide +kernel
theorem dX8_block_35 : decode cX8_block 35 = .ok (.iadd, 1) := by decide +kernel
theorem dX8_block_36 : decode cX8_block 36 = .ok (.invokevirtual 173, 3) := by decide +kernel
theorem dX8_block_39 : decode cX8_block 39 = .ok (.goto 5, 3) := by decide +kernel
theorem dX8_block_42 : decode cX8_block 42 = .ok (.bipush (-4), 2) := by decide +kernel
theorem dX8_block_44 : decode cX8_block 44 = .ok (.ireturn, 1) := by decide +kernel
theorem dX8_fragment_0 : decode cX8_fragment 0 = .ok (.iload_n 1, 1) := by decide +kernel
theorem dX8_fragment_1 : decode cX8_fragment 1 = .ok (.i2l, 1) := by decide +kernel
theorem dX8_fragment_2 : decode cX8_fragment 2 = .ok (.lconst 0, 1) := by decide +kernel
theorem dX8_fragment_3 : decode cX8_fragment 3 = .ok (.aload_n 0, 1) := by decide +kernel
theorem dX8_fragment_4 : decode cX8_fragment 4 = .ok (.invokevirtual 35, 3) := by decide +kernel
theorem dX8_fragment_7 : decode cX8_fragment 7 = .ok (.iconst 1, 1) := by decide +kernel
theorem dX8_fragment_8 : decode cX8_fragment 8 = .ok (.isub, 1) := by decide +kernel
theorem dX8_fragment_9 : decode cX8_fragment 9 = .ok (.i2l, 1) := by decide +kernel
theorem dX8_fragment_10 : decode cX8_fragment 10 = .ok (.invokestatic 41, 3) := by decide +kernel
theorem dX8_fragment_13 : decode cX8_fragment 13 = .ok (.ifCond .eq 13, 3) := by decide +kernel
theorem dX8_fragment_16 : decode cX8_fragment 16 = .ok (.iload_n 2, 1) := by decide +kernel
theorem dX8_fragment_17 : decode cX8_fragment 17 = .ok (.i2l, 1) := by decide +kernel
theorem dX8_fragment_18 : decode cX8_fragment 18 = .ok (.lconst 0, 1) := by decide +kernel
theorem dX8_fragment_19 : decode cX8_fragment 19 = .ok (.lconst 1, 1) := by decide +kernel
theorem dX8_fragment_20 : decode cX8_fragment 20 = .ok (.invokestatic 41, 3) := by decide +kernel
theorem dX8_fragment_23 : decode cX8_fragment 23 = .ok (.ifCond .ne 5, 3) := by decide +kernel
theorem dX8_fragment_26 : decode cX8_fragment 26 = .ok (.iconst (-1), 1) := by decide +kernel
theorem dX8_fragment_27 : decode cX8_fragment 27 = .ok (.ireturn, 1) := by decide +kernel
theorem dX8_fragment_28 : decode cX8_fragment 28 = .ok (.iload_n 2, 1) := by decide +kernel
theorem dX8_fragment_29 : decode cX8_fragment 29 = .ok (.ifCond .ne 14, 3) := by decide +kernel
theorem dX8_fragment_32 : decode cX8_fragment 32 = .ok (.aload_n 0, 1) := by decide +kernel
theorem dX8_fragment_33 : decode cX8_fragment 33 = .ok (.iload_n 1, 1) := by decide +kernel
theorem dX8_fragment_34 : decode cX8_fragment 34 = .ok (.invokevirtual 141, 3) := by decide +kernel
theorem dX8_fragment_37 : decode cX8_fragment 37 = .ok (.invokestatic 133, 3) := by decide +kernel
theorem dX8_fragment_40 : decode cX8_fragment 40 = .ok (.goto 8, 3) := by decide +kernel
theorem dX8_fragment_43 : decode cX8_fragment 43 = .ok (.aload_n 0, 1) := by decide +kernel
theorem dX8_fragment_44 : decode cX8_fragment 44 = .ok (.iload_n 1, 1) := by decide +kernel
theorem dX8_fragment_45 : decode cX8_fragment 45 = .ok (.invokevirtual 197, 3) := by decide +kernel
theorem dX8_fragment_48 : decode cX8_fragment 48 = .ok (.ireturn, 1) := by decide +kernel
theorem dX8_find_0 : decode cX8_find 0 = .ok (.aload_n 0, 1) := by decide +kernel
theorem dX8_find_1 : decode cX8_find 1 = .ok (.iload_n 1, 1) := by decide +kernel
theorem dX8_find_2 : decode cX8_find 2 = .ok (.invokevirtual 223, 3) := by decide +kernel
theorem dX8_find_5 : decode cX8_find 5 = .ok (.ifCond .eq 24, 3) := by decide +kernel
theorem dX8_find_8 : decode cX8_find 8 = .ok (.iload_n 2, 1) := by decide +kernel
theorem dX8_find_9 : decode cX8_find 9 = .ok (.i2l, 1) := by decide +kernel
theorem dX8_find_10 : decode cX8_find 10 = .ok (.lconst 0, 1) := by decide +kernel
theorem dX8_find_11 : decode cX8_find 11 = .ok (.ldc2_w 226, 3) := by decide +kernel
theorem dX8_find_14 : decode cX8_find 14 = .ok (.invokestatic 41, 3) := by decide +kernel
theorem dX8_find_17 : decode cX8_find 17 = .ok (.ifCond .eq 12, 3) := by decide +kernel
theorem dX8_find_20 : decode cX8_find 20 = .ok (.aload_n 0, 1) := by decide +kernel
theorem dX8_find_21 : decode cX8_find 21 = .ok (.iload_n 1, 1) := by decide +kernel
theorem dX8_find_22 : decode cX8_find 22 = .ok (.iload_n 2, 1) := by decide +kernel
theorem dX8_find_23 : decode cX8_find 23 = .ok (.invokevirtual 103, 3) := by decide +kernel
theorem dX8_find_26 : decode cX8_find 26 = .ok (.goto 4, 3) := by decide +kernel
theorem dX8_find_29 : decode cX8_find 29 = .ok (.iconst (-1), 1) := by decide +kernel
theorem dX8_find_30 : decode cX8_find 30 = .ok (.ireturn, 1) := by decide +kernel
theorem dX8_entry_0 : decode cX8_entry 0 = .ok (.aload_n 0, 1) := by decide +kernel
theorem dX8_entry_1 : decode cX8_entry 1 = .ok (.iload_n 1, 1) := by decide +kernel
theorem dX8_entry_2 : decode cX8_entry 2 = .ok (.invokevirtual 223, 3) := by decide +kernel
theorem dX8_entry_5 : decode cX8_entry 5 = .ok (.ifCond .eq 7, 3) := by decide +kernel
theorem dX8_entry_8 : decode cX8_entry 8 = .ok (.iload_n 2, 1) := by decide +kernel
theorem dX8_entry_9 : decode cX8_entry 9 = .ok (.ifCond .ge 5, 3) := by decide +kernel
theorem dX8_entry_12 : decode cX8_entry 12 = .ok (.iconst (-1), 1) := by decide +kernel
theorem dX8_entry_13 : decode cX8_entry 13 = .ok (.ireturn, 1) := by decide +kernel
theorem dX8_entry_14 : decode cX8_entry 14 = .ok (.iload_n 2, 1) := by decide +kernel
theorem dX8_entry_15 : decode cX8_entry 15 = .ok (.istore_n 3, 1) := by decide +kernel
theorem dX8_entry_16 : decode cX8_entry 16 = .ok (.iconst 0, 1) := by decide +kernel
theorem dX8_entry_17 : decode cX8_entry 17 = .ok (.istore 4, 2) := by decide +kernel
theorem dX8_entry_19 : decode cX8_entry 19 = .ok (.iload 4, 2) := by decide +kernel
theorem dX8_entry_21 : decode cX8_entry 21 = .ok (.bipush 9, 2) := by decide +kernel
theorem dX8_entry_23 : decode cX8_entry 23 = .ok (.if_icmp .gt 36, 3) := by decide +kernel
theorem dX8_entry_26 : decode cX8_entry 26 = .ok (.aload_n 0, 1) := by decide +kernel
theorem dX8_entry_27 : decode cX8_entry 27 = .ok (.iload_n 1, 1) := by decide +kernel
theorem dX8_entry_28 : decode cX8_entry 28 = .ok (.iload 4, 2) := by decide +kernel
theorem dX8_entry_30 : decode cX8_entry 30 = .ok (.invokevirtual 103, 3) := by decide +kernel
theorem dX8_entry_33 : decode cX8_entry 33 = .ok (.bipush (-4), 2) := by decide +kernel
theorem dX8_entry_35 : decode cX8_entry 35 = .ok (.if_icmp .eq 18, 3) := by decide +kernel
theorem dX8_entry_38 : decode cX8_entry 38 = .ok (.iload_n 3, 1) := by decide +kernel
theorem dX8_entry_39 : decode cX8_entry 39 = .ok (.ifCond .ne 11, 3) := by decide +kernel
theorem dX8_entry_42 : decode cX8_entry 42 = .ok (.aload_n 0, 1) := by decide +kernel
theorem dX8_entry_43 : decode cX8_entry 43 = .ok (.iload_n 1, 1) := by decide +kernel
theorem dX8_entry_44 : decode cX8_entry 44 = .ok (.iload 4, 2) := by decide +kernel
theorem dX8_entry_46 : decode cX8_entry 46 = .ok (.invokevirtual 103, 3) := by decide +kernel
theorem dX8_entry_49 : decode cX8_entry 49 = .ok (.ireturn, 1) := by decide +kernel
theorem dX8_entry_50 : decode cX8_entry 50 = .ok (.iinc 3 (-1), 3) := by decide +kernel
theorem dX8_entry_53 : decode cX8_entry 53 = .ok (.iinc 4 1, 3) := by decide +kernel
theorem dX8_entry_56 : decode cX8_entry 56 = .ok (.goto (-37), 3) := by decide +kernel
theorem dX8_entry_59 : decode cX8_entry 59 = .ok (.bipush (-4), 2) := by decide +kernel
theorem dX8_entry_61 : decode cX8_entry 61 = .ok (.ireturn, 1) := by decide +kernel
theorem dX8_where_0 : decode cX8_where 0 = .ok (.aload_n 0, 1) := by decide +kernel
theorem dX8_where_1 : decode cX8_where 1 = .ok (.iload_n 1, 1) := by decide +kernel
theorem dX8_where_2 : decode cX8_where 2 = .ok (.invokevirtual 223, 3) := by decide +kernel
theorem dX8_where_5 : decode cX8_where 5 = .ok (.ifCond .eq 24, 3) := by decide +kernel
theorem dX8_where_8 : decode cX8_where 8 = .ok (.iload_n 2, 1) := by decide +kernel
theorem dX8_where_9 : decode cX8_where 9 = .ok (.i2l, 1) := by decide +kernel
theorem dX8_where_10 : decode cX8_where 10 = .ok (.lconst 1, 1) := by decide +kernel
theorem dX8_where_11 : decode cX8_where 11 = .ok (.ldc2_w 228, 3) := by decide +kernel
theorem dX8_where_14 : decode cX8_where 14 = .ok (.invokestatic 41, 3) := by decide +kernel
theorem dX8_where_17 : decode cX8_where 17 = .ok (.ifCond .eq 12, 3) := by decide +kernel
theorem dX8_where_20 : decode cX8_where 20 = .ok (.aload_n 0, 1) := by decide +kernel
theorem dX8_where_21 : decode cX8_where 21 = .ok (.iload_n 1, 1) := by decide +kernel
theorem dX8_where_22 : decode cX8_where 22 = .ok (.iload_n 2, 1) := by decide +kernel
theorem dX8_where_23 : decode cX8_where 23 = .ok (.invokevirtual 230, 3) := by decide +kernel
theorem dX8_where_26 : decode cX8_where 26 = .ok (.goto 4, 3) := by decide +kernel
theorem dX8_where_29 : decode cX8_where 29 = .ok (.iconst (-1), 1) := by decide +kernel
theorem dX8_where_30 : decode cX8_where 30 = .ok (.ireturn, 1) := by decide +kernel
theorem dX8_makes_0 : decode cX8_makes 0 = .ok (.aload_n 0, 1) := by decide +kernel
theorem dX8_makes_1 : decode cX8_makes 1 = .ok (.iload_n 1, 1) := by decide +kernel
theorem dX8_makes_2 : decode cX8_makes 2 = .ok (.iload_n 3, 1) := by decide +kernel
theorem dX8_makes_3 : decode cX8_makes 3 = .ok (.invokevirtual 230, 3) := by decide +kernel
theorem dX8_makes_6 : decode cX8_makes 6 = .ok (.istore 4, 2) := by decide +kernel
theorem dX8_makes_8 : decode cX8_makes 8 = .ok (.iload 4, 2) := by decide +kernel
theorem dX8_makes_10 : decode cX8_makes 10 = .ok (.bipush (-4), 2) := by decide +kernel
theorem dX8_makes_12 : decode cX8_makes 12 = .ok (.if_icmp .eq 23, 3) := by decide +kernel
theorem dX8_makes_15 : decode cX8_makes 15 = .ok (.iload_n 3, 1) := by decide +kernel
theorem dX8_makes_16 : decode cX8_makes 16 = .ok (.iconst 1, 1) := by decide +kernel
theorem dX8_makes_17 : decode cX8_makes 17 = .ok (.if_icmp .ne 21, 3) := by decide +kernel
theorem dX8_makes_20 : decode cX8_makes 20 = .ok (.aload_n 0, 1) := by decide +kernel
theorem dX8_makes_21 : decode cX8_makes 21 = .ok (.invokevirtual 206, 3) := by decide +kernel
theorem dX8_makes_24 : decode cX8_makes 24 = .ok (.iconst 1, 1) := by decide +kernel
theorem dX8_makes_25 : decode cX8_makes 25 = .ok (.isub, 1) := by decide +kernel
theorem dX8_makes_26 : decode cX8_makes 26 = .ok (.aload_n 0, 1) := by decide +kernel
theorem dX8_makes_27 : decode cX8_makes 27 = .ok (.getfield 7, 3) := by decide +kernel
theorem dX8_makes_30 : decode cX8_makes 30 = .ok (.iconst 4, 1) := by decide +kernel
theorem dX8_makes_31 : decode cX8_makes 31 = .ok (.iaload, 1) := by decide +kernel
theorem dX8_makes_32 : decode cX8_makes 32 = .ok (.if_icmp .ge 6, 3) := by decide +kernel
theorem dX8_makes_35 : decode cX8_makes 35 = .ok (.bipush (-3), 2) := by decide +kernel
theorem dX8_makes_37 : decode cX8_makes 37 = .ok (.ireturn, 1) := by decide +kernel
theorem dX8_makes_38 : decode cX8_makes 38 = .ok (.aload_n 0, 1) := by decide +kernel
theorem dX8_makes_39 : decode cX8_makes 39 = .ok (.getfield 7, 3) := by decide +kernel
theorem dX8_makes_42 : decode cX8_makes 42 = .ok (.iconst 2, 1) := by decide +kernel
theorem dX8_makes_43 : decode cX8_makes 43 = .ok (.iaload, 1) := by decide +kernel
theorem dX8_makes_44 : decode cX8_makes 44 = .ok (.iload 4, 2) := by decide +kernel
theorem dX8_makes_46 : decode cX8_makes 46 = .ok (.imul, 1) := by decide +kernel
theorem dX8_makes_47 : decode cX8_makes 47 = .ok (.istore 5, 2) := by decide +kernel
theorem dX8_makes_49 : decode cX8_makes 49 = .ok (.aload_n 0, 1) := by decide +kernel
theorem dX8_makes_50 : decode cX8_makes 50 = .ok (.iload 5, 2) := by decide +kernel
theorem dX8_makes_52 : decode cX8_makes 52 = .ok (.iconst 0, 1) := by decide +kernel
theorem dX8_makes_53 : decode cX8_makes 53 = .ok (.invokevirtual 173, 3) := by decide +kernel
theorem dX8_makes_56 : decode cX8_makes 56 = .ok (.ifCond .eq 9, 3) := by decide +kernel
theorem dX8_makes_59 : decode cX8_makes 59 = .ok (.iinc 5 1, 3) := by decide +kernel
theorem dX8_makes_62 : decode cX8_makes 62 = .ok (.goto (-13), 3) := by decide +kernel
theorem dX8_makes_65 : decode cX8_makes 65 = .ok (.iload_n 3, 1) := by decide +kernel
theorem dX8_makes_66 : decode cX8_makes 66 = .ok (.iconst 1, 1) := by decide +kernel
theorem dX8_makes_67 : decode cX8_makes 67 = .ok (.if_icmp .ne 13, 3) := by decide +kernel
theorem dX8_makes_70 : decode cX8_makes 70 = .ok (.aload_n 0, 1) := by decide +kernel
theorem dX8_makes_71 : decode cX8_makes 71 = .ok (.iload 4, 2) := by decide +kernel
theorem dX8_makes_73 : decode cX8_makes 73 = .ok (.iconst 1, 1) := by decide +kernel
theorem dX8_makes_74 : decode cX8_makes 74 = .ok (.invokevirtual 233, 3) := by decide +kernel
theorem dX8_makes_77 : decode cX8_makes 77 = .ok (.goto 4, 3) := by decide +kernel
theorem dX8_makes_80 : decode cX8_makes 80 = .ok (.iconst 0, 1) := by decide +kernel
theorem dX8_makes_81 : decode cX8_makes 81 = .ok (.istore 6, 2) := by decide +kernel
theorem dX8_makes_83 : decode cX8_makes 83 = .ok (.iload 6, 2) := by decide +kernel
theorem dX8_makes_85 : decode cX8_makes 85 = .ok (.bipush (-4), 2) := by decide +kernel
theorem dX8_makes_87 : decode cX8_makes 87 = .ok (.if_icmp .ne 6, 3) := by decide +kernel
theorem dX8_makes_90 : decode cX8_makes 90 = .ok (.bipush (-3), 2) := by decide +kernel
theorem dX8_makes_92 : decode cX8_makes 92 = .ok (.ireturn, 1) := by decide +kernel
theorem dX8_makes_93 : decode cX8_makes 93 = .ok (.aload_n 0, 1) := by decide +kernel
theorem dX8_makes_94 : decode cX8_makes 94 = .ok (.iload 5, 2) := by decide +kernel
theorem dX8_makes_96 : decode cX8_makes 96 = .ok (.iconst 0, 1) := by decide +kernel
theorem dX8_makes_97 : decode cX8_makes 97 = .ok (.iload_n 3, 1) := by decide +kernel
theorem dX8_makes_98 : decode cX8_makes 98 = .ok (.invokevirtual 236, 3) := by decide +kernel
theorem dX8_makes_101 : decode cX8_makes 101 = .ok (.aload_n 0, 1) := by decide +kernel
theorem dX8_makes_102 : decode cX8_makes 102 = .ok (.iload 5, 2) := by decide +kernel
theorem dX8_makes_104 : decode cX8_makes 104 = .ok (.iconst 1, 1) := by decide +kernel
theorem dX8_makes_105 : decode cX8_makes 105 = .ok (.iload_n 1, 1) := by decide +kernel
theorem dX8_makes_106 : decode cX8_makes 106 = .ok (.invokevirtual 236, 3) := by decide +kernel
theorem dX8_makes_109 : decode cX8_makes 109 = .ok (.aload_n 0, 1) := by decide +kernel
theorem dX8_makes_110 : decode cX8_makes 110 = .ok (.iload 5, 2) := by decide +kernel
theorem dX8_makes_112 : decode cX8_makes 112 = .ok (.iconst 2, 1) := by decide +kernel
theorem dX8_makes_113 : decode cX8_makes 113 = .ok (.iload_n 2, 1) := by decide +kernel
theorem dX8_makes_114 : decode cX8_makes 114 = .ok (.invokevirtual 236, 3) := by decide +kernel
theorem dX8_makes_117 : decode cX8_makes 117 = .ok (.aload_n 0, 1) := by decide +kernel
theorem dX8_makes_118 : decode cX8_makes 118 = .ok (.iload 5, 2) := by decide +kernel
theorem dX8_makes_120 : decode cX8_makes 120 = .ok (.iconst 3, 1) := by decide +kernel
theorem dX8_makes_121 : decode cX8_makes 121 = .ok (.iload_n 3, 1) := by decide +kernel
theorem dX8_makes_122 : decode cX8_makes 122 = .ok (.iconst 1, 1) := by decide +kernel
theorem dX8_makes_123 : decode cX8_makes 123 = .ok (.if_icmp .ne 7, 3) := by decide +kernel
theorem dX8_makes_126 : decode cX8_makes 126 = .ok (.iconst 1, 1) := by decide +kernel
theorem dX8_makes_127 : decode cX8_makes 127 = .ok (.goto 4, 3) := by decide +kernel
theorem dX8_makes_130 : decode cX8_makes 130 = .ok (.iconst 0, 1) := by decide +kernel
theorem dX8_makes_131 : decode cX8_makes 131 = .ok (.invokestatic 133, 3) := by decide +kernel
theorem dX8_makes_134 : decode cX8_makes 134 = .ok (.invokevirtual 236, 3) := by decide +kernel
theorem dX8_makes_137 : decode cX8_makes 137 = .ok (.aload_n 0, 1) := by decide +kernel
theorem dX8_makes_138 : decode cX8_makes 138 = .ok (.iload 5, 2) := by decide +kernel
theorem dX8_makes_140 : decode cX8_makes 140 = .ok (.iconst 4, 1) := by decide +kernel
theorem dX8_makes_141 : decode cX8_makes 141 = .ok (.iload 6, 2) := by decide +kernel
theorem dX8_makes_143 : decode cX8_makes 143 = .ok (.invokevirtual 236, 3) := by decide +kernel
theorem dX8_makes_146 : decode cX8_makes 146 = .ok (.iload_n 3, 1) := by decide +kernel
theorem dX8_makes_147 : decode cX8_makes 147 = .ok (.iconst 1, 1) := by decide +kernel
theorem dX8_makes_148 : decode cX8_makes 148 = .ok (.if_icmp .ne 10, 3) := by decide +kernel
theorem dX8_makes_151 : decode cX8_makes 151 = .ok (.aload_n 0, 1) := by decide +kernel
theorem dX8_makes_152 : decode cX8_makes 152 = .ok (.iload 6, 2) := by decide +kernel
theorem dX8_makes_154 : decode cX8_makes 154 = .ok (.iconst 0, 1) := by decide +kernel
theorem dX8_makes_155 : decode cX8_makes 155 = .ok (.invokevirtual 137, 3) := by decide +kernel
theorem dX8_makes_158 : decode cX8_makes 158 = .ok (.iload 5, 2) := by decide +kernel
theorem dX8_makes_160 : decode cX8_makes 160 = .ok (.ireturn, 1) := by decide +kernel
theorem dX8_make_0 : decode cX8_make 0 = .ok (.aload_n 0, 1) := by decide +kernel
theorem dX8_make_1 : decode cX8_make 1 = .ok (.iload_n 1, 1) := by decide +kernel
theorem dX8_make_2 : decode cX8_make 2 = .ok (.invokevirtual 223, 3) := by decide +kernel
theorem dX8_make_5 : decode cX8_make 5 = .ok (.ifCond .eq 27, 3) := by decide +kernel
theorem dX8_make_8 : decode cX8_make 8 = .ok (.iload_n 2, 1) := by decide +kernel
theorem dX8_make_9 : decode cX8_make 9 = .ok (.i2l, 1) := by decide +kernel
theorem dX8_make_10 : decode cX8_make 10 = .ok (.lconst 0, 1) := by decide +kernel
theorem dX8_make_11 : decode cX8_make 11 = .ok (.ldc2_w 226, 3) := by decide +kernel
theorem dX8_make_14 : decode cX8_make 14 = .ok (.invokestatic 41, 3) := by decide +kernel
theorem dX8_make_17 : decode cX8_make 17 = .ok (.ifCond .eq 15, 3) := by decide +kernel
theorem dX8_make_20 : decode cX8_make 20 = .ok (.iload_n 3, 1) := by decide +kernel
theorem dX8_make_21 : decode cX8_make 21 = .ok (.i2l, 1) := by decide +kernel
theorem dX8_make_22 : decode cX8_make 22 = .ok (.lconst 1, 1) := by decide +kernel
theorem dX8_make_23 : decode cX8_make 23 = .ok (.ldc2_w 228, 3) := by decide +kernel
theorem dX8_make_26 : decode cX8_make 26 = .ok (.invokestatic 41, 3) := by decide +kernel
theorem dX8_make_29 : decode cX8_make 29 = .ok (.ifCond .ne 5, 3) := by decide +kernel
theorem dX8_make_32 : decode cX8_make 32 = .ok (.iconst (-1), 1) := by decide +kernel
theorem dX8_make_33 : decode cX8_make 33 = .ok (.ireturn, 1) := by decide +kernel
theorem dX8_make_34 : decode cX8_make 34 = .ok (.aload_n 0, 1) := by decide +kernel
theorem dX8_make_35 : decode cX8_make 35 = .ok (.invokevirtual 240, 3) := by decide +kernel
theorem dX8_make_38 : decode cX8_make 38 = .ok (.ifCond .ne 14, 3) := by decide +kernel
theorem dX8_make_41 : decode cX8_make 41 = .ok (.aload_n 0, 1) := by decide +kernel
theorem dX8_make_42 : decode cX8_make 42 = .ok (.iload_n 1, 1) := by decide +kernel
theorem dX8_make_43 : decode cX8_make 43 = .ok (.iload_n 2, 1) := by decide +kernel
theorem dX8_make_44 : decode cX8_make 44 = .ok (.invokevirtual 103, 3) := by decide +kernel
theorem dX8_make_47 : decode cX8_make 47 = .ok (.bipush (-4), 2) := by decide +kernel
theorem dX8_make_49 : decode cX8_make 49 = .ok (.if_icmp .eq 6, 3) := by decide +kernel
theorem dX8_make_52 : decode cX8_make 52 = .ok (.bipush (-2), 2) := by decide +kernel
theorem dX8_make_54 : decode cX8_make 54 = .ok (.ireturn, 1) := by decide +kernel
theorem dX8_make_55 : decode cX8_make 55 = .ok (.aload_n 0, 1) := by decide +kernel
theorem dX8_make_56 : decode cX8_make 56 = .ok (.iload_n 1, 1) := by decide +kernel
theorem dX8_make_57 : decode cX8_make 57 = .ok (.iload_n 2, 1) := by decide +kernel
theorem dX8_make_58 : decode cX8_make 58 = .ok (.iload_n 3, 1) := by decide +kernel
theorem dX8_make_59 : decode cX8_make 59 = .ok (.invokevirtual 110, 3) := by decide +kernel
theorem dX8_make_62 : decode cX8_make 62 = .ok (.ireturn, 1) := by decide +kernel
theorem dX8_groupOfBlock_0 : decode cX8_groupOfBlock 0 = .ok (.iload_n 2, 1) := by decide +kernel
theorem dX8_groupOfBlock_1 : decode cX8_groupOfBlock 1 = .ok (.ifCond .ne 12, 3) := by decide +kernel
theorem dX8_groupOfBlock_4 : decode cX8_groupOfBlock 4 = .ok (.iload_n 1, 1) := by decide +kernel
theorem dX8_groupOfBlock_5 : decode cX8_groupOfBlock 5 = .ok (.aload_n 0, 1) := by decide +kernel
theorem dX8_groupOfBlock_6 : decode cX8_groupOfBlock 6 = .ok (.getfield 7, 3) := by decide +kernel
theorem dX8_groupOfBlock_9 : decode cX8_groupOfBlock 9 = .ok (.iconst 2, 1) := by decide +kernel
theorem dX8_groupOfBlock_10 : decode cX8_groupOfBlock 10 = .ok (.iaload, 1) := by decide +kernel
theorem dX8_groupOfBlock_11 : decode cX8_groupOfBlock 11 = .ok (.idiv, 1) := by decide +kernel
theorem dX8_groupOfBlock_12 : decode cX8_groupOfBlock 12 = .ok (.ireturn, 1) := by decide +kernel
theorem dX8_groupOfBlock_13 : decode cX8_groupOfBlock 13 = .ok (.aload_n 0, 1) := by decide +kernel
theorem dX8_groupOfBlock_14 : decode cX8_groupOfBlock 14 = .ok (.iload_n 1, 1) := by decide +kernel
theorem dX8_groupOfBlock_15 : decode cX8_groupOfBlock 15 = .ok (.iconst 5, 1) := by decide +kernel
theorem dX8_groupOfBlock_16 : decode cX8_groupOfBlock 16 = .ok (.iload_n 2, 1) := by decide +kernel
theorem dX8_groupOfBlock_17 : decode cX8_groupOfBlock 17 = .ok (.iadd, 1) := by decide +kernel
theorem dX8_groupOfBlock_18 : decode cX8_groupOfBlock 18 = .ok (.iconst 1, 1) := by decide +kernel
theorem dX8_groupOfBlock_19 : decode cX8_groupOfBlock 19 = .ok (.isub, 1) := by decide +kernel
theorem dX8_groupOfBlock_20 : decode cX8_groupOfBlock 20 = .ok (.invokevirtual 173, 3) := by decide +kernel
theorem dX8_groupOfBlock_23 : decode cX8_groupOfBlock 23 = .ok (.aload_n 0, 1) := by decide +kernel
theorem dX8_groupOfBlock_24 : decode cX8_groupOfBlock 24 = .ok (.getfield 7, 3) := by decide +kernel
theorem dX8_groupOfBlock_27 : decode cX8_groupOfBlock 27 = .ok (.iconst 1, 1) := by decide +kernel
theorem dX8_groupOfBlock_28 : decode cX8_groupOfBlock 28 = .ok (.iaload, 1) := by decide +kernel
theorem dX8_groupOfBlock_29 : decode cX8_groupOfBlock 29 = .ok (.idiv, 1) := by decide +kernel
theorem dX8_groupOfBlock_30 : decode cX8_groupOfBlock 30 = .ok (.istore_n 3, 1) := by decide +kernel
theorem dX8_groupOfBlock_31 : decode cX8_groupOfBlock 31 = .ok (.iload_n 2, 1) := by decide +kernel
theorem dX8_groupOfBlock_32 : decode cX8_groupOfBlock 32 = .ok (.aload_n 0, 1) := by decide +kernel
theorem dX8_groupOfBlock_33 : decode cX8_groupOfBlock 33 = .ok (.getfield 7, 3) := by decide +kernel
theorem dX8_groupOfBlock_36 : decode cX8_groupOfBlock 36 = .ok (.iconst 5, 1) := by decide +kernel
theorem dX8_groupOfBlock_37 : decode cX8_groupOfBlock 37 = .ok (.iaload, 1) := by decide +kernel
theorem dX8_groupOfBlock_38 : decode cX8_groupOfBlock 38 = .ok (.irem, 1) := by decide +kernel
theorem dX8_groupOfBlock_39 : decode cX8_groupOfBlock 39 = .ok (.ifCond .eq 5, 3) := by decide +kernel
theorem dX8_groupOfBlock_42 : decode cX8_groupOfBlock 42 = .ok (.iload_n 3, 1) := by decide +kernel
theorem dX8_groupOfBlock_43 : decode cX8_groupOfBlock 43 = .ok (.ireturn, 1) := by decide +kernel
theorem dX8_groupOfBlock_44 : decode cX8_groupOfBlock 44 = .ok (.iconst 1, 1) := by decide +kernel
theorem dX8_groupOfBlock_45 : decode cX8_groupOfBlock 45 = .ok (.istore 4, 2) := by decide +kernel
theorem dX8_groupOfBlock_47 : decode cX8_groupOfBlock 47 = .ok (.iload 4, 2) := by decide +kernel
theorem dX8_groupOfBlock_49 : decode cX8_groupOfBlock 49 = .ok (.aload_n 0, 1) := by decide +kernel
theorem dX8_groupOfBlock_50 : decode cX8_groupOfBlock 50 = .ok (.getfield 7, 3) := by decide +kernel
theorem dX8_groupOfBlock_53 : decode cX8_groupOfBlock 53 = .ok (.iconst 0, 1) := by decide +kernel
theorem dX8_groupOfBlock_54 : decode cX8_groupOfBlock 54 = .ok (.iaload, 1) := by decide +kernel
theorem dX8_groupOfBlock_55 : decode cX8_groupOfBlock 55 = .ok (.if_icmp .gt 42, 3) := by decide +kernel
theorem dX8_groupOfBlock_58 : decode cX8_groupOfBlock 58 = .ok (.aload_n 0, 1) := by decide +kernel
theorem dX8_groupOfBlock_59 : decode cX8_groupOfBlock 59 = .ok (.aload_n 0, 1) := by decide +kernel
theorem dX8_groupOfBlock_60 : decode cX8_groupOfBlock 60 = .ok (.iload_n 3, 1) := by decide +kernel
theorem dX8_groupOfBlock_61 : decode cX8_groupOfBlock 61 = .ok (.iload 4, 2) := by decide +kernel
theorem dX8_groupOfBlock_63 : decode cX8_groupOfBlock 63 = .ok (.invokevirtual 161, 3) := by decide +kernel
theorem dX8_groupOfBlock_66 : decode cX8_groupOfBlock 66 = .ok (.invokevirtual 152, 3) := by decide +kernel
theorem dX8_groupOfBlock_69 : decode cX8_groupOfBlock 69 = .ok (.aload_n 0, 1) := by decide +kernel
theorem dX8_groupOfBlock_70 : decode cX8_groupOfBlock 70 = .ok (.getfield 7, 3) := by decide +kernel
theorem dX8_groupOfBlock_73 : decode cX8_groupOfBlock 73 = .ok (.iconst 0, 1) := by decide +kernel
theorem dX8_groupOfBlock_74 : decode cX8_groupOfBlock 74 = .ok (.iaload, 1) := by decide +kernel
theorem dX8_groupOfBlock_75 : decode cX8_groupOfBlock 75 = .ok (.imul, 1) := by decide +kernel
theorem dX8_groupOfBlock_76 : decode cX8_groupOfBlock 76 = .ok (.aload_n 0, 1) := by decide +kernel
theorem dX8_groupOfBlock_77 : decode cX8_groupOfBlock 77 = .ok (.invokevirtual 209, 3) := by decide +kernel
theorem dX8_groupOfBlock_80 : decode cX8_groupOfBlock 80 = .ok (.if_icmp .lt 11, 3) := by decide +kernel
theorem dX8_groupOfBlock_83 : decode cX8_groupOfBlock 83 = .ok (.aload_n 0, 1) := by decide +kernel
theorem dX8_groupOfBlock_84 : decode cX8_groupOfBlock 84 = .ok (.iload_n 3, 1) := by decide +kernel
theorem dX8_groupOfBlock_85 : decode cX8_groupOfBlock 85 = .ok (.iload 4, 2) := by decide +kernel
theorem dX8_groupOfBlock_87 : decode cX8_groupOfBlock 87 = .ok (.invokevirtual 161, 3) := by decide +kernel
theorem dX8_groupOfBlock_90 : decode cX8_groupOfBlock 90 = .ok (.ireturn, 1) := by decide +kernel
theorem dX8_groupOfBlock_91 : decode cX8_groupOfBlock 91 = .ok (.iinc 4 1, 3) := by decide +kernel
theorem dX8_groupOfBlock_94 : decode cX8_groupOfBlock 94 = .ok (.goto (-47), 3) := by decide +kernel
theorem dX8_groupOfBlock_97 : decode cX8_groupOfBlock 97 = .ok (.iload_n 3, 1) := by decide +kernel
theorem dX8_groupOfBlock_98 : decode cX8_groupOfBlock 98 = .ok (.ireturn, 1) := by decide +kernel
theorem dX8_placeOfBlock_0 : decode cX8_placeOfBlock 0 = .ok (.iload_n 2, 1) := by decide +kernel
theorem dX8_placeOfBlock_1 : decode cX8_placeOfBlock 1 = .ok (.ifCond .eq 14, 3) := by decide +kernel
theorem dX8_placeOfBlock_4 : decode cX8_placeOfBlock 4 = .ok (.iload_n 2, 1) := by decide +kernel
theorem dX8_placeOfBlock_5 : decode cX8_placeOfBlock 5 = .ok (.aload_n 0, 1) := by decide +kernel
theorem dX8_placeOfBlock_6 : decode cX8_placeOfBlock 6 = .ok (.getfield 7, 3) := by decide +kernel
theorem dX8_placeOfBlock_9 : decode cX8_placeOfBlock 9 = .ok (.iconst 5, 1) := by decide +kernel
theorem dX8_placeOfBlock_10 : decode cX8_placeOfBlock 10 = .ok (.iaload, 1) := by decide +kernel
theorem dX8_placeOfBlock_11 : decode cX8_placeOfBlock 11 = .ok (.irem, 1) := by decide +kernel
theorem dX8_placeOfBlock_12 : decode cX8_placeOfBlock 12 = .ok (.ifCond .ne 7, 3) := by decide +kernel
theorem dX8_placeOfBlock_15 : decode cX8_placeOfBlock 15 = .ok (.iconst 0, 1) := by decide +kernel
theorem dX8_placeOfBlock_16 : decode cX8_placeOfBlock 16 = .ok (.goto 36, 3) := by decide +kernel
theorem dX8_placeOfBlock_19 : decode cX8_placeOfBlock 19 = .ok (.aload_n 0, 1) := by decide +kernel
theorem dX8_placeOfBlock_20 : decode cX8_placeOfBlock 20 = .ok (.iload_n 1, 1) := by decide +kernel
theorem dX8_placeOfBlock_21 : decode cX8_placeOfBlock 21 = .ok (.iconst 5, 1) := by decide +kernel
theorem dX8_placeOfBlock_22 : decode cX8_placeOfBlock 22 = .ok (.iload_n 2, 1) := by decide +kernel
theorem dX8_placeOfBlock_23 : decode cX8_placeOfBlock 23 = .ok (.iadd, 1) := by decide +kernel
theorem dX8_placeOfBlock_24 : decode cX8_placeOfBlock 24 = .ok (.iconst 1, 1) := by decide +kernel
theorem dX8_placeOfBlock_25 : decode cX8_placeOfBlock 25 = .ok (.isub, 1) := by decide +kernel
theorem dX8_placeOfBlock_26 : decode cX8_placeOfBlock 26 = .ok (.invokevirtual 173, 3) := by decide +kernel
theorem dX8_placeOfBlock_29 : decode cX8_placeOfBlock 29 = .ok (.aload_n 0, 1) := by decide +kernel
theorem dX8_placeOfBlock_30 : decode cX8_placeOfBlock 30 = .ok (.getfield 7, 3) := by decide +kernel
theorem dX8_placeOfBlock_33 : decode cX8_placeOfBlock 33 = .ok (.iconst 1, 1) := by decide +kernel
theorem dX8_placeOfBlock_34 : decode cX8_placeOfBlock 34 = .ok (.iaload, 1) := by decide +kernel
theorem dX8_placeOfBlock_35 : decode cX8_placeOfBlock 35 = .ok (.irem, 1) := by decide +kernel
theorem dX8_placeOfBlock_36 : decode cX8_placeOfBlock 36 = .ok (.iconst 1, 1) := by decide +kernel
theorem dX8_placeOfBlock_37 : decode cX8_placeOfBlock 37 = .ok (.iadd, 1) := by decide +kernel
theorem dX8_placeOfBlock_38 : decode cX8_placeOfBlock 38 = .ok (.aload_n 0, 1) := by decide +kernel
theorem dX8_placeOfBlock_39 : decode cX8_placeOfBlock 39 = .ok (.getfield 7, 3) := by decide +kernel
theorem dX8_placeOfBlock_42 : decode cX8_placeOfBlock 42 = .ok (.iconst 3, 1) := by decide +kernel
theorem dX8_placeOfBlock_43 : decode cX8_placeOfBlock 43 = .ok (.iaload, 1) := by decide +kernel
theorem dX8_placeOfBlock_44 : decode cX8_placeOfBlock 44 = .ok (.iadd, 1) := by decide +kernel
theorem dX8_placeOfBlock_45 : decode cX8_placeOfBlock 45 = .ok (.aload_n 0, 1) := by decide +kernel
theorem dX8_placeOfBlock_46 : decode cX8_placeOfBlock 46 = .ok (.getfield 7, 3) := by decide +kernel
theorem dX8_placeOfBlock_49 : decode cX8_placeOfBlock 49 = .ok (.iconst 1, 1) := by decide +kernel
theorem dX8_placeOfBlock_50 : decode cX8_placeOfBlock 50 = .ok (.iaload, 1) := by decide +kernel
theorem dX8_placeOfBlock_51 : decode cX8_placeOfBlock 51 = .ok (.irem, 1) := by decide +kernel
theorem dX8_placeOfBlock_52 : decode cX8_placeOfBlock 52 = .ok (.ireturn, 1) := by decide +kernel
theorem dX8_takesBlock_0 : decode cX8_takesBlock 0 = .ok (.aload_n 0, 1) := by decide +kernel
theorem dX8_takesBlock_1 : decode cX8_takesBlock 1 = .ok (.aload_n 0, 1) := by decide +kernel
theorem dX8_takesBlock_2 : decode cX8_takesBlock 2 = .ok (.iload_n 1, 1) := by decide +kernel
theorem dX8_takesBlock_3 : decode cX8_takesBlock 3 = .ok (.iload_n 2, 1) := by decide +kernel
theorem dX8_takesBlock_4 : decode cX8_takesBlock 4 = .ok (.invokevirtual 244, 3) := by decide +kernel
theorem dX8_takesBlock_7 : decode cX8_takesBlock 7 = .ok (.aload_n 0, 1) := by decide +kernel
theorem dX8_takesBlock_8 : decode cX8_takesBlock 8 = .ok (.iload_n 1, 1) := by decide +kernel
theorem dX8_takesBlock_9 : decode cX8_takesBlock 9 = .ok (.iload_n 2, 1) := by decide +kernel
theorem dX8_takesBlock_10 : decode cX8_takesBlock 10 = .ok (.invokevirtual 247, 3) := by decide +kernel
theorem dX8_takesBlock_13 : decode cX8_takesBlock 13 = .ok (.invokevirtual 250, 3) := by decide +kernel
theorem dX8_takesBlock_16 : decode cX8_takesBlock 16 = .ok (.istore_n 3, 1) := by decide +kernel
theorem dX8_takesBlock_17 : decode cX8_takesBlock 17 = .ok (.iload_n 3, 1) := by decide +kernel
theorem dX8_takesBlock_18 : decode cX8_takesBlock 18 = .ok (.bipush (-4), 2) := by decide +kernel
theorem dX8_takesBlock_20 : decode cX8_takesBlock 20 = .ok (.if_icmp .ne 5, 3) := by decide +kernel
theorem dX8_takesBlock_23 : decode cX8_takesBlock 23 = .ok (.iconst 0, 1) := by decide +kernel
theorem dX8_takesBlock_24 : decode cX8_takesBlock 24 = .ok (.ireturn, 1) := by decide +kernel
theorem dX8_takesBlock_25 : decode cX8_takesBlock 25 = .ok (.aload_n 0, 1) := by decide +kernel
theorem dX8_takesBlock_26 : decode cX8_takesBlock 26 = .ok (.iload_n 1, 1) := by decide +kernel
theorem dX8_takesBlock_27 : decode cX8_takesBlock 27 = .ok (.iconst 5, 1) := by decide +kernel
theorem dX8_takesBlock_28 : decode cX8_takesBlock 28 = .ok (.iload_n 2, 1) := by decide +kernel
theorem dX8_takesBlock_29 : decode cX8_takesBlock 29 = .ok (.iadd, 1) := by decide +kernel
theorem dX8_takesBlock_30 : decode cX8_takesBlock 30 = .ok (.iload_n 3, 1) := by decide +kernel
theorem dX8_takesBlock_31 : decode cX8_takesBlock 31 = .ok (.invokevirtual 236, 3) := by decide +kernel
theorem dX8_takesBlock_34 : decode cX8_takesBlock 34 = .ok (.aload_n 0, 1) := by decide +kernel
theorem dX8_takesBlock_35 : decode cX8_takesBlock 35 = .ok (.iconst 4, 1) := by decide +kernel
theorem dX8_takesBlock_36 : decode cX8_takesBlock 36 = .ok (.iload_n 3, 1) := by decide +kernel
theorem dX8_takesBlock_37 : decode cX8_takesBlock 37 = .ok (.imul, 1) := by decide +kernel
theorem dX8_takesBlock_38 : decode cX8_takesBlock 38 = .ok (.iconst 4, 1) := by decide +kernel
theorem dX8_takesBlock_39 : decode cX8_takesBlock 39 = .ok (.iconst 0, 1) := by decide +kernel
theorem dX8_takesBlock_40 : decode cX8_takesBlock 40 = .ok (.invokevirtual 253, 3) := by decide +kernel
theorem dX8_takesBlock_43 : decode cX8_takesBlock 43 = .ok (.iconst 1, 1) := by decide +kernel
theorem dX8_takesBlock_44 : decode cX8_takesBlock 44 = .ok (.ireturn, 1) := by decide +kernel
theorem dX8_takesTail_0 : decode cX8_takesTail 0 = .ok (.aload_n 0, 1) := by decide +kernel
theorem dX8_takesTail_1 : decode cX8_takesTail 1 = .ok (.iload_n 2, 1) := by decide +kernel
theorem dX8_takesTail_2 : decode cX8_takesTail 2 = .ok (.ifCond .ne 14, 3) := by decide +kernel
theorem dX8_takesTail_5 : decode cX8_takesTail 5 = .ok (.iload_n 1, 1) := by decide +kernel
theorem dX8_takesTail_6 : decode cX8_takesTail 6 = .ok (.aload_n 0, 1) := by decide +kernel
theorem dX8_takesTail_7 : decode cX8_takesTail 7 = .ok (.getfield 7, 3) := by decide +kernel
theorem dX8_takesTail_10 : decode cX8_takesTail 10 = .ok (.iconst 2, 1) := by decide +kernel
theorem dX8_takesTail_11 : decode cX8_takesTail 11 = .ok (.iaload, 1) := by decide +kernel
theorem dX8_takesTail_12 : decode cX8_takesTail 12 = .ok (.idiv, 1) := by decide +kernel
theorem dX8_takesTail_13 : decode cX8_takesTail 13 = .ok (.goto 20, 3) := by decide +kernel
theorem dX8_takesTail_16 : decode cX8_takesTail 16 = .ok (.aload_n 0, 1) := by decide +kernel
theorem dX8_takesTail_17 : decode cX8_takesTail 17 = .ok (.iload_n 1, 1) := by decide +kernel
theorem dX8_takesTail_18 : decode cX8_takesTail 18 = .ok (.iconst 5, 1) := by decide +kernel
theorem dX8_takesTail_19 : decode cX8_takesTail 19 = .ok (.iload_n 2, 1) := by decide +kernel
theorem dX8_takesTail_20 : decode cX8_takesTail 20 = .ok (.iadd, 1) := by decide +kernel
theorem dX8_takesTail_21 : decode cX8_takesTail 21 = .ok (.iconst 1, 1) := by decide +kernel
theorem dX8_takesTail_22 : decode cX8_takesTail 22 = .ok (.isub, 1) := by decide +kernel
theorem dX8_takesTail_23 : decode cX8_takesTail 23 = .ok (.invokevirtual 173, 3) := by decide +kernel
theorem dX8_takesTail_26 : decode cX8_takesTail 26 = .ok (.aload_n 0, 1) := by decide +kernel
theorem dX8_takesTail_27 : decode cX8_takesTail 27 = .ok (.getfield 7, 3) := by decide +kernel
theorem dX8_takesTail_30 : decode cX8_takesTail 30 = .ok (.iconst 1, 1) := by decide +kernel
theorem dX8_takesTail_31 : decode cX8_takesTail 31 = .ok (.iaload, 1) := by decide +kernel
theorem dX8_takesTail_32 : decode cX8_takesTail 32 = .ok (.idiv, 1) := by decide +kernel
theorem dX8_takesTail_33 : decode cX8_takesTail 33 = .ok (.iload_n 3, 1) := by decide +kernel
theorem dX8_takesTail_34 : decode cX8_takesTail 34 = .ok (.invokevirtual 233, 3) := by decide +kernel
theorem dX8_takesTail_37 : decode cX8_takesTail 37 = .ok (.istore 4, 2) := by decide +kernel
theorem dX8_takesTail_39 : decode cX8_takesTail 39 = .ok (.iload 4, 2) := by decide +kernel
theorem dX8_takesTail_41 : decode cX8_takesTail 41 = .ok (.bipush (-4), 2) := by decide +kernel
theorem dX8_takesTail_43 : decode cX8_takesTail 43 = .ok (.if_icmp .ne 5, 3) := by decide +kernel
theorem dX8_takesTail_46 : decode cX8_takesTail 46 = .ok (.iconst 0, 1) := by decide +kernel
theorem dX8_takesTail_47 : decode cX8_takesTail 47 = .ok (.ireturn, 1) := by decide +kernel
theorem dX8_takesTail_48 : decode cX8_takesTail 48 = .ok (.aload_n 0, 1) := by decide +kernel
theorem dX8_takesTail_49 : decode cX8_takesTail 49 = .ok (.iload_n 1, 1) := by decide +kernel
theorem dX8_takesTail_50 : decode cX8_takesTail 50 = .ok (.iconst 4, 1) := by decide +kernel
theorem dX8_takesTail_51 : decode cX8_takesTail 51 = .ok (.iload 4, 2) := by decide +kernel
theorem dX8_takesTail_53 : decode cX8_takesTail 53 = .ok (.invokevirtual 236, 3) := by decide +kernel
theorem dX8_takesTail_56 : decode cX8_takesTail 56 = .ok (.aload_n 0, 1) := by decide +kernel
theorem dX8_takesTail_57 : decode cX8_takesTail 57 = .ok (.iload 4, 2) := by decide +kernel
theorem dX8_takesTail_59 : decode cX8_takesTail 59 = .ok (.iload_n 3, 1) := by decide +kernel
theorem dX8_takesTail_60 : decode cX8_takesTail 60 = .ok (.iconst 0, 1) := by decide +kernel
theorem dX8_takesTail_61 : decode cX8_takesTail 61 = .ok (.invokevirtual 253, 3) := by decide +kernel
theorem dX8_takesTail_64 : decode cX8_takesTail 64 = .ok (.iconst 1, 1) := by decide +kernel
theorem dX8_takesTail_65 : decode cX8_takesTail 65 = .ok (.ireturn, 1) := by decide +kernel
theorem dX8_widens_0 : decode cX8_widens 0 = .ok (.aload_n 0, 1) := by decide +kernel
theorem dX8_widens_1 : decode cX8_widens 1 = .ok (.iload_n 1, 1) := by decide +kernel
theorem dX8_widens_2 : decode cX8_widens 2 = .ok (.iconst 4, 1) := by decide +kernel
theorem dX8_widens_3 : decode cX8_widens 3 = .ok (.invokevirtual 173, 3) := by decide +kernel
theorem dX8_widens_6 : decode cX8_widens 6 = .ok (.istore 4, 2) := by decide +kernel
theorem dX8_widens_8 : decode cX8_widens 8 = .ok (.iload_n 2, 1) := by decide +kernel
theorem dX8_widens_9 : decode cX8_widens 9 = .ok (.ifCond .le 52, 3) := by decide +kernel
theorem dX8_widens_12 : decode cX8_widens 12 = .ok (.iload 4, 2) := by decide +kernel
theorem dX8_widens_14 : decode cX8_widens 14 = .ok (.iconst 4, 1) := by decide +kernel
theorem dX8_widens_15 : decode cX8_widens 15 = .ok (.irem, 1) := by decide +kernel
theorem dX8_widens_16 : decode cX8_widens 16 = .ok (.iload_n 3, 1) := by decide +kernel
theorem dX8_widens_17 : decode cX8_widens 17 = .ok (.iadd, 1) := by decide +kernel
theorem dX8_widens_18 : decode cX8_widens 18 = .ok (.iconst 4, 1) := by decide +kernel
theorem dX8_widens_19 : decode cX8_widens 19 = .ok (.if_icmp .gt 42, 3) := by decide +kernel
theorem dX8_widens_22 : decode cX8_widens 22 = .ok (.aload_n 0, 1) := by decide +kernel
theorem dX8_widens_23 : decode cX8_widens 23 = .ok (.iload 4, 2) := by decide +kernel
theorem dX8_widens_25 : decode cX8_widens 25 = .ok (.iload_n 2, 1) := by decide +kernel
theorem dX8_widens_26 : decode cX8_widens 26 = .ok (.iadd, 1) := by decide +kernel
theorem dX8_widens_27 : decode cX8_widens 27 = .ok (.iload_n 3, 1) := by decide +kernel
theorem dX8_widens_28 : decode cX8_widens 28 = .ok (.iload_n 2, 1) := by decide +kernel
theorem dX8_widens_29 : decode cX8_widens 29 = .ok (.isub, 1) := by decide +kernel
theorem dX8_widens_30 : decode cX8_widens 30 = .ok (.invokevirtual 145, 3) := by decide +kernel
theorem dX8_widens_33 : decode cX8_widens 33 = .ok (.ifCond .eq 28, 3) := by decide +kernel
theorem dX8_widens_36 : decode cX8_widens 36 = .ok (.aload_n 0, 1) := by decide +kernel
theorem dX8_widens_37 : decode cX8_widens 37 = .ok (.iload 4, 2) := by decide +kernel
theorem dX8_widens_39 : decode cX8_widens 39 = .ok (.iload_n 2, 1) := by decide +kernel
theorem dX8_widens_40 : decode cX8_widens 40 = .ok (.iadd, 1) := by decide +kernel
theorem dX8_widens_41 : decode cX8_widens 41 = .ok (.iload_n 3, 1) := by decide +kernel
theorem dX8_widens_42 : decode cX8_widens 42 = .ok (.iload_n 2, 1) := by decide +kernel
theorem dX8_widens_43 : decode cX8_widens 43 = .ok (.isub, 1) := by decide +kernel
theorem dX8_widens_44 : decode cX8_widens 44 = .ok (.iconst 0, 1) := by decide +kernel
theorem dX8_widens_45 : decode cX8_widens 45 = .ok (.invokevirtual 253, 3) := by decide +kernel
theorem dX8_widens_48 : decode cX8_widens 48 = .ok (.aload_n 0, 1) := by decide +kernel
theorem dX8_widens_49 : decode cX8_widens 49 = .ok (.getfield 7, 3) := by decide +kernel
theorem dX8_widens_52 : decode cX8_widens 52 = .ok (.bipush 6, 2) := by decide +kernel
theorem dX8_widens_54 : decode cX8_widens 54 = .ok (.dup2, 1) := by decide +kernel
theorem dX8_widens_55 : decode cX8_widens 55 = .ok (.iaload, 1) := by decide +kernel
theorem dX8_widens_56 : decode cX8_widens 56 = .ok (.iconst 1, 1) := by decide +kernel
theorem dX8_widens_57 : decode cX8_widens 57 = .ok (.iadd, 1) := by decide +kernel
theorem dX8_widens_58 : decode cX8_widens 58 = .ok (.iastore, 1) := by decide +kernel
theorem dX8_widens_59 : decode cX8_widens 59 = .ok (.iconst 1, 1) := by decide +kernel
theorem dX8_widens_60 : decode cX8_widens 60 = .ok (.ireturn, 1) := by decide +kernel
theorem dX8_widens_61 : decode cX8_widens 61 = .ok (.aload_n 0, 1) := by decide +kernel
theorem dX8_widens_62 : decode cX8_widens 62 = .ok (.iload_n 1, 1) := by decide +kernel
theorem dX8_widens_63 : decode cX8_widens 63 = .ok (.aload_n 0, 1) := by decide +kernel
theorem dX8_widens_64 : decode cX8_widens 64 = .ok (.iload_n 1, 1) := by decide +kernel
theorem dX8_widens_65 : decode cX8_widens 65 = .ok (.invokevirtual 194, 3) := by decide +kernel
theorem dX8_widens_68 : decode cX8_widens 68 = .ok (.iload_n 3, 1) := by decide +kernel
theorem dX8_widens_69 : decode cX8_widens 69 = .ok (.invokevirtual 257, 3) := by decide +kernel
theorem dX8_widens_72 : decode cX8_widens 72 = .ok (.ifCond .ne 5, 3) := by decide +kernel
theorem dX8_widens_75 : decode cX8_widens 75 = .ok (.iconst 0, 1) := by decide +kernel
theorem dX8_widens_76 : decode cX8_widens 76 = .ok (.ireturn, 1) := by decide +kernel
theorem dX8_widens_77 : decode cX8_widens 77 = .ok (.iload_n 2, 1) := by decide +kernel
theorem dX8_widens_78 : decode cX8_widens 78 = .ok (.ifCond .le 22, 3) := by decide +kernel
theorem dX8_widens_81 : decode cX8_widens 81 = .ok (.aload_n 0, 1) := by decide +kernel
theorem dX8_widens_82 : decode cX8_widens 82 = .ok (.iload 4, 2) := by decide +kernel
theorem dX8_widens_84 : decode cX8_widens 84 = .ok (.iload_n 2, 1) := by decide +kernel
theorem dX8_widens_85 : decode cX8_widens 85 = .ok (.iconst 1, 1) := by decide +kernel
theorem dX8_widens_86 : decode cX8_widens 86 = .ok (.invokevirtual 253, 3) := by decide +kernel
theorem dX8_widens_89 : decode cX8_widens 89 = .ok (.aload_n 0, 1) := by decide +kernel
theorem dX8_widens_90 : decode cX8_widens 90 = .ok (.getfield 7, 3) := by decide +kernel
theorem dX8_widens_93 : decode cX8_widens 93 = .ok (.bipush 7, 2) := by decide +kernel
theorem dX8_widens_95 : decode cX8_widens 95 = .ok (.dup2, 1) := by decide +kernel
theorem dX8_widens_96 : decode cX8_widens 96 = .ok (.iaload, 1) := by decide +kernel
theorem dX8_widens_97 : decode cX8_widens 97 = .ok (.iconst 1, 1) := by decide +kernel
theorem dX8_widens_98 : decode cX8_widens 98 = .ok (.iadd, 1) := by decide +kernel
theorem dX8_widens_99 : decode cX8_widens 99 = .ok (.iastore, 1) := by decide +kernel
theorem dX8_widens_100 : decode cX8_widens 100 = .ok (.iconst 1, 1) := by decide +kernel
theorem dX8_widens_101 : decode cX8_widens 101 = .ok (.ireturn, 1) := by decide +kernel
theorem dX8_fills_0 : decode cX8_fills 0 = .ok (.aload_n 0, 1) := by decide +kernel
theorem dX8_fills_1 : decode cX8_fills 1 = .ok (.iload_n 1, 1) := by decide +kernel
theorem dX8_fills_2 : decode cX8_fills 2 = .ok (.iconst 4, 1) := by decide +kernel
theorem dX8_fills_3 : decode cX8_fills 3 = .ok (.invokevirtual 173, 3) := by decide +kernel
theorem dX8_fills_6 : decode cX8_fills 6 = .ok (.istore_n 3, 1) := by decide +kernel
theorem dX8_fills_7 : decode cX8_fills 7 = .ok (.aload_n 0, 1) := by decide +kernel
theorem dX8_fills_8 : decode cX8_fills 8 = .ok (.iload_n 1, 1) := by decide +kernel
theorem dX8_fills_9 : decode cX8_fills 9 = .ok (.invokevirtual 194, 3) := by decide +kernel
theorem dX8_fills_12 : decode cX8_fills 12 = .ok (.istore 4, 2) := by decide +kernel
theorem dX8_fills_14 : decode cX8_fills 14 = .ok (.iload_n 3, 1) := by decide +kernel
theorem dX8_fills_15 : decode cX8_fills 15 = .ok (.iconst 4, 1) := by decide +kernel
theorem dX8_fills_16 : decode cX8_fills 16 = .ok (.irem, 1) := by decide +kernel
theorem dX8_fills_17 : decode cX8_fills 17 = .ok (.ifCond .ne 48, 3) := by decide +kernel
theorem dX8_fills_20 : decode cX8_fills 20 = .ok (.aload_n 0, 1) := by decide +kernel
theorem dX8_fills_21 : decode cX8_fills 21 = .ok (.iload_n 3, 1) := by decide +kernel
theorem dX8_fills_22 : decode cX8_fills 22 = .ok (.iload_n 2, 1) := by decide +kernel
theorem dX8_fills_23 : decode cX8_fills 23 = .ok (.iadd, 1) := by decide +kernel
theorem dX8_fills_24 : decode cX8_fills 24 = .ok (.iconst 4, 1) := by decide +kernel
theorem dX8_fills_25 : decode cX8_fills 25 = .ok (.iload_n 2, 1) := by decide +kernel
theorem dX8_fills_26 : decode cX8_fills 26 = .ok (.isub, 1) := by decide +kernel
theorem dX8_fills_27 : decode cX8_fills 27 = .ok (.invokevirtual 145, 3) := by decide +kernel
theorem dX8_fills_30 : decode cX8_fills 30 = .ok (.ifCond .eq 35, 3) := by decide +kernel
theorem dX8_fills_33 : decode cX8_fills 33 = .ok (.aload_n 0, 1) := by decide +kernel
theorem dX8_fills_34 : decode cX8_fills 34 = .ok (.iload_n 3, 1) := by decide +kernel
theorem dX8_fills_35 : decode cX8_fills 35 = .ok (.iconst 4, 1) := by decide +kernel
theorem dX8_fills_36 : decode cX8_fills 36 = .ok (.iconst 0, 1) := by decide +kernel
theorem dX8_fills_37 : decode cX8_fills 37 = .ok (.invokevirtual 253, 3) := by decide +kernel
theorem dX8_fills_40 : decode cX8_fills 40 = .ok (.aload_n 0, 1) := by decide +kernel
theorem dX8_fills_41 : decode cX8_fills 41 = .ok (.iload_n 1, 1) := by decide +kernel
theorem dX8_fills_42 : decode cX8_fills 42 = .ok (.iconst 5, 1) := by decide +kernel
theorem dX8_fills_43 : decode cX8_fills 43 = .ok (.iload 4, 2) := by decide +kernel
theorem dX8_fills_45 : decode cX8_fills 45 = .ok (.iadd, 1) := by decide +kernel
theorem dX8_fills_46 : decode cX8_fills 46 = .ok (.iload_n 3, 1) := by decide +kernel
theorem dX8_fills_47 : decode cX8_fills 47 = .ok (.iconst 4, 1) := by decide +kernel
theorem dX8_fills_48 : decode cX8_fills 48 = .ok (.idiv, 1) := by decide +kernel
theorem dX8_fills_49 : decode cX8_fills 49 = .ok (.invokevirtual 236, 3) := by decide +kernel
theorem dX8_fills_52 : decode cX8_fills 52 = .ok (.aload_n 0, 1) := by decide +kernel
theorem dX8_fills_53 : decode cX8_fills 53 = .ok (.getfield 7, 3) := by decide +kernel
theorem dX8_fills_56 : decode cX8_fills 56 = .ok (.bipush 6, 2) := by decide +kernel
theorem dX8_fills_58 : decode cX8_fills 58 = .ok (.dup2, 1) := by decide +kernel
theorem dX8_fills_59 : decode cX8_fills 59 = .ok (.iaload, 1) := by decide +kernel
theorem dX8_fills_60 : decode cX8_fills 60 = .ok (.iconst 1, 1) := by decide +kernel
theorem dX8_fills_61 : decode cX8_fills 61 = .ok (.iadd, 1) := by decide +kernel
theorem dX8_fills_62 : decode cX8_fills 62 = .ok (.iastore, 1) := by decide +kernel
theorem dX8_fills_63 : decode cX8_fills 63 = .ok (.iconst 1, 1) := by decide +kernel
theorem dX8_fills_64 : decode cX8_fills 64 = .ok (.ireturn, 1) := by decide +kernel
theorem dX8_fills_65 : decode cX8_fills 65 = .ok (.aload_n 0, 1) := by decide +kernel
theorem dX8_fills_66 : decode cX8_fills 66 = .ok (.iload_n 1, 1) := by decide +kernel
theorem dX8_fills_67 : decode cX8_fills 67 = .ok (.iload 4, 2) := by decide +kernel
theorem dX8_fills_69 : decode cX8_fills 69 = .ok (.invokevirtual 261, 3) := by decide +kernel
theorem dX8_fills_72 : decode cX8_fills 72 = .ok (.ifCond .ne 5, 3) := by decide +kernel
theorem dX8_fills_75 : decode cX8_fills 75 = .ok (.iconst 0, 1) := by decide +kernel
theorem dX8_fills_76 : decode cX8_fills 76 = .ok (.ireturn, 1) := by decide +kernel
theorem dX8_fills_77 : decode cX8_fills 77 = .ok (.aload_n 0, 1) := by decide +kernel
theorem dX8_fills_78 : decode cX8_fills 78 = .ok (.iload_n 3, 1) := by decide +kernel
theorem dX8_fills_79 : decode cX8_fills 79 = .ok (.iload_n 2, 1) := by decide +kernel
theorem dX8_fills_80 : decode cX8_fills 80 = .ok (.iconst 1, 1) := by decide +kernel
theorem dX8_fills_81 : decode cX8_fills 81 = .ok (.invokevirtual 253, 3) := by decide +kernel
theorem dX8_fills_84 : decode cX8_fills 84 = .ok (.aload_n 0, 1) := by decide +kernel
theorem dX8_fills_85 : decode cX8_fills 85 = .ok (.getfield 7, 3) := by decide +kernel
theorem dX8_fills_88 : decode cX8_fills 88 = .ok (.bipush 7, 2) := by decide +kernel
theorem dX8_fills_90 : decode cX8_fills 90 = .ok (.dup2, 1) := by decide +kernel
theorem dX8_fills_91 : decode cX8_fills 91 = .ok (.iaload, 1) := by decide +kernel
theorem dX8_fills_92 : decode cX8_fills 92 = .ok (.iconst 1, 1) := by decide +kernel
theorem dX8_fills_93 : decode cX8_fills 93 = .ok (.iadd, 1) := by decide +kernel
theorem dX8_fills_94 : decode cX8_fills 94 = .ok (.iastore, 1) := by decide +kernel
theorem dX8_fills_95 : decode cX8_fills 95 = .ok (.iconst 1, 1) := by decide +kernel
theorem dX8_fills_96 : decode cX8_fills 96 = .ok (.ireturn, 1) := by decide +kernel
theorem dX8_canGrow_0 : decode cX8_canGrow 0 = .ok (.aload_n 0, 1) := by decide +kernel
theorem dX8_canGrow_1 : decode cX8_canGrow 1 = .ok (.iload_n 1, 1) := by decide +kernel
theorem dX8_canGrow_2 : decode cX8_canGrow 2 = .ok (.invokevirtual 194, 3) := by decide +kernel
theorem dX8_canGrow_5 : decode cX8_canGrow 5 = .ok (.istore_n 3, 1) := by decide +kernel
theorem dX8_canGrow_6 : decode cX8_canGrow 6 = .ok (.aload_n 0, 1) := by decide +kernel
theorem dX8_canGrow_7 : decode cX8_canGrow 7 = .ok (.iload_n 1, 1) := by decide +kernel
theorem dX8_canGrow_8 : decode cX8_canGrow 8 = .ok (.invokevirtual 191, 3) := by decide +kernel
theorem dX8_canGrow_11 : decode cX8_canGrow 11 = .ok (.istore 4, 2) := by decide +kernel
theorem dX8_canGrow_13 : decode cX8_canGrow 13 = .ok (.iload_n 2, 1) := by decide +kernel
theorem dX8_canGrow_14 : decode cX8_canGrow 14 = .ok (.iconst 4, 1) := by decide +kernel
theorem dX8_canGrow_15 : decode cX8_canGrow 15 = .ok (.idiv, 1) := by decide +kernel
theorem dX8_canGrow_16 : decode cX8_canGrow 16 = .ok (.istore 5, 2) := by decide +kernel
theorem dX8_canGrow_18 : decode cX8_canGrow 18 = .ok (.iload_n 2, 1) := by decide +kernel
theorem dX8_canGrow_19 : decode cX8_canGrow 19 = .ok (.iconst 4, 1) := by decide +kernel
theorem dX8_canGrow_20 : decode cX8_canGrow 20 = .ok (.irem, 1) := by decide +kernel
theorem dX8_canGrow_21 : decode cX8_canGrow 21 = .ok (.istore 6, 2) := by decide +kernel
theorem dX8_canGrow_23 : decode cX8_canGrow 23 = .ok (.iload 5, 2) := by decide +kernel
theorem dX8_canGrow_25 : decode cX8_canGrow 25 = .ok (.iload_n 3, 1) := by decide +kernel
theorem dX8_canGrow_26 : decode cX8_canGrow 26 = .ok (.if_icmp .ne 13, 3) := by decide +kernel
theorem dX8_canGrow_29 : decode cX8_canGrow 29 = .ok (.aload_n 0, 1) := by decide +kernel
theorem dX8_canGrow_30 : decode cX8_canGrow 30 = .ok (.iload_n 1, 1) := by decide +kernel
theorem dX8_canGrow_31 : decode cX8_canGrow 31 = .ok (.iload 4, 2) := by decide +kernel
theorem dX8_canGrow_33 : decode cX8_canGrow 33 = .ok (.iload 6, 2) := by decide +kernel
theorem dX8_canGrow_35 : decode cX8_canGrow 35 = .ok (.invokevirtual 264, 3) := by decide +kernel
theorem dX8_canGrow_38 : decode cX8_canGrow 38 = .ok (.ireturn, 1) := by decide +kernel
theorem dX8_canGrow_39 : decode cX8_canGrow 39 = .ok (.iload_n 3, 1) := by decide +kernel
theorem dX8_canGrow_40 : decode cX8_canGrow 40 = .ok (.istore 7, 2) := by decide +kernel
theorem dX8_canGrow_42 : decode cX8_canGrow 42 = .ok (.iload 4, 2) := by decide +kernel
theorem dX8_canGrow_44 : decode cX8_canGrow 44 = .ok (.ifCond .le 18, 3) := by decide +kernel
theorem dX8_canGrow_47 : decode cX8_canGrow 47 = .ok (.aload_n 0, 1) := by decide +kernel
theorem dX8_canGrow_48 : decode cX8_canGrow 48 = .ok (.iload_n 1, 1) := by decide +kernel
theorem dX8_canGrow_49 : decode cX8_canGrow 49 = .ok (.iload 4, 2) := by decide +kernel
theorem dX8_canGrow_51 : decode cX8_canGrow 51 = .ok (.invokevirtual 267, 3) := by decide +kernel
theorem dX8_canGrow_54 : decode cX8_canGrow 54 = .ok (.ifCond .ne 5, 3) := by decide +kernel
theorem dX8_canGrow_57 : decode cX8_canGrow 57 = .ok (.iconst 0, 1) := by decide +kernel
theorem dX8_canGrow_58 : decode cX8_canGrow 58 = .ok (.ireturn, 1) := by decide +kernel
theorem dX8_canGrow_59 : decode cX8_canGrow 59 = .ok (.iinc 7 1, 3) := by decide +kernel
theorem dX8_canGrow_62 : decode cX8_canGrow 62 = .ok (.iload 7, 2) := by decide +kernel
theorem dX8_canGrow_64 : decode cX8_canGrow 64 = .ok (.iload 5, 2) := by decide +kernel
theorem dX8_canGrow_66 : decode cX8_canGrow 66 = .ok (.if_icmp .ge 21, 3) := by decide +kernel
theorem dX8_canGrow_69 : decode cX8_canGrow 69 = .ok (.aload_n 0, 1) := by decide +kernel
theorem dX8_canGrow_70 : decode cX8_canGrow 70 = .ok (.iload_n 1, 1) := by decide +kernel
theorem dX8_canGrow_71 : decode cX8_canGrow 71 = .ok (.iload 7, 2) := by decide +kernel
theorem dX8_canGrow_73 : decode cX8_canGrow 73 = .ok (.invokevirtual 261, 3) := by decide +kernel
theorem dX8_canGrow_76 : decode cX8_canGrow 76 = .ok (.ifCond .ne 5, 3) := by decide +kernel
theorem dX8_canGrow_79 : decode cX8_canGrow 79 = .ok (.iconst 0, 1) := by decide +kernel
theorem dX8_canGrow_80 : decode cX8_canGrow 80 = .ok (.ireturn, 1) := by decide +kernel
theorem dX8_canGrow_81 : decode cX8_canGrow 81 = .ok (.iinc 7 1, 3) := by decide +kernel
theorem dX8_canGrow_84 : decode cX8_canGrow 84 = .ok (.goto (-22), 3) := by decide +kernel
theorem dX8_canGrow_87 : decode cX8_canGrow 87 = .ok (.iload 6, 2) := by decide +kernel
theorem dX8_canGrow_89 : decode cX8_canGrow 89 = .ok (.ifCond .eq 15, 3) := by decide +kernel
theorem dX8_canGrow_92 : decode cX8_canGrow 92 = .ok (.aload_n 0, 1) := by decide +kernel
theorem dX8_canGrow_93 : decode cX8_canGrow 93 = .ok (.iload_n 1, 1) := by decide +kernel
theorem dX8_canGrow_94 : decode cX8_canGrow 94 = .ok (.iload 5, 2) := by decide +kernel
theorem dX8_canGrow_96 : decode cX8_canGrow 96 = .ok (.iload 6, 2) := by decide +kernel
theorem dX8_canGrow_98 : decode cX8_canGrow 98 = .ok (.invokevirtual 257, 3) := by decide +kernel
theorem dX8_canGrow_101 : decode cX8_canGrow 101 = .ok (.ifCond .eq 7, 3) := by decide +kernel
theorem dX8_canGrow_104 : decode cX8_canGrow 104 = .ok (.iconst 1, 1) := by decide +kernel
theorem dX8_canGrow_105 : decode cX8_canGrow 105 = .ok (.goto 4, 3) := by decide +kernel
theorem dX8_canGrow_108 : decode cX8_canGrow 108 = .ok (.iconst 0, 1) := by decide +kernel
theorem dX8_canGrow_109 : decode cX8_canGrow 109 = .ok (.ireturn, 1) := by decide +kernel
theorem dX8_grows_0 : decode cX8_grows 0 = .ok (.aload_n 0, 1) := by decide +kernel
theorem dX8_grows_1 : decode cX8_grows 1 = .ok (.iload_n 1, 1) := by decide +kernel
theorem dX8_grows_2 : decode cX8_grows 2 = .ok (.iconst 3, 1) := by decide +kernel
theorem dX8_grows_3 : decode cX8_grows 3 = .ok (.invokevirtual 173, 3) := by decide +kernel
theorem dX8_grows_6 : decode cX8_grows 6 = .ok (.iload_n 2, 1) := by decide +kernel
theorem dX8_grows_7 : decode cX8_grows 7 = .ok (.iadd, 1) := by decide +kernel
theorem dX8_grows_8 : decode cX8_grows 8 = .ok (.istore_n 3, 1) := by decide +kernel
theorem dX8_grows_9 : decode cX8_grows 9 = .ok (.iload_n 3, 1) := by decide +kernel
theorem dX8_grows_10 : decode cX8_grows 10 = .ok (.bipush 40, 2) := by decide +kernel
theorem dX8_grows_12 : decode cX8_grows 12 = .ok (.if_icmp .gt 18, 3) := by decide +kernel
theorem dX8_grows_15 : decode cX8_grows 15 = .ok (.aload_n 0, 1) := by decide +kernel
theorem dX8_grows_16 : decode cX8_grows 16 = .ok (.invokevirtual 206, 3) := by decide +kernel
theorem dX8_grows_19 : decode cX8_grows 19 = .ok (.iload_n 2, 1) := by decide +kernel
theorem dX8_grows_20 : decode cX8_grows 20 = .ok (.isub, 1) := by decide +kernel
theorem dX8_grows_21 : decode cX8_grows 21 = .ok (.aload_n 0, 1) := by decide +kernel
theorem dX8_grows_22 : decode cX8_grows 22 = .ok (.getfield 7, 3) := by decide +kernel
theorem dX8_grows_25 : decode cX8_grows 25 = .ok (.iconst 4, 1) := by decide +kernel
theorem dX8_grows_26 : decode cX8_grows 26 = .ok (.iaload, 1) := by decide +kernel
theorem dX8_grows_27 : decode cX8_grows 27 = .ok (.if_icmp .ge 6, 3) := by decide +kernel
theorem dX8_grows_30 : decode cX8_grows 30 = .ok (.bipush (-3), 2) := by decide +kernel
theorem dX8_grows_32 : decode cX8_grows 32 = .ok (.ireturn, 1) := by decide +kernel
theorem dX8_grows_33 : decode cX8_grows 33 = .ok (.aload_n 0, 1) := by decide +kernel
theorem dX8_grows_34 : decode cX8_grows 34 = .ok (.getfield 7, 3) := by decide +kernel
theorem dX8_grows_37 : decode cX8_grows 37 = .ok (.aload_n 0, 1) := by decide +kernel
theorem dX8_grows_38 : decode cX8_grows 38 = .ok (.getfield 13, 3) := by decide +kernel
theorem dX8_grows_41 : decode cX8_grows 41 = .ok (.invokestatic 117, 3) := by decide +kernel
theorem dX8_grows_44 : decode cX8_grows 44 = .ok (.aload_n 0, 1) := by decide +kernel
theorem dX8_grows_45 : decode cX8_grows 45 = .ok (.iload_n 1, 1) := by decide +kernel
theorem dX8_grows_46 : decode cX8_grows 46 = .ok (.iload_n 3, 1) := by decide +kernel
theorem dX8_grows_47 : decode cX8_grows 47 = .ok (.invokevirtual 270, 3) := by decide +kernel
theorem dX8_grows_50 : decode cX8_grows 50 = .ok (.ifCond .ne 17, 3) := by decide +kernel
theorem dX8_grows_53 : decode cX8_grows 53 = .ok (.aload_n 0, 1) := by decide +kernel
theorem dX8_grows_54 : decode cX8_grows 54 = .ok (.getfield 13, 3) := by decide +kernel
theorem dX8_grows_57 : decode cX8_grows 57 = .ok (.aload_n 0, 1) := by decide +kernel
theorem dX8_grows_58 : decode cX8_grows 58 = .ok (.getfield 7, 3) := by decide +kernel
theorem dX8_grows_61 : decode cX8_grows 61 = .ok (.invokestatic 117, 3) := by decide +kernel
theorem dX8_grows_64 : decode cX8_grows 64 = .ok (.bipush (-3), 2) := by decide +kernel
theorem dX8_grows_66 : decode cX8_grows 66 = .ok (.ireturn, 1) := by decide +kernel
theorem dX8_grows_67 : decode cX8_grows 67 = .ok (.aload_n 0, 1) := by decide +kernel
theorem dX8_grows_68 : decode cX8_grows 68 = .ok (.iload_n 1, 1) := by decide +kernel
theorem dX8_grows_69 : decode cX8_grows 69 = .ok (.iconst 3, 1) := by decide +kernel
theorem dX8_grows_70 : decode cX8_grows 70 = .ok (.iload_n 3, 1) := by decide +kernel
theorem dX8_grows_71 : decode cX8_grows 71 = .ok (.invokevirtual 236, 3) := by decide +kernel
theorem dX8_grows_74 : decode cX8_grows 74 = .ok (.iload_n 3, 1) := by decide +kernel
theorem dX8_grows_75 : decode cX8_grows 75 = .ok (.ireturn, 1) := by decide +kernel
theorem dX8_grow_0 : decode cX8_grow 0 = .ok (.aload_n 0, 1) := by decide +kernel
theorem dX8_grow_1 : decode cX8_grow 1 = .ok (.iload_n 1, 1) := by decide +kernel
theorem dX8_grow_2 : decode cX8_grow 2 = .ok (.invokevirtual 273, 3) := by decide +kernel
theorem dX8_grow_5 : decode cX8_grow 5 = .ok (.ifCond .eq 15, 3) := by decide +kernel
theorem dX8_grow_8 : decode cX8_grow 8 = .ok (.iload_n 2, 1) := by decide +kernel
theorem dX8_grow_9 : decode cX8_grow 9 = .ok (.i2l, 1) := by decide +kernel
theorem dX8_grow_10 : decode cX8_grow 10 = .ok (.lconst 1, 1) := by decide +kernel
theorem dX8_grow_11 : decode cX8_grow 11 = .ok (.ldc2_w 276, 3) := by decide +kernel
theorem dX8_grow_14 : decode cX8_grow 14 = .ok (.invokestatic 41, 3) := by decide +kernel
theorem dX8_grow_17 : decode cX8_grow 17 = .ok (.ifCond .ne 5, 3) := by decide +kernel
theorem dX8_grow_20 : decode cX8_grow 20 = .ok (.iconst (-1), 1) := by decide +kernel
theorem dX8_grow_21 : decode cX8_grow 21 = .ok (.ireturn, 1) := by decide +kernel
theorem dX8_grow_22 : decode cX8_grow 22 = .ok (.aload_n 0, 1) := by decide +kernel
theorem dX8_grow_23 : decode cX8_grow 23 = .ok (.invokevirtual 240, 3) := by decide +kernel
theorem dX8_grow_26 : decode cX8_grow 26 = .ok (.ifCond .eq 8, 3) := by decide +kernel
theorem dX8_grow_29 : decode cX8_grow 29 = .ok (.bipush (-2), 2) := by decide +kernel
theorem dX8_grow_31 : decode cX8_grow 31 = .ok (.goto 9, 3) := by decide +kernel
theorem dX8_grow_34 : decode cX8_grow 34 = .ok (.aload_n 0, 1) := by decide +kernel
theorem dX8_grow_35 : decode cX8_grow 35 = .ok (.iload_n 1, 1) := by decide +kernel
theorem dX8_grow_36 : decode cX8_grow 36 = .ok (.iload_n 2, 1) := by decide +kernel
theorem dX8_grow_37 : decode cX8_grow 37 = .ok (.invokevirtual 114, 3) := by decide +kernel
theorem dX8_grow_40 : decode cX8_grow 40 = .ok (.ireturn, 1) := by decide +kernel
theorem dX8_shrink_0 : decode cX8_shrink 0 = .ok (.aload_n 0, 1) := by decide +kernel
theorem dX8_shrink_1 : decode cX8_shrink 1 = .ok (.iload_n 1, 1) := by decide +kernel
theorem dX8_shrink_2 : decode cX8_shrink 2 = .ok (.invokevirtual 273, 3) := by decide +kernel
theorem dX8_shrink_5 : decode cX8_shrink 5 = .ok (.ifCond .eq 19, 3) := by decide +kernel
theorem dX8_shrink_8 : decode cX8_shrink 8 = .ok (.iload_n 2, 1) := by decide +kernel
theorem dX8_shrink_9 : decode cX8_shrink 9 = .ok (.i2l, 1) := by decide +kernel
theorem dX8_shrink_10 : decode cX8_shrink 10 = .ok (.lconst 1, 1) := by decide +kernel
theorem dX8_shrink_11 : decode cX8_shrink 11 = .ok (.aload_n 0, 1) := by decide +kernel
theorem dX8_shrink_12 : decode cX8_shrink 12 = .ok (.iload_n 1, 1) := by decide +kernel
theorem dX8_shrink_13 : decode cX8_shrink 13 = .ok (.iconst 3, 1) := by decide +kernel
theorem dX8_shrink_14 : decode cX8_shrink 14 = .ok (.invokevirtual 173, 3) := by decide +kernel
theorem dX8_shrink_17 : decode cX8_shrink 17 = .ok (.i2l, 1) := by decide +kernel
theorem dX8_shrink_18 : decode cX8_shrink 18 = .ok (.invokestatic 41, 3) := by decide +kernel
theorem dX8_shrink_21 : decode cX8_shrink 21 = .ok (.ifCond .ne 5, 3) := by decide +kernel
theorem dX8_shrink_24 : decode cX8_shrink 24 = .ok (.iconst (-1), 1) := by decide +kernel
theorem dX8_shrink_25 : decode cX8_shrink 25 = .ok (.ireturn, 1) := by decide +kernel
theorem dX8_shrink_26 : decode cX8_shrink 26 = .ok (.aload_n 0, 1) := by decide +kernel
theorem dX8_shrink_27 : decode cX8_shrink 27 = .ok (.invokevirtual 240, 3) := by decide +kernel
theorem dX8_shrink_30 : decode cX8_shrink 30 = .ok (.ifCond .eq 6, 3) := by decide +kernel
theorem dX8_shrink_33 : decode cX8_shrink 33 = .ok (.bipush (-2), 2) := by decide +kernel
theorem dX8_shrink_35 : decode cX8_shrink 35 = .ok (.ireturn, 1) := by decide +kernel
theorem dX8_shrink_36 : decode cX8_shrink 36 = .ok (.aload_n 0, 1) := by decide +kernel
theorem dX8_shrink_37 : decode cX8_shrink 37 = .ok (.iload_n 1, 1) := by decide +kernel
theorem dX8_shrink_38 : decode cX8_shrink 38 = .ok (.invokevirtual 194, 3) := by decide +kernel
theorem dX8_shrink_41 : decode cX8_shrink 41 = .ok (.istore_n 3, 1) := by decide +kernel
theorem dX8_shrink_42 : decode cX8_shrink 42 = .ok (.aload_n 0, 1) := by decide +kernel
theorem dX8_shrink_43 : decode cX8_shrink 43 = .ok (.iload_n 1, 1) := by decide +kernel
theorem dX8_shrink_44 : decode cX8_shrink 44 = .ok (.invokevirtual 191, 3) := by decide +kernel
theorem dX8_shrink_47 : decode cX8_shrink 47 = .ok (.istore 4, 2) := by decide +kernel
theorem dX8_shrink_49 : decode cX8_shrink 49 = .ok (.aload_n 0, 1) := by decide +kernel
theorem dX8_shrink_50 : decode cX8_shrink 50 = .ok (.iload_n 1, 1) := by decide +kernel
theorem dX8_shrink_51 : decode cX8_shrink 51 = .ok (.iconst 3, 1) := by decide +kernel
theorem dX8_shrink_52 : decode cX8_shrink 52 = .ok (.invokevirtual 173, 3) := by decide +kernel
theorem dX8_shrink_55 : decode cX8_shrink 55 = .ok (.iload_n 2, 1) := by decide +kernel
theorem dX8_shrink_56 : decode cX8_shrink 56 = .ok (.isub, 1) := by decide +kernel
theorem dX8_shrink_57 : decode cX8_shrink 57 = .ok (.istore 5, 2) := by decide +kernel
theorem dX8_shrink_59 : decode cX8_shrink 59 = .ok (.iload 5, 2) := by decide +kernel
theorem dX8_shrink_61 : decode cX8_shrink 61 = .ok (.iconst 4, 1) := by decide +kernel
theorem dX8_shrink_62 : decode cX8_shrink 62 = .ok (.idiv, 1) := by decide +kernel
theorem dX8_shrink_63 : decode cX8_shrink 63 = .ok (.istore 6, 2) := by decide +kernel
theorem dX8_shrink_65 : decode cX8_shrink 65 = .ok (.iload 5, 2) := by decide +kernel
theorem dX8_shrink_67 : decode cX8_shrink 67 = .ok (.iconst 4, 1) := by decide +kernel
theorem dX8_shrink_68 : decode cX8_shrink 68 = .ok (.irem, 1) := by decide +kernel
theorem dX8_shrink_69 : decode cX8_shrink 69 = .ok (.istore 7, 2) := by decide +kernel
theorem dX8_shrink_71 : decode cX8_shrink 71 = .ok (.iload 6, 2) := by decide +kernel
theorem dX8_shrink_73 : decode cX8_shrink 73 = .ok (.iload_n 3, 1) := by decide +kernel
theorem dX8_shrink_74 : decode cX8_shrink 74 = .ok (.if_icmp .ne 25, 3) := by decide +kernel
theorem dX8_shrink_77 : decode cX8_shrink 77 = .ok (.aload_n 0, 1) := by decide +kernel
theorem dX8_shrink_78 : decode cX8_shrink 78 = .ok (.aload_n 0, 1) := by decide +kernel
theorem dX8_shrink_79 : decode cX8_shrink 79 = .ok (.iload_n 1, 1) := by decide +kernel
theorem dX8_shrink_80 : decode cX8_shrink 80 = .ok (.iconst 4, 1) := by decide +kernel
theorem dX8_shrink_81 : decode cX8_shrink 81 = .ok (.invokevirtual 173, 3) := by decide +kernel
theorem dX8_shrink_84 : decode cX8_shrink 84 = .ok (.iload 7, 2) := by decide +kernel
theorem dX8_shrink_86 : decode cX8_shrink 86 = .ok (.iadd, 1) := by decide +kernel
theorem dX8_shrink_87 : decode cX8_shrink 87 = .ok (.iload 4, 2) := by decide +kernel
theorem dX8_shrink_89 : decode cX8_shrink 89 = .ok (.iload 7, 2) := by decide +kernel
theorem dX8_shrink_91 : decode cX8_shrink 91 = .ok (.isub, 1) := by decide +kernel
theorem dX8_shrink_92 : decode cX8_shrink 92 = .ok (.iconst 1, 1) := by decide +kernel
theorem dX8_shrink_93 : decode cX8_shrink 93 = .ok (.invokevirtual 253, 3) := by decide +kernel
theorem dX8_shrink_96 : decode cX8_shrink 96 = .ok (.goto 79, 3) := by decide +kernel
theorem dX8_shrink_99 : decode cX8_shrink 99 = .ok (.aload_n 0, 1) := by decide +kernel
theorem dX8_shrink_100 : decode cX8_shrink 100 = .ok (.aload_n 0, 1) := by decide +kernel
theorem dX8_shrink_101 : decode cX8_shrink 101 = .ok (.iload_n 1, 1) := by decide +kernel
theorem dX8_shrink_102 : decode cX8_shrink 102 = .ok (.iconst 4, 1) := by decide +kernel
theorem dX8_shrink_103 : decode cX8_shrink 103 = .ok (.invokevirtual 173, 3) := by decide +kernel
theorem dX8_shrink_106 : decode cX8_shrink 106 = .ok (.iload 4, 2) := by decide +kernel
theorem dX8_shrink_108 : decode cX8_shrink 108 = .ok (.iconst 1, 1) := by decide +kernel
theorem dX8_shrink_109 : decode cX8_shrink 109 = .ok (.invokevirtual 253, 3) := by decide +kernel
theorem dX8_shrink_112 : decode cX8_shrink 112 = .ok (.iload 6, 2) := by decide +kernel
theorem dX8_shrink_114 : decode cX8_shrink 114 = .ok (.istore 8, 2) := by decide +kernel
theorem dX8_shrink_116 : decode cX8_shrink 116 = .ok (.iload 8, 2) := by decide +kernel
theorem dX8_shrink_118 : decode cX8_shrink 118 = .ok (.iload_n 3, 1) := by decide +kernel
theorem dX8_shrink_119 : decode cX8_shrink 119 = .ok (.if_icmp .ge 26, 3) := by decide +kernel
theorem dX8_shrink_122 : decode cX8_shrink 122 = .ok (.aload_n 0, 1) := by decide +kernel
theorem dX8_shrink_123 : decode cX8_shrink 123 = .ok (.iconst 4, 1) := by decide +kernel
theorem dX8_shrink_124 : decode cX8_shrink 124 = .ok (.aload_n 0, 1) := by decide +kernel
theorem dX8_shrink_125 : decode cX8_shrink 125 = .ok (.iload_n 1, 1) := by decide +kernel
theorem dX8_shrink_126 : decode cX8_shrink 126 = .ok (.iconst 5, 1) := by decide +kernel
theorem dX8_shrink_127 : decode cX8_shrink 127 = .ok (.iload 8, 2) := by decide +kernel
theorem dX8_shrink_129 : decode cX8_shrink 129 = .ok (.iadd, 1) := by decide +kernel
theorem dX8_shrink_130 : decode cX8_shrink 130 = .ok (.invokevirtual 173, 3) := by decide +kernel
theorem dX8_shrink_133 : decode cX8_shrink 133 = .ok (.imul, 1) := by decide +kernel
theorem dX8_shrink_134 : decode cX8_shrink 134 = .ok (.iconst 4, 1) := by decide +kernel
theorem dX8_shrink_135 : decode cX8_shrink 135 = .ok (.iconst 1, 1) := by decide +kernel
theorem dX8_shrink_136 : decode cX8_shrink 136 = .ok (.invokevirtual 253, 3) := by decide +kernel
theorem dX8_shrink_139 : decode cX8_shrink 139 = .ok (.iinc 8 1, 3) := by decide +kernel
theorem dX8_shrink_142 : decode cX8_shrink 142 = .ok (.goto (-26), 3) := by decide +kernel
theorem dX8_shrink_145 : decode cX8_shrink 145 = .ok (.aload_n 0, 1) := by decide +kernel
theorem dX8_shrink_146 : decode cX8_shrink 146 = .ok (.iload_n 1, 1) := by decide +kernel
theorem dX8_shrink_147 : decode cX8_shrink 147 = .ok (.iconst 4, 1) := by decide +kernel
theorem dX8_shrink_148 : decode cX8_shrink 148 = .ok (.iconst 4, 1) := by decide +kernel
theorem dX8_shrink_149 : decode cX8_shrink 149 = .ok (.aload_n 0, 1) := by decide +kernel
theorem dX8_shrink_150 : decode cX8_shrink 150 = .ok (.iload_n 1, 1) := by decide +kernel
theorem dX8_shrink_151 : decode cX8_shrink 151 = .ok (.iconst 5, 1) := by decide +kernel
theorem dX8_shrink_152 : decode cX8_shrink 152 = .ok (.iload 6, 2) := by decide +kernel
theorem dX8_shrink_154 : decode cX8_shrink 154 = .ok (.iadd, 1) := by decide +kernel
theorem dX8_shrink_155 : decode cX8_shrink 155 = .ok (.invokevirtual 173, 3) := by decide +kernel
theorem dX8_shrink_158 : decode cX8_shrink 158 = .ok (.imul, 1) := by decide +kernel
theorem dX8_shrink_159 : decode cX8_shrink 159 = .ok (.invokevirtual 236, 3) := by decide +kernel
theorem dX8_shrink_162 : decode cX8_shrink 162 = .ok (.aload_n 0, 1) := by decide +kernel
theorem dX8_shrink_163 : decode cX8_shrink 163 = .ok (.aload_n 0, 1) := by decide +kernel
theorem dX8_shrink_164 : decode cX8_shrink 164 = .ok (.iload_n 1, 1) := by decide +kernel
theorem dX8_shrink_165 : decode cX8_shrink 165 = .ok (.iconst 4, 1) := by decide +kernel
theorem dX8_shrink_166 : decode cX8_shrink 166 = .ok (.invokevirtual 173, 3) := by decide +kernel
theorem dX8_shrink_169 : decode cX8_shrink 169 = .ok (.iload 7, 2) := by decide +kernel
theorem dX8_shrink_171 : decode cX8_shrink 171 = .ok (.iconst 0, 1) := by decide +kernel
theorem dX8_shrink_172 : decode cX8_shrink 172 = .ok (.invokevirtual 253, 3) := by decide +kernel
theorem dX8_shrink_175 : decode cX8_shrink 175 = .ok (.aload_n 0, 1) := by decide +kernel
theorem dX8_shrink_176 : decode cX8_shrink 176 = .ok (.iload_n 1, 1) := by decide +kernel
theorem dX8_shrink_177 : decode cX8_shrink 177 = .ok (.iconst 3, 1) := by decide +kernel
theorem dX8_shrink_178 : decode cX8_shrink 178 = .ok (.iload 5, 2) := by decide +kernel
theorem dX8_shrink_180 : decode cX8_shrink 180 = .ok (.invokevirtual 236, 3) := by decide +kernel
theorem dX8_shrink_183 : decode cX8_shrink 183 = .ok (.iload 5, 2) := by decide +kernel
theorem dX8_shrink_185 : decode cX8_shrink 185 = .ok (.ireturn, 1) := by decide +kernel
theorem dX8_hasOthers_0 : decode cX8_hasOthers 0 = .ok (.iconst 0, 1) := by decide +kernel
theorem dX8_hasOthers_1 : decode cX8_hasOthers 1 = .ok (.istore_n 2, 1) := by decide +kernel
theorem dX8_hasOthers_2 : decode cX8_hasOthers 2 = .ok (.iconst 1, 1) := by decide +kernel
theorem dX8_hasOthers_3 : decode cX8_hasOthers 3 = .ok (.istore_n 3, 1) := by decide +kernel
theorem dX8_hasOthers_4 : decode cX8_hasOthers 4 = .ok (.iload_n 3, 1) := by decide +kernel
theorem dX8_hasOthers_5 : decode cX8_hasOthers 5 = .ok (.aload_n 0, 1) := by decide +kernel
theorem dX8_hasOthers_6 : decode cX8_hasOthers 6 = .ok (.invokevirtual 167, 3) := by decide +kernel
theorem dX8_hasOthers_9 : decode cX8_hasOthers 9 = .ok (.if_icmp .ge 37, 3) := by decide +kernel
theorem dX8_hasOthers_12 : decode cX8_hasOthers 12 = .ok (.iload_n 2, 1) := by decide +kernel
theorem dX8_hasOthers_13 : decode cX8_hasOthers 13 = .ok (.ifCond .ne 21, 3) := by decide +kernel
theorem dX8_hasOthers_16 : decode cX8_hasOthers 16 = .ok (.aload_n 0, 1) := by decide +kernel
theorem dX8_hasOthers_17 : decode cX8_hasOthers 17 = .ok (.iload_n 3, 1) := by decide +kernel
theorem dX8_hasOthers_18 : decode cX8_hasOthers 18 = .ok (.invokevirtual 176, 3) := by decide +kernel
theorem dX8_hasOthers_21 : decode cX8_hasOthers 21 = .ok (.ifCond .eq 17, 3) := by decide +kernel
theorem dX8_hasOthers_24 : decode cX8_hasOthers 24 = .ok (.aload_n 0, 1) := by decide +kernel
theorem dX8_hasOthers_25 : decode cX8_hasOthers 25 = .ok (.iload_n 3, 1) := by decide +kernel
theorem dX8_hasOthers_26 : decode cX8_hasOthers 26 = .ok (.iconst 1, 1) := by decide +kernel
theorem dX8_hasOthers_27 : decode cX8_hasOthers 27 = .ok (.invokevirtual 173, 3) := by decide +kernel
theorem dX8_hasOthers_30 : decode cX8_hasOthers 30 = .ok (.iload_n 1, 1) := by decide +kernel
theorem dX8_hasOthers_31 : decode cX8_hasOthers 31 = .ok (.if_icmp .ne 7, 3) := by decide +kernel
theorem dX8_hasOthers_34 : decode cX8_hasOthers 34 = .ok (.iconst 1, 1) := by decide +kernel
theorem dX8_hasOthers_35 : decode cX8_hasOthers 35 = .ok (.goto 4, 3) := by decide +kernel
theorem dX8_hasOthers_38 : decode cX8_hasOthers 38 = .ok (.iconst 0, 1) := by decide +kernel
theorem dX8_hasOthers_39 : decode cX8_hasOthers 39 = .ok (.istore_n 2, 1) := by decide +kernel
theorem dX8_hasOthers_40 : decode cX8_hasOthers 40 = .ok (.iinc 3 1, 3) := by decide +kernel
theorem dX8_hasOthers_43 : decode cX8_hasOthers 43 = .ok (.goto (-39), 3) := by decide +kernel
theorem dX8_hasOthers_46 : decode cX8_hasOthers 46 = .ok (.iload_n 2, 1) := by decide +kernel
theorem dX8_hasOthers_47 : decode cX8_hasOthers 47 = .ok (.ireturn, 1) := by decide +kernel
theorem dX8_remove_0 : decode cX8_remove 0 = .ok (.aload_n 0, 1) := by decide +kernel
theorem dX8_remove_1 : decode cX8_remove 1 = .ok (.iload_n 1, 1) := by decide +kernel
theorem dX8_remove_2 : decode cX8_remove 2 = .ok (.invokevirtual 176, 3) := by decide +kernel
theorem dX8_remove_5 : decode cX8_remove 5 = .ok (.ifCond .ne 5, 3) := by decide +kernel
theorem dX8_remove_8 : decode cX8_remove 8 = .ok (.iconst (-1), 1) := by decide +kernel
theorem dX8_remove_9 : decode cX8_remove 9 = .ok (.ireturn, 1) := by decide +kernel
theorem dX8_remove_10 : decode cX8_remove 10 = .ok (.aload_n 0, 1) := by decide +kernel
theorem dX8_remove_11 : decode cX8_remove 11 = .ok (.invokevirtual 240, 3) := by decide +kernel
theorem dX8_remove_14 : decode cX8_remove 14 = .ok (.ifCond .ne 15, 3) := by decide +kernel
theorem dX8_remove_17 : decode cX8_remove 17 = .ok (.iload_n 1, 1) := by decide +kernel
theorem dX8_remove_18 : decode cX8_remove 18 = .ok (.ifCond .eq 11, 3) := by decide +kernel
theorem dX8_remove_21 : decode cX8_remove 21 = .ok (.aload_n 0, 1) := by decide +kernel
theorem dX8_remove_22 : decode cX8_remove 22 = .ok (.iload_n 1, 1) := by decide +kernel
theorem dX8_remove_23 : decode cX8_remove 23 = .ok (.invokevirtual 278, 3) := by decide +kernel
theorem dX8_remove_26 : decode cX8_remove 26 = .ok (.ifCond .eq 6, 3) := by decide +kernel
theorem dX8_remove_29 : decode cX8_remove 29 = .ok (.bipush (-2), 2) := by decide +kernel
theorem dX8_remove_31 : decode cX8_remove 31 = .ok (.ireturn, 1) := by decide +kernel
theorem dX8_remove_32 : decode cX8_remove 32 = .ok (.aload_n 0, 1) := by decide +kernel
theorem dX8_remove_33 : decode cX8_remove 33 = .ok (.aload_n 0, 1) := by decide +kernel
theorem dX8_remove_34 : decode cX8_remove 34 = .ok (.iload_n 1, 1) := by decide +kernel
theorem dX8_remove_35 : decode cX8_remove 35 = .ok (.iconst 4, 1) := by decide +kernel
theorem dX8_remove_36 : decode cX8_remove 36 = .ok (.invokevirtual 173, 3) := by decide +kernel
theorem dX8_remove_39 : decode cX8_remove 39 = .ok (.aload_n 0, 1) := by decide +kernel
theorem dX8_remove_40 : decode cX8_remove 40 = .ok (.iload_n 1, 1) := by decide +kernel
theorem dX8_remove_41 : decode cX8_remove 41 = .ok (.invokevirtual 191, 3) := by decide +kernel
theorem dX8_remove_44 : decode cX8_remove 44 = .ok (.iconst 1, 1) := by decide +kernel
theorem dX8_remove_45 : decode cX8_remove 45 = .ok (.invokevirtual 253, 3) := by decide +kernel
theorem dX8_remove_48 : decode cX8_remove 48 = .ok (.iconst 0, 1) := by decide +kernel
theorem dX8_remove_49 : decode cX8_remove 49 = .ok (.istore_n 2, 1) := by decide +kernel
theorem dX8_remove_50 : decode cX8_remove 50 = .ok (.iload_n 2, 1) := by decide +kernel
theorem dX8_remove_51 : decode cX8_remove 51 = .ok (.aload_n 0, 1) := by decide +kernel
theorem dX8_remove_52 : decode cX8_remove 52 = .ok (.iload_n 1, 1) := by decide +kernel
theorem dX8_remove_53 : decode cX8_remove 53 = .ok (.invokevirtual 194, 3) := by decide +kernel
theorem dX8_remove_56 : decode cX8_remove 56 = .ok (.if_icmp .ge 25, 3) := by decide +kernel
theorem dX8_remove_59 : decode cX8_remove 59 = .ok (.aload_n 0, 1) := by decide +kernel
theorem dX8_remove_60 : decode cX8_remove 60 = .ok (.iconst 4, 1) := by decide +kernel
theorem dX8_remove_61 : decode cX8_remove 61 = .ok (.aload_n 0, 1) := by decide +kernel
theorem dX8_remove_62 : decode cX8_remove 62 = .ok (.iload_n 1, 1) := by decide +kernel
theorem dX8_remove_63 : decode cX8_remove 63 = .ok (.iconst 5, 1) := by decide +kernel
theorem dX8_remove_64 : decode cX8_remove 64 = .ok (.iload_n 2, 1) := by decide +kernel
theorem dX8_remove_65 : decode cX8_remove 65 = .ok (.iadd, 1) := by decide +kernel
theorem dX8_remove_66 : decode cX8_remove 66 = .ok (.invokevirtual 173, 3) := by decide +kernel
theorem dX8_remove_69 : decode cX8_remove 69 = .ok (.imul, 1) := by decide +kernel
theorem dX8_remove_70 : decode cX8_remove 70 = .ok (.iconst 4, 1) := by decide +kernel
theorem dX8_remove_71 : decode cX8_remove 71 = .ok (.iconst 1, 1) := by decide +kernel
theorem dX8_remove_72 : decode cX8_remove 72 = .ok (.invokevirtual 253, 3) := by decide +kernel
theorem dX8_remove_75 : decode cX8_remove 75 = .ok (.iinc 2 1, 3) := by decide +kernel
theorem dX8_remove_78 : decode cX8_remove 78 = .ok (.goto (-28), 3) := by decide +kernel
theorem dX8_remove_81 : decode cX8_remove 81 = .ok (.aload_n 0, 1) := by decide +kernel
theorem dX8_remove_82 : decode cX8_remove 82 = .ok (.iload_n 1, 1) := by decide +kernel
theorem dX8_remove_83 : decode cX8_remove 83 = .ok (.iconst 0, 1) := by decide +kernel
theorem dX8_remove_84 : decode cX8_remove 84 = .ok (.iconst 0, 1) := by decide +kernel
theorem dX8_remove_85 : decode cX8_remove 85 = .ok (.invokevirtual 236, 3) := by decide +kernel
theorem dX8_remove_88 : decode cX8_remove 88 = .ok (.aload_n 0, 1) := by decide +kernel
theorem dX8_remove_89 : decode cX8_remove 89 = .ok (.iload_n 1, 1) := by decide +kernel
theorem dX8_remove_90 : decode cX8_remove 90 = .ok (.iconst 3, 1) := by decide +kernel
theorem dX8_remove_91 : decode cX8_remove 91 = .ok (.invokevirtual 173, 3) := by decide +kernel
theorem dX8_remove_94 : decode cX8_remove 94 = .ok (.ireturn, 1) := by decide +kernel
theorem dX8_isWithin_0 : decode cX8_isWithin 0 = .ok (.iload_n 1, 1) := by decide +kernel
theorem dX8_isWithin_1 : decode cX8_isWithin 1 = .ok (.istore_n 3, 1) := by decide +kernel
theorem dX8_isWithin_2 : decode cX8_isWithin 2 = .ok (.iload_n 3, 1) := by decide +kernel
theorem dX8_isWithin_3 : decode cX8_isWithin 3 = .ok (.bipush (-4), 2) := by decide +kernel
theorem dX8_isWithin_5 : decode cX8_isWithin 5 = .ok (.if_icmp .eq 18, 3) := by decide +kernel
theorem dX8_isWithin_8 : decode cX8_isWithin 8 = .ok (.iload_n 3, 1) := by decide +kernel
theorem dX8_isWithin_9 : decode cX8_isWithin 9 = .ok (.iload_n 2, 1) := by decide +kernel
theorem dX8_isWithin_10 : decode cX8_isWithin 10 = .ok (.if_icmp .eq 13, 3) := by decide +kernel
theorem dX8_isWithin_13 : decode cX8_isWithin 13 = .ok (.aload_n 0, 1) := by decide +kernel
theorem dX8_isWithin_14 : decode cX8_isWithin 14 = .ok (.iload_n 3, 1) := by decide +kernel
theorem dX8_isWithin_15 : decode cX8_isWithin 15 = .ok (.iconst 1, 1) := by decide +kernel
theorem dX8_isWithin_16 : decode cX8_isWithin 16 = .ok (.invokevirtual 173, 3) := by decide +kernel
theorem dX8_isWithin_19 : decode cX8_isWithin 19 = .ok (.istore_n 3, 1) := by decide +kernel
theorem dX8_isWithin_20 : decode cX8_isWithin 20 = .ok (.goto (-18), 3) := by decide +kernel
theorem dX8_isWithin_23 : decode cX8_isWithin 23 = .ok (.iload_n 3, 1) := by decide +kernel
theorem dX8_isWithin_24 : decode cX8_isWithin 24 = .ok (.iload_n 2, 1) := by decide +kernel
theorem dX8_isWithin_25 : decode cX8_isWithin 25 = .ok (.if_icmp .ne 7, 3) := by decide +kernel
theorem dX8_isWithin_28 : decode cX8_isWithin 28 = .ok (.iconst 1, 1) := by decide +kernel
theorem dX8_isWithin_29 : decode cX8_isWithin 29 = .ok (.goto 4, 3) := by decide +kernel
theorem dX8_isWithin_32 : decode cX8_isWithin 32 = .ok (.iconst 0, 1) := by decide +kernel
theorem dX8_isWithin_33 : decode cX8_isWithin 33 = .ok (.ireturn, 1) := by decide +kernel
theorem dX8_farFromRoot_0 : decode cX8_farFromRoot 0 = .ok (.iconst 0, 1) := by decide +kernel
theorem dX8_farFromRoot_1 : decode cX8_farFromRoot 1 = .ok (.istore_n 2, 1) := by decide +kernel
theorem dX8_farFromRoot_2 : decode cX8_farFromRoot 2 = .ok (.iload_n 1, 1) := by decide +kernel
theorem dX8_farFromRoot_3 : decode cX8_farFromRoot 3 = .ok (.istore_n 3, 1) := by decide +kernel
theorem dX8_farFromRoot_4 : decode cX8_farFromRoot 4 = .ok (.iload_n 3, 1) := by decide +kernel
theorem dX8_farFromRoot_5 : decode cX8_farFromRoot 5 = .ok (.ifCond .eq 16, 3) := by decide +kernel
theorem dX8_farFromRoot_8 : decode cX8_farFromRoot 8 = .ok (.iinc 2 1, 3) := by decide +kernel
theorem dX8_farFromRoot_11 : decode cX8_farFromRoot 11 = .ok (.aload_n 0, 1) := by decide +kernel
theorem dX8_farFromRoot_12 : decode cX8_farFromRoot 12 = .ok (.iload_n 3, 1) := by decide +kernel
theorem dX8_farFromRoot_13 : decode cX8_farFromRoot 13 = .ok (.iconst 1, 1) := by decide +kernel
theorem dX8_farFromRoot_14 : decode cX8_farFromRoot 14 = .ok (.invokevirtual 173, 3) := by decide +kernel
theorem dX8_farFromRoot_17 : decode cX8_farFromRoot 17 = .ok (.istore_n 3, 1) := by decide +kernel
theorem dX8_farFromRoot_18 : decode cX8_farFromRoot 18 = .ok (.goto (-14), 3) := by decide +kernel
theorem dX8_farFromRoot_21 : decode cX8_farFromRoot 21 = .ok (.iload_n 2, 1) := by decide +kernel
theorem dX8_farFromRoot_22 : decode cX8_farFromRoot 22 = .ok (.ireturn, 1) := by decide +kernel
theorem dX8_move_0 : decode cX8_move 0 = .ok (.aload_n 0, 1) := by decide +kernel
theorem dX8_move_1 : decode cX8_move 1 = .ok (.iload_n 1, 1) := by decide +kernel
theorem dX8_move_2 : decode cX8_move 2 = .ok (.invokevirtual 176, 3) := by decide +kernel
theorem dX8_move_5 : decode cX8_move 5 = .ok (.ifCond .eq 23, 3) := by decide +kernel
theorem dX8_move_8 : decode cX8_move 8 = .ok (.aload_n 0, 1) := by decide +kernel
theorem dX8_move_9 : decode cX8_move 9 = .ok (.iload_n 2, 1) := by decide +kernel
theorem dX8_move_10 : decode cX8_move 10 = .ok (.invokevirtual 223, 3) := by decide +kernel
theorem dX8_move_13 : decode cX8_move 13 = .ok (.ifCond .eq 15, 3) := by decide +kernel
theorem dX8_move_16 : decode cX8_move 16 = .ok (.iload_n 3, 1) := by decide +kernel
theorem dX8_move_17 : decode cX8_move 17 = .ok (.i2l, 1) := by decide +kernel
theorem dX8_move_18 : decode cX8_move 18 = .ok (.lconst 0, 1) := by decide +kernel
theorem dX8_move_19 : decode cX8_move 19 = .ok (.ldc2_w 226, 3) := by decide +kernel
theorem dX8_move_22 : decode cX8_move 22 = .ok (.invokestatic 41, 3) := by decide +kernel
theorem dX8_move_25 : decode cX8_move 25 = .ok (.ifCond .ne 5, 3) := by decide +kernel
theorem dX8_move_28 : decode cX8_move 28 = .ok (.iconst (-1), 1) := by decide +kernel
theorem dX8_move_29 : decode cX8_move 29 = .ok (.ireturn, 1) := by decide +kernel
theorem dX8_move_30 : decode cX8_move 30 = .ok (.aload_n 0, 1) := by decide +kernel
theorem dX8_move_31 : decode cX8_move 31 = .ok (.iload_n 2, 1) := by decide +kernel
theorem dX8_move_32 : decode cX8_move 32 = .ok (.iload_n 3, 1) := by decide +kernel
theorem dX8_move_33 : decode cX8_move 33 = .ok (.invokevirtual 103, 3) := by decide +kernel
theorem dX8_move_36 : decode cX8_move 36 = .ok (.istore 4, 2) := by decide +kernel
theorem dX8_move_38 : decode cX8_move 38 = .ok (.aload_n 0, 1) := by decide +kernel
theorem dX8_move_39 : decode cX8_move 39 = .ok (.invokevirtual 240, 3) := by decide +kernel
theorem dX8_move_42 : decode cX8_move 42 = .ok (.ifCond .ne 29, 3) := by decide +kernel
theorem dX8_move_45 : decode cX8_move 45 = .ok (.iload_n 1, 1) := by decide +kernel
theorem dX8_move_46 : decode cX8_move 46 = .ok (.ifCond .eq 25, 3) := by decide +kernel
theorem dX8_move_49 : decode cX8_move 49 = .ok (.aload_n 0, 1) := by decide +kernel
theorem dX8_move_50 : decode cX8_move 50 = .ok (.iload_n 2, 1) := by decide +kernel
theorem dX8_move_51 : decode cX8_move 51 = .ok (.iload_n 1, 1) := by decide +kernel
theorem dX8_move_52 : decode cX8_move 52 = .ok (.invokevirtual 281, 3) := by decide +kernel
theorem dX8_move_55 : decode cX8_move 55 = .ok (.ifCond .ne 16, 3) := by decide +kernel
theorem dX8_move_58 : decode cX8_move 58 = .ok (.iload 4, 2) := by decide +kernel
theorem dX8_move_60 : decode cX8_move 60 = .ok (.bipush (-4), 2) := by decide +kernel
theorem dX8_move_62 : decode cX8_move 62 = .ok (.if_icmp .eq 12, 3) := by decide +kernel
theorem dX8_move_65 : decode cX8_move 65 = .ok (.iload 4, 2) := by decide +kernel
theorem dX8_move_67 : decode cX8_move 67 = .ok (.iload_n 1, 1) := by decide +kernel
theorem dX8_move_68 : decode cX8_move 68 = .ok (.if_icmp .eq 6, 3) := by decide +kernel
theorem dX8_move_71 : decode cX8_move 71 = .ok (.bipush (-2), 2) := by decide +kernel
theorem dX8_move_73 : decode cX8_move 73 = .ok (.ireturn, 1) := by decide +kernel
theorem dX8_move_74 : decode cX8_move 74 = .ok (.aload_n 0, 1) := by decide +kernel
theorem dX8_move_75 : decode cX8_move 75 = .ok (.iload_n 1, 1) := by decide +kernel
theorem dX8_move_76 : decode cX8_move 76 = .ok (.iconst 1, 1) := by decide +kernel
theorem dX8_move_77 : decode cX8_move 77 = .ok (.iload_n 2, 1) := by decide +kernel
theorem dX8_move_78 : decode cX8_move 78 = .ok (.invokevirtual 236, 3) := by decide +kernel
theorem dX8_move_81 : decode cX8_move 81 = .ok (.aload_n 0, 1) := by decide +kernel
theorem dX8_move_82 : decode cX8_move 82 = .ok (.iload_n 1, 1) := by decide +kernel
theorem dX8_move_83 : decode cX8_move 83 = .ok (.iconst 2, 1) := by decide +kernel
theorem dX8_move_84 : decode cX8_move 84 = .ok (.iload_n 3, 1) := by decide +kernel
theorem dX8_move_85 : decode cX8_move 85 = .ok (.invokevirtual 236, 3) := by decide +kernel
theorem dX8_move_88 : decode cX8_move 88 = .ok (.aload_n 0, 1) := by decide +kernel
theorem dX8_move_89 : decode cX8_move 89 = .ok (.iload_n 1, 1) := by decide +kernel
theorem dX8_move_90 : decode cX8_move 90 = .ok (.invokevirtual 284, 3) := by decide +kernel
theorem dX8_move_93 : decode cX8_move 93 = .ok (.ireturn, 1) := by decide +kernel
theorem dX8_isRowFree_0 : decode cX8_isRowFree 0 = .ok (.iconst 1, 1) := by decide +kernel
theorem dX8_isRowFree_1 : decode cX8_isRowFree 1 = .ok (.istore 4, 2) := by decide +kernel
theorem dX8_isRowFree_3 : decode cX8_isRowFree 3 = .ok (.iconst 0, 1) := by decide +kernel
theorem dX8_isRowFree_4 : decode cX8_isRowFree 4 = .ok (.istore 5, 2) := by decide +kernel
theorem dX8_isRowFree_6 : decode cX8_isRowFree 6 = .ok (.iload 5, 2) := by decide +kernel
theorem dX8_isRowFree_8 : decode cX8_isRowFree 8 = .ok (.iload_n 3, 1) := by decide +kernel
theorem dX8_isRowFree_9 : decode cX8_isRowFree 9 = .ok (.if_icmp .ge 65, 3) := by decide +kernel
theorem dX8_isRowFree_12 : decode cX8_isRowFree 12 = .ok (.iload_n 2, 1) := by decide +kernel
theorem dX8_isRowFree_13 : decode cX8_isRowFree 13 = .ok (.iload 5, 2) := by decide +kernel
theorem dX8_isRowFree_15 : decode cX8_isRowFree 15 = .ok (.iconst 1, 1) := by decide +kernel
theorem dX8_isRowFree_16 : decode cX8_isRowFree 16 = .ok (.aload_n 0, 1) := by decide +kernel
theorem dX8_isRowFree_17 : decode cX8_isRowFree 17 = .ok (.getfield 7, 3) := by decide +kernel
theorem dX8_isRowFree_20 : decode cX8_isRowFree 20 = .ok (.iconst 3, 1) := by decide +kernel
theorem dX8_isRowFree_21 : decode cX8_isRowFree 21 = .ok (.iaload, 1) := by decide +kernel
theorem dX8_isRowFree_22 : decode cX8_isRowFree 22 = .ok (.iadd, 1) := by decide +kernel
theorem dX8_isRowFree_23 : decode cX8_isRowFree 23 = .ok (.imul, 1) := by decide +kernel
theorem dX8_isRowFree_24 : decode cX8_isRowFree 24 = .ok (.iadd, 1) := by decide +kernel
theorem dX8_isRowFree_25 : decode cX8_isRowFree 25 = .ok (.istore 6, 2) := by decide +kernel
theorem dX8_isRowFree_27 : decode cX8_isRowFree 27 = .ok (.iload 4, 2) := by decide +kernel
theorem dX8_isRowFree_29 : decode cX8_isRowFree 29 = .ok (.ifCond .eq 36, 3) := by decide +kernel
theorem dX8_isRowFree_32 : decode cX8_isRowFree 32 = .ok (.iload 6, 2) := by decide +kernel
theorem dX8_isRowFree_34 : decode cX8_isRowFree 34 = .ok (.aload_n 0, 1) := by decide +kernel
theorem dX8_isRowFree_35 : decode cX8_isRowFree 35 = .ok (.getfield 7, 3) := by decide +kernel
theorem dX8_isRowFree_38 : decode cX8_isRowFree 38 = .ok (.iconst 1, 1) := by decide +kernel
theorem dX8_isRowFree_39 : decode cX8_isRowFree 39 = .ok (.iaload, 1) := by decide +kernel
theorem dX8_isRowFree_40 : decode cX8_isRowFree 40 = .ok (.if_icmp .ge 25, 3) := by decide +kernel
theorem dX8_isRowFree_43 : decode cX8_isRowFree 43 = .ok (.aload_n 0, 1) := by decide +kernel
theorem dX8_isRowFree_44 : decode cX8_isRowFree 44 = .ok (.aload_n 0, 1) := by decide +kernel
theorem dX8_isRowFree_45 : decode cX8_isRowFree 45 = .ok (.getfield 7, 3) := by decide +kernel
theorem dX8_isRowFree_48 : decode cX8_isRowFree 48 = .ok (.iconst 1, 1) := by decide +kernel
theorem dX8_isRowFree_49 : decode cX8_isRowFree 49 = .ok (.iaload, 1) := by decide +kernel
theorem dX8_isRowFree_50 : decode cX8_isRowFree 50 = .ok (.iload_n 1, 1) := by decide +kernel
theorem dX8_isRowFree_51 : decode cX8_isRowFree 51 = .ok (.imul, 1) := by decide +kernel
theorem dX8_isRowFree_52 : decode cX8_isRowFree 52 = .ok (.iload 6, 2) := by decide +kernel
theorem dX8_isRowFree_54 : decode cX8_isRowFree 54 = .ok (.iadd, 1) := by decide +kernel
theorem dX8_isRowFree_55 : decode cX8_isRowFree 55 = .ok (.invokevirtual 149, 3) := by decide +kernel
theorem dX8_isRowFree_58 : decode cX8_isRowFree 58 = .ok (.ifCond .eq 7, 3) := by decide +kernel
theorem dX8_isRowFree_61 : decode cX8_isRowFree 61 = .ok (.iconst 1, 1) := by decide +kernel
theorem dX8_isRowFree_62 : decode cX8_isRowFree 62 = .ok (.goto 4, 3) := by decide +kernel
theorem dX8_isRowFree_65 : decode cX8_isRowFree 65 = .ok (.iconst 0, 1) := by decide +kernel
theorem dX8_isRowFree_66 : decode cX8_isRowFree 66 = .ok (.istore 4, 2) := by decide +kernel
theorem dX8_isRowFree_68 : decode cX8_isRowFree 68 = .ok (.iinc 5 1, 3) := by decide +kernel
theorem dX8_isRowFree_71 : decode cX8_isRowFree 71 = .ok (.goto (-65), 3) := by decide +kernel
theorem dX8_isRowFree_74 : decode cX8_isRowFree 74 = .ok (.iload 4, 2) := by decide +kernel
theorem dX8_isRowFree_76 : decode cX8_isRowFree 76 = .ok (.ireturn, 1) := by decide +kernel
theorem dX8_gathers_0 : decode cX8_gathers 0 = .ok (.iconst 0, 1) := by decide +kernel
theorem dX8_gathers_1 : decode cX8_gathers 1 = .ok (.istore 4, 2) := by decide +kernel
theorem dX8_gathers_3 : decode cX8_gathers 3 = .ok (.iload 4, 2) := by decide +kernel
theorem dX8_gathers_5 : decode cX8_gathers 5 = .ok (.aload_n 0, 1) := by decide +kernel
theorem dX8_gathers_6 : decode cX8_gathers 6 = .ok (.iload_n 1, 1) := by decide +kernel
theorem dX8_gathers_7 : decode cX8_gathers 7 = .ok (.invokevirtual 194, 3) := by decide +kernel
theorem dX8_gathers_10 : decode cX8_gathers 10 = .ok (.if_icmp .ge 26, 3) := by decide +kernel
theorem dX8_gathers_13 : decode cX8_gathers 13 = .ok (.aload_n 0, 1) := by decide +kernel
theorem dX8_gathers_14 : decode cX8_gathers 14 = .ok (.iconst 4, 1) := by decide +kernel
theorem dX8_gathers_15 : decode cX8_gathers 15 = .ok (.aload_n 0, 1) := by decide +kernel
theorem dX8_gathers_16 : decode cX8_gathers 16 = .ok (.iload_n 1, 1) := by decide +kernel
theorem dX8_gathers_17 : decode cX8_gathers 17 = .ok (.iconst 5, 1) := by decide +kernel
theorem dX8_gathers_18 : decode cX8_gathers 18 = .ok (.iload 4, 2) := by decide +kernel
theorem dX8_gathers_20 : decode cX8_gathers 20 = .ok (.iadd, 1) := by decide +kernel
theorem dX8_gathers_21 : decode cX8_gathers 21 = .ok (.invokevirtual 173, 3) := by decide +kernel
theorem dX8_gathers_24 : decode cX8_gathers 24 = .ok (.imul, 1) := by decide +kernel
theorem dX8_gathers_25 : decode cX8_gathers 25 = .ok (.iconst 4, 1) := by decide +kernel
theorem dX8_gathers_26 : decode cX8_gathers 26 = .ok (.iconst 1, 1) := by decide +kernel
theorem dX8_gathers_27 : decode cX8_gathers 27 = .ok (.invokevirtual 253, 3) := by decide +kernel
theorem dX8_gathers_30 : decode cX8_gathers 30 = .ok (.iinc 4 1, 3) := by decide +kernel
theorem dX8_gathers_33 : decode cX8_gathers 33 = .ok (.goto (-30), 3) := by decide +kernel
theorem dX8_gathers_36 : decode cX8_gathers 36 = .ok (.iconst 0, 1) := by decide +kernel
theorem dX8_gathers_37 : decode cX8_gathers 37 = .ok (.istore 4, 2) := by decide +kernel
theorem dX8_gathers_39 : decode cX8_gathers 39 = .ok (.iload 4, 2) := by decide +kernel
theorem dX8_gathers_41 : decode cX8_gathers 41 = .ok (.aload_n 0, 1) := by decide +kernel
theorem dX8_gathers_42 : decode cX8_gathers 42 = .ok (.iload_n 1, 1) := by decide +kernel
theorem dX8_gathers_43 : decode cX8_gathers 43 = .ok (.invokevirtual 194, 3) := by decide +kernel
theorem dX8_gathers_46 : decode cX8_gathers 46 = .ok (.if_icmp .ge 54, 3) := by decide +kernel
theorem dX8_gathers_49 : decode cX8_gathers 49 = .ok (.aload_n 0, 1) := by decide +kernel
theorem dX8_gathers_50 : decode cX8_gathers 50 = .ok (.getfield 7, 3) := by decide +kernel
theorem dX8_gathers_53 : decode cX8_gathers 53 = .ok (.iconst 1, 1) := by decide +kernel
theorem dX8_gathers_54 : decode cX8_gathers 54 = .ok (.iaload, 1) := by decide +kernel
theorem dX8_gathers_55 : decode cX8_gathers 55 = .ok (.iload_n 2, 1) := by decide +kernel
theorem dX8_gathers_56 : decode cX8_gathers 56 = .ok (.imul, 1) := by decide +kernel
theorem dX8_gathers_57 : decode cX8_gathers 57 = .ok (.iload_n 3, 1) := by decide +kernel
theorem dX8_gathers_58 : decode cX8_gathers 58 = .ok (.iadd, 1) := by decide +kernel
theorem dX8_gathers_59 : decode cX8_gathers 59 = .ok (.iload 4, 2) := by decide +kernel
theorem dX8_gathers_61 : decode cX8_gathers 61 = .ok (.iconst 1, 1) := by decide +kernel
theorem dX8_gathers_62 : decode cX8_gathers 62 = .ok (.aload_n 0, 1) := by decide +kernel
theorem dX8_gathers_63 : decode cX8_gathers 63 = .ok (.getfield 7, 3) := by decide +kernel
theorem dX8_gathers_66 : decode cX8_gathers 66 = .ok (.iconst 3, 1) := by decide +kernel
theorem dX8_gathers_67 : decode cX8_gathers 67 = .ok (.iaload, 1) := by decide +kernel
theorem dX8_gathers_68 : decode cX8_gathers 68 = .ok (.iadd, 1) := by decide +kernel
theorem dX8_gathers_69 : decode cX8_gathers 69 = .ok (.imul, 1) := by decide +kernel
theorem dX8_gathers_70 : decode cX8_gathers 70 = .ok (.iadd, 1) := by decide +kernel
theorem dX8_gathers_71 : decode cX8_gathers 71 = .ok (.istore 5, 2) := by decide +kernel
theorem dX8_gathers_73 : decode cX8_gathers 73 = .ok (.aload_n 0, 1) := by decide +kernel
theorem dX8_gathers_74 : decode cX8_gathers 74 = .ok (.iload_n 1, 1) := by decide +kernel
theorem dX8_gathers_75 : decode cX8_gathers 75 = .ok (.iconst 5, 1) := by decide +kernel
theorem dX8_gathers_76 : decode cX8_gathers 76 = .ok (.iload 4, 2) := by decide +kernel
theorem dX8_gathers_78 : decode cX8_gathers 78 = .ok (.iadd, 1) := by decide +kernel
theorem dX8_gathers_79 : decode cX8_gathers 79 = .ok (.iload 5, 2) := by decide +kernel
theorem dX8_gathers_81 : decode cX8_gathers 81 = .ok (.invokevirtual 236, 3) := by decide +kernel
theorem dX8_gathers_84 : decode cX8_gathers 84 = .ok (.aload_n 0, 1) := by decide +kernel
theorem dX8_gathers_85 : decode cX8_gathers 85 = .ok (.iconst 4, 1) := by decide +kernel
theorem dX8_gathers_86 : decode cX8_gathers 86 = .ok (.iload 5, 2) := by decide +kernel
theorem dX8_gathers_88 : decode cX8_gathers 88 = .ok (.imul, 1) := by decide +kernel
theorem dX8_gathers_89 : decode cX8_gathers 89 = .ok (.iconst 4, 1) := by decide +kernel
theorem dX8_gathers_90 : decode cX8_gathers 90 = .ok (.iconst 0, 1) := by decide +kernel
theorem dX8_gathers_91 : decode cX8_gathers 91 = .ok (.invokevirtual 253, 3) := by decide +kernel
theorem dX8_gathers_94 : decode cX8_gathers 94 = .ok (.iinc 4 1, 3) := by decide +kernel
theorem dX8_gathers_97 : decode cX8_gathers 97 = .ok (.goto (-58), 3) := by decide +kernel
theorem dX8_gathers_100 : decode cX8_gathers 100 = .ok (.aload_n 0, 1) := by decide +kernel
theorem dX8_gathers_101 : decode cX8_gathers 101 = .ok (.getfield 7, 3) := by decide +kernel
theorem dX8_gathers_104 : decode cX8_gathers 104 = .ok (.bipush 7, 2) := by decide +kernel
theorem dX8_gathers_106 : decode cX8_gathers 106 = .ok (.dup2, 1) := by decide +kernel
theorem dX8_gathers_107 : decode cX8_gathers 107 = .ok (.iaload, 1) := by decide +kernel
theorem dX8_gathers_108 : decode cX8_gathers 108 = .ok (.aload_n 0, 1) := by decide +kernel
theorem dX8_gathers_109 : decode cX8_gathers 109 = .ok (.iload_n 1, 1) := by decide +kernel
theorem dX8_gathers_110 : decode cX8_gathers 110 = .ok (.invokevirtual 194, 3) := by decide +kernel
theorem dX8_gathers_113 : decode cX8_gathers 113 = .ok (.iadd, 1) := by decide +kernel
theorem dX8_gathers_114 : decode cX8_gathers 114 = .ok (.iastore, 1) := by decide +kernel
theorem dX8_gathers_115 : decode cX8_gathers 115 = .ok (.return_, 1) := by decide +kernel
theorem dX8_gather_0 : decode cX8_gather 0 = .ok (.aload_n 0, 1) := by decide +kernel
theorem dX8_gather_1 : decode cX8_gather 1 = .ok (.iload_n 1, 1) := by decide +kernel
theorem dX8_gather_2 : decode cX8_gather 2 = .ok (.invokevirtual 273, 3) := by decide +kernel
theorem dX8_gather_5 : decode cX8_gather 5 = .ok (.ifCond .ne 5, 3) := by decide +kernel
theorem dX8_gather_8 : decode cX8_gather 8 = .ok (.iconst (-1), 1) := by decide +kernel
theorem dX8_gather_9 : decode cX8_gather 9 = .ok (.ireturn, 1) := by decide +kernel
theorem dX8_gather_10 : decode cX8_gather 10 = .ok (.aload_n 0, 1) := by decide +kernel
theorem dX8_gather_11 : decode cX8_gather 11 = .ok (.invokevirtual 240, 3) := by decide +kernel
theorem dX8_gather_14 : decode cX8_gather 14 = .ok (.ifCond .ne 12, 3) := by decide +kernel
theorem dX8_gather_17 : decode cX8_gather 17 = .ok (.aload_n 0, 1) := by decide +kernel
theorem dX8_gather_18 : decode cX8_gather 18 = .ok (.iload_n 1, 1) := by decide +kernel
theorem dX8_gather_19 : decode cX8_gather 19 = .ok (.invokevirtual 194, 3) := by decide +kernel
theorem dX8_gather_22 : decode cX8_gather 22 = .ok (.iconst 2, 1) := by decide +kernel
theorem dX8_gather_23 : decode cX8_gather 23 = .ok (.if_icmp .ge 6, 3) := by decide +kernel
theorem dX8_gather_26 : decode cX8_gather 26 = .ok (.bipush (-2), 2) := by decide +kernel
theorem dX8_gather_28 : decode cX8_gather 28 = .ok (.ireturn, 1) := by decide +kernel
theorem dX8_gather_29 : decode cX8_gather 29 = .ok (.iconst 0, 1) := by decide +kernel
theorem dX8_gather_30 : decode cX8_gather 30 = .ok (.istore_n 2, 1) := by decide +kernel
theorem dX8_gather_31 : decode cX8_gather 31 = .ok (.iload_n 2, 1) := by decide +kernel
theorem dX8_gather_32 : decode cX8_gather 32 = .ok (.aload_n 0, 1) := by decide +kernel
theorem dX8_gather_33 : decode cX8_gather 33 = .ok (.getfield 7, 3) := by decide +kernel
theorem dX8_gather_36 : decode cX8_gather 36 = .ok (.iconst 0, 1) := by decide +kernel
theorem dX8_gather_37 : decode cX8_gather 37 = .ok (.iaload, 1) := by decide +kernel
theorem dX8_gather_38 : decode cX8_gather 38 = .ok (.if_icmp .ge 72, 3) := by decide +kernel
theorem dX8_gather_41 : decode cX8_gather 41 = .ok (.aload_n 0, 1) := by decide +kernel
theorem dX8_gather_42 : decode cX8_gather 42 = .ok (.iload_n 1, 1) := by decide +kernel
theorem dX8_gather_43 : decode cX8_gather 43 = .ok (.aload_n 0, 1) := by decide +kernel
theorem dX8_gather_44 : decode cX8_gather 44 = .ok (.getfield 7, 3) := by decide +kernel
theorem dX8_gather_47 : decode cX8_gather 47 = .ok (.iconst 2, 1) := by decide +kernel
theorem dX8_gather_48 : decode cX8_gather 48 = .ok (.iaload, 1) := by decide +kernel
theorem dX8_gather_49 : decode cX8_gather 49 = .ok (.idiv, 1) := by decide +kernel
theorem dX8_gather_50 : decode cX8_gather 50 = .ok (.iload_n 2, 1) := by decide +kernel
theorem dX8_gather_51 : decode cX8_gather 51 = .ok (.invokevirtual 161, 3) := by decide +kernel
theorem dX8_gather_54 : decode cX8_gather 54 = .ok (.istore_n 3, 1) := by decide +kernel
theorem dX8_gather_55 : decode cX8_gather 55 = .ok (.iconst 0, 1) := by decide +kernel
theorem dX8_gather_56 : decode cX8_gather 56 = .ok (.istore 4, 2) := by decide +kernel
theorem dX8_gather_58 : decode cX8_gather 58 = .ok (.iload 4, 2) := by decide +kernel
theorem dX8_gather_60 : decode cX8_gather 60 = .ok (.aload_n 0, 1) := by decide +kernel
theorem dX8_gather_61 : decode cX8_gather 61 = .ok (.getfield 7, 3) := by decide +kernel
theorem dX8_gather_64 : decode cX8_gather 64 = .ok (.iconst 1, 1) := by decide +kernel
theorem dX8_gather_65 : decode cX8_gather 65 = .ok (.iaload, 1) := by decide +kernel
theorem dX8_gather_66 : decode cX8_gather 66 = .ok (.if_icmp .ge 38, 3) := by decide +kernel
theorem dX8_gather_69 : decode cX8_gather 69 = .ok (.aload_n 0, 1) := by decide +kernel
theorem dX8_gather_70 : decode cX8_gather 70 = .ok (.iload_n 3, 1) := by decide +kernel
theorem dX8_gather_71 : decode cX8_gather 71 = .ok (.iload 4, 2) := by decide +kernel
theorem dX8_gather_73 : decode cX8_gather 73 = .ok (.aload_n 0, 1) := by decide +kernel
theorem dX8_gather_74 : decode cX8_gather 74 = .ok (.iload_n 1, 1) := by decide +kernel
theorem dX8_gather_75 : decode cX8_gather 75 = .ok (.invokevirtual 194, 3) := by decide +kernel
theorem dX8_gather_78 : decode cX8_gather 78 = .ok (.invokevirtual 287, 3) := by decide +kernel
theorem dX8_gather_81 : decode cX8_gather 81 = .ok (.ifCond .eq 17, 3) := by decide +kernel
theorem dX8_gather_84 : decode cX8_gather 84 = .ok (.aload_n 0, 1) := by decide +kernel
theorem dX8_gather_85 : decode cX8_gather 85 = .ok (.iload_n 1, 1) := by decide +kernel
theorem dX8_gather_86 : decode cX8_gather 86 = .ok (.iload_n 3, 1) := by decide +kernel
theorem dX8_gather_87 : decode cX8_gather 87 = .ok (.iload 4, 2) := by decide +kernel
theorem dX8_gather_89 : decode cX8_gather 89 = .ok (.invokevirtual 290, 3) := by decide +kernel
theorem dX8_gather_92 : decode cX8_gather 92 = .ok (.aload_n 0, 1) := by decide +kernel
theorem dX8_gather_93 : decode cX8_gather 93 = .ok (.iload_n 1, 1) := by decide +kernel
theorem dX8_gather_94 : decode cX8_gather 94 = .ok (.invokevirtual 203, 3) := by decide +kernel
theorem dX8_gather_97 : decode cX8_gather 97 = .ok (.ireturn, 1) := by decide +kernel
theorem dX8_gather_98 : decode cX8_gather 98 = .ok (.iinc 4 1, 3) := by decide +kernel
theorem dX8_gather_101 : decode cX8_gather 101 = .ok (.goto (-43), 3) := by decide +kernel
theorem dX8_gather_104 : decode cX8_gather 104 = .ok (.iinc 2 1, 3) := by decide +kernel
theorem dX8_gather_107 : decode cX8_gather 107 = .ok (.goto (-76), 3) := by decide +kernel
theorem dX8_gather_110 : decode cX8_gather 110 = .ok (.bipush (-3), 2) := by decide +kernel
theorem dX8_gather_112 : decode cX8_gather 112 = .ok (.ireturn, 1) := by decide +kernel
theorem dX8_gets_0 : decode cX8_gets 0 = .ok (.aload_n 0, 1) := by decide +kernel
theorem dX8_gets_1 : decode cX8_gets 1 = .ok (.aload_n 0, 1) := by decide +kernel
theorem dX8_gets_2 : decode cX8_gets 2 = .ok (.getfield 293, 3) := by decide +kernel
theorem dX8_gets_5 : decode cX8_gets 5 = .ok (.ldc_w 296, 3) := by decide +kernel
theorem dX8_gets_8 : decode cX8_gets 8 = .ok (.imul, 1) := by decide +kernel
theorem dX8_gets_9 : decode cX8_gets 9 = .ok (.sipush 12345, 3) := by decide +kernel
theorem dX8_gets_12 : decode cX8_gets 12 = .ok (.iadd, 1) := by decide +kernel
theorem dX8_gets_13 : decode cX8_gets 13 = .ok (.putfield 293, 3) := by decide +kernel
theorem dX8_gets_16 : decode cX8_gets 16 = .ok (.aload_n 0, 1) := by decide +kernel
theorem dX8_gets_17 : decode cX8_gets 17 = .ok (.getfield 293, 3) := by decide +kernel
theorem dX8_gets_20 : decode cX8_gets 20 = .ok (.bipush 16, 2) := by decide +kernel
theorem dX8_gets_22 : decode cX8_gets 22 = .ok (.ishr, 1) := by decide +kernel
theorem dX8_gets_23 : decode cX8_gets 23 = .ok (.sipush 32767, 3) := by decide +kernel
theorem dX8_gets_26 : decode cX8_gets 26 = .ok (.iand, 1) := by decide +kernel
theorem dX8_gets_27 : decode cX8_gets 27 = .ok (.ireturn, 1) := by decide +kernel
theorem dX8_deed_0 : decode cX8_deed 0 = .ok (.iload_n 1, 1) := by decide +kernel
theorem dX8_deed_1 : decode cX8_deed 1 = .ok (.tableswitch 95 0 4 #[35, 46, 46, 82, 82], 35) := by decide +kernel
theorem dX8_deed_36 : decode cX8_deed 36 = .ok (.aload_n 0, 1) := by decide +kernel
theorem dX8_deed_37 : decode cX8_deed 37 = .ok (.iload_n 2, 1) := by decide +kernel
theorem dX8_deed_38 : decode cX8_deed 38 = .ok (.iload_n 3, 1) := by decide +kernel
theorem dX8_deed_39 : decode cX8_deed 39 = .ok (.bipush 10, 2) := by decide +kernel
theorem dX8_deed_41 : decode cX8_deed 41 = .ok (.irem, 1) := by decide +kernel
theorem dX8_deed_42 : decode cX8_deed 42 = .ok (.iconst 1, 1) := by decide +kernel
theorem dX8_deed_43 : decode cX8_deed 43 = .ok (.invokevirtual 297, 3) := by decide +kernel
theorem dX8_deed_46 : decode cX8_deed 46 = .ok (.ireturn, 1) := by decide +kernel
theorem dX8_deed_47 : decode cX8_deed 47 = .ok (.aload_n 0, 1) := by decide +kernel
theorem dX8_deed_48 : decode cX8_deed 48 = .ok (.iload_n 2, 1) := by decide +kernel
theorem dX8_deed_49 : decode cX8_deed 49 = .ok (.iload_n 3, 1) := by decide +kernel
theorem dX8_deed_50 : decode cX8_deed 50 = .ok (.bipush 10, 2) := by decide +kernel
theorem dX8_deed_52 : decode cX8_deed 52 = .ok (.irem, 1) := by decide +kernel
theorem dX8_deed_53 : decode cX8_deed 53 = .ok (.iconst 2, 1) := by decide +kernel
theorem dX8_deed_54 : decode cX8_deed 54 = .ok (.invokevirtual 297, 3) := by decide +kernel
theorem dX8_deed_57 : decode cX8_deed 57 = .ok (.istore 5, 2) := by decide +kernel
theorem dX8_deed_59 : decode cX8_deed 59 = .ok (.iload 5, 2) := by decide +kernel
theorem dX8_deed_61 : decode cX8_deed 61 = .ok (.ifCond .ge 8, 3) := by decide +kernel
theorem dX8_deed_64 : decode cX8_deed 64 = .ok (.iload 5, 2) := by decide +kernel
theorem dX8_deed_66 : decode cX8_deed 66 = .ok (.goto 16, 3) := by decide +kernel
theorem dX8_deed_69 : decode cX8_deed 69 = .ok (.aload_n 0, 1) := by decide +kernel
theorem dX8_deed_70 : decode cX8_deed 70 = .ok (.iload 5, 2) := by decide +kernel
theorem dX8_deed_72 : decode cX8_deed 72 = .ok (.iload 4, 2) := by decide +kernel
theorem dX8_deed_74 : decode cX8_deed 74 = .ok (.bipush 9, 2) := by decide +kernel
theorem dX8_deed_76 : decode cX8_deed 76 = .ok (.irem, 1) := by decide +kernel
theorem dX8_deed_77 : decode cX8_deed 77 = .ok (.iconst 1, 1) := by decide +kernel
theorem dX8_deed_78 : decode cX8_deed 78 = .ok (.iadd, 1) := by decide +kernel
theorem dX8_deed_79 : decode cX8_deed 79 = .ok (.invokevirtual 300, 3) := by decide +kernel
theorem dX8_deed_82 : decode cX8_deed 82 = .ok (.ireturn, 1) := by decide +kernel
theorem dX8_deed_83 : decode cX8_deed 83 = .ok (.aload_n 0, 1) := by decide +kernel
theorem dX8_deed_84 : decode cX8_deed 84 = .ok (.iload_n 2, 1) := by decide +kernel
theorem dX8_deed_85 : decode cX8_deed 85 = .ok (.iload 4, 2) := by decide +kernel
theorem dX8_deed_87 : decode cX8_deed 87 = .ok (.bipush 9, 2) := by decide +kernel
theorem dX8_deed_89 : decode cX8_deed 89 = .ok (.irem, 1) := by decide +kernel
theorem dX8_deed_90 : decode cX8_deed 90 = .ok (.iconst 1, 1) := by decide +kernel
theorem dX8_deed_91 : decode cX8_deed 91 = .ok (.iadd, 1) := by decide +kernel
theorem dX8_deed_92 : decode cX8_deed 92 = .ok (.invokevirtual 300, 3) := by decide +kernel
theorem dX8_deed_95 : decode cX8_deed 95 = .ok (.ireturn, 1) := by decide +kernel
theorem dX8_deed_96 : decode cX8_deed 96 = .ok (.aload_n 0, 1) := by decide +kernel
theorem dX8_deed_97 : decode cX8_deed 97 = .ok (.iload_n 2, 1) := by decide +kernel
theorem dX8_deed_98 : decode cX8_deed 98 = .ok (.invokevirtual 303, 3) := by decide +kernel
theorem dX8_deed_101 : decode cX8_deed 101 = .ok (.ireturn, 1) := by decide +kernel
theorem dX8_draw_0 : decode cX8_draw 0 = .ok (.iload_n 2, 1) := by decide +kernel
theorem dX8_draw_1 : decode cX8_draw 1 = .ok (.i2l, 1) := by decide +kernel
theorem dX8_draw_2 : decode cX8_draw 2 = .ok (.lconst 1, 1) := by decide +kernel
theorem dX8_draw_3 : decode cX8_draw 3 = .ok (.ldc2_w 306, 3) := by decide +kernel
theorem dX8_draw_6 : decode cX8_draw 6 = .ok (.invokestatic 41, 3) := by decide +kernel
theorem dX8_draw_9 : decode cX8_draw 9 = .ok (.ifCond .ne 5, 3) := by decide +kernel
theorem dX8_draw_12 : decode cX8_draw 12 = .ok (.iconst (-1), 1) := by decide +kernel
theorem dX8_draw_13 : decode cX8_draw 13 = .ok (.ireturn, 1) := by decide +kernel
theorem dX8_draw_14 : decode cX8_draw 14 = .ok (.aload_n 0, 1) := by decide +kernel
theorem dX8_draw_15 : decode cX8_draw 15 = .ok (.invokevirtual 240, 3) := by decide +kernel
theorem dX8_draw_18 : decode cX8_draw 18 = .ok (.ifCond .eq 6, 3) := by decide +kernel
theorem dX8_draw_21 : decode cX8_draw 21 = .ok (.bipush (-2), 2) := by decide +kernel
theorem dX8_draw_23 : decode cX8_draw 23 = .ok (.ireturn, 1) := by decide +kernel
theorem dX8_draw_24 : decode cX8_draw 24 = .ok (.aload_n 0, 1) := by decide +kernel
theorem dX8_draw_25 : decode cX8_draw 25 = .ok (.iload_n 1, 1) := by decide +kernel
theorem dX8_draw_26 : decode cX8_draw 26 = .ok (.putfield 293, 3) := by decide +kernel
theorem dX8_draw_29 : decode cX8_draw 29 = .ok (.iconst 0, 1) := by decide +kernel
theorem dX8_draw_30 : decode cX8_draw 30 = .ok (.istore_n 3, 1) := by decide +kernel
theorem dX8_draw_31 : decode cX8_draw 31 = .ok (.iconst 0, 1) := by decide +kernel
theorem dX8_draw_32 : decode cX8_draw 32 = .ok (.istore 4, 2) := by decide +kernel
theorem dX8_draw_34 : decode cX8_draw 34 = .ok (.iload 4, 2) := by decide +kernel
theorem dX8_draw_36 : decode cX8_draw 36 = .ok (.iload_n 2, 1) := by decide +kernel
theorem dX8_draw_37 : decode cX8_draw 37 = .ok (.if_icmp .ge 67, 3) := by decide +kernel
theorem dX8_draw_40 : decode cX8_draw 40 = .ok (.aload_n 0, 1) := by decide +kernel
theorem dX8_draw_41 : decode cX8_draw 41 = .ok (.invokevirtual 308, 3) := by decide +kernel
theorem dX8_draw_44 : decode cX8_draw 44 = .ok (.bipush 6, 2) := by decide +kernel
theorem dX8_draw_46 : decode cX8_draw 46 = .ok (.irem, 1) := by decide +kernel
theorem dX8_draw_47 : decode cX8_draw 47 = .ok (.istore 5, 2) := by decide +kernel
theorem dX8_draw_49 : decode cX8_draw 49 = .ok (.aload_n 0, 1) := by decide +kernel
theorem dX8_draw_50 : decode cX8_draw 50 = .ok (.invokevirtual 308, 3) := by decide +kernel
theorem dX8_draw_53 : decode cX8_draw 53 = .ok (.aload_n 0, 1) := by decide +kernel
theorem dX8_draw_54 : decode cX8_draw 54 = .ok (.invokevirtual 167, 3) := by decide +kernel
theorem dX8_draw_57 : decode cX8_draw 57 = .ok (.irem, 1) := by decide +kernel
theorem dX8_draw_58 : decode cX8_draw 58 = .ok (.istore 6, 2) := by decide +kernel
theorem dX8_draw_60 : decode cX8_draw 60 = .ok (.aload_n 0, 1) := by decide +kernel
theorem dX8_draw_61 : decode cX8_draw 61 = .ok (.invokevirtual 308, 3) := by decide +kernel
theorem dX8_draw_64 : decode cX8_draw 64 = .ok (.istore 7, 2) := by decide +kernel
theorem dX8_draw_66 : decode cX8_draw 66 = .ok (.aload_n 0, 1) := by decide +kernel
theorem dX8_draw_67 : decode cX8_draw 67 = .ok (.invokevirtual 308, 3) := by decide +kernel
theorem dX8_draw_70 : decode cX8_draw 70 = .ok (.istore 8, 2) := by decide +kernel
theorem dX8_draw_72 : decode cX8_draw 72 = .ok (.iload_n 3, 1) := by decide +kernel
theorem dX8_draw_73 : decode cX8_draw 73 = .ok (.aload_n 0, 1) := by decide +kernel
theorem dX8_draw_74 : decode cX8_draw 74 = .ok (.iload 5, 2) := by decide +kernel
theorem dX8_draw_76 : decode cX8_draw 76 = .ok (.iload 6, 2) := by decide +kernel
theorem dX8_draw_78 : decode cX8_draw 78 = .ok (.iload 7, 2) := by decide +kernel
theorem dX8_draw_80 : decode cX8_draw 80 = .ok (.iload 8, 2) := by decide +kernel
theorem dX8_draw_82 : decode cX8_draw 82 = .ok (.invokevirtual 311, 3) := by decide +kernel
theorem dX8_draw_85 : decode cX8_draw 85 = .ok (.ifCond .lt 7, 3) := by decide +kernel
theorem dX8_draw_88 : decode cX8_draw 88 = .ok (.iconst 1, 1) := by decide +kernel
theorem dX8_draw_89 : decode cX8_draw 89 = .ok (.goto 4, 3) := by decide +kernel
theorem dX8_draw_92 : decode cX8_draw 92 = .ok (.iconst 0, 1) := by decide +kernel
theorem dX8_draw_93 : decode cX8_draw 93 = .ok (.invokestatic 133, 3) := by decide +kernel
theorem dX8_draw_96 : decode cX8_draw 96 = .ok (.iadd, 1) := by decide +kernel
theorem dX8_draw_97 : decode cX8_draw 97 = .ok (.istore_n 3, 1) := by decide +kernel
theorem dX8_draw_98 : decode cX8_draw 98 = .ok (.iinc 4 1, 3) := by decide +kernel
theorem dX8_draw_101 : decode cX8_draw 101 = .ok (.goto (-67), 3) := by decide +kernel
theorem dX8_draw_104 : decode cX8_draw 104 = .ok (.iload_n 3, 1) := by decide +kernel
theorem dX8_draw_105 : decode cX8_draw 105 = .ok (.ireturn, 1) := by decide +kernel
theorem dX8_flip_0 : decode cX8_flip 0 = .ok (.iload_n 1, 1) := by decide +kernel
theorem dX8_flip_1 : decode cX8_flip 1 = .ok (.i2l, 1) := by decide +kernel
theorem dX8_flip_2 : decode cX8_flip 2 = .ok (.lconst 0, 1) := by decide +kernel
theorem dX8_flip_3 : decode cX8_flip 3 = .ok (.aload_n 0, 1) := by decide +kernel
theorem dX8_flip_4 : decode cX8_flip 4 = .ok (.invokevirtual 35, 3) := by decide +kernel
theorem dX8_flip_7 : decode cX8_flip 7 = .ok (.iconst 1, 1) := by decide +kernel
theorem dX8_flip_8 : decode cX8_flip 8 = .ok (.isub, 1) := by decide +kernel
theorem dX8_flip_9 : decode cX8_flip 9 = .ok (.i2l, 1) := by decide +kernel
theorem dX8_flip_10 : decode cX8_flip 10 = .ok (.invokestatic 41, 3) := by decide +kernel
theorem dX8_flip_13 : decode cX8_flip 13 = .ok (.ifCond .ne 5, 3) := by decide +kernel
theorem dX8_flip_16 : decode cX8_flip 16 = .ok (.iconst (-1), 1) := by decide +kernel
theorem dX8_flip_17 : decode cX8_flip 17 = .ok (.ireturn, 1) := by decide +kernel
theorem dX8_flip_18 : decode cX8_flip 18 = .ok (.aload_n 0, 1) := by decide +kernel
theorem dX8_flip_19 : decode cX8_flip 19 = .ok (.iload_n 1, 1) := by decide +kernel
theorem dX8_flip_20 : decode cX8_flip 20 = .ok (.invokevirtual 141, 3) := by decide +kernel
theorem dX8_flip_23 : decode cX8_flip 23 = .ok (.istore_n 2, 1) := by decide +kernel
theorem dX8_flip_24 : decode cX8_flip 24 = .ok (.aload_n 0, 1) := by decide +kernel
theorem dX8_flip_25 : decode cX8_flip 25 = .ok (.iload_n 1, 1) := by decide +kernel
theorem dX8_flip_26 : decode cX8_flip 26 = .ok (.iload_n 2, 1) := by decide +kernel
theorem dX8_flip_27 : decode cX8_flip 27 = .ok (.ifCond .ne 7, 3) := by decide +kernel
theorem dX8_flip_30 : decode cX8_flip 30 = .ok (.iconst 1, 1) := by decide +kernel
theorem dX8_flip_31 : decode cX8_flip 31 = .ok (.goto 4, 3) := by decide +kernel
theorem dX8_flip_34 : decode cX8_flip 34 = .ok (.iconst 0, 1) := by decide +kernel
theorem dX8_flip_35 : decode cX8_flip 35 = .ok (.invokevirtual 137, 3) := by decide +kernel
theorem dX8_flip_38 : decode cX8_flip 38 = .ok (.iload_n 2, 1) := by decide +kernel
theorem dX8_flip_39 : decode cX8_flip 39 = .ok (.invokestatic 133, 3) := by decide +kernel
theorem dX8_flip_42 : decode cX8_flip 42 = .ok (.ireturn, 1) := by decide +kernel
theorem dX8_check_0 : decode cX8_check 0 = .ok (.iload_n 1, 1) := by decide +kernel
theorem dX8_check_1 : decode cX8_check 1 = .ok (.i2l, 1) := by decide +kernel
theorem dX8_check_2 : decode cX8_check 2 = .ok (.lconst 0, 1) := by decide +kernel
theorem dX8_check_3 : decode cX8_check 3 = .ok (.ldc2_w 228, 3) := by decide +kernel
theorem dX8_check_6 : decode cX8_check 6 = .ok (.invokestatic 41, 3) := by decide +kernel
theorem dX8_check_9 : decode cX8_check 9 = .ok (.ifCond .ne 5, 3) := by decide +kernel
theorem dX8_check_12 : decode cX8_check 12 = .ok (.iconst (-1), 1) := by decide +kernel
theorem dX8_check_13 : decode cX8_check 13 = .ok (.ireturn, 1) := by decide +kernel
theorem dX8_check_14 : decode cX8_check 14 = .ok (.iconst 0, 1) := by decide +kernel
theorem dX8_check_15 : decode cX8_check 15 = .ok (.istore_n 2, 1) := by decide +kernel
theorem dX8_check_16 : decode cX8_check 16 = .ok (.iconst 0, 1) := by decide +kernel
theorem dX8_check_17 : decode cX8_check 17 = .ok (.istore_n 3, 1) := by decide +kernel
theorem dX8_check_18 : decode cX8_check 18 = .ok (.iload_n 3, 1) := by decide +kernel
theorem dX8_check_19 : decode cX8_check 19 = .ok (.aload_n 0, 1) := by decide +kernel
theorem dX8_check_20 : decode cX8_check 20 = .ok (.invokevirtual 35, 3) := by decide +kernel
theorem dX8_check_23 : decode cX8_check 23 = .ok (.if_icmp .ge 92, 3) := by decide +kernel
theorem dX8_check_26 : decode cX8_check 26 = .ok (.aload_n 0, 1) := by decide +kernel
theorem dX8_check_27 : decode cX8_check 27 = .ok (.iload_n 3, 1) := by decide +kernel
theorem dX8_check_28 : decode cX8_check 28 = .ok (.invokevirtual 197, 3) := by decide +kernel
theorem dX8_check_31 : decode cX8_check 31 = .ok (.bipush (-4), 2) := by decide +kernel
theorem dX8_check_33 : decode cX8_check 33 = .ok (.if_icmp .eq 7, 3) := by decide +kernel
theorem dX8_check_36 : decode cX8_check 36 = .ok (.iconst 1, 1) := by decide +kernel
theorem dX8_check_37 : decode cX8_check 37 = .ok (.goto 4, 3) := by decide +kernel
theorem dX8_check_40 : decode cX8_check 40 = .ok (.iconst 0, 1) := by decide +kernel
theorem dX8_check_41 : decode cX8_check 41 = .ok (.istore 4, 2) := by decide +kernel
theorem dX8_check_43 : decode cX8_check 43 = .ok (.iload_n 1, 1) := by decide +kernel
theorem dX8_check_44 : decode cX8_check 44 = .ok (.iconst 2, 1) := by decide +kernel
theorem dX8_check_45 : decode cX8_check 45 = .ok (.if_icmp .ne 15, 3) := by decide +kernel
theorem dX8_check_48 : decode cX8_check 48 = .ok (.aload_n 0, 1) := by decide +kernel
theorem dX8_check_49 : decode cX8_check 49 = .ok (.iload_n 3, 1) := by decide +kernel
theorem dX8_check_50 : decode cX8_check 50 = .ok (.invokevirtual 141, 3) := by decide +kernel
theorem dX8_check_53 : decode cX8_check 53 = .ok (.iload 4, 2) := by decide +kernel
theorem dX8_check_55 : decode cX8_check 55 = .ok (.if_icmp .ne 5, 3) := by decide +kernel
theorem dX8_check_58 : decode cX8_check 58 = .ok (.iload_n 3, 1) := by decide +kernel
theorem dX8_check_59 : decode cX8_check 59 = .ok (.ireturn, 1) := by decide +kernel
theorem dX8_check_60 : decode cX8_check 60 = .ok (.iload_n 2, 1) := by decide +kernel
theorem dX8_check_61 : decode cX8_check 61 = .ok (.iload_n 1, 1) := by decide +kernel
theorem dX8_check_62 : decode cX8_check 62 = .ok (.ifCond .ne 24, 3) := by decide +kernel
theorem dX8_check_65 : decode cX8_check 65 = .ok (.aload_n 0, 1) := by decide +kernel
theorem dX8_check_66 : decode cX8_check 66 = .ok (.iload_n 3, 1) := by decide +kernel
theorem dX8_check_67 : decode cX8_check 67 = .ok (.invokevirtual 141, 3) := by decide +kernel
theorem dX8_check_70 : decode cX8_check 70 = .ok (.ifCond .eq 12, 3) := by decide +kernel
theorem dX8_check_73 : decode cX8_check 73 = .ok (.iload 4, 2) := by decide +kernel
theorem dX8_check_75 : decode cX8_check 75 = .ok (.ifCond .eq 7, 3) := by decide +kernel
theorem dX8_check_78 : decode cX8_check 78 = .ok (.iconst 1, 1) := by decide +kernel
theorem dX8_check_79 : decode cX8_check 79 = .ok (.goto 25, 3) := by decide +kernel
theorem dX8_check_82 : decode cX8_check 82 = .ok (.iconst 0, 1) := by decide +kernel
theorem dX8_check_83 : decode cX8_check 83 = .ok (.goto 21, 3) := by decide +kernel
theorem dX8_check_86 : decode cX8_check 86 = .ok (.aload_n 0, 1) := by decide +kernel
theorem dX8_check_87 : decode cX8_check 87 = .ok (.iload_n 3, 1) := by decide +kernel
theorem dX8_check_88 : decode cX8_check 88 = .ok (.invokevirtual 141, 3) := by decide +kernel
theorem dX8_check_91 : decode cX8_check 91 = .ok (.ifCond .ne 12, 3) := by decide +kernel
theorem dX8_check_94 : decode cX8_check 94 = .ok (.iload 4, 2) := by decide +kernel
theorem dX8_check_96 : decode cX8_check 96 = .ok (.ifCond .ne 7, 3) := by decide +kernel
theorem dX8_check_99 : decode cX8_check 99 = .ok (.iconst 1, 1) := by decide +kernel
theorem dX8_check_100 : decode cX8_check 100 = .ok (.goto 4, 3) := by decide +kernel
theorem dX8_check_103 : decode cX8_check 103 = .ok (.iconst 0, 1) := by decide +kernel
theorem dX8_check_104 : decode cX8_check 104 = .ok (.invokestatic 133, 3) := by decide +kernel
theorem dX8_check_107 : decode cX8_check 107 = .ok (.iadd, 1) := by decide +kernel
theorem dX8_check_108 : decode cX8_check 108 = .ok (.istore_n 2, 1) := by decide +kernel
theorem dX8_check_109 : decode cX8_check 109 = .ok (.iinc 3 1, 3) := by decide +kernel
theorem dX8_check_112 : decode cX8_check 112 = .ok (.goto (-94), 3) := by decide +kernel
theorem dX8_check_115 : decode cX8_check 115 = .ok (.iload_n 1, 1) := by decide +kernel
theorem dX8_check_116 : decode cX8_check 116 = .ok (.iconst 2, 1) := by decide +kernel
theorem dX8_check_117 : decode cX8_check 117 = .ok (.if_icmp .ne 8, 3) := by decide +kernel
theorem dX8_check_120 : decode cX8_check 120 = .ok (.bipush (-4), 2) := by decide +kernel
theorem dX8_check_122 : decode cX8_check 122 = .ok (.goto 4, 3) := by decide +kernel
theorem dX8_check_125 : decode cX8_check 125 = .ok (.iload_n 2, 1) := by decide +kernel
theorem dX8_check_126 : decode cX8_check 126 = .ok (.ireturn, 1) := by decide +kernel
theorem dX8_mend_0 : decode cX8_mend 0 = .ok (.iconst 0, 1) := by decide +kernel
theorem dX8_mend_1 : decode cX8_mend 1 = .ok (.istore_n 1, 1) := by decide +kernel
theorem dX8_mend_2 : decode cX8_mend 2 = .ok (.iconst 0, 1) := by decide +kernel
theorem dX8_mend_3 : decode cX8_mend 3 = .ok (.istore_n 2, 1) := by decide +kernel
theorem dX8_mend_4 : decode cX8_mend 4 = .ok (.iload_n 2, 1) := by decide +kernel
theorem dX8_mend_5 : decode cX8_mend 5 = .ok (.aload_n 0, 1) := by decide +kernel
theorem dX8_mend_6 : decode cX8_mend 6 = .ok (.invokevirtual 35, 3) := by decide +kernel
theorem dX8_mend_9 : decode cX8_mend 9 = .ok (.if_icmp .ge 51, 3) := by decide +kernel
theorem dX8_mend_12 : decode cX8_mend 12 = .ok (.aload_n 0, 1) := by decide +kernel
theorem dX8_mend_13 : decode cX8_mend 13 = .ok (.iload_n 2, 1) := by decide +kernel
theorem dX8_mend_14 : decode cX8_mend 14 = .ok (.invokevirtual 197, 3) := by decide +kernel
theorem dX8_mend_17 : decode cX8_mend 17 = .ok (.bipush (-4), 2) := by decide +kernel
theorem dX8_mend_19 : decode cX8_mend 19 = .ok (.if_icmp .ne 7, 3) := by decide +kernel
theorem dX8_mend_22 : decode cX8_mend 22 = .ok (.iconst 1, 1) := by decide +kernel
theorem dX8_mend_23 : decode cX8_mend 23 = .ok (.goto 4, 3) := by decide +kernel
theorem dX8_mend_26 : decode cX8_mend 26 = .ok (.iconst 0, 1) := by decide +kernel
theorem dX8_mend_27 : decode cX8_mend 27 = .ok (.istore_n 3, 1) := by decide +kernel
theorem dX8_mend_28 : decode cX8_mend 28 = .ok (.iload_n 1, 1) := by decide +kernel
theorem dX8_mend_29 : decode cX8_mend 29 = .ok (.aload_n 0, 1) := by decide +kernel
theorem dX8_mend_30 : decode cX8_mend 30 = .ok (.iload_n 2, 1) := by decide +kernel
theorem dX8_mend_31 : decode cX8_mend 31 = .ok (.invokevirtual 141, 3) := by decide +kernel
theorem dX8_mend_34 : decode cX8_mend 34 = .ok (.iload_n 3, 1) := by decide +kernel
theorem dX8_mend_35 : decode cX8_mend 35 = .ok (.if_icmp .eq 7, 3) := by decide +kernel
theorem dX8_mend_38 : decode cX8_mend 38 = .ok (.iconst 1, 1) := by decide +kernel
theorem dX8_mend_39 : decode cX8_mend 39 = .ok (.goto 4, 3) := by decide +kernel
theorem dX8_mend_42 : decode cX8_mend 42 = .ok (.iconst 0, 1) := by decide +kernel
theorem dX8_mend_43 : decode cX8_mend 43 = .ok (.invokestatic 133, 3) := by decide +kernel
theorem dX8_mend_46 : decode cX8_mend 46 = .ok (.iadd, 1) := by decide +kernel
theorem dX8_mend_47 : decode cX8_mend 47 = .ok (.istore_n 1, 1) := by decide +kernel
theorem dX8_mend_48 : decode cX8_mend 48 = .ok (.aload_n 0, 1) := by decide +kernel
theorem dX8_mend_49 : decode cX8_mend 49 = .ok (.iload_n 2, 1) := by decide +kernel
theorem dX8_mend_50 : decode cX8_mend 50 = .ok (.iload_n 3, 1) := by decide +kernel
theorem dX8_mend_51 : decode cX8_mend 51 = .ok (.invokevirtual 137, 3) := by decide +kernel
theorem dX8_mend_54 : decode cX8_mend 54 = .ok (.iinc 2 1, 3) := by decide +kernel
theorem dX8_mend_57 : decode cX8_mend 57 = .ok (.goto (-53), 3) := by decide +kernel
theorem dX8_mend_60 : decode cX8_mend 60 = .ok (.iload_n 1, 1) := by decide +kernel
theorem dX8_mend_61 : decode cX8_mend 61 = .ok (.ireturn, 1) := by decide +kernel
theorem dX8_keep_0 : decode cX8_keep 0 = .ok (.iload_n 1, 1) := by decide +kernel
theorem dX8_keep_1 : decode cX8_keep 1 = .ok (.i2l, 1) := by decide +kernel
theorem dX8_keep_2 : decode cX8_keep 2 = .ok (.lconst 0, 1) := by decide +kernel
theorem dX8_keep_3 : decode cX8_keep 3 = .ok (.lconst 1, 1) := by decide +kernel
theorem dX8_keep_4 : decode cX8_keep 4 = .ok (.invokestatic 41, 3) := by decide +kernel
theorem dX8_keep_7 : decode cX8_keep 7 = .ok (.ifCond .ne 5, 3) := by decide +kernel
theorem dX8_keep_10 : decode cX8_keep 10 = .ok (.iconst (-1), 1) := by decide +kernel
theorem dX8_keep_11 : decode cX8_keep 11 = .ok (.ireturn, 1) := by decide +kernel
theorem dX8_keep_12 : decode cX8_keep 12 = .ok (.aload_n 0, 1) := by decide +kernel
theorem dX8_keep_13 : decode cX8_keep 13 = .ok (.getfield 22, 3) := by decide +kernel
theorem dX8_keep_16 : decode cX8_keep 16 = .ok (.iload_n 1, 1) := by decide +kernel
theorem dX8_keep_17 : decode cX8_keep 17 = .ok (.baload, 1) := by decide +kernel
theorem dX8_keep_18 : decode cX8_keep 18 = .ok (.invokestatic 133, 3) := by decide +kernel
theorem dX8_keep_21 : decode cX8_keep 21 = .ok (.istore_n 2, 1) := by decide +kernel
theorem dX8_keep_22 : decode cX8_keep 22 = .ok (.aload_n 0, 1) := by decide +kernel
theorem dX8_keep_23 : decode cX8_keep 23 = .ok (.getfield 22, 3) := by decide +kernel
theorem dX8_keep_26 : decode cX8_keep 26 = .ok (.iload_n 1, 1) := by decide +kernel
theorem dX8_keep_27 : decode cX8_keep 27 = .ok (.iconst 1, 1) := by decide +kernel
theorem dX8_keep_28 : decode cX8_keep 28 = .ok (.bastore, 1) := by decide +kernel
theorem dX8_keep_29 : decode cX8_keep 29 = .ok (.iconst 0, 1) := by decide +kernel
theorem dX8_keep_30 : decode cX8_keep 30 = .ok (.istore_n 3, 1) := by decide +kernel
theorem dX8_keep_31 : decode cX8_keep 31 = .ok (.iload_n 3, 1) := by decide +kernel
theorem dX8_keep_32 : decode cX8_keep 32 = .ok (.sipush 496, 3) := by decide +kernel
theorem dX8_keep_35 : decode cX8_keep 35 = .ok (.if_icmp .ge 27, 3) := by decide +kernel
theorem dX8_keep_38 : decode cX8_keep 38 = .ok (.aload_n 0, 1) := by decide +kernel
theorem dX8_keep_39 : decode cX8_keep 39 = .ok (.getfield 19, 3) := by decide +kernel
theorem dX8_keep_42 : decode cX8_keep 42 = .ok (.sipush 496, 3) := by decide +kernel
theorem dX8_keep_45 : decode cX8_keep 45 = .ok (.iload_n 1, 1) := by decide +kernel
theorem dX8_keep_46 : decode cX8_keep 46 = .ok (.imul, 1) := by decide +kernel
theorem dX8_keep_47 : decode cX8_keep 47 = .ok (.iload_n 3, 1) := by decide +kernel
theorem dX8_keep_48 : decode cX8_keep 48 = .ok (.iadd, 1) := by decide +kernel
theorem dX8_keep_49 : decode cX8_keep 49 = .ok (.aload_n 0, 1) := by decide +kernel
theorem dX8_keep_50 : decode cX8_keep 50 = .ok (.getfield 7, 3) := by decide +kernel
theorem dX8_keep_53 : decode cX8_keep 53 = .ok (.iload_n 3, 1) := by decide +kernel
theorem dX8_keep_54 : decode cX8_keep 54 = .ok (.iaload, 1) := by decide +kernel
theorem dX8_keep_55 : decode cX8_keep 55 = .ok (.iastore, 1) := by decide +kernel
theorem dX8_keep_56 : decode cX8_keep 56 = .ok (.iinc 3 1, 3) := by decide +kernel
theorem dX8_keep_59 : decode cX8_keep 59 = .ok (.goto (-28), 3) := by decide +kernel
theorem dX8_keep_62 : decode cX8_keep 62 = .ok (.iload_n 2, 1) := by decide +kernel
theorem dX8_keep_63 : decode cX8_keep 63 = .ok (.ireturn, 1) := by decide +kernel
theorem dX8_back_0 : decode cX8_back 0 = .ok (.iload_n 1, 1) := by decide +kernel
theorem dX8_back_1 : decode cX8_back 1 = .ok (.i2l, 1) := by decide +kernel
theorem dX8_back_2 : decode cX8_back 2 = .ok (.lconst 0, 1) := by decide +kernel
theorem dX8_back_3 : decode cX8_back 3 = .ok (.lconst 1, 1) := by decide +kernel
theorem dX8_back_4 : decode cX8_back 4 = .ok (.invokestatic 41, 3) := by decide +kernel
theorem dX8_back_7 : decode cX8_back 7 = .ok (.ifCond .ne 5, 3) := by decide +kernel
theorem dX8_back_10 : decode cX8_back 10 = .ok (.iconst (-1), 1) := by decide +kernel
theorem dX8_back_11 : decode cX8_back 11 = .ok (.ireturn, 1) := by decide +kernel
theorem dX8_back_12 : decode cX8_back 12 = .ok (.aload_n 0, 1) := by decide +kernel
theorem dX8_back_13 : decode cX8_back 13 = .ok (.getfield 22, 3) := by decide +kernel
theorem dX8_back_16 : decode cX8_back 16 = .ok (.iload_n 1, 1) := by decide +kernel
theorem dX8_back_17 : decode cX8_back 17 = .ok (.baload, 1) := by decide +kernel
theorem dX8_back_18 : decode cX8_back 18 = .ok (.ifCond .ne 6, 3) := by decide +kernel
theorem dX8_back_21 : decode cX8_back 21 = .ok (.bipush (-2), 2) := by decide +kernel
theorem dX8_back_23 : decode cX8_back 23 = .ok (.ireturn, 1) := by decide +kernel
theorem dX8_back_24 : decode cX8_back 24 = .ok (.iconst 0, 1) := by decide +kernel
theorem dX8_back_25 : decode cX8_back 25 = .ok (.istore_n 2, 1) := by decide +kernel
theorem dX8_back_26 : decode cX8_back 26 = .ok (.iload_n 2, 1) := by decide +kernel
theorem dX8_back_27 : decode cX8_back 27 = .ok (.sipush 496, 3) := by decide +kernel
theorem dX8_back_30 : decode cX8_back 30 = .ok (.if_icmp .ge 27, 3) := by decide +kernel
theorem dX8_back_33 : decode cX8_back 33 = .ok (.aload_n 0, 1) := by decide +kernel
theorem dX8_back_34 : decode cX8_back 34 = .ok (.getfield 7, 3) := by decide +kernel
theorem dX8_back_37 : decode cX8_back 37 = .ok (.iload_n 2, 1) := by decide +kernel
theorem dX8_back_38 : decode cX8_back 38 = .ok (.aload_n 0, 1) := by decide +kernel
theorem dX8_back_39 : decode cX8_back 39 = .ok (.getfield 19, 3) := by decide +kernel
theorem dX8_back_42 : decode cX8_back 42 = .ok (.sipush 496, 3) := by decide +kernel
theorem dX8_back_45 : decode cX8_back 45 = .ok (.iload_n 1, 1) := by decide +kernel
theorem dX8_back_46 : decode cX8_back 46 = .ok (.imul, 1) := by decide +kernel
theorem dX8_back_47 : decode cX8_back 47 = .ok (.iload_n 2, 1) := by decide +kernel
theorem dX8_back_48 : decode cX8_back 48 = .ok (.iadd, 1) := by decide +kernel
theorem dX8_back_49 : decode cX8_back 49 = .ok (.iaload, 1) := by decide +kernel
theorem dX8_back_50 : decode cX8_back 50 = .ok (.iastore, 1) := by decide +kernel
theorem dX8_back_51 : decode cX8_back 51 = .ok (.iinc 2 1, 3) := by decide +kernel
theorem dX8_back_54 : decode cX8_back 54 = .ok (.goto (-28), 3) := by decide +kernel
theorem dX8_back_57 : decode cX8_back 57 = .ok (.aload_n 0, 1) := by decide +kernel
theorem dX8_back_58 : decode cX8_back 58 = .ok (.invokevirtual 130, 3) := by decide +kernel
theorem dX8_back_61 : decode cX8_back 61 = .ok (.ireturn, 1) := by decide +kernel
theorem dX8_count_0 : decode cX8_count 0 = .ok (.iload_n 1, 1) := by decide +kernel
theorem dX8_count_1 : decode cX8_count 1 = .ok (.lookupswitch 52 #[(0, 27), (1, 47)], 27) := by decide +kernel
theorem dX8_count_28 : decode cX8_count 28 = .ok (.aload_n 0, 1) := by decide +kernel
theorem dX8_count_29 : decode cX8_count 29 = .ok (.getfield 22, 3) := by decide +kernel
theorem dX8_count_32 : decode cX8_count 32 = .ok (.iconst 0, 1) := by decide +kernel
theorem dX8_count_33 : decode cX8_count 33 = .ok (.baload, 1) := by decide +kernel
theorem dX8_count_34 : decode cX8_count 34 = .ok (.invokestatic 133, 3) := by decide +kernel
theorem dX8_count_37 : decode cX8_count 37 = .ok (.aload_n 0, 1) := by decide +kernel
theorem dX8_count_38 : decode cX8_count 38 = .ok (.getfield 22, 3) := by decide +kernel
theorem dX8_count_41 : decode cX8_count 41 = .ok (.iconst 1, 1) := by decide +kernel
theorem dX8_count_42 : decode cX8_count 42 = .ok (.baload, 1) := by decide +kernel
theorem dX8_count_43 : decode cX8_count 43 = .ok (.invokestatic 133, 3) := by decide +kernel
theorem dX8_count_46 : decode cX8_count 46 = .ok (.iadd, 1) := by decide +kernel
theorem dX8_count_47 : decode cX8_count 47 = .ok (.ireturn, 1) := by decide +kernel
theorem dX8_count_48 : decode cX8_count 48 = .ok (.aload_n 0, 1) := by decide +kernel
theorem dX8_count_49 : decode cX8_count 49 = .ok (.getfield 45, 3) := by decide +kernel
theorem dX8_count_52 : decode cX8_count 52 = .ok (.ireturn, 1) := by decide +kernel
theorem dX8_count_53 : decode cX8_count 53 = .ok (.iconst (-1), 1) := by decide +kernel
theorem dX8_count_54 : decode cX8_count 54 = .ok (.ireturn, 1) := by decide +kernel
end
section
theorem dL_law_0 : decode cL_law 0 = .ok (.new 7, 3) := by decide +kernel
theorem dL_law_3 : decode cL_law 3 = .ok (.dup, 1) := by decide +kernel
theorem dL_law_4 : decode cL_law 4 = .ok (.invokespecial 9, 3) := by decide +kernel
theorem dL_law_7 : decode cL_law 7 = .ok (.astore_n 1, 1) := by decide +kernel
theorem dL_law_8 : decode cL_law 8 = .ok (.new 10, 3) := by decide +kernel
theorem dL_law_11 : decode cL_law 11 = .ok (.dup, 1) := by decide +kernel
theorem dL_law_12 : decode cL_law 12 = .ok (.invokespecial 12, 3) := by decide +kernel
theorem dL_law_15 : decode cL_law 15 = .ok (.astore_n 2, 1) := by decide +kernel
theorem dL_law_16 : decode cL_law 16 = .ok (.iconst 0, 1) := by decide +kernel
theorem dL_law_17 : decode cL_law 17 = .ok (.istore_n 3, 1) := by decide +kernel
theorem dL_law_18 : decode cL_law 18 = .ok (.iload_n 3, 1) := by decide +kernel
theorem dL_law_19 : decode cL_law 19 = .ok (.aload_n 0, 1) := by decide +kernel
theorem dL_law_20 : decode cL_law 20 = .ok (.arraylength, 1) := by decide +kernel
theorem dL_law_21 : decode cL_law 21 = .ok (.iconst 4, 1) := by decide +kernel
theorem dL_law_22 : decode cL_law 22 = .ok (.isub, 1) := by decide +kernel
theorem dL_law_23 : decode cL_law 23 = .ok (.if_icmp .gt 816, 3) := by decide +kernel
theorem dL_law_26 : decode cL_law 26 = .ok (.aload_n 0, 1) := by decide +kernel
theorem dL_law_27 : decode cL_law 27 = .ok (.iload_n 3, 1) := by decide +kernel
theorem dL_law_28 : decode cL_law 28 = .ok (.iaload, 1) := by decide +kernel
theorem dL_law_29 : decode cL_law 29 = .ok (.bipush 31, 2) := by decide +kernel
theorem dL_law_31 : decode cL_law 31 = .ok (.iand, 1) := by decide +kernel
theorem dL_law_32 : decode cL_law 32 = .ok (.tableswitch 801 0 24 #[116, 139, 162, 175, 188, 211, 244, 277, 310, 343, 376, 409, 442, 485, 518, 551, 574, 617, 640, 673, 696, 719, 732, 755, 778], 116) := by decide +kernel
theorem dL_law_148 : decode cL_law 148 = .ok (.aload_n 1, 1) := by decide +kernel
theorem dL_law_149 : decode cL_law 149 = .ok (.aload_n 0, 1) := by decide +kernel
theorem dL_law_150 : decode cL_law 150 = .ok (.iload_n 3, 1) := by decide +kernel
theorem dL_law_151 : decode cL_law 151 = .ok (.iconst 1, 1) := by decide +kernel
theorem dL_law_152 : decode cL_law 152 = .ok (.iadd, 1) := by decide +kernel
theorem dL_law_153 : decode cL_law 153 = .ok (.iaload, 1) := by decide +kernel
theorem dL_law_154 : decode cL_law 154 = .ok (.invokevirtual 13, 3) := by decide +kernel
theorem dL_law_157 : decode cL_law 157 = .ok (.aload_n 2, 1) := by decide +kernel
theorem dL_law_158 : decode cL_law 158 = .ok (.aload_n 0, 1) := by decide +kernel
theorem dL_law_159 : decode cL_law 159 = .ok (.iload_n 3, 1) := by decide +kernel
theorem dL_law_160 : decode cL_law 160 = .ok (.iconst 1, 1) := by decide +kernel
theorem dL_law_161 : decode cL_law 161 = .ok (.iadd, 1) := by decide +kernel
theorem dL_law_162 : decode cL_law 162 = .ok (.iaload, 1) := by decide +kernel
theorem dL_law_163 : decode cL_law 163 = .ok (.invokevirtual 17, 3) := by decide +kernel
theorem dL_law_166 : decode cL_law 166 = .ok (.if_icmp .eq 667, 3) := by decide +kernel
theorem dL_law_169 : decode cL_law 169 = .ok (.iconst 0, 1) := by decide +kernel
theorem dL_law_170 : decode cL_law 170 = .ok (.ireturn, 1) := by decide +kernel
theorem dL_law_171 : decode cL_law 171 = .ok (.aload_n 1, 1) := by decide +kernel
theorem dL_law_172 : decode cL_law 172 = .ok (.aload_n 0, 1) := by decide +kernel
theorem dL_law_173 : decode cL_law 173 = .ok (.iload_n 3, 1) := by decide +kernel
theorem dL_law_174 : decode cL_law 174 = .ok (.iconst 1, 1) := by decide +kernel
theorem dL_law_175 : decode cL_law 175 = .ok (.iadd, 1) := by decide +kernel
theorem dL_law_176 : decode cL_law 176 = .ok (.iaload, 1) := by decide +kernel
theorem dL_law_177 : decode cL_law 177 = .ok (.invokevirtual 18, 3) := by decide +kernel
theorem dL_law_180 : decode cL_law 180 = .ok (.aload_n 2, 1) := by decide +kernel
theorem dL_law_181 : decode cL_law 181 = .ok (.aload_n 0, 1) := by decide +kernel
theorem dL_law_182 : decode cL_law 182 = .ok (.iload_n 3, 1) := by decide +kernel
theorem dL_law_183 : decode cL_law 183 = .ok (.iconst 1, 1) := by decide +kernel
theorem dL_law_184 : decode cL_law 184 = .ok (.iadd, 1) := by decide +kernel
theorem dL_law_185 : decode cL_law 185 = .ok (.iaload, 1) := by decide +kernel
theorem dL_law_186 : decode cL_law 186 = .ok (.invokevirtual 21, 3) := by decide +kernel
theorem dL_law_189 : decode cL_law 189 = .ok (.if_icmp .eq 644, 3) := by decide +kernel
theorem dL_law_192 : decode cL_law 192 = .ok (.iconst 0, 1) := by decide +kernel
theorem dL_law_193 : decode cL_law 193 = .ok (.ireturn, 1) := by decide +kernel
theorem dL_law_194 : decode cL_law 194 = .ok (.aload_n 1, 1) := by decide +kernel
theorem dL_law_195 : decode cL_law 195 = .ok (.invokevirtual 22, 3) := by decide +kernel
theorem dL_law_198 : decode cL_law 198 = .ok (.aload_n 2, 1) := by decide +kernel
theorem dL_law_199 : decode cL_law 199 = .ok (.invokevirtual 26, 3) := by decide +kernel
theorem dL_law_202 : decode cL_law 202 = .ok (.if_icmp .eq 631, 3) := by decide +kernel
theorem dL_law_205 : decode cL_law 205 = .ok (.iconst 0, 1) := by decide +kernel
theorem dL_law_206 : decode cL_law 206 = .ok (.ireturn, 1) := by decide +kernel
theorem dL_law_207 : decode cL_law 207 = .ok (.aload_n 1, 1) := by decide +kernel
theorem dL_law_208 : decode cL_law 208 = .ok (.invokevirtual 27, 3) := by decide +kernel
theorem dL_law_211 : decode cL_law 211 = .ok (.aload_n 2, 1) := by decide +kernel
theorem dL_law_212 : decode cL_law 212 = .ok (.invokevirtual 30, 3) := by decide +kernel
theorem dL_law_215 : decode cL_law 215 = .ok (.if_icmp .eq 618, 3) := by decide +kernel
theorem dL_law_218 : decode cL_law 218 = .ok (.iconst 0, 1) := by decide +kernel
theorem dL_law_219 : decode cL_law 219 = .ok (.ireturn, 1) := by decide +kernel
theorem dL_law_220 : decode cL_law 220 = .ok (.aload_n 1, 1) := by decide +kernel
theorem dL_law_221 : decode cL_law 221 = .ok (.aload_n 0, 1) := by decide +kernel
theorem dL_law_222 : decode cL_law 222 = .ok (.iload_n 3, 1) := by decide +kernel
theorem dL_law_223 : decode cL_law 223 = .ok (.iconst 1, 1) := by decide +kernel
theorem dL_law_224 : decode cL_law 224 = .ok (.iadd, 1) := by decide +kernel
theorem dL_law_225 : decode cL_law 225 = .ok (.iaload, 1) := by decide +kernel
theorem dL_law_226 : decode cL_law 226 = .ok (.invokevirtual 31, 3) := by decide +kernel
theorem dL_law_229 : decode cL_law 229 = .ok (.aload_n 2, 1) := by decide +kernel
theorem dL_law_230 : decode cL_law 230 = .ok (.aload_n 0, 1) := by decide +kernel
theorem dL_law_231 : decode cL_law 231 = .ok (.iload_n 3, 1) := by decide +kernel
theorem dL_law_232 : decode cL_law 232 = .ok (.iconst 1, 1) := by decide +kernel
theorem dL_law_233 : decode cL_law 233 = .ok (.iadd, 1) := by decide +kernel
theorem dL_law_234 : decode cL_law 234 = .ok (.iaload, 1) := by decide +kernel
theorem dL_law_235 : decode cL_law 235 = .ok (.invokevirtual 34, 3) := by decide +kernel
theorem dL_law_238 : decode cL_law 238 = .ok (.if_icmp .eq 595, 3) := by decide +kernel
theorem dL_law_241 : decode cL_law 241 = .ok (.iconst 0, 1) := by decide +kernel
theorem dL_law_242 : decode cL_law 242 = .ok (.ireturn, 1) := by decide +kernel
theorem dL_law_243 : decode cL_law 243 = .ok (.aload_n 1, 1) := by decide +kernel
theorem dL_law_244 : decode cL_law 244 = .ok (.aload_n 0, 1) := by decide +kernel
theorem dL_law_245 : decode cL_law 245 = .ok (.iload_n 3, 1) := by decide +kernel
theorem dL_law_246 : decode cL_law 246 = .ok (.iconst 1, 1) := by decide +kernel
theorem dL_law_247 : decode cL_law 247 = .ok (.iadd, 1) := by decide +kernel
theorem dL_law_248 : decode cL_law 248 = .ok (.iaload, 1) := by decide +kernel
theorem dL_law_249 : decode cL_law 249 = .ok (.aload_n 0, 1) := by decide +kernel
theorem dL_law_250 : decode cL_law 250 = .ok (.iload_n 3, 1) := by decide +kernel
theorem dL_law_251 : decode cL_law 251 = .ok (.iconst 2, 1) := by decide +kernel
theorem dL_law_252 : decode cL_law 252 = .ok (.iadd, 1) := by decide +kernel
theorem dL_law_253 : decode cL_law 253 = .ok (.iaload, 1) := by decide +kernel
theorem dL_law_254 : decode cL_law 254 = .ok (.invokevirtual 35, 3) := by decide +kernel
theorem dL_law_257 : decode cL_law 257 = .ok (.aload_n 2, 1) := by decide +kernel
theorem dL_law_258 : decode cL_law 258 = .ok (.aload_n 0, 1) := by decide +kernel
theorem dL_law_259 : decode cL_law 259 = .ok (.iload_n 3, 1) := by decide +kernel
theorem dL_law_260 : decode cL_law 260 = .ok (.iconst 1, 1) := by decide +kernel
theorem dL_law_261 : decode cL_law 261 = .ok (.iadd, 1) := by decide +kernel
theorem dL_law_262 : decode cL_law 262 = .ok (.iaload, 1) := by decide +kernel
theorem dL_law_263 : decode cL_law 263 = .ok (.aload_n 0, 1) := by decide +kernel
theorem dL_law_264 : decode cL_law 264 = .ok (.iload_n 3, 1) := by decide +kernel
theorem dL_law_265 : decode cL_law 265 = .ok (.iconst 2, 1) := by decide +kernel
theorem dL_law_266 : decode cL_law 266 = .ok (.iadd, 1) := by decide +kernel
theorem dL_law_267 : decode cL_law 267 = .ok (.iaload, 1) := by decide +kernel
theorem dL_law_268 : decode cL_law 268 = .ok (.invokevirtual 39, 3) := by decide +kernel
theorem dL_law_271 : decode cL_law 271 = .ok (.if_icmp .eq 562, 3) := by decide +kernel
theorem dL_law_274 : decode cL_law 274 = .ok (.iconst 0, 1) := by decide +kernel
theorem dL_law_275 : decode cL_law 275 = .ok (.ireturn, 1) := by decide +kernel
theorem dL_law_276 : decode cL_law 276 = .ok (.aload_n 1, 1) := by decide +kernel
theorem dL_law_277 : decode cL_law 277 = .ok (.aload_n 0, 1) := by decide +kernel
theorem dL_law_278 : decode cL_law 278 = .ok (.iload_n 3, 1) := by decide +kernel
theorem dL_law_279 : decode cL_law 279 = .ok (.iconst 1, 1) := by decide +kernel
theorem dL_law_280 : decode cL_law 280 = .ok (.iadd, 1) := by decide +kernel
theorem dL_law_281 : decode cL_law 281 = .ok (.iaload, 1) := by decide +kernel
theorem dL_law_282 : decode cL_law 282 = .ok (.aload_n 0, 1) := by decide +kernel
theorem dL_law_283 : decode cL_law 283 = .ok (.iload_n 3, 1) := by decide +kernel
theorem dL_law_284 : decode cL_law 284 = .ok (.iconst 2, 1) := by decide +kernel
theorem dL_law_285 : decode cL_law 285 = .ok (.iadd, 1) := by decide +kernel
theorem dL_law_286 : decode cL_law 286 = .ok (.iaload, 1) := by decide +kernel
theorem dL_law_287 : decode cL_law 287 = .ok (.invokevirtual 40, 3) := by decide +kernel
theorem dL_law_290 : decode cL_law 290 = .ok (.aload_n 2, 1) := by decide +kernel
theorem dL_law_291 : decode cL_law 291 = .ok (.aload_n 0, 1) := by decide +kernel
theorem dL_law_292 : decode cL_law 292 = .ok (.iload_n 3, 1) := by decide +kernel
theorem dL_law_293 : decode cL_law 293 = .ok (.iconst 1, 1) := by decide +kernel
theorem dL_law_294 : decode cL_law 294 = .ok (.iadd, 1) := by decide +kernel
theorem dL_law_295 : decode cL_law 295 = .ok (.iaload, 1) := by decide +kernel
theorem dL_law_296 : decode cL_law 296 = .ok (.aload_n 0, 1) := by decide +kernel
theorem dL_law_297 : decode cL_law 297 = .ok (.iload_n 3, 1) := by decide +kernel
theorem dL_law_298 : decode cL_law 298 = .ok (.iconst 2, 1) := by decide +kernel
theorem dL_law_299 : decode cL_law 299 = .ok (.iadd, 1) := by decide +kernel
theorem dL_law_300 : decode cL_law 300 = .ok (.iaload, 1) := by decide +kernel
theorem dL_law_301 : decode cL_law 301 = .ok (.invokevirtual 43, 3) := by decide +kernel
theorem dL_law_304 : decode cL_law 304 = .ok (.if_icmp .eq 529, 3) := by decide +kernel
theorem dL_law_307 : decode cL_law 307 = .ok (.iconst 0, 1) := by decide +kernel
theorem dL_law_308 : decode cL_law 308 = .ok (.ireturn, 1) := by decide +kernel
theorem dL_law_309 : decode cL_law 309 = .ok (.aload_n 1, 1) := by decide +kernel
theorem dL_law_310 : decode cL_law 310 = .ok (.aload_n 0, 1) := by decide +kernel
theorem dL_law_311 : decode cL_law 311 = .ok (.iload_n 3, 1) := by decide +kernel
theorem dL_law_312 : decode cL_law 312 = .ok (.iconst 1, 1) := by decide +kernel
theorem dL_law_313 : decode cL_law 313 = .ok (.iadd, 1) := by decide +kernel
theorem dL_law_314 : decode cL_law 314 = .ok (.iaload, 1) := by decide +kernel
theorem dL_law_315 : decode cL_law 315 = .ok (.aload_n 0, 1) := by decide +kernel
theorem dL_law_316 : decode cL_law 316 = .ok (.iload_n 3, 1) := by decide +kernel
theorem dL_law_317 : decode cL_law 317 = .ok (.iconst 2, 1) := by decide +kernel
theorem dL_law_318 : decode cL_law 318 = .ok (.iadd, 1) := by decide +kernel
theorem dL_law_319 : decode cL_law 319 = .ok (.iaload, 1) := by decide +kernel
theorem dL_law_320 : decode cL_law 320 = .ok (.invokevirtual 44, 3) := by decide +kernel
theorem dL_law_323 : decode cL_law 323 = .ok (.aload_n 2, 1) := by decide +kernel
theorem dL_law_324 : decode cL_law 324 = .ok (.aload_n 0, 1) := by decide +kernel
theorem dL_law_325 : decode cL_law 325 = .ok (.iload_n 3, 1) := by decide +kernel
theorem dL_law_326 : decode cL_law 326 = .ok (.iconst 1, 1) := by decide +kernel
theorem dL_law_327 : decode cL_law 327 = .ok (.iadd, 1) := by decide +kernel
theorem dL_law_328 : decode cL_law 328 = .ok (.iaload, 1) := by decide +kernel
theorem dL_law_329 : decode cL_law 329 = .ok (.aload_n 0, 1) := by decide +kernel
theorem dL_law_330 : decode cL_law 330 = .ok (.iload_n 3, 1) := by decide +kernel
theorem dL_law_331 : decode cL_law 331 = .ok (.iconst 2, 1) := by decide +kernel
theorem dL_law_332 : decode cL_law 332 = .ok (.iadd, 1) := by decide +kernel
theorem dL_law_333 : decode cL_law 333 = .ok (.iaload, 1) := by decide +kernel
theorem dL_law_334 : decode cL_law 334 = .ok (.invokevirtual 47, 3) := by decide +kernel
theorem dL_law_337 : decode cL_law 337 = .ok (.if_icmp .eq 496, 3) := by decide +kernel
theorem dL_law_340 : decode cL_law 340 = .ok (.iconst 0, 1) := by decide +kernel
theorem dL_law_341 : decode cL_law 341 = .ok (.ireturn, 1) := by decide +kernel
theorem dL_law_342 : decode cL_law 342 = .ok (.aload_n 1, 1) := by decide +kernel
theorem dL_law_343 : decode cL_law 343 = .ok (.aload_n 0, 1) := by decide +kernel
theorem dL_law_344 : decode cL_law 344 = .ok (.iload_n 3, 1) := by decide +kernel
theorem dL_law_345 : decode cL_law 345 = .ok (.iconst 1, 1) := by decide +kernel
theorem dL_law_346 : decode cL_law 346 = .ok (.iadd, 1) := by decide +kernel
theorem dL_law_347 : decode cL_law 347 = .ok (.iaload, 1) := by decide +kernel
theorem dL_law_348 : decode cL_law 348 = .ok (.aload_n 0, 1) := by decide +kernel
theorem dL_law_349 : decode cL_law 349 = .ok (.iload_n 3, 1) := by decide +kernel
theorem dL_law_350 : decode cL_law 350 = .ok (.iconst 2, 1) := by decide +kernel
theorem dL_law_351 : decode cL_law 351 = .ok (.iadd, 1) := by decide +kernel
theorem dL_law_352 : decode cL_law 352 = .ok (.iaload, 1) := by decide +kernel
theorem dL_law_353 : decode cL_law 353 = .ok (.invokevirtual 48, 3) := by decide +kernel
theorem dL_law_356 : decode cL_law 356 = .ok (.aload_n 2, 1) := by decide +kernel
theorem dL_law_357 : decode cL_law 357 = .ok (.aload_n 0, 1) := by decide +kernel
theorem dL_law_358 : decode cL_law 358 = .ok (.iload_n 3, 1) := by decide +kernel
theorem dL_law_359 : decode cL_law 359 = .ok (.iconst 1, 1) := by decide +kernel
theorem dL_law_360 : decode cL_law 360 = .ok (.iadd, 1) := by decide +kernel
theorem dL_law_361 : decode cL_law 361 = .ok (.iaload, 1) := by decide +kernel
theorem dL_law_362 : decode cL_law 362 = .ok (.aload_n 0, 1) := by decide +kernel
theorem dL_law_363 : decode cL_law 363 = .ok (.iload_n 3, 1) := by decide +kernel
theorem dL_law_364 : decode cL_law 364 = .ok (.iconst 2, 1) := by decide +kernel
theorem dL_law_365 : decode cL_law 365 = .ok (.iadd, 1) := by decide +kernel
theorem dL_law_366 : decode cL_law 366 = .ok (.iaload, 1) := by decide +kernel
theorem dL_law_367 : decode cL_law 367 = .ok (.invokevirtual 51, 3) := by decide +kernel
theorem dL_law_370 : decode cL_law 370 = .ok (.if_icmp .eq 463, 3) := by decide +kernel
theorem dL_law_373 : decode cL_law 373 = .ok (.iconst 0, 1) := by decide +kernel
theorem dL_law_374 : decode cL_law 374 = .ok (.ireturn, 1) := by decide +kernel
theorem dL_law_375 : decode cL_law 375 = .ok (.aload_n 1, 1) := by decide +kernel
theorem dL_law_376 : decode cL_law 376 = .ok (.aload_n 0, 1) := by decide +kernel
theorem dL_law_377 : decode cL_law 377 = .ok (.iload_n 3, 1) := by decide +kernel
theorem dL_law_378 : decode cL_law 378 = .ok (.iconst 1, 1) := by decide +kernel
theorem dL_law_379 : decode cL_law 379 = .ok (.iadd, 1) := by decide +kernel
theorem dL_law_380 : decode cL_law 380 = .ok (.iaload, 1) := by decide +kernel
theorem dL_law_381 : decode cL_law 381 = .ok (.aload_n 0, 1) := by decide +kernel
theorem dL_law_382 : decode cL_law 382 = .ok (.iload_n 3, 1) := by decide +kernel
theorem dL_law_383 : decode cL_law 383 = .ok (.iconst 2, 1) := by decide +kernel
theorem dL_law_384 : decode cL_law 384 = .ok (.iadd, 1) := by decide +kernel
theorem dL_law_385 : decode cL_law 385 = .ok (.iaload, 1) := by decide +kernel
theorem dL_law_386 : decode cL_law 386 = .ok (.invokevirtual 52, 3) := by decide +kernel
theorem dL_law_389 : decode cL_law 389 = .ok (.aload_n 2, 1) := by decide +kernel
theorem dL_law_390 : decode cL_law 390 = .ok (.aload_n 0, 1) := by decide +kernel
theorem dL_law_391 : decode cL_law 391 = .ok (.iload_n 3, 1) := by decide +kernel
theorem dL_law_392 : decode cL_law 392 = .ok (.iconst 1, 1) := by decide +kernel
theorem dL_law_393 : decode cL_law 393 = .ok (.iadd, 1) := by decide +kernel
theorem dL_law_394 : decode cL_law 394 = .ok (.iaload, 1) := by decide +kernel
theorem dL_law_395 : decode cL_law 395 = .ok (.aload_n 0, 1) := by decide +kernel
theorem dL_law_396 : decode cL_law 396 = .ok (.iload_n 3, 1) := by decide +kernel
theorem dL_law_397 : decode cL_law 397 = .ok (.iconst 2, 1) := by decide +kernel
theorem dL_law_398 : decode cL_law 398 = .ok (.iadd, 1) := by decide +kernel
theorem dL_law_399 : decode cL_law 399 = .ok (.iaload, 1) := by decide +kernel
theorem dL_law_400 : decode cL_law 400 = .ok (.invokevirtual 55, 3) := by decide +kernel
theorem dL_law_403 : decode cL_law 403 = .ok (.if_icmp .eq 430, 3) := by decide +kernel
theorem dL_law_406 : decode cL_law 406 = .ok (.iconst 0, 1) := by decide +kernel
theorem dL_law_407 : decode cL_law 407 = .ok (.ireturn, 1) := by decide +kernel
theorem dL_law_408 : decode cL_law 408 = .ok (.aload_n 1, 1) := by decide +kernel
theorem dL_law_409 : decode cL_law 409 = .ok (.aload_n 0, 1) := by decide +kernel
theorem dL_law_410 : decode cL_law 410 = .ok (.iload_n 3, 1) := by decide +kernel
theorem dL_law_411 : decode cL_law 411 = .ok (.iconst 1, 1) := by decide +kernel
theorem dL_law_412 : decode cL_law 412 = .ok (.iadd, 1) := by decide +kernel
theorem dL_law_413 : decode cL_law 413 = .ok (.iaload, 1) := by decide +kernel
theorem dL_law_414 : decode cL_law 414 = .ok (.aload_n 0, 1) := by decide +kernel
theorem dL_law_415 : decode cL_law 415 = .ok (.iload_n 3, 1) := by decide +kernel
theorem dL_law_416 : decode cL_law 416 = .ok (.iconst 2, 1) := by decide +kernel
theorem dL_law_417 : decode cL_law 417 = .ok (.iadd, 1) := by decide +kernel
theorem dL_law_418 : decode cL_law 418 = .ok (.iaload, 1) := by decide +kernel
theorem dL_law_419 : decode cL_law 419 = .ok (.invokevirtual 56, 3) := by decide +kernel
theorem dL_law_422 : decode cL_law 422 = .ok (.aload_n 2, 1) := by decide +kernel
theorem dL_law_423 : decode cL_law 423 = .ok (.aload_n 0, 1) := by decide +kernel
theorem dL_law_424 : decode cL_law 424 = .ok (.iload_n 3, 1) := by decide +kernel
theorem dL_law_425 : decode cL_law 425 = .ok (.iconst 1, 1) := by decide +kernel
theorem dL_law_426 : decode cL_law 426 = .ok (.iadd, 1) := by decide +kernel
theorem dL_law_427 : decode cL_law 427 = .ok (.iaload, 1) := by decide +kernel
theorem dL_law_428 : decode cL_law 428 = .ok (.aload_n 0, 1) := by decide +kernel
theorem dL_law_429 : decode cL_law 429 = .ok (.iload_n 3, 1) := by decide +kernel
theorem dL_law_430 : decode cL_law 430 = .ok (.iconst 2, 1) := by decide +kernel
theorem dL_law_431 : decode cL_law 431 = .ok (.iadd, 1) := by decide +kernel
theorem dL_law_432 : decode cL_law 432 = .ok (.iaload, 1) := by decide +kernel
theorem dL_law_433 : decode cL_law 433 = .ok (.invokevirtual 59, 3) := by decide +kernel
theorem dL_law_436 : decode cL_law 436 = .ok (.if_icmp .eq 397, 3) := by decide +kernel
theorem dL_law_439 : decode cL_law 439 = .ok (.iconst 0, 1) := by decide +kernel
theorem dL_law_440 : decode cL_law 440 = .ok (.ireturn, 1) := by decide +kernel
theorem dL_law_441 : decode cL_law 441 = .ok (.aload_n 1, 1) := by decide +kernel
theorem dL_law_442 : decode cL_law 442 = .ok (.aload_n 0, 1) := by decide +kernel
theorem dL_law_443 : decode cL_law 443 = .ok (.iload_n 3, 1) := by decide +kernel
theorem dL_law_444 : decode cL_law 444 = .ok (.iconst 1, 1) := by decide +kernel
theorem dL_law_445 : decode cL_law 445 = .ok (.iadd, 1) := by decide +kernel
theorem dL_law_446 : decode cL_law 446 = .ok (.iaload, 1) := by decide +kernel
theorem dL_law_447 : decode cL_law 447 = .ok (.aload_n 0, 1) := by decide +kernel
theorem dL_law_448 : decode cL_law 448 = .ok (.iload_n 3, 1) := by decide +kernel
theorem dL_law_449 : decode cL_law 449 = .ok (.iconst 2, 1) := by decide +kernel
theorem dL_law_450 : decode cL_law 450 = .ok (.iadd, 1) := by decide +kernel
theorem dL_law_451 : decode cL_law 451 = .ok (.iaload, 1) := by decide +kernel
theorem dL_law_452 : decode cL_law 452 = .ok (.invokevirtual 60, 3) := by decide +kernel
theorem dL_law_455 : decode cL_law 455 = .ok (.aload_n 2, 1) := by decide +kernel
theorem dL_law_456 : decode cL_law 456 = .ok (.aload_n 0, 1) := by decide +kernel
theorem dL_law_457 : decode cL_law 457 = .ok (.iload_n 3, 1) := by decide +kernel
theorem dL_law_458 : decode cL_law 458 = .ok (.iconst 1, 1) := by decide +kernel
theorem dL_law_459 : decode cL_law 459 = .ok (.iadd, 1) := by decide +kernel
theorem dL_law_460 : decode cL_law 460 = .ok (.iaload, 1) := by decide +kernel
theorem dL_law_461 : decode cL_law 461 = .ok (.aload_n 0, 1) := by decide +kernel
theorem dL_law_462 : decode cL_law 462 = .ok (.iload_n 3, 1) := by decide +kernel
theorem dL_law_463 : decode cL_law 463 = .ok (.iconst 2, 1) := by decide +kernel
theorem dL_law_464 : decode cL_law 464 = .ok (.iadd, 1) := by decide +kernel
theorem dL_law_465 : decode cL_law 465 = .ok (.iaload, 1) := by decide +kernel
theorem dL_law_466 : decode cL_law 466 = .ok (.invokevirtual 63, 3) := by decide +kernel
theorem dL_law_469 : decode cL_law 469 = .ok (.if_icmp .eq 364, 3) := by decide +kernel
theorem dL_law_472 : decode cL_law 472 = .ok (.iconst 0, 1) := by decide +kernel
theorem dL_law_473 : decode cL_law 473 = .ok (.ireturn, 1) := by decide +kernel
theorem dL_law_474 : decode cL_law 474 = .ok (.aload_n 1, 1) := by decide +kernel
theorem dL_law_475 : decode cL_law 475 = .ok (.aload_n 0, 1) := by decide +kernel
theorem dL_law_476 : decode cL_law 476 = .ok (.iload_n 3, 1) := by decide +kernel
theorem dL_law_477 : decode cL_law 477 = .ok (.iconst 1, 1) := by decide +kernel
theorem dL_law_478 : decode cL_law 478 = .ok (.iadd, 1) := by decide +kernel
theorem dL_law_479 : decode cL_law 479 = .ok (.iaload, 1) := by decide +kernel
theorem dL_law_480 : decode cL_law 480 = .ok (.aload_n 0, 1) := by decide +kernel
theorem dL_law_481 : decode cL_law 481 = .ok (.iload_n 3, 1) := by decide +kernel
theorem dL_law_482 : decode cL_law 482 = .ok (.iconst 2, 1) := by decide +kernel
theorem dL_law_483 : decode cL_law 483 = .ok (.iadd, 1) := by decide +kernel
theorem dL_law_484 : decode cL_law 484 = .ok (.iaload, 1) := by decide +kernel
theorem dL_law_485 : decode cL_law 485 = .ok (.aload_n 0, 1) := by decide +kernel
theorem dL_law_486 : decode cL_law 486 = .ok (.iload_n 3, 1) := by decide +kernel
theorem dL_law_487 : decode cL_law 487 = .ok (.iconst 3, 1) := by decide +kernel
theorem dL_law_488 : decode cL_law 488 = .ok (.iadd, 1) := by decide +kernel
theorem dL_law_489 : decode cL_law 489 = .ok (.iaload, 1) := by decide +kernel
theorem dL_law_490 : decode cL_law 490 = .ok (.invokevirtual 64, 3) := by decide +kernel
theorem dL_law_493 : decode cL_law 493 = .ok (.aload_n 2, 1) := by decide +kernel
theorem dL_law_494 : decode cL_law 494 = .ok (.aload_n 0, 1) := by decide +kernel
theorem dL_law_495 : decode cL_law 495 = .ok (.iload_n 3, 1) := by decide +kernel
theorem dL_law_496 : decode cL_law 496 = .ok (.iconst 1, 1) := by decide +kernel
theorem dL_law_497 : decode cL_law 497 = .ok (.iadd, 1) := by decide +kernel
theorem dL_law_498 : decode cL_law 498 = .ok (.iaload, 1) := by decide +kernel
theorem dL_law_499 : decode cL_law 499 = .ok (.aload_n 0, 1) := by decide +kernel
theorem dL_law_500 : decode cL_law 500 = .ok (.iload_n 3, 1) := by decide +kernel
theorem dL_law_501 : decode cL_law 501 = .ok (.iconst 2, 1) := by decide +kernel
theorem dL_law_502 : decode cL_law 502 = .ok (.iadd, 1) := by decide +kernel
theorem dL_law_503 : decode cL_law 503 = .ok (.iaload, 1) := by decide +kernel
theorem dL_law_504 : decode cL_law 504 = .ok (.aload_n 0, 1) := by decide +kernel
theorem dL_law_505 : decode cL_law 505 = .ok (.iload_n 3, 1) := by decide +kernel
theorem dL_law_506 : decode cL_law 506 = .ok (.iconst 3, 1) := by decide +kernel
theorem dL_law_507 : decode cL_law 507 = .ok (.iadd, 1) := by decide +kernel
theorem dL_law_508 : decode cL_law 508 = .ok (.iaload, 1) := by decide +kernel
theorem dL_law_509 : decode cL_law 509 = .ok (.invokevirtual 68, 3) := by decide +kernel
theorem dL_law_512 : decode cL_law 512 = .ok (.if_icmp .eq 321, 3) := by decide +kernel
theorem dL_law_515 : decode cL_law 515 = .ok (.iconst 0, 1) := by decide +kernel
theorem dL_law_516 : decode cL_law 516 = .ok (.ireturn, 1) := by decide +kernel
theorem dL_law_517 : decode cL_law 517 = .ok (.aload_n 1, 1) := by decide +kernel
theorem dL_law_518 : decode cL_law 518 = .ok (.aload_n 0, 1) := by decide +kernel
theorem dL_law_519 : decode cL_law 519 = .ok (.iload_n 3, 1) := by decide +kernel
theorem dL_law_520 : decode cL_law 520 = .ok (.iconst 1, 1) := by decide +kernel
theorem dL_law_521 : decode cL_law 521 = .ok (.iadd, 1) := by decide +kernel
theorem dL_law_522 : decode cL_law 522 = .ok (.iaload, 1) := by decide +kernel
theorem dL_law_523 : decode cL_law 523 = .ok (.aload_n 0, 1) := by decide +kernel
theorem dL_law_524 : decode cL_law 524 = .ok (.iload_n 3, 1) := by decide +kernel
theorem dL_law_525 : decode cL_law 525 = .ok (.iconst 2, 1) := by decide +kernel
theorem dL_law_526 : decode cL_law 526 = .ok (.iadd, 1) := by decide +kernel
theorem dL_law_527 : decode cL_law 527 = .ok (.iaload, 1) := by decide +kernel
theorem dL_law_528 : decode cL_law 528 = .ok (.invokevirtual 69, 3) := by decide +kernel
theorem dL_law_531 : decode cL_law 531 = .ok (.aload_n 2, 1) := by decide +kernel
theorem dL_law_532 : decode cL_law 532 = .ok (.aload_n 0, 1) := by decide +kernel
theorem dL_law_533 : decode cL_law 533 = .ok (.iload_n 3, 1) := by decide +kernel
theorem dL_law_534 : decode cL_law 534 = .ok (.iconst 1, 1) := by decide +kernel
theorem dL_law_535 : decode cL_law 535 = .ok (.iadd, 1) := by decide +kernel
theorem dL_law_536 : decode cL_law 536 = .ok (.iaload, 1) := by decide +kernel
theorem dL_law_537 : decode cL_law 537 = .ok (.aload_n 0, 1) := by decide +kernel
theorem dL_law_538 : decode cL_law 538 = .ok (.iload_n 3, 1) := by decide +kernel
theorem dL_law_539 : decode cL_law 539 = .ok (.iconst 2, 1) := by decide +kernel
theorem dL_law_540 : decode cL_law 540 = .ok (.iadd, 1) := by decide +kernel
theorem dL_law_541 : decode cL_law 541 = .ok (.iaload, 1) := by decide +kernel
theorem dL_law_542 : decode cL_law 542 = .ok (.invokevirtual 72, 3) := by decide +kernel
theorem dL_law_545 : decode cL_law 545 = .ok (.if_icmp .eq 288, 3) := by decide +kernel
theorem dL_law_548 : decode cL_law 548 = .ok (.iconst 0, 1) := by decide +kernel
theorem dL_law_549 : decode cL_law 549 = .ok (.ireturn, 1) := by decide +kernel
theorem dL_law_550 : decode cL_law 550 = .ok (.aload_n 1, 1) := by decide +kernel
theorem dL_law_551 : decode cL_law 551 = .ok (.aload_n 0, 1) := by decide +kernel
theorem dL_law_552 : decode cL_law 552 = .ok (.iload_n 3, 1) := by decide +kernel
theorem dL_law_553 : decode cL_law 553 = .ok (.iconst 1, 1) := by decide +kernel
theorem dL_law_554 : decode cL_law 554 = .ok (.iadd, 1) := by decide +kernel
theorem dL_law_555 : decode cL_law 555 = .ok (.iaload, 1) := by decide +kernel
theorem dL_law_556 : decode cL_law 556 = .ok (.aload_n 0, 1) := by decide +kernel
theorem dL_law_557 : decode cL_law 557 = .ok (.iload_n 3, 1) := by decide +kernel
theorem dL_law_558 : decode cL_law 558 = .ok (.iconst 2, 1) := by decide +kernel
theorem dL_law_559 : decode cL_law 559 = .ok (.iadd, 1) := by decide +kernel
theorem dL_law_560 : decode cL_law 560 = .ok (.iaload, 1) := by decide +kernel
theorem dL_law_561 : decode cL_law 561 = .ok (.invokevirtual 73, 3) := by decide +kernel
theorem dL_law_564 : decode cL_law 564 = .ok (.aload_n 2, 1) := by decide +kernel
theorem dL_law_565 : decode cL_law 565 = .ok (.aload_n 0, 1) := by decide +kernel
theorem dL_law_566 : decode cL_law 566 = .ok (.iload_n 3, 1) := by decide +kernel
theorem dL_law_567 : decode cL_law 567 = .ok (.iconst 1, 1) := by decide +kernel
theorem dL_law_568 : decode cL_law 568 = .ok (.iadd, 1) := by decide +kernel
theorem dL_law_569 : decode cL_law 569 = .ok (.iaload, 1) := by decide +kernel
theorem dL_law_570 : decode cL_law 570 = .ok (.aload_n 0, 1) := by decide +kernel
theorem dL_law_571 : decode cL_law 571 = .ok (.iload_n 3, 1) := by decide +kernel
theorem dL_law_572 : decode cL_law 572 = .ok (.iconst 2, 1) := by decide +kernel
theorem dL_law_573 : decode cL_law 573 = .ok (.iadd, 1) := by decide +kernel
theorem dL_law_574 : decode cL_law 574 = .ok (.iaload, 1) := by decide +kernel
theorem dL_law_575 : decode cL_law 575 = .ok (.invokevirtual 76, 3) := by decide +kernel
theorem dL_law_578 : decode cL_law 578 = .ok (.if_icmp .eq 255, 3) := by decide +kernel
theorem dL_law_581 : decode cL_law 581 = .ok (.iconst 0, 1) := by decide +kernel
theorem dL_law_582 : decode cL_law 582 = .ok (.ireturn, 1) := by decide +kernel
theorem dL_law_583 : decode cL_law 583 = .ok (.aload_n 1, 1) := by decide +kernel
theorem dL_law_584 : decode cL_law 584 = .ok (.aload_n 0, 1) := by decide +kernel
theorem dL_law_585 : decode cL_law 585 = .ok (.iload_n 3, 1) := by decide +kernel
theorem dL_law_586 : decode cL_law 586 = .ok (.iconst 1, 1) := by decide +kernel
theorem dL_law_587 : decode cL_law 587 = .ok (.iadd, 1) := by decide +kernel
theorem dL_law_588 : decode cL_law 588 = .ok (.iaload, 1) := by decide +kernel
theorem dL_law_589 : decode cL_law 589 = .ok (.invokevirtual 77, 3) := by decide +kernel
theorem dL_law_592 : decode cL_law 592 = .ok (.aload_n 2, 1) := by decide +kernel
theorem dL_law_593 : decode cL_law 593 = .ok (.aload_n 0, 1) := by decide +kernel
theorem dL_law_594 : decode cL_law 594 = .ok (.iload_n 3, 1) := by decide +kernel
theorem dL_law_595 : decode cL_law 595 = .ok (.iconst 1, 1) := by decide +kernel
theorem dL_law_596 : decode cL_law 596 = .ok (.iadd, 1) := by decide +kernel
theorem dL_law_597 : decode cL_law 597 = .ok (.iaload, 1) := by decide +kernel
theorem dL_law_598 : decode cL_law 598 = .ok (.invokevirtual 80, 3) := by decide +kernel
theorem dL_law_601 : decode cL_law 601 = .ok (.if_icmp .eq 232, 3) := by decide +kernel
theorem dL_law_604 : decode cL_law 604 = .ok (.iconst 0, 1) := by decide +kernel
theorem dL_law_605 : decode cL_law 605 = .ok (.ireturn, 1) := by decide +kernel
theorem dL_law_606 : decode cL_law 606 = .ok (.aload_n 1, 1) := by decide +kernel
theorem dL_law_607 : decode cL_law 607 = .ok (.aload_n 0, 1) := by decide +kernel
theorem dL_law_608 : decode cL_law 608 = .ok (.iload_n 3, 1) := by decide +kernel
theorem dL_law_609 : decode cL_law 609 = .ok (.iconst 1, 1) := by decide +kernel
theorem dL_law_610 : decode cL_law 610 = .ok (.iadd, 1) := by decide +kernel
theorem dL_law_611 : decode cL_law 611 = .ok (.iaload, 1) := by decide +kernel
theorem dL_law_612 : decode cL_law 612 = .ok (.aload_n 0, 1) := by decide +kernel
theorem dL_law_613 : decode cL_law 613 = .ok (.iload_n 3, 1) := by decide +kernel
theorem dL_law_614 : decode cL_law 614 = .ok (.iconst 2, 1) := by decide +kernel
theorem dL_law_615 : decode cL_law 615 = .ok (.iadd, 1) := by decide +kernel
theorem dL_law_616 : decode cL_law 616 = .ok (.iaload, 1) := by decide +kernel
theorem dL_law_617 : decode cL_law 617 = .ok (.aload_n 0, 1) := by decide +kernel
theorem dL_law_618 : decode cL_law 618 = .ok (.iload_n 3, 1) := by decide +kernel
theorem dL_law_619 : decode cL_law 619 = .ok (.iconst 3, 1) := by decide +kernel
theorem dL_law_620 : decode cL_law 620 = .ok (.iadd, 1) := by decide +kernel
theorem dL_law_621 : decode cL_law 621 = .ok (.iaload, 1) := by decide +kernel
theorem dL_law_622 : decode cL_law 622 = .ok (.invokevirtual 81, 3) := by decide +kernel
theorem dL_law_625 : decode cL_law 625 = .ok (.aload_n 2, 1) := by decide +kernel
theorem dL_law_626 : decode cL_law 626 = .ok (.aload_n 0, 1) := by decide +kernel
theorem dL_law_627 : decode cL_law 627 = .ok (.iload_n 3, 1) := by decide +kernel
theorem dL_law_628 : decode cL_law 628 = .ok (.iconst 1, 1) := by decide +kernel
theorem dL_law_629 : decode cL_law 629 = .ok (.iadd, 1) := by decide +kernel
theorem dL_law_630 : decode cL_law 630 = .ok (.iaload, 1) := by decide +kernel
theorem dL_law_631 : decode cL_law 631 = .ok (.aload_n 0, 1) := by decide +kernel
theorem dL_law_632 : decode cL_law 632 = .ok (.iload_n 3, 1) := by decide +kernel
theorem dL_law_633 : decode cL_law 633 = .ok (.iconst 2, 1) := by decide +kernel
theorem dL_law_634 : decode cL_law 634 = .ok (.iadd, 1) := by decide +kernel
theorem dL_law_635 : decode cL_law 635 = .ok (.iaload, 1) := by decide +kernel
theorem dL_law_636 : decode cL_law 636 = .ok (.aload_n 0, 1) := by decide +kernel
theorem dL_law_637 : decode cL_law 637 = .ok (.iload_n 3, 1) := by decide +kernel
theorem dL_law_638 : decode cL_law 638 = .ok (.iconst 3, 1) := by decide +kernel
theorem dL_law_639 : decode cL_law 639 = .ok (.iadd, 1) := by decide +kernel
theorem dL_law_640 : decode cL_law 640 = .ok (.iaload, 1) := by decide +kernel
theorem dL_law_641 : decode cL_law 641 = .ok (.invokevirtual 84, 3) := by decide +kernel
theorem dL_law_644 : decode cL_law 644 = .ok (.if_icmp .eq 189, 3) := by decide +kernel
theorem dL_law_647 : decode cL_law 647 = .ok (.iconst 0, 1) := by decide +kernel
theorem dL_law_648 : decode cL_law 648 = .ok (.ireturn, 1) := by decide +kernel
theorem dL_law_649 : decode cL_law 649 = .ok (.aload_n 1, 1) := by decide +kernel
theorem dL_law_650 : decode cL_law 650 = .ok (.aload_n 0, 1) := by decide +kernel
theorem dL_law_651 : decode cL_law 651 = .ok (.iload_n 3, 1) := by decide +kernel
theorem dL_law_652 : decode cL_law 652 = .ok (.iconst 1, 1) := by decide +kernel
theorem dL_law_653 : decode cL_law 653 = .ok (.iadd, 1) := by decide +kernel
theorem dL_law_654 : decode cL_law 654 = .ok (.iaload, 1) := by decide +kernel
theorem dL_law_655 : decode cL_law 655 = .ok (.invokevirtual 85, 3) := by decide +kernel
theorem dL_law_658 : decode cL_law 658 = .ok (.aload_n 2, 1) := by decide +kernel
theorem dL_law_659 : decode cL_law 659 = .ok (.aload_n 0, 1) := by decide +kernel
theorem dL_law_660 : decode cL_law 660 = .ok (.iload_n 3, 1) := by decide +kernel
theorem dL_law_661 : decode cL_law 661 = .ok (.iconst 1, 1) := by decide +kernel
theorem dL_law_662 : decode cL_law 662 = .ok (.iadd, 1) := by decide +kernel
theorem dL_law_663 : decode cL_law 663 = .ok (.iaload, 1) := by decide +kernel
theorem dL_law_664 : decode cL_law 664 = .ok (.invokevirtual 88, 3) := by decide +kernel
theorem dL_law_667 : decode cL_law 667 = .ok (.if_icmp .eq 166, 3) := by decide +kernel
theorem dL_law_670 : decode cL_law 670 = .ok (.iconst 0, 1) := by decide +kernel
theorem dL_law_671 : decode cL_law 671 = .ok (.ireturn, 1) := by decide +kernel
theorem dL_law_672 : decode cL_law 672 = .ok (.aload_n 1, 1) := by decide +kernel
theorem dL_law_673 : decode cL_law 673 = .ok (.aload_n 0, 1) := by decide +kernel
theorem dL_law_674 : decode cL_law 674 = .ok (.iload_n 3, 1) := by decide +kernel
theorem dL_law_675 : decode cL_law 675 = .ok (.iconst 1, 1) := by decide +kernel
theorem dL_law_676 : decode cL_law 676 = .ok (.iadd, 1) := by decide +kernel
theorem dL_law_677 : decode cL_law 677 = .ok (.iaload, 1) := by decide +kernel
theorem dL_law_678 : decode cL_law 678 = .ok (.aload_n 0, 1) := by decide +kernel
theorem dL_law_679 : decode cL_law 679 = .ok (.iload_n 3, 1) := by decide +kernel
theorem dL_law_680 : decode cL_law 680 = .ok (.iconst 2, 1) := by decide +kernel
theorem dL_law_681 : decode cL_law 681 = .ok (.iadd, 1) := by decide +kernel
theorem dL_law_682 : decode cL_law 682 = .ok (.iaload, 1) := by decide +kernel
theorem dL_law_683 : decode cL_law 683 = .ok (.invokevirtual 89, 3) := by decide +kernel
theorem dL_law_686 : decode cL_law 686 = .ok (.aload_n 2, 1) := by decide +kernel
theorem dL_law_687 : decode cL_law 687 = .ok (.aload_n 0, 1) := by decide +kernel
theorem dL_law_688 : decode cL_law 688 = .ok (.iload_n 3, 1) := by decide +kernel
theorem dL_law_689 : decode cL_law 689 = .ok (.iconst 1, 1) := by decide +kernel
theorem dL_law_690 : decode cL_law 690 = .ok (.iadd, 1) := by decide +kernel
theorem dL_law_691 : decode cL_law 691 = .ok (.iaload, 1) := by decide +kernel
theorem dL_law_692 : decode cL_law 692 = .ok (.aload_n 0, 1) := by decide +kernel
theorem dL_law_693 : decode cL_law 693 = .ok (.iload_n 3, 1) := by decide +kernel
theorem dL_law_694 : decode cL_law 694 = .ok (.iconst 2, 1) := by decide +kernel
theorem dL_law_695 : decode cL_law 695 = .ok (.iadd, 1) := by decide +kernel
theorem dL_law_696 : decode cL_law 696 = .ok (.iaload, 1) := by decide +kernel
theorem dL_law_697 : decode cL_law 697 = .ok (.invokevirtual 92, 3) := by decide +kernel
theorem dL_law_700 : decode cL_law 700 = .ok (.if_icmp .eq 133, 3) := by decide +kernel
theorem dL_law_703 : decode cL_law 703 = .ok (.iconst 0, 1) := by decide +kernel
theorem dL_law_704 : decode cL_law 704 = .ok (.ireturn, 1) := by decide +kernel
theorem dL_law_705 : decode cL_law 705 = .ok (.aload_n 1, 1) := by decide +kernel
theorem dL_law_706 : decode cL_law 706 = .ok (.aload_n 0, 1) := by decide +kernel
theorem dL_law_707 : decode cL_law 707 = .ok (.iload_n 3, 1) := by decide +kernel
theorem dL_law_708 : decode cL_law 708 = .ok (.iconst 1, 1) := by decide +kernel
theorem dL_law_709 : decode cL_law 709 = .ok (.iadd, 1) := by decide +kernel
theorem dL_law_710 : decode cL_law 710 = .ok (.iaload, 1) := by decide +kernel
theorem dL_law_711 : decode cL_law 711 = .ok (.invokevirtual 93, 3) := by decide +kernel
theorem dL_law_714 : decode cL_law 714 = .ok (.aload_n 2, 1) := by decide +kernel
theorem dL_law_715 : decode cL_law 715 = .ok (.aload_n 0, 1) := by decide +kernel
theorem dL_law_716 : decode cL_law 716 = .ok (.iload_n 3, 1) := by decide +kernel
theorem dL_law_717 : decode cL_law 717 = .ok (.iconst 1, 1) := by decide +kernel
theorem dL_law_718 : decode cL_law 718 = .ok (.iadd, 1) := by decide +kernel
theorem dL_law_719 : decode cL_law 719 = .ok (.iaload, 1) := by decide +kernel
theorem dL_law_720 : decode cL_law 720 = .ok (.invokevirtual 96, 3) := by decide +kernel
theorem dL_law_723 : decode cL_law 723 = .ok (.if_icmp .eq 110, 3) := by decide +kernel
theorem dL_law_726 : decode cL_law 726 = .ok (.iconst 0, 1) := by decide +kernel
theorem dL_law_727 : decode cL_law 727 = .ok (.ireturn, 1) := by decide +kernel
theorem dL_law_728 : decode cL_law 728 = .ok (.aload_n 1, 1) := by decide +kernel
theorem dL_law_729 : decode cL_law 729 = .ok (.aload_n 0, 1) := by decide +kernel
theorem dL_law_730 : decode cL_law 730 = .ok (.iload_n 3, 1) := by decide +kernel
theorem dL_law_731 : decode cL_law 731 = .ok (.iconst 1, 1) := by decide +kernel
theorem dL_law_732 : decode cL_law 732 = .ok (.iadd, 1) := by decide +kernel
theorem dL_law_733 : decode cL_law 733 = .ok (.iaload, 1) := by decide +kernel
theorem dL_law_734 : decode cL_law 734 = .ok (.invokevirtual 97, 3) := by decide +kernel
theorem dL_law_737 : decode cL_law 737 = .ok (.aload_n 2, 1) := by decide +kernel
theorem dL_law_738 : decode cL_law 738 = .ok (.aload_n 0, 1) := by decide +kernel
theorem dL_law_739 : decode cL_law 739 = .ok (.iload_n 3, 1) := by decide +kernel
theorem dL_law_740 : decode cL_law 740 = .ok (.iconst 1, 1) := by decide +kernel
theorem dL_law_741 : decode cL_law 741 = .ok (.iadd, 1) := by decide +kernel
theorem dL_law_742 : decode cL_law 742 = .ok (.iaload, 1) := by decide +kernel
theorem dL_law_743 : decode cL_law 743 = .ok (.invokevirtual 100, 3) := by decide +kernel
theorem dL_law_746 : decode cL_law 746 = .ok (.if_icmp .eq 87, 3) := by decide +kernel
theorem dL_law_749 : decode cL_law 749 = .ok (.iconst 0, 1) := by decide +kernel
theorem dL_law_750 : decode cL_law 750 = .ok (.ireturn, 1) := by decide +kernel
theorem dL_law_751 : decode cL_law 751 = .ok (.aload_n 1, 1) := by decide +kernel
theorem dL_law_752 : decode cL_law 752 = .ok (.invokevirtual 101, 3) := by decide +kernel
theorem dL_law_755 : decode cL_law 755 = .ok (.aload_n 2, 1) := by decide +kernel
theorem dL_law_756 : decode cL_law 756 = .ok (.invokevirtual 104, 3) := by decide +kernel
theorem dL_law_759 : decode cL_law 759 = .ok (.if_icmp .eq 74, 3) := by decide +kernel
theorem dL_law_762 : decode cL_law 762 = .ok (.iconst 0, 1) := by decide +kernel
theorem dL_law_763 : decode cL_law 763 = .ok (.ireturn, 1) := by decide +kernel
theorem dL_law_764 : decode cL_law 764 = .ok (.aload_n 1, 1) := by decide +kernel
theorem dL_law_765 : decode cL_law 765 = .ok (.aload_n 0, 1) := by decide +kernel
theorem dL_law_766 : decode cL_law 766 = .ok (.iload_n 3, 1) := by decide +kernel
theorem dL_law_767 : decode cL_law 767 = .ok (.iconst 1, 1) := by decide +kernel
theorem dL_law_768 : decode cL_law 768 = .ok (.iadd, 1) := by decide +kernel
theorem dL_law_769 : decode cL_law 769 = .ok (.iaload, 1) := by decide +kernel
theorem dL_law_770 : decode cL_law 770 = .ok (.invokevirtual 105, 3) := by decide +kernel
theorem dL_law_773 : decode cL_law 773 = .ok (.aload_n 2, 1) := by decide +kernel
theorem dL_law_774 : decode cL_law 774 = .ok (.aload_n 0, 1) := by decide +kernel
theorem dL_law_775 : decode cL_law 775 = .ok (.iload_n 3, 1) := by decide +kernel
theorem dL_law_776 : decode cL_law 776 = .ok (.iconst 1, 1) := by decide +kernel
theorem dL_law_777 : decode cL_law 777 = .ok (.iadd, 1) := by decide +kernel
theorem dL_law_778 : decode cL_law 778 = .ok (.iaload, 1) := by decide +kernel
theorem dL_law_779 : decode cL_law 779 = .ok (.invokevirtual 108, 3) := by decide +kernel
theorem dL_law_782 : decode cL_law 782 = .ok (.if_icmp .eq 51, 3) := by decide +kernel
theorem dL_law_785 : decode cL_law 785 = .ok (.iconst 0, 1) := by decide +kernel
theorem dL_law_786 : decode cL_law 786 = .ok (.ireturn, 1) := by decide +kernel
theorem dL_law_787 : decode cL_law 787 = .ok (.aload_n 1, 1) := by decide +kernel
theorem dL_law_788 : decode cL_law 788 = .ok (.aload_n 0, 1) := by decide +kernel
theorem dL_law_789 : decode cL_law 789 = .ok (.iload_n 3, 1) := by decide +kernel
theorem dL_law_790 : decode cL_law 790 = .ok (.iconst 1, 1) := by decide +kernel
theorem dL_law_791 : decode cL_law 791 = .ok (.iadd, 1) := by decide +kernel
theorem dL_law_792 : decode cL_law 792 = .ok (.iaload, 1) := by decide +kernel
theorem dL_law_793 : decode cL_law 793 = .ok (.invokevirtual 109, 3) := by decide +kernel
theorem dL_law_796 : decode cL_law 796 = .ok (.aload_n 2, 1) := by decide +kernel
theorem dL_law_797 : decode cL_law 797 = .ok (.aload_n 0, 1) := by decide +kernel
theorem dL_law_798 : decode cL_law 798 = .ok (.iload_n 3, 1) := by decide +kernel
theorem dL_law_799 : decode cL_law 799 = .ok (.iconst 1, 1) := by decide +kernel
theorem dL_law_800 : decode cL_law 800 = .ok (.iadd, 1) := by decide +kernel
theorem dL_law_801 : decode cL_law 801 = .ok (.iaload, 1) := by decide +kernel
theorem dL_law_802 : decode cL_law 802 = .ok (.invokevirtual 112, 3) := by decide +kernel
theorem dL_law_805 : decode cL_law 805 = .ok (.if_icmp .eq 28, 3) := by decide +kernel
theorem dL_law_808 : decode cL_law 808 = .ok (.iconst 0, 1) := by decide +kernel
theorem dL_law_809 : decode cL_law 809 = .ok (.ireturn, 1) := by decide +kernel
theorem dL_law_810 : decode cL_law 810 = .ok (.aload_n 1, 1) := by decide +kernel
theorem dL_law_811 : decode cL_law 811 = .ok (.aload_n 0, 1) := by decide +kernel
theorem dL_law_812 : decode cL_law 812 = .ok (.iload_n 3, 1) := by decide +kernel
theorem dL_law_813 : decode cL_law 813 = .ok (.iconst 1, 1) := by decide +kernel
theorem dL_law_814 : decode cL_law 814 = .ok (.iadd, 1) := by decide +kernel
theorem dL_law_815 : decode cL_law 815 = .ok (.iaload, 1) := by decide +kernel
theorem dL_law_816 : decode cL_law 816 = .ok (.invokevirtual 113, 3) := by decide +kernel
theorem dL_law_819 : decode cL_law 819 = .ok (.aload_n 2, 1) := by decide +kernel
theorem dL_law_820 : decode cL_law 820 = .ok (.aload_n 0, 1) := by decide +kernel
theorem dL_law_821 : decode cL_law 821 = .ok (.iload_n 3, 1) := by decide +kernel
theorem dL_law_822 : decode cL_law 822 = .ok (.iconst 1, 1) := by decide +kernel
theorem dL_law_823 : decode cL_law 823 = .ok (.iadd, 1) := by decide +kernel
theorem dL_law_824 : decode cL_law 824 = .ok (.iaload, 1) := by decide +kernel
theorem dL_law_825 : decode cL_law 825 = .ok (.invokevirtual 116, 3) := by decide +kernel
theorem dL_law_828 : decode cL_law 828 = .ok (.if_icmp .eq 5, 3) := by decide +kernel
theorem dL_law_831 : decode cL_law 831 = .ok (.iconst 0, 1) := by decide +kernel
theorem dL_law_832 : decode cL_law 832 = .ok (.ireturn, 1) := by decide +kernel
theorem dL_law_833 : decode cL_law 833 = .ok (.iinc 3 4, 3) := by decide +kernel
theorem dL_law_836 : decode cL_law 836 = .ok (.goto (-818), 3) := by decide +kernel
theorem dL_law_839 : decode cL_law 839 = .ok (.iconst 1, 1) := by decide +kernel
theorem dL_law_840 : decode cL_law 840 = .ok (.ireturn, 1) := by decide +kernel
end
section
/-! THE DEEP SEMANTICS: a small machine over places; sg_R is the least relation closed under its rules (sg_C); the rules are shown sound for the kit's W in the next part. -/
abbrev sg_E : Type := (Bool × Nat × (Nat → Int32)) ⊕ (Nat × List Value)
abbrev sg_H : Type := Nat × Nat × (Nat → sg_E)
abbrev sg_M : Type := MethodName × ByteArray × Nat × Option FieldType × Room
abbrev sg_L : Type := List (Option Value)
abbrev sg_O : Type := Option Value × sg_H
abbrev sg_P : Type := sg_M → Nat → sg_L → List Value → sg_H → sg_O → Prop
def sg_up (h : sg_H) (k : Nat) (e : sg_E) : sg_H := (h.1, h.2.1, fun j => if j = k then e else h.2.2 j)
def sg_mk (h : sg_H) (z : Nat) (e : sg_E) : sg_H := (h.1 + 1, h.2.1 + z, fun j => if j = h.1 then e else h.2.2 j)
/-- what stands at a place: one of ours (below h.1), or a thing that nobody writes (from 1000 on) -/
def sg_at (h : sg_H) (k : Nat) (e : sg_E) : Prop := (k < h.1 ∨ 1000 ≤ k) ∧ h.2.2 k = e
def sg_cv (ad : Nat → Nat) : Value → Value
  | .ref k => .ref (ad k)
  | v => v
def sg_lx : Instr → Option (Nat × Nat × Nat)
  | .iload_n k => some (k.val, 0, 1)
  | .iload i => some (i, 0, 2)
  | .lload_n k => some (k.val, 1, 1)
  | .lload i => some (i, 1, 2)
  | .aload_n k => some (k.val, 2, 1)
  | .aload i => some (i, 2, 2)
  | _ => none
def sg_kd (n : Nat) (v : Value) : Bool := match v with
  | .int _ => n == 0
  | .long _ => n == 1
  | .ref _ => n == 2
  | _ => false
def sg_sx : Instr → Option (Nat × Nat × Nat)
  | .istore_n k => some (k.val, 0, 1)
  | .istore i => some (i, 0, 2)
  | .astore_n k => some (k.val, 2, 1)
  | .astore i => some (i, 2, 2)
  | _ => none
/-- no long stands just ahead of place i -/
def sg_fr (ls : sg_L) (i : Nat) : Bool := match i with
  | 0 => true
  | j + 1 => match ls[j]? with
    | some (some (.long _)) => false
    | some (some (.double _)) => false
    | _ => true
def sg_kx : Instr → Option (Int32 × Nat)
  | .iconst n => some (Int32.ofInt n, 1)
  | .bipush n => some ((Int8.ofInt n).toInt32, 2)
  | .sipush n => some ((Int16.ofInt n).toInt32, 3)
  | _ => none
def sg_bx : Instr → Option (Int32 → Int32 → Int32)
  | .iadd => some (fun x y => x + y)
  | .isub => some (fun x y => x - y)
  | .imul => some (fun x y => x * y)
  | .iand => some (fun x y => x &&& y)
  | .ior => some (fun x y => x ||| y)
  | .ixor => some (fun x y => x ^^^ y)
  | .ishl => some (fun x y => x <<< (y &&& 31))
  | .ishr => some (fun x y => x >>> (y &&& 31))
  | .iushr => some (fun x y => (x.toUInt32 >>> (y.toUInt32 &&& Int32.toUInt32 31)).toInt32)
  | _ => none
def sg_cd (c : Jvm.ClassFile.Cond) (x y : Int32) : Bool := match c with
  | .eq => decide (x = y)
  | .ne => decide (¬ x = y)
  | .lt => decide (x < y)
  | .ge => decide (y ≤ x)
  | .gt => decide (y < x)
  | .le => decide (x ≤ y)
/-- entry locals -/
def sg_en (vs : List Value) : sg_L := vs.flatMap fun v => if v.category = 2 then [some v, none] else [some v]
def sg_ent (M : sg_M) (vs : List Value) : sg_L := sg_en vs ++ List.replicate (M.2.2.1 - (sg_en vs).length) none
/-- the words of every method: all payable ones of the tables -/
def sg_ws : List Jvm.Cond := lw_tbl.filter goodWord
def sg_w (M : sg_M) : List Jvm.Cond := Cond.code M.1 M.2.1 M.2.2.1 M.2.2.2.1 :: sg_ws
/-- words that are no payable ones: private members of a nest mate -/
def sg_nws : List Jvm.Cond := lw_tbl.filter (fun w => match w with
  | .fieldLinkNest _ _ _ _ _ _ => true
  | .methodLinkNest _ _ _ _ => true
  | _ => false)
/-- field j of class ci is what pool row ix of class own names -/
def sg_fok (own : String) (ix ci j : Nat) : Prop := ∃ r : vw_C, vwCl[ci]? = some r ∧ j < r.2.2 ∧ (Cond.fieldLink own ix (r.2.1 j).1 (r.2.1 j).2.1 (r.2.1 j).2.2.1 ∈ sg_ws ∨ ∃ host, Cond.fieldLinkNest own ix (r.2.1 j).1 (r.2.1 j).2.1 (r.2.1 j).2.2.1 host ∈ sg_nws)
/-- field j of class ci may be given v by a method M -/
def sg_wok (M : sg_M) (ci j : Nat) (v : Value) : Prop := ∃ (r : vw_C) (ty : FieldType), vwCl[ci]? = some r ∧ ((r.2.1 j).2.2.2 = false ∨ ((r.2.1 j).2.2.2 = true ∧ M.1.name = "<init>" ∧ (r.2.1 j).1 = M.1.cls)) ∧ parseFieldDescriptor (r.2.1 j).2.2.1 = some ty ∧ ∀ ad, narrow ty (sg_cv ad v) = sg_cv ad v ∧ fits ty (sg_cv ad v) = true
/-- M' has n parameters and may be called: what holds of all its calls -/
def sg_mok (M' : sg_M) (n : Nat) : Prop := Cond.code M'.1 M'.2.1 M'.2.2.1 M'.2.2.2.1 ∈ sg_ws ∧ Cond.initialized M'.1.cls ∈ sg_ws ∧ (M'.1.cls ≠ "java/lang/invoke/MethodHandle" ∧ M'.1.cls ≠ "java/lang/invoke/VarHandle" ∧ (parseMethodDescriptor M'.1.desc).map (fun d => d.parameters.length) = some n) ∧ plainName M'.1.cls = true
def sg_iok (M' : sg_M) : Prop := Cond.instanceMethod M'.1 ∈ sg_ws ∧ Cond.selects M'.1.cls M'.1 M'.1 ∈ sg_ws
/-- M has room for M' -/
def sg_rok (M M' : sg_M) : Prop := M'.2.2.2.2.frames + 1 ≤ M.2.2.2.2.frames ∧ 8 + (M'.2.2.1 + 11) + M'.2.2.2.2.locals ≤ M.2.2.2.2.locals
/-- the pool row itself: an ordinary link, or one to a nest mate's private method -/
def sg_lok (own : String) (ix : Nat) (M' : sg_M) : Prop := Cond.methodLink own ix M'.1 ∈ sg_ws ∨ ∃ host, Cond.methodLinkNest own ix M'.1 host ∈ sg_nws
def sg_tx : Nat → List Int32
  | 1010 => [118, 111, 108, 117, 109, 101]
  | 1011 => [100, 105, 114]
  | 1012 => [102, 105, 108, 101]
  | _ => []
/-- string constants: class, pool row, place -/
def sg_scl : List (String × Nat × Nat) := [(RX4, 37, 1010), (RX4, 60, 1011), (RX4, 65, 1012)]
/-- static rows of ints: class, pool row, name of the class that has it, name, place -/
def sg_stl : List (String × Nat × String × Nat) := [(RX4, 43, "LEAST_RULES", 1001), (RX4, 46, "MOST_RULES", 1002), (RX7, 57, "RULES_AT_FIRST", 1003)]
section SGR
variable (P : sg_P)
def sg_q01 : Prop := ∀ (M : sg_M) (pc : Nat) (ls : sg_L) (st : List Value) (h : sg_H) (out : sg_O) (ins : Instr) (len i kd : Nat) (v : Value), decode M.2.1 pc = .ok (ins, len) → sg_lx ins = some (i, kd, len) → ls[i]? = some (some v) → sg_kd kd v = true → P M (pc + len) ls (v :: st) h out → P M pc ls st h out
def sg_q02 : Prop := ∀ (M : sg_M) (pc : Nat) (ls : sg_L) (st : List Value) (h : sg_H) (out : sg_O) (ins : Instr) (len i kd : Nat) (v : Value), decode M.2.1 pc = .ok (ins, len) → sg_sx ins = some (i, kd, len) → sg_kd kd v = true → i < ls.length → sg_fr ls i = true → P M (pc + len) (ls.set i (some v)) st h out → P M pc ls (v :: st) h out
def sg_q03 : Prop := ∀ (M : sg_M) (pc : Nat) (ls : sg_L) (st : List Value) (h : sg_H) (out : sg_O) (ins : Instr) (len : Nat) (v : Int32), decode M.2.1 pc = .ok (ins, len) → sg_kx ins = some (v, len) → P M (pc + len) ls (.int v :: st) h out → P M pc ls st h out
def sg_q04 : Prop := ∀ (M : sg_M) (pc : Nat) (ls : sg_L) (st : List Value) (h : sg_H) (out : sg_O) (n : Fin 2), decode M.2.1 pc = .ok (.lconst n, 1) → P M (pc + 1) ls (.long (Int64.ofNat n.val) :: st) h out → P M pc ls st h out
def sg_q05 : Prop := ∀ (M : sg_M) (pc : Nat) (ls : sg_L) (st : List Value) (h : sg_H) (out : sg_O) (ix : Nat) (v : Int32), decode M.2.1 pc = .ok (.ldc ix, 2) → Cond.constant M.1.cls ix v ∈ sg_ws → P M (pc + 2) ls (.int v :: st) h out → P M pc ls st h out
def sg_q06 : Prop := ∀ (M : sg_M) (pc : Nat) (ls : sg_L) (st : List Value) (h : sg_H) (out : sg_O) (ix : Nat) (v : Int32), decode M.2.1 pc = .ok (.ldc_w ix, 3) → Cond.constant M.1.cls ix v ∈ sg_ws → P M (pc + 3) ls (.int v :: st) h out → P M pc ls st h out
def sg_q07 : Prop := ∀ (M : sg_M) (pc : Nat) (ls : sg_L) (st : List Value) (h : sg_H) (out : sg_O) (ix : Nat) (v : Int64), decode M.2.1 pc = .ok (.ldc2_w ix, 3) → Cond.constantLong M.1.cls ix v ∈ sg_ws → P M (pc + 3) ls (.long v :: st) h out → P M pc ls st h out
def sg_q08 : Prop := ∀ (M : sg_M) (pc : Nat) (ls : sg_L) (st : List Value) (h : sg_H) (out : sg_O) (ix k : Nat), decode M.2.1 pc = .ok (.ldc ix, 2) → (M.1.cls, ix, k) ∈ sg_scl → P M (pc + 2) ls (.ref k :: st) h out → P M pc ls st h out
def sg_q09 : Prop := ∀ (M : sg_M) (pc : Nat) (ls : sg_L) (st : List Value) (h : sg_H) (out : sg_O) (ins : Instr) (f : Int32 → Int32 → Int32) (x y : Int32), decode M.2.1 pc = .ok (ins, 1) → sg_bx ins = some f → P M (pc + 1) ls (.int (f x y) :: st) h out → P M pc ls (.int y :: .int x :: st) h out
def sg_q10 : Prop := ∀ (M : sg_M) (pc : Nat) (ls : sg_L) (st : List Value) (h : sg_H) (out : sg_O) (x y : Int32), decode M.2.1 pc = .ok (.idiv, 1) → ¬ y = 0 → P M (pc + 1) ls (.int (x / y) :: st) h out → P M pc ls (.int y :: .int x :: st) h out
def sg_q11 : Prop := ∀ (M : sg_M) (pc : Nat) (ls : sg_L) (st : List Value) (h : sg_H) (out : sg_O) (x y : Int32), decode M.2.1 pc = .ok (.irem, 1) → ¬ y = 0 → P M (pc + 1) ls (.int (x - x / y * y) :: st) h out → P M pc ls (.int y :: .int x :: st) h out
def sg_q12 : Prop := ∀ (M : sg_M) (pc : Nat) (ls : sg_L) (st : List Value) (h : sg_H) (out : sg_O) (x : Int32), decode M.2.1 pc = .ok (.i2l, 1) → P M (pc + 1) ls (.long x.toInt64 :: st) h out → P M pc ls (.int x :: st) h out
def sg_q13 : Prop := ∀ (M : sg_M) (pc : Nat) (ls : sg_L) (st : List Value) (h : sg_H) (out : sg_O) (x y : Int64), decode M.2.1 pc = .ok (.lcmp, 1) → P M (pc + 1) ls (.int (lg_cmp x y) :: st) h out → P M pc ls (.long y :: .long x :: st) h out
def sg_q14 : Prop := ∀ (M : sg_M) (pc : Nat) (ls : sg_L) (st : List Value) (h : sg_H) (out : sg_O) (i : Nat) (n : Int) (x : Int32), decode M.2.1 pc = .ok (.iinc i n, 3) → ls[i]? = some (some (.int x)) → sg_fr ls i = true → P M (pc + 3) (ls.set i (some (.int (x + Int32.ofInt n)))) st h out → P M pc ls st h out
def sg_q15 : Prop := ∀ (M : sg_M) (pc : Nat) (ls : sg_L) (st : List Value) (h : sg_H) (out : sg_O) (v : Value), decode M.2.1 pc = .ok (.dup, 1) → v.category = 1 → P M (pc + 1) ls (v :: v :: st) h out → P M pc ls (v :: st) h out
def sg_q16 : Prop := ∀ (M : sg_M) (pc : Nat) (ls : sg_L) (st : List Value) (h : sg_H) (out : sg_O) (v w : Value), decode M.2.1 pc = .ok (.dup2, 1) → v.category = 1 → w.category = 1 → P M (pc + 1) ls (v :: w :: v :: w :: st) h out → P M pc ls (v :: w :: st) h out
def sg_q17 : Prop := ∀ (M : sg_M) (pc : Nat) (ls : sg_L) (st : List Value) (h : sg_H) (out : sg_O) (off : Int) (tgt : Nat), decode M.2.1 pc = .ok (.goto off, 3) → (pc : Int) + off = (tgt : Int) → P M tgt ls st h out → P M pc ls st h out
def sg_q18 : Prop := ∀ (M : sg_M) (pc : Nat) (ls : sg_L) (st : List Value) (h : sg_H) (out : sg_O) (cd : Jvm.ClassFile.Cond) (off : Int) (tgt : Nat) (x y : Int32), decode M.2.1 pc = .ok (.if_icmp cd off, 3) → (pc : Int) + off = (tgt : Int) → sg_cd cd x y = true → P M tgt ls st h out → P M pc ls (.int y :: .int x :: st) h out
def sg_q19 : Prop := ∀ (M : sg_M) (pc : Nat) (ls : sg_L) (st : List Value) (h : sg_H) (out : sg_O) (cd : Jvm.ClassFile.Cond) (off : Int) (tgt : Nat) (x y : Int32), decode M.2.1 pc = .ok (.if_icmp cd off, 3) → (pc : Int) + off = (tgt : Int) → sg_cd cd x y = false → P M (pc + 3) ls st h out → P M pc ls (.int y :: .int x :: st) h out
def sg_q20 : Prop := ∀ (M : sg_M) (pc : Nat) (ls : sg_L) (st : List Value) (h : sg_H) (out : sg_O) (cd : Jvm.ClassFile.Cond) (off : Int) (tgt : Nat) (x : Int32), decode M.2.1 pc = .ok (.ifCond cd off, 3) → (pc : Int) + off = (tgt : Int) → sg_cd cd x 0 = true → P M tgt ls st h out → P M pc ls (.int x :: st) h out
def sg_q21 : Prop := ∀ (M : sg_M) (pc : Nat) (ls : sg_L) (st : List Value) (h : sg_H) (out : sg_O) (cd : Jvm.ClassFile.Cond) (off : Int) (tgt : Nat) (x : Int32), decode M.2.1 pc = .ok (.ifCond cd off, 3) → (pc : Int) + off = (tgt : Int) → sg_cd cd x 0 = false → P M (pc + 3) ls st h out → P M pc ls (.int x :: st) h out
def sg_q22 : Prop := ∀ (M : sg_M) (pc : Nat) (ls : sg_L) (st : List Value) (h : sg_H) (out : sg_O) (off : Int) (k : Nat), decode M.2.1 pc = .ok (.ifnull off, 3) → P M (pc + 3) ls st h out → P M pc ls (.ref k :: st) h out
def sg_q23 : Prop := ∀ (M : sg_M) (pc : Nat) (ls : sg_L) (st : List Value) (h : sg_H) (out : sg_O) (dflt lo hi : Int) (offs : Array Int) (len : Nat) (x : Int32) (off : Int) (tgt : Nat), decode M.2.1 pc = .ok (.tableswitch dflt lo hi offs, len) → ¬ x.toInt < lo → ¬ hi < x.toInt → offs[(x.toInt - lo).toNat]? = some off → (pc : Int) + off = (tgt : Int) → P M tgt ls st h out → P M pc ls (.int x :: st) h out
def sg_q24 : Prop := ∀ (M : sg_M) (pc : Nat) (ls : sg_L) (st : List Value) (h : sg_H) (out : sg_O) (dflt lo hi : Int) (offs : Array Int) (len : Nat) (x : Int32) (tgt : Nat), decode M.2.1 pc = .ok (.tableswitch dflt lo hi offs, len) → (x.toInt < lo ∨ hi < x.toInt) → (pc : Int) + dflt = (tgt : Int) → P M tgt ls st h out → P M pc ls (.int x :: st) h out
def sg_q25 : Prop := ∀ (M : sg_M) (pc : Nat) (ls : sg_L) (st : List Value) (h : sg_H) (out : sg_O) (dflt : Int) (ps : Array (Int × Int)) (len : Nat) (x : Int32) (off : Int) (tgt : Nat), decode M.2.1 pc = .ok (.lookupswitch dflt ps, len) → (ps.toList.zip (ps.toList.drop 1)).all (fun (a, next) => a.1 < next.1) = true → Op.lookupswitch.offset ps.toList dflt x.toInt = off → (pc : Int) + off = (tgt : Int) → P M tgt ls st h out → P M pc ls (.int x :: st) h out
def sg_q26 : Prop := ∀ (M : sg_M) (pc : Nat) (ls : sg_L) (st : List Value) (h : sg_H) (out : sg_O) (ix ci j k : Nat) (fs : List Value) (v : Value), decode M.2.1 pc = .ok (.getfield ix, 3) → sg_fok M.1.cls ix ci j → k < 1000 → sg_at h k (.inr (ci, fs)) → fs[j]? = some v → P M (pc + 3) ls (v :: st) h out → P M pc ls (.ref k :: st) h out
def sg_q27 : Prop := ∀ (M : sg_M) (pc : Nat) (ls : sg_L) (st : List Value) (h : sg_H) (out : sg_O) (ix ci j k : Nat) (fs : List Value) (v : Value), decode M.2.1 pc = .ok (.putfield ix, 3) → sg_fok M.1.cls ix ci j → sg_wok M ci j v → k < 1000 → sg_at h k (.inr (ci, fs)) → j < fs.length → P M (pc + 3) ls st (sg_up h k (.inr (ci, fs.set j v))) out → P M pc ls (v :: .ref k :: st) h out
def sg_q28 : Prop := ∀ (M : sg_M) (pc : Nat) (ls : sg_L) (st : List Value) (h : sg_H) (out : sg_O) (k n : Nat) (f : Nat → Int32) (i : Int32), decode M.2.1 pc = .ok (.iaload, 1) → sg_at h k (.inl (false, n, f)) → vp_in i n → P M (pc + 1) ls (.int (f i.toNatClampNeg) :: st) h out → P M pc ls (.int i :: .ref k :: st) h out
def sg_q29 : Prop := ∀ (M : sg_M) (pc : Nat) (ls : sg_L) (st : List Value) (h : sg_H) (out : sg_O) (k n : Nat) (f : Nat → Int32) (i : Int32), decode M.2.1 pc = .ok (.baload, 1) → k < 1000 → sg_at h k (.inl (true, n, f)) → vp_in i n → P M (pc + 1) ls (.int (f i.toNatClampNeg) :: st) h out → P M pc ls (.int i :: .ref k :: st) h out
def sg_q30 : Prop := ∀ (M : sg_M) (pc : Nat) (ls : sg_L) (st : List Value) (h : sg_H) (out : sg_O) (k n : Nat) (f : Nat → Int32) (i x : Int32), decode M.2.1 pc = .ok (.iastore, 1) → k < 1000 → sg_at h k (.inl (false, n, f)) → vp_in i n → P M (pc + 1) ls st (sg_up h k (.inl (false, n, upd f i.toNatClampNeg x))) out → P M pc ls (.int x :: .int i :: .ref k :: st) h out
def sg_q31 : Prop := ∀ (M : sg_M) (pc : Nat) (ls : sg_L) (st : List Value) (h : sg_H) (out : sg_O) (k n : Nat) (f : Nat → Int32) (i x : Int32), decode M.2.1 pc = .ok (.bastore, 1) → k < 1000 → sg_at h k (.inl (true, n, f)) → vp_in i n → P M (pc + 1) ls st (sg_up h k (.inl (true, n, upd f i.toNatClampNeg (vp_nar .boolean x)))) out → P M pc ls (.int x :: .int i :: .ref k :: st) h out
def sg_q32 : Prop := ∀ (M : sg_M) (pc : Nat) (ls : sg_L) (st : List Value) (h : sg_H) (out : sg_O) (k n : Nat) (f : Nat → Int32), decode M.2.1 pc = .ok (.arraylength, 1) → sg_at h k (.inl (false, n, f)) → P M (pc + 1) ls (.int (Int32.ofNat n) :: st) h out → P M pc ls (.ref k :: st) h out
def sg_q33 : Prop := ∀ (M : sg_M) (pc : Nat) (ls : sg_L) (st : List Value) (h : sg_H) (out : sg_O) (ix ci : Nat) (r : vw_C) (ty : Nat → FieldType) (fs : List Value), decode M.2.1 pc = .ok (.new ix, 3) → vwCl[ci]? = some r → Cond.classLink M.1.cls ix r.1 ∈ sg_ws → Cond.instantiable r.1 r.2.2 ∈ sg_ws → Cond.initialized r.1 ∈ sg_ws → (∀ k, k < r.2.2 → parseFieldDescriptor (r.2.1 k).2.2.1 = some (ty k)) → (∀ j, j < r.2.2 → defaultValue (ty j) = vp_V fs j) → fs.length = r.2.2 → (∀ v ∈ fs, ∀ ad, sg_cv ad v = v) → h.1 < 1000 → P M (pc + 3) ls (.ref h.1 :: st) (sg_mk h r.2.2 (.inr (ci, fs))) out → P M pc ls st h out
def sg_q34 : Prop := ∀ (M : sg_M) (pc : Nat) (ls : sg_L) (st : List Value) (h : sg_H) (out : sg_O) (n : Int32) (N : Nat), decode M.2.1 pc = .ok (.newarray .int, 2) → ¬ n < 0 → n.toNatClampNeg = N → N ≤ 100000 → h.1 < 1000 → P M (pc + 2) ls (.ref h.1 :: st) (sg_mk h N (.inl (false, N, fun _ => 0))) out → P M pc ls (.int n :: st) h out
def sg_q35 : Prop := ∀ (M : sg_M) (pc : Nat) (ls : sg_L) (st : List Value) (h : sg_H) (out : sg_O) (n : Int32) (N : Nat), decode M.2.1 pc = .ok (.newarray .boolean, 2) → ¬ n < 0 → n.toNatClampNeg = N → N ≤ 100000 → h.1 < 1000 → P M (pc + 2) ls (.ref h.1 :: st) (sg_mk h N (.inl (true, N, fun _ => 0))) out → P M pc ls (.int n :: st) h out
def sg_q36 : Prop := ∀ (M : sg_M) (pc : Nat) (ls : sg_L) (st : List Value) (h : sg_H) (out : sg_O) (ix k : Nat) (nm : String), decode M.2.1 pc = .ok (.getstatic ix, 3) → (M.1.cls, ix, nm, k) ∈ sg_stl → P M (pc + 3) ls (.ref k :: st) h out → P M pc ls st h out
def sg_q37 : Prop := ∀ (M : sg_M) (pc : Nat) (ls : sg_L) (st : List Value) (h : sg_H) (out : sg_O) (ix k : Nat), decode M.2.1 pc = .ok (.invokespecial ix, 3) → Cond.methodLink M.1.cls ix objectInit ∈ sg_ws → (st.map fun v => v.category).sum ≤ 8 → (1 ≤ M.2.2.2.2.frames ∧ 20 ≤ M.2.2.2.2.locals) → P M (pc + 3) ls st h out → P M pc ls (.ref k :: st) h out
def sg_q38 : Prop := ∀ (M M' : sg_M) (pc : Nat) (ls : sg_L) (st : List Value) (h h1 : sg_H) (out : sg_O) (ix ci k : Nat) (fs : List Value) (rc : vw_C) (As : List Value) (r : Option Value), decode M.2.1 pc = .ok (.invokevirtual ix, 3) → sg_mok M' As.length → sg_rok M M' → sg_lok M.1.cls ix M' → sg_iok M' → vwCl[ci]? = some rc → rc.1 = M'.1.cls → k < 1000 → sg_at h k (.inr (ci, fs)) → (st.map fun v => v.category).sum ≤ 8 → (sg_en (.ref k :: As)).length ≤ M'.2.2.1 → P M' 0 (sg_ent M' (.ref k :: As)) [] h (r, h1) → h1.1 = h.1 + M'.2.2.2.2.cells → h1.2.1 = h.2.1 + M'.2.2.2.2.slots → P M (pc + 3) ls (r.toList ++ st) h1 out → P M pc ls (As.reverse ++ .ref k :: st) h out
def sg_q39 : Prop := ∀ (M M' : sg_M) (pc : Nat) (ls : sg_L) (st : List Value) (h h1 : sg_H) (out : sg_O) (ix : Nat) (As : List Value) (r : Option Value), decode M.2.1 pc = .ok (.invokestatic ix, 3) → sg_mok M' As.length → sg_rok M M' → sg_lok M.1.cls ix M' → Cond.static M'.1 ∈ sg_ws → (st.map fun v => v.category).sum ≤ 8 → (sg_en As).length ≤ M'.2.2.1 → P M' 0 (sg_ent M' As) [] h (r, h1) → h1.1 = h.1 + M'.2.2.2.2.cells → h1.2.1 = h.2.1 + M'.2.2.2.2.slots → P M (pc + 3) ls (r.toList ++ st) h1 out → P M pc ls (As.reverse ++ st) h out
def sg_q40 : Prop := ∀ (M M' : sg_M) (pc : Nat) (ls : sg_L) (st : List Value) (h h1 : sg_H) (out : sg_O) (ix k : Nat) (As : List Value) (r : Option Value), decode M.2.1 pc = .ok (.invokespecial ix, 3) → sg_mok M' As.length → sg_rok M M' → sg_lok M.1.cls ix M' → Cond.instanceMethod M'.1 ∈ sg_ws → M'.1.name = "<init>" → M'.2.2.2.1 = none → (st.map fun v => v.category).sum ≤ 8 → (sg_en (.ref k :: As)).length ≤ M'.2.2.1 → P M' 0 (sg_ent M' (.ref k :: As)) [] h (r, h1) → h1.1 = h.1 + M'.2.2.2.2.cells → h1.2.1 = h.2.1 + M'.2.2.2.2.slots → P M (pc + 3) ls (r.toList ++ st) h1 out → P M pc ls (As.reverse ++ .ref k :: st) h out
def sg_q41 : Prop := ∀ (M : sg_M) (pc : Nat) (ls : sg_L) (st : List Value) (h : sg_H) (out : sg_O) (ix k k2 n n2 : Nat) (f g : Nat → Int32) (c : Int32), decode M.2.1 pc = .ok (.invokestatic ix, 3) → Cond.methodLink M.1.cls ix arraycopyName ∈ sg_ws → k < 1000 → k2 < 1000 → sg_at h k (.inl (false, n, f)) → sg_at h k2 (.inl (false, n2, g)) → ¬ c < 0 → c.toNatClampNeg ≤ n → c.toNatClampNeg ≤ n2 → (1 ≤ M.2.2.2.2.frames ∧ 8 + (nativeFrameWords "java/lang/System" "arraycopy" 5 + 11) ≤ M.2.2.2.2.locals) → (st.map fun v => v.category).sum ≤ 8 → P M (pc + 3) ls st (sg_up h k2 (.inl (false, n2, va_cpy f g 0 0 c.toNatClampNeg))) out → P M pc ls (.int c :: .int 0 :: .ref k2 :: .int 0 :: .ref k :: st) h out
def sg_q42 : Prop := ∀ (M : sg_M) (pc : Nat) (ls : sg_L) (st : List Value) (h : sg_H) (out : sg_O) (ix k : Nat), decode M.2.1 pc = .ok (.invokevirtual ix, 3) → Cond.methodLink M.1.cls ix yJ0_length_8abf5 ∈ sg_ws → (k = 1010 ∨ k = 1011 ∨ k = 1012) → (st.map fun v => v.category).sum ≤ 8 → (4 ≤ M.2.2.2.2.frames ∧ 100 ≤ M.2.2.2.2.locals) → P M (pc + 3) ls (.int (nI (sg_tx k).length) :: st) h out → P M pc ls (.ref k :: st) h out
def sg_q43 : Prop := ∀ (M : sg_M) (pc : Nat) (ls : sg_L) (st : List Value) (h : sg_H) (out : sg_O) (ix k j : Nat), decode M.2.1 pc = .ok (.invokevirtual ix, 3) → Cond.methodLink M.1.cls ix yJ0_charAt_5068e ∈ sg_ws → (k = 1010 ∨ k = 1011 ∨ k = 1012) → j < (sg_tx k).length → (st.map fun v => v.category).sum ≤ 8 → (4 ≤ M.2.2.2.2.frames ∧ 100 ≤ M.2.2.2.2.locals) → P M (pc + 3) ls (.int ((sg_tx k).getD j 0) :: st) h out → P M pc ls (.int (nI j) :: .ref k :: st) h out
def sg_q44 : Prop := ∀ (M : sg_M) (pc : Nat) (ls : sg_L) (h : sg_H) (v : Int32) (ty : FieldType), decode M.2.1 pc = .ok (.ireturn, 1) → M.2.2.2.1 = some ty → narrow ty (.int v) = .int v → P M pc ls [.int v] h (some (.int v), h)
def sg_q45 : Prop := ∀ (M : sg_M) (pc : Nat) (ls : sg_L) (h : sg_H), decode M.2.1 pc = .ok (.return_, 1) → M.2.2.2.1 = none → P M pc ls [] h (none, h)
def sg_cA : Prop := sg_q01 P ∧ sg_q02 P ∧ sg_q03 P ∧ sg_q04 P ∧ sg_q05 P ∧ sg_q06 P ∧ sg_q07 P ∧ sg_q08 P ∧ sg_q09 P ∧ sg_q10 P ∧ sg_q11 P ∧ sg_q12 P ∧ sg_q13 P ∧ sg_q14 P ∧ sg_q15 P ∧ sg_q16 P
def sg_cB : Prop := sg_q17 P ∧ sg_q18 P ∧ sg_q19 P ∧ sg_q20 P ∧ sg_q21 P ∧ sg_q22 P ∧ sg_q23 P ∧ sg_q24 P ∧ sg_q25 P
def sg_cC : Prop := sg_q26 P ∧ sg_q27 P ∧ sg_q28 P ∧ sg_q29 P ∧ sg_q30 P ∧ sg_q31 P ∧ sg_q32 P ∧ sg_q33 P ∧ sg_q34 P ∧ sg_q35 P ∧ sg_q36 P
def sg_cD : Prop := sg_q37 P ∧ sg_q38 P ∧ sg_q39 P ∧ sg_q40 P ∧ sg_q41 P ∧ sg_q42 P ∧ sg_q43 P ∧ sg_q44 P ∧ sg_q45 P
def sg_C : Prop := sg_cA P ∧ sg_cB P ∧ sg_cC P ∧ sg_cD P
end SGR
/-- the machine comes from here to its method's return, with this answer and this heap -/
def sg_R (M : sg_M) (pc : Nat) (ls : sg_L) (st : List Value) (h : sg_H) (out : sg_O) : Prop := ∀ P : sg_P, sg_C P → P M pc ls st h out
/-- .. and the answer and the heap are such -/
def sg_A (M : sg_M) (pc : Nat) (ls : sg_L) (st : List Value) (h : sg_H) (Q : Option Value → sg_H → Prop) : Prop := ∃ (r : Option Value) (h' : sg_H), sg_R M pc ls st h (r, h') ∧ Q r h'
/-- a method's contract -/
def sg_K (M : sg_M) (vs : List Value) (h : sg_H) (Q : Option Value → sg_H → Prop) : Prop := sg_A M 0 (sg_ent M vs) [] h Q
end
section
/-! SOUNDNESS of the deep semantics for the kit's W: every rule of sg_C holds of sg_S. -/
def sg_ad (base : Nat) (ext : Nat → Nat) (k : Nat) : Nat := if k < 1000 then base + k else ext k
def sg_cE (cI cZ : ClassId) (ad : Nat → Nat) : sg_E → va_E
  | .inl (z, n, f) => .inl (if z then cZ else cI, n, .inl f)
  | .inr (c, fs) => .inr (c, fs.map (sg_cv ad))
/-- the heap holds the places -/
def sg_hm (base : Nat) (ext : Nat → Nat) (D : va_G) (cI cZ : ClassId) (ro : Nat → Option (Nat × (Nat → Int32))) (h : sg_H) (H : Heap) : Prop :=
  H.size = base + h.1 ∧ h.1 ≤ 1000 ∧ (∀ k, k < h.1 → va_at D vwCl (base + k, sg_cE cI cZ (sg_ad base ext) (h.2.2 k)) H) ∧ ∀ k, 1000 ≤ k → ∀ n f, h.2.2 k = .inl (false, n, f) → ro k = some (n, f)
/-- the String constants and what their methods read -/
def sg_jx (base : Nat) (ext : Nat → Nat) (U : State) : Prop :=
  (∃ adV : Nat → Nat, vk_S 3 [6, 3, 4] [sg_tx 1010, sg_tx 1011, sg_tx 1012] (fun i => ext (1010 + i)) adV (fun q => base ≤ q) U U.heap) ∧ va_Z "java/lang/String" "COMPACT_STRINGS" "Z" (.int 1) (fun q => base ≤ q) U U.heap ∧ va_Zq "jdk/internal/util/Preconditions" "SIOOBE_FORMATTER" "Ljava/util/function/BiFunction;" (fun q => base ≤ q) U U.heap ∧ ∀ t ∈ sg_scl, ∃ tx, vk_R t.1 t.2.1 tx (ext t.2.2) U
/-- what a method's start gives beside its words -/
def sg_ctx (base : Nat) (ext : Nat → Nat) (D : va_G) (cI cZ : ClassId) (ro : Nat → Option (Nat × (Nat → Int32))) (U : State) : Prop :=
  va_K D vwCl [(cI, .int), (cZ, .boolean)] U ∧ (∀ w ∈ sg_nws, va_Nw w U) ∧ (∀ k n f, ro k = some (n, f) → va_X (ext k) n f U U.heap ∧ ext k < base) ∧ base ≤ U.heap.size ∧ (∀ t ∈ sg_stl, va_Z RX7 t.2.2.1 "[I" (.ref (ext t.2.2.2)) (fun q => base ≤ q) U U.heap) ∧ sg_jx base ext U
def sg_fx (M : sg_M) (p : Program) (R : Room) (s : State) (m : MethodId) (args : Array Value) (meth : Method) (c : Code) : Prop :=
  p.tables.exec = Jvm.exec ∧ c.code = M.2.1 ∧ c.maxLocals = M.2.2.1 ∧ s.vm.findClass M.1.cls = some m.cls ∧ (∀ w ∈ sg_ws, w.before args s = true) ∧ meth.name = M.1.name ∧ M.2.2.2.2.frames ≤ R.frames ∧ M.2.2.2.2.locals ≤ R.locals
def sg_lm (ad : Nat → Nat) (lsC : Array Slot) (n : Nat) (ls : sg_L) : Prop := lsC.size = n ∧ lv_wf lsC ∧ ls.length = n ∧ ∀ (i : Nat) (v : Value), ls[i]? = some (some v) → lsC[i]? = some (.val (sg_cv ad v))
def sg_rt (M : sg_M) (pc : Nat) (r : Option Value) : Prop := (∃ (v : Int32) (ty : FieldType), r = some (.int v) ∧ decode M.2.1 pc = .ok (.ireturn, 1) ∧ M.2.2.2.1 = some ty ∧ narrow ty (.int v) = .int v) ∨ (r = none ∧ decode M.2.1 pc = .ok (.return_, 1) ∧ M.2.2.2.1 = none)
def sg_S (l : Launch) : sg_P := fun M pc ls st h out =>
  (h.1 ≤ out.2.1 ∧ h.2.1 ≤ out.2.2.1) ∧
  ∀ (base : Nat) (ext : Nat → Nat) (D : va_G) (cI cZ : ClassId) (ro : Nat → Option (Nat × (Nat → Int32))) (p : Program) (e : Env) (R : Room) (s : State) (m : MethodId) (args : Array Value) (below : List Frame) (meth : Method) (c : Code) (H : Heap) (locs : List Loc) (lsC : Array Slot) (n0 z0 : Nat) (Q : State → Prop),
    sg_fx M p R s m args meth c → sg_ctx base ext D cI cZ ro s → sg_hm base ext D cI cZ ro h H → va_S (fun q => base ≤ q) s.heap H locs → sg_lm (sg_ad base ext) lsC M.2.2.1 ls → (n0 ≤ h.1 ∧ z0 ≤ h.2.1 ∧ out.2.1 ≤ n0 + R.cells ∧ out.2.2.1 ≤ z0 + R.slots) →
    (∀ (pc' : Nat) (H' : Heap) (locs' : List Loc) (lsC' : Array Slot), sg_hm base ext D cI cZ ro out.2 H' → va_S (fun q => base ≤ q) s.heap H' locs' → sg_rt M pc' out.1 → W p l e R s m args below meth c H' locs' (out.2.1 - n0) (out.2.2.1 - z0) Q (F0 m pc' lsC' ((out.1.map (sg_cv (sg_ad base ext))).toList))) →
    W p l e R s m args below meth c H locs (h.1 - n0) (h.2.1 - z0) Q (F0 m pc lsC (st.map (sg_cv (sg_ad base ext))))
/-- a store into the locals -/
theorem sg_lm_set {ad : Nat → Nat} {lsC : Array Slot} {n : Nat} {ls : sg_L} (h : sg_lm ad lsC n ls) {i : Nat} {v : Value} (hi : i < ls.length) (hf : sg_fr ls i = true) (hc : (sg_cv ad v).category = 1) :
    ∃ lsC', storeLocals lsC i (sg_cv ad v) = some lsC' ∧ sg_lm ad lsC' n (ls.set i (some v)) := by
  obtain ⟨h1, h2, h3, h4⟩ := h
  have hb : lv_has lsC n ((List.range n).filterMap (fun j => match ls[j]? with | some (some w) => some (j, sg_cv ad w) | _ => none)) := by
    refine ⟨h1, h2, fun q hq => ?_⟩
    obtain ⟨j, -, hj⟩ := List.mem_filterMap.mp hq
    cases hx : ls[j]? with
    | none => rw [hx] at hj; cases hj
    | some o =>
      cases o with
      | none => rw [hx] at hj; cases hj
      | some w =>
        rw [hx] at hj
        cases hj
        exact h4 j w hx
  obtain ⟨lsC', e1, e2, e3, e4⟩ := lv_store1 (v := sg_cv ad v) hb (show i < n by omega) hc
  refine ⟨lsC', e1, e2, e3, by simp [h3], fun j w hj => ?_⟩
  by_cases hji : j = i
  · subst hji
    rw [List.getElem?_set_self hi] at hj
    cases hj
    exact e4 (j, sg_cv ad v) (List.mem_cons_self)
  · rw [List.getElem?_set_ne (fun q => hji q.symm)] at hj
    refine e4 (j, sg_cv ad w) (List.mem_cons_of_mem _ (List.mem_filter.mpr ⟨List.mem_filterMap.mpr ⟨j, List.mem_range.mpr ?_, by rw [hj]⟩, ?_⟩))
    · have := (List.getElem?_eq_some_iff.mp hj).1
      omega
    · simp only [Bool.and_eq_true, Bool.not_eq_true', beq_eq_false_iff_ne, ne_eq, Bool.and_eq_false_iff]
      refine ⟨hji, ?_⟩
      by_cases hq : j + 1 = i
      · right
        subst hq
        simp only [sg_fr, hj] at hf
        cases w <;> simp [sg_cv, Value.category] at hf ⊢
      · left
        exact hq
theorem sg_s01 (l : Launch) : sg_q01 (sg_S l) := by
  intro M pc ls st h out ins len i kd v hd hx hv hk ⟨hm, ih⟩
  refine ⟨hm, ?_⟩
  intro base ext D cI cZ ro p e R s m args below meth c H locs lsC n0 z0 Q hf hc hh hs hl hn kk
  have hg := hl.2.2.2 i v hv
  have W1 := ih base ext D cI cZ ro p e R s m args below meth c H locs lsC n0 z0 Q hf hc hh hs hl hn kk
  cases ins <;> simp only [sg_lx, Option.some.injEq, Prod.mk.injEq, reduceCtorEq] at hx
  all_goals (obtain ⟨rfl, rfl, rfl⟩ := hx)
  all_goals (cases v <;> simp only [sg_kd, reduceCtorEq, Bool.false_eq_true, beq_iff_eq, Nat.reduceEqDiff, Nat.reduceBEq] at hk)
  · exact lv_aload hf.1 hf.2.1 hd hg W1
  · exact lv_aload_n hf.1 hf.2.1 hd rfl hg W1
  · exact lv_iload hf.1 hf.2.1 hd hg W1
  · exact lv_iload_n hf.1 hf.2.1 hd rfl hg W1
  · exact lv_lload hf.1 hf.2.1 hd hg W1
  · exact lv_lload_n hf.1 hf.2.1 hd rfl hg W1
theorem sg_s02 (l : Launch) : sg_q02 (sg_S l) := by
  intro M pc ls st h out ins len i kd v hd hx hk hi hfr ⟨hm, ih⟩
  refine ⟨hm, ?_⟩
  intro base ext D cI cZ ro p e R s m args below meth c H locs lsC n0 z0 Q hf hc hh hs hl hn kk
  obtain ⟨lsC', e1, hl'⟩ := sg_lm_set (v := v) hl hi hfr (by cases v <;> first | rfl | (cases ins <;> simp only [sg_sx, Option.some.injEq, Prod.mk.injEq, reduceCtorEq] at hx <;> (obtain ⟨rfl, rfl, rfl⟩ := hx) <;> simp [sg_kd] at hk))
  have W1 := ih base ext D cI cZ ro p e R s m args below meth c H locs lsC' n0 z0 Q hf hc hh hs hl' hn kk
  intro T hT X
  obtain ⟨t, a, b⟩ := W1 T hT X
  refine ⟨t, ?_, b⟩
  cases ins <;> simp only [sg_sx, Option.some.injEq, Prod.mk.injEq, reduceCtorEq] at hx
  all_goals (obtain ⟨rfl, rfl, rfl⟩ := hx)
  all_goals (cases v <;> simp only [sg_kd, reduceCtorEq, Bool.false_eq_true, beq_iff_eq, Nat.reduceEqDiff, Nat.reduceBEq] at hk)
  all_goals (simp only [List.map_cons, sg_cv] at e1 ⊢; jvm_step X.here [X.here.top, hf.1, hf.2.1, hd, e1]; first | exact a | exact ⟨rfl, a⟩)
theorem sg_s03 (l : Launch) : sg_q03 (sg_S l) := by
  intro M pc ls st h out ins len v hd hx ⟨hm, ih⟩
  refine ⟨hm, ?_⟩
  intro base ext D cI cZ ro p e R s m args below meth c H locs lsC n0 z0 Q hf hc hh hs hl hn kk
  have W1 := ih base ext D cI cZ ro p e R s m args below meth c H locs lsC n0 z0 Q hf hc hh hs hl hn kk
  cases ins <;> simp only [sg_kx, Option.some.injEq, Prod.mk.injEq, reduceCtorEq] at hx
  all_goals (obtain ⟨hv, rfl⟩ := hx)
  · exact lv_bipush hf.1 hf.2.1 hd hv W1
  · exact lv_iconst hf.1 hf.2.1 hd hv W1
  · exact lv_sipush hf.1 hf.2.1 hd hv W1
theorem sg_s04 (l : Launch) : sg_q04 (sg_S l) := by
  intro M pc ls st h out n hd ⟨hm, ih⟩
  refine ⟨hm, ?_⟩
  intro base ext D cI cZ ro p e R s m args below meth c H locs lsC n0 z0 Q hf hc hh hs hl hn kk
  exact lv_lconst hf.1 hf.2.1 hd rfl (ih base ext D cI cZ ro p e R s m args below meth c H locs lsC n0 z0 Q hf hc hh hs hl hn kk)
theorem sg_s05 (l : Launch) : sg_q05 (sg_S l) := by
  intro M pc ls st h out ix v hd hw ⟨hm, ih⟩
  refine ⟨hm, ?_⟩
  intro base ext D cI cZ ro p e R s m args below meth c H locs lsC n0 z0 Q hf hc hh hs hl hn kk
  exact lv_ldc hf.1 hf.2.1 hf.2.2.2.1 (hf.2.2.2.2.1 _ hw) hd (ih base ext D cI cZ ro p e R s m args below meth c H locs lsC n0 z0 Q hf hc hh hs hl hn kk)
theorem sg_s06 (l : Launch) : sg_q06 (sg_S l) := by
  intro M pc ls st h out ix v hd hw ⟨hm, ih⟩
  refine ⟨hm, ?_⟩
  intro base ext D cI cZ ro p e R s m args below meth c H locs lsC n0 z0 Q hf hc hh hs hl hn kk
  exact lv_ldcw hf.1 hf.2.1 hf.2.2.2.1 (hf.2.2.2.2.1 _ hw) hd (ih base ext D cI cZ ro p e R s m args below meth c H locs lsC n0 z0 Q hf hc hh hs hl hn kk)
theorem sg_s07 (l : Launch) : sg_q07 (sg_S l) := by
  intro M pc ls st h out ix v hd hw ⟨hm, ih⟩
  refine ⟨hm, ?_⟩
  intro base ext D cI cZ ro p e R s m args below meth c H locs lsC n0 z0 Q hf hc hh hs hl hn kk
  exact lv_ldc2 hf.1 hf.2.1 hf.2.2.2.1 (hf.2.2.2.2.1 _ hw) hd (ih base ext D cI cZ ro p e R s m args below meth c H locs lsC n0 z0 Q hf hc hh hs hl hn kk)
theorem sg_s08 (l : Launch) : sg_q08 (sg_S l) := by
  intro M pc ls st h out ix k hd hw ⟨hm, ih⟩
  refine ⟨hm, ?_⟩
  intro base ext D cI cZ ro p e R s m args below meth c H locs lsC n0 z0 Q hf hc hh hs hl hn kk
  have W1 := ih base ext D cI cZ ro p e R s m args below meth c H locs lsC n0 z0 Q hf hc hh hs hl hn kk
  obtain ⟨tx, hR⟩ := hc.2.2.2.2.2.2.2.2 _ hw
  have hk : ¬ k < 1000 := by
    simp only [sg_scl, List.mem_cons, List.not_mem_nil, Prod.mk.injEq, or_false] at hw
    omega
  simp only [List.map_cons, sg_cv, sg_ad, if_neg hk] at W1
  exact va_ldcS hf.1 hf.2.1 hf.2.2.2.1 hR hd W1
theorem sg_s09 (l : Launch) : sg_q09 (sg_S l) := by
  intro M pc ls st h out ins f x y hd hx ⟨hm, ih⟩
  refine ⟨hm, ?_⟩
  intro base ext D cI cZ ro p e R s m args below meth c H locs lsC n0 z0 Q hf hc hh hs hl hn kk
  have W1 := ih base ext D cI cZ ro p e R s m args below meth c H locs lsC n0 z0 Q hf hc hh hs hl hn kk
  cases ins <;> simp only [sg_bx, Option.some.injEq, reduceCtorEq] at hx
  all_goals (subst hx)
  · exact lv_iadd hf.1 hf.2.1 hd W1
  · exact lv_iand hf.1 hf.2.1 hd W1
  · exact lv_imul hf.1 hf.2.1 hd W1
  · exact lv_ior hf.1 hf.2.1 hd W1
  · exact lv_ishl hf.1 hf.2.1 hd W1
  · exact lv_ishr hf.1 hf.2.1 hd W1
  · exact lv_isub hf.1 hf.2.1 hd W1
  · exact lv_iushr hf.1 hf.2.1 hd rfl W1
  · exact lv_ixor hf.1 hf.2.1 hd W1
theorem sg_s10 (l : Launch) : sg_q10 (sg_S l) := by
  intro M pc ls st h out x y hd hy ⟨hm, ih⟩
  refine ⟨hm, ?_⟩
  intro base ext D cI cZ ro p e R s m args below meth c H locs lsC n0 z0 Q hf hc hh hs hl hn kk
  exact lv_idiv hf.1 hf.2.1 hd hy (ih base ext D cI cZ ro p e R s m args below meth c H locs lsC n0 z0 Q hf hc hh hs hl hn kk)
theorem sg_s11 (l : Launch) : sg_q11 (sg_S l) := by
  intro M pc ls st h out x y hd hy ⟨hm, ih⟩
  refine ⟨hm, ?_⟩
  intro base ext D cI cZ ro p e R s m args below meth c H locs lsC n0 z0 Q hf hc hh hs hl hn kk
  exact lv_irem hf.1 hf.2.1 hd hy (ih base ext D cI cZ ro p e R s m args below meth c H locs lsC n0 z0 Q hf hc hh hs hl hn kk)
theorem sg_s12 (l : Launch) : sg_q12 (sg_S l) := by
  intro M pc ls st h out x hd ⟨hm, ih⟩
  refine ⟨hm, ?_⟩
  intro base ext D cI cZ ro p e R s m args below meth c H locs lsC n0 z0 Q hf hc hh hs hl hn kk
  exact lv_i2l hf.1 hf.2.1 hd rfl (ih base ext D cI cZ ro p e R s m args below meth c H locs lsC n0 z0 Q hf hc hh hs hl hn kk)
theorem sg_s13 (l : Launch) : sg_q13 (sg_S l) := by
  intro M pc ls st h out x y hd ⟨hm, ih⟩
  refine ⟨hm, ?_⟩
  intro base ext D cI cZ ro p e R s m args below meth c H locs lsC n0 z0 Q hf hc hh hs hl hn kk
  exact W.lcmp hf.1 hf.2.1 hd (ih base ext D cI cZ ro p e R s m args below meth c H locs lsC n0 z0 Q hf hc hh hs hl hn kk)
theorem sg_s14 (l : Launch) : sg_q14 (sg_S l) := by
  intro M pc ls st h out i n x hd hx hfr ⟨hm, ih⟩
  refine ⟨hm, ?_⟩
  intro base ext D cI cZ ro p e R s m args below meth c H locs lsC n0 z0 Q hf hc hh hs hl hn kk
  have hg := hl.2.2.2 i _ hx
  obtain ⟨lsC', e1, hl'⟩ := sg_lm_set (v := .int (x + Int32.ofInt n)) hl (List.getElem?_eq_some_iff.mp hx).1 hfr rfl
  have W1 := ih base ext D cI cZ ro p e R s m args below meth c H locs lsC' n0 z0 Q hf hc hh hs hl' hn kk
  intro T hT X
  obtain ⟨t, a, b⟩ := W1 T hT X
  refine ⟨t, ?_, b⟩
  simp only [sg_cv] at e1 hg
  jvm_step X.here [X.here.top, hf.1, hf.2.1, hd, hg, e1]
  exact a
theorem sg_s15 (l : Launch) : sg_q15 (sg_S l) := by
  intro M pc ls st h out v hd hv ⟨hm, ih⟩
  refine ⟨hm, ?_⟩
  intro base ext D cI cZ ro p e R s m args below meth c H locs lsC n0 z0 Q hf hc hh hs hl hn kk
  exact lv_dup hf.1 hf.2.1 hd (by cases v <;> exact hv) (ih base ext D cI cZ ro p e R s m args below meth c H locs lsC n0 z0 Q hf hc hh hs hl hn kk)
theorem sg_s16 (l : Launch) : sg_q16 (sg_S l) := by
  intro M pc ls st h out v w hd hv hw ⟨hm, ih⟩
  refine ⟨hm, ?_⟩
  intro base ext D cI cZ ro p e R s m args below meth c H locs lsC n0 z0 Q hf hc hh hs hl hn kk
  exact lv_dup2_11 hf.1 hf.2.1 hd (by cases v <;> exact hv) (by cases w <;> exact hw) (ih base ext D cI cZ ro p e R s m args below meth c H locs lsC n0 z0 Q hf hc hh hs hl hn kk)
theorem sg_s17 (l : Launch) : sg_q17 (sg_S l) := by
  intro M pc ls st h out off tgt hd ht ⟨hm, ih⟩
  refine ⟨hm, ?_⟩
  intro base ext D cI cZ ro p e R s m args below meth c H locs lsC n0 z0 Q hf hc hh hs hl hn kk
  exact lv_goto hf.1 hf.2.1 hd ht (ih base ext D cI cZ ro p e R s m args below meth c H locs lsC n0 z0 Q hf hc hh hs hl hn kk)
theorem sg_s18 (l : Launch) : sg_q18 (sg_S l) := by
  intro M pc ls st h out cd off tgt x y hd ht hcd ⟨hm, ih⟩
  refine ⟨hm, ?_⟩
  intro base ext D cI cZ ro p e R s m args below meth c H locs lsC n0 z0 Q hf hc hh hs hl hn kk
  have W1 := ih base ext D cI cZ ro p e R s m args below meth c H locs lsC n0 z0 Q hf hc hh hs hl hn kk
  cases cd <;> simp only [sg_cd, decide_eq_true_eq] at hcd
  · exact lv_icmp_eq hf.1 hf.2.1 hd ht (fun _ => W1) (fun q => absurd hcd q)
  · exact lv_icmp_ne hf.1 hf.2.1 hd ht (fun _ => W1) (fun q => absurd q hcd)
  · exact lv_icmp_lt hf.1 hf.2.1 hd ht (fun _ => W1) (fun q => absurd hcd q)
  · exact lv_icmp_ge hf.1 hf.2.1 hd ht (fun _ => W1) (fun q => absurd hcd q)
  · exact lv_icmp_gt hf.1 hf.2.1 hd ht (fun _ => W1) (fun q => absurd hcd q)
  · exact lv_icmp_le hf.1 hf.2.1 hd ht (fun _ => W1) (fun q => absurd hcd q)
theorem sg_s19 (l : Launch) : sg_q19 (sg_S l) := by
  intro M pc ls st h out cd off tgt x y hd ht hcd ⟨hm, ih⟩
  refine ⟨hm, ?_⟩
  intro base ext D cI cZ ro p e R s m args below meth c H locs lsC n0 z0 Q hf hc hh hs hl hn kk
  have W1 := ih base ext D cI cZ ro p e R s m args below meth c H locs lsC n0 z0 Q hf hc hh hs hl hn kk
  cases cd <;> simp only [sg_cd, decide_eq_false_iff_not] at hcd
  · exact lv_icmp_eq hf.1 hf.2.1 hd ht (fun q => absurd q hcd) (fun _ => W1)
  · exact lv_icmp_ne hf.1 hf.2.1 hd ht (fun q => absurd q hcd) (fun _ => W1)
  · exact lv_icmp_lt hf.1 hf.2.1 hd ht (fun q => absurd q hcd) (fun _ => W1)
  · exact lv_icmp_ge hf.1 hf.2.1 hd ht (fun q => absurd q hcd) (fun _ => W1)
  · exact lv_icmp_gt hf.1 hf.2.1 hd ht (fun q => absurd q hcd) (fun _ => W1)
  · exact lv_icmp_le hf.1 hf.2.1 hd ht (fun q => absurd q hcd) (fun _ => W1)
theorem sg_s20 (l : Launch) : sg_q20 (sg_S l) := by
  intro M pc ls st h out cd off tgt x hd ht hcd ⟨hm, ih⟩
  refine ⟨hm, ?_⟩
  intro base ext D cI cZ ro p e R s m args below meth c H locs lsC n0 z0 Q hf hc hh hs hl hn kk
  have W1 := ih base ext D cI cZ ro p e R s m args below meth c H locs lsC n0 z0 Q hf hc hh hs hl hn kk
  cases cd <;> simp only [sg_cd, decide_eq_true_eq] at hcd
  · exact lv_if_eq hf.1 hf.2.1 hd ht (fun _ => W1) (fun q => absurd hcd q)
  · exact lv_if_ne hf.1 hf.2.1 hd ht (fun _ => W1) (fun q => absurd q hcd)
  · exact lv_if_lt hf.1 hf.2.1 hd ht (fun _ => W1) (fun q => absurd hcd q)
  · exact lv_if_ge hf.1 hf.2.1 hd ht (fun _ => W1) (fun q => absurd hcd q)
  · exact lv_if_gt hf.1 hf.2.1 hd ht (fun _ => W1) (fun q => absurd hcd q)
  · exact lv_if_le hf.1 hf.2.1 hd ht (fun _ => W1) (fun q => absurd hcd q)
theorem sg_s21 (l : Launch) : sg_q21 (sg_S l) := by
  intro M pc ls st h out cd off tgt x hd ht hcd ⟨hm, ih⟩
  refine ⟨hm, ?_⟩
  intro base ext D cI cZ ro p e R s m args below meth c H locs lsC n0 z0 Q hf hc hh hs hl hn kk
  have W1 := ih base ext D cI cZ ro p e R s m args below meth c H locs lsC n0 z0 Q hf hc hh hs hl hn kk
  cases cd <;> simp only [sg_cd, decide_eq_false_iff_not] at hcd
  · exact lv_if_eq hf.1 hf.2.1 hd ht (fun q => absurd q hcd) (fun _ => W1)
  · exact lv_if_ne hf.1 hf.2.1 hd ht (fun q => absurd q hcd) (fun _ => W1)
  · exact lv_if_lt hf.1 hf.2.1 hd ht (fun q => absurd q hcd) (fun _ => W1)
  · exact lv_if_ge hf.1 hf.2.1 hd ht (fun q => absurd q hcd) (fun _ => W1)
  · exact lv_if_gt hf.1 hf.2.1 hd ht (fun q => absurd q hcd) (fun _ => W1)
  · exact lv_if_le hf.1 hf.2.1 hd ht (fun q => absurd q hcd) (fun _ => W1)
theorem sg_s22 (l : Launch) : sg_q22 (sg_S l) := by
  intro M pc ls st h out off k hd ⟨hm, ih⟩
  refine ⟨hm, ?_⟩
  intro base ext D cI cZ ro p e R s m args below meth c H locs lsC n0 z0 Q hf hc hh hs hl hn kk
  exact lv_ifnull hf.1 hf.2.1 hd (ih base ext D cI cZ ro p e R s m args below meth c H locs lsC n0 z0 Q hf hc hh hs hl hn kk)
theorem sg_s23 (l : Launch) : sg_q23 (sg_S l) := by
  intro M pc ls st h out dflt lo hi offs len x off tgt hd h1 h2 ho ht ⟨hm, ih⟩
  refine ⟨hm, ?_⟩
  intro base ext D cI cZ ro p e R s m args below meth c H locs lsC n0 z0 Q hf hc hh hs hl hn kk
  exact lv_tableIn hf.1 hf.2.1 hd h1 h2 ho ht (ih base ext D cI cZ ro p e R s m args below meth c H locs lsC n0 z0 Q hf hc hh hs hl hn kk)
theorem sg_s24 (l : Launch) : sg_q24 (sg_S l) := by
  intro M pc ls st h out dflt lo hi offs len x tgt hd h1 ht ⟨hm, ih⟩
  refine ⟨hm, ?_⟩
  intro base ext D cI cZ ro p e R s m args below meth c H locs lsC n0 z0 Q hf hc hh hs hl hn kk
  exact lv_tableOut hf.1 hf.2.1 hd h1 ht (ih base ext D cI cZ ro p e R s m args below meth c H locs lsC n0 z0 Q hf hc hh hs hl hn kk)
theorem sg_s25 (l : Launch) : sg_q25 (sg_S l) := by
  intro M pc ls st h out dflt ps len x off tgt hd hp ho ht ⟨hm, ih⟩
  refine ⟨hm, ?_⟩
  intro base ext D cI cZ ro p e R s m args below meth c H locs lsC n0 z0 Q hf hc hh hs hl hn kk
  exact lv_lookup hf.1 hf.2.1 hd hp ho ht (ih base ext D cI cZ ro p e R s m args below meth c H locs lsC n0 z0 Q hf hc hh hs hl hn kk)
theorem sg_s44 (l : Launch) : sg_q44 (sg_S l) := by
  intro M pc ls h v ty hd hr hv
  refine ⟨⟨Nat.le_refl _, Nat.le_refl _⟩, ?_⟩
  intro base ext D cI cZ ro p e R s m args below meth c H locs lsC n0 z0 Q hf hc hh hs hl hn kk
  exact kk pc H locs lsC hh hs (Or.inl ⟨v, ty, rfl, hd, hr, hv⟩)
theorem sg_s45 (l : Launch) : sg_q45 (sg_S l) := by
  intro M pc ls h hd hr
  refine ⟨⟨Nat.le_refl _, Nat.le_refl _⟩, ?_⟩
  intro base ext D cI cZ ro p e R s m args below meth c H locs lsC n0 z0 Q hf hc hh hs hl hn kk
  exact kk pc H locs lsC hh hs (Or.inr ⟨rfl, hd, hr⟩)
end
section
/-! SOUNDNESS of the heap's rules -/
theorem sg_uin0 : ∀ w ∈ u_ws RX0 TX0 5, w ∈ sg_ws := by decide +kernel
theorem sg_uin1 : ∀ w ∈ u_ws RX1 TX1 2, w ∈ sg_ws := by decide +kernel
theorem sg_uin2 : ∀ w ∈ u_ws RX2 TX2 7, w ∈ sg_ws := by decide +kernel
theorem sg_uin3 : ∀ w ∈ u_ws RX3 TX3 6, w ∈ sg_ws := by decide +kernel
theorem sg_uin4 : ∀ w ∈ u_ws RX4 TX4 9, w ∈ sg_ws := by decide +kernel
theorem sg_uin5 : ∀ w ∈ u_ws RX5 TX5 2, w ∈ sg_ws := by decide +kernel
theorem sg_uin6 : ∀ w ∈ u_ws RX6 TX6 6, w ∈ sg_ws := by decide +kernel
theorem sg_uin7 : ∀ w ∈ u_ws RX7 TX7 14, w ∈ sg_ws := by decide +kernel
theorem sg_uin8 : ∀ w ∈ u_ws RX8 TX8 16, w ∈ sg_ws := by decide +kernel
theorem sg_wI : Cond.arrayClass .int ∈ sg_ws := by decide +kernel
theorem sg_wZ : Cond.arrayClass .boolean ∈ sg_ws := by decide +kernel
theorem sg_n43 : Cond.fieldLinkNest RX4 43 RX7 "LEAST_RULES" "[I" RX7 ∈ sg_nws := by decide +kernel
theorem sg_n46 : Cond.fieldLinkNest RX4 46 RX7 "MOST_RULES" "[I" RX7 ∈ sg_nws := by decide +kernel
theorem sg_n57 : Cond.fieldLink RX7 57 RX7 "RULES_AT_FIRST" "[I" ∈ sg_ws := by decide +kernel
/-- what the names say of each class -/
theorem sg_cls {ci : Nat} {r : vw_C} (h : vwCl[ci]? = some r) : (∀ w ∈ u_ws r.1 r.2.1 r.2.2, w ∈ sg_ws) ∧ (∃ ty0 : Nat → FieldType, ∀ k, k < r.2.2 → parseFieldDescriptor (r.2.1 k).2.2.1 = some (ty0 k)) ∧ ∀ a, a < r.2.2 → ∀ b, b < r.2.2 → a ≠ b → (r.2.1 a).2.1 ≠ (r.2.1 b).2.1 := by
  match ci, h with
  | 0, h => cases h; exact ⟨sg_uin0, ⟨_, tyX0_ok⟩, nmX0⟩
  | 1, h => cases h; exact ⟨sg_uin1, ⟨_, tyX1_ok⟩, nmX1⟩
  | 2, h => cases h; exact ⟨sg_uin2, ⟨_, tyX2_ok⟩, nmX2⟩
  | 3, h => cases h; exact ⟨sg_uin3, ⟨_, tyX3_ok⟩, nmX3⟩
  | 4, h => cases h; exact ⟨sg_uin4, ⟨_, tyX4_ok⟩, nmX4⟩
  | 5, h => cases h; exact ⟨sg_uin5, ⟨_, tyX5_ok⟩, nmX5⟩
  | 6, h => cases h; exact ⟨sg_uin6, ⟨_, tyX6_ok⟩, nmX6⟩
  | 7, h => cases h; exact ⟨sg_uin7, ⟨_, tyX7_ok⟩, nmX7⟩
  | 8, h => cases h; exact ⟨sg_uin8, ⟨_, tyX8_ok⟩, nmX8⟩
  | n + 9, h => simp [vwCl] at h
theorem sg_hm_up {base : Nat} {ext : Nat → Nat} {D : va_G} {cI cZ : ClassId} {ro : Nat → Option (Nat × (Nat → Int32))} {h : sg_H} {H H1 : Heap} {k : Nat} {e : sg_E} (hh : sg_hm base ext D cI cZ ro h H) (hk : k < h.1) (he : va_at D vwCl (base + k, sg_cE cI cZ (sg_ad base ext) e) H1) (hz : H1.size = H.size) (oq : ∀ q : Nat, q ≠ base + k → H1[q]? = H[q]?) : sg_hm base ext D cI cZ ro (sg_up h k e) H1 := by
  obtain ⟨h1, h2, h3, h4⟩ := hh
  refine ⟨by rw [hz]; exact h1, h2, fun j hj => ?_, fun j hj n f hjf => ?_⟩
  · by_cases hjk : j = k
    · subst hjk
      simpa [sg_up] using he
    · have h5 := (h3 j hj).kept (oq (base + j) (by omega))
      simpa [sg_up, hjk] using h5
  · have hne : j ≠ k := by omega
    simp only [sg_up, if_neg hne] at hjf
    exact h4 j hj n f hjf
theorem sg_hm_at {base : Nat} {ext : Nat → Nat} {D : va_G} {cI cZ : ClassId} {ro : Nat → Option (Nat × (Nat → Int32))} {h : sg_H} {H : Heap} {k : Nat} {e : sg_E} (hh : sg_hm base ext D cI cZ ro h H) (hk : k < 1000) (ha : sg_at h k e) : k < h.1 ∧ va_at D vwCl (base + k, sg_cE cI cZ (sg_ad base ext) e) H := by
  have hkl : k < h.1 := ha.1.elim id (fun q => by omega)
  have := hh.2.2.1 k hkl
  rw [ha.2] at this
  exact ⟨hkl, this⟩
theorem sg_adk {base : Nat} {ext : Nat → Nat} {k : Nat} (hk : k < 1000) : sg_ad base ext k = base + k := if_pos hk
theorem sg_hm_X {base : Nat} {ext : Nat → Nat} {D : va_G} {cI cZ : ClassId} {ro : Nat → Option (Nat × (Nat → Int32))} {h : sg_H} {s : State} {H : Heap} {locs : List Loc} {k n : Nat} {f : Nat → Int32} (hh : sg_hm base ext D cI cZ ro h H) (hc : sg_ctx base ext D cI cZ ro s) (hs : va_S (fun q => base ≤ q) s.heap H locs) (ha : sg_at h k (.inl (false, n, f))) : va_X (sg_ad base ext k) n f s H := by
  by_cases hk : k < 1000
  · obtain ⟨hkl, hat⟩ := sg_hm_at hh hk ha
    rw [sg_adk hk]
    refine ⟨arrV cI n (fun j => .int (f j)), hat, (hc.1.2 0 (cI, .int) rfl).1 n (fun j => .int (f j)), (fun q => by cases q), arrV_size _ _ _, fun j hj => ?_⟩
    exact arrV_read _ _ hj
  · have hro := hh.2.2.2 k (by omega) n f ha.2
    obtain ⟨hX, hlt⟩ := hc.2.2.1 k n f hro
    have : sg_ad base ext k = ext k := if_neg hk
    rw [this]
    exact hX.kept (hs.2.1 _ (Nat.lt_of_lt_of_le hlt hc.2.2.2.1) (by omega))
theorem sg_one {D : va_G} {a : Nat} {x : va_E} {H : Heap} (h : va_at D vwCl (a, x) H) : va_P D vwCl [(a, x)] H := by
  intro k q hq
  match k, hq with
  | 0, hq => cases hq; exact h
  | k + 1, hq => simp at hq
theorem sg_s26 (l : Launch) : sg_q26 (sg_S l) := by
  intro M pc ls st h out ix ci j k fs v hd hfo hk ha hv ⟨hm, ih⟩
  refine ⟨hm, ?_⟩
  intro base ext D cI cZ ro p e R s m args below meth c H locs lsC n0 z0 Q hf hc hh hs hl hn kk
  have W1 := ih base ext D cI cZ ro p e R s m args below meth c H locs lsC n0 z0 Q hf hc hh hs hl hn kk
  obtain ⟨hkl, hat⟩ := sg_hm_at hh hk ha
  obtain ⟨r, hr, hj, hw⟩ := hfo
  obtain ⟨g1, -, -⟩ := sg_cls hr
  have hv' : (fs.map (sg_cv (sg_ad base ext)))[j]? = some (sg_cv (sg_ad base ext) v) := by simp [hv]
  simp only [List.map_cons, sg_cv, sg_adk hk]
  rcases hw with hw | ⟨host, hw⟩
  · exact va_get (ref := (r.2.1 j).1) (C := r.1) (T := r.2.1) (N := r.2.2) hf.1 hf.2.1 hf.2.2.2.2.1 g1 hf.2.2.2.1 hc.1 (sg_one hat) 0 rfl hr j hj (hf.2.2.2.2.1 _ hw) (fun _ z => z) hv' hd W1
  · exact va_getN (ref := (r.2.1 j).1) (C := r.1) (T := r.2.1) (N := r.2.2) hf.1 hf.2.1 hf.2.2.2.2.1 g1 hf.2.2.2.1 hc.1 (sg_one hat) 0 rfl hr j hj (va_Nw.use rfl (hc.2.1 _ hw)) (fun _ z => z) hv' hd W1
theorem sg_s27 (l : Launch) : sg_q27 (sg_S l) := by
  intro M pc ls st h out ix ci j k fs v hd hfo hwo hk ha hjl ⟨hm, ih⟩
  refine ⟨hm, ?_⟩
  intro base ext D cI cZ ro p e R s m args below meth c H locs lsC n0 z0 Q hf hc hh hs hl hn kk
  obtain ⟨hkl, hat⟩ := sg_hm_at hh hk ha
  obtain ⟨r, hr, hj, hw⟩ := hfo
  obtain ⟨r', ty, hr', hfin, hty, hfit⟩ := hwo
  cases hr.symm.trans hr'
  obtain ⟨hn', hfit'⟩ := hfit (sg_ad base ext)
  obtain ⟨hin, ⟨ty0, hty0⟩, hnm⟩ := sg_cls hr
  have hts := hf.2.2.2.2.1
  have hown := hf.2.2.2.1
  have hap := va_apart (own := M.1.cls) (C := r.1) (T := r.2.1) (N := r.2.2) hts hin ty0 hty0 hnm hc.1 hr
  obtain ⟨r2, h1, cell, q1, q2, q3, q4⟩ := hat
  cases hr.symm.trans h1
  obtain ⟨hSl, hfc, kC, hkC, hkind⟩ := hc.1.1 ci _ hr
  obtain ⟨cf, kf, fi, f, hi, hsl⟩ := hSl j hj
  have hlay := hts _ (hin _ (u_in_lay hj))
  have hst := (u_facts hfc hkC (u_lays hts hin hj) hi).1
  simp only [List.map_cons, sg_cv, sg_adk hk]
  have key : ∀ H' : Heap, H'[base + k]? = some (cell.setSlot f.slot (sg_cv (sg_ad base ext) v)) → H'.size = H.size → (∀ q, q ≠ base + k → H'[q]? = H[q]?) → W p l e R s m args below meth c H' (locs ++ [⟨base + k, f.slot⟩]) (h.1 - n0) (h.2.1 - z0) Q (F0 m (pc + 3) lsC (st.map (sg_cv (sg_ad base ext)))) := by
    intro H' e1 e2 e3
    rw [hsl] at e1 ⊢
    refine ih base ext D cI cZ ro p e R s m args below meth c H' _ lsC n0 z0 Q hf hc (sg_hm_up hh hkl ?_ e2 e3) (hs.put e2 e3 (show base ≤ base + k by omega)) hl hn kk
    show ∃ r : vw_C, vwCl[ci]? = some r ∧ t_OB (base + k) (D.1 ci) r.2.2 (D.2 ci) H' (vp_V ((fs.set j v).map (sg_cv (sg_ad base ext))))
    refine ⟨_, hr, t_OB.to (V := updV (vp_V (fs.map (sg_cv (sg_ad base ext)))) j (sg_cv (sg_ad base ext) v)) ⟨_, e1, q2, q3, t_set q4 hap hj _⟩ (fun i _ => ?_)⟩
    rw [List.map_set]
    exact vp_updV_set (by simpa using hjl) _ i
  rcases hfin with hfin | ⟨hfin, hinit, hdecl⟩
  · unfold u_lay at hlay
    rw [if_neg (by rw [hfin]; decide)] at hlay
    have h6 := u_store hfc hkC hkind hlay hi hty hn' hfit'
    rcases hw with hw | ⟨host, hw⟩
    · exact W.putK hf.1 hf.2.1 (f := f) ⟨hown, hts _ hw, ⟨_, _, _, hi⟩, hst⟩ (by rw [q2]; exact h6) q1 q3 (by rw [hsl]; exact k2_hasslot (q4 j hj)) rfl rfl hd key
    · exact va_WputK hf.1 hf.2.1 (f := f) hown (va_Nw.use rfl (hc.2.1 _ hw)) hi hst (by rw [q2]; exact h6) q1 q3 (by rw [hsl]; exact k2_hasslot (q4 j hj)) rfl rfl hd key
  · unfold u_lay at hlay
    rw [if_pos hfin] at hlay
    have hcf : m.cls = cf := by
      obtain ⟨_, _, c', _, _, _, -, -, hf', -, -, -, hown2, -⟩ := Cond.laysFinal_spec hlay
      have e1 : c' = cf := by have := hi.symm.trans hf'; simp at this; exact this.1.symm
      rw [hdecl] at hown2
      rw [← e1]; exact Option.some.inj (hown.symm.trans hown2)
    have h6 := u_fits hfc hkC hkind (Or.inr hlay) hi hty hn' hfit'
    rcases hw with hw | ⟨host, hw⟩
    · exact W.putFinK hf.1 hf.2.1 hown (hts _ hw) hi hst hcf (by rw [hf.2.2.2.2.2.1]; exact hinit) (by rw [q2]; exact h6) q1 q3 (by rw [hsl]; exact k2_hasslot (q4 j hj)) rfl rfl hd key
    · refine va_Wputf hf.1 hf.2.1 hown (va_Nw.use rfl (hc.2.1 _ hw)) hi hst (Or.inr ⟨hcf, by rw [hf.2.2.2.2.2.1]; exact hinit⟩) q1 (by rw [q3]; exact fun z => by cases z) (by rw [hsl]; exact k2_hasslot (q4 j hj)) h6.1 (by rw [q2, q3]; exact h6.2) rfl rfl hd ?_
      have hal : base + k < H.size := (Array.getElem?_eq_some_iff.mp q1).1
      exact key _ (by simp [Array.getElem?_setIfInBounds, hal]) (by simp) (fun q hq => by simp [Array.getElem?_setIfInBounds, Ne.symm hq])
theorem sg_s28 (l : Launch) : sg_q28 (sg_S l) := by
  intro M pc ls st h out k n f i hd ha hin ⟨hm, ih⟩
  refine ⟨hm, ?_⟩
  intro base ext D cI cZ ro p e R s m args below meth c H locs lsC n0 z0 Q hf hc hh hs hl hn kk
  obtain ⟨scr, g1, g2, g3, g4, g5⟩ := sg_hm_X hh hc hs ha
  have hlt : i.toNatClampNeg < n := Nat.not_le.mp fun q => hin (Or.inr q)
  exact W.iald (v := .int (f i.toNatClampNeg)) hf.1 hf.2.1 g1 g2 g3 (by rw [g4]; exact hin) (g5 _ hlt) rfl rfl hd (ih base ext D cI cZ ro p e R s m args below meth c H locs lsC n0 z0 Q hf hc hh hs hl hn kk)
theorem sg_s29 (l : Launch) : sg_q29 (sg_S l) := by
  intro M pc ls st h out k n f i hd hk ha hin ⟨hm, ih⟩
  refine ⟨hm, ?_⟩
  intro base ext D cI cZ ro p e R s m args below meth c H locs lsC n0 z0 Q hf hc hh hs hl hn kk
  obtain ⟨hkl, hat⟩ := sg_hm_at hh hk ha
  simp only [List.map_cons, sg_cv, sg_adk hk]
  exact va_zald hf.1 hf.2.1 hc.1 (sg_one hat) 0 1 rfl rfl hin hd (ih base ext D cI cZ ro p e R s m args below meth c H locs lsC n0 z0 Q hf hc hh hs hl hn kk)
theorem sg_s30 (l : Launch) : sg_q30 (sg_S l) := by
  intro M pc ls st h out k n f i x hd hk ha hin ⟨hm, ih⟩
  refine ⟨hm, ?_⟩
  intro base ext D cI cZ ro p e R s m args below meth c H locs lsC n0 z0 Q hf hc hh hs hl hn kk
  obtain ⟨hkl, hat⟩ := sg_hm_at hh hk ha
  simp only [List.map_cons, sg_cv, sg_adk hk]
  refine W.iast hf.1 hf.2.1 (show H[base + k]? = some (vp_cell cI (n, .inl f)) from hat) ((hc.1.2 0 (cI, .int) rfl).1 n (fun j => .int (f j))) (fun q => by cases q) (by show ¬ (i < 0 ∨ (arrV _ _ _).slots.size ≤ _); rw [arrV_size]; exact hin) rfl rfl hd fun H1 e0 z oq => ?_
  refine ih base ext D cI cZ ro p e R s m args below meth c H1 _ lsC n0 z0 Q hf hc (sg_hm_up hh hkl ?_ z oq) (hs.put z oq (show base ≤ base + k by omega)) hl hn kk
  show H1[base + k]? = some (vp_cell cI (n, .inl (upd f i.toNatClampNeg x)))
  rw [e0]
  rw [vp_cell_i, vp_cell_i, arrV_store]
  congr 2
  funext q
  simp only [updV, upd]
  split <;> rfl
theorem sg_s31 (l : Launch) : sg_q31 (sg_S l) := by
  intro M pc ls st h out k n f i x hd hk ha hin ⟨hm, ih⟩
  refine ⟨hm, ?_⟩
  intro base ext D cI cZ ro p e R s m args below meth c H locs lsC n0 z0 Q hf hc hh hs hl hn kk
  obtain ⟨hkl, hat⟩ := sg_hm_at hh hk ha
  simp only [List.map_cons, sg_cv, sg_adk hk]
  refine W.zast hf.1 hf.2.1 (show H[base + k]? = some (vp_cell cZ (n, .inl f)) from hat) ((hc.1.2 1 (cZ, .boolean) rfl).1 n (fun j => .int (f j))) (fun q => by cases q) (by show ¬ (i < 0 ∨ (arrV _ _ _).slots.size ≤ _); rw [arrV_size]; exact hin) rfl rfl hd fun H1 e0 z oq => ?_
  refine ih base ext D cI cZ ro p e R s m args below meth c H1 _ lsC n0 z0 Q hf hc (sg_hm_up hh hkl ?_ z oq) (hs.put z oq (show base ≤ base + k by omega)) hl hn kk
  show H1[base + k]? = some (vp_cell cZ (n, .inl (upd f i.toNatClampNeg (vp_nar .boolean x))))
  rw [e0]
  rw [vp_cell_i, vp_cell_i, arrV_store]
  congr 2
  funext q
  simp only [updV, upd]
  split <;> rfl
theorem sg_s32 (l : Launch) : sg_q32 (sg_S l) := by
  intro M pc ls st h out k n f hd ha ⟨hm, ih⟩
  refine ⟨hm, ?_⟩
  intro base ext D cI cZ ro p e R s m args below meth c H locs lsC n0 z0 Q hf hc hh hs hl hn kk
  obtain ⟨scr, g1, g2, g3, g4, g5⟩ := sg_hm_X hh hc hs ha
  exact W.alen (n := Int32.ofNat n) hf.1 hf.2.1 g1 g2 (by rw [g4] <;> rfl) rfl rfl hd (ih base ext D cI cZ ro p e R s m args below meth c H locs lsC n0 z0 Q hf hc hh hs hl hn kk)
theorem sg_hm_mk {base : Nat} {ext : Nat → Nat} {D : va_G} {cI cZ : ClassId} {ro : Nat → Option (Nat × (Nat → Int32))} {h : sg_H} {H H1 : Heap} {z : Nat} {e : sg_E} (hh : sg_hm base ext D cI cZ ro h H) (hk : h.1 < 1000) (he : va_at D vwCl (base + h.1, sg_cE cI cZ (sg_ad base ext) e) H1) (hz : H1.size = H.size + 1) (oq : ∀ q : Nat, q < H.size → H1[q]? = H[q]?) : sg_hm base ext D cI cZ ro (sg_mk h z e) H1 := by
  obtain ⟨h1, h2, h3, h4⟩ := hh
  refine ⟨by rw [hz, h1]; rfl, hk, fun j hj => ?_, fun j hj n f hjf => ?_⟩
  · by_cases hjk : j = h.1
    · subst hjk
      simpa [sg_mk] using he
    · have hj2 : j < h.1 := by
        have : j < h.1 + 1 := hj
        omega
      have h5 := (h3 j hj2).kept (oq (base + j) (by omega))
      simpa [sg_mk, hjk] using h5
  · have hne : j ≠ h.1 := by omega
    simp only [sg_mk, if_neg hne] at hjf
    exact h4 j hj n f hjf
theorem sg_s33 (l : Launch) : sg_q33 (sg_S l) := by
  intro M pc ls st h out ix ci r ty fs hd hr hw1 hw2 hw3 hty hfs hfl hcv hlt ⟨hm, ih⟩
  refine ⟨⟨by have := hm.1; simp only [sg_mk] at this; omega, by have := hm.2; simp only [sg_mk] at this; omega⟩, ?_⟩
  intro base ext D cI cZ ro p e R s m args below meth c H locs lsC n0 z0 Q hf hc hh hs hl hn kk
  have hts := hf.2.2.2.2.1
  obtain ⟨hin, -, -⟩ := sg_cls hr
  have hKn := hc.1.1 ci _ hr
  have b1 := hm.1
  have b2 := hm.2
  simp only [sg_mk] at b1 b2
  have hcells : h.1 - n0 + 1 ≤ R.cells := by omega
  have hslots : h.2.1 - z0 + r.2.2 ≤ R.slots := by omega
  refine W.newcK hf.1 hf.2.1 hf.2.2.2.1 (hts _ hw1) (hts _ hw2) (hts _ hw3) rfl hd hcells hslots hKn.2.1 rfl fun H1 kC hkC e1 z1 o1 => ?_
  have hW := ih base ext D cI cZ ro p e R s m args below meth c H1 locs lsC n0 z0 Q hf hc (sg_hm_mk hh hlt ?_ z1 o1) ⟨Nat.le_trans hs.1 (by omega), fun x h1 h2 => (o1 x (Nat.lt_of_lt_of_le h1 hs.1)).trans (hs.2.1 x h1 h2), hs.2.2⟩ hl ⟨by simp only [sg_mk]; omega, by simp only [sg_mk]; omega, hn.2.2.1, hn.2.2.2⟩ kk
  · have q1 : (sg_mk h r.2.2 (.inr (ci, fs))).1 - n0 = h.1 - n0 + 1 := by simp only [sg_mk]; omega
    have q2 : (sg_mk h r.2.2 (.inr (ci, fs))).2.1 - z0 = h.2.1 - z0 + r.2.2 := by simp only [sg_mk]; omega
    rw [q1, q2] at hW
    simp only [List.map_cons, sg_cv, sg_adk hlt] at hW
    rw [hh.1]
    exact hW
  · show ∃ r : vw_C, vwCl[ci]? = some r ∧ t_OB (base + h.1) (D.1 ci) r.2.2 (D.2 ci) H1 (vp_V (fs.map (sg_cv (sg_ad base ext))))
    have hmap : fs.map (sg_cv (sg_ad base ext)) = fs := by
      rw [List.map_congr_left (g := id) (fun v hv => hcv v hv _)]
      simp
    rw [hmap, ← hh.1]
    exact ⟨_, hr, (u_born ty hts hin hKn hkC e1 hty).to hfs⟩
theorem sg_s34 (l : Launch) : sg_q34 (sg_S l) := by
  intro M pc ls st h out n N hd hn0 hN hNb hlt ⟨hm, ih⟩
  refine ⟨⟨by have := hm.1; simp only [sg_mk] at this; omega, by have := hm.2; simp only [sg_mk] at this; omega⟩, ?_⟩
  intro base ext D cI cZ ro p e R s m args below meth c H locs lsC n0 z0 Q hf hc hh hs hl hn kk
  have b1 := hm.1
  have b2 := hm.2
  simp only [sg_mk] at b1 b2
  have hcells : h.1 - n0 + 1 ≤ R.cells := by omega
  have hslots : h.2.1 - z0 + N ≤ R.slots := by omega
  refine va_newaK (atype := .int) hf.1 hf.2.1 (hf.2.2.2.2.1 (.arrayClass .int) sg_wI) rfl hd rfl hn0 hN (by show N * 4 ≤ 536870912; omega) hcells hslots rfl fun H1 cA e1 z1 o1 hAr hNm => ?_
  have hcA : cA = cI := by
    have h5 := (hc.1.2 0 (cI, .int) rfl).2
    exact Option.some.inj (hNm.symm.trans h5)
  subst hcA
  have hW := ih base ext D cA cZ ro p e R s m args below meth c H1 locs lsC n0 z0 Q hf hc (sg_hm_mk hh hlt (by rw [← hh.1]; exact e1) z1 o1) ⟨Nat.le_trans hs.1 (by omega), fun x h1 h2 => (o1 x (Nat.lt_of_lt_of_le h1 hs.1)).trans (hs.2.1 x h1 h2), hs.2.2⟩ hl ⟨by simp only [sg_mk]; omega, by simp only [sg_mk]; omega, hn.2.2.1, hn.2.2.2⟩ kk
  have q1 : (sg_mk h N (.inl (false, N, fun _ => 0))).1 - n0 = h.1 - n0 + 1 := by simp only [sg_mk]; omega
  have q2 : (sg_mk h N (.inl (false, N, fun _ => 0))).2.1 - z0 = h.2.1 - z0 + N := by simp only [sg_mk]; omega
  rw [q1, q2] at hW
  simp only [List.map_cons, sg_cv, sg_adk hlt] at hW
  rw [hh.1]
  exact hW
theorem sg_s35 (l : Launch) : sg_q35 (sg_S l) := by
  intro M pc ls st h out n N hd hn0 hN hNb hlt ⟨hm, ih⟩
  refine ⟨⟨by have := hm.1; simp only [sg_mk] at this; omega, by have := hm.2; simp only [sg_mk] at this; omega⟩, ?_⟩
  intro base ext D cI cZ ro p e R s m args below meth c H locs lsC n0 z0 Q hf hc hh hs hl hn kk
  have b1 := hm.1
  have b2 := hm.2
  simp only [sg_mk] at b1 b2
  have hcells : h.1 - n0 + 1 ≤ R.cells := by omega
  have hslots : h.2.1 - z0 + N ≤ R.slots := by omega
  refine va_newaK (atype := .boolean) hf.1 hf.2.1 (hf.2.2.2.2.1 (.arrayClass .boolean) sg_wZ) rfl hd rfl hn0 hN (by show N * 1 ≤ 536870912; omega) hcells hslots rfl fun H1 cA e1 z1 o1 hAr hNm => ?_
  have hcA : cA = cZ := by
    have h5 := (hc.1.2 1 (cZ, .boolean) rfl).2
    exact Option.some.inj (hNm.symm.trans h5)
  subst hcA
  have hW := ih base ext D cI cA ro p e R s m args below meth c H1 locs lsC n0 z0 Q hf hc (sg_hm_mk hh hlt (by rw [← hh.1]; exact e1) z1 o1) ⟨Nat.le_trans hs.1 (by omega), fun x h1 h2 => (o1 x (Nat.lt_of_lt_of_le h1 hs.1)).trans (hs.2.1 x h1 h2), hs.2.2⟩ hl ⟨by simp only [sg_mk]; omega, by simp only [sg_mk]; omega, hn.2.2.1, hn.2.2.2⟩ kk
  have q1 : (sg_mk h N (.inl (true, N, fun _ => 0))).1 - n0 = h.1 - n0 + 1 := by simp only [sg_mk]; omega
  have q2 : (sg_mk h N (.inl (true, N, fun _ => 0))).2.1 - z0 = h.2.1 - z0 + N := by simp only [sg_mk]; omega
  rw [q1, q2] at hW
  simp only [List.map_cons, sg_cv, sg_adk hlt] at hW
  rw [hh.1]
  exact hW
theorem sg_s36 (l : Launch) : sg_q36 (sg_S l) := by
  intro M pc ls st h out ix k nm hd hw ⟨hm, ih⟩
  refine ⟨hm, ?_⟩
  intro base ext D cI cZ ro p e R s m args below meth c H locs lsC n0 z0 Q hf hc hh hs hl hn kk
  have W1 := ih base ext D cI cZ ro p e R s m args below meth c H locs lsC n0 z0 Q hf hc hh hs hl hn kk
  have hZ := hc.2.2.2.2.1 _ hw
  have hk : ¬ k < 1000 := by
    simp only [sg_stl, List.mem_cons, List.not_mem_nil, Prod.mk.injEq, or_false] at hw
    omega
  simp only [List.map_cons, sg_cv, sg_ad, if_neg hk] at W1
  have hown := hf.2.2.2.1
  simp only [sg_stl, List.mem_cons, List.not_mem_nil, Prod.mk.injEq, or_false] at hw
  rcases hw with ⟨q1, q2, q3, q4⟩ | ⟨q1, q2, q3, q4⟩ | ⟨q1, q2, q3, q4⟩
  · subst q2; subst q3
    rw [q1] at hown
    exact va_getsN (ref := RX7) (host := RX7) hf.1 hf.2.1 hZ hs hown (va_Nw.use rfl (hc.2.1 _ sg_n43)) (fun _ z => z) hd W1
  · subst q2; subst q3
    rw [q1] at hown
    exact va_getsN (ref := RX7) (host := RX7) hf.1 hf.2.1 hZ hs hown (va_Nw.use rfl (hc.2.1 _ sg_n46)) (fun _ z => z) hd W1
  · subst q2; subst q3
    rw [q1] at hown
    exact va_gets (ref := RX7) hf.1 hf.2.1 hZ hs hown (hf.2.2.2.2.1 _ sg_n57) (fun _ z => z) hd W1
end
section
/-! SOUNDNESS of calls; the whole. -/
theorem sg_nwt {w : Jvm.Cond} (hw : w ∈ sg_nws) : w.onTables = true := by
  have h := (List.mem_filter.mp hw).2
  cases w <;> first | rfl | (simp at h)
theorem sg_nww {w : Jvm.Cond} (hw : w ∈ sg_nws) {s U : State} (hW : s.WarmedH U.vm) (hZ : va_Nw w s) : va_Nw w U := by
  have h := (List.mem_filter.mp hw).2
  cases w <;> first | exact va_Nw.warmF hW hZ | exact va_Nw.warmM hW hZ | (simp at h)
theorem sg_ctx_call {base : Nat} {ext : Nat → Nat} {D : va_G} {cI cZ : ClassId} {ro : Nat → Option (Nat × (Nat → Int32))} {s U : State} {H : Heap} {locs : List Loc} (hc : sg_ctx base ext D cI cZ ro s) (hs : va_S (fun q => base ≤ q) s.heap H locs) (hU : U.heap = H) (hW : s.WarmedH U.vm) : sg_ctx base ext D cI cZ ro U := by
  obtain ⟨h1, h2, h3, h4, h5, ⟨adV, h6⟩, h7, h8, h9⟩ := hc
  have kp : ∀ a : Nat, a < s.heap.size → ¬ (fun q => base ≤ q) a → U.heap[a]? = s.heap[a]? := fun a g1 g2 => by rw [hU]; exact hs.2.1 a g1 g2
  refine ⟨va_K.moved hW.alike h1, fun w hw => sg_nww hw hW (h2 w hw), fun k n f hk => ⟨va_X.moved hW.alike ((h3 k n f hk).1.kept (kp _ (Nat.lt_of_lt_of_le (h3 k n f hk).2 h4) (by have := (h3 k n f hk).2; show ¬ base ≤ ext k; omega))), (h3 k n f hk).2⟩, by rw [hU]; exact Nat.le_trans h4 hs.1, fun t ht => va_Z.moved hW.alike ((h5 t ht).kept kp), ⟨adV, vk_S.moved hW.alike (h6.kept kp)⟩, va_Z.moved hW.alike (h7.kept kp), ?_, fun t ht => ?_⟩
  · rcases h8 with h8 | ⟨t, h8⟩
    · exact Or.inl (va_Z.moved hW.alike (h8.kept kp))
    · exact Or.inr ⟨t, va_Z.moved hW.alike (h8.kept kp)⟩
  · obtain ⟨tx, h⟩ := h9 t ht
    exact ⟨tx, vk_R.warm hW h⟩
theorem sg_ctx_same {base : Nat} {ext : Nat → Nat} {D : va_G} {cI cZ : ClassId} {ro : Nat → Option (Nat × (Nat → Int32))} {s U : State} (hc : sg_ctx base ext D cI cZ ro s) (hU : U.heap = s.heap) (hV : U.vm = s.vm) : sg_ctx base ext D cI cZ ro U := by
  obtain ⟨h1, h2, h3, h4, h5, ⟨adV, h6⟩, h7, h8, h9⟩ := hc
  have hA : s.vm.Alike U.vm := by rw [hV]; exact Vm.Alike.refl s.vm
  refine ⟨va_K.moved hA h1, fun w hw => va_Nw.same (sg_nwt hw) hV.symm (h2 w hw), fun k n f hk => ⟨by rw [hU]; exact va_X.moved hA (h3 k n f hk).1, (h3 k n f hk).2⟩, by rw [hU]; exact h4, fun t ht => by rw [hU]; exact va_Z.moved hA (h5 t ht), ⟨adV, by rw [hU]; exact vk_S.moved hA h6⟩, by rw [hU]; exact va_Z.moved hA h7, ?_, fun t ht => ?_⟩
  · rw [hU]
    rcases h8 with h8 | ⟨t, h8⟩
    · exact Or.inl (va_Z.moved hA h8)
    · exact Or.inr ⟨t, va_Z.moved hA h8⟩
  · obtain ⟨tx, h⟩ := h9 t ht
    exact ⟨tx, vk_R.same hV h⟩
def sg_qc (base : Nat) (ext : Nat → Nat) (D : va_G) (cI cZ : ClassId) (ro : Nat → Option (Nat × (Nat → Int32))) (out : sg_O) : Array Value → State → Outcome → State → Prop := fun _ st oc t => oc = .returned (out.1.map (sg_cv (sg_ad base ext))) ∧ sg_hm base ext D cI cZ ro out.2 t.heap ∧ va_F (fun q => base ≤ q) st t
def sg_pc (base : Nat) (ext : Nat → Nat) (D : va_G) (cI cZ : ClassId) (ro : Nat → Option (Nat × (Nat → Int32))) (vs : List Value) (h : sg_H) : Array Value → State → Prop := va_Pc (vs.map (sg_cv (sg_ad base ext))) (fun U => sg_hm base ext D cI cZ ro h U.heap ∧ sg_ctx base ext D cI cZ ro U)
theorem sg_cat (ad : Nat → Nat) (v : Value) : (sg_cv ad v).category = v.category := by cases v <;> rfl
theorem sg_en_len (ad : Nat → Nat) (vs : List Value) : (lg_sl (vs.map (sg_cv ad))).length = (sg_en vs).length := by
  induction vs with
  | nil => rfl
  | cons v t ih =>
    simp only [lg_sl, sg_en, List.map_cons, List.flatMap_cons, List.length_append, sg_cat] at ih ⊢
    rw [ih]
    by_cases hv : v.category = 2 <;> simp [hv]
theorem sg_en_at (ad : Nat → Nat) (vs : List Value) : ∀ (i : Nat) (v : Value), (sg_en vs)[i]? = some (some v) → (lg_sl (vs.map (sg_cv ad)))[i]? = some (.val (sg_cv ad v)) := by
  induction vs with
  | nil => intro i v h; simp [sg_en] at h
  | cons w t ih =>
    intro i v h
    simp only [lg_sl, sg_en, List.map_cons, List.flatMap_cons, sg_cat] at ih h ⊢
    by_cases hw : w.category = 2
    · rw [if_pos hw] at h ⊢
      match i, h with
      | 0, h => simp at h; subst h; rfl
      | 1, h => simp at h
      | i + 2, h => exact ih i v h
    · rw [if_neg hw] at h ⊢
      match i, h with
      | 0, h => simp at h; subst h; rfl
      | i + 1, h => exact ih i v h
theorem sg_lm_en (ad : Nat → Nat) (M : sg_M) (vs : List Value) (hen : (sg_en vs).length ≤ M.2.2.1) : sg_lm ad ((lg_sl (vs.map (sg_cv ad)) ++ List.replicate (M.2.2.1 - (lg_sl (vs.map (sg_cv ad))).length) Slot.unset).toArray) M.2.2.1 (sg_ent M vs) := by
  have hle := sg_en_len ad vs
  have hl := lv_entry (vs.map (sg_cv ad)) (n := M.2.2.1) (by rw [hle]; exact hen)
  refine ⟨hl.1, hl.2.1, ?_, fun i v hv => ?_⟩
  · simp only [sg_ent, List.length_append, List.length_replicate]
    omega
  · simp only [sg_ent] at hv
    by_cases hi : i < (sg_en vs).length
    · rw [List.getElem?_append_left hi] at hv
      have h2 := sg_en_at ad vs i v hv
      simp only [List.getElem?_toArray]
      rw [List.getElem?_append_left (by rw [hle]; exact hi)]
      exact h2
    · rw [List.getElem?_append_right (by omega)] at hv
      rw [List.getElem?_replicate] at hv
      split at hv <;> simp at hv
theorem sg_met (l : Launch) {M : sg_M} {vs : List Value} {h h1 : sg_H} {r : Option Value} (hS : sg_S l M 0 (sg_ent M vs) [] h (r, h1)) (hpl : plainName M.1.cls = true) (hen : (sg_en vs).length ≤ M.2.2.1) (hc1 : h1.1 = h.1 + M.2.2.2.2.cells) (hc2 : h1.2.1 = h.2.1 + M.2.2.2.2.slots) (base : Nat) (ext : Nat → Nat) (D : va_G) (cI cZ : ClassId) (ro : Nat → Option (Nat × (Nat → Int32))) :
    Met l M.1 (sg_w M) M.2.2.2.2 (sg_pc base ext D cI cZ ro vs h) (sg_qc base ext D cI cZ ro (r, h1)) M.2.2.2.2.cells M.2.2.2.2.slots (fun q => base ≤ q) := by
  refine Met.ofW (cc := M.2.1) (maxL := M.2.2.1) (ret := M.2.2.2.1) hpl rfl ?_
  intro p e s m args below meth c s₁ B hml hv
  obtain ⟨rfl, hh, hcx⟩ := hv
  have hts := atoms_spec (ws := sg_w M) B.pre
  have hown : s.vm.findClass M.1.cls = some m.cls := findClass_of_methodNamed B.named
  have hnm : meth.name = M.1.name := (name_of_methodNamed B.named B.method).1
  have hlocks := B.notSynchronized
  rw [lg_entry_eq]
  have W0 := hS.2 base ext D cI cZ ro p e (headSpec (sg_w M) M.2.2.2.2).room s m _ below meth c s.heap [] _ h.1 h.2.1 (MQ below (sg_qc base ext D cI cZ ro (r, h1)) (vs.map (sg_cv (sg_ad base ext))).toArray s M.2.2.2.2.cells M.2.2.2.2.slots (fun q => base ≤ q)) ⟨B.exec, B.bytes, hml, hown, fun w hw => hts w (List.mem_cons_of_mem _ hw), hnm, Nat.le_refl _, Nat.le_refl _⟩ hcx hh va_S.rf (sg_lm_en (sg_ad base ext) M vs hen) ⟨Nat.le_refl _, Nat.le_refl _, Nat.le_of_eq hc1, Nat.le_of_eq hc2⟩ ?_
  · simpa using W0
  · intro pc' H' locs' lsC' hh' hs' hrt
    have z1 : h1.1 - h.1 = M.2.2.2.2.cells := by omega
    have z2 : h1.2.1 - h.2.1 = M.2.2.2.2.slots := by omega
    simp only [z1, z2]
    rcases hrt with ⟨v, ty, hr, hd, hty, hna⟩ | ⟨hr, hd, hty⟩
    · simp only at hr
      subst hr
      exact W.zret (v := v) B.exec B.bytes (by rw [B.returns, hty]) hna (fun t ht hW => ⟨rfl, by rw [ht]; exact hh', hs'.F ht⟩) hs'.2.2 hd
    · simp only at hr
      subst hr
      exact W.vret B.exec B.bytes (by rw [B.returns, hty]) (fun t ht hW => ⟨rfl, by rw [ht]; exact hh', hs'.F ht⟩) hs'.2.2 hd
theorem sg_callW {p : Program} {l : Launch} {e : Env} {R : Room} {s : State} {m : MethodId} {args : Array Value} {below : List Frame} {meth : Method} {c : Code} {H : Heap} {locs : List Loc} {cells slots mc ms pc : Nat} {Q : State → Prop} {ls : Array Slot} {rest st0 : List Value} {a : Array Value} {base : Nat} {ext : Nat → Nat} {D : va_G} {cI cZ : ClassId} {ro : Nat → Option (Nat × (Nat → Int32))} {out : sg_O}
    (hr : va_Run p l e R s m args below meth c H locs cells slots mc ms (F0 m pc ls st0) rest (sg_qc base ext D cI cZ ro out a) (fun q => base ≤ q)) (hS : va_S (fun q => base ≤ q) s.heap H locs)
    (kk : ∀ (H1 : Heap) (locs1 : List Loc), sg_hm base ext D cI cZ ro out.2 H1 → va_S (fun q => base ≤ q) s.heap H1 locs1 → W p l e R s m args below meth c H1 locs1 (cells + mc) (slots + ms) Q (F0 m (pc + 3) ls ((out.1.map (sg_cv (sg_ad base ext))).toList ++ rest))) : W p l e R s m args below meth c H locs cells slots Q (F0 m pc ls st0) := by
  intro T hT X
  obtain ⟨v, st₀, t, T', L, h0, X', hL, e1, e2, ⟨hv, hb, hz, hk⟩, st⟩ := hr T hT X
  cases hv
  rw [h0] at hz hk
  obtain ⟨t2, a1, b1⟩ := kk T'.heap (locs ++ L) (by rw [e1]; exact hb) ⟨Nat.le_trans hS.1 (by rw [e1]; exact hz), fun q h1 h2 => by rw [e1, hk q (Nat.lt_of_lt_of_le h1 hS.1) h2]; exact hS.2.1 q h1 h2, fun q hq => by
      rcases List.mem_append.mp hq with h | h
      · exact hS.2.2 q h
      · exact hL q h⟩ T' rfl X'
  exact ⟨t2, st t2 a1, b1⟩
theorem sg_good {M' : sg_M} (h : Cond.code M'.1 M'.2.1 M'.2.2.1 M'.2.2.2.1 ∈ sg_ws) : GoodIn sg_ws (sg_w M') := by
  intro w hw
  have hm : w ∈ sg_ws := by
    rcases List.mem_cons.mp hw with rfl | hw
    · exact h
    · exact hw
  exact ⟨hm, good_of_word (List.mem_filter.mp hm).2⟩
theorem sg_blind {base : Nat} {ext : Nat → Nat} {D : va_G} {cI cZ : ClassId} {ro : Nat → Option (Nat × (Nat → Int32))} {vs : List Value} {h : sg_H} : FrameBlind (sg_pc base ext D cI cZ ro vs h) := by
  intro a U g mk ⟨q0, q1, q2⟩
  exact ⟨q0, q1, sg_ctx_same q2 rfl rfl⟩
theorem sg_catS (ad : Nat → Nat) (st : List Value) : ((st.map (sg_cv ad)).map fun v => v.category).sum = (st.map fun v => v.category).sum := by
  rw [List.map_map]
  congr 1
  exact List.map_congr_left (fun v _ => sg_cat ad v)
theorem sg_s38 (l : Launch) : sg_q38 (sg_S l) := by
  intro M M' pc ls st h h1 out ix ci k fs rc As r hd hmo hro hlo hio hrc hcn hk ha hcat hen hi hc1 hc2 ⟨hm, ih⟩
  refine ⟨⟨by have := hm.1; omega, by have := hm.2; omega⟩, ?_⟩
  intro base ext D cI cZ ro p e R s m args below meth c H locs lsC n0 z0 Q hf hc hh hs hl hn kk
  have b1 := hm.1
  have b2 := hm.2
  have hM := sg_met l hi hmo.2.2.2 hen hc1 hc2 base ext D cI cZ ro
  have hts := hf.2.2.2.2.1
  obtain ⟨hkl, hat⟩ := sg_hm_at hh hk ha
  obtain ⟨r2, g1, cell, q1, q2, q3, q4⟩ := hat
  cases hrc.symm.trans g1
  have hrecv : ∃ cellB : Cell, H[sg_ad base ext k]? = some cellB ∧ cellB.vm.isStatics = false ∧ s.vm.findClass M'.1.cls = some cellB.cls := ⟨cell, by rw [sg_adk hk]; exact q1, by rw [q3]; rfl, by rw [q2, ← hcn]; exact (hc.1.1 ci rc hrc).2.1⟩
  have hR : M'.2.2.2.2.frames + 1 ≤ R.frames ∧ 8 + (M'.2.2.1 + 11) + M'.2.2.2.2.locals ≤ R.locals := ⟨Nat.le_trans hro.1 hf.2.2.2.2.2.2.1, Nat.le_trans hro.2 hf.2.2.2.2.2.2.2⟩
  have hpre : ∀ U : State, U.heap = H → s.WarmedH U.vm → sg_pc base ext D cI cZ ro (.ref k :: As) h ((Value.ref (sg_ad base ext k) :: As.map (sg_cv (sg_ad base ext))).toArray) U := fun U hU hW => ⟨rfl, by rw [hU]; exact hh, sg_ctx_call hc hs hU hW⟩
  have hrun : va_Run p l e R s m args below meth c H locs (h.1 - n0) (h.2.1 - z0) M'.2.2.2.2.cells M'.2.2.2.2.slots (F0 m pc lsC ((As.reverse ++ .ref k :: st).map (sg_cv (sg_ad base ext)))) (st.map (sg_cv (sg_ad base ext))) (sg_qc base ext D cI cZ ro (r, h1) (Value.ref (sg_ad base ext k) :: As.map (sg_cv (sg_ad base ext))).toArray) (fun q => base ≤ q) := by
    rcases hlo with hw | ⟨host, hw⟩
    · exact va_runV (C := M'.1.cls) (bytes := M'.2.1) (maxL := M'.2.2.1) (ret := M'.2.2.2.1) (Ts := sg_ws) ⟨hf.1, hf.2.1, hf.2.2.1, hf.2.2.2.1, hts⟩ hM ⟨callB_of As.length hts (sg_good hmo.1) rfl rfl rfl (hts _ hmo.2.1) (hts _ hw) hmo.2.2.1 hR, hts _ hio.1, hts _ hio.2⟩ ⟨sg_blind, hrecv, hpre⟩ rfl (by simp) hl.1 (by simp [sg_cv]) (lv_room (by rw [sg_catS]; exact hcat)) hd ⟨by omega, by omega⟩
    · exact va_runVN (C := M'.1.cls) (bytes := M'.2.1) (maxL := M'.2.2.1) (ret := M'.2.2.2.1) (Ts := sg_ws) ⟨hf.1, hf.2.1, hf.2.2.1, hf.2.2.2.1, hts⟩ hM ⟨va_cnB As.length hts (sg_good hmo.1) rfl rfl rfl (hc.2.1 _ hw) (hts _ hmo.2.1) hmo.2.2.1 hR, hts _ hio.1, hts _ hio.2⟩ ⟨sg_blind, hrecv, hpre⟩ rfl (by simp) hl.1 (by simp [sg_cv]) (lv_room (by rw [sg_catS]; exact hcat)) hd ⟨by omega, by omega⟩
  refine sg_callW hrun hs (fun H1 locs1 hh1 hs1 => ?_)
  have W1 := ih base ext D cI cZ ro p e R s m args below meth c H1 locs1 lsC n0 z0 Q hf hc hh1 hs1 hl ⟨by omega, by omega, hn.2.2.1, hn.2.2.2⟩ kk
  have z1 : h1.1 - n0 = h.1 - n0 + M'.2.2.2.2.cells := by omega
  have z2 : h1.2.1 - z0 = h.2.1 - z0 + M'.2.2.2.2.slots := by omega
  rw [z1, z2] at W1
  cases r <;> exact W1
theorem sg_s39 (l : Launch) : sg_q39 (sg_S l) := by
  intro M M' pc ls st h h1 out ix As r hd hmo hro hlo hst hcat hen hi hc1 hc2 ⟨hm, ih⟩
  refine ⟨⟨by have := hm.1; omega, by have := hm.2; omega⟩, ?_⟩
  intro base ext D cI cZ ro p e R s m args below meth c H locs lsC n0 z0 Q hf hc hh hs hl hn kk
  have b1 := hm.1
  have b2 := hm.2
  have hM := sg_met l hi hmo.2.2.2 hen hc1 hc2 base ext D cI cZ ro
  have hts := hf.2.2.2.2.1
  have hR : M'.2.2.2.2.frames + 1 ≤ R.frames ∧ 8 + (M'.2.2.1 + 11) + M'.2.2.2.2.locals ≤ R.locals := ⟨Nat.le_trans hro.1 hf.2.2.2.2.2.2.1, Nat.le_trans hro.2 hf.2.2.2.2.2.2.2⟩
  have hpre : ∀ U : State, U.heap = H → s.WarmedH U.vm → sg_pc base ext D cI cZ ro As h ((As.map (sg_cv (sg_ad base ext))).toArray) U := fun U hU hW => ⟨rfl, by rw [hU]; exact hh, sg_ctx_call hc hs hU hW⟩
  have hrun : va_Run p l e R s m args below meth c H locs (h.1 - n0) (h.2.1 - z0) M'.2.2.2.2.cells M'.2.2.2.2.slots (F0 m pc lsC ((As.reverse ++ st).map (sg_cv (sg_ad base ext)))) (st.map (sg_cv (sg_ad base ext))) (sg_qc base ext D cI cZ ro (r, h1) (As.map (sg_cv (sg_ad base ext))).toArray) (fun q => base ≤ q) := by
    rcases hlo with hw | ⟨host, hw⟩
    · exact va_runS (bytes := M'.2.1) (maxL := M'.2.2.1) (ret := M'.2.2.2.1) (Ts := sg_ws) ⟨hf.1, hf.2.1, hf.2.2.1, hf.2.2.2.1, hts⟩ hM ⟨callB_of As.length hts (sg_good hmo.1) rfl rfl rfl (hts _ hmo.2.1) (hts _ hw) hmo.2.2.1 hR, hts _ hst⟩ ⟨sg_blind, hpre⟩ rfl (by simp) hl.1 (by simp) (lv_room (by rw [sg_catS]; exact hcat)) hd ⟨by omega, by omega⟩
    · exact va_runSN (bytes := M'.2.1) (maxL := M'.2.2.1) (ret := M'.2.2.2.1) (Ts := sg_ws) ⟨hf.1, hf.2.1, hf.2.2.1, hf.2.2.2.1, hts⟩ hM ⟨va_cnB As.length hts (sg_good hmo.1) rfl rfl rfl (hc.2.1 _ hw) (hts _ hmo.2.1) hmo.2.2.1 hR, hts _ hst, trivial⟩ ⟨sg_blind, hpre⟩ rfl (by simp) hl.1 (by simp) (lv_room (by rw [sg_catS]; exact hcat)) hd ⟨by omega, by omega⟩
  refine sg_callW hrun hs (fun H1 locs1 hh1 hs1 => ?_)
  have W1 := ih base ext D cI cZ ro p e R s m args below meth c H1 locs1 lsC n0 z0 Q hf hc hh1 hs1 hl ⟨by omega, by omega, hn.2.2.1, hn.2.2.2⟩ kk
  have z1 : h1.1 - n0 = h.1 - n0 + M'.2.2.2.2.cells := by omega
  have z2 : h1.2.1 - z0 = h.2.1 - z0 + M'.2.2.2.2.slots := by omega
  rw [z1, z2] at W1
  cases r <;> exact W1
theorem sg_s40 (l : Launch) : sg_q40 (sg_S l) := by
  intro M M' pc ls st h h1 out ix k As r hd hmo hro hlo hin hini hret hcat hen hi hc1 hc2 ⟨hm, ih⟩
  refine ⟨⟨by have := hm.1; omega, by have := hm.2; omega⟩, ?_⟩
  intro base ext D cI cZ ro p e R s m args below meth c H locs lsC n0 z0 Q hf hc hh hs hl hn kk
  have b1 := hm.1
  have b2 := hm.2
  have hM := sg_met l hi hmo.2.2.2 hen hc1 hc2 base ext D cI cZ ro
  have hts := hf.2.2.2.2.1
  have hR : M'.2.2.2.2.frames + 1 ≤ R.frames ∧ 8 + (M'.2.2.1 + 11) + M'.2.2.2.2.locals ≤ R.locals := ⟨Nat.le_trans hro.1 hf.2.2.2.2.2.2.1, Nat.le_trans hro.2 hf.2.2.2.2.2.2.2⟩
  have hpre : ∀ U : State, U.heap = H → s.WarmedH U.vm → sg_pc base ext D cI cZ ro (.ref k :: As) h ((Value.ref (sg_ad base ext k) :: As.map (sg_cv (sg_ad base ext))).toArray) U := fun U hU hW => ⟨rfl, by rw [hU]; exact hh, sg_ctx_call hc hs hU hW⟩
  have hwN : sg_w M' = Cond.code M'.1 M'.2.1 M'.2.2.1 none :: sg_ws := by rw [sg_w, hret]
  have hrun : va_Run p l e R s m args below meth c H locs (h.1 - n0) (h.2.1 - z0) M'.2.2.2.2.cells M'.2.2.2.2.slots (F0 m pc lsC ((As.reverse ++ .ref k :: st).map (sg_cv (sg_ad base ext)))) (st.map (sg_cv (sg_ad base ext))) (sg_qc base ext D cI cZ ro (r, h1) (Value.ref (sg_ad base ext k) :: As.map (sg_cv (sg_ad base ext))).toArray) (fun q => base ≤ q) := by
    rcases hlo with hw | ⟨host, hw⟩
    · exact va_runI (bytes := M'.2.1) (maxL := M'.2.2.1) (Ts := sg_ws) ⟨hf.1, hf.2.1, hf.2.2.1, hf.2.2.2.1, hts⟩ hM ⟨callB_of As.length hts (sg_good hmo.1) hwN rfl rfl (hts _ hmo.2.1) (hts _ hw) hmo.2.2.1 hR, hini, hts _ hin⟩ ⟨sg_blind, hpre⟩ rfl (by simp) hl.1 (by simp [sg_cv]) (lv_room (by rw [sg_catS]; exact hcat)) hd ⟨by omega, by omega⟩
    · exact va_runIN (bytes := M'.2.1) (maxL := M'.2.2.1) (Ts := sg_ws) ⟨hf.1, hf.2.1, hf.2.2.1, hf.2.2.2.1, hts⟩ hM ⟨va_cnB As.length hts (sg_good hmo.1) hwN rfl rfl (hc.2.1 _ hw) (hts _ hmo.2.1) hmo.2.2.1 hR, hini, hts _ hin⟩ ⟨sg_blind, hpre⟩ rfl (by simp) hl.1 (by simp [sg_cv]) (lv_room (by rw [sg_catS]; exact hcat)) hd ⟨by omega, by omega⟩
  refine sg_callW hrun hs (fun H1 locs1 hh1 hs1 => ?_)
  have W1 := ih base ext D cI cZ ro p e R s m args below meth c H1 locs1 lsC n0 z0 Q hf hc hh1 hs1 hl ⟨by omega, by omega, hn.2.2.1, hn.2.2.2⟩ kk
  have z1 : h1.1 - n0 = h.1 - n0 + M'.2.2.2.2.cells := by omega
  have z2 : h1.2.1 - z0 = h.2.1 - z0 + M'.2.2.2.2.slots := by omega
  rw [z1, z2] at W1
  cases r <;> exact W1
theorem sg_wO1 : Cond.instanceMethod objectInit ∈ sg_ws := by decide +kernel
theorem sg_wO2 : Cond.code objectInit ⟨#[0xb1]⟩ 1 none ∈ sg_ws := by decide +kernel
theorem sg_s37 (l : Launch) : sg_q37 (sg_S l) := by
  intro M pc ls st h out ix k hd hw hcat hro ⟨hm, ih⟩
  refine ⟨hm, ?_⟩
  intro base ext D cI cZ ro p e R s m args below meth c H locs lsC n0 z0 Q hf hc hh hs hl hn kk
  have hts := hf.2.2.2.2.1
  refine W.objInit hf.1 hf.2.1 hf.2.2.2.1 (hts _ hw) (hts _ sg_wO1) (hts _ sg_wO2) rfl (by rw [hf.2.2.1]; exact hl.1) rfl hd (Nat.le_trans hro.1 hf.2.2.2.2.2.2.1) ?_ (ih base ext D cI cZ ro p e R s m args below meth c H locs lsC n0 z0 Q hf hc hh hs hl hn kk)
  have hcat' := sg_catS (sg_ad base ext) st
  have h20 := Nat.le_trans hro.2 hf.2.2.2.2.2.2.2
  show 2 * 0 + _ + 12 ≤ _
  omega
theorem sg_wC1 : Cond.native arraycopyName ∈ sg_ws := by decide +kernel
theorem sg_wC2 : Cond.static arraycopyName ∈ sg_ws := by decide +kernel
theorem sg_wC3 : Cond.initialized "java/lang/System" ∈ sg_ws := by decide +kernel
theorem sg_s41 (l : Launch) : sg_q41 (sg_S l) := by
  intro M pc ls st h out ix k k2 n n2 f g cc hd hw hk hk2 ha ha2 hc0 hcn hcn2 hro hcat ⟨hm, ih⟩
  refine ⟨hm, ?_⟩
  intro base ext D cI cZ ro p e R s m args below meth c H locs lsC n0 z0 Q hf hc hh hs hl hn kk
  have hts := hf.2.2.2.2.1
  obtain ⟨hkl, hat⟩ := sg_hm_at hh hk ha
  obtain ⟨hkl2, hat2⟩ := sg_hm_at hh hk2 ha2
  have z0' : (0 : Int32).toNatClampNeg = 0 := rfl
  have nn : ∀ z : Int32, ¬ z < 0 → z.toInt = (z.toNatClampNeg : Int) := by
    intro z hz
    have hz0 : (0 : Int) ≤ z.toInt := by
      have := Int32.not_lt.mp hz
      simpa using Int32.le_iff_toInt_le.mp this
    show z.toInt = ((z.toInt.toNat : Nat) : Int)
    omega
  simp only [List.map_cons, sg_cv, sg_adk hk, sg_adk hk2]
  intro T hT X
  have e0 : H[base + k]? = some (vp_cell cI (n, .inl f)) := hat
  have e1 : H[base + k2]? = some (vp_cell cI (n2, .inl g)) := hat2
  obtain ⟨-, k0, hk0, cm0, hkk0⟩ := (hc.1.2 0 (cI, .int) rfl).1 n (fun j => .int (f j))
  obtain ⟨-, k1, hk1, cm1, hkk1⟩ := (hc.1.2 0 (cI, .int) rfl).1 n2 (fun j => .int (g j))
  obtain ⟨vm', X', step⟩ := X.arraycopy hf.1 hf.2.2.2.1 (hts _ hw) (hts _ sg_wC1) (hts _ sg_wC2) (hts _ sg_wC3) (src := base + k) (dst := base + k2) (cs := vp_cell cI (n, .inl f)) (cd := vp_cell cI (n2, .inl g)) (srcPos := 0) (destPos := 0) (n := cc) (by rw [hT]; exact e0) (by rw [hT]; exact e1)
    (fun _ h => by cases h) (fun _ h => by cases h) (fun h => by cases h) (fun h => by cases h) hk0 hk1 hkk0 hkk1 (by simp [refKind]) (by decide) (by decide) hc0
    (by rw [nn cc hc0]; show ¬ _ > ((arrV cI n (fun j => .int (f j))).slots.size : Int); rw [arrV_size]; show ¬ (0 : Int) + _ > _; omega)
    (by rw [nn cc hc0]; show ¬ _ > ((arrV cI n2 (fun j => .int (g j))).slots.size : Int); rw [arrV_size]; show ¬ (0 : Int) + _ > _; omega)
    (fun vm₁ _ i hi => by
      have e : (vp_cell cI (n, .inl f)).slots.getD ((0 : Int32).toNatClampNeg + i) .null = .int (f (0 + i)) := by
        show (arrV cI n (fun j => .int (f j))).slots.getD _ _ = _
        rw [z0', Array.getD_eq_getD_getElem?, arrV_read _ _ (by omega)]
        rfl
      refine ⟨?_, ?_⟩
      · rw [e]
        rfl
      · rw [e]
        exact trivial)
    (g := F0 m pc lsC (.int cc :: .int 0 :: .ref (base + k2) :: .int 0 :: .ref (base + k) :: st.map (sg_cv (sg_ad base ext)))) rfl (by rw [hf.2.2.1]; exact hl.1) (rest := st.map (sg_cv (sg_ad base ext))) rfl (by rw [hf.2.1]; exact hd) (Nat.le_trans hro.1 hf.2.2.2.2.2.2.1) (by
      have hcat' := sg_catS (sg_ad base ext) st
      have h20 := Nat.le_trans hro.2 hf.2.2.2.2.2.2.2
      show 2 * 0 + _ + _ ≤ _
      omega)
  have e2 : copied (vp_cell cI (n, .inl f)) (vp_cell cI (n2, .inl g)) 0 0 cc = vp_cell cI (n2, .inl (va_cpy f g 0 0 cc.toNatClampNeg)) := va_copied (fun z => .int z) cI cI f g (by rw [z0']; omega)
  rw [e2] at X' step
  have hlt : base + k2 < H.size := (Array.getElem?_eq_some_iff.mp e1).1
  have hheap : ((T.setVm vm').setCell (base + k2) (vp_cell cI (n2, .inl (va_cpy f g 0 0 cc.toNatClampNeg)))).heap = H.setIfInBounds (base + k2) (vp_cell cI (n2, .inl (va_cpy f g 0 0 cc.toNatClampNeg))) := by rw [← hT]; rfl
  have oq : ∀ q : Nat, q ≠ base + k2 → (H.setIfInBounds (base + k2) (vp_cell cI (n2, .inl (va_cpy f g 0 0 cc.toNatClampNeg))))[q]? = H[q]? := fun q hq => by simp [Array.getElem?_setIfInBounds, Ne.symm hq]
  obtain ⟨t, a1, b1⟩ := ih base ext D cI cZ ro p e R s m args below meth c _ _ lsC n0 z0 Q hf hc (sg_hm_up hh hkl2 (show (H.setIfInBounds (base + k2) _)[base + k2]? = some _ by simp [Array.getElem?_setIfInBounds, hlt]) (by simp) oq) ⟨by simp; exact hs.1, fun q g1 g2 => by
      rw [oq q (fun e => g2 (by rw [e]; show base ≤ base + k2; omega))]
      exact hs.2.1 q g1 g2, fun q hq => by
      rcases List.mem_append.mp hq with h | h
      · exact hs.2.2 q h
      · obtain ⟨z, -, hz⟩ := List.mem_map.mp h
        rw [← hz]
        show base ≤ base + k2
        omega⟩ hl hn kk _ hheap X'
  exact ⟨t, step t a1, b1⟩
theorem sg_s42 (l : Launch) : sg_q42 (sg_S l) := by
  sorry
theorem sg_s43 (l : Launch) : sg_q43 (sg_S l) := by
  sorry
theorem sg_sound (l : Launch) : sg_C (sg_S l) :=
  ⟨⟨sg_s01 l, sg_s02 l, sg_s03 l, sg_s04 l, sg_s05 l, sg_s06 l, sg_s07 l, sg_s08 l, sg_s09 l, sg_s10 l, sg_s11 l, sg_s12 l, sg_s13 l, sg_s14 l, sg_s15 l, sg_s16 l⟩, ⟨sg_s17 l, sg_s18 l, sg_s19 l, sg_s20 l, sg_s21 l, sg_s22 l, sg_s23 l, sg_s24 l, sg_s25 l⟩, ⟨sg_s26 l, sg_s27 l, sg_s28 l, sg_s29 l, sg_s30 l, sg_s31 l, sg_s32 l, sg_s33 l, sg_s34 l, sg_s35 l, sg_s36 l⟩, ⟨sg_s37 l, sg_s38 l, sg_s39 l, sg_s40 l, sg_s41 l, sg_s42 l, sg_s43 l, sg_s44 l, sg_s45 l⟩⟩
end
