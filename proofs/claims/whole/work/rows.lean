section
-- ===== PART A: goes FIRST, ahead of the names: the tables' words, and 'selects' of the private methods out of them =====
/-- a private method of a class that the tables say can be made, by its rows of tables_1 -/
def lw_okq (q : MethodName × Nat) : Prop := (q.1.cls ≠ "java/lang/invoke/MethodHandle" ∧ q.1.cls ≠ "java/lang/invoke/VarHandle") ∧ Cond.instantiable q.1.cls q.2 ∈ tables_1 ∧ Cond.privateMethod q.1 ∈ tables_1 ∧ Cond.instanceMethod q.1 ∈ tables_1
theorem lw_p0 : lw_okq (⟨"SpreadGroups$Volume", "findMapDue", "()V"⟩, 6) := ⟨⟨by decide +kernel, by decide +kernel⟩, List.mem_of_getElem? (i := 25) (by decide +kernel), List.mem_of_getElem? (i := 246) (by decide +kernel), List.mem_of_getElem? (i := 247) (by decide +kernel)⟩
theorem lw_p1 : lw_okq (⟨"SpreadGroups$Reader", "takeWord", "(Ljava/lang/String;)Z"⟩, 9) := ⟨⟨by decide +kernel, by decide +kernel⟩, List.mem_of_getElem? (i := 176) (by decide +kernel), List.mem_of_getElem? (i := 361) (by decide +kernel), List.mem_of_getElem? (i := 362) (by decide +kernel)⟩
theorem lw_p2 : lw_okq (⟨"SpreadGroups$Reader", "readToken", "()Z"⟩, 9) := ⟨⟨by decide +kernel, by decide +kernel⟩, List.mem_of_getElem? (i := 176) (by decide +kernel), List.mem_of_getElem? (i := 365) (by decide +kernel), List.mem_of_getElem? (i := 366) (by decide +kernel)⟩
theorem lw_p3 : lw_okq (⟨"SpreadGroups$Reader", "passBlanks", "()V"⟩, 9) := ⟨⟨by decide +kernel, by decide +kernel⟩, List.mem_of_getElem? (i := 176) (by decide +kernel), List.mem_of_getElem? (i := 369) (by decide +kernel), List.mem_of_getElem? (i := 370) (by decide +kernel)⟩
theorem lw_p4 : lw_okq (⟨"SpreadGroups$Reader", "readNumber", "()Z"⟩, 9) := ⟨⟨by decide +kernel, by decide +kernel⟩, List.mem_of_getElem? (i := 176) (by decide +kernel), List.mem_of_getElem? (i := 382) (by decide +kernel), List.mem_of_getElem? (i := 383) (by decide +kernel)⟩
theorem lw_p5 : lw_okq (⟨"SpreadGroups$Reader", "refuse", "(II)Z"⟩, 9) := ⟨⟨by decide +kernel, by decide +kernel⟩, List.mem_of_getElem? (i := 176) (by decide +kernel), List.mem_of_getElem? (i := 386) (by decide +kernel), List.mem_of_getElem? (i := 387) (by decide +kernel)⟩
theorem lw_p6 : lw_okq (⟨"SpreadGroups$Reader", "isWord", "(Ljava/lang/String;)Z"⟩, 9) := ⟨⟨by decide +kernel, by decide +kernel⟩, List.mem_of_getElem? (i := 176) (by decide +kernel), List.mem_of_getElem? (i := 394) (by decide +kernel), List.mem_of_getElem? (i := 395) (by decide +kernel)⟩
theorem lw_p7 : lw_okq (⟨"SpreadGroups$Reader", "takeNumber", "(III)Z"⟩, 9) := ⟨⟨by decide +kernel, by decide +kernel⟩, List.mem_of_getElem? (i := 176) (by decide +kernel), List.mem_of_getElem? (i := 450) (by decide +kernel), List.mem_of_getElem? (i := 451) (by decide +kernel)⟩
theorem lw_p8 : lw_okq (⟨"SpreadGroups$Reader", "takeSign", "()Z"⟩, 9) := ⟨⟨by decide +kernel, by decide +kernel⟩, List.mem_of_getElem? (i := 176) (by decide +kernel), List.mem_of_getElem? (i := 454) (by decide +kernel), List.mem_of_getElem? (i := 455) (by decide +kernel)⟩
theorem lw_p9 : lw_okq (⟨"SpreadGroups", "tellLine", "()Z"⟩, 14) := ⟨⟨by decide +kernel, by decide +kernel⟩, List.mem_of_getElem? (i := 17) (by decide +kernel), List.mem_of_getElem? (i := 468) (by decide +kernel), List.mem_of_getElem? (i := 469) (by decide +kernel)⟩
theorem lw_p10 : lw_okq (⟨"SpreadGroups", "toldParent", "(I)I"⟩, 14) := ⟨⟨by decide +kernel, by decide +kernel⟩, List.mem_of_getElem? (i := 17) (by decide +kernel), List.mem_of_getElem? (i := 472) (by decide +kernel), List.mem_of_getElem? (i := 473) (by decide +kernel)⟩
theorem lw_p11 : lw_okq (⟨"SpreadGroups$FreeMap", "bitsOf", "(I)I"⟩, 2) := ⟨⟨by decide +kernel, by decide +kernel⟩, List.mem_of_getElem? (i := 66) (by decide +kernel), List.mem_of_getElem? (i := 491) (by decide +kernel), List.mem_of_getElem? (i := 492) (by decide +kernel)⟩
theorem lw_p12 : lw_okq (⟨"SpreadGroups$Volume", "groupForDirectory", "()I"⟩, 6) := ⟨⟨by decide +kernel, by decide +kernel⟩, List.mem_of_getElem? (i := 25) (by decide +kernel), List.mem_of_getElem? (i := 513) (by decide +kernel), List.mem_of_getElem? (i := 514) (by decide +kernel)⟩
theorem lw_p13 : lw_okq (⟨"SpreadGroups$Volume", "groupForFile", "(I)I"⟩, 6) := ⟨⟨by decide +kernel, by decide +kernel⟩, List.mem_of_getElem? (i := 25) (by decide +kernel), List.mem_of_getElem? (i := 525) (by decide +kernel), List.mem_of_getElem? (i := 526) (by decide +kernel)⟩
theorem lw_p14 : lw_okq (⟨"SpreadGroups$Deeds", "lacksRoomFor", "(I)Z"⟩, 5) := ⟨⟨by decide +kernel, by decide +kernel⟩, List.mem_of_getElem? (i := 137) (by decide +kernel), List.mem_of_getElem? (i := 541) (by decide +kernel), List.mem_of_getElem? (i := 542) (by decide +kernel)⟩
theorem lw_p15 : lw_okq (⟨"SpreadGroups$FreeMap", "shortestRunIn", "(II)I"⟩, 2) := ⟨⟨by decide +kernel, by decide +kernel⟩, List.mem_of_getElem? (i := 66) (by decide +kernel), List.mem_of_getElem? (i := 566) (by decide +kernel), List.mem_of_getElem? (i := 567) (by decide +kernel)⟩
def lw_privs_1 : List (MethodName × Nat) := [(⟨"SpreadGroups$Volume", "findMapDue", "()V"⟩, 6), (⟨"SpreadGroups$Reader", "takeWord", "(Ljava/lang/String;)Z"⟩, 9), (⟨"SpreadGroups$Reader", "readToken", "()Z"⟩, 9), (⟨"SpreadGroups$Reader", "passBlanks", "()V"⟩, 9), (⟨"SpreadGroups$Reader", "readNumber", "()Z"⟩, 9), (⟨"SpreadGroups$Reader", "refuse", "(II)Z"⟩, 9), (⟨"SpreadGroups$Reader", "isWord", "(Ljava/lang/String;)Z"⟩, 9), (⟨"SpreadGroups$Reader", "takeNumber", "(III)Z"⟩, 9), (⟨"SpreadGroups$Reader", "takeSign", "()Z"⟩, 9), (⟨"SpreadGroups", "tellLine", "()Z"⟩, 14), (⟨"SpreadGroups", "toldParent", "(I)I"⟩, 14), (⟨"SpreadGroups$FreeMap", "bitsOf", "(I)I"⟩, 2), (⟨"SpreadGroups$Volume", "groupForDirectory", "()I"⟩, 6), (⟨"SpreadGroups$Volume", "groupForFile", "(I)I"⟩, 6), (⟨"SpreadGroups$Deeds", "lacksRoomFor", "(I)Z"⟩, 5), (⟨"SpreadGroups$FreeMap", "shortestRunIn", "(II)I"⟩, 2)]
theorem lw_r1 : ∀ q ∈ lw_privs_1, lw_okq q := List.forall_mem_cons.mpr ⟨lw_p0, List.forall_mem_cons.mpr ⟨lw_p1, List.forall_mem_cons.mpr ⟨lw_p2, List.forall_mem_cons.mpr ⟨lw_p3, List.forall_mem_cons.mpr ⟨lw_p4, List.forall_mem_cons.mpr ⟨lw_p5, List.forall_mem_cons.mpr ⟨lw_p6, List.forall_mem_cons.mpr ⟨lw_p7, List.forall_mem_cons.mpr ⟨lw_p8, List.forall_mem_cons.mpr ⟨lw_p9, List.forall_mem_cons.mpr ⟨lw_p10, List.forall_mem_cons.mpr ⟨lw_p11, List.forall_mem_cons.mpr ⟨lw_p12, List.forall_mem_cons.mpr ⟨lw_p13, List.forall_mem_cons.mpr ⟨lw_p14, List.forall_mem_cons.mpr ⟨lw_p15, fun _ h => absurd h List.not_mem_nil⟩⟩⟩⟩⟩⟩⟩⟩⟩⟩⟩⟩⟩⟩⟩⟩
theorem lw_p16 : lw_okq (⟨"SpreadGroups$FreeMap", "runAt", "(I)I"⟩, 2) := ⟨⟨by decide +kernel, by decide +kernel⟩, List.mem_of_getElem? (i := 66) (by decide +kernel), List.mem_of_getElem? (i := 570) (by decide +kernel), List.mem_of_getElem? (i := 571) (by decide +kernel)⟩
theorem lw_p17 : lw_okq (⟨"SpreadGroups$FreeMap", "freeBlockIn", "(II)I"⟩, 2) := ⟨⟨by decide +kernel, by decide +kernel⟩, List.mem_of_getElem? (i := 66) (by decide +kernel), List.mem_of_getElem? (i := 574) (by decide +kernel), List.mem_of_getElem? (i := 575) (by decide +kernel)⟩
theorem lw_p18 : lw_okq (⟨"SpreadGroups$FreeMap", "isFreeBlock", "(I)Z"⟩, 2) := ⟨⟨by decide +kernel, by decide +kernel⟩, List.mem_of_getElem? (i := 66) (by decide +kernel), List.mem_of_getElem? (i := 578) (by decide +kernel), List.mem_of_getElem? (i := 579) (by decide +kernel)⟩
theorem lw_p19 : lw_okq (⟨"SpreadGroups", "noteDirectory", "(I)V"⟩, 14) := ⟨⟨by decide +kernel, by decide +kernel⟩, List.mem_of_getElem? (i := 17) (by decide +kernel), List.mem_of_getElem? (i := 589) (by decide +kernel), List.mem_of_getElem? (i := 590) (by decide +kernel)⟩
theorem lw_p20 : lw_okq (⟨"SpreadGroups$Deeds", "layTail", "(II)Z"⟩, 5) := ⟨⟨by decide +kernel, by decide +kernel⟩, List.mem_of_getElem? (i := 137) (by decide +kernel), List.mem_of_getElem? (i := 603) (by decide +kernel), List.mem_of_getElem? (i := 604) (by decide +kernel)⟩
theorem lw_p21 : lw_okq (⟨"SpreadGroups$Deeds", "groupForTail", "(II)I"⟩, 5) := ⟨⟨by decide +kernel, by decide +kernel⟩, List.mem_of_getElem? (i := 137) (by decide +kernel), List.mem_of_getElem? (i := 614) (by decide +kernel), List.mem_of_getElem? (i := 615) (by decide +kernel)⟩
theorem lw_p22 : lw_okq (⟨"SpreadGroups$Deeds", "layBlocks", "(II)Z"⟩, 5) := ⟨⟨by decide +kernel, by decide +kernel⟩, List.mem_of_getElem? (i := 137) (by decide +kernel), List.mem_of_getElem? (i := 624) (by decide +kernel), List.mem_of_getElem? (i := 625) (by decide +kernel)⟩
theorem lw_p23 : lw_okq (⟨"SpreadGroups$Deeds", "layBlock", "(II)Z"⟩, 5) := ⟨⟨by decide +kernel, by decide +kernel⟩, List.mem_of_getElem? (i := 137) (by decide +kernel), List.mem_of_getElem? (i := 632) (by decide +kernel), List.mem_of_getElem? (i := 633) (by decide +kernel)⟩
theorem lw_p24 : lw_okq (⟨"SpreadGroups$Volume", "follows", "(II)Z"⟩, 6) := ⟨⟨by decide +kernel, by decide +kernel⟩, List.mem_of_getElem? (i := 25) (by decide +kernel), List.mem_of_getElem? (i := 704) (by decide +kernel), List.mem_of_getElem? (i := 705) (by decide +kernel)⟩
theorem lw_p25 : lw_okq (⟨"SpreadGroups$Deeds", "gatherAt", "(II)V"⟩, 5) := ⟨⟨by decide +kernel, by decide +kernel⟩, List.mem_of_getElem? (i := 137) (by decide +kernel), List.mem_of_getElem? (i := 836) (by decide +kernel), List.mem_of_getElem? (i := 837) (by decide +kernel)⟩
theorem lw_p26 : lw_okq (⟨"SpreadGroups", "drawnDeed", "()I"⟩, 14) := ⟨⟨by decide +kernel, by decide +kernel⟩, List.mem_of_getElem? (i := 17) (by decide +kernel), List.mem_of_getElem? (i := 846) (by decide +kernel), List.mem_of_getElem? (i := 847) (by decide +kernel)⟩
theorem lw_p27 : lw_okq (⟨"SpreadGroups", "drawnNumber", "()I"⟩, 14) := ⟨⟨by decide +kernel, by decide +kernel⟩, List.mem_of_getElem? (i := 17) (by decide +kernel), List.mem_of_getElem? (i := 850) (by decide +kernel), List.mem_of_getElem? (i := 851) (by decide +kernel)⟩
theorem lw_p28 : lw_okq (⟨"SpreadGroups", "hasImage", "(I)Z"⟩, 14) := ⟨⟨by decide +kernel, by decide +kernel⟩, List.mem_of_getElem? (i := 17) (by decide +kernel), List.mem_of_getElem? (i := 885) (by decide +kernel), List.mem_of_getElem? (i := 886) (by decide +kernel)⟩
theorem lw_p29 : lw_okq (⟨"SpreadGroupsModel", "anew", "()V"⟩, 16) := ⟨⟨by decide +kernel, by decide +kernel⟩, List.mem_of_getElem? (i := 897) (by decide +kernel), List.mem_of_getElem? (i := 903) (by decide +kernel), List.mem_of_getElem? (i := 904) (by decide +kernel)⟩
theorem lw_p30 : lw_okq (⟨"SpreadGroupsModel", "fragments", "()I"⟩, 16) := ⟨⟨by decide +kernel, by decide +kernel⟩, List.mem_of_getElem? (i := 897) (by decide +kernel), List.mem_of_getElem? (i := 907) (by decide +kernel), List.mem_of_getElem? (i := 908) (by decide +kernel)⟩
theorem lw_p31 : lw_okq (⟨"SpreadGroupsModel", "reads", "()V"⟩, 16) := ⟨⟨by decide +kernel, by decide +kernel⟩, List.mem_of_getElem? (i := 897) (by decide +kernel), List.mem_of_getElem? (i := 980) (by decide +kernel), List.mem_of_getElem? (i := 981) (by decide +kernel)⟩
def lw_privs_2 : List (MethodName × Nat) := [(⟨"SpreadGroups$FreeMap", "runAt", "(I)I"⟩, 2), (⟨"SpreadGroups$FreeMap", "freeBlockIn", "(II)I"⟩, 2), (⟨"SpreadGroups$FreeMap", "isFreeBlock", "(I)Z"⟩, 2), (⟨"SpreadGroups", "noteDirectory", "(I)V"⟩, 14), (⟨"SpreadGroups$Deeds", "layTail", "(II)Z"⟩, 5), (⟨"SpreadGroups$Deeds", "groupForTail", "(II)I"⟩, 5), (⟨"SpreadGroups$Deeds", "layBlocks", "(II)Z"⟩, 5), (⟨"SpreadGroups$Deeds", "layBlock", "(II)Z"⟩, 5), (⟨"SpreadGroups$Volume", "follows", "(II)Z"⟩, 6), (⟨"SpreadGroups$Deeds", "gatherAt", "(II)V"⟩, 5), (⟨"SpreadGroups", "drawnDeed", "()I"⟩, 14), (⟨"SpreadGroups", "drawnNumber", "()I"⟩, 14), (⟨"SpreadGroups", "hasImage", "(I)Z"⟩, 14), (⟨"SpreadGroupsModel", "anew", "()V"⟩, 16), (⟨"SpreadGroupsModel", "fragments", "()I"⟩, 16), (⟨"SpreadGroupsModel", "reads", "()V"⟩, 16)]
theorem lw_r2 : ∀ q ∈ lw_privs_2, lw_okq q := List.forall_mem_cons.mpr ⟨lw_p16, List.forall_mem_cons.mpr ⟨lw_p17, List.forall_mem_cons.mpr ⟨lw_p18, List.forall_mem_cons.mpr ⟨lw_p19, List.forall_mem_cons.mpr ⟨lw_p20, List.forall_mem_cons.mpr ⟨lw_p21, List.forall_mem_cons.mpr ⟨lw_p22, List.forall_mem_cons.mpr ⟨lw_p23, List.forall_mem_cons.mpr ⟨lw_p24, List.forall_mem_cons.mpr ⟨lw_p25, List.forall_mem_cons.mpr ⟨lw_p26, List.forall_mem_cons.mpr ⟨lw_p27, List.forall_mem_cons.mpr ⟨lw_p28, List.forall_mem_cons.mpr ⟨lw_p29, List.forall_mem_cons.mpr ⟨lw_p30, List.forall_mem_cons.mpr ⟨lw_p31, fun _ h => absurd h List.not_mem_nil⟩⟩⟩⟩⟩⟩⟩⟩⟩⟩⟩⟩⟩⟩⟩⟩
theorem lw_p32 : lw_okq (⟨"SpreadGroupsModel", "byteAt", "(I)I"⟩, 16) := ⟨⟨by decide +kernel, by decide +kernel⟩, List.mem_of_getElem? (i := 897) (by decide +kernel), List.mem_of_getElem? (i := 984) (by decide +kernel), List.mem_of_getElem? (i := 985) (by decide +kernel)⟩
theorem lw_p33 : lw_okq (⟨"SpreadGroupsModel", "requires", "(ZI)V"⟩, 16) := ⟨⟨by decide +kernel, by decide +kernel⟩, List.mem_of_getElem? (i := 897) (by decide +kernel), List.mem_of_getElem? (i := 992) (by decide +kernel), List.mem_of_getElem? (i := 993) (by decide +kernel)⟩
theorem lw_p34 : lw_okq (⟨"SpreadGroupsModel", "readVolume", "()V"⟩, 16) := ⟨⟨by decide +kernel, by decide +kernel⟩, List.mem_of_getElem? (i := 897) (by decide +kernel), List.mem_of_getElem? (i := 996) (by decide +kernel), List.mem_of_getElem? (i := 997) (by decide +kernel)⟩
theorem lw_p35 : lw_okq (⟨"SpreadGroupsModel", "lineNow", "()I"⟩, 16) := ⟨⟨by decide +kernel, by decide +kernel⟩, List.mem_of_getElem? (i := 897) (by decide +kernel), List.mem_of_getElem? (i := 1000) (by decide +kernel), List.mem_of_getElem? (i := 1001) (by decide +kernel)⟩
theorem lw_p36 : lw_okq (⟨"SpreadGroupsModel", "is", "(IIIII)Z"⟩, 16) := ⟨⟨by decide +kernel, by decide +kernel⟩, List.mem_of_getElem? (i := 897) (by decide +kernel), List.mem_of_getElem? (i := 1004) (by decide +kernel), List.mem_of_getElem? (i := 1005) (by decide +kernel)⟩
theorem lw_p37 : lw_okq (⟨"SpreadGroupsModel", "readNumber", "(II)I"⟩, 16) := ⟨⟨by decide +kernel, by decide +kernel⟩, List.mem_of_getElem? (i := 897) (by decide +kernel), List.mem_of_getElem? (i := 1008) (by decide +kernel), List.mem_of_getElem? (i := 1009) (by decide +kernel)⟩
theorem lw_p38 : lw_okq (⟨"SpreadGroupsModel", "requiresStop", "()V"⟩, 16) := ⟨⟨by decide +kernel, by decide +kernel⟩, List.mem_of_getElem? (i := 897) (by decide +kernel), List.mem_of_getElem? (i := 1012) (by decide +kernel), List.mem_of_getElem? (i := 1013) (by decide +kernel)⟩
theorem lw_p39 : lw_okq (⟨"SpreadGroupsModel", "readLine", "()V"⟩, 16) := ⟨⟨by decide +kernel, by decide +kernel⟩, List.mem_of_getElem? (i := 897) (by decide +kernel), List.mem_of_getElem? (i := 1016) (by decide +kernel), List.mem_of_getElem? (i := 1017) (by decide +kernel)⟩
theorem lw_p40 : lw_okq (⟨"SpreadGroupsModel", "inodeOf", "(II)I"⟩, 16) := ⟨⟨by decide +kernel, by decide +kernel⟩, List.mem_of_getElem? (i := 897) (by decide +kernel), List.mem_of_getElem? (i := 1020) (by decide +kernel), List.mem_of_getElem? (i := 1021) (by decide +kernel)⟩
theorem lw_p41 : lw_okq (⟨"SpreadGroupsModel", "inodes", "()I"⟩, 16) := ⟨⟨by decide +kernel, by decide +kernel⟩, List.mem_of_getElem? (i := 897) (by decide +kernel), List.mem_of_getElem? (i := 1024) (by decide +kernel), List.mem_of_getElem? (i := 1025) (by decide +kernel)⟩
theorem lw_p42 : lw_okq (⟨"SpreadGroupsModel", "isThere", "(I)Z"⟩, 16) := ⟨⟨by decide +kernel, by decide +kernel⟩, List.mem_of_getElem? (i := 897) (by decide +kernel), List.mem_of_getElem? (i := 1028) (by decide +kernel), List.mem_of_getElem? (i := 1029) (by decide +kernel)⟩
theorem lw_p43 : lw_okq (⟨"SpreadGroupsModel", "isInode", "(I)Z"⟩, 16) := ⟨⟨by decide +kernel, by decide +kernel⟩, List.mem_of_getElem? (i := 897) (by decide +kernel), List.mem_of_getElem? (i := 1032) (by decide +kernel), List.mem_of_getElem? (i := 1033) (by decide +kernel)⟩
theorem lw_p44 : lw_okq (⟨"SpreadGroupsModel", "of", "(II)I"⟩, 16) := ⟨⟨by decide +kernel, by decide +kernel⟩, List.mem_of_getElem? (i := 897) (by decide +kernel), List.mem_of_getElem? (i := 1036) (by decide +kernel), List.mem_of_getElem? (i := 1037) (by decide +kernel)⟩
theorem lw_p45 : lw_okq (⟨"SpreadGroupsModel", "comes", "(IIII)V"⟩, 16) := ⟨⟨by decide +kernel, by decide +kernel⟩, List.mem_of_getElem? (i := 897) (by decide +kernel), List.mem_of_getElem? (i := 1040) (by decide +kernel), List.mem_of_getElem? (i := 1041) (by decide +kernel)⟩
theorem lw_p46 : lw_okq (⟨"SpreadGroupsModel", "makes", "(III)I"⟩, 16) := ⟨⟨by decide +kernel, by decide +kernel⟩, List.mem_of_getElem? (i := 897) (by decide +kernel), List.mem_of_getElem? (i := 1044) (by decide +kernel), List.mem_of_getElem? (i := 1045) (by decide +kernel)⟩
theorem lw_p47 : lw_okq (⟨"SpreadGroupsModel", "groupFor", "(II)I"⟩, 16) := ⟨⟨by decide +kernel, by decide +kernel⟩, List.mem_of_getElem? (i := 897) (by decide +kernel), List.mem_of_getElem? (i := 1048) (by decide +kernel), List.mem_of_getElem? (i := 1049) (by decide +kernel)⟩
def lw_privs_3 : List (MethodName × Nat) := [(⟨"SpreadGroupsModel", "byteAt", "(I)I"⟩, 16), (⟨"SpreadGroupsModel", "requires", "(ZI)V"⟩, 16), (⟨"SpreadGroupsModel", "readVolume", "()V"⟩, 16), (⟨"SpreadGroupsModel", "lineNow", "()I"⟩, 16), (⟨"SpreadGroupsModel", "is", "(IIIII)Z"⟩, 16), (⟨"SpreadGroupsModel", "readNumber", "(II)I"⟩, 16), (⟨"SpreadGroupsModel", "requiresStop", "()V"⟩, 16), (⟨"SpreadGroupsModel", "readLine", "()V"⟩, 16), (⟨"SpreadGroupsModel", "inodeOf", "(II)I"⟩, 16), (⟨"SpreadGroupsModel", "inodes", "()I"⟩, 16), (⟨"SpreadGroupsModel", "isThere", "(I)Z"⟩, 16), (⟨"SpreadGroupsModel", "isInode", "(I)Z"⟩, 16), (⟨"SpreadGroupsModel", "of", "(II)I"⟩, 16), (⟨"SpreadGroupsModel", "comes", "(IIII)V"⟩, 16), (⟨"SpreadGroupsModel", "makes", "(III)I"⟩, 16), (⟨"SpreadGroupsModel", "groupFor", "(II)I"⟩, 16)]
theorem lw_r3 : ∀ q ∈ lw_privs_3, lw_okq q := List.forall_mem_cons.mpr ⟨lw_p32, List.forall_mem_cons.mpr ⟨lw_p33, List.forall_mem_cons.mpr ⟨lw_p34, List.forall_mem_cons.mpr ⟨lw_p35, List.forall_mem_cons.mpr ⟨lw_p36, List.forall_mem_cons.mpr ⟨lw_p37, List.forall_mem_cons.mpr ⟨lw_p38, List.forall_mem_cons.mpr ⟨lw_p39, List.forall_mem_cons.mpr ⟨lw_p40, List.forall_mem_cons.mpr ⟨lw_p41, List.forall_mem_cons.mpr ⟨lw_p42, List.forall_mem_cons.mpr ⟨lw_p43, List.forall_mem_cons.mpr ⟨lw_p44, List.forall_mem_cons.mpr ⟨lw_p45, List.forall_mem_cons.mpr ⟨lw_p46, List.forall_mem_cons.mpr ⟨lw_p47, fun _ h => absurd h List.not_mem_nil⟩⟩⟩⟩⟩⟩⟩⟩⟩⟩⟩⟩⟩⟩⟩⟩
theorem lw_p48 : lw_okq (⟨"SpreadGroupsModel", "groupForDirectory", "()I"⟩, 16) := ⟨⟨by decide +kernel, by decide +kernel⟩, List.mem_of_getElem? (i := 897) (by decide +kernel), List.mem_of_getElem? (i := 1052) (by decide +kernel), List.mem_of_getElem? (i := 1053) (by decide +kernel)⟩
theorem lw_p49 : lw_okq (⟨"SpreadGroupsModel", "nothings", "(I)I"⟩, 16) := ⟨⟨by decide +kernel, by decide +kernel⟩, List.mem_of_getElem? (i := 897) (by decide +kernel), List.mem_of_getElem? (i := 1056) (by decide +kernel), List.mem_of_getElem? (i := 1057) (by decide +kernel)⟩
theorem lw_p50 : lw_okq (⟨"SpreadGroupsModel", "directories", "(I)I"⟩, 16) := ⟨⟨by decide +kernel, by decide +kernel⟩, List.mem_of_getElem? (i := 897) (by decide +kernel), List.mem_of_getElem? (i := 1063) (by decide +kernel), List.mem_of_getElem? (i := 1064) (by decide +kernel)⟩
theorem lw_p51 : lw_okq (⟨"SpreadGroupsModel", "groupForFile", "(I)I"⟩, 16) := ⟨⟨by decide +kernel, by decide +kernel⟩, List.mem_of_getElem? (i := 897) (by decide +kernel), List.mem_of_getElem? (i := 1067) (by decide +kernel), List.mem_of_getElem? (i := 1068) (by decide +kernel)⟩
theorem lw_p52 : lw_okq (⟨"SpreadGroupsModel", "behind", "(II)I"⟩, 16) := ⟨⟨by decide +kernel, by decide +kernel⟩, List.mem_of_getElem? (i := 897) (by decide +kernel), List.mem_of_getElem? (i := 1071) (by decide +kernel), List.mem_of_getElem? (i := 1072) (by decide +kernel)⟩
theorem lw_p53 : lw_okq (⟨"SpreadGroupsModel", "room", "()I"⟩, 16) := ⟨⟨by decide +kernel, by decide +kernel⟩, List.mem_of_getElem? (i := 897) (by decide +kernel), List.mem_of_getElem? (i := 1075) (by decide +kernel), List.mem_of_getElem? (i := 1076) (by decide +kernel)⟩
theorem lw_p54 : lw_okq (⟨"SpreadGroupsModel", "freeIn", "(II)I"⟩, 16) := ⟨⟨by decide +kernel, by decide +kernel⟩, List.mem_of_getElem? (i := 897) (by decide +kernel), List.mem_of_getElem? (i := 1079) (by decide +kernel), List.mem_of_getElem? (i := 1080) (by decide +kernel)⟩
theorem lw_p55 : lw_okq (⟨"SpreadGroupsModel", "isFree", "(I)Z"⟩, 16) := ⟨⟨by decide +kernel, by decide +kernel⟩, List.mem_of_getElem? (i := 897) (by decide +kernel), List.mem_of_getElem? (i := 1083) (by decide +kernel), List.mem_of_getElem? (i := 1084) (by decide +kernel)⟩
theorem lw_p56 : lw_okq (⟨"SpreadGroupsModel", "runNear", "(II)I"⟩, 16) := ⟨⟨by decide +kernel, by decide +kernel⟩, List.mem_of_getElem? (i := 897) (by decide +kernel), List.mem_of_getElem? (i := 1087) (by decide +kernel), List.mem_of_getElem? (i := 1088) (by decide +kernel)⟩
theorem lw_p57 : lw_okq (⟨"SpreadGroupsModel", "runIn", "(II)I"⟩, 16) := ⟨⟨by decide +kernel, by decide +kernel⟩, List.mem_of_getElem? (i := 897) (by decide +kernel), List.mem_of_getElem? (i := 1091) (by decide +kernel), List.mem_of_getElem? (i := 1092) (by decide +kernel)⟩
theorem lw_p58 : lw_okq (⟨"SpreadGroupsModel", "runAt", "(I)I"⟩, 16) := ⟨⟨by decide +kernel, by decide +kernel⟩, List.mem_of_getElem? (i := 897) (by decide +kernel), List.mem_of_getElem? (i := 1095) (by decide +kernel), List.mem_of_getElem? (i := 1096) (by decide +kernel)⟩
theorem lw_p59 : lw_okq (⟨"SpreadGroupsModel", "isFreeBlock", "(I)Z"⟩, 16) := ⟨⟨by decide +kernel, by decide +kernel⟩, List.mem_of_getElem? (i := 897) (by decide +kernel), List.mem_of_getElem? (i := 1099) (by decide +kernel), List.mem_of_getElem? (i := 1100) (by decide +kernel)⟩
theorem lw_p60 : lw_okq (⟨"SpreadGroupsModel", "areFree", "(II)Z"⟩, 16) := ⟨⟨by decide +kernel, by decide +kernel⟩, List.mem_of_getElem? (i := 897) (by decide +kernel), List.mem_of_getElem? (i := 1103) (by decide +kernel), List.mem_of_getElem? (i := 1104) (by decide +kernel)⟩
theorem lw_p61 : lw_okq (⟨"SpreadGroupsModel", "sets", "(III)V"⟩, 16) := ⟨⟨by decide +kernel, by decide +kernel⟩, List.mem_of_getElem? (i := 897) (by decide +kernel), List.mem_of_getElem? (i := 1107) (by decide +kernel), List.mem_of_getElem? (i := 1108) (by decide +kernel)⟩
theorem lw_p62 : lw_okq (⟨"SpreadGroupsModel", "lets", "(IZ)V"⟩, 16) := ⟨⟨by decide +kernel, by decide +kernel⟩, List.mem_of_getElem? (i := 897) (by decide +kernel), List.mem_of_getElem? (i := 1111) (by decide +kernel), List.mem_of_getElem? (i := 1112) (by decide +kernel)⟩
theorem lw_p63 : lw_okq (⟨"SpreadGroupsModel", "grows", "(II)I"⟩, 16) := ⟨⟨by decide +kernel, by decide +kernel⟩, List.mem_of_getElem? (i := 897) (by decide +kernel), List.mem_of_getElem? (i := 1115) (by decide +kernel), List.mem_of_getElem? (i := 1116) (by decide +kernel)⟩
def lw_privs_4 : List (MethodName × Nat) := [(⟨"SpreadGroupsModel", "groupForDirectory", "()I"⟩, 16), (⟨"SpreadGroupsModel", "nothings", "(I)I"⟩, 16), (⟨"SpreadGroupsModel", "directories", "(I)I"⟩, 16), (⟨"SpreadGroupsModel", "groupForFile", "(I)I"⟩, 16), (⟨"SpreadGroupsModel", "behind", "(II)I"⟩, 16), (⟨"SpreadGroupsModel", "room", "()I"⟩, 16), (⟨"SpreadGroupsModel", "freeIn", "(II)I"⟩, 16), (⟨"SpreadGroupsModel", "isFree", "(I)Z"⟩, 16), (⟨"SpreadGroupsModel", "runNear", "(II)I"⟩, 16), (⟨"SpreadGroupsModel", "runIn", "(II)I"⟩, 16), (⟨"SpreadGroupsModel", "runAt", "(I)I"⟩, 16), (⟨"SpreadGroupsModel", "isFreeBlock", "(I)Z"⟩, 16), (⟨"SpreadGroupsModel", "areFree", "(II)Z"⟩, 16), (⟨"SpreadGroupsModel", "sets", "(III)V"⟩, 16), (⟨"SpreadGroupsModel", "lets", "(IZ)V"⟩, 16), (⟨"SpreadGroupsModel", "grows", "(II)I"⟩, 16)]
theorem lw_r4 : ∀ q ∈ lw_privs_4, lw_okq q := List.forall_mem_cons.mpr ⟨lw_p48, List.forall_mem_cons.mpr ⟨lw_p49, List.forall_mem_cons.mpr ⟨lw_p50, List.forall_mem_cons.mpr ⟨lw_p51, List.forall_mem_cons.mpr ⟨lw_p52, List.forall_mem_cons.mpr ⟨lw_p53, List.forall_mem_cons.mpr ⟨lw_p54, List.forall_mem_cons.mpr ⟨lw_p55, List.forall_mem_cons.mpr ⟨lw_p56, List.forall_mem_cons.mpr ⟨lw_p57, List.forall_mem_cons.mpr ⟨lw_p58, List.forall_mem_cons.mpr ⟨lw_p59, List.forall_mem_cons.mpr ⟨lw_p60, List.forall_mem_cons.mpr ⟨lw_p61, List.forall_mem_cons.mpr ⟨lw_p62, List.forall_mem_cons.mpr ⟨lw_p63, fun _ h => absurd h List.not_mem_nil⟩⟩⟩⟩⟩⟩⟩⟩⟩⟩⟩⟩⟩⟩⟩⟩
theorem lw_p64 : lw_okq (⟨"SpreadGroupsModel", "canGrow", "(II)Z"⟩, 16) := ⟨⟨by decide +kernel, by decide +kernel⟩, List.mem_of_getElem? (i := 897) (by decide +kernel), List.mem_of_getElem? (i := 1119) (by decide +kernel), List.mem_of_getElem? (i := 1120) (by decide +kernel)⟩
theorem lw_p65 : lw_okq (⟨"SpreadGroupsModel", "blocks", "(I)I"⟩, 16) := ⟨⟨by decide +kernel, by decide +kernel⟩, List.mem_of_getElem? (i := 897) (by decide +kernel), List.mem_of_getElem? (i := 1123) (by decide +kernel), List.mem_of_getElem? (i := 1124) (by decide +kernel)⟩
theorem lw_p66 : lw_okq (⟨"SpreadGroupsModel", "tail", "(I)I"⟩, 16) := ⟨⟨by decide +kernel, by decide +kernel⟩, List.mem_of_getElem? (i := 897) (by decide +kernel), List.mem_of_getElem? (i := 1127) (by decide +kernel), List.mem_of_getElem? (i := 1128) (by decide +kernel)⟩
theorem lw_p67 : lw_okq (⟨"SpreadGroupsModel", "widens", "(III)Z"⟩, 16) := ⟨⟨by decide +kernel, by decide +kernel⟩, List.mem_of_getElem? (i := 897) (by decide +kernel), List.mem_of_getElem? (i := 1131) (by decide +kernel), List.mem_of_getElem? (i := 1132) (by decide +kernel)⟩
theorem lw_p68 : lw_okq (⟨"SpreadGroupsModel", "letsAll", "(IIZ)V"⟩, 16) := ⟨⟨by decide +kernel, by decide +kernel⟩, List.mem_of_getElem? (i := 897) (by decide +kernel), List.mem_of_getElem? (i := 1135) (by decide +kernel), List.mem_of_getElem? (i := 1136) (by decide +kernel)⟩
theorem lw_p69 : lw_okq (⟨"SpreadGroupsModel", "takesTail", "(III)Z"⟩, 16) := ⟨⟨by decide +kernel, by decide +kernel⟩, List.mem_of_getElem? (i := 897) (by decide +kernel), List.mem_of_getElem? (i := 1139) (by decide +kernel), List.mem_of_getElem? (i := 1140) (by decide +kernel)⟩
theorem lw_p70 : lw_okq (⟨"SpreadGroupsModel", "fills", "(II)Z"⟩, 16) := ⟨⟨by decide +kernel, by decide +kernel⟩, List.mem_of_getElem? (i := 897) (by decide +kernel), List.mem_of_getElem? (i := 1143) (by decide +kernel), List.mem_of_getElem? (i := 1144) (by decide +kernel)⟩
theorem lw_p71 : lw_okq (⟨"SpreadGroupsModel", "takesBlock", "(II)Z"⟩, 16) := ⟨⟨by decide +kernel, by decide +kernel⟩, List.mem_of_getElem? (i := 897) (by decide +kernel), List.mem_of_getElem? (i := 1147) (by decide +kernel), List.mem_of_getElem? (i := 1148) (by decide +kernel)⟩
theorem lw_p72 : lw_okq (⟨"SpreadGroupsModel", "groupOfBlock", "(II)I"⟩, 16) := ⟨⟨by decide +kernel, by decide +kernel⟩, List.mem_of_getElem? (i := 897) (by decide +kernel), List.mem_of_getElem? (i := 1151) (by decide +kernel), List.mem_of_getElem? (i := 1152) (by decide +kernel)⟩
theorem lw_p73 : lw_okq (⟨"SpreadGroupsModel", "freeBlocks", "(I)I"⟩, 16) := ⟨⟨by decide +kernel, by decide +kernel⟩, List.mem_of_getElem? (i := 897) (by decide +kernel), List.mem_of_getElem? (i := 1155) (by decide +kernel), List.mem_of_getElem? (i := 1156) (by decide +kernel)⟩
theorem lw_p74 : lw_okq (⟨"SpreadGroupsModel", "allFreeBlocks", "()I"⟩, 16) := ⟨⟨by decide +kernel, by decide +kernel⟩, List.mem_of_getElem? (i := 897) (by decide +kernel), List.mem_of_getElem? (i := 1159) (by decide +kernel), List.mem_of_getElem? (i := 1160) (by decide +kernel)⟩
theorem lw_p75 : lw_okq (⟨"SpreadGroupsModel", "placeOfBlock", "(II)I"⟩, 16) := ⟨⟨by decide +kernel, by decide +kernel⟩, List.mem_of_getElem? (i := 897) (by decide +kernel), List.mem_of_getElem? (i := 1163) (by decide +kernel), List.mem_of_getElem? (i := 1164) (by decide +kernel)⟩
theorem lw_p76 : lw_okq (⟨"SpreadGroupsModel", "blockNear", "(II)I"⟩, 16) := ⟨⟨by decide +kernel, by decide +kernel⟩, List.mem_of_getElem? (i := 897) (by decide +kernel), List.mem_of_getElem? (i := 1167) (by decide +kernel), List.mem_of_getElem? (i := 1168) (by decide +kernel)⟩
theorem lw_p77 : lw_okq (⟨"SpreadGroupsModel", "forgets", "()V"⟩, 16) := ⟨⟨by decide +kernel, by decide +kernel⟩, List.mem_of_getElem? (i := 897) (by decide +kernel), List.mem_of_getElem? (i := 1171) (by decide +kernel), List.mem_of_getElem? (i := 1172) (by decide +kernel)⟩
theorem lw_p78 : lw_okq (⟨"SpreadGroupsModel", "inodesThere", "()I"⟩, 16) := ⟨⟨by decide +kernel, by decide +kernel⟩, List.mem_of_getElem? (i := 897) (by decide +kernel), List.mem_of_getElem? (i := 1175) (by decide +kernel), List.mem_of_getElem? (i := 1176) (by decide +kernel)⟩
theorem lw_p79 : lw_okq (⟨"SpreadGroupsModel", "ofKind", "(I)I"⟩, 16) := ⟨⟨by decide +kernel, by decide +kernel⟩, List.mem_of_getElem? (i := 897) (by decide +kernel), List.mem_of_getElem? (i := 1187) (by decide +kernel), List.mem_of_getElem? (i := 1188) (by decide +kernel)⟩
def lw_privs_5 : List (MethodName × Nat) := [(⟨"SpreadGroupsModel", "canGrow", "(II)Z"⟩, 16), (⟨"SpreadGroupsModel", "blocks", "(I)I"⟩, 16), (⟨"SpreadGroupsModel", "tail", "(I)I"⟩, 16), (⟨"SpreadGroupsModel", "widens", "(III)Z"⟩, 16), (⟨"SpreadGroupsModel", "letsAll", "(IIZ)V"⟩, 16), (⟨"SpreadGroupsModel", "takesTail", "(III)Z"⟩, 16), (⟨"SpreadGroupsModel", "fills", "(II)Z"⟩, 16), (⟨"SpreadGroupsModel", "takesBlock", "(II)Z"⟩, 16), (⟨"SpreadGroupsModel", "groupOfBlock", "(II)I"⟩, 16), (⟨"SpreadGroupsModel", "freeBlocks", "(I)I"⟩, 16), (⟨"SpreadGroupsModel", "allFreeBlocks", "()I"⟩, 16), (⟨"SpreadGroupsModel", "placeOfBlock", "(II)I"⟩, 16), (⟨"SpreadGroupsModel", "blockNear", "(II)I"⟩, 16), (⟨"SpreadGroupsModel", "forgets", "()V"⟩, 16), (⟨"SpreadGroupsModel", "inodesThere", "()I"⟩, 16), (⟨"SpreadGroupsModel", "ofKind", "(I)I"⟩, 16)]
theorem lw_r5 : ∀ q ∈ lw_privs_5, lw_okq q := List.forall_mem_cons.mpr ⟨lw_p64, List.forall_mem_cons.mpr ⟨lw_p65, List.forall_mem_cons.mpr ⟨lw_p66, List.forall_mem_cons.mpr ⟨lw_p67, List.forall_mem_cons.mpr ⟨lw_p68, List.forall_mem_cons.mpr ⟨lw_p69, List.forall_mem_cons.mpr ⟨lw_p70, List.forall_mem_cons.mpr ⟨lw_p71, List.forall_mem_cons.mpr ⟨lw_p72, List.forall_mem_cons.mpr ⟨lw_p73, List.forall_mem_cons.mpr ⟨lw_p74, List.forall_mem_cons.mpr ⟨lw_p75, List.forall_mem_cons.mpr ⟨lw_p76, List.forall_mem_cons.mpr ⟨lw_p77, List.forall_mem_cons.mpr ⟨lw_p78, List.forall_mem_cons.mpr ⟨lw_p79, fun _ h => absurd h List.not_mem_nil⟩⟩⟩⟩⟩⟩⟩⟩⟩⟩⟩⟩⟩⟩⟩⟩
theorem lw_p80 : lw_okq (⟨"SpreadGroupsModel", "summed", "(I)I"⟩, 16) := ⟨⟨by decide +kernel, by decide +kernel⟩, List.mem_of_getElem? (i := 897) (by decide +kernel), List.mem_of_getElem? (i := 1191) (by decide +kernel), List.mem_of_getElem? (i := 1192) (by decide +kernel)⟩
theorem lw_p81 : lw_okq (⟨"SpreadGroupsModel", "pairs", "(I)I"⟩, 16) := ⟨⟨by decide +kernel, by decide +kernel⟩, List.mem_of_getElem? (i := 897) (by decide +kernel), List.mem_of_getElem? (i := 1195) (by decide +kernel), List.mem_of_getElem? (i := 1196) (by decide +kernel)⟩
theorem lw_p82 : lw_okq (⟨"SpreadGroupsModel", "follows", "(I)I"⟩, 16) := ⟨⟨by decide +kernel, by decide +kernel⟩, List.mem_of_getElem? (i := 897) (by decide +kernel), List.mem_of_getElem? (i := 1199) (by decide +kernel), List.mem_of_getElem? (i := 1200) (by decide +kernel)⟩
theorem lw_p83 : lw_okq (⟨"SpreadGroupsModel", "runs", "(II)I"⟩, 16) := ⟨⟨by decide +kernel, by decide +kernel⟩, List.mem_of_getElem? (i := 897) (by decide +kernel), List.mem_of_getElem? (i := 1207) (by decide +kernel), List.mem_of_getElem? (i := 1208) (by decide +kernel)⟩
theorem lw_p84 : lw_okq (⟨"SpreadGroupsModel", "owner", "(I)I"⟩, 16) := ⟨⟨by decide +kernel, by decide +kernel⟩, List.mem_of_getElem? (i := 897) (by decide +kernel), List.mem_of_getElem? (i := 1224) (by decide +kernel), List.mem_of_getElem? (i := 1225) (by decide +kernel)⟩
theorem lw_p85 : lw_okq (⟨"SpreadGroupsModel", "isDirectory", "(I)Z"⟩, 16) := ⟨⟨by decide +kernel, by decide +kernel⟩, List.mem_of_getElem? (i := 897) (by decide +kernel), List.mem_of_getElem? (i := 1232) (by decide +kernel), List.mem_of_getElem? (i := 1233) (by decide +kernel)⟩
theorem lw_p86 : lw_okq (⟨"SpreadGroupsModel", "isSpoilt", "()Z"⟩, 16) := ⟨⟨by decide +kernel, by decide +kernel⟩, List.mem_of_getElem? (i := 897) (by decide +kernel), List.mem_of_getElem? (i := 1250) (by decide +kernel), List.mem_of_getElem? (i := 1251) (by decide +kernel)⟩
theorem lw_p87 : lw_okq (⟨"SpreadGroupsModel", "isFile", "(I)Z"⟩, 16) := ⟨⟨by decide +kernel, by decide +kernel⟩, List.mem_of_getElem? (i := 897) (by decide +kernel), List.mem_of_getElem? (i := 1258) (by decide +kernel), List.mem_of_getElem? (i := 1259) (by decide +kernel)⟩
theorem lw_p88 : lw_okq (⟨"SpreadGroupsModel", "hasOthers", "(I)Z"⟩, 16) := ⟨⟨by decide +kernel, by decide +kernel⟩, List.mem_of_getElem? (i := 897) (by decide +kernel), List.mem_of_getElem? (i := 1271) (by decide +kernel), List.mem_of_getElem? (i := 1272) (by decide +kernel)⟩
theorem lw_p89 : lw_okq (⟨"SpreadGroupsModel", "isWithin", "(II)Z"⟩, 16) := ⟨⟨by decide +kernel, by decide +kernel⟩, List.mem_of_getElem? (i := 897) (by decide +kernel), List.mem_of_getElem? (i := 1279) (by decide +kernel), List.mem_of_getElem? (i := 1280) (by decide +kernel)⟩
theorem lw_p90 : lw_okq (⟨"SpreadGroupsModel", "farFromRoot", "(I)I"⟩, 16) := ⟨⟨by decide +kernel, by decide +kernel⟩, List.mem_of_getElem? (i := 897) (by decide +kernel), List.mem_of_getElem? (i := 1283) (by decide +kernel), List.mem_of_getElem? (i := 1284) (by decide +kernel)⟩
theorem lw_p91 : lw_okq (⟨"SpreadGroupsModel", "isRowFree", "(III)Z"⟩, 16) := ⟨⟨by decide +kernel, by decide +kernel⟩, List.mem_of_getElem? (i := 897) (by decide +kernel), List.mem_of_getElem? (i := 1291) (by decide +kernel), List.mem_of_getElem? (i := 1292) (by decide +kernel)⟩
theorem lw_p92 : lw_okq (⟨"SpreadGroupsModel", "gathers", "(III)V"⟩, 16) := ⟨⟨by decide +kernel, by decide +kernel⟩, List.mem_of_getElem? (i := 897) (by decide +kernel), List.mem_of_getElem? (i := 1295) (by decide +kernel), List.mem_of_getElem? (i := 1296) (by decide +kernel)⟩
theorem lw_p93 : lw_okq (⟨"SpreadGroupsModel", "gets", "()I"⟩, 16) := ⟨⟨by decide +kernel, by decide +kernel⟩, List.mem_of_getElem? (i := 897) (by decide +kernel), List.mem_of_getElem? (i := 1304) (by decide +kernel), List.mem_of_getElem? (i := 1305) (by decide +kernel)⟩
theorem lw_p94 : lw_okq (⟨"SpreadGroupsModel", "deed", "(IIII)I"⟩, 16) := ⟨⟨by decide +kernel, by decide +kernel⟩, List.mem_of_getElem? (i := 897) (by decide +kernel), List.mem_of_getElem? (i := 1309) (by decide +kernel), List.mem_of_getElem? (i := 1310) (by decide +kernel)⟩
def lw_privs_6 : List (MethodName × Nat) := [(⟨"SpreadGroupsModel", "summed", "(I)I"⟩, 16), (⟨"SpreadGroupsModel", "pairs", "(I)I"⟩, 16), (⟨"SpreadGroupsModel", "follows", "(I)I"⟩, 16), (⟨"SpreadGroupsModel", "runs", "(II)I"⟩, 16), (⟨"SpreadGroupsModel", "owner", "(I)I"⟩, 16), (⟨"SpreadGroupsModel", "isDirectory", "(I)Z"⟩, 16), (⟨"SpreadGroupsModel", "isSpoilt", "()Z"⟩, 16), (⟨"SpreadGroupsModel", "isFile", "(I)Z"⟩, 16), (⟨"SpreadGroupsModel", "hasOthers", "(I)Z"⟩, 16), (⟨"SpreadGroupsModel", "isWithin", "(II)Z"⟩, 16), (⟨"SpreadGroupsModel", "farFromRoot", "(I)I"⟩, 16), (⟨"SpreadGroupsModel", "isRowFree", "(III)Z"⟩, 16), (⟨"SpreadGroupsModel", "gathers", "(III)V"⟩, 16), (⟨"SpreadGroupsModel", "gets", "()I"⟩, 16), (⟨"SpreadGroupsModel", "deed", "(IIII)I"⟩, 16)]
theorem lw_r6 : ∀ q ∈ lw_privs_6, lw_okq q := List.forall_mem_cons.mpr ⟨lw_p80, List.forall_mem_cons.mpr ⟨lw_p81, List.forall_mem_cons.mpr ⟨lw_p82, List.forall_mem_cons.mpr ⟨lw_p83, List.forall_mem_cons.mpr ⟨lw_p84, List.forall_mem_cons.mpr ⟨lw_p85, List.forall_mem_cons.mpr ⟨lw_p86, List.forall_mem_cons.mpr ⟨lw_p87, List.forall_mem_cons.mpr ⟨lw_p88, List.forall_mem_cons.mpr ⟨lw_p89, List.forall_mem_cons.mpr ⟨lw_p90, List.forall_mem_cons.mpr ⟨lw_p91, List.forall_mem_cons.mpr ⟨lw_p92, List.forall_mem_cons.mpr ⟨lw_p93, List.forall_mem_cons.mpr ⟨lw_p94, fun _ h => absurd h List.not_mem_nil⟩⟩⟩⟩⟩⟩⟩⟩⟩⟩⟩⟩⟩⟩⟩
def lw_privs : List (MethodName × Nat) := lw_privs_1 ++ (lw_privs_2 ++ (lw_privs_3 ++ (lw_privs_4 ++ (lw_privs_5 ++ (lw_privs_6)))))
def lw_tbl : List Cond := k2_sels lw_privs ++ tables_1
theorem lw_privs_ok : ∀ q ∈ lw_privs, lw_okq q := by
  show ∀ q ∈ lw_privs_1 ++ (lw_privs_2 ++ (lw_privs_3 ++ (lw_privs_4 ++ (lw_privs_5 ++ (lw_privs_6))))), lw_okq q
  exact List.forall_mem_append.mpr ⟨lw_r1, List.forall_mem_append.mpr ⟨lw_r2, List.forall_mem_append.mpr ⟨lw_r3, List.forall_mem_append.mpr ⟨lw_r4, List.forall_mem_append.mpr ⟨lw_r5, lw_r6⟩⟩⟩⟩⟩
end
section
def RX0 : String := "SpreadGroups$Deeds"
def TX0 : u_T := fun k => match k with
  | 0 => ("SpreadGroups$Deeds", "volume", "LSpreadGroups$Volume;", true)
  | 1 => ("SpreadGroups$Deeds", "layout", "LSpreadGroups$Layout;", true)
  | 2 => ("SpreadGroups$Deeds", "map", "LSpreadGroups$FreeMap;", true)
  | 3 => ("SpreadGroups$Deeds", "inodes", "LSpreadGroups$Inodes;", true)
  | _ => ("SpreadGroups$Deeds", "mapBefore", "LSpreadGroups$FreeMap;", true)
def tyX0 : Nat → FieldType := fun k => match k with
  | 0 => .object "SpreadGroups$Volume"
  | 1 => .object "SpreadGroups$Layout"
  | 2 => .object "SpreadGroups$FreeMap"
  | 3 => .object "SpreadGroups$Inodes"
  | _ => .object "SpreadGroups$FreeMap"
abbrev wsX00 : List Cond := u_ws RX0 TX0 5
theorem nmX0 : ∀ a, a < 5 → ∀ b, b < 5 → a ≠ b → (TX0 a).2.1 ≠ (TX0 b).2.1 := by decide +kernel
theorem tyX0_ok : ∀ k, k < 5 → parseFieldDescriptor (TX0 k).2.2.1 = some (tyX0 k) := by decide +kernel
abbrev cX0_init : ByteArray := prog_2_method_1_code
def yX0_init : MethodName := ⟨RX0, "<init>", "(LSpreadGroups$Volume;)V"⟩
abbrev cX0_makeInode : ByteArray := prog_2_method_2_code
def yX0_makeInode : MethodName := ⟨RX0, "makeInode", "(III)I"⟩
abbrev cX0_lacksRoomFor : ByteArray := prog_2_method_3_code
def yX0_lacksRoomFor : MethodName := ⟨RX0, "lacksRoomFor", "(I)Z"⟩
abbrev cX0_growFile : ByteArray := prog_2_method_4_code
def yX0_growFile : MethodName := ⟨RX0, "growFile", "(II)I"⟩
abbrev cX0_layTail : ByteArray := prog_2_method_5_code
def yX0_layTail : MethodName := ⟨RX0, "layTail", "(II)Z"⟩
abbrev cX0_layBlocks : ByteArray := prog_2_method_6_code
def yX0_layBlocks : MethodName := ⟨RX0, "layBlocks", "(II)Z"⟩
abbrev cX0_layBlock : ByteArray := prog_2_method_7_code
def yX0_layBlock : MethodName := ⟨RX0, "layBlock", "(II)Z"⟩
abbrev cX0_groupForTail : ByteArray := prog_2_method_8_code
def yX0_groupForTail : MethodName := ⟨RX0, "groupForTail", "(II)I"⟩
abbrev cX0_shrinkFile : ByteArray := prog_2_method_9_code
def yX0_shrinkFile : MethodName := ⟨RX0, "shrinkFile", "(II)I"⟩
abbrev cX0_removeInode : ByteArray := prog_2_method_10_code
def yX0_removeInode : MethodName := ⟨RX0, "removeInode", "(I)I"⟩
abbrev cX0_moveInode : ByteArray := prog_2_method_11_code
def yX0_moveInode : MethodName := ⟨RX0, "moveInode", "(III)I"⟩
abbrev cX0_gatherFile : ByteArray := prog_2_method_12_code
def yX0_gatherFile : MethodName := ⟨RX0, "gatherFile", "(I)I"⟩
abbrev cX0_gatherAt : ByteArray := prog_2_method_13_code
def yX0_gatherAt : MethodName := ⟨RX0, "gatherAt", "(II)V"⟩
def RX1 : String := "SpreadGroups$FreeMap"
def TX1 : u_T := fun k => match k with
  | 0 => ("SpreadGroups$FreeMap", "layout", "LSpreadGroups$Layout;", true)
  | _ => ("SpreadGroups$FreeMap", "bits", "[I", true)
def tyX1 : Nat → FieldType := fun k => match k with
  | 0 => .object "SpreadGroups$Layout"
  | _ => .array .int
abbrev wsX10 : List Cond := u_ws RX1 TX1 2
theorem nmX1 : ∀ a, a < 2 → ∀ b, b < 2 → a ≠ b → (TX1 a).2.1 ≠ (TX1 b).2.1 := by decide +kernel
theorem tyX1_ok : ∀ k, k < 2 → parseFieldDescriptor (TX1 k).2.2.1 = some (tyX1 k) := by decide +kernel
abbrev cX1_init : ByteArray := prog_3_method_1_code
def yX1_init : MethodName := ⟨RX1, "<init>", "(LSpreadGroups$Layout;)V"⟩
abbrev cX1_copyFrom : ByteArray := prog_3_method_2_code
def yX1_copyFrom : MethodName := ⟨RX1, "copyFrom", "(LSpreadGroups$FreeMap;)V"⟩
abbrev cX1_freeAll : ByteArray := prog_3_method_3_code
def yX1_freeAll : MethodName := ⟨RX1, "freeAll", "()V"⟩
abbrev cX1_bitsOf : ByteArray := prog_3_method_4_code
def yX1_bitsOf : MethodName := ⟨RX1, "bitsOf", "(I)I"⟩
abbrev cX1_isFreeBlock : ByteArray := prog_3_method_5_code
def yX1_isFreeBlock : MethodName := ⟨RX1, "isFreeBlock", "(I)Z"⟩
abbrev cX1_isFree : ByteArray := prog_3_method_6_code
def yX1_isFree : MethodName := ⟨RX1, "isFree", "(I)Z"⟩
abbrev cX1_areFree : ByteArray := prog_3_method_7_code
def yX1_areFree : MethodName := ⟨RX1, "areFree", "(II)Z"⟩
abbrev cX1_put : ByteArray := prog_3_method_8_code
def yX1_put : MethodName := ⟨RX1, "put", "(IIZ)V"⟩
abbrev cX1_freeFragmentsIn : ByteArray := prog_3_method_9_code
def yX1_freeFragmentsIn : MethodName := ⟨RX1, "freeFragmentsIn", "(I)I"⟩
abbrev cX1_freeFragments : ByteArray := prog_3_method_10_code
def yX1_freeFragments : MethodName := ⟨RX1, "freeFragments", "()I"⟩
abbrev cX1_freeBlocksIn : ByteArray := prog_3_method_11_code
def yX1_freeBlocksIn : MethodName := ⟨RX1, "freeBlocksIn", "(I)I"⟩
abbrev cX1_freeBlocks : ByteArray := prog_3_method_12_code
def yX1_freeBlocks : MethodName := ⟨RX1, "freeBlocks", "()I"⟩
abbrev cX1_runAt : ByteArray := prog_3_method_13_code
def yX1_runAt : MethodName := ⟨RX1, "runAt", "(I)I"⟩
abbrev cX1_runsIn : ByteArray := prog_3_method_14_code
def yX1_runsIn : MethodName := ⟨RX1, "runsIn", "(II)I"⟩
abbrev cX1_shortestRunIn : ByteArray := prog_3_method_15_code
def yX1_shortestRunIn : MethodName := ⟨RX1, "shortestRunIn", "(II)I"⟩
abbrev cX1_freeBlockIn : ByteArray := prog_3_method_16_code
def yX1_freeBlockIn : MethodName := ⟨RX1, "freeBlockIn", "(II)I"⟩
abbrev cX1_takeBlock : ByteArray := prog_3_method_17_code
def yX1_takeBlock : MethodName := ⟨RX1, "takeBlock", "(II)I"⟩
abbrev cX1_takeRun : ByteArray := prog_3_method_18_code
def yX1_takeRun : MethodName := ⟨RX1, "takeRun", "(II)I"⟩
abbrev cX1_groupOnward : ByteArray := prog_3_method_19_code
def yX1_groupOnward : MethodName := ⟨RX1, "groupOnward", "(I)I"⟩
abbrev cX1_gatheredRowIn : ByteArray := prog_3_method_20_code
def yX1_gatheredRowIn : MethodName := ⟨RX1, "gatheredRowIn", "(II)I"⟩
def RX2 : String := "SpreadGroups$Inodes"
def TX2 : u_T := fun k => match k with
  | 0 => ("SpreadGroups$Inodes", "layout", "LSpreadGroups$Layout;", true)
  | 1 => ("SpreadGroups$Inodes", "kind", "[I", true)
  | 2 => ("SpreadGroups$Inodes", "parent", "[I", true)
  | 3 => ("SpreadGroups$Inodes", "name", "[I", true)
  | 4 => ("SpreadGroups$Inodes", "size", "[I", true)
  | 5 => ("SpreadGroups$Inodes", "tail", "[I", true)
  | _ => ("SpreadGroups$Inodes", "blocks", "[I", true)
def tyX2 : Nat → FieldType := fun k => match k with
  | 0 => .object "SpreadGroups$Layout"
  | 1 => .array .int
  | 2 => .array .int
  | 3 => .array .int
  | 4 => .array .int
  | 5 => .array .int
  | _ => .array .int
abbrev wsX20 : List Cond := u_ws RX2 TX2 7
theorem nmX2 : ∀ a, a < 7 → ∀ b, b < 7 → a ≠ b → (TX2 a).2.1 ≠ (TX2 b).2.1 := by decide +kernel
theorem tyX2_ok : ∀ k, k < 7 → parseFieldDescriptor (TX2 k).2.2.1 = some (tyX2 k) := by decide +kernel
abbrev cX2_init : ByteArray := prog_4_method_1_code
def yX2_init : MethodName := ⟨RX2, "<init>", "(LSpreadGroups$Layout;)V"⟩
abbrev cX2_copyFrom : ByteArray := prog_4_method_2_code
def yX2_copyFrom : MethodName := ⟨RX2, "copyFrom", "(LSpreadGroups$Inodes;)V"⟩
abbrev cX2_clear : ByteArray := prog_4_method_3_code
def yX2_clear : MethodName := ⟨RX2, "clear", "()V"⟩
abbrev cX2_become : ByteArray := prog_4_method_4_code
def yX2_become : MethodName := ⟨RX2, "become", "(IIII)V"⟩
abbrev cX2_setEntry : ByteArray := prog_4_method_5_code
def yX2_setEntry : MethodName := ⟨RX2, "setEntry", "(III)V"⟩
abbrev cX2_setSize : ByteArray := prog_4_method_6_code
def yX2_setSize : MethodName := ⟨RX2, "setSize", "(III)V"⟩
abbrev cX2_setBlock : ByteArray := prog_4_method_7_code
def yX2_setBlock : MethodName := ⟨RX2, "setBlock", "(III)V"⟩
abbrev cX2_blockAt : ByteArray := prog_4_method_8_code
def yX2_blockAt : MethodName := ⟨RX2, "blockAt", "(II)I"⟩
abbrev cX2_isNumber : ByteArray := prog_4_method_9_code
def yX2_isNumber : MethodName := ⟨RX2, "isNumber", "(I)Z"⟩
abbrev cX2_kindOf : ByteArray := prog_4_method_10_code
def yX2_kindOf : MethodName := ⟨RX2, "kindOf", "(I)I"⟩
abbrev cX2_parentOf : ByteArray := prog_4_method_11_code
def yX2_parentOf : MethodName := ⟨RX2, "parentOf", "(I)I"⟩
abbrev cX2_nameOf : ByteArray := prog_4_method_12_code
def yX2_nameOf : MethodName := ⟨RX2, "nameOf", "(I)I"⟩
abbrev cX2_sizeOf : ByteArray := prog_4_method_13_code
def yX2_sizeOf : MethodName := ⟨RX2, "sizeOf", "(I)I"⟩
abbrev cX2_blocksOf : ByteArray := prog_4_method_14_code
def yX2_blocksOf : MethodName := ⟨RX2, "blocksOf", "(I)I"⟩
abbrev cX2_tailOf : ByteArray := prog_4_method_15_code
def yX2_tailOf : MethodName := ⟨RX2, "tailOf", "(I)I"⟩
abbrev cX2_tailLengthOf : ByteArray := prog_4_method_16_code
def yX2_tailLengthOf : MethodName := ⟨RX2, "tailLengthOf", "(I)I"⟩
abbrev cX2_howManyIn : ByteArray := prog_4_method_17_code
def yX2_howManyIn : MethodName := ⟨RX2, "howManyIn", "(II)I"⟩
abbrev cX2_howMany : ByteArray := prog_4_method_18_code
def yX2_howMany : MethodName := ⟨RX2, "howMany", "(I)I"⟩
abbrev cX2_howManyAreThere : ByteArray := prog_4_method_19_code
def yX2_howManyAreThere : MethodName := ⟨RX2, "howManyAreThere", "()I"⟩
abbrev cX2_sizesOfAll : ByteArray := prog_4_method_20_code
def yX2_sizesOfAll : MethodName := ⟨RX2, "sizesOfAll", "()I"⟩
abbrev cX2_firstNothingIn : ByteArray := prog_4_method_21_code
def yX2_firstNothingIn : MethodName := ⟨RX2, "firstNothingIn", "(I)I"⟩
abbrev cX2_named : ByteArray := prog_4_method_22_code
def yX2_named : MethodName := ⟨RX2, "named", "(II)I"⟩
abbrev cX2_hasOthers : ByteArray := prog_4_method_23_code
def yX2_hasOthers : MethodName := ⟨RX2, "hasOthers", "(I)Z"⟩
abbrev cX2_depthBelow : ByteArray := prog_4_method_24_code
def yX2_depthBelow : MethodName := ⟨RX2, "depthBelow", "(II)I"⟩
abbrev cX2_ownerOf : ByteArray := prog_4_method_25_code
def yX2_ownerOf : MethodName := ⟨RX2, "ownerOf", "(I)I"⟩
def RX3 : String := "SpreadGroups$Layout"
def TX3 : u_T := fun k => match k with
  | 0 => ("SpreadGroups$Layout", "groups", "I", false)
  | 1 => ("SpreadGroups$Layout", "blocks", "I", false)
  | 2 => ("SpreadGroups$Layout", "inodes", "I", false)
  | 3 => ("SpreadGroups$Layout", "step", "I", false)
  | 4 => ("SpreadGroups$Layout", "reserve", "I", false)
  | _ => ("SpreadGroups$Layout", "limit", "I", false)
def tyX3 : Nat → FieldType := fun k => match k with
  | 0 => .int
  | 1 => .int
  | 2 => .int
  | 3 => .int
  | 4 => .int
  | _ => .int
abbrev wsX30 : List Cond := u_ws RX3 TX3 6
theorem nmX3 : ∀ a, a < 6 → ∀ b, b < 6 → a ≠ b → (TX3 a).2.1 ≠ (TX3 b).2.1 := by decide +kernel
theorem tyX3_ok : ∀ k, k < 6 → parseFieldDescriptor (TX3 k).2.2.1 = some (tyX3 k) := by decide +kernel
abbrev cX3_init : ByteArray := prog_5_method_1_code
def yX3_init : MethodName := ⟨RX3, "<init>", "()V"⟩
abbrev cX3_set : ByteArray := prog_5_method_2_code
def yX3_set : MethodName := ⟨RX3, "set", "([I)V"⟩
abbrev cX3_copyFrom : ByteArray := prog_5_method_3_code
def yX3_copyFrom : MethodName := ⟨RX3, "copyFrom", "(LSpreadGroups$Layout;)V"⟩
abbrev cX3_number : ByteArray := prog_5_method_4_code
def yX3_number : MethodName := ⟨RX3, "number", "(I)I"⟩
abbrev cX3_allBlocks : ByteArray := prog_5_method_5_code
def yX3_allBlocks : MethodName := ⟨RX3, "allBlocks", "()I"⟩
abbrev cX3_allInodes : ByteArray := prog_5_method_6_code
def yX3_allInodes : MethodName := ⟨RX3, "allInodes", "()I"⟩
abbrev cX3_isFragment : ByteArray := prog_5_method_7_code
def yX3_isFragment : MethodName := ⟨RX3, "isFragment", "(I)Z"⟩
abbrev cX3_behind : ByteArray := prog_5_method_8_code
def yX3_behind : MethodName := ⟨RX3, "behind", "(II)I"⟩
abbrev cX3_groupOfInode : ByteArray := prog_5_method_9_code
def yX3_groupOfInode : MethodName := ⟨RX3, "groupOfInode", "(I)I"⟩
abbrev cX3_groupOfBlock : ByteArray := prog_5_method_10_code
def yX3_groupOfBlock : MethodName := ⟨RX3, "groupOfBlock", "(I)I"⟩
abbrev cX3_placeBehind : ByteArray := prog_5_method_11_code
def yX3_placeBehind : MethodName := ⟨RX3, "placeBehind", "(I)I"⟩
abbrev cX3_leadsOn : ByteArray := prog_5_method_12_code
def yX3_leadsOn : MethodName := ⟨RX3, "leadsOn", "(I)Z"⟩
def RX4 : String := "SpreadGroups$Reader"
def TX4 : u_T := fun k => match k with
  | 0 => ("SpreadGroups$Reader", "tape", "LSpreadGroups$Tape;", true)
  | 1 => ("SpreadGroups$Reader", "numbers", "[I", true)
  | 2 => ("SpreadGroups$Reader", "lineKind", "I", false)
  | 3 => ("SpreadGroups$Reader", "fault", "I", false)
  | 4 => ("SpreadGroups$Reader", "faultPlace", "I", false)
  | 5 => ("SpreadGroups$Reader", "next", "I", false)
  | 6 => ("SpreadGroups$Reader", "tokenSort", "I", false)
  | 7 => ("SpreadGroups$Reader", "tokenPlace", "I", false)
  | _ => ("SpreadGroups$Reader", "tokenValue", "I", false)
def tyX4 : Nat → FieldType := fun k => match k with
  | 0 => .object "SpreadGroups$Tape"
  | 1 => .array .int
  | 2 => .int
  | 3 => .int
  | 4 => .int
  | 5 => .int
  | 6 => .int
  | 7 => .int
  | _ => .int
abbrev wsX40 : List Cond := u_ws RX4 TX4 9
theorem nmX4 : ∀ a, a < 9 → ∀ b, b < 9 → a ≠ b → (TX4 a).2.1 ≠ (TX4 b).2.1 := by decide +kernel
theorem tyX4_ok : ∀ k, k < 9 → parseFieldDescriptor (TX4 k).2.2.1 = some (tyX4 k) := by decide +kernel
abbrev cX4_init : ByteArray := prog_6_method_1_code
def yX4_init : MethodName := ⟨RX4, "<init>", "(LSpreadGroups$Tape;)V"⟩
abbrev cX4_rewind : ByteArray := prog_6_method_2_code
def yX4_rewind : MethodName := ⟨RX4, "rewind", "()V"⟩
abbrev cX4_hasMore : ByteArray := prog_6_method_3_code
def yX4_hasMore : MethodName := ⟨RX4, "hasMore", "()Z"⟩
abbrev cX4_readRules : ByteArray := prog_6_method_4_code
def yX4_readRules : MethodName := ⟨RX4, "readRules", "()Z"⟩
abbrev cX4_readLine : ByteArray := prog_6_method_5_code
def yX4_readLine : MethodName := ⟨RX4, "readLine", "(I)Z"⟩
abbrev cX4_refuseLine : ByteArray := prog_6_method_6_code
def yX4_refuseLine : MethodName := ⟨RX4, "refuseLine", "(I)Z"⟩
abbrev cX4_refuse : ByteArray := prog_6_method_7_code
def yX4_refuse : MethodName := ⟨RX4, "refuse", "(II)Z"⟩
abbrev cX4_takeWord : ByteArray := prog_6_method_8_code
def yX4_takeWord : MethodName := ⟨RX4, "takeWord", "(Ljava/lang/String;)Z"⟩
abbrev cX4_takeSign : ByteArray := prog_6_method_9_code
def yX4_takeSign : MethodName := ⟨RX4, "takeSign", "()Z"⟩
abbrev cX4_takeNumber : ByteArray := prog_6_method_10_code
def yX4_takeNumber : MethodName := ⟨RX4, "takeNumber", "(III)Z"⟩
abbrev cX4_isWord : ByteArray := prog_6_method_11_code
def yX4_isWord : MethodName := ⟨RX4, "isWord", "(Ljava/lang/String;)Z"⟩
abbrev cX4_readToken : ByteArray := prog_6_method_12_code
def yX4_readToken : MethodName := ⟨RX4, "readToken", "()Z"⟩
abbrev cX4_readNumber : ByteArray := prog_6_method_13_code
def yX4_readNumber : MethodName := ⟨RX4, "readNumber", "()Z"⟩
abbrev cX4_passBlanks : ByteArray := prog_6_method_14_code
def yX4_passBlanks : MethodName := ⟨RX4, "passBlanks", "()V"⟩
def RX5 : String := "SpreadGroups$Tape"
def TX5 : u_T := fun k => match k with
  | 0 => ("SpreadGroups$Tape", "bytes", "[I", true)
  | _ => ("SpreadGroups$Tape", "length", "I", false)
def tyX5 : Nat → FieldType := fun k => match k with
  | 0 => .array .int
  | _ => .int
abbrev wsX50 : List Cond := u_ws RX5 TX5 2
theorem nmX5 : ∀ a, a < 2 → ∀ b, b < 2 → a ≠ b → (TX5 a).2.1 ≠ (TX5 b).2.1 := by decide +kernel
theorem tyX5_ok : ∀ k, k < 2 → parseFieldDescriptor (TX5 k).2.2.1 = some (tyX5 k) := by decide +kernel
abbrev cX5_init : ByteArray := prog_7_method_1_code
def yX5_init : MethodName := ⟨RX5, "<init>", "()V"⟩
abbrev cX5_append : ByteArray := prog_7_method_2_code
def yX5_append : MethodName := ⟨RX5, "append", "(I)Z"⟩
abbrev cX5_byteAt : ByteArray := prog_7_method_3_code
def yX5_byteAt : MethodName := ⟨RX5, "byteAt", "(I)I"⟩
abbrev cX5_hasLetterAt : ByteArray := prog_7_method_4_code
def yX5_hasLetterAt : MethodName := ⟨RX5, "hasLetterAt", "(I)Z"⟩
abbrev cX5_hasFigureAt : ByteArray := prog_7_method_5_code
def yX5_hasFigureAt : MethodName := ⟨RX5, "hasFigureAt", "(I)Z"⟩
def RX6 : String := "SpreadGroups$Volume"
def TX6 : u_T := fun k => match k with
  | 0 => ("SpreadGroups$Volume", "layout", "LSpreadGroups$Layout;", true)
  | 1 => ("SpreadGroups$Volume", "map", "LSpreadGroups$FreeMap;", true)
  | 2 => ("SpreadGroups$Volume", "mapDue", "LSpreadGroups$FreeMap;", true)
  | 3 => ("SpreadGroups$Volume", "inodes", "LSpreadGroups$Inodes;", true)
  | 4 => ("SpreadGroups$Volume", "extended", "I", false)
  | _ => ("SpreadGroups$Volume", "moved", "I", false)
def tyX6 : Nat → FieldType := fun k => match k with
  | 0 => .object "SpreadGroups$Layout"
  | 1 => .object "SpreadGroups$FreeMap"
  | 2 => .object "SpreadGroups$FreeMap"
  | 3 => .object "SpreadGroups$Inodes"
  | 4 => .int
  | _ => .int
abbrev wsX60 : List Cond := u_ws RX6 TX6 6
theorem nmX6 : ∀ a, a < 6 → ∀ b, b < 6 → a ≠ b → (TX6 a).2.1 ≠ (TX6 b).2.1 := by decide +kernel
theorem tyX6_ok : ∀ k, k < 6 → parseFieldDescriptor (TX6 k).2.2.1 = some (tyX6 k) := by decide +kernel
abbrev cX6_init : ByteArray := prog_8_method_1_code
def yX6_init : MethodName := ⟨RX6, "<init>", "()V"⟩
abbrev cX6_startAnew : ByteArray := prog_8_method_2_code
def yX6_startAnew : MethodName := ⟨RX6, "startAnew", "([I)V"⟩
abbrev cX6_copyFrom : ByteArray := prog_8_method_3_code
def yX6_copyFrom : MethodName := ⟨RX6, "copyFrom", "(LSpreadGroups$Volume;)V"⟩
abbrev cX6_putAllOf : ByteArray := prog_8_method_4_code
def yX6_putAllOf : MethodName := ⟨RX6, "putAllOf", "(IILSpreadGroups$FreeMap;Z)V"⟩
abbrev cX6_findMapDue : ByteArray := prog_8_method_5_code
def yX6_findMapDue : MethodName := ⟨RX6, "findMapDue", "()V"⟩
abbrev cX6_isSpoilt : ByteArray := prog_8_method_6_code
def yX6_isSpoilt : MethodName := ⟨RX6, "isSpoilt", "()Z"⟩
abbrev cX6_wrongs : ByteArray := prog_8_method_7_code
def yX6_wrongs : MethodName := ⟨RX6, "wrongs", "(Z)I"⟩
abbrev cX6_firstWrong : ByteArray := prog_8_method_8_code
def yX6_firstWrong : MethodName := ⟨RX6, "firstWrong", "()I"⟩
abbrev cX6_mendMap : ByteArray := prog_8_method_9_code
def yX6_mendMap : MethodName := ⟨RX6, "mendMap", "()V"⟩
abbrev cX6_groupFor : ByteArray := prog_8_method_10_code
def yX6_groupFor : MethodName := ⟨RX6, "groupFor", "(II)I"⟩
abbrev cX6_groupForDirectory : ByteArray := prog_8_method_11_code
def yX6_groupForDirectory : MethodName := ⟨RX6, "groupForDirectory", "()I"⟩
abbrev cX6_groupForFile : ByteArray := prog_8_method_12_code
def yX6_groupForFile : MethodName := ⟨RX6, "groupForFile", "(I)I"⟩
abbrev cX6_pairsOf : ByteArray := prog_8_method_13_code
def yX6_pairsOf : MethodName := ⟨RX6, "pairsOf", "(IZ)I"⟩
abbrev cX6_follows : ByteArray := prog_8_method_14_code
def yX6_follows : MethodName := ⟨RX6, "follows", "(II)Z"⟩
abbrev cX6_pairsOfAll : ByteArray := prog_8_method_15_code
def yX6_pairsOfAll : MethodName := ⟨RX6, "pairsOfAll", "(Z)I"⟩
def RX7 : String := "SpreadGroups"
def TX7 : u_T := fun k => match k with
  | 0 => ("SpreadGroups", "volume", "LSpreadGroups$Volume;", true)
  | 1 => ("SpreadGroups", "deeds", "LSpreadGroups$Deeds;", true)
  | 2 => ("SpreadGroups", "tape", "LSpreadGroups$Tape;", true)
  | 3 => ("SpreadGroups", "reader", "LSpreadGroups$Reader;", true)
  | 4 => ("SpreadGroups", "draft", "LSpreadGroups$Volume;", true)
  | 5 => ("SpreadGroups", "draftDeeds", "LSpreadGroups$Deeds;", true)
  | 6 => ("SpreadGroups", "toldDirectories", "[I", true)
  | 7 => ("SpreadGroups", "toldCount", "I", false)
  | 8 => ("SpreadGroups", "latestFault", "I", false)
  | 9 => ("SpreadGroups", "imageZero", "LSpreadGroups$Volume;", true)
  | 10 => ("SpreadGroups", "imageOne", "LSpreadGroups$Volume;", true)
  | 11 => ("SpreadGroups", "hasImageZero", "Z", false)
  | 12 => ("SpreadGroups", "hasImageOne", "Z", false)
  | _ => ("SpreadGroups", "seedNow", "I", false)
def tyX7 : Nat → FieldType := fun k => match k with
  | 0 => .object "SpreadGroups$Volume"
  | 1 => .object "SpreadGroups$Deeds"
  | 2 => .object "SpreadGroups$Tape"
  | 3 => .object "SpreadGroups$Reader"
  | 4 => .object "SpreadGroups$Volume"
  | 5 => .object "SpreadGroups$Deeds"
  | 6 => .array .int
  | 7 => .int
  | 8 => .int
  | 9 => .object "SpreadGroups$Volume"
  | 10 => .object "SpreadGroups$Volume"
  | 11 => .boolean
  | 12 => .boolean
  | _ => .int
abbrev wsX70 : List Cond := u_ws RX7 TX7 14
theorem nmX7 : ∀ a, a < 14 → ∀ b, b < 14 → a ≠ b → (TX7 a).2.1 ≠ (TX7 b).2.1 := by decide +kernel
theorem tyX7_ok : ∀ k, k < 14 → parseFieldDescriptor (TX7 k).2.2.1 = some (tyX7 k) := by decide +kernel
abbrev cX7_init : ByteArray := prog_1_method_1_code
def yX7_init : MethodName := ⟨RX7, "<init>", "()V"⟩
abbrev cX7_feed : ByteArray := prog_1_method_2_code
def yX7_feed : MethodName := ⟨RX7, "feed", "(I)I"⟩
abbrev cX7_end : ByteArray := prog_1_method_3_code
def yX7_end : MethodName := ⟨RX7, "end", "(I)I"⟩
abbrev cX7_text : ByteArray := prog_1_method_4_code
def yX7_text : MethodName := ⟨RX7, "text", "()I"⟩
abbrev cX7_tellLine : ByteArray := prog_1_method_5_code
def yX7_tellLine : MethodName := ⟨RX7, "tellLine", "()Z"⟩
abbrev cX7_toldParent : ByteArray := prog_1_method_6_code
def yX7_toldParent : MethodName := ⟨RX7, "toldParent", "(I)I"⟩
abbrev cX7_noteDirectory : ByteArray := prog_1_method_7_code
def yX7_noteDirectory : MethodName := ⟨RX7, "noteDirectory", "(I)V"⟩
abbrev cX7_fault : ByteArray := prog_1_method_8_code
def yX7_fault : MethodName := ⟨RX7, "fault", "()I"⟩
abbrev cX7_rule : ByteArray := prog_1_method_9_code
def yX7_rule : MethodName := ⟨RX7, "rule", "(I)I"⟩
abbrev cX7_group : ByteArray := prog_1_method_10_code
def yX7_group : MethodName := ⟨RX7, "group", "(II)I"⟩
abbrev cX7_inode : ByteArray := prog_1_method_11_code
def yX7_inode : MethodName := ⟨RX7, "inode", "(II)I"⟩
abbrev cX7_block : ByteArray := prog_1_method_12_code
def yX7_block : MethodName := ⟨RX7, "block", "(II)I"⟩
abbrev cX7_fragment : ByteArray := prog_1_method_13_code
def yX7_fragment : MethodName := ⟨RX7, "fragment", "(II)I"⟩
abbrev cX7_find : ByteArray := prog_1_method_14_code
def yX7_find : MethodName := ⟨RX7, "find", "(II)I"⟩
abbrev cX7_entry : ByteArray := prog_1_method_15_code
def yX7_entry : MethodName := ⟨RX7, "entry", "(II)I"⟩
abbrev cX7_where : ByteArray := prog_1_method_16_code
def yX7_where : MethodName := ⟨RX7, "where", "(II)I"⟩
abbrev cX7_isName : ByteArray := prog_1_method_17_code
def yX7_isName : MethodName := ⟨RX7, "isName", "(I)Z"⟩
abbrev cX7_make : ByteArray := prog_1_method_18_code
def yX7_make : MethodName := ⟨RX7, "make", "(III)I"⟩
abbrev cX7_grow : ByteArray := prog_1_method_19_code
def yX7_grow : MethodName := ⟨RX7, "grow", "(II)I"⟩
abbrev cX7_shrink : ByteArray := prog_1_method_20_code
def yX7_shrink : MethodName := ⟨RX7, "shrink", "(II)I"⟩
abbrev cX7_remove : ByteArray := prog_1_method_21_code
def yX7_remove : MethodName := ⟨RX7, "remove", "(I)I"⟩
abbrev cX7_move : ByteArray := prog_1_method_22_code
def yX7_move : MethodName := ⟨RX7, "move", "(III)I"⟩
abbrev cX7_gather : ByteArray := prog_1_method_23_code
def yX7_gather : MethodName := ⟨RX7, "gather", "(I)I"⟩
abbrev cX7_draw : ByteArray := prog_1_method_24_code
def yX7_draw : MethodName := ⟨RX7, "draw", "(II)I"⟩
abbrev cX7_drawnDeed : ByteArray := prog_1_method_25_code
def yX7_drawnDeed : MethodName := ⟨RX7, "drawnDeed", "()I"⟩
abbrev cX7_drawnNumber : ByteArray := prog_1_method_26_code
def yX7_drawnNumber : MethodName := ⟨RX7, "drawnNumber", "()I"⟩
abbrev cX7_flip : ByteArray := prog_1_method_27_code
def yX7_flip : MethodName := ⟨RX7, "flip", "(I)I"⟩
abbrev cX7_check : ByteArray := prog_1_method_28_code
def yX7_check : MethodName := ⟨RX7, "check", "(I)I"⟩
abbrev cX7_mend : ByteArray := prog_1_method_29_code
def yX7_mend : MethodName := ⟨RX7, "mend", "()I"⟩
abbrev cX7_keep : ByteArray := prog_1_method_30_code
def yX7_keep : MethodName := ⟨RX7, "keep", "(I)I"⟩
abbrev cX7_back : ByteArray := prog_1_method_31_code
def yX7_back : MethodName := ⟨RX7, "back", "(I)I"⟩
abbrev cX7_count : ByteArray := prog_1_method_32_code
def yX7_count : MethodName := ⟨RX7, "count", "(I)I"⟩
abbrev cX7_hasImage : ByteArray := prog_1_method_33_code
def yX7_hasImage : MethodName := ⟨RX7, "hasImage", "(I)Z"⟩
def RX8 : String := "SpreadGroupsModel"
def TX8 : u_T := fun k => match k with
  | 0 => ("SpreadGroupsModel", "st", "[I", true)
  | 1 => ("SpreadGroupsModel", "before", "[I", true)
  | 2 => ("SpreadGroupsModel", "told", "[I", true)
  | 3 => ("SpreadGroupsModel", "kept", "[I", true)
  | 4 => ("SpreadGroupsModel", "isKept", "[Z", true)
  | 5 => ("SpreadGroupsModel", "tape", "[I", true)
  | 6 => ("SpreadGroupsModel", "taped", "I", false)
  | 7 => ("SpreadGroupsModel", "pos", "I", false)
  | 8 => ("SpreadGroupsModel", "begun", "I", false)
  | 9 => ("SpreadGroupsModel", "sort", "I", false)
  | 10 => ("SpreadGroupsModel", "figure", "I", false)
  | 11 => ("SpreadGroupsModel", "fault", "I", false)
  | 12 => ("SpreadGroupsModel", "wrongAt", "I", false)
  | 13 => ("SpreadGroupsModel", "dirs", "[I", true)
  | 14 => ("SpreadGroupsModel", "dirMany", "I", false)
  | _ => ("SpreadGroupsModel", "seeded", "I", false)
def tyX8 : Nat → FieldType := fun k => match k with
  | 0 => .array .int
  | 1 => .array .int
  | 2 => .array .int
  | 3 => .array .int
  | 4 => .array .boolean
  | 5 => .array .int
  | 6 => .int
  | 7 => .int
  | 8 => .int
  | 9 => .int
  | 10 => .int
  | 11 => .int
  | 12 => .int
  | 13 => .array .int
  | 14 => .int
  | _ => .int
abbrev wsX80 : List Cond := u_ws RX8 TX8 16
theorem nmX8 : ∀ a, a < 16 → ∀ b, b < 16 → a ≠ b → (TX8 a).2.1 ≠ (TX8 b).2.1 := by decide +kernel
theorem tyX8_ok : ∀ k, k < 16 → parseFieldDescriptor (TX8 k).2.2.1 = some (tyX8 k) := by decide +kernel
abbrev cX8_init : ByteArray := prog_10_method_1_code
def yX8_init : MethodName := ⟨RX8, "<init>", "()V"⟩
abbrev cX8_in : ByteArray := prog_10_method_3_code
def yX8_in : MethodName := ⟨RX8, "in", "(JJJ)Z"⟩
abbrev cX8_flag : ByteArray := prog_10_method_4_code
def yX8_flag : MethodName := ⟨RX8, "flag", "(Z)I"⟩
abbrev cX8_anew : ByteArray := prog_10_method_5_code
def yX8_anew : MethodName := ⟨RX8, "anew", "()V"⟩
abbrev cX8_forgets : ByteArray := prog_10_method_6_code
def yX8_forgets : MethodName := ⟨RX8, "forgets", "()V"⟩
abbrev cX8_copies : ByteArray := prog_10_method_7_code
def yX8_copies : MethodName := ⟨RX8, "copies", "([I[I)V"⟩
abbrev cX8_feed : ByteArray := prog_10_method_8_code
def yX8_feed : MethodName := ⟨RX8, "feed", "(I)I"⟩
abbrev cX8_end : ByteArray := prog_10_method_9_code
def yX8_end : MethodName := ⟨RX8, "end", "(I)I"⟩
abbrev cX8_requires : ByteArray := prog_10_method_10_code
def yX8_requires : MethodName := ⟨RX8, "requires", "(ZI)V"⟩
abbrev cX8_byteAt : ByteArray := prog_10_method_11_code
def yX8_byteAt : MethodName := ⟨RX8, "byteAt", "(I)I"⟩
abbrev cX8_is : ByteArray := prog_10_method_12_code
def yX8_is : MethodName := ⟨RX8, "is", "(IIIII)Z"⟩
abbrev cX8_lineNow : ByteArray := prog_10_method_13_code
def yX8_lineNow : MethodName := ⟨RX8, "lineNow", "()I"⟩
abbrev cX8_reads : ByteArray := prog_10_method_14_code
def yX8_reads : MethodName := ⟨RX8, "reads", "()V"⟩
abbrev cX8_readNumber : ByteArray := prog_10_method_15_code
def yX8_readNumber : MethodName := ⟨RX8, "readNumber", "(II)I"⟩
abbrev cX8_requiresStop : ByteArray := prog_10_method_16_code
def yX8_requiresStop : MethodName := ⟨RX8, "requiresStop", "()V"⟩
abbrev cX8_readVolume : ByteArray := prog_10_method_17_code
def yX8_readVolume : MethodName := ⟨RX8, "readVolume", "()V"⟩
abbrev cX8_readLine : ByteArray := prog_10_method_18_code
def yX8_readLine : MethodName := ⟨RX8, "readLine", "()V"⟩
abbrev cX8_comes : ByteArray := prog_10_method_19_code
def yX8_comes : MethodName := ⟨RX8, "comes", "(IIII)V"⟩
abbrev cX8_text : ByteArray := prog_10_method_20_code
def yX8_text : MethodName := ⟨RX8, "text", "()I"⟩
abbrev cX8_fault : ByteArray := prog_10_method_21_code
def yX8_fault : MethodName := ⟨RX8, "fault", "()I"⟩
abbrev cX8_fragments : ByteArray := prog_10_method_22_code
def yX8_fragments : MethodName := ⟨RX8, "fragments", "()I"⟩
abbrev cX8_isFree : ByteArray := prog_10_method_23_code
def yX8_isFree : MethodName := ⟨RX8, "isFree", "(I)Z"⟩
abbrev cX8_lets : ByteArray := prog_10_method_24_code
def yX8_lets : MethodName := ⟨RX8, "lets", "(IZ)V"⟩
abbrev cX8_letsAll : ByteArray := prog_10_method_25_code
def yX8_letsAll : MethodName := ⟨RX8, "letsAll", "(IIZ)V"⟩
abbrev cX8_areFree : ByteArray := prog_10_method_26_code
def yX8_areFree : MethodName := ⟨RX8, "areFree", "(II)Z"⟩
abbrev cX8_isFreeBlock : ByteArray := prog_10_method_27_code
def yX8_isFreeBlock : MethodName := ⟨RX8, "isFreeBlock", "(I)Z"⟩
abbrev cX8_freeBlocks : ByteArray := prog_10_method_28_code
def yX8_freeBlocks : MethodName := ⟨RX8, "freeBlocks", "(I)I"⟩
abbrev cX8_allFreeBlocks : ByteArray := prog_10_method_29_code
def yX8_allFreeBlocks : MethodName := ⟨RX8, "allFreeBlocks", "()I"⟩
abbrev cX8_freeIn : ByteArray := prog_10_method_30_code
def yX8_freeIn : MethodName := ⟨RX8, "freeIn", "(II)I"⟩
abbrev cX8_room : ByteArray := prog_10_method_31_code
def yX8_room : MethodName := ⟨RX8, "room", "()I"⟩
abbrev cX8_runAt : ByteArray := prog_10_method_32_code
def yX8_runAt : MethodName := ⟨RX8, "runAt", "(I)I"⟩
abbrev cX8_runs : ByteArray := prog_10_method_33_code
def yX8_runs : MethodName := ⟨RX8, "runs", "(II)I"⟩
abbrev cX8_behind : ByteArray := prog_10_method_34_code
def yX8_behind : MethodName := ⟨RX8, "behind", "(II)I"⟩
abbrev cX8_blockNear : ByteArray := prog_10_method_35_code
def yX8_blockNear : MethodName := ⟨RX8, "blockNear", "(II)I"⟩
abbrev cX8_runIn : ByteArray := prog_10_method_36_code
def yX8_runIn : MethodName := ⟨RX8, "runIn", "(II)I"⟩
abbrev cX8_runNear : ByteArray := prog_10_method_37_code
def yX8_runNear : MethodName := ⟨RX8, "runNear", "(II)I"⟩
abbrev cX8_inodes : ByteArray := prog_10_method_38_code
def yX8_inodes : MethodName := ⟨RX8, "inodes", "()I"⟩
abbrev cX8_isInode : ByteArray := prog_10_method_39_code
def yX8_isInode : MethodName := ⟨RX8, "isInode", "(I)Z"⟩
abbrev cX8_of : ByteArray := prog_10_method_40_code
def yX8_of : MethodName := ⟨RX8, "of", "(II)I"⟩
abbrev cX8_sets : ByteArray := prog_10_method_41_code
def yX8_sets : MethodName := ⟨RX8, "sets", "(III)V"⟩
abbrev cX8_isThere : ByteArray := prog_10_method_42_code
def yX8_isThere : MethodName := ⟨RX8, "isThere", "(I)Z"⟩
abbrev cX8_isDirectory : ByteArray := prog_10_method_43_code
def yX8_isDirectory : MethodName := ⟨RX8, "isDirectory", "(I)Z"⟩
abbrev cX8_isFile : ByteArray := prog_10_method_44_code
def yX8_isFile : MethodName := ⟨RX8, "isFile", "(I)Z"⟩
abbrev cX8_blocks : ByteArray := prog_10_method_45_code
def yX8_blocks : MethodName := ⟨RX8, "blocks", "(I)I"⟩
abbrev cX8_tail : ByteArray := prog_10_method_46_code
def yX8_tail : MethodName := ⟨RX8, "tail", "(I)I"⟩
abbrev cX8_inodesThere : ByteArray := prog_10_method_47_code
def yX8_inodesThere : MethodName := ⟨RX8, "inodesThere", "()I"⟩
abbrev cX8_inodeOf : ByteArray := prog_10_method_48_code
def yX8_inodeOf : MethodName := ⟨RX8, "inodeOf", "(II)I"⟩
abbrev cX8_nothings : ByteArray := prog_10_method_49_code
def yX8_nothings : MethodName := ⟨RX8, "nothings", "(I)I"⟩
abbrev cX8_directories : ByteArray := prog_10_method_50_code
def yX8_directories : MethodName := ⟨RX8, "directories", "(I)I"⟩
abbrev cX8_groupForDirectory : ByteArray := prog_10_method_51_code
def yX8_groupForDirectory : MethodName := ⟨RX8, "groupForDirectory", "()I"⟩
abbrev cX8_groupForFile : ByteArray := prog_10_method_52_code
def yX8_groupForFile : MethodName := ⟨RX8, "groupForFile", "(I)I"⟩
abbrev cX8_groupFor : ByteArray := prog_10_method_53_code
def yX8_groupFor : MethodName := ⟨RX8, "groupFor", "(II)I"⟩
abbrev cX8_owner : ByteArray := prog_10_method_54_code
def yX8_owner : MethodName := ⟨RX8, "owner", "(I)I"⟩
abbrev cX8_isSpoilt : ByteArray := prog_10_method_55_code
def yX8_isSpoilt : MethodName := ⟨RX8, "isSpoilt", "()Z"⟩
abbrev cX8_pairs : ByteArray := prog_10_method_56_code
def yX8_pairs : MethodName := ⟨RX8, "pairs", "(I)I"⟩
abbrev cX8_follows : ByteArray := prog_10_method_57_code
def yX8_follows : MethodName := ⟨RX8, "follows", "(I)I"⟩
abbrev cX8_ofKind : ByteArray := prog_10_method_58_code
def yX8_ofKind : MethodName := ⟨RX8, "ofKind", "(I)I"⟩
abbrev cX8_summed : ByteArray := prog_10_method_59_code
def yX8_summed : MethodName := ⟨RX8, "summed", "(I)I"⟩
abbrev cX8_rule : ByteArray := prog_10_method_60_code
def yX8_rule : MethodName := ⟨RX8, "rule", "(I)I"⟩
abbrev cX8_group : ByteArray := prog_10_method_61_code
def yX8_group : MethodName := ⟨RX8, "group", "(II)I"⟩
abbrev cX8_inode : ByteArray := prog_10_method_62_code
def yX8_inode : MethodName := ⟨RX8, "inode", "(II)I"⟩
abbrev cX8_block : ByteArray := prog_10_method_63_code
def yX8_block : MethodName := ⟨RX8, "block", "(II)I"⟩
abbrev cX8_fragment : ByteArray := prog_10_method_64_code
def yX8_fragment : MethodName := ⟨RX8, "fragment", "(II)I"⟩
abbrev cX8_find : ByteArray := prog_10_method_65_code
def yX8_find : MethodName := ⟨RX8, "find", "(II)I"⟩
abbrev cX8_entry : ByteArray := prog_10_method_66_code
def yX8_entry : MethodName := ⟨RX8, "entry", "(II)I"⟩
abbrev cX8_where : ByteArray := prog_10_method_67_code
def yX8_where : MethodName := ⟨RX8, "where", "(II)I"⟩
abbrev cX8_makes : ByteArray := prog_10_method_68_code
def yX8_makes : MethodName := ⟨RX8, "makes", "(III)I"⟩
abbrev cX8_make : ByteArray := prog_10_method_69_code
def yX8_make : MethodName := ⟨RX8, "make", "(III)I"⟩
abbrev cX8_groupOfBlock : ByteArray := prog_10_method_70_code
def yX8_groupOfBlock : MethodName := ⟨RX8, "groupOfBlock", "(II)I"⟩
abbrev cX8_placeOfBlock : ByteArray := prog_10_method_71_code
def yX8_placeOfBlock : MethodName := ⟨RX8, "placeOfBlock", "(II)I"⟩
abbrev cX8_takesBlock : ByteArray := prog_10_method_72_code
def yX8_takesBlock : MethodName := ⟨RX8, "takesBlock", "(II)Z"⟩
abbrev cX8_takesTail : ByteArray := prog_10_method_73_code
def yX8_takesTail : MethodName := ⟨RX8, "takesTail", "(III)Z"⟩
abbrev cX8_widens : ByteArray := prog_10_method_74_code
def yX8_widens : MethodName := ⟨RX8, "widens", "(III)Z"⟩
abbrev cX8_fills : ByteArray := prog_10_method_75_code
def yX8_fills : MethodName := ⟨RX8, "fills", "(II)Z"⟩
abbrev cX8_canGrow : ByteArray := prog_10_method_76_code
def yX8_canGrow : MethodName := ⟨RX8, "canGrow", "(II)Z"⟩
abbrev cX8_grows : ByteArray := prog_10_method_77_code
def yX8_grows : MethodName := ⟨RX8, "grows", "(II)I"⟩
abbrev cX8_grow : ByteArray := prog_10_method_78_code
def yX8_grow : MethodName := ⟨RX8, "grow", "(II)I"⟩
abbrev cX8_shrink : ByteArray := prog_10_method_79_code
def yX8_shrink : MethodName := ⟨RX8, "shrink", "(II)I"⟩
abbrev cX8_hasOthers : ByteArray := prog_10_method_80_code
def yX8_hasOthers : MethodName := ⟨RX8, "hasOthers", "(I)Z"⟩
abbrev cX8_remove : ByteArray := prog_10_method_81_code
def yX8_remove : MethodName := ⟨RX8, "remove", "(I)I"⟩
abbrev cX8_isWithin : ByteArray := prog_10_method_82_code
def yX8_isWithin : MethodName := ⟨RX8, "isWithin", "(II)Z"⟩
abbrev cX8_farFromRoot : ByteArray := prog_10_method_83_code
def yX8_farFromRoot : MethodName := ⟨RX8, "farFromRoot", "(I)I"⟩
abbrev cX8_move : ByteArray := prog_10_method_84_code
def yX8_move : MethodName := ⟨RX8, "move", "(III)I"⟩
abbrev cX8_isRowFree : ByteArray := prog_10_method_85_code
def yX8_isRowFree : MethodName := ⟨RX8, "isRowFree", "(III)Z"⟩
abbrev cX8_gathers : ByteArray := prog_10_method_86_code
def yX8_gathers : MethodName := ⟨RX8, "gathers", "(III)V"⟩
abbrev cX8_gather : ByteArray := prog_10_method_87_code
def yX8_gather : MethodName := ⟨RX8, "gather", "(I)I"⟩
abbrev cX8_gets : ByteArray := prog_10_method_88_code
def yX8_gets : MethodName := ⟨RX8, "gets", "()I"⟩
abbrev cX8_deed : ByteArray := prog_10_method_89_code
def yX8_deed : MethodName := ⟨RX8, "deed", "(IIII)I"⟩
abbrev cX8_draw : ByteArray := prog_10_method_90_code
def yX8_draw : MethodName := ⟨RX8, "draw", "(II)I"⟩
abbrev cX8_flip : ByteArray := prog_10_method_91_code
def yX8_flip : MethodName := ⟨RX8, "flip", "(I)I"⟩
abbrev cX8_check : ByteArray := prog_10_method_92_code
def yX8_check : MethodName := ⟨RX8, "check", "(I)I"⟩
abbrev cX8_mend : ByteArray := prog_10_method_93_code
def yX8_mend : MethodName := ⟨RX8, "mend", "()I"⟩
abbrev cX8_keep : ByteArray := prog_10_method_94_code
def yX8_keep : MethodName := ⟨RX8, "keep", "(I)I"⟩
abbrev cX8_back : ByteArray := prog_10_method_95_code
def yX8_back : MethodName := ⟨RX8, "back", "(I)I"⟩
abbrev cX8_count : ByteArray := prog_10_method_96_code
def yX8_count : MethodName := ⟨RX8, "count", "(I)I"⟩
def RJ6 : String := "java/lang/Integer"
def TJ6 : u_T := fun k => match k with
  | _ => ("", "", "", false)
def tyJ6 : Nat → FieldType := fun k => match k with
  | _ => .int
abbrev wsJ60 : List Cond := u_ws RJ6 TJ6 0
theorem nmJ6 : ∀ a, a < 0 → ∀ b, b < 0 → a ≠ b → (TJ6 a).2.1 ≠ (TJ6 b).2.1 := by decide +kernel
theorem tyJ6_ok : ∀ k, k < 0 → parseFieldDescriptor (TJ6 k).2.2.1 = some (tyJ6 k) := by decide +kernel
abbrev cJ6_bitCount_0f7a4 : ByteArray := prog_11_method_49_code
def yJ6_bitCount_0f7a4 : MethodName := ⟨RJ6, "bitCount", "(I)I"⟩
def RJ0 : String := "java/lang/String"
def TJ0 : u_T := fun k => match k with
  | _ => ("", "", "", false)
def tyJ0 : Nat → FieldType := fun k => match k with
  | _ => .int
abbrev wsJ00 : List Cond := u_ws RJ0 TJ0 0
theorem nmJ0 : ∀ a, a < 0 → ∀ b, b < 0 → a ≠ b → (TJ0 a).2.1 ≠ (TJ0 b).2.1 := by decide +kernel
theorem tyJ0_ok : ∀ k, k < 0 → parseFieldDescriptor (TJ0 k).2.2.1 = some (tyJ0 k) := by decide +kernel
abbrev cJ0_length_8abf5 : ByteArray := prog_12_method_54_code
def yJ0_length_8abf5 : MethodName := ⟨RJ0, "length", "()I"⟩
abbrev cJ0_charAt_5068e : ByteArray := prog_12_method_56_code
def yJ0_charAt_5068e : MethodName := ⟨RJ0, "charAt", "(I)C"⟩
abbrev cJ0_coder_7d493 : ByteArray := prog_12_method_152_code
def yJ0_coder_7d493 : MethodName := ⟨RJ0, "coder", "()B"⟩
abbrev cJ0_isLatin1_aae02 : ByteArray := prog_12_method_154_code
def yJ0_isLatin1_aae02 : MethodName := ⟨RJ0, "isLatin1", "()Z"⟩
abbrev cJ0_checkIndex_df160 : ByteArray := prog_12_method_155_code
def yJ0_checkIndex_df160 : MethodName := ⟨RJ0, "checkIndex", "(II)V"⟩
def RJ1 : String := "java/lang/StringLatin1"
def TJ1 : u_T := fun k => match k with
  | _ => ("", "", "", false)
def tyJ1 : Nat → FieldType := fun k => match k with
  | _ => .int
abbrev wsJ10 : List Cond := u_ws RJ1 TJ1 0
theorem nmJ1 : ∀ a, a < 0 → ∀ b, b < 0 → a ≠ b → (TJ1 a).2.1 ≠ (TJ1 b).2.1 := by decide +kernel
theorem tyJ1_ok : ∀ k, k < 0 → parseFieldDescriptor (TJ1 k).2.2.1 = some (tyJ1 k) := by decide +kernel
abbrev cJ1_charAt_3b067 : ByteArray := prog_13_method_2_code
def yJ1_charAt_3b067 : MethodName := ⟨RJ1, "charAt", "([BI)C"⟩
def RJ2 : String := "java/lang/StringUTF16"
def TJ2 : u_T := fun k => match k with
  | _ => ("", "", "", false)
def tyJ2 : Nat → FieldType := fun k => match k with
  | _ => .int
abbrev wsJ20 : List Cond := u_ws RJ2 TJ2 0
theorem nmJ2 : ∀ a, a < 0 → ∀ b, b < 0 → a ≠ b → (TJ2 a).2.1 ≠ (TJ2 b).2.1 := by decide +kernel
theorem tyJ2_ok : ∀ k, k < 0 → parseFieldDescriptor (TJ2 k).2.2.1 = some (tyJ2 k) := by decide +kernel
abbrev cJ2_getChar_3b067 : ByteArray := prog_14_method_5_code
def yJ2_getChar_3b067 : MethodName := ⟨RJ2, "getChar", "([BI)C"⟩
abbrev cJ2_length_9d52b : ByteArray := prog_14_method_6_code
def yJ2_length_9d52b : MethodName := ⟨RJ2, "length", "([B)I"⟩
abbrev cJ2_charAt_3b067 : ByteArray := prog_14_method_83_code
def yJ2_charAt_3b067 : MethodName := ⟨RJ2, "charAt", "([BI)C"⟩
abbrev cJ2_checkIndex_2214a : ByteArray := prog_14_method_91_code
def yJ2_checkIndex_2214a : MethodName := ⟨RJ2, "checkIndex", "(I[B)V"⟩
def RJ10 : String := "java/lang/System"
def TJ10 : u_T := fun k => match k with
  | _ => ("", "", "", false)
def tyJ10 : Nat → FieldType := fun k => match k with
  | _ => .int
abbrev wsJ100 : List Cond := u_ws RJ10 TJ10 0
theorem nmJ10 : ∀ a, a < 0 → ∀ b, b < 0 → a ≠ b → (TJ10 a).2.1 ≠ (TJ10 b).2.1 := by decide +kernel
theorem tyJ10_ok : ∀ k, k < 0 → parseFieldDescriptor (TJ10 k).2.2.1 = some (tyJ10 k) := by decide +kernel
def RJ3 : String := "jdk/internal/util/Preconditions"
def TJ3 : u_T := fun k => match k with
  | _ => ("", "", "", false)
def tyJ3 : Nat → FieldType := fun k => match k with
  | _ => .int
abbrev wsJ30 : List Cond := u_ws RJ3 TJ3 0
theorem nmJ3 : ∀ a, a < 0 → ∀ b, b < 0 → a ≠ b → (TJ3 a).2.1 ≠ (TJ3 b).2.1 := by decide +kernel
theorem tyJ3_ok : ∀ k, k < 0 → parseFieldDescriptor (TJ3 k).2.2.1 = some (tyJ3 k) := by decide +kernel
abbrev cJ3_checkIndex_8e157 : ByteArray := prog_16_method_11_code
def yJ3_checkIndex_8e157 : MethodName := ⟨RJ3, "checkIndex", "(IILjava/util/function/BiFunction;)I"⟩
def RL : String := "SpreadGroupsLaw"
abbrev cL_law : ByteArray := code
def yL_law : MethodName := ⟨RL, "law", "([I)Z"⟩
abbrev vwCl : List vw_C := [(RX0, TX0, 5), (RX1, TX1, 2), (RX2, TX2, 7), (RX3, TX3, 6), (RX4, TX4, 9), (RX5, TX5, 2), (RX6, TX6, 6), (RX7, TX7, 14), (RX8, TX8, 16)]
end
section
/-! THE DEEP SEMANTICS: a small machine over places; sg_R is the least relation closed under its rules (sg_C); the rules are shown sound for the kit's W in the next part. -/
abbrev sg_E : Type := (Bool × Nat × (Nat → Int32)) ⊕ (Nat × List Value)
abbrev sg_H : Type := Nat × Nat × (Nat → sg_E)
abbrev sg_M : Type := MethodName × ByteArray × Nat × Option FieldType × Room
abbrev sg_L : Type := List (Option Value)
abbrev sg_O : Type := Option Value × sg_H
abbrev sg_P : Type := sg_M → Nat → sg_L → List Value → sg_H → sg_O → Prop
def sg_up (h : sg_H) (k : Nat) (e : sg_E) : sg_H := (h.1, h.2.1, fun j => if j = k then e else h.2.2 j)
def sg_mk (h : sg_H) (z : Nat) (e : sg_E) : sg_H := (h.1 + 1, h.2.1 + z, fun j => if j = h.1 then e else h.2.2 j)
/-- what stands at a place: one of ours (below h.1), or a thing that nobody writes (from 1000 on) -/
def sg_at (h : sg_H) (k : Nat) (e : sg_E) : Prop := (k < h.1 ∨ 1000 ≤ k) ∧ h.2.2 k = e
def sg_cv (ad : Nat → Nat) : Value → Value
  | .ref k => .ref (ad k)
  | v => v
def sg_lx : Instr → Option (Nat × Nat × Nat)
  | .iload_n k => some (k.val, 0, 1)
  | .iload i => some (i, 0, 2)
  | .lload_n k => some (k.val, 1, 1)
  | .lload i => some (i, 1, 2)
  | .aload_n k => some (k.val, 2, 1)
  | .aload i => some (i, 2, 2)
  | _ => none
def sg_kd (n : Nat) (v : Value) : Bool := match v with
  | .int _ => n == 0
  | .long _ => n == 1
  | .ref _ => n == 2
  | _ => false
def sg_sx : Instr → Option (Nat × Nat × Nat)
  | .istore_n k => some (k.val, 0, 1)
  | .istore i => some (i, 0, 2)
  | .astore_n k => some (k.val, 2, 1)
  | .astore i => some (i, 2, 2)
  | _ => none
/-- no long stands just ahead of place i -/
def sg_fr (ls : sg_L) (i : Nat) : Bool := match i with
  | 0 => true
  | j + 1 => match ls[j]? with
    | some (some (.long _)) => false
    | some (some (.double _)) => false
    | _ => true
def sg_kx : Instr → Option (Int32 × Nat)
  | .iconst n => some (Int32.ofInt n, 1)
  | .bipush n => some ((Int8.ofInt n).toInt32, 2)
  | .sipush n => some ((Int16.ofInt n).toInt32, 3)
  | _ => none
def sg_bx : Instr → Option (Int32 → Int32 → Int32)
  | .iadd => some (fun x y => x + y)
  | .isub => some (fun x y => x - y)
  | .imul => some (fun x y => x * y)
  | .iand => some (fun x y => x &&& y)
  | .ior => some (fun x y => x ||| y)
  | .ixor => some (fun x y => x ^^^ y)
  | .ishl => some (fun x y => x <<< (y &&& 31))
  | .ishr => some (fun x y => x >>> (y &&& 31))
  | .iushr => some (fun x y => (x.toUInt32 >>> (y.toUInt32 &&& Int32.toUInt32 31)).toInt32)
  | _ => none
def sg_cd (c : Jvm.ClassFile.Cond) (x y : Int32) : Bool := match c with
  | .eq => decide (x = y)
  | .ne => decide (¬ x = y)
  | .lt => decide (x < y)
  | .ge => decide (y ≤ x)
  | .gt => decide (y < x)
  | .le => decide (x ≤ y)
/-- entry locals -/
def sg_en (vs : List Value) : sg_L := vs.flatMap fun v => if v.category = 2 then [some v, none] else [some v]
def sg_ent (M : sg_M) (vs : List Value) : sg_L := sg_en vs ++ List.replicate (M.2.2.1 - (sg_en vs).length) none
/-- the words of every method: all payable ones of the tables -/
def sg_ws : List Jvm.Cond := lw_tbl.filter goodWord
def sg_w (M : sg_M) : List Jvm.Cond := Cond.code M.1 M.2.1 M.2.2.1 M.2.2.2.1 :: sg_ws
/-- words that are no payable ones: private members of a nest mate -/
def sg_nws : List Jvm.Cond := lw_tbl.filter (fun w => match w with
  | .fieldLinkNest _ _ _ _ _ _ => true
  | .methodLinkNest _ _ _ _ => true
  | _ => false)
/-- field j of class ci is what pool row ix of class own names -/
def sg_fok (own : String) (ix ci j : Nat) : Prop := ∃ r : vw_C, vwCl[ci]? = some r ∧ j < r.2.2 ∧ (Cond.fieldLink own ix (r.2.1 j).1 (r.2.1 j).2.1 (r.2.1 j).2.2.1 ∈ sg_ws ∨ ∃ host, Cond.fieldLinkNest own ix (r.2.1 j).1 (r.2.1 j).2.1 (r.2.1 j).2.2.1 host ∈ sg_nws)
/-- field j of class ci may be given v by a method M -/
def sg_wok (M : sg_M) (ci j : Nat) (v : Value) : Prop := ∃ (r : vw_C) (ty : FieldType), vwCl[ci]? = some r ∧ ((r.2.1 j).2.2.2 = false ∨ ((r.2.1 j).2.2.2 = true ∧ M.1.name = "<init>" ∧ (r.2.1 j).1 = M.1.cls)) ∧ parseFieldDescriptor (r.2.1 j).2.2.1 = some ty ∧ ∀ ad, narrow ty (sg_cv ad v) = sg_cv ad v ∧ fits ty (sg_cv ad v) = true
/-- M' has n parameters and may be called: what holds of all its calls -/
def sg_mok (M' : sg_M) (n : Nat) : Prop := Cond.code M'.1 M'.2.1 M'.2.2.1 M'.2.2.2.1 ∈ sg_ws ∧ Cond.initialized M'.1.cls ∈ sg_ws ∧ (M'.1.cls ≠ "java/lang/invoke/MethodHandle" ∧ M'.1.cls ≠ "java/lang/invoke/VarHandle" ∧ (parseMethodDescriptor M'.1.desc).map (fun d => d.parameters.length) = some n) ∧ plainName M'.1.cls = true
def sg_iok (M' : sg_M) : Prop := Cond.instanceMethod M'.1 ∈ sg_ws ∧ Cond.selects M'.1.cls M'.1 M'.1 ∈ sg_ws
/-- M has room for M' -/
def sg_rok (M M' : sg_M) : Prop := M'.2.2.2.2.frames + 1 ≤ M.2.2.2.2.frames ∧ 8 + (M'.2.2.1 + 11) + M'.2.2.2.2.locals ≤ M.2.2.2.2.locals
/-- the pool row itself: an ordinary link, or one to a nest mate's private method -/
def sg_lok (own : String) (ix : Nat) (M' : sg_M) : Prop := Cond.methodLink own ix M'.1 ∈ sg_ws ∨ ∃ host, Cond.methodLinkNest own ix M'.1 host ∈ sg_nws
def sg_tx : Nat → List Int32
  | 1010 => [118, 111, 108, 117, 109, 101]
  | 1011 => [100, 105, 114]
  | 1012 => [102, 105, 108, 101]
  | _ => []
/-- string constants: class, pool row, place -/
def sg_scl : List (String × Nat × Nat) := [(RX4, 37, 1010), (RX4, 60, 1011), (RX4, 65, 1012)]
/-- static rows of ints: class, pool row, name of the class that has it, name, place -/
def sg_stl : List (String × Nat × String × Nat) := [(RX4, 43, "LEAST_RULES", 1001), (RX4, 46, "MOST_RULES", 1002), (RX7, 57, "RULES_AT_FIRST", 1003)]
section SGR
variable (P : sg_P)
def sg_q01 : Prop := ∀ (M : sg_M) (pc : Nat) (ls : sg_L) (st : List Value) (h : sg_H) (out : sg_O) (ins : Instr) (len i kd : Nat) (v : Value), decode M.2.1 pc = .ok (ins, len) → sg_lx ins = some (i, kd, len) → ls[i]? = some (some v) → sg_kd kd v = true → P M (pc + len) ls (v :: st) h out → P M pc ls st h out
def sg_q02 : Prop := ∀ (M : sg_M) (pc : Nat) (ls : sg_L) (st : List Value) (h : sg_H) (out : sg_O) (ins : Instr) (len i kd : Nat) (v : Value), decode M.2.1 pc = .ok (ins, len) → sg_sx ins = some (i, kd, len) → sg_kd kd v = true → i < ls.length → sg_fr ls i = true → P M (pc + len) (ls.set i (some v)) st h out → P M pc ls (v :: st) h out
def sg_q03 : Prop := ∀ (M : sg_M) (pc : Nat) (ls : sg_L) (st : List Value) (h : sg_H) (out : sg_O) (ins : Instr) (len : Nat) (v : Int32), decode M.2.1 pc = .ok (ins, len) → sg_kx ins = some (v, len) → P M (pc + len) ls (.int v :: st) h out → P M pc ls st h out
def sg_q04 : Prop := ∀ (M : sg_M) (pc : Nat) (ls : sg_L) (st : List Value) (h : sg_H) (out : sg_O) (n : Fin 2), decode M.2.1 pc = .ok (.lconst n, 1) → P M (pc + 1) ls (.long (Int64.ofNat n.val) :: st) h out → P M pc ls st h out
def sg_q05 : Prop := ∀ (M : sg_M) (pc : Nat) (ls : sg_L) (st : List Value) (h : sg_H) (out : sg_O) (ix : Nat) (v : Int32), decode M.2.1 pc = .ok (.ldc ix, 2) → Cond.constant M.1.cls ix v ∈ sg_ws → P M (pc + 2) ls (.int v :: st) h out → P M pc ls st h out
def sg_q06 : Prop := ∀ (M : sg_M) (pc : Nat) (ls : sg_L) (st : List Value) (h : sg_H) (out : sg_O) (ix : Nat) (v : Int32), decode M.2.1 pc = .ok (.ldc_w ix, 3) → Cond.constant M.1.cls ix v ∈ sg_ws → P M (pc + 3) ls (.int v :: st) h out → P M pc ls st h out
def sg_q07 : Prop := ∀ (M : sg_M) (pc : Nat) (ls : sg_L) (st : List Value) (h : sg_H) (out : sg_O) (ix : Nat) (v : Int64), decode M.2.1 pc = .ok (.ldc2_w ix, 3) → Cond.constantLong M.1.cls ix v ∈ sg_ws → P M (pc + 3) ls (.long v :: st) h out → P M pc ls st h out
def sg_q08 : Prop := ∀ (M : sg_M) (pc : Nat) (ls : sg_L) (st : List Value) (h : sg_H) (out : sg_O) (ix k : Nat), decode M.2.1 pc = .ok (.ldc ix, 2) → (M.1.cls, ix, k) ∈ sg_scl → P M (pc + 2) ls (.ref k :: st) h out → P M pc ls st h out
def sg_q09 : Prop := ∀ (M : sg_M) (pc : Nat) (ls : sg_L) (st : List Value) (h : sg_H) (out : sg_O) (ins : Instr) (f : Int32 → Int32 → Int32) (x y : Int32), decode M.2.1 pc = .ok (ins, 1) → sg_bx ins = some f → P M (pc + 1) ls (.int (f x y) :: st) h out → P M pc ls (.int y :: .int x :: st) h out
def sg_q10 : Prop := ∀ (M : sg_M) (pc : Nat) (ls : sg_L) (st : List Value) (h : sg_H) (out : sg_O) (x y : Int32), decode M.2.1 pc = .ok (.idiv, 1) → ¬ y = 0 → P M (pc + 1) ls (.int (x / y) :: st) h out → P M pc ls (.int y :: .int x :: st) h out
def sg_q11 : Prop := ∀ (M : sg_M) (pc : Nat) (ls : sg_L) (st : List Value) (h : sg_H) (out : sg_O) (x y : Int32), decode M.2.1 pc = .ok (.irem, 1) → ¬ y = 0 → P M (pc + 1) ls (.int (x - x / y * y) :: st) h out → P M pc ls (.int y :: .int x :: st) h out
def sg_q12 : Prop := ∀ (M : sg_M) (pc : Nat) (ls : sg_L) (st : List Value) (h : sg_H) (out : sg_O) (x : Int32), decode M.2.1 pc = .ok (.i2l, 1) → P M (pc + 1) ls (.long x.toInt64 :: st) h out → P M pc ls (.int x :: st) h out
def sg_q13 : Prop := ∀ (M : sg_M) (pc : Nat) (ls : sg_L) (st : List Value) (h : sg_H) (out : sg_O) (x y : Int64), decode M.2.1 pc = .ok (.lcmp, 1) → P M (pc + 1) ls (.int (lg_cmp x y) :: st) h out → P M pc ls (.long y :: .long x :: st) h out
def sg_q14 : Prop := ∀ (M : sg_M) (pc : Nat) (ls : sg_L) (st : List Value) (h : sg_H) (out : sg_O) (i : Nat) (n : Int) (x : Int32), decode M.2.1 pc = .ok (.iinc i n, 3) → ls[i]? = some (some (.int x)) → sg_fr ls i = true → P M (pc + 3) (ls.set i (some (.int (x + Int32.ofInt n)))) st h out → P M pc ls st h out
def sg_q15 : Prop := ∀ (M : sg_M) (pc : Nat) (ls : sg_L) (st : List Value) (h : sg_H) (out : sg_O) (v : Value), decode M.2.1 pc = .ok (.dup, 1) → v.category = 1 → P M (pc + 1) ls (v :: v :: st) h out → P M pc ls (v :: st) h out
def sg_q16 : Prop := ∀ (M : sg_M) (pc : Nat) (ls : sg_L) (st : List Value) (h : sg_H) (out : sg_O) (v w : Value), decode M.2.1 pc = .ok (.dup2, 1) → v.category = 1 → w.category = 1 → P M (pc + 1) ls (v :: w :: v :: w :: st) h out → P M pc ls (v :: w :: st) h out
def sg_q17 : Prop := ∀ (M : sg_M) (pc : Nat) (ls : sg_L) (st : List Value) (h : sg_H) (out : sg_O) (off : Int) (tgt : Nat), decode M.2.1 pc = .ok (.goto off, 3) → (pc : Int) + off = (tgt : Int) → P M tgt ls st h out → P M pc ls st h out
def sg_q18 : Prop := ∀ (M : sg_M) (pc : Nat) (ls : sg_L) (st : List Value) (h : sg_H) (out : sg_O) (cd : Jvm.ClassFile.Cond) (off : Int) (tgt : Nat) (x y : Int32), decode M.2.1 pc = .ok (.if_icmp cd off, 3) → (pc : Int) + off = (tgt : Int) → sg_cd cd x y = true → P M tgt ls st h out → P M pc ls (.int y :: .int x :: st) h out
def sg_q19 : Prop := ∀ (M : sg_M) (pc : Nat) (ls : sg_L) (st : List Value) (h : sg_H) (out : sg_O) (cd : Jvm.ClassFile.Cond) (off : Int) (tgt : Nat) (x y : Int32), decode M.2.1 pc = .ok (.if_icmp cd off, 3) → (pc : Int) + off = (tgt : Int) → sg_cd cd x y = false → P M (pc + 3) ls st h out → P M pc ls (.int y :: .int x :: st) h out
def sg_q20 : Prop := ∀ (M : sg_M) (pc : Nat) (ls : sg_L) (st : List Value) (h : sg_H) (out : sg_O) (cd : Jvm.ClassFile.Cond) (off : Int) (tgt : Nat) (x : Int32), decode M.2.1 pc = .ok (.ifCond cd off, 3) → (pc : Int) + off = (tgt : Int) → sg_cd cd x 0 = true → P M tgt ls st h out → P M pc ls (.int x :: st) h out
def sg_q21 : Prop := ∀ (M : sg_M) (pc : Nat) (ls : sg_L) (st : List Value) (h : sg_H) (out : sg_O) (cd : Jvm.ClassFile.Cond) (off : Int) (tgt : Nat) (x : Int32), decode M.2.1 pc = .ok (.ifCond cd off, 3) → (pc : Int) + off = (tgt : Int) → sg_cd cd x 0 = false → P M (pc + 3) ls st h out → P M pc ls (.int x :: st) h out
def sg_q22 : Prop := ∀ (M : sg_M) (pc : Nat) (ls : sg_L) (st : List Value) (h : sg_H) (out : sg_O) (off : Int) (k : Nat), decode M.2.1 pc = .ok (.ifnull off, 3) → P M (pc + 3) ls st h out → P M pc ls (.ref k :: st) h out
def sg_q23 : Prop := ∀ (M : sg_M) (pc : Nat) (ls : sg_L) (st : List Value) (h : sg_H) (out : sg_O) (dflt lo hi : Int) (offs : Array Int) (len : Nat) (x : Int32) (off : Int) (tgt : Nat), decode M.2.1 pc = .ok (.tableswitch dflt lo hi offs, len) → ¬ x.toInt < lo → ¬ hi < x.toInt → offs[(x.toInt - lo).toNat]? = some off → (pc : Int) + off = (tgt : Int) → P M tgt ls st h out → P M pc ls (.int x :: st) h out
def sg_q24 : Prop := ∀ (M : sg_M) (pc : Nat) (ls : sg_L) (st : List Value) (h : sg_H) (out : sg_O) (dflt lo hi : Int) (offs : Array Int) (len : Nat) (x : Int32) (tgt : Nat), decode M.2.1 pc = .ok (.tableswitch dflt lo hi offs, len) → (x.toInt < lo ∨ hi < x.toInt) → (pc : Int) + dflt = (tgt : Int) → P M tgt ls st h out → P M pc ls (.int x :: st) h out
def sg_q25 : Prop := ∀ (M : sg_M) (pc : Nat) (ls : sg_L) (st : List Value) (h : sg_H) (out : sg_O) (dflt : Int) (ps : Array (Int × Int)) (len : Nat) (x : Int32) (off : Int) (tgt : Nat), decode M.2.1 pc = .ok (.lookupswitch dflt ps, len) → (ps.toList.zip (ps.toList.drop 1)).all (fun (a, next) => a.1 < next.1) = true → Op.lookupswitch.offset ps.toList dflt x.toInt = off → (pc : Int) + off = (tgt : Int) → P M tgt ls st h out → P M pc ls (.int x :: st) h out
def sg_q26 : Prop := ∀ (M : sg_M) (pc : Nat) (ls : sg_L) (st : List Value) (h : sg_H) (out : sg_O) (ix ci j k : Nat) (fs : List Value) (v : Value), decode M.2.1 pc = .ok (.getfield ix, 3) → sg_fok M.1.cls ix ci j → k < 1000 → sg_at h k (.inr (ci, fs)) → fs[j]? = some v → P M (pc + 3) ls (v :: st) h out → P M pc ls (.ref k :: st) h out
def sg_q27 : Prop := ∀ (M : sg_M) (pc : Nat) (ls : sg_L) (st : List Value) (h : sg_H) (out : sg_O) (ix ci j k : Nat) (fs : List Value) (v : Value), decode M.2.1 pc = .ok (.putfield ix, 3) → sg_fok M.1.cls ix ci j → sg_wok M ci j v → k < 1000 → sg_at h k (.inr (ci, fs)) → j < fs.length → P M (pc + 3) ls st (sg_up h k (.inr (ci, fs.set j v))) out → P M pc ls (v :: .ref k :: st) h out
def sg_q28 : Prop := ∀ (M : sg_M) (pc : Nat) (ls : sg_L) (st : List Value) (h : sg_H) (out : sg_O) (k n : Nat) (f : Nat → Int32) (i : Int32), decode M.2.1 pc = .ok (.iaload, 1) → sg_at h k (.inl (false, n, f)) → vp_in i n → P M (pc + 1) ls (.int (f i.toNatClampNeg) :: st) h out → P M pc ls (.int i :: .ref k :: st) h out
def sg_q29 : Prop := ∀ (M : sg_M) (pc : Nat) (ls : sg_L) (st : List Value) (h : sg_H) (out : sg_O) (k n : Nat) (f : Nat → Int32) (i : Int32), decode M.2.1 pc = .ok (.baload, 1) → k < 1000 → sg_at h k (.inl (true, n, f)) → vp_in i n → P M (pc + 1) ls (.int (f i.toNatClampNeg) :: st) h out → P M pc ls (.int i :: .ref k :: st) h out
def sg_q30 : Prop := ∀ (M : sg_M) (pc : Nat) (ls : sg_L) (st : List Value) (h : sg_H) (out : sg_O) (k n : Nat) (f : Nat → Int32) (i x : Int32), decode M.2.1 pc = .ok (.iastore, 1) → k < 1000 → sg_at h k (.inl (false, n, f)) → vp_in i n → P M (pc + 1) ls st (sg_up h k (.inl (false, n, upd f i.toNatClampNeg x))) out → P M pc ls (.int x :: .int i :: .ref k :: st) h out
def sg_q31 : Prop := ∀ (M : sg_M) (pc : Nat) (ls : sg_L) (st : List Value) (h : sg_H) (out : sg_O) (k n : Nat) (f : Nat → Int32) (i x : Int32), decode M.2.1 pc = .ok (.bastore, 1) → k < 1000 → sg_at h k (.inl (true, n, f)) → vp_in i n → P M (pc + 1) ls st (sg_up h k (.inl (true, n, upd f i.toNatClampNeg (vp_nar .boolean x)))) out → P M pc ls (.int x :: .int i :: .ref k :: st) h out
def sg_q32 : Prop := ∀ (M : sg_M) (pc : Nat) (ls : sg_L) (st : List Value) (h : sg_H) (out : sg_O) (k n : Nat) (f : Nat → Int32), decode M.2.1 pc = .ok (.arraylength, 1) → sg_at h k (.inl (false, n, f)) → P M (pc + 1) ls (.int (Int32.ofNat n) :: st) h out → P M pc ls (.ref k :: st) h out
def sg_q33 : Prop := ∀ (M : sg_M) (pc : Nat) (ls : sg_L) (st : List Value) (h : sg_H) (out : sg_O) (ix ci : Nat) (r : vw_C) (ty : Nat → FieldType) (fs : List Value), decode M.2.1 pc = .ok (.new ix, 3) → vwCl[ci]? = some r → Cond.classLink M.1.cls ix r.1 ∈ sg_ws → Cond.instantiable r.1 r.2.2 ∈ sg_ws → Cond.initialized r.1 ∈ sg_ws → (∀ k, k < r.2.2 → parseFieldDescriptor (r.2.1 k).2.2.1 = some (ty k)) → (∀ j, j < r.2.2 → defaultValue (ty j) = vp_V fs j) → fs.length = r.2.2 → (∀ v ∈ fs, ∀ ad, sg_cv ad v = v) → h.1 < 1000 → P M (pc + 3) ls (.ref h.1 :: st) (sg_mk h r.2.2 (.inr (ci, fs))) out → P M pc ls st h out
def sg_q34 : Prop := ∀ (M : sg_M) (pc : Nat) (ls : sg_L) (st : List Value) (h : sg_H) (out : sg_O) (n : Int32) (N : Nat), decode M.2.1 pc = .ok (.newarray .int, 2) → ¬ n < 0 → n.toNatClampNeg = N → N ≤ 100000 → h.1 < 1000 → P M (pc + 2) ls (.ref h.1 :: st) (sg_mk h N (.inl (false, N, fun _ => 0))) out → P M pc ls (.int n :: st) h out
def sg_q35 : Prop := ∀ (M : sg_M) (pc : Nat) (ls : sg_L) (st : List Value) (h : sg_H) (out : sg_O) (n : Int32) (N : Nat), decode M.2.1 pc = .ok (.newarray .boolean, 2) → ¬ n < 0 → n.toNatClampNeg = N → N ≤ 100000 → h.1 < 1000 → P M (pc + 2) ls (.ref h.1 :: st) (sg_mk h N (.inl (true, N, fun _ => 0))) out → P M pc ls (.int n :: st) h out
def sg_q36 : Prop := ∀ (M : sg_M) (pc : Nat) (ls : sg_L) (st : List Value) (h : sg_H) (out : sg_O) (ix k : Nat) (nm : String), decode M.2.1 pc = .ok (.getstatic ix, 3) → (M.1.cls, ix, nm, k) ∈ sg_stl → P M (pc + 3) ls (.ref k :: st) h out → P M pc ls st h out
def sg_q37 : Prop := ∀ (M : sg_M) (pc : Nat) (ls : sg_L) (st : List Value) (h : sg_H) (out : sg_O) (ix k : Nat), decode M.2.1 pc = .ok (.invokespecial ix, 3) → Cond.methodLink M.1.cls ix objectInit ∈ sg_ws → (st.map fun v => v.category).sum ≤ 8 → (1 ≤ M.2.2.2.2.frames ∧ 20 ≤ M.2.2.2.2.locals) → P M (pc + 3) ls st h out → P M pc ls (.ref k :: st) h out
def sg_q38 : Prop := ∀ (M M' : sg_M) (pc : Nat) (ls : sg_L) (st : List Value) (h h1 : sg_H) (out : sg_O) (ix ci k : Nat) (fs : List Value) (rc : vw_C) (As : List Value) (r : Option Value), decode M.2.1 pc = .ok (.invokevirtual ix, 3) → sg_mok M' As.length → sg_rok M M' → sg_lok M.1.cls ix M' → sg_iok M' → vwCl[ci]? = some rc → rc.1 = M'.1.cls → k < 1000 → sg_at h k (.inr (ci, fs)) → (st.map fun v => v.category).sum ≤ 8 → (sg_en (.ref k :: As)).length ≤ M'.2.2.1 → P M' 0 (sg_ent M' (.ref k :: As)) [] h (r, h1) → h1.1 = h.1 + M'.2.2.2.2.cells → h1.2.1 = h.2.1 + M'.2.2.2.2.slots → P M (pc + 3) ls (r.toList ++ st) h1 out → P M pc ls (As.reverse ++ .ref k :: st) h out
def sg_q39 : Prop := ∀ (M M' : sg_M) (pc : Nat) (ls : sg_L) (st : List Value) (h h1 : sg_H) (out : sg_O) (ix : Nat) (As : List Value) (r : Option Value), decode M.2.1 pc = .ok (.invokestatic ix, 3) → sg_mok M' As.length → sg_rok M M' → sg_lok M.1.cls ix M' → Cond.static M'.1 ∈ sg_ws → (st.map fun v => v.category).sum ≤ 8 → (sg_en As).length ≤ M'.2.2.1 → P M' 0 (sg_ent M' As) [] h (r, h1) → h1.1 = h.1 + M'.2.2.2.2.cells → h1.2.1 = h.2.1 + M'.2.2.2.2.slots → P M (pc + 3) ls (r.toList ++ st) h1 out → P M pc ls (As.reverse ++ st) h out
def sg_q40 : Prop := ∀ (M M' : sg_M) (pc : Nat) (ls : sg_L) (st : List Value) (h h1 : sg_H) (out : sg_O) (ix k : Nat) (As : List Value) (r : Option Value), decode M.2.1 pc = .ok (.invokespecial ix, 3) → sg_mok M' As.length → sg_rok M M' → sg_lok M.1.cls ix M' → Cond.instanceMethod M'.1 ∈ sg_ws → M'.1.name = "<init>" → M'.2.2.2.1 = none → (st.map fun v => v.category).sum ≤ 8 → (sg_en (.ref k :: As)).length ≤ M'.2.2.1 → P M' 0 (sg_ent M' (.ref k :: As)) [] h (r, h1) → h1.1 = h.1 + M'.2.2.2.2.cells → h1.2.1 = h.2.1 + M'.2.2.2.2.slots → P M (pc + 3) ls (r.toList ++ st) h1 out → P M pc ls (As.reverse ++ .ref k :: st) h out
def sg_q41 : Prop := ∀ (M : sg_M) (pc : Nat) (ls : sg_L) (st : List Value) (h : sg_H) (out : sg_O) (ix k k2 n n2 : Nat) (f g : Nat → Int32) (c : Int32), decode M.2.1 pc = .ok (.invokestatic ix, 3) → Cond.methodLink M.1.cls ix arraycopyName ∈ sg_ws → k < 1000 → k2 < 1000 → sg_at h k (.inl (false, n, f)) → sg_at h k2 (.inl (false, n2, g)) → ¬ c < 0 → c.toNatClampNeg ≤ n → c.toNatClampNeg ≤ n2 → (1 ≤ M.2.2.2.2.frames ∧ 8 + (nativeFrameWords "java/lang/System" "arraycopy" 5 + 11) ≤ M.2.2.2.2.locals) → (st.map fun v => v.category).sum ≤ 8 → P M (pc + 3) ls st (sg_up h k2 (.inl (false, n2, va_cpy f g 0 0 c.toNatClampNeg))) out → P M pc ls (.int c :: .int 0 :: .ref k2 :: .int 0 :: .ref k :: st) h out
def sg_q42 : Prop := ∀ (M : sg_M) (pc : Nat) (ls : sg_L) (st : List Value) (h : sg_H) (out : sg_O) (ix k : Nat), decode M.2.1 pc = .ok (.invokevirtual ix, 3) → Cond.methodLink M.1.cls ix yJ0_length_8abf5 ∈ sg_ws → (k = 1010 ∨ k = 1011 ∨ k = 1012) → (st.map fun v => v.category).sum ≤ 8 → (4 ≤ M.2.2.2.2.frames ∧ 100 ≤ M.2.2.2.2.locals) → P M (pc + 3) ls (.int (nI (sg_tx k).length) :: st) h out → P M pc ls (.ref k :: st) h out
def sg_q43 : Prop := ∀ (M : sg_M) (pc : Nat) (ls : sg_L) (st : List Value) (h : sg_H) (out : sg_O) (ix k j : Nat), decode M.2.1 pc = .ok (.invokevirtual ix, 3) → Cond.methodLink M.1.cls ix yJ0_charAt_5068e ∈ sg_ws → (k = 1010 ∨ k = 1011 ∨ k = 1012) → j < (sg_tx k).length → (st.map fun v => v.category).sum ≤ 8 → (4 ≤ M.2.2.2.2.frames ∧ 100 ≤ M.2.2.2.2.locals) → P M (pc + 3) ls (.int ((sg_tx k).getD j 0) :: st) h out → P M pc ls (.int (nI j) :: .ref k :: st) h out
def sg_q44 : Prop := ∀ (M : sg_M) (pc : Nat) (ls : sg_L) (h : sg_H) (v : Int32) (ty : FieldType), decode M.2.1 pc = .ok (.ireturn, 1) → M.2.2.2.1 = some ty → narrow ty (.int v) = .int v → P M pc ls [.int v] h (some (.int v), h)
def sg_q45 : Prop := ∀ (M : sg_M) (pc : Nat) (ls : sg_L) (h : sg_H), decode M.2.1 pc = .ok (.return_, 1) → M.2.2.2.1 = none → P M pc ls [] h (none, h)
def sg_cA : Prop := sg_q01 P ∧ sg_q02 P ∧ sg_q03 P ∧ sg_q04 P ∧ sg_q05 P ∧ sg_q06 P ∧ sg_q07 P ∧ sg_q08 P ∧ sg_q09 P ∧ sg_q10 P ∧ sg_q11 P ∧ sg_q12 P ∧ sg_q13 P ∧ sg_q14 P ∧ sg_q15 P ∧ sg_q16 P
def sg_cB : Prop := sg_q17 P ∧ sg_q18 P ∧ sg_q19 P ∧ sg_q20 P ∧ sg_q21 P ∧ sg_q22 P ∧ sg_q23 P ∧ sg_q24 P ∧ sg_q25 P
def sg_cC : Prop := sg_q26 P ∧ sg_q27 P ∧ sg_q28 P ∧ sg_q29 P ∧ sg_q30 P ∧ sg_q31 P ∧ sg_q32 P ∧ sg_q33 P ∧ sg_q34 P ∧ sg_q35 P ∧ sg_q36 P
def sg_cD : Prop := sg_q37 P ∧ sg_q38 P ∧ sg_q39 P ∧ sg_q40 P ∧ sg_q41 P ∧ sg_q42 P ∧ sg_q43 P ∧ sg_q44 P ∧ sg_q45 P
def sg_C : Prop := sg_cA P ∧ sg_cB P ∧ sg_cC P ∧ sg_cD P
end SGR
/-- the machine comes from here to its method's return, with this answer and this heap -/
def sg_R (M : sg_M) (pc : Nat) (ls : sg_L) (st : List Value) (h : sg_H) (out : sg_O) : Prop := ∀ P : sg_P, sg_C P → P M pc ls st h out
/-- .. and the answer and the heap are such -/
def sg_A (M : sg_M) (pc : Nat) (ls : sg_L) (st : List Value) (h : sg_H) (Q : Option Value → sg_H → Prop) : Prop := ∃ (r : Option Value) (h' : sg_H), sg_R M pc ls st h (r, h') ∧ Q r h'
/-- a method's contract -/
def sg_K (M : sg_M) (vs : List Value) (h : sg_H) (Q : Option Value → sg_H → Prop) : Prop := sg_A M 0 (sg_ent M vs) [] h Q
end
