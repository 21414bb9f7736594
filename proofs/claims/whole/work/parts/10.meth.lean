/-! DESCRIPTORS of all methods, their words' places, pool rows: laid by gen_meth.py -/
theorem sg_in {w : Jvm.Cond} (i : Nat) (h : tables_1[i]? = some w) (g : goodWord w = true) : w ∈ sg_ws := List.mem_filter.mpr ⟨List.mem_append_right _ (List.mem_of_getElem? h), g⟩
theorem sg_inn {w : Jvm.Cond} (i : Nat) (g : (match w with | .fieldLinkNest _ _ _ _ _ _ => true | .methodLinkNest _ _ _ _ => true | _ => false) = true) (h : tables_1[i]? = some w) : w ∈ sg_nws := List.mem_filter.mpr ⟨List.mem_append_right _ (List.mem_of_getElem? h), g⟩
theorem sg_ins {y : MethodName} {n : Nat} (i : Nat) (h : lw_privs[i]? = some (y, n)) : Cond.selects y.cls y y ∈ sg_ws := List.mem_filter.mpr ⟨List.mem_append_left _ (List.mem_map.mpr ⟨(y, n), List.mem_of_getElem? h, rfl⟩), rfl⟩
abbrev MX0_gatherAt : sg_M := (yX0_gatherAt, cX0_gatherAt, 6, none, { frames := 1, cells := 0, slots := 0, locals := 25 })
theorem mX0_gatherAt : sg_mok MX0_gatherAt 2 := ⟨sg_in 838 (by decide +kernel) rfl, sg_in 6 (by decide +kernel) rfl, ⟨by decide +kernel, by decide +kernel, by decide +kernel⟩, by decide +kernel⟩
theorem iX0_gatherAt : sg_iok MX0_gatherAt := ⟨sg_in 837 (by decide +kernel) rfl, sg_ins (n := 5) 25 (by decide +kernel)⟩
abbrev MX0_gatherFile : sg_M := (yX0_gatherFile, cX0_gatherFile, 6, (some .int), { frames := 4, cells := 0, slots := 0, locals := 92 })
theorem mX0_gatherFile : sg_mok MX0_gatherFile 1 := ⟨sg_in 829 (by decide +kernel) rfl, sg_in 6 (by decide +kernel) rfl, ⟨by decide +kernel, by decide +kernel, by decide +kernel⟩, by decide +kernel⟩
theorem iX0_gatherFile : sg_iok MX0_gatherFile := ⟨sg_in 827 (by decide +kernel) rfl, sg_in 828 (by decide +kernel) rfl⟩
abbrev MX0_groupForTail : sg_M := (yX0_groupForTail, cX0_groupForTail, 3, (some .int), { frames := 1, cells := 0, slots := 0, locals := 22 })
theorem mX0_groupForTail : sg_mok MX0_groupForTail 2 := ⟨sg_in 616 (by decide +kernel) rfl, sg_in 6 (by decide +kernel) rfl, ⟨by decide +kernel, by decide +kernel, by decide +kernel⟩, by decide +kernel⟩
theorem iX0_groupForTail : sg_iok MX0_groupForTail := ⟨sg_in 615 (by decide +kernel) rfl, sg_ins (n := 5) 21 (by decide +kernel)⟩
abbrev MX0_growFile : sg_M := (yX0_growFile, cX0_growFile, 5, (some .int), { frames := 5, cells := 0, slots := 0, locals := 123 })
theorem mX0_growFile : sg_mok MX0_growFile 2 := ⟨sg_in 595 (by decide +kernel) rfl, sg_in 6 (by decide +kernel) rfl, ⟨by decide +kernel, by decide +kernel, by decide +kernel⟩, by decide +kernel⟩
theorem iX0_growFile : sg_iok MX0_growFile := ⟨sg_in 593 (by decide +kernel) rfl, sg_in 594 (by decide +kernel) rfl⟩
abbrev MX0_init : sg_M := (yX0_init, cX0_init, 2, none, { frames := 2, cells := 2, slots := 34, locals := 41 })
theorem mX0_init : sg_mok MX0_init 1 := ⟨sg_in 140 (by decide +kernel) rfl, sg_in 6 (by decide +kernel) rfl, ⟨by decide +kernel, by decide +kernel, by decide +kernel⟩, by decide +kernel⟩
theorem nX0_init : Cond.instanceMethod yX0_init ∈ sg_ws := sg_in 139 (by decide +kernel) rfl
abbrev MX0_lacksRoomFor : sg_M := (yX0_lacksRoomFor, cX0_lacksRoomFor, 2, (some .boolean), { frames := 3, cells := 0, slots := 0, locals := 66 })
theorem mX0_lacksRoomFor : sg_mok MX0_lacksRoomFor 1 := ⟨sg_in 543 (by decide +kernel) rfl, sg_in 6 (by decide +kernel) rfl, ⟨by decide +kernel, by decide +kernel, by decide +kernel⟩, by decide +kernel⟩
theorem iX0_lacksRoomFor : sg_iok MX0_lacksRoomFor := ⟨sg_in 542 (by decide +kernel) rfl, sg_ins (n := 5) 14 (by decide +kernel)⟩
abbrev MX0_layBlock : sg_M := (yX0_layBlock, cX0_layBlock, 7, (some .boolean), { frames := 3, cells := 0, slots := 0, locals := 70 })
theorem mX0_layBlock : sg_mok MX0_layBlock 2 := ⟨sg_in 634 (by decide +kernel) rfl, sg_in 6 (by decide +kernel) rfl, ⟨by decide +kernel, by decide +kernel, by decide +kernel⟩, by decide +kernel⟩
theorem iX0_layBlock : sg_iok MX0_layBlock := ⟨sg_in 633 (by decide +kernel) rfl, sg_ins (n := 5) 23 (by decide +kernel)⟩
abbrev MX0_layBlocks : sg_M := (yX0_layBlocks, cX0_layBlocks, 8, (some .boolean), { frames := 4, cells := 0, slots := 0, locals := 96 })
theorem mX0_layBlocks : sg_mok MX0_layBlocks 2 := ⟨sg_in 626 (by decide +kernel) rfl, sg_in 6 (by decide +kernel) rfl, ⟨by decide +kernel, by decide +kernel, by decide +kernel⟩, by decide +kernel⟩
theorem iX0_layBlocks : sg_iok MX0_layBlocks := ⟨sg_in 625 (by decide +kernel) rfl, sg_ins (n := 5) 22 (by decide +kernel)⟩
abbrev MX0_layTail : sg_M := (yX0_layTail, cX0_layTail, 8, (some .boolean), { frames := 3, cells := 0, slots := 0, locals := 78 })
theorem mX0_layTail : sg_mok MX0_layTail 2 := ⟨sg_in 605 (by decide +kernel) rfl, sg_in 6 (by decide +kernel) rfl, ⟨by decide +kernel, by decide +kernel, by decide +kernel⟩, by decide +kernel⟩
theorem iX0_layTail : sg_iok MX0_layTail := ⟨sg_in 604 (by decide +kernel) rfl, sg_ins (n := 5) 20 (by decide +kernel)⟩
abbrev MX0_makeInode : sg_M := (yX0_makeInode, cX0_makeInode, 7, (some .int), { frames := 4, cells := 0, slots := 0, locals := 94 })
theorem mX0_makeInode : sg_mok MX0_makeInode 3 := ⟨sg_in 478 (by decide +kernel) rfl, sg_in 6 (by decide +kernel) rfl, ⟨by decide +kernel, by decide +kernel, by decide +kernel⟩, by decide +kernel⟩
theorem iX0_makeInode : sg_iok MX0_makeInode := ⟨sg_in 476 (by decide +kernel) rfl, sg_in 477 (by decide +kernel) rfl⟩
abbrev MX0_moveInode : sg_M := (yX0_moveInode, cX0_moveInode, 5, (some .int), { frames := 4, cells := 0, slots := 0, locals := 92 })
theorem mX0_moveInode : sg_mok MX0_moveInode 3 := ⟨sg_in 816 (by decide +kernel) rfl, sg_in 6 (by decide +kernel) rfl, ⟨by decide +kernel, by decide +kernel, by decide +kernel⟩, by decide +kernel⟩
theorem iX0_moveInode : sg_iok MX0_moveInode := ⟨sg_in 814 (by decide +kernel) rfl, sg_in 815 (by decide +kernel) rfl⟩
abbrev MX0_removeInode : sg_M := (yX0_removeInode, cX0_removeInode, 3, (some .int), { frames := 4, cells := 0, slots := 0, locals := 92 })
theorem mX0_removeInode : sg_mok MX0_removeInode 1 := ⟨sg_in 804 (by decide +kernel) rfl, sg_in 6 (by decide +kernel) rfl, ⟨by decide +kernel, by decide +kernel, by decide +kernel⟩, by decide +kernel⟩
theorem iX0_removeInode : sg_iok MX0_removeInode := ⟨sg_in 802 (by decide +kernel) rfl, sg_in 803 (by decide +kernel) rfl⟩
abbrev MX0_shrinkFile : sg_M := (yX0_shrinkFile, cX0_shrinkFile, 6, (some .int), { frames := 4, cells := 0, slots := 0, locals := 92 })
theorem mX0_shrinkFile : sg_mok MX0_shrinkFile 2 := ⟨sg_in 795 (by decide +kernel) rfl, sg_in 6 (by decide +kernel) rfl, ⟨by decide +kernel, by decide +kernel, by decide +kernel⟩, by decide +kernel⟩
theorem iX0_shrinkFile : sg_iok MX0_shrinkFile := ⟨sg_in 793 (by decide +kernel) rfl, sg_in 794 (by decide +kernel) rfl⟩
abbrev MX1_areFree : sg_M := (yX1_areFree, cX1_areFree, 4, (some .boolean), { frames := 1, cells := 0, slots := 0, locals := 21 })
theorem mX1_areFree : sg_mok MX1_areFree 2 := ⟨sg_in 611 (by decide +kernel) rfl, sg_in 4 (by decide +kernel) rfl, ⟨by decide +kernel, by decide +kernel, by decide +kernel⟩, by decide +kernel⟩
theorem iX1_areFree : sg_iok MX1_areFree := ⟨sg_in 609 (by decide +kernel) rfl, sg_in 610 (by decide +kernel) rfl⟩
abbrev MX1_bitsOf : sg_M := (yX1_bitsOf, cX1_bitsOf, 2, (some .int), { frames := 0, cells := 0, slots := 0, locals := 0 })
theorem mX1_bitsOf : sg_mok MX1_bitsOf 1 := ⟨sg_in 493 (by decide +kernel) rfl, sg_in 4 (by decide +kernel) rfl, ⟨by decide +kernel, by decide +kernel, by decide +kernel⟩, by decide +kernel⟩
theorem iX1_bitsOf : sg_iok MX1_bitsOf := ⟨sg_in 492 (by decide +kernel) rfl, sg_ins (n := 2) 11 (by decide +kernel)⟩
abbrev MX1_copyFrom : sg_M := (yX1_copyFrom, cX1_copyFrom, 2, none, { frames := 1, cells := 0, slots := 0, locals := 26 })
theorem mX1_copyFrom : sg_mok MX1_copyFrom 1 := ⟨sg_in 288 (by decide +kernel) rfl, sg_in 4 (by decide +kernel) rfl, ⟨by decide +kernel, by decide +kernel, by decide +kernel⟩, by decide +kernel⟩
theorem iX1_copyFrom : sg_iok MX1_copyFrom := ⟨sg_in 286 (by decide +kernel) rfl, sg_in 287 (by decide +kernel) rfl⟩
abbrev MX1_freeAll : sg_M := (yX1_freeAll, cX1_freeAll, 2, none, { frames := 1, cells := 0, slots := 0, locals := 20 })
theorem mX1_freeAll : sg_mok MX1_freeAll 0 := ⟨sg_in 252 (by decide +kernel) rfl, sg_in 4 (by decide +kernel) rfl, ⟨by decide +kernel, by decide +kernel, by decide +kernel⟩, by decide +kernel⟩
theorem iX1_freeAll : sg_iok MX1_freeAll := ⟨sg_in 250 (by decide +kernel) rfl, sg_in 251 (by decide +kernel) rfl⟩
abbrev MX1_freeBlockIn : sg_M := (yX1_freeBlockIn, cX1_freeBlockIn, 6, (some .int), { frames := 1, cells := 0, slots := 0, locals := 21 })
theorem mX1_freeBlockIn : sg_mok MX1_freeBlockIn 2 := ⟨sg_in 576 (by decide +kernel) rfl, sg_in 4 (by decide +kernel) rfl, ⟨by decide +kernel, by decide +kernel, by decide +kernel⟩, by decide +kernel⟩
theorem iX1_freeBlockIn : sg_iok MX1_freeBlockIn := ⟨sg_in 575 (by decide +kernel) rfl, sg_ins (n := 2) 17 (by decide +kernel)⟩
abbrev MX1_freeBlocks : sg_M := (yX1_freeBlocks, cX1_freeBlocks, 3, (some .int), { frames := 1, cells := 0, slots := 0, locals := 21 })
theorem mX1_freeBlocks : sg_mok MX1_freeBlocks 0 := ⟨sg_in 646 (by decide +kernel) rfl, sg_in 4 (by decide +kernel) rfl, ⟨by decide +kernel, by decide +kernel, by decide +kernel⟩, by decide +kernel⟩
theorem iX1_freeBlocks : sg_iok MX1_freeBlocks := ⟨sg_in 644 (by decide +kernel) rfl, sg_in 645 (by decide +kernel) rfl⟩
abbrev MX1_freeBlocksIn : sg_M := (yX1_freeBlocksIn, cX1_freeBlocksIn, 4, (some .int), { frames := 1, cells := 0, slots := 0, locals := 21 })
theorem mX1_freeBlocksIn : sg_mok MX1_freeBlocksIn 1 := ⟨sg_in 650 (by decide +kernel) rfl, sg_in 4 (by decide +kernel) rfl, ⟨by decide +kernel, by decide +kernel, by decide +kernel⟩, by decide +kernel⟩
theorem iX1_freeBlocksIn : sg_iok MX1_freeBlocksIn := ⟨sg_in 648 (by decide +kernel) rfl, sg_in 649 (by decide +kernel) rfl⟩
abbrev MX1_freeFragments : sg_M := (yX1_freeFragments, cX1_freeFragments, 3, (some .int), { frames := 2, cells := 0, slots := 0, locals := 44 })
theorem mX1_freeFragments : sg_mok MX1_freeFragments 0 := ⟨sg_in 547 (by decide +kernel) rfl, sg_in 4 (by decide +kernel) rfl, ⟨by decide +kernel, by decide +kernel, by decide +kernel⟩, by decide +kernel⟩
theorem iX1_freeFragments : sg_iok MX1_freeFragments := ⟨sg_in 545 (by decide +kernel) rfl, sg_in 546 (by decide +kernel) rfl⟩
abbrev MX1_freeFragmentsIn : sg_M := (yX1_freeFragmentsIn, cX1_freeFragmentsIn, 4, (some .int), { frames := 1, cells := 0, slots := 0, locals := 21 })
theorem mX1_freeFragmentsIn : sg_mok MX1_freeFragmentsIn 1 := ⟨sg_in 551 (by decide +kernel) rfl, sg_in 4 (by decide +kernel) rfl, ⟨by decide +kernel, by decide +kernel, by decide +kernel⟩, by decide +kernel⟩
theorem iX1_freeFragmentsIn : sg_iok MX1_freeFragmentsIn := ⟨sg_in 549 (by decide +kernel) rfl, sg_in 550 (by decide +kernel) rfl⟩
abbrev MX1_gatheredRowIn : sg_M := (yX1_gatheredRowIn, cX1_gatheredRowIn, 6, (some .int), { frames := 1, cells := 0, slots := 0, locals := 21 })
theorem mX1_gatheredRowIn : sg_mok MX1_gatheredRowIn 2 := ⟨sg_in 834 (by decide +kernel) rfl, sg_in 4 (by decide +kernel) rfl, ⟨by decide +kernel, by decide +kernel, by decide +kernel⟩, by decide +kernel⟩
theorem iX1_gatheredRowIn : sg_iok MX1_gatheredRowIn := ⟨sg_in 832 (by decide +kernel) rfl, sg_in 833 (by decide +kernel) rfl⟩
abbrev MX1_groupOnward : sg_M := (yX1_groupOnward, cX1_groupOnward, 5, (some .int), { frames := 2, cells := 0, slots := 0, locals := 44 })
theorem mX1_groupOnward : sg_mok MX1_groupOnward 1 := ⟨sg_in 642 (by decide +kernel) rfl, sg_in 4 (by decide +kernel) rfl, ⟨by decide +kernel, by decide +kernel, by decide +kernel⟩, by decide +kernel⟩
theorem iX1_groupOnward : sg_iok MX1_groupOnward := ⟨sg_in 640 (by decide +kernel) rfl, sg_in 641 (by decide +kernel) rfl⟩
abbrev MX1_init : sg_M := (yX1_init, cX1_init, 2, none, { frames := 1, cells := 1, slots := 32, locals := 20 })
theorem mX1_init : sg_mok MX1_init 1 := ⟨sg_in 69 (by decide +kernel) rfl, sg_in 4 (by decide +kernel) rfl, ⟨by decide +kernel, by decide +kernel, by decide +kernel⟩, by decide +kernel⟩
theorem nX1_init : Cond.instanceMethod yX1_init ∈ sg_ws := sg_in 68 (by decide +kernel) rfl
abbrev MX1_isFree : sg_M := (yX1_isFree, cX1_isFree, 2, (some .boolean), { frames := 2, cells := 0, slots := 0, locals := 44 })
theorem mX1_isFree : sg_mok MX1_isFree 1 := ⟨sg_in 755 (by decide +kernel) rfl, sg_in 4 (by decide +kernel) rfl, ⟨by decide +kernel, by decide +kernel, by decide +kernel⟩, by decide +kernel⟩
theorem iX1_isFree : sg_iok MX1_isFree := ⟨sg_in 753 (by decide +kernel) rfl, sg_in 754 (by decide +kernel) rfl⟩
abbrev MX1_isFreeBlock : sg_M := (yX1_isFreeBlock, cX1_isFreeBlock, 2, (some .boolean), { frames := 0, cells := 0, slots := 0, locals := 0 })
theorem mX1_isFreeBlock : sg_mok MX1_isFreeBlock 1 := ⟨sg_in 580 (by decide +kernel) rfl, sg_in 4 (by decide +kernel) rfl, ⟨by decide +kernel, by decide +kernel, by decide +kernel⟩, by decide +kernel⟩
theorem iX1_isFreeBlock : sg_iok MX1_isFreeBlock := ⟨sg_in 579 (by decide +kernel) rfl, sg_ins (n := 2) 18 (by decide +kernel)⟩
abbrev MX1_put : sg_M := (yX1_put, cX1_put, 6, none, { frames := 0, cells := 0, slots := 0, locals := 0 })
theorem mX1_put : sg_mok MX1_put 3 := ⟨sg_in 276 (by decide +kernel) rfl, sg_in 4 (by decide +kernel) rfl, ⟨by decide +kernel, by decide +kernel, by decide +kernel⟩, by decide +kernel⟩
theorem iX1_put : sg_iok MX1_put := ⟨sg_in 274 (by decide +kernel) rfl, sg_in 275 (by decide +kernel) rfl⟩
abbrev MX1_runAt : sg_M := (yX1_runAt, cX1_runAt, 6, (some .int), { frames := 0, cells := 0, slots := 0, locals := 0 })
theorem mX1_runAt : sg_mok MX1_runAt 1 := ⟨sg_in 572 (by decide +kernel) rfl, sg_in 4 (by decide +kernel) rfl, ⟨by decide +kernel, by decide +kernel, by decide +kernel⟩, by decide +kernel⟩
theorem iX1_runAt : sg_iok MX1_runAt := ⟨sg_in 571 (by decide +kernel) rfl, sg_ins (n := 2) 16 (by decide +kernel)⟩
abbrev MX1_runsIn : sg_M := (yX1_runsIn, cX1_runsIn, 6, (some .int), { frames := 1, cells := 0, slots := 0, locals := 25 })
theorem mX1_runsIn : sg_mok MX1_runsIn 2 := ⟨sg_in 723 (by decide +kernel) rfl, sg_in 4 (by decide +kernel) rfl, ⟨by decide +kernel, by decide +kernel, by decide +kernel⟩, by decide +kernel⟩
theorem iX1_runsIn : sg_iok MX1_runsIn := ⟨sg_in 721 (by decide +kernel) rfl, sg_in 722 (by decide +kernel) rfl⟩
abbrev MX1_shortestRunIn : sg_M := (yX1_shortestRunIn, cX1_shortestRunIn, 8, (some .int), { frames := 1, cells := 0, slots := 0, locals := 25 })
theorem mX1_shortestRunIn : sg_mok MX1_shortestRunIn 2 := ⟨sg_in 568 (by decide +kernel) rfl, sg_in 4 (by decide +kernel) rfl, ⟨by decide +kernel, by decide +kernel, by decide +kernel⟩, by decide +kernel⟩
theorem iX1_shortestRunIn : sg_iok MX1_shortestRunIn := ⟨sg_in 567 (by decide +kernel) rfl, sg_ins (n := 2) 15 (by decide +kernel)⟩
abbrev MX1_takeBlock : sg_M := (yX1_takeBlock, cX1_takeBlock, 5, (some .int), { frames := 2, cells := 0, slots := 0, locals := 46 })
theorem mX1_takeBlock : sg_mok MX1_takeBlock 2 := ⟨sg_in 658 (by decide +kernel) rfl, sg_in 4 (by decide +kernel) rfl, ⟨by decide +kernel, by decide +kernel, by decide +kernel⟩, by decide +kernel⟩
theorem iX1_takeBlock : sg_iok MX1_takeBlock := ⟨sg_in 656 (by decide +kernel) rfl, sg_in 657 (by decide +kernel) rfl⟩
abbrev MX1_takeRun : sg_M := (yX1_takeRun, cX1_takeRun, 7, (some .int), { frames := 2, cells := 0, slots := 0, locals := 52 })
theorem mX1_takeRun : sg_mok MX1_takeRun 2 := ⟨sg_in 563 (by decide +kernel) rfl, sg_in 4 (by decide +kernel) rfl, ⟨by decide +kernel, by decide +kernel, by decide +kernel⟩, by decide +kernel⟩
theorem iX1_takeRun : sg_iok MX1_takeRun := ⟨sg_in 561 (by decide +kernel) rfl, sg_in 562 (by decide +kernel) rfl⟩
abbrev MX2_become : sg_M := (yX2_become, cX2_become, 5, none, { frames := 1, cells := 0, slots := 0, locals := 23 })
theorem mX2_become : sg_mok MX2_become 4 := ⟨sg_in 230 (by decide +kernel) rfl, sg_in 5 (by decide +kernel) rfl, ⟨by decide +kernel, by decide +kernel, by decide +kernel⟩, by decide +kernel⟩
theorem iX2_become : sg_iok MX2_become := ⟨sg_in 228 (by decide +kernel) rfl, sg_in 229 (by decide +kernel) rfl⟩
abbrev MX2_blockAt : sg_M := (yX2_blockAt, cX2_blockAt, 3, (some .int), { frames := 0, cells := 0, slots := 0, locals := 0 })
theorem mX2_blockAt : sg_mok MX2_blockAt 2 := ⟨sg_in 272 (by decide +kernel) rfl, sg_in 5 (by decide +kernel) rfl, ⟨by decide +kernel, by decide +kernel, by decide +kernel⟩, by decide +kernel⟩
theorem iX2_blockAt : sg_iok MX2_blockAt := ⟨sg_in 270 (by decide +kernel) rfl, sg_in 271 (by decide +kernel) rfl⟩
abbrev MX2_blocksOf : sg_M := (yX2_blocksOf, cX2_blocksOf, 2, (some .int), { frames := 0, cells := 0, slots := 0, locals := 0 })
theorem mX2_blocksOf : sg_mok MX2_blocksOf 1 := ⟨sg_in 268 (by decide +kernel) rfl, sg_in 5 (by decide +kernel) rfl, ⟨by decide +kernel, by decide +kernel, by decide +kernel⟩, by decide +kernel⟩
theorem iX2_blocksOf : sg_iok MX2_blocksOf := ⟨sg_in 266 (by decide +kernel) rfl, sg_in 267 (by decide +kernel) rfl⟩
abbrev MX2_clear : sg_M := (yX2_clear, cX2_clear, 2, none, { frames := 2, cells := 0, slots := 0, locals := 47 })
theorem mX2_clear : sg_mok MX2_clear 0 := ⟨sg_in 226 (by decide +kernel) rfl, sg_in 5 (by decide +kernel) rfl, ⟨by decide +kernel, by decide +kernel, by decide +kernel⟩, by decide +kernel⟩
theorem iX2_clear : sg_iok MX2_clear := ⟨sg_in 224 (by decide +kernel) rfl, sg_in 225 (by decide +kernel) rfl⟩
abbrev MX2_copyFrom : sg_M := (yX2_copyFrom, cX2_copyFrom, 2, none, { frames := 1, cells := 0, slots := 0, locals := 26 })
theorem mX2_copyFrom : sg_mok MX2_copyFrom 1 := ⟨sg_in 670 (by decide +kernel) rfl, sg_in 5 (by decide +kernel) rfl, ⟨by decide +kernel, by decide +kernel, by decide +kernel⟩, by decide +kernel⟩
theorem iX2_copyFrom : sg_iok MX2_copyFrom := ⟨sg_in 668 (by decide +kernel) rfl, sg_in 669 (by decide +kernel) rfl⟩
abbrev MX2_depthBelow : sg_M := (yX2_depthBelow, cX2_depthBelow, 5, (some .int), { frames := 1, cells := 0, slots := 0, locals := 21 })
theorem mX2_depthBelow : sg_mok MX2_depthBelow 2 := ⟨sg_in 820 (by decide +kernel) rfl, sg_in 5 (by decide +kernel) rfl, ⟨by decide +kernel, by decide +kernel, by decide +kernel⟩, by decide +kernel⟩
theorem iX2_depthBelow : sg_iok MX2_depthBelow := ⟨sg_in 818 (by decide +kernel) rfl, sg_in 819 (by decide +kernel) rfl⟩
abbrev MX2_firstNothingIn : sg_M := (yX2_firstNothingIn, cX2_firstNothingIn, 4, (some .int), { frames := 1, cells := 0, slots := 0, locals := 21 })
theorem mX2_firstNothingIn : sg_mok MX2_firstNothingIn 1 := ⟨sg_in 539 (by decide +kernel) rfl, sg_in 5 (by decide +kernel) rfl, ⟨by decide +kernel, by decide +kernel, by decide +kernel⟩, by decide +kernel⟩
theorem iX2_firstNothingIn : sg_iok MX2_firstNothingIn := ⟨sg_in 537 (by decide +kernel) rfl, sg_in 538 (by decide +kernel) rfl⟩
abbrev MX2_hasOthers : sg_M := (yX2_hasOthers, cX2_hasOthers, 3, (some .boolean), { frames := 1, cells := 0, slots := 0, locals := 21 })
theorem mX2_hasOthers : sg_mok MX2_hasOthers 1 := ⟨sg_in 808 (by decide +kernel) rfl, sg_in 5 (by decide +kernel) rfl, ⟨by decide +kernel, by decide +kernel, by decide +kernel⟩, by decide +kernel⟩
theorem iX2_hasOthers : sg_iok MX2_hasOthers := ⟨sg_in 806 (by decide +kernel) rfl, sg_in 807 (by decide +kernel) rfl⟩
abbrev MX2_howMany : sg_M := (yX2_howMany, cX2_howMany, 4, (some .int), { frames := 1, cells := 0, slots := 0, locals := 21 })
theorem mX2_howMany : sg_mok MX2_howMany 1 := ⟨sg_in 519 (by decide +kernel) rfl, sg_in 5 (by decide +kernel) rfl, ⟨by decide +kernel, by decide +kernel, by decide +kernel⟩, by decide +kernel⟩
theorem iX2_howMany : sg_iok MX2_howMany := ⟨sg_in 517 (by decide +kernel) rfl, sg_in 518 (by decide +kernel) rfl⟩
abbrev MX2_howManyAreThere : sg_M := (yX2_howManyAreThere, cX2_howManyAreThere, 1, (some .int), { frames := 2, cells := 0, slots := 0, locals := 44 })
theorem mX2_howManyAreThere : sg_mok MX2_howManyAreThere 0 := ⟨sg_in 675 (by decide +kernel) rfl, sg_in 5 (by decide +kernel) rfl, ⟨by decide +kernel, by decide +kernel, by decide +kernel⟩, by decide +kernel⟩
theorem iX2_howManyAreThere : sg_iok MX2_howManyAreThere := ⟨sg_in 673 (by decide +kernel) rfl, sg_in 674 (by decide +kernel) rfl⟩
abbrev MX2_howManyIn : sg_M := (yX2_howManyIn, cX2_howManyIn, 5, (some .int), { frames := 1, cells := 0, slots := 0, locals := 21 })
theorem mX2_howManyIn : sg_mok MX2_howManyIn 2 := ⟨sg_in 523 (by decide +kernel) rfl, sg_in 5 (by decide +kernel) rfl, ⟨by decide +kernel, by decide +kernel, by decide +kernel⟩, by decide +kernel⟩
theorem iX2_howManyIn : sg_iok MX2_howManyIn := ⟨sg_in 521 (by decide +kernel) rfl, sg_in 522 (by decide +kernel) rfl⟩
abbrev MX2_init : sg_M := (yX2_init, cX2_init, 2, none, { frames := 1, cells := 6, slots := 360, locals := 20 })
theorem mX2_init : sg_mok MX2_init 1 := ⟨sg_in 83 (by decide +kernel) rfl, sg_in 5 (by decide +kernel) rfl, ⟨by decide +kernel, by decide +kernel, by decide +kernel⟩, by decide +kernel⟩
theorem nX2_init : Cond.instanceMethod yX2_init ∈ sg_ws := sg_in 82 (by decide +kernel) rfl
abbrev MX2_isNumber : sg_M := (yX2_isNumber, cX2_isNumber, 2, (some .boolean), { frames := 1, cells := 0, slots := 0, locals := 20 })
theorem mX2_isNumber : sg_mok MX2_isNumber 1 := ⟨sg_in 731 (by decide +kernel) rfl, sg_in 5 (by decide +kernel) rfl, ⟨by decide +kernel, by decide +kernel, by decide +kernel⟩, by decide +kernel⟩
theorem iX2_isNumber : sg_iok MX2_isNumber := ⟨sg_in 729 (by decide +kernel) rfl, sg_in 730 (by decide +kernel) rfl⟩
abbrev MX2_kindOf : sg_M := (yX2_kindOf, cX2_kindOf, 2, (some .int), { frames := 0, cells := 0, slots := 0, locals := 0 })
theorem mX2_kindOf : sg_mok MX2_kindOf 1 := ⟨sg_in 482 (by decide +kernel) rfl, sg_in 5 (by decide +kernel) rfl, ⟨by decide +kernel, by decide +kernel, by decide +kernel⟩, by decide +kernel⟩
theorem iX2_kindOf : sg_iok MX2_kindOf := ⟨sg_in 480 (by decide +kernel) rfl, sg_in 481 (by decide +kernel) rfl⟩
abbrev MX2_nameOf : sg_M := (yX2_nameOf, cX2_nameOf, 2, (some .int), { frames := 0, cells := 0, slots := 0, locals := 0 })
theorem mX2_nameOf : sg_mok MX2_nameOf 1 := ⟨sg_in 507 (by decide +kernel) rfl, sg_in 5 (by decide +kernel) rfl, ⟨by decide +kernel, by decide +kernel, by decide +kernel⟩, by decide +kernel⟩
theorem iX2_nameOf : sg_iok MX2_nameOf := ⟨sg_in 505 (by decide +kernel) rfl, sg_in 506 (by decide +kernel) rfl⟩
abbrev MX2_named : sg_M := (yX2_named, cX2_named, 4, (some .int), { frames := 1, cells := 0, slots := 0, locals := 21 })
theorem mX2_named : sg_mok MX2_named 2 := ⟨sg_in 497 (by decide +kernel) rfl, sg_in 5 (by decide +kernel) rfl, ⟨by decide +kernel, by decide +kernel, by decide +kernel⟩, by decide +kernel⟩
theorem iX2_named : sg_iok MX2_named := ⟨sg_in 495 (by decide +kernel) rfl, sg_in 496 (by decide +kernel) rfl⟩
abbrev MX2_ownerOf : sg_M := (yX2_ownerOf, cX2_ownerOf, 4, (some .int), { frames := 1, cells := 0, slots := 0, locals := 22 })
theorem mX2_ownerOf : sg_mok MX2_ownerOf 1 := ⟨sg_in 760 (by decide +kernel) rfl, sg_in 5 (by decide +kernel) rfl, ⟨by decide +kernel, by decide +kernel, by decide +kernel⟩, by decide +kernel⟩
theorem iX2_ownerOf : sg_iok MX2_ownerOf := ⟨sg_in 758 (by decide +kernel) rfl, sg_in 759 (by decide +kernel) rfl⟩
abbrev MX2_parentOf : sg_M := (yX2_parentOf, cX2_parentOf, 2, (some .int), { frames := 0, cells := 0, slots := 0, locals := 0 })
theorem mX2_parentOf : sg_mok MX2_parentOf 1 := ⟨sg_in 503 (by decide +kernel) rfl, sg_in 5 (by decide +kernel) rfl, ⟨by decide +kernel, by decide +kernel, by decide +kernel⟩, by decide +kernel⟩
theorem iX2_parentOf : sg_iok MX2_parentOf := ⟨sg_in 501 (by decide +kernel) rfl, sg_in 502 (by decide +kernel) rfl⟩
abbrev MX2_setBlock : sg_M := (yX2_setBlock, cX2_setBlock, 4, none, { frames := 0, cells := 0, slots := 0, locals := 0 })
theorem mX2_setBlock : sg_mok MX2_setBlock 3 := ⟨sg_in 630 (by decide +kernel) rfl, sg_in 5 (by decide +kernel) rfl, ⟨by decide +kernel, by decide +kernel, by decide +kernel⟩, by decide +kernel⟩
theorem iX2_setBlock : sg_iok MX2_setBlock := ⟨sg_in 628 (by decide +kernel) rfl, sg_in 629 (by decide +kernel) rfl⟩
abbrev MX2_setEntry : sg_M := (yX2_setEntry, cX2_setEntry, 4, none, { frames := 0, cells := 0, slots := 0, locals := 0 })
theorem mX2_setEntry : sg_mok MX2_setEntry 3 := ⟨sg_in 234 (by decide +kernel) rfl, sg_in 5 (by decide +kernel) rfl, ⟨by decide +kernel, by decide +kernel, by decide +kernel⟩, by decide +kernel⟩
theorem iX2_setEntry : sg_iok MX2_setEntry := ⟨sg_in 232 (by decide +kernel) rfl, sg_in 233 (by decide +kernel) rfl⟩
abbrev MX2_setSize : sg_M := (yX2_setSize, cX2_setSize, 4, none, { frames := 0, cells := 0, slots := 0, locals := 0 })
theorem mX2_setSize : sg_mok MX2_setSize 3 := ⟨sg_in 238 (by decide +kernel) rfl, sg_in 5 (by decide +kernel) rfl, ⟨by decide +kernel, by decide +kernel, by decide +kernel⟩, by decide +kernel⟩
theorem iX2_setSize : sg_iok MX2_setSize := ⟨sg_in 236 (by decide +kernel) rfl, sg_in 237 (by decide +kernel) rfl⟩
abbrev MX2_sizeOf : sg_M := (yX2_sizeOf, cX2_sizeOf, 2, (some .int), { frames := 0, cells := 0, slots := 0, locals := 0 })
theorem mX2_sizeOf : sg_mok MX2_sizeOf 1 := ⟨sg_in 599 (by decide +kernel) rfl, sg_in 5 (by decide +kernel) rfl, ⟨by decide +kernel, by decide +kernel, by decide +kernel⟩, by decide +kernel⟩
theorem iX2_sizeOf : sg_iok MX2_sizeOf := ⟨sg_in 597 (by decide +kernel) rfl, sg_in 598 (by decide +kernel) rfl⟩
abbrev MX2_sizesOfAll : sg_M := (yX2_sizesOfAll, cX2_sizesOfAll, 3, (some .int), { frames := 1, cells := 0, slots := 0, locals := 21 })
theorem mX2_sizesOfAll : sg_mok MX2_sizesOfAll 0 := ⟨sg_in 692 (by decide +kernel) rfl, sg_in 5 (by decide +kernel) rfl, ⟨by decide +kernel, by decide +kernel, by decide +kernel⟩, by decide +kernel⟩
theorem iX2_sizesOfAll : sg_iok MX2_sizesOfAll := ⟨sg_in 690 (by decide +kernel) rfl, sg_in 691 (by decide +kernel) rfl⟩
abbrev MX2_tailLengthOf : sg_M := (yX2_tailLengthOf, cX2_tailLengthOf, 2, (some .int), { frames := 0, cells := 0, slots := 0, locals := 0 })
theorem mX2_tailLengthOf : sg_mok MX2_tailLengthOf 1 := ⟨sg_in 284 (by decide +kernel) rfl, sg_in 5 (by decide +kernel) rfl, ⟨by decide +kernel, by decide +kernel, by decide +kernel⟩, by decide +kernel⟩
theorem iX2_tailLengthOf : sg_iok MX2_tailLengthOf := ⟨sg_in 282 (by decide +kernel) rfl, sg_in 283 (by decide +kernel) rfl⟩
abbrev MX2_tailOf : sg_M := (yX2_tailOf, cX2_tailOf, 2, (some .int), { frames := 0, cells := 0, slots := 0, locals := 0 })
theorem mX2_tailOf : sg_mok MX2_tailOf 1 := ⟨sg_in 280 (by decide +kernel) rfl, sg_in 5 (by decide +kernel) rfl, ⟨by decide +kernel, by decide +kernel, by decide +kernel⟩, by decide +kernel⟩
theorem iX2_tailOf : sg_iok MX2_tailOf := ⟨sg_in 278 (by decide +kernel) rfl, sg_in 279 (by decide +kernel) rfl⟩
abbrev MX3_allBlocks : sg_M := (yX3_allBlocks, cX3_allBlocks, 1, (some .int), { frames := 0, cells := 0, slots := 0, locals := 0 })
theorem mX3_allBlocks : sg_mok MX3_allBlocks 0 := ⟨sg_in 256 (by decide +kernel) rfl, sg_in 3 (by decide +kernel) rfl, ⟨by decide +kernel, by decide +kernel, by decide +kernel⟩, by decide +kernel⟩
theorem iX3_allBlocks : sg_iok MX3_allBlocks := ⟨sg_in 254 (by decide +kernel) rfl, sg_in 255 (by decide +kernel) rfl⟩
abbrev MX3_allInodes : sg_M := (yX3_allInodes, cX3_allInodes, 1, (some .int), { frames := 0, cells := 0, slots := 0, locals := 0 })
theorem mX3_allInodes : sg_mok MX3_allInodes 0 := ⟨sg_in 260 (by decide +kernel) rfl, sg_in 3 (by decide +kernel) rfl, ⟨by decide +kernel, by decide +kernel, by decide +kernel⟩, by decide +kernel⟩
theorem iX3_allInodes : sg_iok MX3_allInodes := ⟨sg_in 258 (by decide +kernel) rfl, sg_in 259 (by decide +kernel) rfl⟩
abbrev MX3_behind : sg_M := (yX3_behind, cX3_behind, 4, (some .int), { frames := 0, cells := 0, slots := 0, locals := 0 })
theorem mX3_behind : sg_mok MX3_behind 2 := ⟨sg_in 535 (by decide +kernel) rfl, sg_in 3 (by decide +kernel) rfl, ⟨by decide +kernel, by decide +kernel, by decide +kernel⟩, by decide +kernel⟩
theorem iX3_behind : sg_iok MX3_behind := ⟨sg_in 533 (by decide +kernel) rfl, sg_in 534 (by decide +kernel) rfl⟩
abbrev MX3_copyFrom : sg_M := (yX3_copyFrom, cX3_copyFrom, 2, none, { frames := 0, cells := 0, slots := 0, locals := 0 })
theorem mX3_copyFrom : sg_mok MX3_copyFrom 1 := ⟨sg_in 666 (by decide +kernel) rfl, sg_in 3 (by decide +kernel) rfl, ⟨by decide +kernel, by decide +kernel, by decide +kernel⟩, by decide +kernel⟩
theorem iX3_copyFrom : sg_iok MX3_copyFrom := ⟨sg_in 664 (by decide +kernel) rfl, sg_in 665 (by decide +kernel) rfl⟩
abbrev MX3_groupOfBlock : sg_M := (yX3_groupOfBlock, cX3_groupOfBlock, 2, (some .int), { frames := 0, cells := 0, slots := 0, locals := 0 })
theorem mX3_groupOfBlock : sg_mok MX3_groupOfBlock 1 := ⟨sg_in 622 (by decide +kernel) rfl, sg_in 3 (by decide +kernel) rfl, ⟨by decide +kernel, by decide +kernel, by decide +kernel⟩, by decide +kernel⟩
theorem iX3_groupOfBlock : sg_iok MX3_groupOfBlock := ⟨sg_in 620 (by decide +kernel) rfl, sg_in 621 (by decide +kernel) rfl⟩
abbrev MX3_groupOfInode : sg_M := (yX3_groupOfInode, cX3_groupOfInode, 2, (some .int), { frames := 0, cells := 0, slots := 0, locals := 0 })
theorem mX3_groupOfInode : sg_mok MX3_groupOfInode 1 := ⟨sg_in 531 (by decide +kernel) rfl, sg_in 3 (by decide +kernel) rfl, ⟨by decide +kernel, by decide +kernel, by decide +kernel⟩, by decide +kernel⟩
theorem iX3_groupOfInode : sg_iok MX3_groupOfInode := ⟨sg_in 529 (by decide +kernel) rfl, sg_in 530 (by decide +kernel) rfl⟩
abbrev MX3_init : sg_M := (yX3_init, cX3_init, 1, none, { frames := 1, cells := 0, slots := 0, locals := 20 })
theorem mX3_init : sg_mok MX3_init 0 := ⟨sg_in 34 (by decide +kernel) rfl, sg_in 3 (by decide +kernel) rfl, ⟨by decide +kernel, by decide +kernel, by decide +kernel⟩, by decide +kernel⟩
theorem nX3_init : Cond.instanceMethod yX3_init ∈ sg_ws := sg_in 33 (by decide +kernel) rfl
abbrev MX3_isFragment : sg_M := (yX3_isFragment, cX3_isFragment, 2, (some .boolean), { frames := 0, cells := 0, slots := 0, locals := 0 })
theorem mX3_isFragment : sg_mok MX3_isFragment 1 := ⟨sg_in 751 (by decide +kernel) rfl, sg_in 3 (by decide +kernel) rfl, ⟨by decide +kernel, by decide +kernel, by decide +kernel⟩, by decide +kernel⟩
theorem iX3_isFragment : sg_iok MX3_isFragment := ⟨sg_in 749 (by decide +kernel) rfl, sg_in 750 (by decide +kernel) rfl⟩
abbrev MX3_leadsOn : sg_M := (yX3_leadsOn, cX3_leadsOn, 2, (some .boolean), { frames := 0, cells := 0, slots := 0, locals := 0 })
theorem mX3_leadsOn : sg_mok MX3_leadsOn 1 := ⟨sg_in 638 (by decide +kernel) rfl, sg_in 3 (by decide +kernel) rfl, ⟨by decide +kernel, by decide +kernel, by decide +kernel⟩, by decide +kernel⟩
theorem iX3_leadsOn : sg_iok MX3_leadsOn := ⟨sg_in 636 (by decide +kernel) rfl, sg_in 637 (by decide +kernel) rfl⟩
abbrev MX3_number : sg_M := (yX3_number, cX3_number, 2, (some .int), { frames := 0, cells := 0, slots := 0, locals := 0 })
theorem mX3_number : sg_mok MX3_number 1 := ⟨sg_in 712 (by decide +kernel) rfl, sg_in 3 (by decide +kernel) rfl, ⟨by decide +kernel, by decide +kernel, by decide +kernel⟩, by decide +kernel⟩
theorem iX3_number : sg_iok MX3_number := ⟨sg_in 710 (by decide +kernel) rfl, sg_in 711 (by decide +kernel) rfl⟩
abbrev MX3_placeBehind : sg_M := (yX3_placeBehind, cX3_placeBehind, 2, (some .int), { frames := 0, cells := 0, slots := 0, locals := 0 })
theorem mX3_placeBehind : sg_mok MX3_placeBehind 1 := ⟨sg_in 654 (by decide +kernel) rfl, sg_in 3 (by decide +kernel) rfl, ⟨by decide +kernel, by decide +kernel, by decide +kernel⟩, by decide +kernel⟩
theorem iX3_placeBehind : sg_iok MX3_placeBehind := ⟨sg_in 652 (by decide +kernel) rfl, sg_in 653 (by decide +kernel) rfl⟩
abbrev MX3_set : sg_M := (yX3_set, cX3_set, 2, none, { frames := 0, cells := 0, slots := 0, locals := 0 })
theorem mX3_set : sg_mok MX3_set 1 := ⟨sg_in 222 (by decide +kernel) rfl, sg_in 3 (by decide +kernel) rfl, ⟨by decide +kernel, by decide +kernel, by decide +kernel⟩, by decide +kernel⟩
theorem iX3_set : sg_iok MX3_set := ⟨sg_in 220 (by decide +kernel) rfl, sg_in 221 (by decide +kernel) rfl⟩
abbrev MX4_hasMore : sg_M := (yX4_hasMore, cX4_hasMore, 1, (some .boolean), { frames := 2, cells := 0, slots := 0, locals := 41 })
theorem mX4_hasMore : sg_mok MX4_hasMore 0 := ⟨sg_in 460 (by decide +kernel) rfl, sg_in 8 (by decide +kernel) rfl, ⟨by decide +kernel, by decide +kernel, by decide +kernel⟩, by decide +kernel⟩
theorem iX4_hasMore : sg_iok MX4_hasMore := ⟨sg_in 458 (by decide +kernel) rfl, sg_in 459 (by decide +kernel) rfl⟩
abbrev MX4_init : sg_M := (yX4_init, cX4_init, 2, none, { frames := 1, cells := 1, slots := 6, locals := 20 })
theorem mX4_init : sg_mok MX4_init 1 := ⟨sg_in 179 (by decide +kernel) rfl, sg_in 8 (by decide +kernel) rfl, ⟨by decide +kernel, by decide +kernel, by decide +kernel⟩, by decide +kernel⟩
theorem nX4_init : Cond.instanceMethod yX4_init ∈ sg_ws := sg_in 178 (by decide +kernel) rfl
abbrev MX4_isWord : sg_M := (yX4_isWord, cX4_isWord, 3, (some .boolean), { frames := 4, cells := 0, slots := 0, locals := 100 })
theorem mX4_isWord : sg_mok MX4_isWord 1 := ⟨sg_in 396 (by decide +kernel) rfl, sg_in 8 (by decide +kernel) rfl, ⟨by decide +kernel, by decide +kernel, by decide +kernel⟩, by decide +kernel⟩
theorem iX4_isWord : sg_iok MX4_isWord := ⟨sg_in 395 (by decide +kernel) rfl, sg_ins (n := 9) 6 (by decide +kernel)⟩
abbrev MX4_passBlanks : sg_M := (yX4_passBlanks, cX4_passBlanks, 1, none, { frames := 1, cells := 0, slots := 0, locals := 21 })
theorem mX4_passBlanks : sg_mok MX4_passBlanks 0 := ⟨sg_in 371 (by decide +kernel) rfl, sg_in 8 (by decide +kernel) rfl, ⟨by decide +kernel, by decide +kernel, by decide +kernel⟩, by decide +kernel⟩
theorem iX4_passBlanks : sg_iok MX4_passBlanks := ⟨sg_in 370 (by decide +kernel) rfl, sg_ins (n := 9) 3 (by decide +kernel)⟩
abbrev MX4_readLine : sg_M := (yX4_readLine, cX4_readLine, 2, (some .boolean), { frames := 5, cells := 0, slots := 0, locals := 122 })
theorem mX4_readLine : sg_mok MX4_readLine 1 := ⟨sg_in 464 (by decide +kernel) rfl, sg_in 8 (by decide +kernel) rfl, ⟨by decide +kernel, by decide +kernel, by decide +kernel⟩, by decide +kernel⟩
theorem iX4_readLine : sg_iok MX4_readLine := ⟨sg_in 462 (by decide +kernel) rfl, sg_in 463 (by decide +kernel) rfl⟩
abbrev MX4_readNumber : sg_M := (yX4_readNumber, cX4_readNumber, 1, (some .boolean), { frames := 2, cells := 0, slots := 0, locals := 43 })
theorem mX4_readNumber : sg_mok MX4_readNumber 0 := ⟨sg_in 384 (by decide +kernel) rfl, sg_in 8 (by decide +kernel) rfl, ⟨by decide +kernel, by decide +kernel, by decide +kernel⟩, by decide +kernel⟩
theorem iX4_readNumber : sg_iok MX4_readNumber := ⟨sg_in 383 (by decide +kernel) rfl, sg_ins (n := 9) 4 (by decide +kernel)⟩
abbrev MX4_readRules : sg_M := (yX4_readRules, cX4_readRules, 2, (some .boolean), { frames := 6, cells := 0, slots := 0, locals := 143 })
theorem mX4_readRules : sg_mok MX4_readRules 0 := ⟨sg_in 358 (by decide +kernel) rfl, sg_in 8 (by decide +kernel) rfl, ⟨by decide +kernel, by decide +kernel, by decide +kernel⟩, by decide +kernel⟩
theorem iX4_readRules : sg_iok MX4_readRules := ⟨sg_in 356 (by decide +kernel) rfl, sg_in 357 (by decide +kernel) rfl⟩
abbrev MX4_readToken : sg_M := (yX4_readToken, cX4_readToken, 1, (some .boolean), { frames := 3, cells := 0, slots := 0, locals := 63 })
theorem mX4_readToken : sg_mok MX4_readToken 0 := ⟨sg_in 367 (by decide +kernel) rfl, sg_in 8 (by decide +kernel) rfl, ⟨by decide +kernel, by decide +kernel, by decide +kernel⟩, by decide +kernel⟩
theorem iX4_readToken : sg_iok MX4_readToken := ⟨sg_in 366 (by decide +kernel) rfl, sg_ins (n := 9) 2 (by decide +kernel)⟩
abbrev MX4_refuse : sg_M := (yX4_refuse, cX4_refuse, 3, (some .boolean), { frames := 0, cells := 0, slots := 0, locals := 0 })
theorem mX4_refuse : sg_mok MX4_refuse 2 := ⟨sg_in 388 (by decide +kernel) rfl, sg_in 8 (by decide +kernel) rfl, ⟨by decide +kernel, by decide +kernel, by decide +kernel⟩, by decide +kernel⟩
theorem iX4_refuse : sg_iok MX4_refuse := ⟨sg_in 387 (by decide +kernel) rfl, sg_ins (n := 9) 5 (by decide +kernel)⟩
abbrev MX4_refuseLine : sg_M := (yX4_refuseLine, cX4_refuseLine, 2, (some .boolean), { frames := 1, cells := 0, slots := 0, locals := 22 })
theorem mX4_refuseLine : sg_mok MX4_refuseLine 1 := ⟨sg_in 587 (by decide +kernel) rfl, sg_in 8 (by decide +kernel) rfl, ⟨by decide +kernel, by decide +kernel, by decide +kernel⟩, by decide +kernel⟩
theorem iX4_refuseLine : sg_iok MX4_refuseLine := ⟨sg_in 585 (by decide +kernel) rfl, sg_in 586 (by decide +kernel) rfl⟩
abbrev MX4_rewind : sg_M := (yX4_rewind, cX4_rewind, 1, none, { frames := 0, cells := 0, slots := 0, locals := 0 })
theorem mX4_rewind : sg_mok MX4_rewind 0 := ⟨sg_in 354 (by decide +kernel) rfl, sg_in 8 (by decide +kernel) rfl, ⟨by decide +kernel, by decide +kernel, by decide +kernel⟩, by decide +kernel⟩
theorem iX4_rewind : sg_iok MX4_rewind := ⟨sg_in 352 (by decide +kernel) rfl, sg_in 353 (by decide +kernel) rfl⟩
abbrev MX4_takeNumber : sg_M := (yX4_takeNumber, cX4_takeNumber, 4, (some .boolean), { frames := 4, cells := 0, slots := 0, locals := 83 })
theorem mX4_takeNumber : sg_mok MX4_takeNumber 3 := ⟨sg_in 452 (by decide +kernel) rfl, sg_in 8 (by decide +kernel) rfl, ⟨by decide +kernel, by decide +kernel, by decide +kernel⟩, by decide +kernel⟩
theorem iX4_takeNumber : sg_iok MX4_takeNumber := ⟨sg_in 451 (by decide +kernel) rfl, sg_ins (n := 9) 7 (by decide +kernel)⟩
abbrev MX4_takeSign : sg_M := (yX4_takeSign, cX4_takeSign, 1, (some .boolean), { frames := 4, cells := 0, slots := 0, locals := 83 })
theorem mX4_takeSign : sg_mok MX4_takeSign 0 := ⟨sg_in 456 (by decide +kernel) rfl, sg_in 8 (by decide +kernel) rfl, ⟨by decide +kernel, by decide +kernel, by decide +kernel⟩, by decide +kernel⟩
theorem iX4_takeSign : sg_iok MX4_takeSign := ⟨sg_in 455 (by decide +kernel) rfl, sg_ins (n := 9) 8 (by decide +kernel)⟩
abbrev MX4_takeWord : sg_M := (yX4_takeWord, cX4_takeWord, 2, (some .boolean), { frames := 5, cells := 0, slots := 0, locals := 122 })
theorem mX4_takeWord : sg_mok MX4_takeWord 1 := ⟨sg_in 363 (by decide +kernel) rfl, sg_in 8 (by decide +kernel) rfl, ⟨by decide +kernel, by decide +kernel, by decide +kernel⟩, by decide +kernel⟩
theorem iX4_takeWord : sg_iok MX4_takeWord := ⟨sg_in 362 (by decide +kernel) rfl, sg_ins (n := 9) 1 (by decide +kernel)⟩
abbrev MX5_append : sg_M := (yX5_append, cX5_append, 2, (some .boolean), { frames := 0, cells := 0, slots := 0, locals := 0 })
theorem mX5_append : sg_mok MX5_append 1 := ⟨sg_in 342 (by decide +kernel) rfl, sg_in 7 (by decide +kernel) rfl, ⟨by decide +kernel, by decide +kernel, by decide +kernel⟩, by decide +kernel⟩
theorem iX5_append : sg_iok MX5_append := ⟨sg_in 340 (by decide +kernel) rfl, sg_in 341 (by decide +kernel) rfl⟩
abbrev MX5_byteAt : sg_M := (yX5_byteAt, cX5_byteAt, 2, (some .int), { frames := 0, cells := 0, slots := 0, locals := 0 })
theorem mX5_byteAt : sg_mok MX5_byteAt 1 := ⟨sg_in 375 (by decide +kernel) rfl, sg_in 7 (by decide +kernel) rfl, ⟨by decide +kernel, by decide +kernel, by decide +kernel⟩, by decide +kernel⟩
theorem iX5_byteAt : sg_iok MX5_byteAt := ⟨sg_in 373 (by decide +kernel) rfl, sg_in 374 (by decide +kernel) rfl⟩
abbrev MX5_hasFigureAt : sg_M := (yX5_hasFigureAt, cX5_hasFigureAt, 3, (some .boolean), { frames := 1, cells := 0, slots := 0, locals := 21 })
theorem mX5_hasFigureAt : sg_mok MX5_hasFigureAt 1 := ⟨sg_in 379 (by decide +kernel) rfl, sg_in 7 (by decide +kernel) rfl, ⟨by decide +kernel, by decide +kernel, by decide +kernel⟩, by decide +kernel⟩
theorem iX5_hasFigureAt : sg_iok MX5_hasFigureAt := ⟨sg_in 377 (by decide +kernel) rfl, sg_in 378 (by decide +kernel) rfl⟩
abbrev MX5_hasLetterAt : sg_M := (yX5_hasLetterAt, cX5_hasLetterAt, 3, (some .boolean), { frames := 1, cells := 0, slots := 0, locals := 21 })
theorem mX5_hasLetterAt : sg_mok MX5_hasLetterAt 1 := ⟨sg_in 392 (by decide +kernel) rfl, sg_in 7 (by decide +kernel) rfl, ⟨by decide +kernel, by decide +kernel, by decide +kernel⟩, by decide +kernel⟩
theorem iX5_hasLetterAt : sg_iok MX5_hasLetterAt := ⟨sg_in 390 (by decide +kernel) rfl, sg_in 391 (by decide +kernel) rfl⟩
abbrev MX5_init : sg_M := (yX5_init, cX5_init, 1, none, { frames := 1, cells := 1, slots := 200, locals := 20 })
theorem mX5_init : sg_mok MX5_init 0 := ⟨sg_in 164 (by decide +kernel) rfl, sg_in 7 (by decide +kernel) rfl, ⟨by decide +kernel, by decide +kernel, by decide +kernel⟩, by decide +kernel⟩
theorem nX5_init : Cond.instanceMethod yX5_init ∈ sg_ws := sg_in 163 (by decide +kernel) rfl
abbrev MJ6_bitCount_0f7a4 : sg_M := (yJ6_bitCount_0f7a4, cJ6_bitCount_0f7a4, 1, (some .int), { frames := 0, cells := 0, slots := 0, locals := 0 })
theorem mJ6_bitCount_0f7a4 : sg_mok MJ6_bitCount_0f7a4 1 := ⟨sg_in 555 (by decide +kernel) rfl, sg_in 15 (by decide +kernel) rfl, ⟨by decide +kernel, by decide +kernel, by decide +kernel⟩, by decide +kernel⟩
theorem tJ6_bitCount_0f7a4 : Cond.static yJ6_bitCount_0f7a4 ∈ sg_ws := sg_in 554 (by decide +kernel) rfl
abbrev MX6_copyFrom : sg_M := (yX6_copyFrom, cX6_copyFrom, 2, none, { frames := 2, cells := 0, slots := 0, locals := 47 })
theorem mX6_copyFrom : sg_mok MX6_copyFrom 1 := ⟨sg_in 662 (by decide +kernel) rfl, sg_in 2 (by decide +kernel) rfl, ⟨by decide +kernel, by decide +kernel, by decide +kernel⟩, by decide +kernel⟩
theorem iX6_copyFrom : sg_iok MX6_copyFrom := ⟨sg_in 660 (by decide +kernel) rfl, sg_in 661 (by decide +kernel) rfl⟩
abbrev MX6_findMapDue : sg_M := (yX6_findMapDue, cX6_findMapDue, 2, none, { frames := 2, cells := 0, slots := 0, locals := 50 })
theorem mX6_findMapDue : sg_mok MX6_findMapDue 0 := ⟨sg_in 248 (by decide +kernel) rfl, sg_in 2 (by decide +kernel) rfl, ⟨by decide +kernel, by decide +kernel, by decide +kernel⟩, by decide +kernel⟩
theorem iX6_findMapDue : sg_iok MX6_findMapDue := ⟨sg_in 247 (by decide +kernel) rfl, sg_ins (n := 6) 0 (by decide +kernel)⟩
abbrev MX6_firstWrong : sg_M := (yX6_firstWrong, cX6_firstWrong, 2, (some .int), { frames := 3, cells := 0, slots := 0, locals := 71 })
theorem mX6_firstWrong : sg_mok MX6_firstWrong 0 := ⟨sg_in 867 (by decide +kernel) rfl, sg_in 2 (by decide +kernel) rfl, ⟨by decide +kernel, by decide +kernel, by decide +kernel⟩, by decide +kernel⟩
theorem iX6_firstWrong : sg_iok MX6_firstWrong := ⟨sg_in 865 (by decide +kernel) rfl, sg_in 866 (by decide +kernel) rfl⟩
abbrev MX6_follows : sg_M := (yX6_follows, cX6_follows, 3, (some .boolean), { frames := 1, cells := 0, slots := 0, locals := 21 })
theorem mX6_follows : sg_mok MX6_follows 2 := ⟨sg_in 706 (by decide +kernel) rfl, sg_in 2 (by decide +kernel) rfl, ⟨by decide +kernel, by decide +kernel, by decide +kernel⟩, by decide +kernel⟩
theorem iX6_follows : sg_iok MX6_follows := ⟨sg_in 705 (by decide +kernel) rfl, sg_ins (n := 6) 24 (by decide +kernel)⟩
abbrev MX6_groupFor : sg_M := (yX6_groupFor, cX6_groupFor, 3, (some .int), { frames := 3, cells := 0, slots := 0, locals := 72 })
theorem mX6_groupFor : sg_mok MX6_groupFor 2 := ⟨sg_in 511 (by decide +kernel) rfl, sg_in 2 (by decide +kernel) rfl, ⟨by decide +kernel, by decide +kernel, by decide +kernel⟩, by decide +kernel⟩
theorem iX6_groupFor : sg_iok MX6_groupFor := ⟨sg_in 509 (by decide +kernel) rfl, sg_in 510 (by decide +kernel) rfl⟩
abbrev MX6_groupForDirectory : sg_M := (yX6_groupForDirectory, cX6_groupForDirectory, 8, (some .int), { frames := 2, cells := 0, slots := 0, locals := 45 })
theorem mX6_groupForDirectory : sg_mok MX6_groupForDirectory 0 := ⟨sg_in 515 (by decide +kernel) rfl, sg_in 2 (by decide +kernel) rfl, ⟨by decide +kernel, by decide +kernel, by decide +kernel⟩, by decide +kernel⟩
theorem iX6_groupForDirectory : sg_iok MX6_groupForDirectory := ⟨sg_in 514 (by decide +kernel) rfl, sg_ins (n := 6) 12 (by decide +kernel)⟩
abbrev MX6_groupForFile : sg_M := (yX6_groupForFile, cX6_groupForFile, 5, (some .int), { frames := 2, cells := 0, slots := 0, locals := 44 })
theorem mX6_groupForFile : sg_mok MX6_groupForFile 1 := ⟨sg_in 527 (by decide +kernel) rfl, sg_in 2 (by decide +kernel) rfl, ⟨by decide +kernel, by decide +kernel, by decide +kernel⟩, by decide +kernel⟩
theorem iX6_groupForFile : sg_iok MX6_groupForFile := ⟨sg_in 526 (by decide +kernel) rfl, sg_ins (n := 6) 13 (by decide +kernel)⟩
abbrev MX6_init : sg_M := (yX6_init, cX6_init, 1, none, { frames := 2, cells := 12, slots := 441, locals := 41 })
theorem mX6_init : sg_mok MX6_init 0 := ⟨sg_in 28 (by decide +kernel) rfl, sg_in 2 (by decide +kernel) rfl, ⟨by decide +kernel, by decide +kernel, by decide +kernel⟩, by decide +kernel⟩
theorem nX6_init : Cond.instanceMethod yX6_init ∈ sg_ws := sg_in 27 (by decide +kernel) rfl
abbrev MX6_isSpoilt : sg_M := (yX6_isSpoilt, cX6_isSpoilt, 2, (some .boolean), { frames := 3, cells := 0, slots := 0, locals := 71 })
theorem mX6_isSpoilt : sg_mok MX6_isSpoilt 0 := ⟨sg_in 489 (by decide +kernel) rfl, sg_in 2 (by decide +kernel) rfl, ⟨by decide +kernel, by decide +kernel, by decide +kernel⟩, by decide +kernel⟩
theorem iX6_isSpoilt : sg_iok MX6_isSpoilt := ⟨sg_in 487 (by decide +kernel) rfl, sg_in 488 (by decide +kernel) rfl⟩
abbrev MX6_mendMap : sg_M := (yX6_mendMap, cX6_mendMap, 1, none, { frames := 3, cells := 0, slots := 0, locals := 71 })
theorem mX6_mendMap : sg_mok MX6_mendMap 0 := ⟨sg_in 244 (by decide +kernel) rfl, sg_in 2 (by decide +kernel) rfl, ⟨by decide +kernel, by decide +kernel, by decide +kernel⟩, by decide +kernel⟩
theorem iX6_mendMap : sg_iok MX6_mendMap := ⟨sg_in 242 (by decide +kernel) rfl, sg_in 243 (by decide +kernel) rfl⟩
abbrev MX6_pairsOf : sg_M := (yX6_pairsOf, cX6_pairsOf, 5, (some .int), { frames := 2, cells := 0, slots := 0, locals := 43 })
theorem mX6_pairsOf : sg_mok MX6_pairsOf 2 := ⟨sg_in 701 (by decide +kernel) rfl, sg_in 2 (by decide +kernel) rfl, ⟨by decide +kernel, by decide +kernel, by decide +kernel⟩, by decide +kernel⟩
theorem iX6_pairsOf : sg_iok MX6_pairsOf := ⟨sg_in 699 (by decide +kernel) rfl, sg_in 700 (by decide +kernel) rfl⟩
abbrev MX6_pairsOfAll : sg_M := (yX6_pairsOfAll, cX6_pairsOfAll, 4, (some .int), { frames := 3, cells := 0, slots := 0, locals := 67 })
theorem mX6_pairsOfAll : sg_mok MX6_pairsOfAll 1 := ⟨sg_in 697 (by decide +kernel) rfl, sg_in 2 (by decide +kernel) rfl, ⟨by decide +kernel, by decide +kernel, by decide +kernel⟩, by decide +kernel⟩
theorem iX6_pairsOfAll : sg_iok MX6_pairsOfAll := ⟨sg_in 695 (by decide +kernel) rfl, sg_in 696 (by decide +kernel) rfl⟩
abbrev MX6_putAllOf : sg_M := (yX6_putAllOf, cX6_putAllOf, 6, none, { frames := 1, cells := 0, slots := 0, locals := 25 })
theorem mX6_putAllOf : sg_mok MX6_putAllOf 4 := ⟨sg_in 264 (by decide +kernel) rfl, sg_in 2 (by decide +kernel) rfl, ⟨by decide +kernel, by decide +kernel, by decide +kernel⟩, by decide +kernel⟩
theorem iX6_putAllOf : sg_iok MX6_putAllOf := ⟨sg_in 262 (by decide +kernel) rfl, sg_in 263 (by decide +kernel) rfl⟩
abbrev MX6_startAnew : sg_M := (yX6_startAnew, cX6_startAnew, 2, none, { frames := 4, cells := 0, slots := 0, locals := 91 })
theorem mX6_startAnew : sg_mok MX6_startAnew 1 := ⟨sg_in 218 (by decide +kernel) rfl, sg_in 2 (by decide +kernel) rfl, ⟨by decide +kernel, by decide +kernel, by decide +kernel⟩, by decide +kernel⟩
theorem iX6_startAnew : sg_iok MX6_startAnew := ⟨sg_in 216 (by decide +kernel) rfl, sg_in 217 (by decide +kernel) rfl⟩
abbrev MX6_wrongs : sg_M := (yX6_wrongs, cX6_wrongs, 5, (some .int), { frames := 3, cells := 0, slots := 0, locals := 71 })
theorem mX6_wrongs : sg_mok MX6_wrongs 1 := ⟨sg_in 873 (by decide +kernel) rfl, sg_in 2 (by decide +kernel) rfl, ⟨by decide +kernel, by decide +kernel, by decide +kernel⟩, by decide +kernel⟩
theorem iX6_wrongs : sg_iok MX6_wrongs := ⟨sg_in 871 (by decide +kernel) rfl, sg_in 872 (by decide +kernel) rfl⟩
abbrev MX7_back : sg_M := (yX7_back, cX7_back, 2, (some .int), { frames := 3, cells := 0, slots := 0, locals := 68 })
theorem mX7_back : sg_mok MX7_back 1 := ⟨sg_in 891 (by decide +kernel) rfl, sg_in 1 (by decide +kernel) rfl, ⟨by decide +kernel, by decide +kernel, by decide +kernel⟩, by decide +kernel⟩
theorem iX7_back : sg_iok MX7_back := ⟨sg_in 889 (by decide +kernel) rfl, sg_in 890 (by decide +kernel) rfl⟩
abbrev MX7_block : sg_M := (yX7_block, cX7_block, 3, (some .int), { frames := 2, cells := 0, slots := 0, locals := 41 })
theorem mX7_block : sg_mok MX7_block 2 := ⟨sg_in 742 (by decide +kernel) rfl, sg_in 1 (by decide +kernel) rfl, ⟨by decide +kernel, by decide +kernel, by decide +kernel⟩, by decide +kernel⟩
theorem iX7_block : sg_iok MX7_block := ⟨sg_in 740 (by decide +kernel) rfl, sg_in 741 (by decide +kernel) rfl⟩
abbrev MX7_check : sg_M := (yX7_check, cX7_check, 2, (some .int), { frames := 4, cells := 0, slots := 0, locals := 95 })
theorem mX7_check : sg_mok MX7_check 1 := ⟨sg_in 863 (by decide +kernel) rfl, sg_in 1 (by decide +kernel) rfl, ⟨by decide +kernel, by decide +kernel, by decide +kernel⟩, by decide +kernel⟩
theorem iX7_check : sg_iok MX7_check := ⟨sg_in 861 (by decide +kernel) rfl, sg_in 862 (by decide +kernel) rfl⟩
abbrev MX7_count : sg_M := (yX7_count, cX7_count, 2, (some .int), { frames := 0, cells := 0, slots := 0, locals := 0 })
theorem mX7_count : sg_mok MX7_count 1 := ⟨sg_in 895 (by decide +kernel) rfl, sg_in 1 (by decide +kernel) rfl, ⟨by decide +kernel, by decide +kernel, by decide +kernel⟩, by decide +kernel⟩
theorem iX7_count : sg_iok MX7_count := ⟨sg_in 893 (by decide +kernel) rfl, sg_in 894 (by decide +kernel) rfl⟩
abbrev MX7_draw : sg_M := (yX7_draw, cX7_draw, 5, (some .int), { frames := 7, cells := 0, slots := 0, locals := 173 })
theorem mX7_draw : sg_mok MX7_draw 2 := ⟨sg_in 843 (by decide +kernel) rfl, sg_in 1 (by decide +kernel) rfl, ⟨by decide +kernel, by decide +kernel, by decide +kernel⟩, by decide +kernel⟩
theorem iX7_draw : sg_iok MX7_draw := ⟨sg_in 841 (by decide +kernel) rfl, sg_in 842 (by decide +kernel) rfl⟩
abbrev MX7_drawnDeed : sg_M := (yX7_drawnDeed, cX7_drawnDeed, 7, (some .int), { frames := 6, cells := 0, slots := 0, locals := 147 })
theorem mX7_drawnDeed : sg_mok MX7_drawnDeed 0 := ⟨sg_in 848 (by decide +kernel) rfl, sg_in 1 (by decide +kernel) rfl, ⟨by decide +kernel, by decide +kernel, by decide +kernel⟩, by decide +kernel⟩
theorem iX7_drawnDeed : sg_iok MX7_drawnDeed := ⟨sg_in 847 (by decide +kernel) rfl, sg_ins (n := 14) 26 (by decide +kernel)⟩
abbrev MX7_drawnNumber : sg_M := (yX7_drawnNumber, cX7_drawnNumber, 1, (some .int), { frames := 0, cells := 0, slots := 0, locals := 0 })
theorem mX7_drawnNumber : sg_mok MX7_drawnNumber 0 := ⟨sg_in 852 (by decide +kernel) rfl, sg_in 1 (by decide +kernel) rfl, ⟨by decide +kernel, by decide +kernel, by decide +kernel⟩, by decide +kernel⟩
theorem iX7_drawnNumber : sg_iok MX7_drawnNumber := ⟨sg_in 851 (by decide +kernel) rfl, sg_ins (n := 14) 27 (by decide +kernel)⟩
abbrev MX7_end : sg_M := (yX7_end, cX7_end, 3, (some .int), { frames := 0, cells := 0, slots := 0, locals := 0 })
theorem mX7_end : sg_mok MX7_end 1 := ⟨sg_in 346 (by decide +kernel) rfl, sg_in 1 (by decide +kernel) rfl, ⟨by decide +kernel, by decide +kernel, by decide +kernel⟩, by decide +kernel⟩
theorem iX7_end : sg_iok MX7_end := ⟨sg_in 344 (by decide +kernel) rfl, sg_in 345 (by decide +kernel) rfl⟩
abbrev MX7_entry : sg_M := (yX7_entry, cX7_entry, 6, (some .int), { frames := 2, cells := 0, slots := 0, locals := 44 })
theorem mX7_entry : sg_mok MX7_entry 2 := ⟨sg_in 774 (by decide +kernel) rfl, sg_in 1 (by decide +kernel) rfl, ⟨by decide +kernel, by decide +kernel, by decide +kernel⟩, by decide +kernel⟩
theorem iX7_entry : sg_iok MX7_entry := ⟨sg_in 772 (by decide +kernel) rfl, sg_in 773 (by decide +kernel) rfl⟩
abbrev MX7_fault : sg_M := (yX7_fault, cX7_fault, 1, (some .int), { frames := 0, cells := 0, slots := 0, locals := 0 })
theorem mX7_fault : sg_mok MX7_fault 0 := ⟨sg_in 681 (by decide +kernel) rfl, sg_in 1 (by decide +kernel) rfl, ⟨by decide +kernel, by decide +kernel, by decide +kernel⟩, by decide +kernel⟩
theorem iX7_fault : sg_iok MX7_fault := ⟨sg_in 679 (by decide +kernel) rfl, sg_in 680 (by decide +kernel) rfl⟩
abbrev MX7_feed : sg_M := (yX7_feed, cX7_feed, 2, (some .int), { frames := 1, cells := 0, slots := 0, locals := 21 })
theorem mX7_feed : sg_mok MX7_feed 1 := ⟨sg_in 338 (by decide +kernel) rfl, sg_in 1 (by decide +kernel) rfl, ⟨by decide +kernel, by decide +kernel, by decide +kernel⟩, by decide +kernel⟩
theorem iX7_feed : sg_iok MX7_feed := ⟨sg_in 336 (by decide +kernel) rfl, sg_in 337 (by decide +kernel) rfl⟩
abbrev MX7_find : sg_M := (yX7_find, cX7_find, 3, (some .int), { frames := 2, cells := 0, slots := 0, locals := 44 })
theorem mX7_find : sg_mok MX7_find 2 := ⟨sg_in 768 (by decide +kernel) rfl, sg_in 1 (by decide +kernel) rfl, ⟨by decide +kernel, by decide +kernel, by decide +kernel⟩, by decide +kernel⟩
theorem iX7_find : sg_iok MX7_find := ⟨sg_in 766 (by decide +kernel) rfl, sg_in 767 (by decide +kernel) rfl⟩
abbrev MX7_flip : sg_M := (yX7_flip, cX7_flip, 3, (some .int), { frames := 3, cells := 0, slots := 0, locals := 65 })
theorem mX7_flip : sg_mok MX7_flip 1 := ⟨sg_in 858 (by decide +kernel) rfl, sg_in 1 (by decide +kernel) rfl, ⟨by decide +kernel, by decide +kernel, by decide +kernel⟩, by decide +kernel⟩
theorem iX7_flip : sg_iok MX7_flip := ⟨sg_in 856 (by decide +kernel) rfl, sg_in 857 (by decide +kernel) rfl⟩
abbrev MX7_fragment : sg_M := (yX7_fragment, cX7_fragment, 3, (some .int), { frames := 3, cells := 0, slots := 0, locals := 65 })
theorem mX7_fragment : sg_mok MX7_fragment 2 := ⟨sg_in 747 (by decide +kernel) rfl, sg_in 1 (by decide +kernel) rfl, ⟨by decide +kernel, by decide +kernel, by decide +kernel⟩, by decide +kernel⟩
theorem iX7_fragment : sg_iok MX7_fragment := ⟨sg_in 745 (by decide +kernel) rfl, sg_in 746 (by decide +kernel) rfl⟩
abbrev MX7_gather : sg_M := (yX7_gather, cX7_gather, 2, (some .int), { frames := 5, cells := 0, slots := 0, locals := 117 })
theorem mX7_gather : sg_mok MX7_gather 1 := ⟨sg_in 825 (by decide +kernel) rfl, sg_in 1 (by decide +kernel) rfl, ⟨by decide +kernel, by decide +kernel, by decide +kernel⟩, by decide +kernel⟩
theorem iX7_gather : sg_iok MX7_gather := ⟨sg_in 823 (by decide +kernel) rfl, sg_in 824 (by decide +kernel) rfl⟩
abbrev MX7_group : sg_M := (yX7_group, cX7_group, 3, (some .int), { frames := 2, cells := 0, slots := 0, locals := 50 })
theorem mX7_group : sg_mok MX7_group 2 := ⟨sg_in 716 (by decide +kernel) rfl, sg_in 1 (by decide +kernel) rfl, ⟨by decide +kernel, by decide +kernel, by decide +kernel⟩, by decide +kernel⟩
theorem iX7_group : sg_iok MX7_group := ⟨sg_in 714 (by decide +kernel) rfl, sg_in 715 (by decide +kernel) rfl⟩
abbrev MX7_grow : sg_M := (yX7_grow, cX7_grow, 3, (some .int), { frames := 6, cells := 0, slots := 0, locals := 147 })
theorem mX7_grow : sg_mok MX7_grow 2 := ⟨sg_in 787 (by decide +kernel) rfl, sg_in 1 (by decide +kernel) rfl, ⟨by decide +kernel, by decide +kernel, by decide +kernel⟩, by decide +kernel⟩
theorem iX7_grow : sg_iok MX7_grow := ⟨sg_in 785 (by decide +kernel) rfl, sg_in 786 (by decide +kernel) rfl⟩
abbrev MX7_hasImage : sg_M := (yX7_hasImage, cX7_hasImage, 2, (some .boolean), { frames := 0, cells := 0, slots := 0, locals := 0 })
theorem mX7_hasImage : sg_mok MX7_hasImage 1 := ⟨sg_in 887 (by decide +kernel) rfl, sg_in 1 (by decide +kernel) rfl, ⟨by decide +kernel, by decide +kernel, by decide +kernel⟩, by decide +kernel⟩
theorem iX7_hasImage : sg_iok MX7_hasImage := ⟨sg_in 886 (by decide +kernel) rfl, sg_ins (n := 14) 28 (by decide +kernel)⟩
abbrev MX7_init : sg_M := (yX7_init, cX7_init, 1, none, { frames := 5, cells := 63, slots := 2107, locals := 112 })
theorem mX7_init : sg_mok MX7_init 0 := ⟨sg_in 20 (by decide +kernel) rfl, sg_in 1 (by decide +kernel) rfl, ⟨by decide +kernel, by decide +kernel, by decide +kernel⟩, by decide +kernel⟩
theorem nX7_init : Cond.instanceMethod yX7_init ∈ sg_ws := sg_in 19 (by decide +kernel) rfl
abbrev MX7_inode : sg_M := (yX7_inode, cX7_inode, 4, (some .int), { frames := 3, cells := 0, slots := 0, locals := 67 })
theorem mX7_inode : sg_mok MX7_inode 2 := ⟨sg_in 727 (by decide +kernel) rfl, sg_in 1 (by decide +kernel) rfl, ⟨by decide +kernel, by decide +kernel, by decide +kernel⟩, by decide +kernel⟩
theorem iX7_inode : sg_iok MX7_inode := ⟨sg_in 725 (by decide +kernel) rfl, sg_in 726 (by decide +kernel) rfl⟩
abbrev MX7_isName : sg_M := (yX7_isName, cX7_isName, 1, (some .boolean), { frames := 0, cells := 0, slots := 0, locals := 0 })
theorem mX7_isName : sg_mok MX7_isName 1 := ⟨sg_in 485 (by decide +kernel) rfl, sg_in 1 (by decide +kernel) rfl, ⟨by decide +kernel, by decide +kernel, by decide +kernel⟩, by decide +kernel⟩
theorem tX7_isName : Cond.static yX7_isName ∈ sg_ws := sg_in 484 (by decide +kernel) rfl
abbrev MX7_keep : sg_M := (yX7_keep, cX7_keep, 3, (some .int), { frames := 3, cells := 0, slots := 0, locals := 68 })
theorem mX7_keep : sg_mok MX7_keep 1 := ⟨sg_in 883 (by decide +kernel) rfl, sg_in 1 (by decide +kernel) rfl, ⟨by decide +kernel, by decide +kernel, by decide +kernel⟩, by decide +kernel⟩
theorem iX7_keep : sg_iok MX7_keep := ⟨sg_in 881 (by decide +kernel) rfl, sg_in 882 (by decide +kernel) rfl⟩
abbrev MX7_make : sg_M := (yX7_make, cX7_make, 4, (some .int), { frames := 5, cells := 0, slots := 0, locals := 120 })
theorem mX7_make : sg_mok MX7_make 3 := ⟨sg_in 783 (by decide +kernel) rfl, sg_in 1 (by decide +kernel) rfl, ⟨by decide +kernel, by decide +kernel, by decide +kernel⟩, by decide +kernel⟩
theorem iX7_make : sg_iok MX7_make := ⟨sg_in 781 (by decide +kernel) rfl, sg_in 782 (by decide +kernel) rfl⟩
abbrev MX7_mend : sg_M := (yX7_mend, cX7_mend, 2, (some .int), { frames := 4, cells := 0, slots := 0, locals := 95 })
theorem mX7_mend : sg_mok MX7_mend 0 := ⟨sg_in 878 (by decide +kernel) rfl, sg_in 1 (by decide +kernel) rfl, ⟨by decide +kernel, by decide +kernel, by decide +kernel⟩, by decide +kernel⟩
theorem iX7_mend : sg_iok MX7_mend := ⟨sg_in 876 (by decide +kernel) rfl, sg_in 877 (by decide +kernel) rfl⟩
abbrev MX7_move : sg_M := (yX7_move, cX7_move, 4, (some .int), { frames := 5, cells := 0, slots := 0, locals := 116 })
theorem mX7_move : sg_mok MX7_move 3 := ⟨sg_in 812 (by decide +kernel) rfl, sg_in 1 (by decide +kernel) rfl, ⟨by decide +kernel, by decide +kernel, by decide +kernel⟩, by decide +kernel⟩
theorem iX7_move : sg_iok MX7_move := ⟨sg_in 810 (by decide +kernel) rfl, sg_in 811 (by decide +kernel) rfl⟩
abbrev MX7_noteDirectory : sg_M := (yX7_noteDirectory, cX7_noteDirectory, 2, none, { frames := 0, cells := 0, slots := 0, locals := 0 })
theorem mX7_noteDirectory : sg_mok MX7_noteDirectory 1 := ⟨sg_in 591 (by decide +kernel) rfl, sg_in 1 (by decide +kernel) rfl, ⟨by decide +kernel, by decide +kernel, by decide +kernel⟩, by decide +kernel⟩
theorem iX7_noteDirectory : sg_iok MX7_noteDirectory := ⟨sg_in 590 (by decide +kernel) rfl, sg_ins (n := 14) 19 (by decide +kernel)⟩
abbrev MX7_remove : sg_M := (yX7_remove, cX7_remove, 2, (some .int), { frames := 5, cells := 0, slots := 0, locals := 114 })
theorem mX7_remove : sg_mok MX7_remove 1 := ⟨sg_in 800 (by decide +kernel) rfl, sg_in 1 (by decide +kernel) rfl, ⟨by decide +kernel, by decide +kernel, by decide +kernel⟩, by decide +kernel⟩
theorem iX7_remove : sg_iok MX7_remove := ⟨sg_in 798 (by decide +kernel) rfl, sg_in 799 (by decide +kernel) rfl⟩
abbrev MX7_rule : sg_M := (yX7_rule, cX7_rule, 2, (some .int), { frames := 4, cells := 0, slots := 0, locals := 90 })
theorem mX7_rule : sg_mok MX7_rule 1 := ⟨sg_in 685 (by decide +kernel) rfl, sg_in 1 (by decide +kernel) rfl, ⟨by decide +kernel, by decide +kernel, by decide +kernel⟩, by decide +kernel⟩
theorem iX7_rule : sg_iok MX7_rule := ⟨sg_in 683 (by decide +kernel) rfl, sg_in 684 (by decide +kernel) rfl⟩
abbrev MX7_shrink : sg_M := (yX7_shrink, cX7_shrink, 3, (some .int), { frames := 5, cells := 0, slots := 0, locals := 117 })
theorem mX7_shrink : sg_mok MX7_shrink 2 := ⟨sg_in 791 (by decide +kernel) rfl, sg_in 1 (by decide +kernel) rfl, ⟨by decide +kernel, by decide +kernel, by decide +kernel⟩, by decide +kernel⟩
theorem iX7_shrink : sg_iok MX7_shrink := ⟨sg_in 789 (by decide +kernel) rfl, sg_in 790 (by decide +kernel) rfl⟩
abbrev MX7_tellLine : sg_M := (yX7_tellLine, cX7_tellLine, 3, (some .boolean), { frames := 6, cells := 0, slots := 0, locals := 147 })
theorem mX7_tellLine : sg_mok MX7_tellLine 0 := ⟨sg_in 470 (by decide +kernel) rfl, sg_in 1 (by decide +kernel) rfl, ⟨by decide +kernel, by decide +kernel, by decide +kernel⟩, by decide +kernel⟩
theorem iX7_tellLine : sg_iok MX7_tellLine := ⟨sg_in 469 (by decide +kernel) rfl, sg_ins (n := 14) 9 (by decide +kernel)⟩
abbrev MX7_text : sg_M := (yX7_text, cX7_text, 3, (some .int), { frames := 7, cells := 0, slots := 0, locals := 169 })
theorem mX7_text : sg_mok MX7_text 0 := ⟨sg_in 350 (by decide +kernel) rfl, sg_in 1 (by decide +kernel) rfl, ⟨by decide +kernel, by decide +kernel, by decide +kernel⟩, by decide +kernel⟩
theorem iX7_text : sg_iok MX7_text := ⟨sg_in 348 (by decide +kernel) rfl, sg_in 349 (by decide +kernel) rfl⟩
abbrev MX7_toldParent : sg_M := (yX7_toldParent, cX7_toldParent, 2, (some .int), { frames := 0, cells := 0, slots := 0, locals := 0 })
theorem mX7_toldParent : sg_mok MX7_toldParent 1 := ⟨sg_in 474 (by decide +kernel) rfl, sg_in 1 (by decide +kernel) rfl, ⟨by decide +kernel, by decide +kernel, by decide +kernel⟩, by decide +kernel⟩
theorem iX7_toldParent : sg_iok MX7_toldParent := ⟨sg_in 473 (by decide +kernel) rfl, sg_ins (n := 14) 10 (by decide +kernel)⟩
abbrev MX7_where : sg_M := (yX7_where, cX7_where, 3, (some .int), { frames := 4, cells := 0, slots := 0, locals := 94 })
theorem mX7_where : sg_mok MX7_where 2 := ⟨sg_in 778 (by decide +kernel) rfl, sg_in 1 (by decide +kernel) rfl, ⟨by decide +kernel, by decide +kernel, by decide +kernel⟩, by decide +kernel⟩
theorem iX7_where : sg_iok MX7_where := ⟨sg_in 776 (by decide +kernel) rfl, sg_in 777 (by decide +kernel) rfl⟩
abbrev MX8_allFreeBlocks : sg_M := (yX8_allFreeBlocks, cX8_allFreeBlocks, 3, (some .int), { frames := 4, cells := 0, slots := 0, locals := 89 })
theorem mX8_allFreeBlocks : sg_mok MX8_allFreeBlocks 0 := ⟨sg_in 1161 (by decide +kernel) rfl, sg_in 10 (by decide +kernel) rfl, ⟨by decide +kernel, by decide +kernel, by decide +kernel⟩, by decide +kernel⟩
theorem iX8_allFreeBlocks : sg_iok MX8_allFreeBlocks := ⟨sg_in 1160 (by decide +kernel) rfl, sg_ins (n := 16) 74 (by decide +kernel)⟩
abbrev MX8_anew : sg_M := (yX8_anew, cX8_anew, 2, none, { frames := 1, cells := 0, slots := 0, locals := 20 })
theorem mX8_anew : sg_mok MX8_anew 0 := ⟨sg_in 905 (by decide +kernel) rfl, sg_in 10 (by decide +kernel) rfl, ⟨by decide +kernel, by decide +kernel, by decide +kernel⟩, by decide +kernel⟩
theorem iX8_anew : sg_iok MX8_anew := ⟨sg_in 904 (by decide +kernel) rfl, sg_ins (n := 16) 29 (by decide +kernel)⟩
abbrev MX8_areFree : sg_M := (yX8_areFree, cX8_areFree, 5, (some .boolean), { frames := 1, cells := 0, slots := 0, locals := 21 })
theorem mX8_areFree : sg_mok MX8_areFree 2 := ⟨sg_in 1105 (by decide +kernel) rfl, sg_in 10 (by decide +kernel) rfl, ⟨by decide +kernel, by decide +kernel, by decide +kernel⟩, by decide +kernel⟩
theorem iX8_areFree : sg_iok MX8_areFree := ⟨sg_in 1104 (by decide +kernel) rfl, sg_ins (n := 16) 60 (by decide +kernel)⟩
abbrev MX8_back : sg_M := (yX8_back, cX8_back, 3, (some .int), { frames := 4, cells := 0, slots := 0, locals := 89 })
theorem mX8_back : sg_mok MX8_back 1 := ⟨sg_in 1334 (by decide +kernel) rfl, sg_in 10 (by decide +kernel) rfl, ⟨by decide +kernel, by decide +kernel, by decide +kernel⟩, by decide +kernel⟩
theorem iX8_back : sg_iok MX8_back := ⟨sg_in 1332 (by decide +kernel) rfl, sg_in 1333 (by decide +kernel) rfl⟩
abbrev MX8_behind : sg_M := (yX8_behind, cX8_behind, 3, (some .int), { frames := 0, cells := 0, slots := 0, locals := 0 })
theorem mX8_behind : sg_mok MX8_behind 2 := ⟨sg_in 1073 (by decide +kernel) rfl, sg_in 10 (by decide +kernel) rfl, ⟨by decide +kernel, by decide +kernel, by decide +kernel⟩, by decide +kernel⟩
theorem iX8_behind : sg_iok MX8_behind := ⟨sg_in 1072 (by decide +kernel) rfl, sg_ins (n := 16) 52 (by decide +kernel)⟩
abbrev MX8_block : sg_M := (yX8_block, cX8_block, 3, (some .int), { frames := 3, cells := 0, slots := 0, locals := 67 })
theorem mX8_block : sg_mok MX8_block 2 := ⟨sg_in 1218 (by decide +kernel) rfl, sg_in 10 (by decide +kernel) rfl, ⟨by decide +kernel, by decide +kernel, by decide +kernel⟩, by decide +kernel⟩
theorem iX8_block : sg_iok MX8_block := ⟨sg_in 1216 (by decide +kernel) rfl, sg_in 1217 (by decide +kernel) rfl⟩
abbrev MX8_blockNear : sg_M := (yX8_blockNear, cX8_blockNear, 6, (some .int), { frames := 3, cells := 0, slots := 0, locals := 66 })
theorem mX8_blockNear : sg_mok MX8_blockNear 2 := ⟨sg_in 1169 (by decide +kernel) rfl, sg_in 10 (by decide +kernel) rfl, ⟨by decide +kernel, by decide +kernel, by decide +kernel⟩, by decide +kernel⟩
theorem iX8_blockNear : sg_iok MX8_blockNear := ⟨sg_in 1168 (by decide +kernel) rfl, sg_ins (n := 16) 76 (by decide +kernel)⟩
abbrev MX8_blocks : sg_M := (yX8_blocks, cX8_blocks, 2, (some .int), { frames := 1, cells := 0, slots := 0, locals := 22 })
theorem mX8_blocks : sg_mok MX8_blocks 1 := ⟨sg_in 1125 (by decide +kernel) rfl, sg_in 10 (by decide +kernel) rfl, ⟨by decide +kernel, by decide +kernel, by decide +kernel⟩, by decide +kernel⟩
theorem iX8_blocks : sg_iok MX8_blocks := ⟨sg_in 1124 (by decide +kernel) rfl, sg_ins (n := 16) 65 (by decide +kernel)⟩
abbrev MX8_byteAt : sg_M := (yX8_byteAt, cX8_byteAt, 2, (some .int), { frames := 0, cells := 0, slots := 0, locals := 0 })
theorem mX8_byteAt : sg_mok MX8_byteAt 1 := ⟨sg_in 986 (by decide +kernel) rfl, sg_in 10 (by decide +kernel) rfl, ⟨by decide +kernel, by decide +kernel, by decide +kernel⟩, by decide +kernel⟩
theorem iX8_byteAt : sg_iok MX8_byteAt := ⟨sg_in 985 (by decide +kernel) rfl, sg_ins (n := 16) 32 (by decide +kernel)⟩
abbrev MX8_canGrow : sg_M := (yX8_canGrow, cX8_canGrow, 8, (some .boolean), { frames := 8, cells := 0, slots := 0, locals := 186 })
theorem mX8_canGrow : sg_mok MX8_canGrow 2 := ⟨sg_in 1121 (by decide +kernel) rfl, sg_in 10 (by decide +kernel) rfl, ⟨by decide +kernel, by decide +kernel, by decide +kernel⟩, by decide +kernel⟩
theorem iX8_canGrow : sg_iok MX8_canGrow := ⟨sg_in 1120 (by decide +kernel) rfl, sg_ins (n := 16) 64 (by decide +kernel)⟩
abbrev MX8_check : sg_M := (yX8_check, cX8_check, 5, (some .int), { frames := 4, cells := 0, slots := 0, locals := 91 })
theorem mX8_check : sg_mok MX8_check 1 := ⟨sg_in 1322 (by decide +kernel) rfl, sg_in 10 (by decide +kernel) rfl, ⟨by decide +kernel, by decide +kernel, by decide +kernel⟩, by decide +kernel⟩
theorem iX8_check : sg_iok MX8_check := ⟨sg_in 1320 (by decide +kernel) rfl, sg_in 1321 (by decide +kernel) rfl⟩
abbrev MX8_comes : sg_M := (yX8_comes, cX8_comes, 6, none, { frames := 10, cells := 0, slots := 0, locals := 236 })
theorem mX8_comes : sg_mok MX8_comes 4 := ⟨sg_in 1042 (by decide +kernel) rfl, sg_in 10 (by decide +kernel) rfl, ⟨by decide +kernel, by decide +kernel, by decide +kernel⟩, by decide +kernel⟩
theorem iX8_comes : sg_iok MX8_comes := ⟨sg_in 1041 (by decide +kernel) rfl, sg_ins (n := 16) 45 (by decide +kernel)⟩
abbrev MX8_copies : sg_M := (yX8_copies, cX8_copies, 3, none, { frames := 0, cells := 0, slots := 0, locals := 0 })
theorem mX8_copies : sg_mok MX8_copies 2 := ⟨sg_in 978 (by decide +kernel) rfl, sg_in 10 (by decide +kernel) rfl, ⟨by decide +kernel, by decide +kernel, by decide +kernel⟩, by decide +kernel⟩
theorem tX8_copies : Cond.static yX8_copies ∈ sg_ws := sg_in 977 (by decide +kernel) rfl
abbrev MX8_count : sg_M := (yX8_count, cX8_count, 2, (some .int), { frames := 1, cells := 0, slots := 0, locals := 20 })
theorem mX8_count : sg_mok MX8_count 1 := ⟨sg_in 1338 (by decide +kernel) rfl, sg_in 10 (by decide +kernel) rfl, ⟨by decide +kernel, by decide +kernel, by decide +kernel⟩, by decide +kernel⟩
theorem iX8_count : sg_iok MX8_count := ⟨sg_in 1336 (by decide +kernel) rfl, sg_in 1337 (by decide +kernel) rfl⟩
abbrev MX8_deed : sg_M := (yX8_deed, cX8_deed, 6, (some .int), { frames := 11, cells := 0, slots := 0, locals := 258 })
theorem mX8_deed : sg_mok MX8_deed 4 := ⟨sg_in 1311 (by decide +kernel) rfl, sg_in 10 (by decide +kernel) rfl, ⟨by decide +kernel, by decide +kernel, by decide +kernel⟩, by decide +kernel⟩
theorem iX8_deed : sg_iok MX8_deed := ⟨sg_in 1310 (by decide +kernel) rfl, sg_ins (n := 16) 94 (by decide +kernel)⟩
abbrev MX8_directories : sg_M := (yX8_directories, cX8_directories, 4, (some .int), { frames := 1, cells := 0, slots := 0, locals := 22 })
theorem mX8_directories : sg_mok MX8_directories 1 := ⟨sg_in 1065 (by decide +kernel) rfl, sg_in 10 (by decide +kernel) rfl, ⟨by decide +kernel, by decide +kernel, by decide +kernel⟩, by decide +kernel⟩
theorem iX8_directories : sg_iok MX8_directories := ⟨sg_in 1064 (by decide +kernel) rfl, sg_ins (n := 16) 50 (by decide +kernel)⟩
abbrev MX8_draw : sg_M := (yX8_draw, cX8_draw, 9, (some .int), { frames := 12, cells := 0, slots := 0, locals := 283 })
theorem mX8_draw : sg_mok MX8_draw 2 := ⟨sg_in 1301 (by decide +kernel) rfl, sg_in 10 (by decide +kernel) rfl, ⟨by decide +kernel, by decide +kernel, by decide +kernel⟩, by decide +kernel⟩
theorem iX8_draw : sg_iok MX8_draw := ⟨sg_in 1299 (by decide +kernel) rfl, sg_in 1300 (by decide +kernel) rfl⟩
abbrev MX8_end : sg_M := (yX8_end, cX8_end, 3, (some .int), { frames := 1, cells := 0, slots := 0, locals := 25 })
theorem mX8_end : sg_mok MX8_end 1 := ⟨sg_in 971 (by decide +kernel) rfl, sg_in 10 (by decide +kernel) rfl, ⟨by decide +kernel, by decide +kernel, by decide +kernel⟩, by decide +kernel⟩
theorem iX8_end : sg_iok MX8_end := ⟨sg_in 969 (by decide +kernel) rfl, sg_in 970 (by decide +kernel) rfl⟩
abbrev MX8_entry : sg_M := (yX8_entry, cX8_entry, 5, (some .int), { frames := 4, cells := 0, slots := 0, locals := 90 })
theorem mX8_entry : sg_mok MX8_entry 2 := ⟨sg_in 1239 (by decide +kernel) rfl, sg_in 10 (by decide +kernel) rfl, ⟨by decide +kernel, by decide +kernel, by decide +kernel⟩, by decide +kernel⟩
theorem iX8_entry : sg_iok MX8_entry := ⟨sg_in 1237 (by decide +kernel) rfl, sg_in 1238 (by decide +kernel) rfl⟩
abbrev MX8_farFromRoot : sg_M := (yX8_farFromRoot, cX8_farFromRoot, 4, (some .int), { frames := 1, cells := 0, slots := 0, locals := 22 })
theorem mX8_farFromRoot : sg_mok MX8_farFromRoot 1 := ⟨sg_in 1285 (by decide +kernel) rfl, sg_in 10 (by decide +kernel) rfl, ⟨by decide +kernel, by decide +kernel, by decide +kernel⟩, by decide +kernel⟩
theorem iX8_farFromRoot : sg_iok MX8_farFromRoot := ⟨sg_in 1284 (by decide +kernel) rfl, sg_ins (n := 16) 90 (by decide +kernel)⟩
abbrev MX8_fault : sg_M := (yX8_fault, cX8_fault, 1, (some .int), { frames := 0, cells := 0, slots := 0, locals := 0 })
theorem mX8_fault : sg_mok MX8_fault 0 := ⟨sg_in 1181 (by decide +kernel) rfl, sg_in 10 (by decide +kernel) rfl, ⟨by decide +kernel, by decide +kernel, by decide +kernel⟩, by decide +kernel⟩
theorem iX8_fault : sg_iok MX8_fault := ⟨sg_in 1179 (by decide +kernel) rfl, sg_in 1180 (by decide +kernel) rfl⟩
abbrev MX8_feed : sg_M := (yX8_feed, cX8_feed, 2, (some .int), { frames := 1, cells := 0, slots := 0, locals := 25 })
theorem mX8_feed : sg_mok MX8_feed 1 := ⟨sg_in 963 (by decide +kernel) rfl, sg_in 10 (by decide +kernel) rfl, ⟨by decide +kernel, by decide +kernel, by decide +kernel⟩, by decide +kernel⟩
theorem iX8_feed : sg_iok MX8_feed := ⟨sg_in 961 (by decide +kernel) rfl, sg_in 962 (by decide +kernel) rfl⟩
abbrev MX8_fills : sg_M := (yX8_fills, cX8_fills, 5, (some .boolean), { frames := 7, cells := 0, slots := 0, locals := 158 })
theorem mX8_fills : sg_mok MX8_fills 2 := ⟨sg_in 1145 (by decide +kernel) rfl, sg_in 10 (by decide +kernel) rfl, ⟨by decide +kernel, by decide +kernel, by decide +kernel⟩, by decide +kernel⟩
theorem iX8_fills : sg_iok MX8_fills := ⟨sg_in 1144 (by decide +kernel) rfl, sg_ins (n := 16) 70 (by decide +kernel)⟩
abbrev MX8_find : sg_M := (yX8_find, cX8_find, 3, (some .int), { frames := 4, cells := 0, slots := 0, locals := 90 })
theorem mX8_find : sg_mok MX8_find 2 := ⟨sg_in 1230 (by decide +kernel) rfl, sg_in 10 (by decide +kernel) rfl, ⟨by decide +kernel, by decide +kernel, by decide +kernel⟩, by decide +kernel⟩
theorem iX8_find : sg_iok MX8_find := ⟨sg_in 1228 (by decide +kernel) rfl, sg_in 1229 (by decide +kernel) rfl⟩
abbrev MX8_flag : sg_M := (yX8_flag, cX8_flag, 1, (some .int), { frames := 0, cells := 0, slots := 0, locals := 0 })
theorem mX8_flag : sg_mok MX8_flag 1 := ⟨sg_in 1061 (by decide +kernel) rfl, sg_in 10 (by decide +kernel) rfl, ⟨by decide +kernel, by decide +kernel, by decide +kernel⟩, by decide +kernel⟩
theorem tX8_flag : Cond.static yX8_flag ∈ sg_ws := sg_in 1060 (by decide +kernel) rfl
abbrev MX8_flip : sg_M := (yX8_flip, cX8_flip, 3, (some .int), { frames := 2, cells := 0, slots := 0, locals := 42 })
theorem mX8_flip : sg_mok MX8_flip 1 := ⟨sg_in 1318 (by decide +kernel) rfl, sg_in 10 (by decide +kernel) rfl, ⟨by decide +kernel, by decide +kernel, by decide +kernel⟩, by decide +kernel⟩
theorem iX8_flip : sg_iok MX8_flip := ⟨sg_in 1316 (by decide +kernel) rfl, sg_in 1317 (by decide +kernel) rfl⟩
abbrev MX8_follows : sg_M := (yX8_follows, cX8_follows, 6, (some .int), { frames := 2, cells := 0, slots := 0, locals := 43 })
theorem mX8_follows : sg_mok MX8_follows 1 := ⟨sg_in 1201 (by decide +kernel) rfl, sg_in 10 (by decide +kernel) rfl, ⟨by decide +kernel, by decide +kernel, by decide +kernel⟩, by decide +kernel⟩
theorem iX8_follows : sg_iok MX8_follows := ⟨sg_in 1200 (by decide +kernel) rfl, sg_ins (n := 16) 82 (by decide +kernel)⟩
abbrev MX8_forgets : sg_M := (yX8_forgets, cX8_forgets, 1, none, { frames := 0, cells := 0, slots := 0, locals := 0 })
theorem mX8_forgets : sg_mok MX8_forgets 0 := ⟨sg_in 1173 (by decide +kernel) rfl, sg_in 10 (by decide +kernel) rfl, ⟨by decide +kernel, by decide +kernel, by decide +kernel⟩, by decide +kernel⟩
theorem iX8_forgets : sg_iok MX8_forgets := ⟨sg_in 1172 (by decide +kernel) rfl, sg_ins (n := 16) 77 (by decide +kernel)⟩
abbrev MX8_fragment : sg_M := (yX8_fragment, cX8_fragment, 3, (some .int), { frames := 4, cells := 0, slots := 0, locals := 91 })
theorem mX8_fragment : sg_mok MX8_fragment 2 := ⟨sg_in 1222 (by decide +kernel) rfl, sg_in 10 (by decide +kernel) rfl, ⟨by decide +kernel, by decide +kernel, by decide +kernel⟩, by decide +kernel⟩
theorem iX8_fragment : sg_iok MX8_fragment := ⟨sg_in 1220 (by decide +kernel) rfl, sg_in 1221 (by decide +kernel) rfl⟩
abbrev MX8_fragments : sg_M := (yX8_fragments, cX8_fragments, 1, (some .int), { frames := 0, cells := 0, slots := 0, locals := 0 })
theorem mX8_fragments : sg_mok MX8_fragments 0 := ⟨sg_in 909 (by decide +kernel) rfl, sg_in 10 (by decide +kernel) rfl, ⟨by decide +kernel, by decide +kernel, by decide +kernel⟩, by decide +kernel⟩
theorem iX8_fragments : sg_iok MX8_fragments := ⟨sg_in 908 (by decide +kernel) rfl, sg_ins (n := 16) 30 (by decide +kernel)⟩
abbrev MX8_freeBlocks : sg_M := (yX8_freeBlocks, cX8_freeBlocks, 4, (some .int), { frames := 3, cells := 0, slots := 0, locals := 66 })
theorem mX8_freeBlocks : sg_mok MX8_freeBlocks 1 := ⟨sg_in 1157 (by decide +kernel) rfl, sg_in 10 (by decide +kernel) rfl, ⟨by decide +kernel, by decide +kernel, by decide +kernel⟩, by decide +kernel⟩
theorem iX8_freeBlocks : sg_iok MX8_freeBlocks := ⟨sg_in 1156 (by decide +kernel) rfl, sg_ins (n := 16) 73 (by decide +kernel)⟩
abbrev MX8_freeIn : sg_M := (yX8_freeIn, cX8_freeIn, 5, (some .int), { frames := 1, cells := 0, slots := 0, locals := 21 })
theorem mX8_freeIn : sg_mok MX8_freeIn 2 := ⟨sg_in 1081 (by decide +kernel) rfl, sg_in 10 (by decide +kernel) rfl, ⟨by decide +kernel, by decide +kernel, by decide +kernel⟩, by decide +kernel⟩
theorem iX8_freeIn : sg_iok MX8_freeIn := ⟨sg_in 1080 (by decide +kernel) rfl, sg_ins (n := 16) 54 (by decide +kernel)⟩
abbrev MX8_gather : sg_M := (yX8_gather, cX8_gather, 5, (some .int), { frames := 5, cells := 0, slots := 0, locals := 113 })
theorem mX8_gather : sg_mok MX8_gather 1 := ⟨sg_in 1289 (by decide +kernel) rfl, sg_in 10 (by decide +kernel) rfl, ⟨by decide +kernel, by decide +kernel, by decide +kernel⟩, by decide +kernel⟩
theorem iX8_gather : sg_iok MX8_gather := ⟨sg_in 1287 (by decide +kernel) rfl, sg_in 1288 (by decide +kernel) rfl⟩
abbrev MX8_gathers : sg_M := (yX8_gathers, cX8_gathers, 6, none, { frames := 3, cells := 0, slots := 0, locals := 66 })
theorem mX8_gathers : sg_mok MX8_gathers 3 := ⟨sg_in 1297 (by decide +kernel) rfl, sg_in 10 (by decide +kernel) rfl, ⟨by decide +kernel, by decide +kernel, by decide +kernel⟩, by decide +kernel⟩
theorem iX8_gathers : sg_iok MX8_gathers := ⟨sg_in 1296 (by decide +kernel) rfl, sg_ins (n := 16) 92 (by decide +kernel)⟩
abbrev MX8_gets : sg_M := (yX8_gets, cX8_gets, 1, (some .int), { frames := 0, cells := 0, slots := 0, locals := 0 })
theorem mX8_gets : sg_mok MX8_gets 0 := ⟨sg_in 1306 (by decide +kernel) rfl, sg_in 10 (by decide +kernel) rfl, ⟨by decide +kernel, by decide +kernel, by decide +kernel⟩, by decide +kernel⟩
theorem iX8_gets : sg_iok MX8_gets := ⟨sg_in 1305 (by decide +kernel) rfl, sg_ins (n := 16) 93 (by decide +kernel)⟩
abbrev MX8_group : sg_M := (yX8_group, cX8_group, 3, (some .int), { frames := 5, cells := 0, slots := 0, locals := 113 })
theorem mX8_group : sg_mok MX8_group 2 := ⟨sg_in 1205 (by decide +kernel) rfl, sg_in 10 (by decide +kernel) rfl, ⟨by decide +kernel, by decide +kernel, by decide +kernel⟩, by decide +kernel⟩
theorem iX8_group : sg_iok MX8_group := ⟨sg_in 1203 (by decide +kernel) rfl, sg_in 1204 (by decide +kernel) rfl⟩
abbrev MX8_groupFor : sg_M := (yX8_groupFor, cX8_groupFor, 3, (some .int), { frames := 3, cells := 0, slots := 0, locals := 69 })
theorem mX8_groupFor : sg_mok MX8_groupFor 2 := ⟨sg_in 1050 (by decide +kernel) rfl, sg_in 10 (by decide +kernel) rfl, ⟨by decide +kernel, by decide +kernel, by decide +kernel⟩, by decide +kernel⟩
theorem iX8_groupFor : sg_iok MX8_groupFor := ⟨sg_in 1049 (by decide +kernel) rfl, sg_ins (n := 16) 47 (by decide +kernel)⟩
abbrev MX8_groupForDirectory : sg_M := (yX8_groupForDirectory, cX8_groupForDirectory, 5, (some .int), { frames := 2, cells := 0, slots := 0, locals := 45 })
theorem mX8_groupForDirectory : sg_mok MX8_groupForDirectory 0 := ⟨sg_in 1054 (by decide +kernel) rfl, sg_in 10 (by decide +kernel) rfl, ⟨by decide +kernel, by decide +kernel, by decide +kernel⟩, by decide +kernel⟩
theorem iX8_groupForDirectory : sg_iok MX8_groupForDirectory := ⟨sg_in 1053 (by decide +kernel) rfl, sg_ins (n := 16) 48 (by decide +kernel)⟩
abbrev MX8_groupForFile : sg_M := (yX8_groupForFile, cX8_groupForFile, 4, (some .int), { frames := 2, cells := 0, slots := 0, locals := 45 })
theorem mX8_groupForFile : sg_mok MX8_groupForFile 1 := ⟨sg_in 1069 (by decide +kernel) rfl, sg_in 10 (by decide +kernel) rfl, ⟨by decide +kernel, by decide +kernel, by decide +kernel⟩, by decide +kernel⟩
theorem iX8_groupForFile : sg_iok MX8_groupForFile := ⟨sg_in 1068 (by decide +kernel) rfl, sg_ins (n := 16) 51 (by decide +kernel)⟩
abbrev MX8_groupOfBlock : sg_M := (yX8_groupOfBlock, cX8_groupOfBlock, 5, (some .int), { frames := 5, cells := 0, slots := 0, locals := 111 })
theorem mX8_groupOfBlock : sg_mok MX8_groupOfBlock 2 := ⟨sg_in 1153 (by decide +kernel) rfl, sg_in 10 (by decide +kernel) rfl, ⟨by decide +kernel, by decide +kernel, by decide +kernel⟩, by decide +kernel⟩
theorem iX8_groupOfBlock : sg_iok MX8_groupOfBlock := ⟨sg_in 1152 (by decide +kernel) rfl, sg_ins (n := 16) 72 (by decide +kernel)⟩
abbrev MX8_grow : sg_M := (yX8_grow, cX8_grow, 3, (some .int), { frames := 10, cells := 0, slots := 0, locals := 236 })
theorem mX8_grow : sg_mok MX8_grow 2 := ⟨sg_in 1256 (by decide +kernel) rfl, sg_in 10 (by decide +kernel) rfl, ⟨by decide +kernel, by decide +kernel, by decide +kernel⟩, by decide +kernel⟩
theorem iX8_grow : sg_iok MX8_grow := ⟨sg_in 1254 (by decide +kernel) rfl, sg_in 1255 (by decide +kernel) rfl⟩
abbrev MX8_grows : sg_M := (yX8_grows, cX8_grows, 4, (some .int), { frames := 9, cells := 0, slots := 0, locals := 213 })
theorem mX8_grows : sg_mok MX8_grows 2 := ⟨sg_in 1117 (by decide +kernel) rfl, sg_in 10 (by decide +kernel) rfl, ⟨by decide +kernel, by decide +kernel, by decide +kernel⟩, by decide +kernel⟩
theorem iX8_grows : sg_iok MX8_grows := ⟨sg_in 1116 (by decide +kernel) rfl, sg_ins (n := 16) 63 (by decide +kernel)⟩
abbrev MX8_hasOthers : sg_M := (yX8_hasOthers, cX8_hasOthers, 4, (some .boolean), { frames := 3, cells := 0, slots := 0, locals := 67 })
theorem mX8_hasOthers : sg_mok MX8_hasOthers 1 := ⟨sg_in 1273 (by decide +kernel) rfl, sg_in 10 (by decide +kernel) rfl, ⟨by decide +kernel, by decide +kernel, by decide +kernel⟩, by decide +kernel⟩
theorem iX8_hasOthers : sg_iok MX8_hasOthers := ⟨sg_in 1272 (by decide +kernel) rfl, sg_ins (n := 16) 88 (by decide +kernel)⟩
abbrev MX8_in : sg_M := (yX8_in, cX8_in, 6, (some .boolean), { frames := 0, cells := 0, slots := 0, locals := 0 })
theorem mX8_in : sg_mok MX8_in 3 := ⟨sg_in 967 (by decide +kernel) rfl, sg_in 10 (by decide +kernel) rfl, ⟨by decide +kernel, by decide +kernel, by decide +kernel⟩, by decide +kernel⟩
theorem tX8_in : Cond.static yX8_in ∈ sg_ws := sg_in 966 (by decide +kernel) rfl
abbrev MX8_init : sg_M := (yX8_init, cX8_init, 1, none, { frames := 2, cells := 7, slots := 2722, locals := 41 })
theorem mX8_init : sg_mok MX8_init 0 := ⟨sg_in 900 (by decide +kernel) rfl, sg_in 10 (by decide +kernel) rfl, ⟨by decide +kernel, by decide +kernel, by decide +kernel⟩, by decide +kernel⟩
theorem nX8_init : Cond.instanceMethod yX8_init ∈ sg_ws := sg_in 899 (by decide +kernel) rfl
abbrev MX8_inode : sg_M := (yX8_inode, cX8_inode, 3, (some .int), { frames := 3, cells := 0, slots := 0, locals := 68 })
theorem mX8_inode : sg_mok MX8_inode 2 := ⟨sg_in 1213 (by decide +kernel) rfl, sg_in 10 (by decide +kernel) rfl, ⟨by decide +kernel, by decide +kernel, by decide +kernel⟩, by decide +kernel⟩
theorem iX8_inode : sg_iok MX8_inode := ⟨sg_in 1211 (by decide +kernel) rfl, sg_in 1212 (by decide +kernel) rfl⟩
abbrev MX8_inodeOf : sg_M := (yX8_inodeOf, cX8_inodeOf, 4, (some .int), { frames := 3, cells := 0, slots := 0, locals := 67 })
theorem mX8_inodeOf : sg_mok MX8_inodeOf 2 := ⟨sg_in 1022 (by decide +kernel) rfl, sg_in 10 (by decide +kernel) rfl, ⟨by decide +kernel, by decide +kernel, by decide +kernel⟩, by decide +kernel⟩
theorem iX8_inodeOf : sg_iok MX8_inodeOf := ⟨sg_in 1021 (by decide +kernel) rfl, sg_ins (n := 16) 40 (by decide +kernel)⟩
abbrev MX8_inodes : sg_M := (yX8_inodes, cX8_inodes, 1, (some .int), { frames := 0, cells := 0, slots := 0, locals := 0 })
theorem mX8_inodes : sg_mok MX8_inodes 0 := ⟨sg_in 1026 (by decide +kernel) rfl, sg_in 10 (by decide +kernel) rfl, ⟨by decide +kernel, by decide +kernel, by decide +kernel⟩, by decide +kernel⟩
theorem iX8_inodes : sg_iok MX8_inodes := ⟨sg_in 1025 (by decide +kernel) rfl, sg_ins (n := 16) 41 (by decide +kernel)⟩
abbrev MX8_inodesThere : sg_M := (yX8_inodesThere, cX8_inodesThere, 3, (some .int), { frames := 3, cells := 0, slots := 0, locals := 67 })
theorem mX8_inodesThere : sg_mok MX8_inodesThere 0 := ⟨sg_in 1177 (by decide +kernel) rfl, sg_in 10 (by decide +kernel) rfl, ⟨by decide +kernel, by decide +kernel, by decide +kernel⟩, by decide +kernel⟩
theorem iX8_inodesThere : sg_iok MX8_inodesThere := ⟨sg_in 1176 (by decide +kernel) rfl, sg_ins (n := 16) 78 (by decide +kernel)⟩
abbrev MX8_is : sg_M := (yX8_is, cX8_is, 6, (some .boolean), { frames := 1, cells := 0, slots := 0, locals := 21 })
theorem mX8_is : sg_mok MX8_is 5 := ⟨sg_in 1006 (by decide +kernel) rfl, sg_in 10 (by decide +kernel) rfl, ⟨by decide +kernel, by decide +kernel, by decide +kernel⟩, by decide +kernel⟩
theorem iX8_is : sg_iok MX8_is := ⟨sg_in 1005 (by decide +kernel) rfl, sg_ins (n := 16) 36 (by decide +kernel)⟩
abbrev MX8_isDirectory : sg_M := (yX8_isDirectory, cX8_isDirectory, 2, (some .boolean), { frames := 2, cells := 0, slots := 0, locals := 46 })
theorem mX8_isDirectory : sg_mok MX8_isDirectory 1 := ⟨sg_in 1234 (by decide +kernel) rfl, sg_in 10 (by decide +kernel) rfl, ⟨by decide +kernel, by decide +kernel, by decide +kernel⟩, by decide +kernel⟩
theorem iX8_isDirectory : sg_iok MX8_isDirectory := ⟨sg_in 1233 (by decide +kernel) rfl, sg_ins (n := 16) 85 (by decide +kernel)⟩
abbrev MX8_isFile : sg_M := (yX8_isFile, cX8_isFile, 2, (some .boolean), { frames := 2, cells := 0, slots := 0, locals := 46 })
theorem mX8_isFile : sg_mok MX8_isFile 1 := ⟨sg_in 1260 (by decide +kernel) rfl, sg_in 10 (by decide +kernel) rfl, ⟨by decide +kernel, by decide +kernel, by decide +kernel⟩, by decide +kernel⟩
theorem iX8_isFile : sg_iok MX8_isFile := ⟨sg_in 1259 (by decide +kernel) rfl, sg_ins (n := 16) 87 (by decide +kernel)⟩
abbrev MX8_isFree : sg_M := (yX8_isFree, cX8_isFree, 2, (some .boolean), { frames := 0, cells := 0, slots := 0, locals := 0 })
theorem mX8_isFree : sg_mok MX8_isFree 1 := ⟨sg_in 1085 (by decide +kernel) rfl, sg_in 10 (by decide +kernel) rfl, ⟨by decide +kernel, by decide +kernel, by decide +kernel⟩, by decide +kernel⟩
theorem iX8_isFree : sg_iok MX8_isFree := ⟨sg_in 1084 (by decide +kernel) rfl, sg_ins (n := 16) 55 (by decide +kernel)⟩
abbrev MX8_isFreeBlock : sg_M := (yX8_isFreeBlock, cX8_isFreeBlock, 2, (some .boolean), { frames := 2, cells := 0, slots := 0, locals := 45 })
theorem mX8_isFreeBlock : sg_mok MX8_isFreeBlock 1 := ⟨sg_in 1101 (by decide +kernel) rfl, sg_in 10 (by decide +kernel) rfl, ⟨by decide +kernel, by decide +kernel, by decide +kernel⟩, by decide +kernel⟩
theorem iX8_isFreeBlock : sg_iok MX8_isFreeBlock := ⟨sg_in 1100 (by decide +kernel) rfl, sg_ins (n := 16) 59 (by decide +kernel)⟩
abbrev MX8_isInode : sg_M := (yX8_isInode, cX8_isInode, 2, (some .boolean), { frames := 1, cells := 0, slots := 0, locals := 25 })
theorem mX8_isInode : sg_mok MX8_isInode 1 := ⟨sg_in 1034 (by decide +kernel) rfl, sg_in 10 (by decide +kernel) rfl, ⟨by decide +kernel, by decide +kernel, by decide +kernel⟩, by decide +kernel⟩
theorem iX8_isInode : sg_iok MX8_isInode := ⟨sg_in 1033 (by decide +kernel) rfl, sg_ins (n := 16) 43 (by decide +kernel)⟩
abbrev MX8_isRowFree : sg_M := (yX8_isRowFree, cX8_isRowFree, 7, (some .boolean), { frames := 3, cells := 0, slots := 0, locals := 66 })
theorem mX8_isRowFree : sg_mok MX8_isRowFree 3 := ⟨sg_in 1293 (by decide +kernel) rfl, sg_in 10 (by decide +kernel) rfl, ⟨by decide +kernel, by decide +kernel, by decide +kernel⟩, by decide +kernel⟩
theorem iX8_isRowFree : sg_iok MX8_isRowFree := ⟨sg_in 1292 (by decide +kernel) rfl, sg_ins (n := 16) 91 (by decide +kernel)⟩
abbrev MX8_isSpoilt : sg_M := (yX8_isSpoilt, cX8_isSpoilt, 3, (some .boolean), { frames := 4, cells := 0, slots := 0, locals := 91 })
theorem mX8_isSpoilt : sg_mok MX8_isSpoilt 0 := ⟨sg_in 1252 (by decide +kernel) rfl, sg_in 10 (by decide +kernel) rfl, ⟨by decide +kernel, by decide +kernel, by decide +kernel⟩, by decide +kernel⟩
theorem iX8_isSpoilt : sg_iok MX8_isSpoilt := ⟨sg_in 1251 (by decide +kernel) rfl, sg_ins (n := 16) 86 (by decide +kernel)⟩
abbrev MX8_isThere : sg_M := (yX8_isThere, cX8_isThere, 2, (some .boolean), { frames := 2, cells := 0, slots := 0, locals := 46 })
theorem mX8_isThere : sg_mok MX8_isThere 1 := ⟨sg_in 1030 (by decide +kernel) rfl, sg_in 10 (by decide +kernel) rfl, ⟨by decide +kernel, by decide +kernel, by decide +kernel⟩, by decide +kernel⟩
theorem iX8_isThere : sg_iok MX8_isThere := ⟨sg_in 1029 (by decide +kernel) rfl, sg_ins (n := 16) 42 (by decide +kernel)⟩
abbrev MX8_isWithin : sg_M := (yX8_isWithin, cX8_isWithin, 4, (some .boolean), { frames := 1, cells := 0, slots := 0, locals := 22 })
theorem mX8_isWithin : sg_mok MX8_isWithin 2 := ⟨sg_in 1281 (by decide +kernel) rfl, sg_in 10 (by decide +kernel) rfl, ⟨by decide +kernel, by decide +kernel, by decide +kernel⟩, by decide +kernel⟩
theorem iX8_isWithin : sg_iok MX8_isWithin := ⟨sg_in 1280 (by decide +kernel) rfl, sg_ins (n := 16) 89 (by decide +kernel)⟩
abbrev MX8_keep : sg_M := (yX8_keep, cX8_keep, 4, (some .int), { frames := 1, cells := 0, slots := 0, locals := 25 })
theorem mX8_keep : sg_mok MX8_keep 1 := ⟨sg_in 1330 (by decide +kernel) rfl, sg_in 10 (by decide +kernel) rfl, ⟨by decide +kernel, by decide +kernel, by decide +kernel⟩, by decide +kernel⟩
theorem iX8_keep : sg_iok MX8_keep := ⟨sg_in 1328 (by decide +kernel) rfl, sg_in 1329 (by decide +kernel) rfl⟩
abbrev MX8_lets : sg_M := (yX8_lets, cX8_lets, 3, none, { frames := 1, cells := 0, slots := 0, locals := 20 })
theorem mX8_lets : sg_mok MX8_lets 2 := ⟨sg_in 1113 (by decide +kernel) rfl, sg_in 10 (by decide +kernel) rfl, ⟨by decide +kernel, by decide +kernel, by decide +kernel⟩, by decide +kernel⟩
theorem iX8_lets : sg_iok MX8_lets := ⟨sg_in 1112 (by decide +kernel) rfl, sg_ins (n := 16) 62 (by decide +kernel)⟩
abbrev MX8_letsAll : sg_M := (yX8_letsAll, cX8_letsAll, 5, none, { frames := 2, cells := 0, slots := 0, locals := 42 })
theorem mX8_letsAll : sg_mok MX8_letsAll 3 := ⟨sg_in 1137 (by decide +kernel) rfl, sg_in 10 (by decide +kernel) rfl, ⟨by decide +kernel, by decide +kernel, by decide +kernel⟩, by decide +kernel⟩
theorem iX8_letsAll : sg_iok MX8_letsAll := ⟨sg_in 1136 (by decide +kernel) rfl, sg_ins (n := 16) 68 (by decide +kernel)⟩
abbrev MX8_lineNow : sg_M := (yX8_lineNow, cX8_lineNow, 1, (some .int), { frames := 2, cells := 0, slots := 0, locals := 46 })
theorem mX8_lineNow : sg_mok MX8_lineNow 0 := ⟨sg_in 1002 (by decide +kernel) rfl, sg_in 10 (by decide +kernel) rfl, ⟨by decide +kernel, by decide +kernel, by decide +kernel⟩, by decide +kernel⟩
theorem iX8_lineNow : sg_iok MX8_lineNow := ⟨sg_in 1001 (by decide +kernel) rfl, sg_ins (n := 16) 35 (by decide +kernel)⟩
abbrev MX8_make : sg_M := (yX8_make, cX8_make, 4, (some .int), { frames := 7, cells := 0, slots := 0, locals := 164 })
theorem mX8_make : sg_mok MX8_make 3 := ⟨sg_in 1248 (by decide +kernel) rfl, sg_in 10 (by decide +kernel) rfl, ⟨by decide +kernel, by decide +kernel, by decide +kernel⟩, by decide +kernel⟩
theorem iX8_make : sg_iok MX8_make := ⟨sg_in 1246 (by decide +kernel) rfl, sg_in 1247 (by decide +kernel) rfl⟩
abbrev MX8_makes : sg_M := (yX8_makes, cX8_makes, 7, (some .int), { frames := 6, cells := 0, slots := 0, locals := 138 })
theorem mX8_makes : sg_mok MX8_makes 3 := ⟨sg_in 1046 (by decide +kernel) rfl, sg_in 10 (by decide +kernel) rfl, ⟨by decide +kernel, by decide +kernel, by decide +kernel⟩, by decide +kernel⟩
theorem iX8_makes : sg_iok MX8_makes := ⟨sg_in 1045 (by decide +kernel) rfl, sg_ins (n := 16) 46 (by decide +kernel)⟩
abbrev MX8_mend : sg_M := (yX8_mend, cX8_mend, 4, (some .int), { frames := 4, cells := 0, slots := 0, locals := 91 })
theorem mX8_mend : sg_mok MX8_mend 0 := ⟨sg_in 1326 (by decide +kernel) rfl, sg_in 10 (by decide +kernel) rfl, ⟨by decide +kernel, by decide +kernel, by decide +kernel⟩, by decide +kernel⟩
theorem iX8_mend : sg_iok MX8_mend := ⟨sg_in 1324 (by decide +kernel) rfl, sg_in 1325 (by decide +kernel) rfl⟩
abbrev MX8_move : sg_M := (yX8_move, cX8_move, 5, (some .int), { frames := 5, cells := 0, slots := 0, locals := 113 })
theorem mX8_move : sg_mok MX8_move 3 := ⟨sg_in 1277 (by decide +kernel) rfl, sg_in 10 (by decide +kernel) rfl, ⟨by decide +kernel, by decide +kernel, by decide +kernel⟩, by decide +kernel⟩
theorem iX8_move : sg_iok MX8_move := ⟨sg_in 1275 (by decide +kernel) rfl, sg_in 1276 (by decide +kernel) rfl⟩
abbrev MX8_nothings : sg_M := (yX8_nothings, cX8_nothings, 4, (some .int), { frames := 1, cells := 0, slots := 0, locals := 22 })
theorem mX8_nothings : sg_mok MX8_nothings 1 := ⟨sg_in 1058 (by decide +kernel) rfl, sg_in 10 (by decide +kernel) rfl, ⟨by decide +kernel, by decide +kernel, by decide +kernel⟩, by decide +kernel⟩
theorem iX8_nothings : sg_iok MX8_nothings := ⟨sg_in 1057 (by decide +kernel) rfl, sg_ins (n := 16) 49 (by decide +kernel)⟩
abbrev MX8_of : sg_M := (yX8_of, cX8_of, 3, (some .int), { frames := 0, cells := 0, slots := 0, locals := 0 })
theorem mX8_of : sg_mok MX8_of 2 := ⟨sg_in 1038 (by decide +kernel) rfl, sg_in 10 (by decide +kernel) rfl, ⟨by decide +kernel, by decide +kernel, by decide +kernel⟩, by decide +kernel⟩
theorem iX8_of : sg_iok MX8_of := ⟨sg_in 1037 (by decide +kernel) rfl, sg_ins (n := 16) 44 (by decide +kernel)⟩
abbrev MX8_ofKind : sg_M := (yX8_ofKind, cX8_ofKind, 4, (some .int), { frames := 1, cells := 0, slots := 0, locals := 22 })
theorem mX8_ofKind : sg_mok MX8_ofKind 1 := ⟨sg_in 1189 (by decide +kernel) rfl, sg_in 10 (by decide +kernel) rfl, ⟨by decide +kernel, by decide +kernel, by decide +kernel⟩, by decide +kernel⟩
theorem iX8_ofKind : sg_iok MX8_ofKind := ⟨sg_in 1188 (by decide +kernel) rfl, sg_ins (n := 16) 79 (by decide +kernel)⟩
abbrev MX8_owner : sg_M := (yX8_owner, cX8_owner, 5, (some .int), { frames := 3, cells := 0, slots := 0, locals := 67 })
theorem mX8_owner : sg_mok MX8_owner 1 := ⟨sg_in 1226 (by decide +kernel) rfl, sg_in 10 (by decide +kernel) rfl, ⟨by decide +kernel, by decide +kernel, by decide +kernel⟩, by decide +kernel⟩
theorem iX8_owner : sg_iok MX8_owner := ⟨sg_in 1225 (by decide +kernel) rfl, sg_ins (n := 16) 84 (by decide +kernel)⟩
abbrev MX8_pairs : sg_M := (yX8_pairs, cX8_pairs, 4, (some .int), { frames := 2, cells := 0, slots := 0, locals := 43 })
theorem mX8_pairs : sg_mok MX8_pairs 1 := ⟨sg_in 1197 (by decide +kernel) rfl, sg_in 10 (by decide +kernel) rfl, ⟨by decide +kernel, by decide +kernel, by decide +kernel⟩, by decide +kernel⟩
theorem iX8_pairs : sg_iok MX8_pairs := ⟨sg_in 1196 (by decide +kernel) rfl, sg_ins (n := 16) 81 (by decide +kernel)⟩
abbrev MX8_placeOfBlock : sg_M := (yX8_placeOfBlock, cX8_placeOfBlock, 3, (some .int), { frames := 1, cells := 0, slots := 0, locals := 22 })
theorem mX8_placeOfBlock : sg_mok MX8_placeOfBlock 2 := ⟨sg_in 1165 (by decide +kernel) rfl, sg_in 10 (by decide +kernel) rfl, ⟨by decide +kernel, by decide +kernel, by decide +kernel⟩, by decide +kernel⟩
theorem iX8_placeOfBlock : sg_iok MX8_placeOfBlock := ⟨sg_in 1164 (by decide +kernel) rfl, sg_ins (n := 16) 75 (by decide +kernel)⟩
abbrev MX8_readLine : sg_M := (yX8_readLine, cX8_readLine, 6, none, { frames := 11, cells := 0, slots := 0, locals := 261 })
theorem mX8_readLine : sg_mok MX8_readLine 0 := ⟨sg_in 1018 (by decide +kernel) rfl, sg_in 10 (by decide +kernel) rfl, ⟨by decide +kernel, by decide +kernel, by decide +kernel⟩, by decide +kernel⟩
theorem iX8_readLine : sg_iok MX8_readLine := ⟨sg_in 1017 (by decide +kernel) rfl, sg_ins (n := 16) 39 (by decide +kernel)⟩
abbrev MX8_readNumber : sg_M := (yX8_readNumber, cX8_readNumber, 4, (some .int), { frames := 2, cells := 0, slots := 0, locals := 46 })
theorem mX8_readNumber : sg_mok MX8_readNumber 2 := ⟨sg_in 1010 (by decide +kernel) rfl, sg_in 10 (by decide +kernel) rfl, ⟨by decide +kernel, by decide +kernel, by decide +kernel⟩, by decide +kernel⟩
theorem iX8_readNumber : sg_iok MX8_readNumber := ⟨sg_in 1009 (by decide +kernel) rfl, sg_ins (n := 16) 37 (by decide +kernel)⟩
abbrev MX8_readVolume : sg_M := (yX8_readVolume, cX8_readVolume, 7, none, { frames := 3, cells := 0, slots := 0, locals := 69 })
theorem mX8_readVolume : sg_mok MX8_readVolume 0 := ⟨sg_in 998 (by decide +kernel) rfl, sg_in 10 (by decide +kernel) rfl, ⟨by decide +kernel, by decide +kernel, by decide +kernel⟩, by decide +kernel⟩
theorem iX8_readVolume : sg_iok MX8_readVolume := ⟨sg_in 997 (by decide +kernel) rfl, sg_ins (n := 16) 34 (by decide +kernel)⟩
abbrev MX8_reads : sg_M := (yX8_reads, cX8_reads, 2, none, { frames := 1, cells := 0, slots := 0, locals := 25 })
theorem mX8_reads : sg_mok MX8_reads 0 := ⟨sg_in 982 (by decide +kernel) rfl, sg_in 10 (by decide +kernel) rfl, ⟨by decide +kernel, by decide +kernel, by decide +kernel⟩, by decide +kernel⟩
theorem iX8_reads : sg_iok MX8_reads := ⟨sg_in 981 (by decide +kernel) rfl, sg_ins (n := 16) 31 (by decide +kernel)⟩
abbrev MX8_remove : sg_M := (yX8_remove, cX8_remove, 3, (some .int), { frames := 5, cells := 0, slots := 0, locals := 113 })
theorem mX8_remove : sg_mok MX8_remove 1 := ⟨sg_in 1269 (by decide +kernel) rfl, sg_in 10 (by decide +kernel) rfl, ⟨by decide +kernel, by decide +kernel, by decide +kernel⟩, by decide +kernel⟩
theorem iX8_remove : sg_iok MX8_remove := ⟨sg_in 1267 (by decide +kernel) rfl, sg_in 1268 (by decide +kernel) rfl⟩
abbrev MX8_requires : sg_M := (yX8_requires, cX8_requires, 3, none, { frames := 0, cells := 0, slots := 0, locals := 0 })
theorem mX8_requires : sg_mok MX8_requires 2 := ⟨sg_in 994 (by decide +kernel) rfl, sg_in 10 (by decide +kernel) rfl, ⟨by decide +kernel, by decide +kernel, by decide +kernel⟩, by decide +kernel⟩
theorem iX8_requires : sg_iok MX8_requires := ⟨sg_in 993 (by decide +kernel) rfl, sg_ins (n := 16) 33 (by decide +kernel)⟩
abbrev MX8_requiresStop : sg_M := (yX8_requiresStop, cX8_requiresStop, 1, none, { frames := 1, cells := 0, slots := 0, locals := 22 })
theorem mX8_requiresStop : sg_mok MX8_requiresStop 0 := ⟨sg_in 1014 (by decide +kernel) rfl, sg_in 10 (by decide +kernel) rfl, ⟨by decide +kernel, by decide +kernel, by decide +kernel⟩, by decide +kernel⟩
theorem iX8_requiresStop : sg_iok MX8_requiresStop := ⟨sg_in 1013 (by decide +kernel) rfl, sg_ins (n := 16) 38 (by decide +kernel)⟩
abbrev MX8_room : sg_M := (yX8_room, cX8_room, 1, (some .int), { frames := 2, cells := 0, slots := 0, locals := 45 })
theorem mX8_room : sg_mok MX8_room 0 := ⟨sg_in 1077 (by decide +kernel) rfl, sg_in 10 (by decide +kernel) rfl, ⟨by decide +kernel, by decide +kernel, by decide +kernel⟩, by decide +kernel⟩
theorem iX8_room : sg_iok MX8_room := ⟨sg_in 1076 (by decide +kernel) rfl, sg_ins (n := 16) 53 (by decide +kernel)⟩
abbrev MX8_rule : sg_M := (yX8_rule, cX8_rule, 2, (some .int), { frames := 5, cells := 0, slots := 0, locals := 111 })
theorem mX8_rule : sg_mok MX8_rule 1 := ⟨sg_in 1185 (by decide +kernel) rfl, sg_in 10 (by decide +kernel) rfl, ⟨by decide +kernel, by decide +kernel, by decide +kernel⟩, by decide +kernel⟩
theorem iX8_rule : sg_iok MX8_rule := ⟨sg_in 1183 (by decide +kernel) rfl, sg_in 1184 (by decide +kernel) rfl⟩
abbrev MX8_runAt : sg_M := (yX8_runAt, cX8_runAt, 4, (some .int), { frames := 3, cells := 0, slots := 0, locals := 66 })
theorem mX8_runAt : sg_mok MX8_runAt 1 := ⟨sg_in 1097 (by decide +kernel) rfl, sg_in 10 (by decide +kernel) rfl, ⟨by decide +kernel, by decide +kernel, by decide +kernel⟩, by decide +kernel⟩
theorem iX8_runAt : sg_iok MX8_runAt := ⟨sg_in 1096 (by decide +kernel) rfl, sg_ins (n := 16) 58 (by decide +kernel)⟩
abbrev MX8_runIn : sg_M := (yX8_runIn, cX8_runIn, 6, (some .int), { frames := 4, cells := 0, slots := 0, locals := 89 })
theorem mX8_runIn : sg_mok MX8_runIn 2 := ⟨sg_in 1093 (by decide +kernel) rfl, sg_in 10 (by decide +kernel) rfl, ⟨by decide +kernel, by decide +kernel, by decide +kernel⟩, by decide +kernel⟩
theorem iX8_runIn : sg_iok MX8_runIn := ⟨sg_in 1092 (by decide +kernel) rfl, sg_ins (n := 16) 57 (by decide +kernel)⟩
abbrev MX8_runNear : sg_M := (yX8_runNear, cX8_runNear, 5, (some .int), { frames := 5, cells := 0, slots := 0, locals := 114 })
theorem mX8_runNear : sg_mok MX8_runNear 2 := ⟨sg_in 1089 (by decide +kernel) rfl, sg_in 10 (by decide +kernel) rfl, ⟨by decide +kernel, by decide +kernel, by decide +kernel⟩, by decide +kernel⟩
theorem iX8_runNear : sg_iok MX8_runNear := ⟨sg_in 1088 (by decide +kernel) rfl, sg_ins (n := 16) 56 (by decide +kernel)⟩
abbrev MX8_runs : sg_M := (yX8_runs, cX8_runs, 5, (some .int), { frames := 4, cells := 0, slots := 0, locals := 89 })
theorem mX8_runs : sg_mok MX8_runs 2 := ⟨sg_in 1209 (by decide +kernel) rfl, sg_in 10 (by decide +kernel) rfl, ⟨by decide +kernel, by decide +kernel, by decide +kernel⟩, by decide +kernel⟩
theorem iX8_runs : sg_iok MX8_runs := ⟨sg_in 1208 (by decide +kernel) rfl, sg_ins (n := 16) 83 (by decide +kernel)⟩
abbrev MX8_sets : sg_M := (yX8_sets, cX8_sets, 4, none, { frames := 0, cells := 0, slots := 0, locals := 0 })
theorem mX8_sets : sg_mok MX8_sets 3 := ⟨sg_in 1109 (by decide +kernel) rfl, sg_in 10 (by decide +kernel) rfl, ⟨by decide +kernel, by decide +kernel, by decide +kernel⟩, by decide +kernel⟩
theorem iX8_sets : sg_iok MX8_sets := ⟨sg_in 1108 (by decide +kernel) rfl, sg_ins (n := 16) 61 (by decide +kernel)⟩
abbrev MX8_shrink : sg_M := (yX8_shrink, cX8_shrink, 9, (some .int), { frames := 5, cells := 0, slots := 0, locals := 113 })
theorem mX8_shrink : sg_mok MX8_shrink 2 := ⟨sg_in 1265 (by decide +kernel) rfl, sg_in 10 (by decide +kernel) rfl, ⟨by decide +kernel, by decide +kernel, by decide +kernel⟩, by decide +kernel⟩
theorem iX8_shrink : sg_iok MX8_shrink := ⟨sg_in 1263 (by decide +kernel) rfl, sg_in 1264 (by decide +kernel) rfl⟩
abbrev MX8_summed : sg_M := (yX8_summed, cX8_summed, 4, (some .int), { frames := 3, cells := 0, slots := 0, locals := 68 })
theorem mX8_summed : sg_mok MX8_summed 1 := ⟨sg_in 1193 (by decide +kernel) rfl, sg_in 10 (by decide +kernel) rfl, ⟨by decide +kernel, by decide +kernel, by decide +kernel⟩, by decide +kernel⟩
theorem iX8_summed : sg_iok MX8_summed := ⟨sg_in 1192 (by decide +kernel) rfl, sg_ins (n := 16) 80 (by decide +kernel)⟩
abbrev MX8_tail : sg_M := (yX8_tail, cX8_tail, 2, (some .int), { frames := 1, cells := 0, slots := 0, locals := 22 })
theorem mX8_tail : sg_mok MX8_tail 1 := ⟨sg_in 1129 (by decide +kernel) rfl, sg_in 10 (by decide +kernel) rfl, ⟨by decide +kernel, by decide +kernel, by decide +kernel⟩, by decide +kernel⟩
theorem iX8_tail : sg_iok MX8_tail := ⟨sg_in 1128 (by decide +kernel) rfl, sg_ins (n := 16) 66 (by decide +kernel)⟩
abbrev MX8_takesBlock : sg_M := (yX8_takesBlock, cX8_takesBlock, 4, (some .boolean), { frames := 6, cells := 0, slots := 0, locals := 135 })
theorem mX8_takesBlock : sg_mok MX8_takesBlock 2 := ⟨sg_in 1149 (by decide +kernel) rfl, sg_in 10 (by decide +kernel) rfl, ⟨by decide +kernel, by decide +kernel, by decide +kernel⟩, by decide +kernel⟩
theorem iX8_takesBlock : sg_iok MX8_takesBlock := ⟨sg_in 1148 (by decide +kernel) rfl, sg_ins (n := 16) 71 (by decide +kernel)⟩
abbrev MX8_takesTail : sg_M := (yX8_takesTail, cX8_takesTail, 5, (some .boolean), { frames := 6, cells := 0, slots := 0, locals := 138 })
theorem mX8_takesTail : sg_mok MX8_takesTail 3 := ⟨sg_in 1141 (by decide +kernel) rfl, sg_in 10 (by decide +kernel) rfl, ⟨by decide +kernel, by decide +kernel, by decide +kernel⟩, by decide +kernel⟩
theorem iX8_takesTail : sg_iok MX8_takesTail := ⟨sg_in 1140 (by decide +kernel) rfl, sg_ins (n := 16) 69 (by decide +kernel)⟩
abbrev MX8_text : sg_M := (yX8_text, cX8_text, 1, (some .int), { frames := 12, cells := 0, slots := 0, locals := 286 })
theorem mX8_text : sg_mok MX8_text 0 := ⟨sg_in 975 (by decide +kernel) rfl, sg_in 10 (by decide +kernel) rfl, ⟨by decide +kernel, by decide +kernel, by decide +kernel⟩, by decide +kernel⟩
theorem iX8_text : sg_iok MX8_text := ⟨sg_in 973 (by decide +kernel) rfl, sg_in 974 (by decide +kernel) rfl⟩
abbrev MX8_where : sg_M := (yX8_where, cX8_where, 3, (some .int), { frames := 4, cells := 0, slots := 0, locals := 91 })
theorem mX8_where : sg_mok MX8_where 2 := ⟨sg_in 1243 (by decide +kernel) rfl, sg_in 10 (by decide +kernel) rfl, ⟨by decide +kernel, by decide +kernel, by decide +kernel⟩, by decide +kernel⟩
theorem iX8_where : sg_iok MX8_where := ⟨sg_in 1241 (by decide +kernel) rfl, sg_in 1242 (by decide +kernel) rfl⟩
abbrev MX8_widens : sg_M := (yX8_widens, cX8_widens, 5, (some .boolean), { frames := 7, cells := 0, slots := 0, locals := 162 })
theorem mX8_widens : sg_mok MX8_widens 3 := ⟨sg_in 1133 (by decide +kernel) rfl, sg_in 10 (by decide +kernel) rfl, ⟨by decide +kernel, by decide +kernel, by decide +kernel⟩, by decide +kernel⟩
theorem iX8_widens : sg_iok MX8_widens := ⟨sg_in 1132 (by decide +kernel) rfl, sg_ins (n := 16) 67 (by decide +kernel)⟩
theorem lL_9 : sg_lok RL 9 MX7_init := Or.inl (sg_in 18 (by decide +kernel) rfl)
theorem lX7_9 : sg_lok RX7 9 MX6_init := Or.inr ⟨_, sg_inn (w := .methodLinkNest RX7 9 yX6_init "SpreadGroups") 26 rfl (by decide +kernel)⟩
theorem lX6_11 : sg_lok RX6 11 MX3_init := Or.inr ⟨_, sg_inn (w := .methodLinkNest RX6 11 yX3_init "SpreadGroups") 32 rfl (by decide +kernel)⟩
theorem fX3_9 : sg_fok RX3 9 3 0 := ⟨_, rfl, by decide, Or.inl (sg_in 36 (by decide +kernel) rfl)⟩
theorem fX1_48 : sg_fok RX1 48 3 0 := ⟨_, rfl, by decide, Or.inr ⟨_, sg_inn (w := .fieldLinkNest RX1 48 "SpreadGroups$Layout" "groups" "I" "SpreadGroups") 37 rfl (by decide +kernel)⟩⟩
theorem fX7_182 : sg_fok RX7 182 3 0 := ⟨_, rfl, by decide, Or.inr ⟨_, sg_inn (w := .fieldLinkNest RX7 182 "SpreadGroups$Layout" "groups" "I" "SpreadGroups") 38 rfl (by decide +kernel)⟩⟩
theorem fX6_127 : sg_fok RX6 127 3 0 := ⟨_, rfl, by decide, Or.inr ⟨_, sg_inn (w := .fieldLinkNest RX6 127 "SpreadGroups$Layout" "groups" "I" "SpreadGroups") 39 rfl (by decide +kernel)⟩⟩
theorem fX0_167 : sg_fok RX0 167 3 0 := ⟨_, rfl, by decide, Or.inr ⟨_, sg_inn (w := .fieldLinkNest RX0 167 "SpreadGroups$Layout" "groups" "I" "SpreadGroups") 40 rfl (by decide +kernel)⟩⟩
theorem fX3_15 : sg_fok RX3 15 3 1 := ⟨_, rfl, by decide, Or.inl (sg_in 41 (by decide +kernel) rfl)⟩
theorem fX1_39 : sg_fok RX1 39 3 1 := ⟨_, rfl, by decide, Or.inr ⟨_, sg_inn (w := .fieldLinkNest RX1 39 "SpreadGroups$Layout" "blocks" "I" "SpreadGroups") 42 rfl (by decide +kernel)⟩⟩
theorem fX6_152 : sg_fok RX6 152 3 1 := ⟨_, rfl, by decide, Or.inr ⟨_, sg_inn (w := .fieldLinkNest RX6 152 "SpreadGroups$Layout" "blocks" "I" "SpreadGroups") 43 rfl (by decide +kernel)⟩⟩
theorem fX3_18 : sg_fok RX3 18 3 2 := ⟨_, rfl, by decide, Or.inl (sg_in 44 (by decide +kernel) rfl)⟩
theorem fX2_57 : sg_fok RX2 57 3 2 := ⟨_, rfl, by decide, Or.inr ⟨_, sg_inn (w := .fieldLinkNest RX2 57 "SpreadGroups$Layout" "inodes" "I" "SpreadGroups") 45 rfl (by decide +kernel)⟩⟩
theorem fX3_21 : sg_fok RX3 21 3 3 := ⟨_, rfl, by decide, Or.inl (sg_in 46 (by decide +kernel) rfl)⟩
theorem fX0_184 : sg_fok RX0 184 3 3 := ⟨_, rfl, by decide, Or.inr ⟨_, sg_inn (w := .fieldLinkNest RX0 184 "SpreadGroups$Layout" "step" "I" "SpreadGroups") 47 rfl (by decide +kernel)⟩⟩
theorem fX1_81 : sg_fok RX1 81 3 3 := ⟨_, rfl, by decide, Or.inr ⟨_, sg_inn (w := .fieldLinkNest RX1 81 "SpreadGroups$Layout" "step" "I" "SpreadGroups") 48 rfl (by decide +kernel)⟩⟩
theorem fX3_24 : sg_fok RX3 24 3 4 := ⟨_, rfl, by decide, Or.inl (sg_in 49 (by decide +kernel) rfl)⟩
theorem fX0_82 : sg_fok RX0 82 3 4 := ⟨_, rfl, by decide, Or.inr ⟨_, sg_inn (w := .fieldLinkNest RX0 82 "SpreadGroups$Layout" "reserve" "I" "SpreadGroups") 50 rfl (by decide +kernel)⟩⟩
theorem fX3_27 : sg_fok RX3 27 3 5 := ⟨_, rfl, by decide, Or.inl (sg_in 51 (by decide +kernel) rfl)⟩
theorem lX6_20 : sg_lok RX6 20 MX1_init := Or.inl (sg_in 67 (by decide +kernel) rfl)
theorem fX1_15 : sg_fok RX1 15 1 0 := ⟨_, rfl, by decide, Or.inl (sg_in 71 (by decide +kernel) rfl)⟩
theorem fX1_9 : sg_fok RX1 9 1 1 := ⟨_, rfl, by decide, Or.inl (sg_in 72 (by decide +kernel) rfl)⟩
theorem lX6_32 : sg_lok RX6 32 MX2_init := Or.inl (sg_in 81 (by decide +kernel) rfl)
theorem fX2_30 : sg_fok RX2 30 2 0 := ⟨_, rfl, by decide, Or.inl (sg_in 85 (by decide +kernel) rfl)⟩
theorem fX2_9 : sg_fok RX2 9 2 1 := ⟨_, rfl, by decide, Or.inl (sg_in 86 (by decide +kernel) rfl)⟩
theorem fX2_15 : sg_fok RX2 15 2 2 := ⟨_, rfl, by decide, Or.inl (sg_in 87 (by decide +kernel) rfl)⟩
theorem fX2_18 : sg_fok RX2 18 2 3 := ⟨_, rfl, by decide, Or.inl (sg_in 88 (by decide +kernel) rfl)⟩
theorem fX2_21 : sg_fok RX2 21 2 4 := ⟨_, rfl, by decide, Or.inl (sg_in 89 (by decide +kernel) rfl)⟩
theorem fX2_24 : sg_fok RX2 24 2 5 := ⟨_, rfl, by decide, Or.inl (sg_in 90 (by decide +kernel) rfl)⟩
theorem fX2_27 : sg_fok RX2 27 2 6 := ⟨_, rfl, by decide, Or.inl (sg_in 91 (by decide +kernel) rfl)⟩
theorem fX0_15 : sg_fok RX0 15 6 0 := ⟨_, rfl, by decide, Or.inr ⟨_, sg_inn (w := .fieldLinkNest RX0 15 "SpreadGroups$Volume" "layout" "LSpreadGroups$Layout;" "SpreadGroups") 107 rfl (by decide +kernel)⟩⟩
theorem fX6_12 : sg_fok RX6 12 6 0 := ⟨_, rfl, by decide, Or.inl (sg_in 108 (by decide +kernel) rfl)⟩
theorem fX7_173 : sg_fok RX7 173 6 0 := ⟨_, rfl, by decide, Or.inr ⟨_, sg_inn (w := .fieldLinkNest RX7 173 "SpreadGroups$Volume" "layout" "LSpreadGroups$Layout;" "SpreadGroups") 109 rfl (by decide +kernel)⟩⟩
theorem fX0_22 : sg_fok RX0 22 6 1 := ⟨_, rfl, by decide, Or.inr ⟨_, sg_inn (w := .fieldLinkNest RX0 22 "SpreadGroups$Volume" "map" "LSpreadGroups$FreeMap;" "SpreadGroups") 110 rfl (by decide +kernel)⟩⟩
theorem fX6_23 : sg_fok RX6 23 6 1 := ⟨_, rfl, by decide, Or.inl (sg_in 111 (by decide +kernel) rfl)⟩
theorem fX7_145 : sg_fok RX7 145 6 1 := ⟨_, rfl, by decide, Or.inr ⟨_, sg_inn (w := .fieldLinkNest RX7 145 "SpreadGroups$Volume" "map" "LSpreadGroups$FreeMap;" "SpreadGroups") 112 rfl (by decide +kernel)⟩⟩
theorem fX6_27 : sg_fok RX6 27 6 2 := ⟨_, rfl, by decide, Or.inl (sg_in 113 (by decide +kernel) rfl)⟩
theorem fX0_27 : sg_fok RX0 27 6 3 := ⟨_, rfl, by decide, Or.inr ⟨_, sg_inn (w := .fieldLinkNest RX0 27 "SpreadGroups$Volume" "inodes" "LSpreadGroups$Inodes;" "SpreadGroups") 114 rfl (by decide +kernel)⟩⟩
theorem fX6_33 : sg_fok RX6 33 6 3 := ⟨_, rfl, by decide, Or.inl (sg_in 115 (by decide +kernel) rfl)⟩
theorem fX7_113 : sg_fok RX7 113 6 3 := ⟨_, rfl, by decide, Or.inr ⟨_, sg_inn (w := .fieldLinkNest RX7 113 "SpreadGroups$Volume" "inodes" "LSpreadGroups$Inodes;" "SpreadGroups") 116 rfl (by decide +kernel)⟩⟩
theorem fX6_55 : sg_fok RX6 55 6 4 := ⟨_, rfl, by decide, Or.inl (sg_in 117 (by decide +kernel) rfl)⟩
theorem fX0_118 : sg_fok RX0 118 6 4 := ⟨_, rfl, by decide, Or.inr ⟨_, sg_inn (w := .fieldLinkNest RX0 118 "SpreadGroups$Volume" "extended" "I" "SpreadGroups") 118 rfl (by decide +kernel)⟩⟩
theorem fX7_167 : sg_fok RX7 167 6 4 := ⟨_, rfl, by decide, Or.inr ⟨_, sg_inn (w := .fieldLinkNest RX7 167 "SpreadGroups$Volume" "extended" "I" "SpreadGroups") 119 rfl (by decide +kernel)⟩⟩
theorem fX6_59 : sg_fok RX6 59 6 5 := ⟨_, rfl, by decide, Or.inl (sg_in 120 (by decide +kernel) rfl)⟩
theorem fX0_124 : sg_fok RX0 124 6 5 := ⟨_, rfl, by decide, Or.inr ⟨_, sg_inn (w := .fieldLinkNest RX0 124 "SpreadGroups$Volume" "moved" "I" "SpreadGroups") 121 rfl (by decide +kernel)⟩⟩
theorem fX7_170 : sg_fok RX7 170 6 5 := ⟨_, rfl, by decide, Or.inr ⟨_, sg_inn (w := .fieldLinkNest RX7 170 "SpreadGroups$Volume" "moved" "I" "SpreadGroups") 122 rfl (by decide +kernel)⟩⟩
theorem lX7_18 : sg_lok RX7 18 MX0_init := Or.inl (sg_in 138 (by decide +kernel) rfl)
theorem lX0_34 : sg_lok RX0 34 MX1_init := Or.inl (sg_in 143 (by decide +kernel) rfl)
theorem fX0_9 : sg_fok RX0 9 0 0 := ⟨_, rfl, by decide, Or.inl (sg_in 144 (by decide +kernel) rfl)⟩
theorem fX0_21 : sg_fok RX0 21 0 1 := ⟨_, rfl, by decide, Or.inl (sg_in 145 (by decide +kernel) rfl)⟩
theorem fX0_26 : sg_fok RX0 26 0 2 := ⟨_, rfl, by decide, Or.inl (sg_in 146 (by decide +kernel) rfl)⟩
theorem fX0_31 : sg_fok RX0 31 0 3 := ⟨_, rfl, by decide, Or.inl (sg_in 147 (by decide +kernel) rfl)⟩
theorem fX0_37 : sg_fok RX0 37 0 4 := ⟨_, rfl, by decide, Or.inl (sg_in 148 (by decide +kernel) rfl)⟩
theorem lX7_27 : sg_lok RX7 27 MX5_init := Or.inr ⟨_, sg_inn (w := .methodLinkNest RX7 27 yX5_init "SpreadGroups") 162 rfl (by decide +kernel)⟩
theorem fX5_9 : sg_fok RX5 9 5 0 := ⟨_, rfl, by decide, Or.inl (sg_in 166 (by decide +kernel) rfl)⟩
theorem fX5_15 : sg_fok RX5 15 5 1 := ⟨_, rfl, by decide, Or.inl (sg_in 167 (by decide +kernel) rfl)⟩
theorem fX7_68 : sg_fok RX7 68 5 1 := ⟨_, rfl, by decide, Or.inr ⟨_, sg_inn (w := .fieldLinkNest RX7 68 "SpreadGroups$Tape" "length" "I" "SpreadGroups") 168 rfl (by decide +kernel)⟩⟩
theorem fX4_32 : sg_fok RX4 32 5 1 := ⟨_, rfl, by decide, Or.inr ⟨_, sg_inn (w := .fieldLinkNest RX4 32 "SpreadGroups$Tape" "length" "I" "SpreadGroups") 169 rfl (by decide +kernel)⟩⟩
theorem lX7_34 : sg_lok RX7 34 MX4_init := Or.inl (sg_in 177 (by decide +kernel) rfl)
theorem fX4_15 : sg_fok RX4 15 4 0 := ⟨_, rfl, by decide, Or.inl (sg_in 181 (by decide +kernel) rfl)⟩
theorem fX4_9 : sg_fok RX4 9 4 1 := ⟨_, rfl, by decide, Or.inl (sg_in 182 (by decide +kernel) rfl)⟩
theorem fX7_79 : sg_fok RX7 79 4 1 := ⟨_, rfl, by decide, Or.inr ⟨_, sg_inn (w := .fieldLinkNest RX7 79 "SpreadGroups$Reader" "numbers" "[I" "SpreadGroups") 183 rfl (by decide +kernel)⟩⟩
theorem fX7_127 : sg_fok RX7 127 4 2 := ⟨_, rfl, by decide, Or.inr ⟨_, sg_inn (w := .fieldLinkNest RX7 127 "SpreadGroups$Reader" "lineKind" "I" "SpreadGroups") 184 rfl (by decide +kernel)⟩⟩
theorem fX4_74 : sg_fok RX4 74 4 2 := ⟨_, rfl, by decide, Or.inl (sg_in 185 (by decide +kernel) rfl)⟩
theorem fX4_23 : sg_fok RX4 23 4 3 := ⟨_, rfl, by decide, Or.inl (sg_in 186 (by decide +kernel) rfl)⟩
theorem fX7_94 : sg_fok RX7 94 4 3 := ⟨_, rfl, by decide, Or.inr ⟨_, sg_inn (w := .fieldLinkNest RX7 94 "SpreadGroups$Reader" "fault" "I" "SpreadGroups") 187 rfl (by decide +kernel)⟩⟩
theorem fX4_26 : sg_fok RX4 26 4 4 := ⟨_, rfl, by decide, Or.inl (sg_in 188 (by decide +kernel) rfl)⟩
theorem fX7_100 : sg_fok RX7 100 4 4 := ⟨_, rfl, by decide, Or.inr ⟨_, sg_inn (w := .fieldLinkNest RX7 100 "SpreadGroups$Reader" "faultPlace" "I" "SpreadGroups") 189 rfl (by decide +kernel)⟩⟩
theorem fX4_19 : sg_fok RX4 19 4 5 := ⟨_, rfl, by decide, Or.inl (sg_in 190 (by decide +kernel) rfl)⟩
theorem fX4_77 : sg_fok RX4 77 4 6 := ⟨_, rfl, by decide, Or.inl (sg_in 191 (by decide +kernel) rfl)⟩
theorem fX4_67 : sg_fok RX4 67 4 7 := ⟨_, rfl, by decide, Or.inl (sg_in 192 (by decide +kernel) rfl)⟩
theorem fX4_80 : sg_fok RX4 80 4 8 := ⟨_, rfl, by decide, Or.inl (sg_in 193 (by decide +kernel) rfl)⟩
theorem lX7_60 : sg_lok RX7 60 MX6_startAnew := Or.inl (sg_in 215 (by decide +kernel) rfl)
theorem lX6_37 : sg_lok RX6 37 MX3_set := Or.inl (sg_in 219 (by decide +kernel) rfl)
theorem lX6_41 : sg_lok RX6 41 MX2_clear := Or.inl (sg_in 223 (by decide +kernel) rfl)
theorem lX2_40 : sg_lok RX2 40 MX2_become := Or.inl (sg_in 227 (by decide +kernel) rfl)
theorem lX2_44 : sg_lok RX2 44 MX2_setEntry := Or.inl (sg_in 231 (by decide +kernel) rfl)
theorem lX2_48 : sg_lok RX2 48 MX2_setSize := Or.inl (sg_in 235 (by decide +kernel) rfl)
theorem lX6_44 : sg_lok RX6 44 MX2_become := Or.inl (sg_in 239 (by decide +kernel) rfl)
theorem lX6_48 : sg_lok RX6 48 MX2_setSize := Or.inl (sg_in 240 (by decide +kernel) rfl)
theorem lX6_52 : sg_lok RX6 52 MX6_mendMap := Or.inl (sg_in 241 (by decide +kernel) rfl)
theorem lX6_100 : sg_lok RX6 100 MX6_findMapDue := Or.inl (sg_in 245 (by decide +kernel) rfl)
theorem lX6_89 : sg_lok RX6 89 MX1_freeAll := Or.inl (sg_in 249 (by decide +kernel) rfl)
theorem lX1_25 : sg_lok RX1 25 MX3_allBlocks := Or.inl (sg_in 253 (by decide +kernel) rfl)
theorem lX6_92 : sg_lok RX6 92 MX3_allInodes := Or.inl (sg_in 257 (by decide +kernel) rfl)
theorem lX6_96 : sg_lok RX6 96 MX6_putAllOf := Or.inl (sg_in 261 (by decide +kernel) rfl)
theorem lX6_71 : sg_lok RX6 71 MX2_blocksOf := Or.inl (sg_in 265 (by decide +kernel) rfl)
theorem lX6_75 : sg_lok RX6 75 MX2_blockAt := Or.inl (sg_in 269 (by decide +kernel) rfl)
theorem lX6_79 : sg_lok RX6 79 MX1_put := Or.inl (sg_in 273 (by decide +kernel) rfl)
theorem lX6_83 : sg_lok RX6 83 MX2_tailOf := Or.inl (sg_in 277 (by decide +kernel) rfl)
theorem lX6_86 : sg_lok RX6 86 MX2_tailLengthOf := Or.inl (sg_in 281 (by decide +kernel) rfl)
theorem lX6_65 : sg_lok RX6 65 MX1_copyFrom := Or.inl (sg_in 285 (by decide +kernel) rfl)
theorem fX7_10 : sg_fok RX7 10 7 0 := ⟨_, rfl, by decide, Or.inl (sg_in 292 (by decide +kernel) rfl)⟩
theorem fX7_21 : sg_fok RX7 21 7 1 := ⟨_, rfl, by decide, Or.inl (sg_in 293 (by decide +kernel) rfl)⟩
theorem fX7_28 : sg_fok RX7 28 7 2 := ⟨_, rfl, by decide, Or.inl (sg_in 294 (by decide +kernel) rfl)⟩
theorem fX7_37 : sg_fok RX7 37 7 3 := ⟨_, rfl, by decide, Or.inl (sg_in 295 (by decide +kernel) rfl)⟩
theorem fX7_41 : sg_fok RX7 41 7 4 := ⟨_, rfl, by decide, Or.inl (sg_in 296 (by decide +kernel) rfl)⟩
theorem fX7_44 : sg_fok RX7 44 7 5 := ⟨_, rfl, by decide, Or.inl (sg_in 297 (by decide +kernel) rfl)⟩
theorem fX7_47 : sg_fok RX7 47 7 6 := ⟨_, rfl, by decide, Or.inl (sg_in 298 (by decide +kernel) rfl)⟩
theorem fX7_82 : sg_fok RX7 82 7 7 := ⟨_, rfl, by decide, Or.inl (sg_in 299 (by decide +kernel) rfl)⟩
theorem fX7_97 : sg_fok RX7 97 7 8 := ⟨_, rfl, by decide, Or.inl (sg_in 300 (by decide +kernel) rfl)⟩
theorem fX7_51 : sg_fok RX7 51 7 9 := ⟨_, rfl, by decide, Or.inl (sg_in 301 (by decide +kernel) rfl)⟩
theorem fX7_54 : sg_fok RX7 54 7 10 := ⟨_, rfl, by decide, Or.inl (sg_in 302 (by decide +kernel) rfl)⟩
theorem fX7_106 : sg_fok RX7 106 7 11 := ⟨_, rfl, by decide, Or.inl (sg_in 303 (by decide +kernel) rfl)⟩
theorem fX7_110 : sg_fok RX7 110 7 12 := ⟨_, rfl, by decide, Or.inl (sg_in 304 (by decide +kernel) rfl)⟩
theorem fX7_258 : sg_fok RX7 258 7 13 := ⟨_, rfl, by decide, Or.inl (sg_in 305 (by decide +kernel) rfl)⟩
theorem lL_13 : sg_lok RL 13 MX7_feed := Or.inl (sg_in 335 (by decide +kernel) rfl)
theorem lX7_64 : sg_lok RX7 64 MX5_append := Or.inl (sg_in 339 (by decide +kernel) rfl)
theorem lL_18 : sg_lok RL 18 MX7_end := Or.inl (sg_in 343 (by decide +kernel) rfl)
theorem lL_22 : sg_lok RL 22 MX7_text := Or.inl (sg_in 347 (by decide +kernel) rfl)
theorem lX7_72 : sg_lok RX7 72 MX4_rewind := Or.inl (sg_in 351 (by decide +kernel) rfl)
theorem lX7_75 : sg_lok RX7 75 MX4_readRules := Or.inl (sg_in 355 (by decide +kernel) rfl)
theorem lX4_39 : sg_lok RX4 39 MX4_takeWord := Or.inl (sg_in 360 (by decide +kernel) rfl)
theorem lX4_57 : sg_lok RX4 57 MX4_readToken := Or.inl (sg_in 364 (by decide +kernel) rfl)
theorem lX4_29 : sg_lok RX4 29 MX4_passBlanks := Or.inl (sg_in 368 (by decide +kernel) rfl)
theorem lX4_88 : sg_lok RX4 88 MX5_byteAt := Or.inl (sg_in 372 (by decide +kernel) rfl)
theorem lX4_96 : sg_lok RX4 96 MX5_hasFigureAt := Or.inl (sg_in 376 (by decide +kernel) rfl)
theorem lX5_19 : sg_lok RX5 19 MX5_byteAt := Or.inl (sg_in 380 (by decide +kernel) rfl)
theorem lX4_100 : sg_lok RX4 100 MX4_readNumber := Or.inl (sg_in 381 (by decide +kernel) rfl)
theorem lX4_70 : sg_lok RX4 70 MX4_refuse := Or.inl (sg_in 385 (by decide +kernel) rfl)
theorem lX4_103 : sg_lok RX4 103 MX5_hasLetterAt := Or.inl (sg_in 389 (by decide +kernel) rfl)
theorem lX4_62 : sg_lok RX4 62 MX4_isWord := Or.inl (sg_in 393 (by decide +kernel) rfl)
theorem lX4_49 : sg_lok RX4 49 MX4_takeNumber := Or.inl (sg_in 449 (by decide +kernel) rfl)
theorem lX4_53 : sg_lok RX4 53 MX4_takeSign := Or.inl (sg_in 453 (by decide +kernel) rfl)
theorem lX7_85 : sg_lok RX7 85 MX4_hasMore := Or.inl (sg_in 457 (by decide +kernel) rfl)
theorem lX7_88 : sg_lok RX7 88 MX4_readLine := Or.inl (sg_in 461 (by decide +kernel) rfl)
theorem lX7_91 : sg_lok RX7 91 MX7_tellLine := Or.inl (sg_in 467 (by decide +kernel) rfl)
theorem lX7_123 : sg_lok RX7 123 MX7_toldParent := Or.inl (sg_in 471 (by decide +kernel) rfl)
theorem lX7_130 : sg_lok RX7 130 MX0_makeInode := Or.inl (sg_in 475 (by decide +kernel) rfl)
theorem lX0_40 : sg_lok RX0 40 MX2_kindOf := Or.inl (sg_in 479 (by decide +kernel) rfl)
theorem lX0_46 : sg_lok RX0 46 MX7_isName := Or.inr ⟨_, sg_inn (w := .methodLinkNest RX0 46 yX7_isName "SpreadGroups") 483 rfl (by decide +kernel)⟩
theorem lX0_50 : sg_lok RX0 50 MX6_isSpoilt := Or.inl (sg_in 486 (by decide +kernel) rfl)
theorem lX6_103 : sg_lok RX6 103 MX1_bitsOf := Or.inr ⟨_, sg_inn (w := .methodLinkNest RX6 103 yX1_bitsOf "SpreadGroups") 490 rfl (by decide +kernel)⟩
theorem lX0_54 : sg_lok RX0 54 MX2_named := Or.inl (sg_in 494 (by decide +kernel) rfl)
theorem lX2_51 : sg_lok RX2 51 MX3_allInodes := Or.inl (sg_in 498 (by decide +kernel) rfl)
theorem lX2_61 : sg_lok RX2 61 MX2_kindOf := Or.inl (sg_in 499 (by decide +kernel) rfl)
theorem lX2_71 : sg_lok RX2 71 MX2_parentOf := Or.inl (sg_in 500 (by decide +kernel) rfl)
theorem lX2_74 : sg_lok RX2 74 MX2_nameOf := Or.inl (sg_in 504 (by decide +kernel) rfl)
theorem lX0_58 : sg_lok RX0 58 MX6_groupFor := Or.inl (sg_in 508 (by decide +kernel) rfl)
theorem lX6_118 : sg_lok RX6 118 MX6_groupForDirectory := Or.inl (sg_in 512 (by decide +kernel) rfl)
theorem lX6_124 : sg_lok RX6 124 MX2_howMany := Or.inl (sg_in 516 (by decide +kernel) rfl)
theorem lX6_130 : sg_lok RX6 130 MX2_howManyIn := Or.inl (sg_in 520 (by decide +kernel) rfl)
theorem lX6_121 : sg_lok RX6 121 MX6_groupForFile := Or.inl (sg_in 524 (by decide +kernel) rfl)
theorem lX6_133 : sg_lok RX6 133 MX3_groupOfInode := Or.inl (sg_in 528 (by decide +kernel) rfl)
theorem lX6_136 : sg_lok RX6 136 MX3_behind := Or.inl (sg_in 532 (by decide +kernel) rfl)
theorem lX6_139 : sg_lok RX6 139 MX2_firstNothingIn := Or.inl (sg_in 536 (by decide +kernel) rfl)
theorem lX0_61 : sg_lok RX0 61 MX0_lacksRoomFor := Or.inl (sg_in 540 (by decide +kernel) rfl)
theorem lX0_78 : sg_lok RX0 78 MX1_freeFragments := Or.inl (sg_in 544 (by decide +kernel) rfl)
theorem lX1_51 : sg_lok RX1 51 MX1_freeFragmentsIn := Or.inl (sg_in 548 (by decide +kernel) rfl)
theorem lX1_35 : sg_lok RX1 35 MX1_bitsOf := Or.inl (sg_in 552 (by decide +kernel) rfl)
theorem lX1_43 : sg_lok RX1 43 MJ6_bitCount_0f7a4 := Or.inl (sg_in 553 (by decide +kernel) rfl)
theorem kJ6_265 : Cond.constant RJ6 265 (1431655765) ∈ sg_ws := sg_in 556 (by decide +kernel) rfl
theorem kJ6_266 : Cond.constant RJ6 266 (858993459) ∈ sg_ws := sg_in 557 (by decide +kernel) rfl
theorem kJ6_267 : Cond.constant RJ6 267 (252645135) ∈ sg_ws := sg_in 558 (by decide +kernel) rfl
theorem lX0_64 : sg_lok RX0 64 MX2_firstNothingIn := Or.inl (sg_in 559 (by decide +kernel) rfl)
theorem lX0_67 : sg_lok RX0 67 MX1_takeRun := Or.inl (sg_in 560 (by decide +kernel) rfl)
theorem lX1_61 : sg_lok RX1 61 MX3_behind := Or.inl (sg_in 564 (by decide +kernel) rfl)
theorem lX1_72 : sg_lok RX1 72 MX1_shortestRunIn := Or.inl (sg_in 565 (by decide +kernel) rfl)
theorem lX1_58 : sg_lok RX1 58 MX1_runAt := Or.inl (sg_in 569 (by decide +kernel) rfl)
theorem lX1_65 : sg_lok RX1 65 MX1_freeBlockIn := Or.inl (sg_in 573 (by decide +kernel) rfl)
theorem lX1_54 : sg_lok RX1 54 MX1_isFreeBlock := Or.inl (sg_in 577 (by decide +kernel) rfl)
theorem lX1_68 : sg_lok RX1 68 MX1_put := Or.inl (sg_in 581 (by decide +kernel) rfl)
theorem lX0_70 : sg_lok RX0 70 MX2_become := Or.inl (sg_in 582 (by decide +kernel) rfl)
theorem lX0_74 : sg_lok RX0 74 MX2_setSize := Or.inl (sg_in 583 (by decide +kernel) rfl)
theorem lX7_134 : sg_lok RX7 134 MX4_refuseLine := Or.inl (sg_in 584 (by decide +kernel) rfl)
theorem lX7_137 : sg_lok RX7 137 MX7_noteDirectory := Or.inl (sg_in 588 (by decide +kernel) rfl)
theorem lX7_141 : sg_lok RX7 141 MX0_growFile := Or.inl (sg_in 592 (by decide +kernel) rfl)
theorem lX0_88 : sg_lok RX0 88 MX2_sizeOf := Or.inl (sg_in 596 (by decide +kernel) rfl)
theorem lX0_91 : sg_lok RX0 91 MX1_copyFrom := Or.inl (sg_in 600 (by decide +kernel) rfl)
theorem lX0_95 : sg_lok RX0 95 MX2_blocksOf := Or.inl (sg_in 601 (by decide +kernel) rfl)
theorem lX0_98 : sg_lok RX0 98 MX0_layTail := Or.inl (sg_in 602 (by decide +kernel) rfl)
theorem lX0_105 : sg_lok RX0 105 MX2_tailLengthOf := Or.inl (sg_in 606 (by decide +kernel) rfl)
theorem lX0_108 : sg_lok RX0 108 MX2_tailOf := Or.inl (sg_in 607 (by decide +kernel) rfl)
theorem lX0_111 : sg_lok RX0 111 MX1_areFree := Or.inl (sg_in 608 (by decide +kernel) rfl)
theorem lX0_114 : sg_lok RX0 114 MX1_put := Or.inl (sg_in 612 (by decide +kernel) rfl)
theorem lX0_121 : sg_lok RX0 121 MX0_groupForTail := Or.inl (sg_in 613 (by decide +kernel) rfl)
theorem lX0_136 : sg_lok RX0 136 MX3_groupOfInode := Or.inl (sg_in 617 (by decide +kernel) rfl)
theorem lX0_133 : sg_lok RX0 133 MX2_blockAt := Or.inl (sg_in 618 (by decide +kernel) rfl)
theorem lX0_139 : sg_lok RX0 139 MX3_groupOfBlock := Or.inl (sg_in 619 (by decide +kernel) rfl)
theorem lX0_102 : sg_lok RX0 102 MX0_layBlocks := Or.inl (sg_in 623 (by decide +kernel) rfl)
theorem lX0_127 : sg_lok RX0 127 MX2_setBlock := Or.inl (sg_in 627 (by decide +kernel) rfl)
theorem lX0_130 : sg_lok RX0 130 MX0_layBlock := Or.inl (sg_in 631 (by decide +kernel) rfl)
theorem lX0_142 : sg_lok RX0 142 MX3_leadsOn := Or.inl (sg_in 635 (by decide +kernel) rfl)
theorem lX0_145 : sg_lok RX0 145 MX1_groupOnward := Or.inl (sg_in 639 (by decide +kernel) rfl)
theorem lX1_75 : sg_lok RX1 75 MX1_freeBlocks := Or.inl (sg_in 643 (by decide +kernel) rfl)
theorem lX1_78 : sg_lok RX1 78 MX1_freeBlocksIn := Or.inl (sg_in 647 (by decide +kernel) rfl)
theorem lX0_148 : sg_lok RX0 148 MX3_placeBehind := Or.inl (sg_in 651 (by decide +kernel) rfl)
theorem lX0_151 : sg_lok RX0 151 MX1_takeBlock := Or.inl (sg_in 655 (by decide +kernel) rfl)
theorem lX7_103 : sg_lok RX7 103 MX6_copyFrom := Or.inl (sg_in 659 (by decide +kernel) rfl)
theorem lX6_62 : sg_lok RX6 62 MX3_copyFrom := Or.inl (sg_in 663 (by decide +kernel) rfl)
theorem lX6_68 : sg_lok RX6 68 MX2_copyFrom := Or.inl (sg_in 667 (by decide +kernel) rfl)
theorem lX7_117 : sg_lok RX7 117 MX2_howManyAreThere := Or.inl (sg_in 672 (by decide +kernel) rfl)
theorem lX2_65 : sg_lok RX2 65 MX2_howMany := Or.inl (sg_in 676 (by decide +kernel) rfl)
theorem lL_27 : sg_lok RL 27 MX7_fault := Or.inl (sg_in 678 (by decide +kernel) rfl)
theorem lL_31 : sg_lok RL 31 MX7_rule := Or.inl (sg_in 682 (by decide +kernel) rfl)
theorem lX7_149 : sg_lok RX7 149 MX1_freeFragments := Or.inl (sg_in 686 (by decide +kernel) rfl)
theorem lX7_154 : sg_lok RX7 154 MX1_freeBlocks := Or.inl (sg_in 687 (by decide +kernel) rfl)
theorem lX7_157 : sg_lok RX7 157 MX2_howMany := Or.inl (sg_in 688 (by decide +kernel) rfl)
theorem lX7_160 : sg_lok RX7 160 MX2_sizesOfAll := Or.inl (sg_in 689 (by decide +kernel) rfl)
theorem lX2_68 : sg_lok RX2 68 MX2_sizeOf := Or.inl (sg_in 693 (by decide +kernel) rfl)
theorem lX7_163 : sg_lok RX7 163 MX6_pairsOfAll := Or.inl (sg_in 694 (by decide +kernel) rfl)
theorem lX6_158 : sg_lok RX6 158 MX6_pairsOf := Or.inl (sg_in 698 (by decide +kernel) rfl)
theorem lX6_142 : sg_lok RX6 142 MX3_leadsOn := Or.inl (sg_in 702 (by decide +kernel) rfl)
theorem lX6_145 : sg_lok RX6 145 MX6_follows := Or.inl (sg_in 703 (by decide +kernel) rfl)
theorem lX6_149 : sg_lok RX6 149 MX3_groupOfBlock := Or.inl (sg_in 707 (by decide +kernel) rfl)
theorem lX6_155 : sg_lok RX6 155 MX3_placeBehind := Or.inl (sg_in 708 (by decide +kernel) rfl)
theorem lX7_177 : sg_lok RX7 177 MX3_number := Or.inl (sg_in 709 (by decide +kernel) rfl)
theorem lL_35 : sg_lok RL 35 MX7_group := Or.inl (sg_in 713 (by decide +kernel) rfl)
theorem lX7_185 : sg_lok RX7 185 MX1_freeFragmentsIn := Or.inl (sg_in 717 (by decide +kernel) rfl)
theorem lX7_188 : sg_lok RX7 188 MX1_freeBlocksIn := Or.inl (sg_in 718 (by decide +kernel) rfl)
theorem lX7_191 : sg_lok RX7 191 MX2_howManyIn := Or.inl (sg_in 719 (by decide +kernel) rfl)
theorem lX7_194 : sg_lok RX7 194 MX1_runsIn := Or.inl (sg_in 720 (by decide +kernel) rfl)
theorem lL_40 : sg_lok RL 40 MX7_inode := Or.inl (sg_in 724 (by decide +kernel) rfl)
theorem lX7_197 : sg_lok RX7 197 MX2_isNumber := Or.inl (sg_in 728 (by decide +kernel) rfl)
theorem lX7_200 : sg_lok RX7 200 MX2_kindOf := Or.inl (sg_in 732 (by decide +kernel) rfl)
theorem lX7_203 : sg_lok RX7 203 MX2_parentOf := Or.inl (sg_in 733 (by decide +kernel) rfl)
theorem lX7_206 : sg_lok RX7 206 MX2_nameOf := Or.inl (sg_in 734 (by decide +kernel) rfl)
theorem lX7_209 : sg_lok RX7 209 MX2_sizeOf := Or.inl (sg_in 735 (by decide +kernel) rfl)
theorem lX7_212 : sg_lok RX7 212 MX2_blocksOf := Or.inl (sg_in 736 (by decide +kernel) rfl)
theorem lX7_215 : sg_lok RX7 215 MX2_tailOf := Or.inl (sg_in 737 (by decide +kernel) rfl)
theorem lX7_218 : sg_lok RX7 218 MX6_pairsOf := Or.inl (sg_in 738 (by decide +kernel) rfl)
theorem lL_44 : sg_lok RL 44 MX7_block := Or.inl (sg_in 739 (by decide +kernel) rfl)
theorem lX7_222 : sg_lok RX7 222 MX2_blockAt := Or.inl (sg_in 743 (by decide +kernel) rfl)
theorem lL_48 : sg_lok RL 48 MX7_fragment := Or.inl (sg_in 744 (by decide +kernel) rfl)
theorem lX7_225 : sg_lok RX7 225 MX3_isFragment := Or.inl (sg_in 748 (by decide +kernel) rfl)
theorem lX7_228 : sg_lok RX7 228 MX1_isFree := Or.inl (sg_in 752 (by decide +kernel) rfl)
theorem lX1_31 : sg_lok RX1 31 MX1_areFree := Or.inl (sg_in 756 (by decide +kernel) rfl)
theorem lX7_231 : sg_lok RX7 231 MX2_ownerOf := Or.inl (sg_in 757 (by decide +kernel) rfl)
theorem lX2_77 : sg_lok RX2 77 MX2_tailLengthOf := Or.inl (sg_in 761 (by decide +kernel) rfl)
theorem lX2_80 : sg_lok RX2 80 MX2_tailOf := Or.inl (sg_in 762 (by decide +kernel) rfl)
theorem lX2_83 : sg_lok RX2 83 MX2_blocksOf := Or.inl (sg_in 763 (by decide +kernel) rfl)
theorem lX2_86 : sg_lok RX2 86 MX2_blockAt := Or.inl (sg_in 764 (by decide +kernel) rfl)
theorem lL_52 : sg_lok RL 52 MX7_find := Or.inl (sg_in 765 (by decide +kernel) rfl)
theorem lX7_234 : sg_lok RX7 234 MX7_isName := Or.inl (sg_in 769 (by decide +kernel) rfl)
theorem lX7_237 : sg_lok RX7 237 MX2_named := Or.inl (sg_in 770 (by decide +kernel) rfl)
theorem lL_56 : sg_lok RL 56 MX7_entry := Or.inl (sg_in 771 (by decide +kernel) rfl)
theorem lL_60 : sg_lok RL 60 MX7_where := Or.inl (sg_in 775 (by decide +kernel) rfl)
theorem lX7_240 : sg_lok RX7 240 MX6_groupFor := Or.inl (sg_in 779 (by decide +kernel) rfl)
theorem lL_64 : sg_lok RL 64 MX7_make := Or.inl (sg_in 780 (by decide +kernel) rfl)
theorem lL_69 : sg_lok RL 69 MX7_grow := Or.inl (sg_in 784 (by decide +kernel) rfl)
theorem lL_73 : sg_lok RL 73 MX7_shrink := Or.inl (sg_in 788 (by decide +kernel) rfl)
theorem lX7_243 : sg_lok RX7 243 MX0_shrinkFile := Or.inl (sg_in 792 (by decide +kernel) rfl)
theorem lX0_154 : sg_lok RX0 154 MX6_putAllOf := Or.inl (sg_in 796 (by decide +kernel) rfl)
theorem lL_77 : sg_lok RL 77 MX7_remove := Or.inl (sg_in 797 (by decide +kernel) rfl)
theorem lX7_246 : sg_lok RX7 246 MX0_removeInode := Or.inl (sg_in 801 (by decide +kernel) rfl)
theorem lX0_158 : sg_lok RX0 158 MX2_hasOthers := Or.inl (sg_in 805 (by decide +kernel) rfl)
theorem lL_81 : sg_lok RL 81 MX7_move := Or.inl (sg_in 809 (by decide +kernel) rfl)
theorem lX7_249 : sg_lok RX7 249 MX0_moveInode := Or.inl (sg_in 813 (by decide +kernel) rfl)
theorem lX0_161 : sg_lok RX0 161 MX2_depthBelow := Or.inl (sg_in 817 (by decide +kernel) rfl)
theorem lX0_164 : sg_lok RX0 164 MX2_setEntry := Or.inl (sg_in 821 (by decide +kernel) rfl)
theorem lL_85 : sg_lok RL 85 MX7_gather := Or.inl (sg_in 822 (by decide +kernel) rfl)
theorem lX7_252 : sg_lok RX7 252 MX0_gatherFile := Or.inl (sg_in 826 (by decide +kernel) rfl)
theorem lX0_170 : sg_lok RX0 170 MX3_behind := Or.inl (sg_in 830 (by decide +kernel) rfl)
theorem lX0_173 : sg_lok RX0 173 MX1_gatheredRowIn := Or.inl (sg_in 831 (by decide +kernel) rfl)
theorem lX0_176 : sg_lok RX0 176 MX0_gatherAt := Or.inl (sg_in 835 (by decide +kernel) rfl)
theorem lX0_180 : sg_lok RX0 180 MX6_pairsOf := Or.inl (sg_in 839 (by decide +kernel) rfl)
theorem lL_89 : sg_lok RL 89 MX7_draw := Or.inl (sg_in 840 (by decide +kernel) rfl)
theorem lX7_255 : sg_lok RX7 255 MX6_isSpoilt := Or.inl (sg_in 844 (by decide +kernel) rfl)
theorem lX7_261 : sg_lok RX7 261 MX7_drawnDeed := Or.inl (sg_in 845 (by decide +kernel) rfl)
theorem lX7_264 : sg_lok RX7 264 MX7_drawnNumber := Or.inl (sg_in 849 (by decide +kernel) rfl)
theorem kX7_270 : Cond.constant RX7 270 (1103515245) ∈ sg_ws := sg_in 853 (by decide +kernel) rfl
theorem lX7_267 : sg_lok RX7 267 MX3_allInodes := Or.inl (sg_in 854 (by decide +kernel) rfl)
theorem lL_93 : sg_lok RL 93 MX7_flip := Or.inl (sg_in 855 (by decide +kernel) rfl)
theorem lX7_271 : sg_lok RX7 271 MX1_put := Or.inl (sg_in 859 (by decide +kernel) rfl)
theorem lL_97 : sg_lok RL 97 MX7_check := Or.inl (sg_in 860 (by decide +kernel) rfl)
theorem lX7_275 : sg_lok RX7 275 MX6_firstWrong := Or.inl (sg_in 864 (by decide +kernel) rfl)
theorem lX6_111 : sg_lok RX6 111 MX3_allBlocks := Or.inl (sg_in 868 (by decide +kernel) rfl)
theorem lX6_114 : sg_lok RX6 114 MX1_isFree := Or.inl (sg_in 869 (by decide +kernel) rfl)
theorem lX7_278 : sg_lok RX7 278 MX6_wrongs := Or.inl (sg_in 870 (by decide +kernel) rfl)
theorem lX6_106 : sg_lok RX6 106 MJ6_bitCount_0f7a4 := Or.inl (sg_in 874 (by decide +kernel) rfl)
theorem lL_101 : sg_lok RL 101 MX7_mend := Or.inl (sg_in 875 (by decide +kernel) rfl)
theorem lX7_281 : sg_lok RX7 281 MX6_mendMap := Or.inl (sg_in 879 (by decide +kernel) rfl)
theorem lL_105 : sg_lok RL 105 MX7_keep := Or.inl (sg_in 880 (by decide +kernel) rfl)
theorem lX7_284 : sg_lok RX7 284 MX7_hasImage := Or.inl (sg_in 884 (by decide +kernel) rfl)
theorem lL_109 : sg_lok RL 109 MX7_back := Or.inl (sg_in 888 (by decide +kernel) rfl)
theorem lL_113 : sg_lok RL 113 MX7_count := Or.inl (sg_in 892 (by decide +kernel) rfl)
theorem lL_12 : sg_lok RL 12 MX8_init := Or.inl (sg_in 898 (by decide +kernel) rfl)
theorem lX8_32 : sg_lok RX8 32 MX8_anew := Or.inl (sg_in 902 (by decide +kernel) rfl)
theorem lX8_35 : sg_lok RX8 35 MX8_fragments := Or.inl (sg_in 906 (by decide +kernel) rfl)
theorem fX8_7 : sg_fok RX8 7 8 0 := ⟨_, rfl, by decide, Or.inl (sg_in 910 (by decide +kernel) rfl)⟩
theorem fX8_13 : sg_fok RX8 13 8 1 := ⟨_, rfl, by decide, Or.inl (sg_in 911 (by decide +kernel) rfl)⟩
theorem fX8_16 : sg_fok RX8 16 8 2 := ⟨_, rfl, by decide, Or.inl (sg_in 912 (by decide +kernel) rfl)⟩
theorem fX8_19 : sg_fok RX8 19 8 3 := ⟨_, rfl, by decide, Or.inl (sg_in 913 (by decide +kernel) rfl)⟩
theorem fX8_22 : sg_fok RX8 22 8 4 := ⟨_, rfl, by decide, Or.inl (sg_in 914 (by decide +kernel) rfl)⟩
theorem fX8_26 : sg_fok RX8 26 8 5 := ⟨_, rfl, by decide, Or.inl (sg_in 915 (by decide +kernel) rfl)⟩
theorem fX8_45 : sg_fok RX8 45 8 6 := ⟨_, rfl, by decide, Or.inl (sg_in 916 (by decide +kernel) rfl)⟩
theorem fX8_61 : sg_fok RX8 61 8 7 := ⟨_, rfl, by decide, Or.inl (sg_in 917 (by decide +kernel) rfl)⟩
theorem fX8_52 : sg_fok RX8 52 8 8 := ⟨_, rfl, by decide, Or.inl (sg_in 918 (by decide +kernel) rfl)⟩
theorem fX8_58 : sg_fok RX8 58 8 9 := ⟨_, rfl, by decide, Or.inl (sg_in 919 (by decide +kernel) rfl)⟩
theorem fX8_80 : sg_fok RX8 80 8 10 := ⟨_, rfl, by decide, Or.inl (sg_in 920 (by decide +kernel) rfl)⟩
theorem fX8_49 : sg_fok RX8 49 8 11 := ⟨_, rfl, by decide, Or.inl (sg_in 921 (by decide +kernel) rfl)⟩
theorem fX8_55 : sg_fok RX8 55 8 12 := ⟨_, rfl, by decide, Or.inl (sg_in 922 (by decide +kernel) rfl)⟩
theorem fX8_29 : sg_fok RX8 29 8 13 := ⟨_, rfl, by decide, Or.inl (sg_in 923 (by decide +kernel) rfl)⟩
theorem fX8_100 : sg_fok RX8 100 8 14 := ⟨_, rfl, by decide, Or.inl (sg_in 924 (by decide +kernel) rfl)⟩
theorem fX8_293 : sg_fok RX8 293 8 15 := ⟨_, rfl, by decide, Or.inl (sg_in 925 (by decide +kernel) rfl)⟩
theorem lL_17 : sg_lok RL 17 MX8_feed := Or.inl (sg_in 960 (by decide +kernel) rfl)
theorem kX8_39 : Cond.constantLong RX8 39 (127) ∈ sg_ws := sg_in 964 (by decide +kernel) rfl
theorem lX8_41 : sg_lok RX8 41 MX8_in := Or.inl (sg_in 965 (by decide +kernel) rfl)
theorem lL_21 : sg_lok RL 21 MX8_end := Or.inl (sg_in 968 (by decide +kernel) rfl)
theorem lL_26 : sg_lok RL 26 MX8_text := Or.inl (sg_in 972 (by decide +kernel) rfl)
theorem lX8_117 : sg_lok RX8 117 MX8_copies := Or.inl (sg_in 976 (by decide +kernel) rfl)
theorem lX8_87 : sg_lok RX8 87 MX8_reads := Or.inl (sg_in 979 (by decide +kernel) rfl)
theorem lX8_64 : sg_lok RX8 64 MX8_byteAt := Or.inl (sg_in 983 (by decide +kernel) rfl)
theorem kX8_72 : Cond.constantLong RX8 72 (97) ∈ sg_ws := sg_in 987 (by decide +kernel) rfl
theorem kX8_74 : Cond.constantLong RX8 74 (122) ∈ sg_ws := sg_in 988 (by decide +kernel) rfl
theorem kX8_76 : Cond.constantLong RX8 76 (48) ∈ sg_ws := sg_in 989 (by decide +kernel) rfl
theorem kX8_78 : Cond.constantLong RX8 78 (57) ∈ sg_ws := sg_in 990 (by decide +kernel) rfl
theorem lX8_83 : sg_lok RX8 83 MX8_requires := Or.inl (sg_in 991 (by decide +kernel) rfl)
theorem lX8_121 : sg_lok RX8 121 MX8_readVolume := Or.inl (sg_in 995 (by decide +kernel) rfl)
theorem lX8_90 : sg_lok RX8 90 MX8_lineNow := Or.inl (sg_in 999 (by decide +kernel) rfl)
theorem lX8_68 : sg_lok RX8 68 MX8_is := Or.inl (sg_in 1003 (by decide +kernel) rfl)
theorem lX8_93 : sg_lok RX8 93 MX8_readNumber := Or.inl (sg_in 1007 (by decide +kernel) rfl)
theorem lX8_97 : sg_lok RX8 97 MX8_requiresStop := Or.inl (sg_in 1011 (by decide +kernel) rfl)
theorem lX8_124 : sg_lok RX8 124 MX8_readLine := Or.inl (sg_in 1015 (by decide +kernel) rfl)
theorem lX8_103 : sg_lok RX8 103 MX8_inodeOf := Or.inl (sg_in 1019 (by decide +kernel) rfl)
theorem lX8_167 : sg_lok RX8 167 MX8_inodes := Or.inl (sg_in 1023 (by decide +kernel) rfl)
theorem lX8_176 : sg_lok RX8 176 MX8_isThere := Or.inl (sg_in 1027 (by decide +kernel) rfl)
theorem lX8_170 : sg_lok RX8 170 MX8_isInode := Or.inl (sg_in 1031 (by decide +kernel) rfl)
theorem lX8_173 : sg_lok RX8 173 MX8_of := Or.inl (sg_in 1035 (by decide +kernel) rfl)
theorem lX8_106 : sg_lok RX8 106 MX8_comes := Or.inl (sg_in 1039 (by decide +kernel) rfl)
theorem lX8_110 : sg_lok RX8 110 MX8_makes := Or.inl (sg_in 1043 (by decide +kernel) rfl)
theorem lX8_230 : sg_lok RX8 230 MX8_groupFor := Or.inl (sg_in 1047 (by decide +kernel) rfl)
theorem lX8_185 : sg_lok RX8 185 MX8_groupForDirectory := Or.inl (sg_in 1051 (by decide +kernel) rfl)
theorem lX8_179 : sg_lok RX8 179 MX8_nothings := Or.inl (sg_in 1055 (by decide +kernel) rfl)
theorem lX8_133 : sg_lok RX8 133 MX8_flag := Or.inl (sg_in 1059 (by decide +kernel) rfl)
theorem lX8_182 : sg_lok RX8 182 MX8_directories := Or.inl (sg_in 1062 (by decide +kernel) rfl)
theorem lX8_188 : sg_lok RX8 188 MX8_groupForFile := Or.inl (sg_in 1066 (by decide +kernel) rfl)
theorem lX8_161 : sg_lok RX8 161 MX8_behind := Or.inl (sg_in 1070 (by decide +kernel) rfl)
theorem lX8_206 : sg_lok RX8 206 MX8_room := Or.inl (sg_in 1074 (by decide +kernel) rfl)
theorem lX8_155 : sg_lok RX8 155 MX8_freeIn := Or.inl (sg_in 1078 (by decide +kernel) rfl)
theorem lX8_141 : sg_lok RX8 141 MX8_isFree := Or.inl (sg_in 1082 (by decide +kernel) rfl)
theorem lX8_233 : sg_lok RX8 233 MX8_runNear := Or.inl (sg_in 1086 (by decide +kernel) rfl)
theorem lX8_164 : sg_lok RX8 164 MX8_runIn := Or.inl (sg_in 1090 (by decide +kernel) rfl)
theorem lX8_158 : sg_lok RX8 158 MX8_runAt := Or.inl (sg_in 1094 (by decide +kernel) rfl)
theorem lX8_149 : sg_lok RX8 149 MX8_isFreeBlock := Or.inl (sg_in 1098 (by decide +kernel) rfl)
theorem lX8_145 : sg_lok RX8 145 MX8_areFree := Or.inl (sg_in 1102 (by decide +kernel) rfl)
theorem lX8_236 : sg_lok RX8 236 MX8_sets := Or.inl (sg_in 1106 (by decide +kernel) rfl)
theorem lX8_137 : sg_lok RX8 137 MX8_lets := Or.inl (sg_in 1110 (by decide +kernel) rfl)
theorem lX8_114 : sg_lok RX8 114 MX8_grows := Or.inl (sg_in 1114 (by decide +kernel) rfl)
theorem lX8_270 : sg_lok RX8 270 MX8_canGrow := Or.inl (sg_in 1118 (by decide +kernel) rfl)
theorem lX8_194 : sg_lok RX8 194 MX8_blocks := Or.inl (sg_in 1122 (by decide +kernel) rfl)
theorem lX8_191 : sg_lok RX8 191 MX8_tail := Or.inl (sg_in 1126 (by decide +kernel) rfl)
theorem lX8_264 : sg_lok RX8 264 MX8_widens := Or.inl (sg_in 1130 (by decide +kernel) rfl)
theorem lX8_253 : sg_lok RX8 253 MX8_letsAll := Or.inl (sg_in 1134 (by decide +kernel) rfl)
theorem lX8_257 : sg_lok RX8 257 MX8_takesTail := Or.inl (sg_in 1138 (by decide +kernel) rfl)
theorem lX8_267 : sg_lok RX8 267 MX8_fills := Or.inl (sg_in 1142 (by decide +kernel) rfl)
theorem lX8_261 : sg_lok RX8 261 MX8_takesBlock := Or.inl (sg_in 1146 (by decide +kernel) rfl)
theorem lX8_244 : sg_lok RX8 244 MX8_groupOfBlock := Or.inl (sg_in 1150 (by decide +kernel) rfl)
theorem lX8_152 : sg_lok RX8 152 MX8_freeBlocks := Or.inl (sg_in 1154 (by decide +kernel) rfl)
theorem lX8_209 : sg_lok RX8 209 MX8_allFreeBlocks := Or.inl (sg_in 1158 (by decide +kernel) rfl)
theorem lX8_247 : sg_lok RX8 247 MX8_placeOfBlock := Or.inl (sg_in 1162 (by decide +kernel) rfl)
theorem lX8_250 : sg_lok RX8 250 MX8_blockNear := Or.inl (sg_in 1166 (by decide +kernel) rfl)
theorem lX8_127 : sg_lok RX8 127 MX8_forgets := Or.inl (sg_in 1170 (by decide +kernel) rfl)
theorem lX8_130 : sg_lok RX8 130 MX8_inodesThere := Or.inl (sg_in 1174 (by decide +kernel) rfl)
theorem lL_30 : sg_lok RL 30 MX8_fault := Or.inl (sg_in 1178 (by decide +kernel) rfl)
theorem lL_34 : sg_lok RL 34 MX8_rule := Or.inl (sg_in 1182 (by decide +kernel) rfl)
theorem lX8_212 : sg_lok RX8 212 MX8_ofKind := Or.inl (sg_in 1186 (by decide +kernel) rfl)
theorem lX8_215 : sg_lok RX8 215 MX8_summed := Or.inl (sg_in 1190 (by decide +kernel) rfl)
theorem lX8_200 : sg_lok RX8 200 MX8_pairs := Or.inl (sg_in 1194 (by decide +kernel) rfl)
theorem lX8_203 : sg_lok RX8 203 MX8_follows := Or.inl (sg_in 1198 (by decide +kernel) rfl)
theorem lL_39 : sg_lok RL 39 MX8_group := Or.inl (sg_in 1202 (by decide +kernel) rfl)
theorem lX8_218 : sg_lok RX8 218 MX8_runs := Or.inl (sg_in 1206 (by decide +kernel) rfl)
theorem lL_43 : sg_lok RL 43 MX8_inode := Or.inl (sg_in 1210 (by decide +kernel) rfl)
theorem kX8_221 : Cond.constantLong RX8 221 (7) ∈ sg_ws := sg_in 1214 (by decide +kernel) rfl
theorem lL_47 : sg_lok RL 47 MX8_block := Or.inl (sg_in 1215 (by decide +kernel) rfl)
theorem lL_51 : sg_lok RL 51 MX8_fragment := Or.inl (sg_in 1219 (by decide +kernel) rfl)
theorem lX8_197 : sg_lok RX8 197 MX8_owner := Or.inl (sg_in 1223 (by decide +kernel) rfl)
theorem lL_55 : sg_lok RL 55 MX8_find := Or.inl (sg_in 1227 (by decide +kernel) rfl)
theorem lX8_223 : sg_lok RX8 223 MX8_isDirectory := Or.inl (sg_in 1231 (by decide +kernel) rfl)
theorem kX8_226 : Cond.constantLong RX8 226 (9) ∈ sg_ws := sg_in 1235 (by decide +kernel) rfl
theorem lL_59 : sg_lok RL 59 MX8_entry := Or.inl (sg_in 1236 (by decide +kernel) rfl)
theorem lL_63 : sg_lok RL 63 MX8_where := Or.inl (sg_in 1240 (by decide +kernel) rfl)
theorem kX8_228 : Cond.constantLong RX8 228 (2) ∈ sg_ws := sg_in 1244 (by decide +kernel) rfl
theorem lL_68 : sg_lok RL 68 MX8_make := Or.inl (sg_in 1245 (by decide +kernel) rfl)
theorem lX8_240 : sg_lok RX8 240 MX8_isSpoilt := Or.inl (sg_in 1249 (by decide +kernel) rfl)
theorem lL_72 : sg_lok RL 72 MX8_grow := Or.inl (sg_in 1253 (by decide +kernel) rfl)
theorem lX8_273 : sg_lok RX8 273 MX8_isFile := Or.inl (sg_in 1257 (by decide +kernel) rfl)
theorem kX8_276 : Cond.constantLong RX8 276 (40) ∈ sg_ws := sg_in 1261 (by decide +kernel) rfl
theorem lL_76 : sg_lok RL 76 MX8_shrink := Or.inl (sg_in 1262 (by decide +kernel) rfl)
theorem lL_80 : sg_lok RL 80 MX8_remove := Or.inl (sg_in 1266 (by decide +kernel) rfl)
theorem lX8_278 : sg_lok RX8 278 MX8_hasOthers := Or.inl (sg_in 1270 (by decide +kernel) rfl)
theorem lL_84 : sg_lok RL 84 MX8_move := Or.inl (sg_in 1274 (by decide +kernel) rfl)
theorem lX8_281 : sg_lok RX8 281 MX8_isWithin := Or.inl (sg_in 1278 (by decide +kernel) rfl)
theorem lX8_284 : sg_lok RX8 284 MX8_farFromRoot := Or.inl (sg_in 1282 (by decide +kernel) rfl)
theorem lL_88 : sg_lok RL 88 MX8_gather := Or.inl (sg_in 1286 (by decide +kernel) rfl)
theorem lX8_287 : sg_lok RX8 287 MX8_isRowFree := Or.inl (sg_in 1290 (by decide +kernel) rfl)
theorem lX8_290 : sg_lok RX8 290 MX8_gathers := Or.inl (sg_in 1294 (by decide +kernel) rfl)
theorem lL_92 : sg_lok RL 92 MX8_draw := Or.inl (sg_in 1298 (by decide +kernel) rfl)
theorem kX8_306 : Cond.constantLong RX8 306 (20) ∈ sg_ws := sg_in 1302 (by decide +kernel) rfl
theorem lX8_308 : sg_lok RX8 308 MX8_gets := Or.inl (sg_in 1303 (by decide +kernel) rfl)
theorem kX8_296 : Cond.constant RX8 296 (1103515245) ∈ sg_ws := sg_in 1307 (by decide +kernel) rfl
theorem lX8_311 : sg_lok RX8 311 MX8_deed := Or.inl (sg_in 1308 (by decide +kernel) rfl)
theorem lX8_297 : sg_lok RX8 297 MX8_make := Or.inl (sg_in 1312 (by decide +kernel) rfl)
theorem lX8_300 : sg_lok RX8 300 MX8_grow := Or.inl (sg_in 1313 (by decide +kernel) rfl)
theorem lX8_303 : sg_lok RX8 303 MX8_remove := Or.inl (sg_in 1314 (by decide +kernel) rfl)
theorem lL_96 : sg_lok RL 96 MX8_flip := Or.inl (sg_in 1315 (by decide +kernel) rfl)
theorem lL_100 : sg_lok RL 100 MX8_check := Or.inl (sg_in 1319 (by decide +kernel) rfl)
theorem lL_104 : sg_lok RL 104 MX8_mend := Or.inl (sg_in 1323 (by decide +kernel) rfl)
theorem lL_108 : sg_lok RL 108 MX8_keep := Or.inl (sg_in 1327 (by decide +kernel) rfl)
theorem lL_112 : sg_lok RL 112 MX8_back := Or.inl (sg_in 1331 (by decide +kernel) rfl)
theorem lL_116 : sg_lok RL 116 MX8_count := Or.inl (sg_in 1335 (by decide +kernel) rfl)
