theorem dX8_init_0 : decode cX8_init 0 = .ok (.aload_n 0, 1) := by decide +kernel
theorem dX8_init_1 : decode cX8_init 1 = .ok (.invokespecial 1, 3) := by decide +kernel
theorem dX8_init_4 : decode cX8_init 4 = .ok (.aload_n 0, 1) := by decide +kernel
theorem dX8_init_5 : decode cX8_init 5 = .ok (.sipush 496, 3) := by decide +kernel
theorem dX8_init_8 : decode cX8_init 8 = .ok (.newarray .int, 2) := by decide +kernel
theorem dX8_init_10 : decode cX8_init 10 = .ok (.putfield 7, 3) := by decide +kernel
theorem dX8_init_13 : decode cX8_init 13 = .ok (.aload_n 0, 1) := by decide +kernel
theorem dX8_init_14 : decode cX8_init 14 = .ok (.sipush 496, 3) := by decide +kernel
theorem dX8_init_17 : decode cX8_init 17 = .ok (.newarray .int, 2) := by decide +kernel
theorem dX8_init_19 : decode cX8_init 19 = .ok (.putfield 13, 3) := by decide +kernel
theorem dX8_init_22 : decode cX8_init 22 = .ok (.aload_n 0, 1) := by decide +kernel
theorem dX8_init_23 : decode cX8_init 23 = .ok (.sipush 496, 3) := by decide +kernel
theorem dX8_init_26 : decode cX8_init 26 = .ok (.newarray .int, 2) := by decide +kernel
theorem dX8_init_28 : decode cX8_init 28 = .ok (.putfield 16, 3) := by decide +kernel
theorem dX8_init_31 : decode cX8_init 31 = .ok (.aload_n 0, 1) := by decide +kernel
theorem dX8_init_32 : decode cX8_init 32 = .ok (.sipush 992, 3) := by decide +kernel
theorem dX8_init_35 : decode cX8_init 35 = .ok (.newarray .int, 2) := by decide +kernel
theorem dX8_init_37 : decode cX8_init 37 = .ok (.putfield 19, 3) := by decide +kernel
theorem dX8_init_40 : decode cX8_init 40 = .ok (.aload_n 0, 1) := by decide +kernel
theorem dX8_init_41 : decode cX8_init 41 = .ok (.iconst 2, 1) := by decide +kernel
theorem dX8_init_42 : decode cX8_init 42 = .ok (.newarray .boolean, 2) := by decide +kernel
theorem dX8_init_44 : decode cX8_init 44 = .ok (.putfield 22, 3) := by decide +kernel
theorem dX8_init_47 : decode cX8_init 47 = .ok (.aload_n 0, 1) := by decide +kernel
theorem dX8_init_48 : decode cX8_init 48 = .ok (.sipush 200, 3) := by decide +kernel
theorem dX8_init_51 : decode cX8_init 51 = .ok (.newarray .int, 2) := by decide +kernel
theorem dX8_init_53 : decode cX8_init 53 = .ok (.putfield 26, 3) := by decide +kernel
theorem dX8_init_56 : decode cX8_init 56 = .ok (.aload_n 0, 1) := by decide +kernel
theorem dX8_init_57 : decode cX8_init 57 = .ok (.bipush 40, 2) := by decide +kernel
theorem dX8_init_59 : decode cX8_init 59 = .ok (.newarray .int, 2) := by decide +kernel
theorem dX8_init_61 : decode cX8_init 61 = .ok (.putfield 29, 3) := by decide +kernel
theorem dX8_init_64 : decode cX8_init 64 = .ok (.aload_n 0, 1) := by decide +kernel
theorem dX8_init_65 : decode cX8_init 65 = .ok (.getfield 7, 3) := by decide +kernel
theorem dX8_init_68 : decode cX8_init 68 = .ok (.iconst 0, 1) := by decide +kernel
theorem dX8_init_69 : decode cX8_init 69 = .ok (.iconst 2, 1) := by decide +kernel
theorem dX8_init_70 : decode cX8_init 70 = .ok (.iastore, 1) := by decide +kernel
theorem dX8_init_71 : decode cX8_init 71 = .ok (.aload_n 0, 1) := by decide +kernel
theorem dX8_init_72 : decode cX8_init 72 = .ok (.getfield 7, 3) := by decide +kernel
theorem dX8_init_75 : decode cX8_init 75 = .ok (.iconst 1, 1) := by decide +kernel
theorem dX8_init_76 : decode cX8_init 76 = .ok (.iconst 4, 1) := by decide +kernel
theorem dX8_init_77 : decode cX8_init 77 = .ok (.iastore, 1) := by decide +kernel
theorem dX8_init_78 : decode cX8_init 78 = .ok (.aload_n 0, 1) := by decide +kernel
theorem dX8_init_79 : decode cX8_init 79 = .ok (.getfield 7, 3) := by decide +kernel
theorem dX8_init_82 : decode cX8_init 82 = .ok (.iconst 2, 1) := by decide +kernel
theorem dX8_init_83 : decode cX8_init 83 = .ok (.iconst 4, 1) := by decide +kernel
theorem dX8_init_84 : decode cX8_init 84 = .ok (.iastore, 1) := by decide +kernel
theorem dX8_init_85 : decode cX8_init 85 = .ok (.aload_n 0, 1) := by decide +kernel
theorem dX8_init_86 : decode cX8_init 86 = .ok (.getfield 7, 3) := by decide +kernel
theorem dX8_init_89 : decode cX8_init 89 = .ok (.iconst 5, 1) := by decide +kernel
theorem dX8_init_90 : decode cX8_init 90 = .ok (.iconst 4, 1) := by decide +kernel
theorem dX8_init_91 : decode cX8_init 91 = .ok (.iastore, 1) := by decide +kernel
theorem dX8_init_92 : decode cX8_init 92 = .ok (.aload_n 0, 1) := by decide +kernel
theorem dX8_init_93 : decode cX8_init 93 = .ok (.invokevirtual 32, 3) := by decide +kernel
theorem dX8_init_96 : decode cX8_init 96 = .ok (.return_, 1) := by decide +kernel
theorem dX8_in_0 : decode cX8_in 0 = .ok (.lload_n 0, 1) := by decide +kernel
theorem dX8_in_1 : decode cX8_in 1 = .ok (.lload_n 2, 1) := by decide +kernel
theorem dX8_in_2 : decode cX8_in 2 = .ok (.lcmp, 1) := by decide +kernel
theorem dX8_in_3 : decode cX8_in 3 = .ok (.ifCond .lt 14, 3) := by decide +kernel
theorem dX8_in_6 : decode cX8_in 6 = .ok (.lload_n 0, 1) := by decide +kernel
theorem dX8_in_7 : decode cX8_in 7 = .ok (.lload 4, 2) := by decide +kernel
theorem dX8_in_9 : decode cX8_in 9 = .ok (.lcmp, 1) := by decide +kernel
theorem dX8_in_10 : decode cX8_in 10 = .ok (.ifCond .gt 7, 3) := by decide +kernel
theorem dX8_in_13 : decode cX8_in 13 = .ok (.iconst 1, 1) := by decide +kernel
theorem dX8_in_14 : decode cX8_in 14 = .ok (.goto 4, 3) := by decide +kernel
theorem dX8_in_17 : decode cX8_in 17 = .ok (.iconst 0, 1) := by decide +kernel
theorem dX8_in_18 : decode cX8_in 18 = .ok (.ireturn, 1) := by decide +kernel
theorem dX8_flag_0 : decode cX8_flag 0 = .ok (.iload_n 0, 1) := by decide +kernel
theorem dX8_flag_1 : decode cX8_flag 1 = .ok (.ifCond .eq 7, 3) := by decide +kernel
theorem dX8_flag_4 : decode cX8_flag 4 = .ok (.iconst 1, 1) := by decide +kernel
theorem dX8_flag_5 : decode cX8_flag 5 = .ok (.goto 4, 3) := by decide +kernel
theorem dX8_flag_8 : decode cX8_flag 8 = .ok (.iconst 0, 1) := by decide +kernel
theorem dX8_flag_9 : decode cX8_flag 9 = .ok (.ireturn, 1) := by decide +kernel
theorem dX8_anew_0 : decode cX8_anew 0 = .ok (.bipush 6, 2) := by decide +kernel
theorem dX8_anew_2 : decode cX8_anew 2 = .ok (.istore_n 1, 1) := by decide +kernel
theorem dX8_anew_3 : decode cX8_anew 3 = .ok (.iload_n 1, 1) := by decide +kernel
theorem dX8_anew_4 : decode cX8_anew 4 = .ok (.sipush 496, 3) := by decide +kernel
theorem dX8_anew_7 : decode cX8_anew 7 = .ok (.if_icmp .ge 37, 3) := by decide +kernel
theorem dX8_anew_10 : decode cX8_anew 10 = .ok (.aload_n 0, 1) := by decide +kernel
theorem dX8_anew_11 : decode cX8_anew 11 = .ok (.getfield 7, 3) := by decide +kernel
theorem dX8_anew_14 : decode cX8_anew 14 = .ok (.iload_n 1, 1) := by decide +kernel
theorem dX8_anew_15 : decode cX8_anew 15 = .ok (.iload_n 1, 1) := by decide +kernel
theorem dX8_anew_16 : decode cX8_anew 16 = .ok (.bipush 8, 2) := by decide +kernel
theorem dX8_anew_18 : decode cX8_anew 18 = .ok (.if_icmp .lt 18, 3) := by decide +kernel
theorem dX8_anew_21 : decode cX8_anew 21 = .ok (.iload_n 1, 1) := by decide +kernel
theorem dX8_anew_22 : decode cX8_anew 22 = .ok (.bipush 8, 2) := by decide +kernel
theorem dX8_anew_24 : decode cX8_anew 24 = .ok (.aload_n 0, 1) := by decide +kernel
theorem dX8_anew_25 : decode cX8_anew 25 = .ok (.invokevirtual 35, 3) := by decide +kernel
theorem dX8_anew_28 : decode cX8_anew 28 = .ok (.iadd, 1) := by decide +kernel
theorem dX8_anew_29 : decode cX8_anew 29 = .ok (.if_icmp .ge 7, 3) := by decide +kernel
theorem dX8_anew_32 : decode cX8_anew 32 = .ok (.iconst 1, 1) := by decide +kernel
theorem dX8_anew_33 : decode cX8_anew 33 = .ok (.goto 4, 3) := by decide +kernel
theorem dX8_anew_36 : decode cX8_anew 36 = .ok (.iconst 0, 1) := by decide +kernel
theorem dX8_anew_37 : decode cX8_anew 37 = .ok (.iastore, 1) := by decide +kernel
theorem dX8_anew_38 : decode cX8_anew 38 = .ok (.iinc 1 1, 3) := by decide +kernel
theorem dX8_anew_41 : decode cX8_anew 41 = .ok (.goto (-38), 3) := by decide +kernel
theorem dX8_anew_44 : decode cX8_anew 44 = .ok (.aload_n 0, 1) := by decide +kernel
theorem dX8_anew_45 : decode cX8_anew 45 = .ok (.getfield 7, 3) := by decide +kernel
theorem dX8_anew_48 : decode cX8_anew 48 = .ok (.bipush 8, 2) := by decide +kernel
theorem dX8_anew_50 : decode cX8_anew 50 = .ok (.iconst 0, 1) := by decide +kernel
theorem dX8_anew_51 : decode cX8_anew 51 = .ok (.iastore, 1) := by decide +kernel
theorem dX8_anew_52 : decode cX8_anew 52 = .ok (.aload_n 0, 1) := by decide +kernel
theorem dX8_anew_53 : decode cX8_anew 53 = .ok (.getfield 7, 3) := by decide +kernel
theorem dX8_anew_56 : decode cX8_anew 56 = .ok (.sipush 136, 3) := by decide +kernel
theorem dX8_anew_59 : decode cX8_anew 59 = .ok (.iconst 1, 1) := by decide +kernel
theorem dX8_anew_60 : decode cX8_anew 60 = .ok (.iastore, 1) := by decide +kernel
theorem dX8_anew_61 : decode cX8_anew 61 = .ok (.aload_n 0, 1) := by decide +kernel
theorem dX8_anew_62 : decode cX8_anew 62 = .ok (.getfield 7, 3) := by decide +kernel
theorem dX8_anew_65 : decode cX8_anew 65 = .ok (.sipush 137, 3) := by decide +kernel
theorem dX8_anew_68 : decode cX8_anew 68 = .ok (.bipush (-4), 2) := by decide +kernel
theorem dX8_anew_70 : decode cX8_anew 70 = .ok (.iastore, 1) := by decide +kernel
theorem dX8_anew_71 : decode cX8_anew 71 = .ok (.aload_n 0, 1) := by decide +kernel
theorem dX8_anew_72 : decode cX8_anew 72 = .ok (.getfield 7, 3) := by decide +kernel
theorem dX8_anew_75 : decode cX8_anew 75 = .ok (.sipush 138, 3) := by decide +kernel
theorem dX8_anew_78 : decode cX8_anew 78 = .ok (.bipush (-4), 2) := by decide +kernel
theorem dX8_anew_80 : decode cX8_anew 80 = .ok (.iastore, 1) := by decide +kernel
theorem dX8_anew_81 : decode cX8_anew 81 = .ok (.aload_n 0, 1) := by decide +kernel
theorem dX8_anew_82 : decode cX8_anew 82 = .ok (.getfield 7, 3) := by decide +kernel
theorem dX8_anew_85 : decode cX8_anew 85 = .ok (.sipush 139, 3) := by decide +kernel
theorem dX8_anew_88 : decode cX8_anew 88 = .ok (.iconst 1, 1) := by decide +kernel
theorem dX8_anew_89 : decode cX8_anew 89 = .ok (.iastore, 1) := by decide +kernel
theorem dX8_anew_90 : decode cX8_anew 90 = .ok (.aload_n 0, 1) := by decide +kernel
theorem dX8_anew_91 : decode cX8_anew 91 = .ok (.getfield 7, 3) := by decide +kernel
theorem dX8_anew_94 : decode cX8_anew 94 = .ok (.sipush 140, 3) := by decide +kernel
theorem dX8_anew_97 : decode cX8_anew 97 = .ok (.iconst 0, 1) := by decide +kernel
theorem dX8_anew_98 : decode cX8_anew 98 = .ok (.iastore, 1) := by decide +kernel
theorem dX8_anew_99 : decode cX8_anew 99 = .ok (.return_, 1) := by decide +kernel
theorem dX8_forgets_0 : decode cX8_forgets 0 = .ok (.aload_n 0, 1) := by decide +kernel
theorem dX8_forgets_1 : decode cX8_forgets 1 = .ok (.getfield 22, 3) := by decide +kernel
theorem dX8_forgets_4 : decode cX8_forgets 4 = .ok (.iconst 0, 1) := by decide +kernel
theorem dX8_forgets_5 : decode cX8_forgets 5 = .ok (.iconst 0, 1) := by decide +kernel
theorem dX8_forgets_6 : decode cX8_forgets 6 = .ok (.bastore, 1) := by decide +kernel
theorem dX8_forgets_7 : decode cX8_forgets 7 = .ok (.aload_n 0, 1) := by decide +kernel
theorem dX8_forgets_8 : decode cX8_forgets 8 = .ok (.getfield 22, 3) := by decide +kernel
theorem dX8_forgets_11 : decode cX8_forgets 11 = .ok (.iconst 1, 1) := by decide +kernel
theorem dX8_forgets_12 : decode cX8_forgets 12 = .ok (.iconst 0, 1) := by decide +kernel
theorem dX8_forgets_13 : decode cX8_forgets 13 = .ok (.bastore, 1) := by decide +kernel
theorem dX8_forgets_14 : decode cX8_forgets 14 = .ok (.return_, 1) := by decide +kernel
theorem dX8_copies_0 : decode cX8_copies 0 = .ok (.iconst 0, 1) := by decide +kernel
theorem dX8_copies_1 : decode cX8_copies 1 = .ok (.istore_n 2, 1) := by decide +kernel
theorem dX8_copies_2 : decode cX8_copies 2 = .ok (.iload_n 2, 1) := by decide +kernel
theorem dX8_copies_3 : decode cX8_copies 3 = .ok (.sipush 496, 3) := by decide +kernel
theorem dX8_copies_6 : decode cX8_copies 6 = .ok (.if_icmp .ge 15, 3) := by decide +kernel
theorem dX8_copies_9 : decode cX8_copies 9 = .ok (.aload_n 1, 1) := by decide +kernel
theorem dX8_copies_10 : decode cX8_copies 10 = .ok (.iload_n 2, 1) := by decide +kernel
theorem dX8_copies_11 : decode cX8_copies 11 = .ok (.aload_n 0, 1) := by decide +kernel
theorem dX8_copies_12 : decode cX8_copies 12 = .ok (.iload_n 2, 1) := by decide +kernel
theorem dX8_copies_13 : decode cX8_copies 13 = .ok (.iaload, 1) := by decide +kernel
theorem dX8_copies_14 : decode cX8_copies 14 = .ok (.iastore, 1) := by decide +kernel
theorem dX8_copies_15 : decode cX8_copies 15 = .ok (.iinc 2 1, 3) := by decide +kernel
theorem dX8_copies_18 : decode cX8_copies 18 = .ok (.goto (-16), 3) := by decide +kernel
theorem dX8_copies_21 : decode cX8_copies 21 = .ok (.return_, 1) := by decide +kernel
theorem dX8_feed_0 : decode cX8_feed 0 = .ok (.iload_n 1, 1) := by decide +kernel
theorem dX8_feed_1 : decode cX8_feed 1 = .ok (.i2l, 1) := by decide +kernel
theorem dX8_feed_2 : decode cX8_feed 2 = .ok (.lconst 0, 1) := by decide +kernel
theorem dX8_feed_3 : decode cX8_feed 3 = .ok (.ldc2_w 39, 3) := by decide +kernel
theorem dX8_feed_6 : decode cX8_feed 6 = .ok (.invokestatic 41, 3) := by decide +kernel
theorem dX8_feed_9 : decode cX8_feed 9 = .ok (.ifCond .ne 5, 3) := by decide +kernel
theorem dX8_feed_12 : decode cX8_feed 12 = .ok (.iconst (-1), 1) := by decide +kernel
theorem dX8_feed_13 : decode cX8_feed 13 = .ok (.ireturn, 1) := by decide +kernel
theorem dX8_feed_14 : decode cX8_feed 14 = .ok (.aload_n 0, 1) := by decide +kernel
theorem dX8_feed_15 : decode cX8_feed 15 = .ok (.getfield 45, 3) := by decide +kernel
theorem dX8_feed_18 : decode cX8_feed 18 = .ok (.sipush 200, 3) := by decide +kernel
theorem dX8_feed_21 : decode cX8_feed 21 = .ok (.if_icmp .ne 6, 3) := by decide +kernel
theorem dX8_feed_24 : decode cX8_feed 24 = .ok (.bipush (-3), 2) := by decide +kernel
theorem dX8_feed_26 : decode cX8_feed 26 = .ok (.ireturn, 1) := by decide +kernel
theorem dX8_feed_27 : decode cX8_feed 27 = .ok (.aload_n 0, 1) := by decide +kernel
theorem dX8_feed_28 : decode cX8_feed 28 = .ok (.getfield 26, 3) := by decide +kernel
theorem dX8_feed_31 : decode cX8_feed 31 = .ok (.aload_n 0, 1) := by decide +kernel
theorem dX8_feed_32 : decode cX8_feed 32 = .ok (.getfield 45, 3) := by decide +kernel
theorem dX8_feed_35 : decode cX8_feed 35 = .ok (.iload_n 1, 1) := by decide +kernel
theorem dX8_feed_36 : decode cX8_feed 36 = .ok (.iastore, 1) := by decide +kernel
theorem dX8_feed_37 : decode cX8_feed 37 = .ok (.aload_n 0, 1) := by decide +kernel
theorem dX8_feed_38 : decode cX8_feed 38 = .ok (.dup, 1) := by decide +kernel
theorem dX8_feed_39 : decode cX8_feed 39 = .ok (.getfield 45, 3) := by decide +kernel
theorem dX8_feed_42 : decode cX8_feed 42 = .ok (.iconst 1, 1) := by decide +kernel
theorem dX8_feed_43 : decode cX8_feed 43 = .ok (.iadd, 1) := by decide +kernel
theorem dX8_feed_44 : decode cX8_feed 44 = .ok (.putfield 45, 3) := by decide +kernel
theorem dX8_feed_47 : decode cX8_feed 47 = .ok (.aload_n 0, 1) := by decide +kernel
theorem dX8_feed_48 : decode cX8_feed 48 = .ok (.getfield 45, 3) := by decide +kernel
theorem dX8_feed_51 : decode cX8_feed 51 = .ok (.ireturn, 1) := by decide +kernel
theorem dX8_end_0 : decode cX8_end 0 = .ok (.iload_n 1, 1) := by decide +kernel
theorem dX8_end_1 : decode cX8_end 1 = .ok (.i2l, 1) := by decide +kernel
theorem dX8_end_2 : decode cX8_end 2 = .ok (.lconst 0, 1) := by decide +kernel
theorem dX8_end_3 : decode cX8_end 3 = .ok (.aload_n 0, 1) := by decide +kernel
theorem dX8_end_4 : decode cX8_end 4 = .ok (.getfield 45, 3) := by decide +kernel
theorem dX8_end_7 : decode cX8_end 7 = .ok (.i2l, 1) := by decide +kernel
theorem dX8_end_8 : decode cX8_end 8 = .ok (.invokestatic 41, 3) := by decide +kernel
theorem dX8_end_11 : decode cX8_end 11 = .ok (.ifCond .ne 5, 3) := by decide +kernel
theorem dX8_end_14 : decode cX8_end 14 = .ok (.iconst (-1), 1) := by decide +kernel
theorem dX8_end_15 : decode cX8_end 15 = .ok (.ireturn, 1) := by decide +kernel
theorem dX8_end_16 : decode cX8_end 16 = .ok (.aload_n 0, 1) := by decide +kernel
theorem dX8_end_17 : decode cX8_end 17 = .ok (.getfield 45, 3) := by decide +kernel
theorem dX8_end_20 : decode cX8_end 20 = .ok (.istore_n 2, 1) := by decide +kernel
theorem dX8_end_21 : decode cX8_end 21 = .ok (.aload_n 0, 1) := by decide +kernel
theorem dX8_end_22 : decode cX8_end 22 = .ok (.iload_n 1, 1) := by decide +kernel
theorem dX8_end_23 : decode cX8_end 23 = .ok (.putfield 45, 3) := by decide +kernel
theorem dX8_end_26 : decode cX8_end 26 = .ok (.iload_n 2, 1) := by decide +kernel
theorem dX8_end_27 : decode cX8_end 27 = .ok (.ireturn, 1) := by decide +kernel
theorem dX8_requires_0 : decode cX8_requires 0 = .ok (.iload_n 1, 1) := by decide +kernel
theorem dX8_requires_1 : decode cX8_requires 1 = .ok (.ifCond .ne 23, 3) := by decide +kernel
theorem dX8_requires_4 : decode cX8_requires 4 = .ok (.aload_n 0, 1) := by decide +kernel
theorem dX8_requires_5 : decode cX8_requires 5 = .ok (.getfield 49, 3) := by decide +kernel
theorem dX8_requires_8 : decode cX8_requires 8 = .ok (.ifCond .ne 16, 3) := by decide +kernel
theorem dX8_requires_11 : decode cX8_requires 11 = .ok (.aload_n 0, 1) := by decide +kernel
theorem dX8_requires_12 : decode cX8_requires 12 = .ok (.iload_n 2, 1) := by decide +kernel
theorem dX8_requires_13 : decode cX8_requires 13 = .ok (.putfield 49, 3) := by decide +kernel
theorem dX8_requires_16 : decode cX8_requires 16 = .ok (.aload_n 0, 1) := by decide +kernel
theorem dX8_requires_17 : decode cX8_requires 17 = .ok (.aload_n 0, 1) := by decide +kernel
theorem dX8_requires_18 : decode cX8_requires 18 = .ok (.getfield 52, 3) := by decide +kernel
theorem dX8_requires_21 : decode cX8_requires 21 = .ok (.putfield 55, 3) := by decide +kernel
theorem dX8_requires_24 : decode cX8_requires 24 = .ok (.return_, 1) := by decide +kernel
theorem dX8_byteAt_0 : decode cX8_byteAt 0 = .ok (.iload_n 1, 1) := by decide +kernel
theorem dX8_byteAt_1 : decode cX8_byteAt 1 = .ok (.aload_n 0, 1) := by decide +kernel
theorem dX8_byteAt_2 : decode cX8_byteAt 2 = .ok (.getfield 45, 3) := by decide +kernel
theorem dX8_byteAt_5 : decode cX8_byteAt 5 = .ok (.if_icmp .ge 12, 3) := by decide +kernel
theorem dX8_byteAt_8 : decode cX8_byteAt 8 = .ok (.aload_n 0, 1) := by decide +kernel
theorem dX8_byteAt_9 : decode cX8_byteAt 9 = .ok (.getfield 26, 3) := by decide +kernel
theorem dX8_byteAt_12 : decode cX8_byteAt 12 = .ok (.iload_n 1, 1) := by decide +kernel
theorem dX8_byteAt_13 : decode cX8_byteAt 13 = .ok (.iaload, 1) := by decide +kernel
theorem dX8_byteAt_14 : decode cX8_byteAt 14 = .ok (.goto 4, 3) := by decide +kernel
theorem dX8_byteAt_17 : decode cX8_byteAt 17 = .ok (.iconst (-1), 1) := by decide +kernel
theorem dX8_byteAt_18 : decode cX8_byteAt 18 = .ok (.ireturn, 1) := by decide +kernel
theorem dX8_is_0 : decode cX8_is 0 = .ok (.aload_n 0, 1) := by decide +kernel
theorem dX8_is_1 : decode cX8_is 1 = .ok (.getfield 58, 3) := by decide +kernel
theorem dX8_is_4 : decode cX8_is 4 = .ok (.iconst 1, 1) := by decide +kernel
theorem dX8_is_5 : decode cX8_is 5 = .ok (.if_icmp .ne 68, 3) := by decide +kernel
theorem dX8_is_8 : decode cX8_is 8 = .ok (.aload_n 0, 1) := by decide +kernel
theorem dX8_is_9 : decode cX8_is 9 = .ok (.getfield 61, 3) := by decide +kernel
theorem dX8_is_12 : decode cX8_is 12 = .ok (.aload_n 0, 1) := by decide +kernel
theorem dX8_is_13 : decode cX8_is 13 = .ok (.getfield 52, 3) := by decide +kernel
theorem dX8_is_16 : decode cX8_is 16 = .ok (.isub, 1) := by decide +kernel
theorem dX8_is_17 : decode cX8_is 17 = .ok (.iload_n 1, 1) := by decide +kernel
theorem dX8_is_18 : decode cX8_is 18 = .ok (.if_icmp .ne 55, 3) := by decide +kernel
theorem dX8_is_21 : decode cX8_is 21 = .ok (.aload_n 0, 1) := by decide +kernel
theorem dX8_is_22 : decode cX8_is 22 = .ok (.aload_n 0, 1) := by decide +kernel
theorem dX8_is_23 : decode cX8_is 23 = .ok (.getfield 52, 3) := by decide +kernel
theorem dX8_is_26 : decode cX8_is 26 = .ok (.iload_n 2, 1) := by decide +kernel
theorem dX8_is_27 : decode cX8_is 27 = .ok (.iadd, 1) := by decide +kernel
theorem dX8_is_28 : decode cX8_is 28 = .ok (.invokevirtual 64, 3) := by decide +kernel
theorem dX8_is_31 : decode cX8_is 31 = .ok (.iload_n 3, 1) := by decide +kernel
theorem dX8_is_32 : decode cX8_is 32 = .ok (.if_icmp .ne 41, 3) := by decide +kernel
theorem dX8_is_35 : decode cX8_is 35 = .ok (.aload_n 0, 1) := by decide +kernel
theorem dX8_is_36 : decode cX8_is 36 = .ok (.aload_n 0, 1) := by decide +kernel
theorem dX8_is_37 : decode cX8_is 37 = .ok (.getfield 52, 3) := by decide +kernel
theorem dX8_is_40 : decode cX8_is 40 = .ok (.iload_n 2, 1) := by decide +kernel
theorem dX8_is_41 : decode cX8_is 41 = .ok (.iadd, 1) := by decide +kernel
theorem dX8_is_42 : decode cX8_is 42 = .ok (.iconst 1, 1) := by decide +kernel
theorem dX8_is_43 : decode cX8_is 43 = .ok (.iadd, 1) := by decide +kernel
theorem dX8_is_44 : decode cX8_is 44 = .ok (.invokevirtual 64, 3) := by decide +kernel
theorem dX8_is_47 : decode cX8_is 47 = .ok (.iload 4, 2) := by decide +kernel
theorem dX8_is_49 : decode cX8_is 49 = .ok (.if_icmp .ne 24, 3) := by decide +kernel
theorem dX8_is_52 : decode cX8_is 52 = .ok (.aload_n 0, 1) := by decide +kernel
theorem dX8_is_53 : decode cX8_is 53 = .ok (.aload_n 0, 1) := by decide +kernel
theorem dX8_is_54 : decode cX8_is 54 = .ok (.getfield 52, 3) := by decide +kernel
theorem dX8_is_57 : decode cX8_is 57 = .ok (.iload_n 2, 1) := by decide +kernel
theorem dX8_is_58 : decode cX8_is 58 = .ok (.iadd, 1) := by decide +kernel
theorem dX8_is_59 : decode cX8_is 59 = .ok (.iconst 2, 1) := by decide +kernel
theorem dX8_is_60 : decode cX8_is 60 = .ok (.iadd, 1) := by decide +kernel
theorem dX8_is_61 : decode cX8_is 61 = .ok (.invokevirtual 64, 3) := by decide +kernel
theorem dX8_is_64 : decode cX8_is 64 = .ok (.iload 5, 2) := by decide +kernel
theorem dX8_is_66 : decode cX8_is 66 = .ok (.if_icmp .ne 7, 3) := by decide +kernel
theorem dX8_is_69 : decode cX8_is 69 = .ok (.iconst 1, 1) := by decide +kernel
theorem dX8_is_70 : decode cX8_is 70 = .ok (.goto 4, 3) := by decide +kernel
theorem dX8_is_73 : decode cX8_is 73 = .ok (.iconst 0, 1) := by decide +kernel
theorem dX8_is_74 : decode cX8_is 74 = .ok (.ireturn, 1) := by decide +kernel
theorem dX8_lineNow_0 : decode cX8_lineNow 0 = .ok (.aload_n 0, 1) := by decide +kernel
theorem dX8_lineNow_1 : decode cX8_lineNow 1 = .ok (.bipush 6, 2) := by decide +kernel
theorem dX8_lineNow_3 : decode cX8_lineNow 3 = .ok (.iconst 0, 1) := by decide +kernel
theorem dX8_lineNow_4 : decode cX8_lineNow 4 = .ok (.bipush 118, 2) := by decide +kernel
theorem dX8_lineNow_6 : decode cX8_lineNow 6 = .ok (.bipush 111, 2) := by decide +kernel
theorem dX8_lineNow_8 : decode cX8_lineNow 8 = .ok (.bipush 108, 2) := by decide +kernel
theorem dX8_lineNow_10 : decode cX8_lineNow 10 = .ok (.invokevirtual 68, 3) := by decide +kernel
theorem dX8_lineNow_13 : decode cX8_lineNow 13 = .ok (.ifCond .eq 21, 3) := by decide +kernel
theorem dX8_lineNow_16 : decode cX8_lineNow 16 = .ok (.aload_n 0, 1) := by decide +kernel
theorem dX8_lineNow_17 : decode cX8_lineNow 17 = .ok (.bipush 6, 2) := by decide +kernel
theorem dX8_lineNow_19 : decode cX8_lineNow 19 = .ok (.iconst 3, 1) := by decide +kernel
theorem dX8_lineNow_20 : decode cX8_lineNow 20 = .ok (.bipush 117, 2) := by decide +kernel
theorem dX8_lineNow_22 : decode cX8_lineNow 22 = .ok (.bipush 109, 2) := by decide +kernel
theorem dX8_lineNow_24 : decode cX8_lineNow 24 = .ok (.bipush 101, 2) := by decide +kernel
theorem dX8_lineNow_26 : decode cX8_lineNow 26 = .ok (.invokevirtual 68, 3) := by decide +kernel
theorem dX8_lineNow_29 : decode cX8_lineNow 29 = .ok (.ifCond .eq 5, 3) := by decide +kernel
theorem dX8_lineNow_32 : decode cX8_lineNow 32 = .ok (.iconst 0, 1) := by decide +kernel
theorem dX8_lineNow_33 : decode cX8_lineNow 33 = .ok (.ireturn, 1) := by decide +kernel
theorem dX8_lineNow_34 : decode cX8_lineNow 34 = .ok (.aload_n 0, 1) := by decide +kernel
theorem dX8_lineNow_35 : decode cX8_lineNow 35 = .ok (.iconst 3, 1) := by decide +kernel
theorem dX8_lineNow_36 : decode cX8_lineNow 36 = .ok (.iconst 0, 1) := by decide +kernel
theorem dX8_lineNow_37 : decode cX8_lineNow 37 = .ok (.bipush 100, 2) := by decide +kernel
theorem dX8_lineNow_39 : decode cX8_lineNow 39 = .ok (.bipush 105, 2) := by decide +kernel
theorem dX8_lineNow_41 : decode cX8_lineNow 41 = .ok (.bipush 114, 2) := by decide +kernel
theorem dX8_lineNow_43 : decode cX8_lineNow 43 = .ok (.invokevirtual 68, 3) := by decide +kernel
theorem dX8_lineNow_46 : decode cX8_lineNow 46 = .ok (.ifCond .eq 5, 3) := by decide +kernel
theorem dX8_lineNow_49 : decode cX8_lineNow 49 = .ok (.iconst 1, 1) := by decide +kernel
theorem dX8_lineNow_50 : decode cX8_lineNow 50 = .ok (.ireturn, 1) := by decide +kernel
theorem dX8_lineNow_51 : decode cX8_lineNow 51 = .ok (.aload_n 0, 1) := by decide +kernel
theorem dX8_lineNow_52 : decode cX8_lineNow 52 = .ok (.iconst 4, 1) := by decide +kernel
theorem dX8_lineNow_53 : decode cX8_lineNow 53 = .ok (.iconst 0, 1) := by decide +kernel
theorem dX8_lineNow_54 : decode cX8_lineNow 54 = .ok (.bipush 102, 2) := by decide +kernel
theorem dX8_lineNow_56 : decode cX8_lineNow 56 = .ok (.bipush 105, 2) := by decide +kernel
theorem dX8_lineNow_58 : decode cX8_lineNow 58 = .ok (.bipush 108, 2) := by decide +kernel
theorem dX8_lineNow_60 : decode cX8_lineNow 60 = .ok (.invokevirtual 68, 3) := by decide +kernel
theorem dX8_lineNow_63 : decode cX8_lineNow 63 = .ok (.ifCond .eq 22, 3) := by decide +kernel
theorem dX8_lineNow_66 : decode cX8_lineNow 66 = .ok (.aload_n 0, 1) := by decide +kernel
theorem dX8_lineNow_67 : decode cX8_lineNow 67 = .ok (.iconst 4, 1) := by decide +kernel
theorem dX8_lineNow_68 : decode cX8_lineNow 68 = .ok (.iconst 1, 1) := by decide +kernel
theorem dX8_lineNow_69 : decode cX8_lineNow 69 = .ok (.bipush 105, 2) := by decide +kernel
theorem dX8_lineNow_71 : decode cX8_lineNow 71 = .ok (.bipush 108, 2) := by decide +kernel
theorem dX8_lineNow_73 : decode cX8_lineNow 73 = .ok (.bipush 101, 2) := by decide +kernel
theorem dX8_lineNow_75 : decode cX8_lineNow 75 = .ok (.invokevirtual 68, 3) := by decide +kernel
theorem dX8_lineNow_78 : decode cX8_lineNow 78 = .ok (.ifCond .eq 7, 3) := by decide +kernel
theorem dX8_lineNow_81 : decode cX8_lineNow 81 = .ok (.iconst 2, 1) := by decide +kernel
theorem dX8_lineNow_82 : decode cX8_lineNow 82 = .ok (.goto 5, 3) := by decide +kernel
theorem dX8_lineNow_85 : decode cX8_lineNow 85 = .ok (.bipush (-4), 2) := by decide +kernel
theorem dX8_lineNow_87 : decode cX8_lineNow 87 = .ok (.ireturn, 1) := by decide +kernel
theorem dX8_reads_0 : decode cX8_reads 0 = .ok (.aload_n 0, 1) := by decide +kernel
theorem dX8_reads_1 : decode cX8_reads 1 = .ok (.getfield 49, 3) := by decide +kernel
theorem dX8_reads_4 : decode cX8_reads 4 = .ok (.ifCond .le 4, 3) := by decide +kernel
theorem dX8_reads_7 : decode cX8_reads 7 = .ok (.return_, 1) := by decide +kernel
theorem dX8_reads_8 : decode cX8_reads 8 = .ok (.aload_n 0, 1) := by decide +kernel
theorem dX8_reads_9 : decode cX8_reads 9 = .ok (.aload_n 0, 1) := by decide +kernel
theorem dX8_reads_10 : decode cX8_reads 10 = .ok (.getfield 61, 3) := by decide +kernel
theorem dX8_reads_13 : decode cX8_reads 13 = .ok (.invokevirtual 64, 3) := by decide +kernel
theorem dX8_reads_16 : decode cX8_reads 16 = .ok (.bipush 32, 2) := by decide +kernel
theorem dX8_reads_18 : decode cX8_reads 18 = .ok (.if_icmp .ne 16, 3) := by decide +kernel
theorem dX8_reads_21 : decode cX8_reads 21 = .ok (.aload_n 0, 1) := by decide +kernel
theorem dX8_reads_22 : decode cX8_reads 22 = .ok (.dup, 1) := by decide +kernel
theorem dX8_reads_23 : decode cX8_reads 23 = .ok (.getfield 61, 3) := by decide +kernel
theorem dX8_reads_26 : decode cX8_reads 26 = .ok (.iconst 1, 1) := by decide +kernel
theorem dX8_reads_27 : decode cX8_reads 27 = .ok (.iadd, 1) := by decide +kernel
theorem dX8_reads_28 : decode cX8_reads 28 = .ok (.putfield 61, 3) := by decide +kernel
theorem dX8_reads_31 : decode cX8_reads 31 = .ok (.goto (-23), 3) := by decide +kernel
theorem dX8_reads_34 : decode cX8_reads 34 = .ok (.aload_n 0, 1) := by decide +kernel
theorem dX8_reads_35 : decode cX8_reads 35 = .ok (.aload_n 0, 1) := by decide +kernel
theorem dX8_reads_36 : decode cX8_reads 36 = .ok (.getfield 61, 3) := by decide +kernel
theorem dX8_reads_39 : decode cX8_reads 39 = .ok (.putfield 52, 3) := by decide +kernel
theorem dX8_reads_42 : decode cX8_reads 42 = .ok (.aload_n 0, 1) := by decide +kernel
theorem dX8_reads_43 : decode cX8_reads 43 = .ok (.aload_n 0, 1) := by decide +kernel
theorem dX8_reads_44 : decode cX8_reads 44 = .ok (.getfield 61, 3) := by decide +kernel
theorem dX8_reads_47 : decode cX8_reads 47 = .ok (.invokevirtual 64, 3) := by decide +kernel
theorem dX8_reads_50 : decode cX8_reads 50 = .ok (.istore_n 1, 1) := by decide +kernel
theorem dX8_reads_51 : decode cX8_reads 51 = .ok (.iload_n 1, 1) := by decide +kernel
theorem dX8_reads_52 : decode cX8_reads 52 = .ok (.ifCond .ge 11, 3) := by decide +kernel
theorem dX8_reads_55 : decode cX8_reads 55 = .ok (.aload_n 0, 1) := by decide +kernel
theorem dX8_reads_56 : decode cX8_reads 56 = .ok (.iconst 0, 1) := by decide +kernel
theorem dX8_reads_57 : decode cX8_reads 57 = .ok (.putfield 58, 3) := by decide +kernel
theorem dX8_reads_60 : decode cX8_reads 60 = .ok (.goto 214, 3) := by decide +kernel
theorem dX8_reads_63 : decode cX8_reads 63 = .ok (.iload_n 1, 1) := by decide +kernel
theorem dX8_reads_64 : decode cX8_reads 64 = .ok (.i2l, 1) := by decide +kernel
theorem dX8_reads_65 : decode cX8_reads 65 = .ok (.ldc2_w 72, 3) := by decide +kernel
theorem dX8_reads_68 : decode cX8_reads 68 = .ok (.ldc2_w 74, 3) := by decide +kernel
theorem dX8_reads_71 : decode cX8_reads 71 = .ok (.invokestatic 41, 3) := by decide +kernel
theorem dX8_reads_74 : decode cX8_reads 74 = .ok (.ifCond .eq 42, 3) := by decide +kernel
theorem dX8_reads_77 : decode cX8_reads 77 = .ok (.aload_n 0, 1) := by decide +kernel
theorem dX8_reads_78 : decode cX8_reads 78 = .ok (.iconst 1, 1) := by decide +kernel
theorem dX8_reads_79 : decode cX8_reads 79 = .ok (.putfield 58, 3) := by decide +kernel
theorem dX8_reads_82 : decode cX8_reads 82 = .ok (.aload_n 0, 1) := by decide +kernel
theorem dX8_reads_83 : decode cX8_reads 83 = .ok (.aload_n 0, 1) := by decide +kernel
theorem dX8_reads_84 : decode cX8_reads 84 = .ok (.getfield 61, 3) := by decide +kernel
theorem dX8_reads_87 : decode cX8_reads 87 = .ok (.invokevirtual 64, 3) := by decide +kernel
theorem dX8_reads_90 : decode cX8_reads 90 = .ok (.i2l, 1) := by decide +kernel
theorem dX8_reads_91 : decode cX8_reads 91 = .ok (.ldc2_w 72, 3) := by decide +kernel
theorem dX8_reads_94 : decode cX8_reads 94 = .ok (.ldc2_w 74, 3) := by decide +kernel
theorem dX8_reads_97 : decode cX8_reads 97 = .ok (.invokestatic 41, 3) := by decide +kernel
theorem dX8_reads_100 : decode cX8_reads 100 = .ok (.ifCond .eq 174, 3) := by decide +kernel
theorem dX8_reads_103 : decode cX8_reads 103 = .ok (.aload_n 0, 1) := by decide +kernel
theorem dX8_reads_104 : decode cX8_reads 104 = .ok (.dup, 1) := by decide +kernel
theorem dX8_reads_105 : decode cX8_reads 105 = .ok (.getfield 61, 3) := by decide +kernel
theorem dX8_reads_108 : decode cX8_reads 108 = .ok (.iconst 1, 1) := by decide +kernel
theorem dX8_reads_109 : decode cX8_reads 109 = .ok (.iadd, 1) := by decide +kernel
theorem dX8_reads_110 : decode cX8_reads 110 = .ok (.putfield 61, 3) := by decide +kernel
theorem dX8_reads_113 : decode cX8_reads 113 = .ok (.goto (-31), 3) := by decide +kernel
theorem dX8_reads_116 : decode cX8_reads 116 = .ok (.iload_n 1, 1) := by decide +kernel
theorem dX8_reads_117 : decode cX8_reads 117 = .ok (.i2l, 1) := by decide +kernel
theorem dX8_reads_118 : decode cX8_reads 118 = .ok (.ldc2_w 76, 3) := by decide +kernel
theorem dX8_reads_121 : decode cX8_reads 121 = .ok (.ldc2_w 78, 3) := by decide +kernel
theorem dX8_reads_124 : decode cX8_reads 124 = .ok (.invokestatic 41, 3) := by decide +kernel
theorem dX8_reads_127 : decode cX8_reads 127 = .ok (.ifCond .eq 116, 3) := by decide +kernel
theorem dX8_reads_130 : decode cX8_reads 130 = .ok (.aload_n 0, 1) := by decide +kernel
theorem dX8_reads_131 : decode cX8_reads 131 = .ok (.iconst 2, 1) := by decide +kernel
theorem dX8_reads_132 : decode cX8_reads 132 = .ok (.putfield 58, 3) := by decide +kernel
theorem dX8_reads_135 : decode cX8_reads 135 = .ok (.aload_n 0, 1) := by decide +kernel
theorem dX8_reads_136 : decode cX8_reads 136 = .ok (.iconst 0, 1) := by decide +kernel
theorem dX8_reads_137 : decode cX8_reads 137 = .ok (.putfield 80, 3) := by decide +kernel
theorem dX8_reads_140 : decode cX8_reads 140 = .ok (.aload_n 0, 1) := by decide +kernel
theorem dX8_reads_141 : decode cX8_reads 141 = .ok (.aload_n 0, 1) := by decide +kernel
theorem dX8_reads_142 : decode cX8_reads 142 = .ok (.getfield 61, 3) := by decide +kernel
theorem dX8_reads_145 : decode cX8_reads 145 = .ok (.invokevirtual 64, 3) := by decide +kernel
theorem dX8_reads_148 : decode cX8_reads 148 = .ok (.i2l, 1) := by decide +kernel
theorem dX8_reads_149 : decode cX8_reads 149 = .ok (.ldc2_w 76, 3) := by decide +kernel
theorem dX8_reads_152 : decode cX8_reads 152 = .ok (.ldc2_w 78, 3) := by decide +kernel
theorem dX8_reads_155 : decode cX8_reads 155 = .ok (.invokestatic 41, 3) := by decide +kernel
theorem dX8_reads_158 : decode cX8_reads 158 = .ok (.ifCond .eq 59, 3) := by decide +kernel
theorem dX8_reads_161 : decode cX8_reads 161 = .ok (.aload_n 0, 1) := by decide +kernel
theorem dX8_reads_162 : decode cX8_reads 162 = .ok (.aload_n 0, 1) := by decide +kernel
theorem dX8_reads_163 : decode cX8_reads 163 = .ok (.getfield 61, 3) := by decide +kernel
theorem dX8_reads_166 : decode cX8_reads 166 = .ok (.aload_n 0, 1) := by decide +kernel
theorem dX8_reads_167 : decode cX8_reads 167 = .ok (.getfield 52, 3) := by decide +kernel
theorem dX8_reads_170 : decode cX8_reads 170 = .ok (.isub, 1) := by decide +kernel
theorem dX8_reads_171 : decode cX8_reads 171 = .ok (.iconst 2, 1) := by decide +kernel
theorem dX8_reads_172 : decode cX8_reads 172 = .ok (.if_icmp .ge 25, 3) := by decide +kernel
theorem dX8_reads_175 : decode cX8_reads 175 = .ok (.bipush 10, 2) := by decide +kernel
theorem dX8_reads_177 : decode cX8_reads 177 = .ok (.aload_n 0, 1) := by decide +kernel
theorem dX8_reads_178 : decode cX8_reads 178 = .ok (.getfield 80, 3) := by decide +kernel
theorem dX8_reads_181 : decode cX8_reads 181 = .ok (.imul, 1) := by decide +kernel
theorem dX8_reads_182 : decode cX8_reads 182 = .ok (.aload_n 0, 1) := by decide +kernel
theorem dX8_reads_183 : decode cX8_reads 183 = .ok (.aload_n 0, 1) := by decide +kernel
theorem dX8_reads_184 : decode cX8_reads 184 = .ok (.getfield 61, 3) := by decide +kernel
theorem dX8_reads_187 : decode cX8_reads 187 = .ok (.invokevirtual 64, 3) := by decide +kernel
theorem dX8_reads_190 : decode cX8_reads 190 = .ok (.iadd, 1) := by decide +kernel
theorem dX8_reads_191 : decode cX8_reads 191 = .ok (.bipush 48, 2) := by decide +kernel
theorem dX8_reads_193 : decode cX8_reads 193 = .ok (.isub, 1) := by decide +kernel
theorem dX8_reads_194 : decode cX8_reads 194 = .ok (.goto 7, 3) := by decide +kernel
theorem dX8_reads_197 : decode cX8_reads 197 = .ok (.aload_n 0, 1) := by decide +kernel
theorem dX8_reads_198 : decode cX8_reads 198 = .ok (.getfield 80, 3) := by decide +kernel
theorem dX8_reads_201 : decode cX8_reads 201 = .ok (.putfield 80, 3) := by decide +kernel
theorem dX8_reads_204 : decode cX8_reads 204 = .ok (.aload_n 0, 1) := by decide +kernel
theorem dX8_reads_205 : decode cX8_reads 205 = .ok (.dup, 1) := by decide +kernel
theorem dX8_reads_206 : decode cX8_reads 206 = .ok (.getfield 61, 3) := by decide +kernel
theorem dX8_reads_209 : decode cX8_reads 209 = .ok (.iconst 1, 1) := by decide +kernel
theorem dX8_reads_210 : decode cX8_reads 210 = .ok (.iadd, 1) := by decide +kernel
theorem dX8_reads_211 : decode cX8_reads 211 = .ok (.putfield 61, 3) := by decide +kernel
theorem dX8_reads_214 : decode cX8_reads 214 = .ok (.goto (-74), 3) := by decide +kernel
theorem dX8_reads_217 : decode cX8_reads 217 = .ok (.aload_n 0, 1) := by decide +kernel
theorem dX8_reads_218 : decode cX8_reads 218 = .ok (.aload_n 0, 1) := by decide +kernel
theorem dX8_reads_219 : decode cX8_reads 219 = .ok (.getfield 61, 3) := by decide +kernel
theorem dX8_reads_222 : decode cX8_reads 222 = .ok (.aload_n 0, 1) := by decide +kernel
theorem dX8_reads_223 : decode cX8_reads 223 = .ok (.getfield 52, 3) := by decide +kernel
theorem dX8_reads_226 : decode cX8_reads 226 = .ok (.isub, 1) := by decide +kernel
theorem dX8_reads_227 : decode cX8_reads 227 = .ok (.iconst 2, 1) := by decide +kernel
theorem dX8_reads_228 : decode cX8_reads 228 = .ok (.if_icmp .gt 7, 3) := by decide +kernel
theorem dX8_reads_231 : decode cX8_reads 231 = .ok (.iconst 1, 1) := by decide +kernel
theorem dX8_reads_232 : decode cX8_reads 232 = .ok (.goto 4, 3) := by decide +kernel
theorem dX8_reads_235 : decode cX8_reads 235 = .ok (.iconst 0, 1) := by decide +kernel
theorem dX8_reads_236 : decode cX8_reads 236 = .ok (.iconst 1, 1) := by decide +kernel
theorem dX8_reads_237 : decode cX8_reads 237 = .ok (.invokevirtual 83, 3) := by decide +kernel
theorem dX8_reads_240 : decode cX8_reads 240 = .ok (.goto 34, 3) := by decide +kernel
theorem dX8_reads_243 : decode cX8_reads 243 = .ok (.aload_n 0, 1) := by decide +kernel
theorem dX8_reads_244 : decode cX8_reads 244 = .ok (.iconst 3, 1) := by decide +kernel
theorem dX8_reads_245 : decode cX8_reads 245 = .ok (.putfield 58, 3) := by decide +kernel
theorem dX8_reads_248 : decode cX8_reads 248 = .ok (.aload_n 0, 1) := by decide +kernel
theorem dX8_reads_249 : decode cX8_reads 249 = .ok (.iload_n 1, 1) := by decide +kernel
theorem dX8_reads_250 : decode cX8_reads 250 = .ok (.bipush 59, 2) := by decide +kernel
theorem dX8_reads_252 : decode cX8_reads 252 = .ok (.if_icmp .ne 7, 3) := by decide +kernel
theorem dX8_reads_255 : decode cX8_reads 255 = .ok (.iconst 1, 1) := by decide +kernel
theorem dX8_reads_256 : decode cX8_reads 256 = .ok (.goto 4, 3) := by decide +kernel
theorem dX8_reads_259 : decode cX8_reads 259 = .ok (.iconst 0, 1) := by decide +kernel
theorem dX8_reads_260 : decode cX8_reads 260 = .ok (.iconst 1, 1) := by decide +kernel
theorem dX8_reads_261 : decode cX8_reads 261 = .ok (.invokevirtual 83, 3) := by decide +kernel
theorem dX8_reads_264 : decode cX8_reads 264 = .ok (.aload_n 0, 1) := by decide +kernel
theorem dX8_reads_265 : decode cX8_reads 265 = .ok (.dup, 1) := by decide +kernel
theorem dX8_reads_266 : decode cX8_reads 266 = .ok (.getfield 61, 3) := by decide +kernel
theorem dX8_reads_269 : decode cX8_reads 269 = .ok (.iconst 1, 1) := by decide +kernel
theorem dX8_reads_270 : decode cX8_reads 270 = .ok (.iadd, 1) := by decide +kernel
theorem dX8_reads_271 : decode cX8_reads 271 = .ok (.putfield 61, 3) := by decide +kernel
theorem dX8_reads_274 : decode cX8_reads 274 = .ok (.return_, 1) := by decide +kernel
theorem dX8_readNumber_0 : decode cX8_readNumber 0 = .ok (.aload_n 0, 1) := by decide +kernel
theorem dX8_readNumber_1 : decode cX8_readNumber 1 = .ok (.getfield 49, 3) := by decide +kernel
theorem dX8_readNumber_4 : decode cX8_readNumber 4 = .ok (.ifCond .ne 21, 3) := by decide +kernel
theorem dX8_readNumber_7 : decode cX8_readNumber 7 = .ok (.aload_n 0, 1) := by decide +kernel
theorem dX8_readNumber_8 : decode cX8_readNumber 8 = .ok (.aload_n 0, 1) := by decide +kernel
theorem dX8_readNumber_9 : decode cX8_readNumber 9 = .ok (.getfield 58, 3) := by decide +kernel
theorem dX8_readNumber_12 : decode cX8_readNumber 12 = .ok (.iconst 2, 1) := by decide +kernel
theorem dX8_readNumber_13 : decode cX8_readNumber 13 = .ok (.if_icmp .ne 7, 3) := by decide +kernel
theorem dX8_readNumber_16 : decode cX8_readNumber 16 = .ok (.iconst 1, 1) := by decide +kernel
theorem dX8_readNumber_17 : decode cX8_readNumber 17 = .ok (.goto 4, 3) := by decide +kernel
theorem dX8_readNumber_20 : decode cX8_readNumber 20 = .ok (.iconst 0, 1) := by decide +kernel
theorem dX8_readNumber_21 : decode cX8_readNumber 21 = .ok (.iconst 2, 1) := by decide +kernel
theorem dX8_readNumber_22 : decode cX8_readNumber 22 = .ok (.invokevirtual 83, 3) := by decide +kernel
theorem dX8_readNumber_25 : decode cX8_readNumber 25 = .ok (.aload_n 0, 1) := by decide +kernel
theorem dX8_readNumber_26 : decode cX8_readNumber 26 = .ok (.getfield 49, 3) := by decide +kernel
theorem dX8_readNumber_29 : decode cX8_readNumber 29 = .ok (.ifCond .ne 20, 3) := by decide +kernel
theorem dX8_readNumber_32 : decode cX8_readNumber 32 = .ok (.aload_n 0, 1) := by decide +kernel
theorem dX8_readNumber_33 : decode cX8_readNumber 33 = .ok (.aload_n 0, 1) := by decide +kernel
theorem dX8_readNumber_34 : decode cX8_readNumber 34 = .ok (.getfield 80, 3) := by decide +kernel
theorem dX8_readNumber_37 : decode cX8_readNumber 37 = .ok (.i2l, 1) := by decide +kernel
theorem dX8_readNumber_38 : decode cX8_readNumber 38 = .ok (.iload_n 1, 1) := by decide +kernel
theorem dX8_readNumber_39 : decode cX8_readNumber 39 = .ok (.i2l, 1) := by decide +kernel
theorem dX8_readNumber_40 : decode cX8_readNumber 40 = .ok (.iload_n 2, 1) := by decide +kernel
theorem dX8_readNumber_41 : decode cX8_readNumber 41 = .ok (.i2l, 1) := by decide +kernel
theorem dX8_readNumber_42 : decode cX8_readNumber 42 = .ok (.invokestatic 41, 3) := by decide +kernel
theorem dX8_readNumber_45 : decode cX8_readNumber 45 = .ok (.iconst 3, 1) := by decide +kernel
theorem dX8_readNumber_46 : decode cX8_readNumber 46 = .ok (.invokevirtual 83, 3) := by decide +kernel
theorem dX8_readNumber_49 : decode cX8_readNumber 49 = .ok (.aload_n 0, 1) := by decide +kernel
theorem dX8_readNumber_50 : decode cX8_readNumber 50 = .ok (.getfield 49, 3) := by decide +kernel
theorem dX8_readNumber_53 : decode cX8_readNumber 53 = .ok (.ifCond .ne 10, 3) := by decide +kernel
theorem dX8_readNumber_56 : decode cX8_readNumber 56 = .ok (.aload_n 0, 1) := by decide +kernel
theorem dX8_readNumber_57 : decode cX8_readNumber 57 = .ok (.getfield 80, 3) := by decide +kernel
theorem dX8_readNumber_60 : decode cX8_readNumber 60 = .ok (.goto 4, 3) := by decide +kernel
theorem dX8_readNumber_63 : decode cX8_readNumber 63 = .ok (.iconst 0, 1) := by decide +kernel
theorem dX8_readNumber_64 : decode cX8_readNumber 64 = .ok (.istore_n 3, 1) := by decide +kernel
theorem dX8_readNumber_65 : decode cX8_readNumber 65 = .ok (.aload_n 0, 1) := by decide +kernel
theorem dX8_readNumber_66 : decode cX8_readNumber 66 = .ok (.invokevirtual 87, 3) := by decide +kernel
theorem dX8_readNumber_69 : decode cX8_readNumber 69 = .ok (.iload_n 3, 1) := by decide +kernel
theorem dX8_readNumber_70 : decode cX8_readNumber 70 = .ok (.ireturn, 1) := by decide +kernel
theorem dX8_requiresStop_0 : decode cX8_requiresStop 0 = .ok (.aload_n 0, 1) := by decide +kernel
theorem dX8_requiresStop_1 : decode cX8_requiresStop 1 = .ok (.getfield 49, 3) := by decide +kernel
theorem dX8_requiresStop_4 : decode cX8_requiresStop 4 = .ok (.ifCond .ne 21, 3) := by decide +kernel
theorem dX8_requiresStop_7 : decode cX8_requiresStop 7 = .ok (.aload_n 0, 1) := by decide +kernel
theorem dX8_requiresStop_8 : decode cX8_requiresStop 8 = .ok (.aload_n 0, 1) := by decide +kernel
theorem dX8_requiresStop_9 : decode cX8_requiresStop 9 = .ok (.getfield 58, 3) := by decide +kernel
theorem dX8_requiresStop_12 : decode cX8_requiresStop 12 = .ok (.iconst 3, 1) := by decide +kernel
theorem dX8_requiresStop_13 : decode cX8_requiresStop 13 = .ok (.if_icmp .ne 7, 3) := by decide +kernel
theorem dX8_requiresStop_16 : decode cX8_requiresStop 16 = .ok (.iconst 1, 1) := by decide +kernel
theorem dX8_requiresStop_17 : decode cX8_requiresStop 17 = .ok (.goto 4, 3) := by decide +kernel
theorem dX8_requiresStop_20 : decode cX8_requiresStop 20 = .ok (.iconst 0, 1) := by decide +kernel
theorem dX8_requiresStop_21 : decode cX8_requiresStop 21 = .ok (.iconst 2, 1) := by decide +kernel
theorem dX8_requiresStop_22 : decode cX8_requiresStop 22 = .ok (.invokevirtual 83, 3) := by decide +kernel
theorem dX8_requiresStop_25 : decode cX8_requiresStop 25 = .ok (.return_, 1) := by decide +kernel
theorem dX8_readVolume_0 : decode cX8_readVolume 0 = .ok (.aload_n 0, 1) := by decide +kernel
theorem dX8_readVolume_1 : decode cX8_readVolume 1 = .ok (.aload_n 0, 1) := by decide +kernel
theorem dX8_readVolume_2 : decode cX8_readVolume 2 = .ok (.invokevirtual 90, 3) := by decide +kernel
theorem dX8_readVolume_5 : decode cX8_readVolume 5 = .ok (.ifCond .ne 7, 3) := by decide +kernel
theorem dX8_readVolume_8 : decode cX8_readVolume 8 = .ok (.iconst 1, 1) := by decide +kernel
theorem dX8_readVolume_9 : decode cX8_readVolume 9 = .ok (.goto 4, 3) := by decide +kernel
theorem dX8_readVolume_12 : decode cX8_readVolume 12 = .ok (.iconst 0, 1) := by decide +kernel
theorem dX8_readVolume_13 : decode cX8_readVolume 13 = .ok (.iconst 2, 1) := by decide +kernel
theorem dX8_readVolume_14 : decode cX8_readVolume 14 = .ok (.invokevirtual 83, 3) := by decide +kernel
theorem dX8_readVolume_17 : decode cX8_readVolume 17 = .ok (.aload_n 0, 1) := by decide +kernel
theorem dX8_readVolume_18 : decode cX8_readVolume 18 = .ok (.invokevirtual 87, 3) := by decide +kernel
theorem dX8_readVolume_21 : decode cX8_readVolume 21 = .ok (.aload_n 0, 1) := by decide +kernel
theorem dX8_readVolume_22 : decode cX8_readVolume 22 = .ok (.iconst 1, 1) := by decide +kernel
theorem dX8_readVolume_23 : decode cX8_readVolume 23 = .ok (.iconst 4, 1) := by decide +kernel
theorem dX8_readVolume_24 : decode cX8_readVolume 24 = .ok (.invokevirtual 93, 3) := by decide +kernel
theorem dX8_readVolume_27 : decode cX8_readVolume 27 = .ok (.istore_n 1, 1) := by decide +kernel
theorem dX8_readVolume_28 : decode cX8_readVolume 28 = .ok (.aload_n 0, 1) := by decide +kernel
theorem dX8_readVolume_29 : decode cX8_readVolume 29 = .ok (.iconst 1, 1) := by decide +kernel
theorem dX8_readVolume_30 : decode cX8_readVolume 30 = .ok (.bipush 8, 2) := by decide +kernel
theorem dX8_readVolume_32 : decode cX8_readVolume 32 = .ok (.invokevirtual 93, 3) := by decide +kernel
theorem dX8_readVolume_35 : decode cX8_readVolume 35 = .ok (.istore_n 2, 1) := by decide +kernel
theorem dX8_readVolume_36 : decode cX8_readVolume 36 = .ok (.aload_n 0, 1) := by decide +kernel
theorem dX8_readVolume_37 : decode cX8_readVolume 37 = .ok (.iconst 1, 1) := by decide +kernel
theorem dX8_readVolume_38 : decode cX8_readVolume 38 = .ok (.bipush 6, 2) := by decide +kernel
theorem dX8_readVolume_40 : decode cX8_readVolume 40 = .ok (.invokevirtual 93, 3) := by decide +kernel
theorem dX8_readVolume_43 : decode cX8_readVolume 43 = .ok (.istore_n 3, 1) := by decide +kernel
theorem dX8_readVolume_44 : decode cX8_readVolume 44 = .ok (.aload_n 0, 1) := by decide +kernel
theorem dX8_readVolume_45 : decode cX8_readVolume 45 = .ok (.iconst 0, 1) := by decide +kernel
theorem dX8_readVolume_46 : decode cX8_readVolume 46 = .ok (.iconst 3, 1) := by decide +kernel
theorem dX8_readVolume_47 : decode cX8_readVolume 47 = .ok (.invokevirtual 93, 3) := by decide +kernel
theorem dX8_readVolume_50 : decode cX8_readVolume 50 = .ok (.istore 4, 2) := by decide +kernel
theorem dX8_readVolume_52 : decode cX8_readVolume 52 = .ok (.aload_n 0, 1) := by decide +kernel
theorem dX8_readVolume_53 : decode cX8_readVolume 53 = .ok (.iconst 0, 1) := by decide +kernel
theorem dX8_readVolume_54 : decode cX8_readVolume 54 = .ok (.bipush 99, 2) := by decide +kernel
theorem dX8_readVolume_56 : decode cX8_readVolume 56 = .ok (.invokevirtual 93, 3) := by decide +kernel
theorem dX8_readVolume_59 : decode cX8_readVolume 59 = .ok (.istore 5, 2) := by decide +kernel
theorem dX8_readVolume_61 : decode cX8_readVolume 61 = .ok (.aload_n 0, 1) := by decide +kernel
theorem dX8_readVolume_62 : decode cX8_readVolume 62 = .ok (.iconst 1, 1) := by decide +kernel
theorem dX8_readVolume_63 : decode cX8_readVolume 63 = .ok (.bipush 8, 2) := by decide +kernel
theorem dX8_readVolume_65 : decode cX8_readVolume 65 = .ok (.invokevirtual 93, 3) := by decide +kernel
theorem dX8_readVolume_68 : decode cX8_readVolume 68 = .ok (.istore 6, 2) := by decide +kernel
theorem dX8_readVolume_70 : decode cX8_readVolume 70 = .ok (.aload_n 0, 1) := by decide +kernel
theorem dX8_readVolume_71 : decode cX8_readVolume 71 = .ok (.invokevirtual 97, 3) := by decide +kernel
theorem dX8_readVolume_74 : decode cX8_readVolume 74 = .ok (.aload_n 0, 1) := by decide +kernel
theorem dX8_readVolume_75 : decode cX8_readVolume 75 = .ok (.getfield 49, 3) := by decide +kernel
theorem dX8_readVolume_78 : decode cX8_readVolume 78 = .ok (.ifCond .ne 52, 3) := by decide +kernel
theorem dX8_readVolume_81 : decode cX8_readVolume 81 = .ok (.aload_n 0, 1) := by decide +kernel
theorem dX8_readVolume_82 : decode cX8_readVolume 82 = .ok (.getfield 7, 3) := by decide +kernel
theorem dX8_readVolume_85 : decode cX8_readVolume 85 = .ok (.iconst 0, 1) := by decide +kernel
theorem dX8_readVolume_86 : decode cX8_readVolume 86 = .ok (.iload_n 1, 1) := by decide +kernel
theorem dX8_readVolume_87 : decode cX8_readVolume 87 = .ok (.iastore, 1) := by decide +kernel
theorem dX8_readVolume_88 : decode cX8_readVolume 88 = .ok (.aload_n 0, 1) := by decide +kernel
theorem dX8_readVolume_89 : decode cX8_readVolume 89 = .ok (.getfield 7, 3) := by decide +kernel
theorem dX8_readVolume_92 : decode cX8_readVolume 92 = .ok (.iconst 1, 1) := by decide +kernel
theorem dX8_readVolume_93 : decode cX8_readVolume 93 = .ok (.iload_n 2, 1) := by decide +kernel
theorem dX8_readVolume_94 : decode cX8_readVolume 94 = .ok (.iastore, 1) := by decide +kernel
theorem dX8_readVolume_95 : decode cX8_readVolume 95 = .ok (.aload_n 0, 1) := by decide +kernel
theorem dX8_readVolume_96 : decode cX8_readVolume 96 = .ok (.getfield 7, 3) := by decide +kernel
theorem dX8_readVolume_99 : decode cX8_readVolume 99 = .ok (.iconst 2, 1) := by decide +kernel
theorem dX8_readVolume_100 : decode cX8_readVolume 100 = .ok (.iload_n 3, 1) := by decide +kernel
theorem dX8_readVolume_101 : decode cX8_readVolume 101 = .ok (.iastore, 1) := by decide +kernel
theorem dX8_readVolume_102 : decode cX8_readVolume 102 = .ok (.aload_n 0, 1) := by decide +kernel
theorem dX8_readVolume_103 : decode cX8_readVolume 103 = .ok (.getfield 7, 3) := by decide +kernel
theorem dX8_readVolume_106 : decode cX8_readVolume 106 = .ok (.iconst 3, 1) := by decide +kernel
theorem dX8_readVolume_107 : decode cX8_readVolume 107 = .ok (.iload 4, 2) := by decide +kernel
theorem dX8_readVolume_109 : decode cX8_readVolume 109 = .ok (.iastore, 1) := by decide +kernel
theorem dX8_readVolume_110 : decode cX8_readVolume 110 = .ok (.aload_n 0, 1) := by decide +kernel
theorem dX8_readVolume_111 : decode cX8_readVolume 111 = .ok (.getfield 7, 3) := by decide +kernel
theorem dX8_readVolume_114 : decode cX8_readVolume 114 = .ok (.iconst 4, 1) := by decide +kernel
theorem dX8_readVolume_115 : decode cX8_readVolume 115 = .ok (.iload 5, 2) := by decide +kernel
theorem dX8_readVolume_117 : decode cX8_readVolume 117 = .ok (.iastore, 1) := by decide +kernel
theorem dX8_readVolume_118 : decode cX8_readVolume 118 = .ok (.aload_n 0, 1) := by decide +kernel
theorem dX8_readVolume_119 : decode cX8_readVolume 119 = .ok (.getfield 7, 3) := by decide +kernel
theorem dX8_readVolume_122 : decode cX8_readVolume 122 = .ok (.iconst 5, 1) := by decide +kernel
theorem dX8_readVolume_123 : decode cX8_readVolume 123 = .ok (.iload 6, 2) := by decide +kernel
theorem dX8_readVolume_125 : decode cX8_readVolume 125 = .ok (.iastore, 1) := by decide +kernel
theorem dX8_readVolume_126 : decode cX8_readVolume 126 = .ok (.aload_n 0, 1) := by decide +kernel
theorem dX8_readVolume_127 : decode cX8_readVolume 127 = .ok (.invokevirtual 32, 3) := by decide +kernel
theorem dX8_readVolume_130 : decode cX8_readVolume 130 = .ok (.aload_n 0, 1) := by decide +kernel
theorem dX8_readVolume_131 : decode cX8_readVolume 131 = .ok (.invokevirtual 87, 3) := by decide +kernel
theorem dX8_readVolume_134 : decode cX8_readVolume 134 = .ok (.return_, 1) := by decide +kernel
theorem dX8_readLine_0 : decode cX8_readLine 0 = .ok (.aload_n 0, 1) := by decide +kernel
theorem dX8_readLine_1 : decode cX8_readLine 1 = .ok (.invokevirtual 90, 3) := by decide +kernel
theorem dX8_readLine_4 : decode cX8_readLine 4 = .ok (.istore_n 1, 1) := by decide +kernel
theorem dX8_readLine_5 : decode cX8_readLine 5 = .ok (.aload_n 0, 1) := by decide +kernel
theorem dX8_readLine_6 : decode cX8_readLine 6 = .ok (.iload_n 1, 1) := by decide +kernel
theorem dX8_readLine_7 : decode cX8_readLine 7 = .ok (.iconst 1, 1) := by decide +kernel
theorem dX8_readLine_8 : decode cX8_readLine 8 = .ok (.if_icmp .eq 8, 3) := by decide +kernel
theorem dX8_readLine_11 : decode cX8_readLine 11 = .ok (.iload_n 1, 1) := by decide +kernel
theorem dX8_readLine_12 : decode cX8_readLine 12 = .ok (.iconst 2, 1) := by decide +kernel
theorem dX8_readLine_13 : decode cX8_readLine 13 = .ok (.if_icmp .ne 7, 3) := by decide +kernel
theorem dX8_readLine_16 : decode cX8_readLine 16 = .ok (.iconst 1, 1) := by decide +kernel
theorem dX8_readLine_17 : decode cX8_readLine 17 = .ok (.goto 4, 3) := by decide +kernel
theorem dX8_readLine_20 : decode cX8_readLine 20 = .ok (.iconst 0, 1) := by decide +kernel
theorem dX8_readLine_21 : decode cX8_readLine 21 = .ok (.iconst 2, 1) := by decide +kernel
theorem dX8_readLine_22 : decode cX8_readLine 22 = .ok (.invokevirtual 83, 3) := by decide +kernel
theorem dX8_readLine_25 : decode cX8_readLine 25 = .ok (.aload_n 0, 1) := by decide +kernel
theorem dX8_readLine_26 : decode cX8_readLine 26 = .ok (.invokevirtual 87, 3) := by decide +kernel
theorem dX8_readLine_29 : decode cX8_readLine 29 = .ok (.aload_n 0, 1) := by decide +kernel
theorem dX8_readLine_30 : decode cX8_readLine 30 = .ok (.iconst 0, 1) := by decide +kernel
theorem dX8_readLine_31 : decode cX8_readLine 31 = .ok (.aload_n 0, 1) := by decide +kernel
theorem dX8_readLine_32 : decode cX8_readLine 32 = .ok (.getfield 100, 3) := by decide +kernel
theorem dX8_readLine_35 : decode cX8_readLine 35 = .ok (.invokevirtual 93, 3) := by decide +kernel
theorem dX8_readLine_38 : decode cX8_readLine 38 = .ok (.istore_n 2, 1) := by decide +kernel
theorem dX8_readLine_39 : decode cX8_readLine 39 = .ok (.aload_n 0, 1) := by decide +kernel
theorem dX8_readLine_40 : decode cX8_readLine 40 = .ok (.iconst 0, 1) := by decide +kernel
theorem dX8_readLine_41 : decode cX8_readLine 41 = .ok (.bipush 9, 2) := by decide +kernel
theorem dX8_readLine_43 : decode cX8_readLine 43 = .ok (.invokevirtual 93, 3) := by decide +kernel
theorem dX8_readLine_46 : decode cX8_readLine 46 = .ok (.istore_n 3, 1) := by decide +kernel
theorem dX8_readLine_47 : decode cX8_readLine 47 = .ok (.iload_n 1, 1) := by decide +kernel
theorem dX8_readLine_48 : decode cX8_readLine 48 = .ok (.iconst 2, 1) := by decide +kernel
theorem dX8_readLine_49 : decode cX8_readLine 49 = .ok (.if_icmp .ne 20, 3) := by decide +kernel
theorem dX8_readLine_52 : decode cX8_readLine 52 = .ok (.aload_n 0, 1) := by decide +kernel
theorem dX8_readLine_53 : decode cX8_readLine 53 = .ok (.getfield 49, 3) := by decide +kernel
theorem dX8_readLine_56 : decode cX8_readLine 56 = .ok (.ifCond .ne 13, 3) := by decide +kernel
theorem dX8_readLine_59 : decode cX8_readLine 59 = .ok (.aload_n 0, 1) := by decide +kernel
theorem dX8_readLine_60 : decode cX8_readLine 60 = .ok (.iconst 0, 1) := by decide +kernel
theorem dX8_readLine_61 : decode cX8_readLine 61 = .ok (.bipush 40, 2) := by decide +kernel
theorem dX8_readLine_63 : decode cX8_readLine 63 = .ok (.invokevirtual 93, 3) := by decide +kernel
theorem dX8_readLine_66 : decode cX8_readLine 66 = .ok (.goto 4, 3) := by decide +kernel
theorem dX8_readLine_69 : decode cX8_readLine 69 = .ok (.iconst 0, 1) := by decide +kernel
theorem dX8_readLine_70 : decode cX8_readLine 70 = .ok (.istore 4, 2) := by decide +kernel
theorem dX8_readLine_72 : decode cX8_readLine 72 = .ok (.aload_n 0, 1) := by decide +kernel
theorem dX8_readLine_73 : decode cX8_readLine 73 = .ok (.invokevirtual 97, 3) := by decide +kernel
theorem dX8_readLine_76 : decode cX8_readLine 76 = .ok (.aload_n 0, 1) := by decide +kernel
theorem dX8_readLine_77 : decode cX8_readLine 77 = .ok (.getfield 49, 3) := by decide +kernel
theorem dX8_readLine_80 : decode cX8_readLine 80 = .ok (.ifCond .ne 60, 3) := by decide +kernel
theorem dX8_readLine_83 : decode cX8_readLine 83 = .ok (.iload_n 2, 1) := by decide +kernel
theorem dX8_readLine_84 : decode cX8_readLine 84 = .ok (.ifCond .ne 7, 3) := by decide +kernel
theorem dX8_readLine_87 : decode cX8_readLine 87 = .ok (.iconst 0, 1) := by decide +kernel
theorem dX8_readLine_88 : decode cX8_readLine 88 = .ok (.goto 11, 3) := by decide +kernel
theorem dX8_readLine_91 : decode cX8_readLine 91 = .ok (.aload_n 0, 1) := by decide +kernel
theorem dX8_readLine_92 : decode cX8_readLine 92 = .ok (.getfield 29, 3) := by decide +kernel
theorem dX8_readLine_95 : decode cX8_readLine 95 = .ok (.iload_n 2, 1) := by decide +kernel
theorem dX8_readLine_96 : decode cX8_readLine 96 = .ok (.iconst 1, 1) := by decide +kernel
theorem dX8_readLine_97 : decode cX8_readLine 97 = .ok (.isub, 1) := by decide +kernel
theorem dX8_readLine_98 : decode cX8_readLine 98 = .ok (.iaload, 1) := by decide +kernel
theorem dX8_readLine_99 : decode cX8_readLine 99 = .ok (.istore 5, 2) := by decide +kernel
theorem dX8_readLine_101 : decode cX8_readLine 101 = .ok (.aload_n 0, 1) := by decide +kernel
theorem dX8_readLine_102 : decode cX8_readLine 102 = .ok (.aload_n 0, 1) := by decide +kernel
theorem dX8_readLine_103 : decode cX8_readLine 103 = .ok (.iload 5, 2) := by decide +kernel
theorem dX8_readLine_105 : decode cX8_readLine 105 = .ok (.iload_n 3, 1) := by decide +kernel
theorem dX8_readLine_106 : decode cX8_readLine 106 = .ok (.invokevirtual 103, 3) := by decide +kernel
theorem dX8_readLine_109 : decode cX8_readLine 109 = .ok (.bipush (-4), 2) := by decide +kernel
theorem dX8_readLine_111 : decode cX8_readLine 111 = .ok (.if_icmp .ne 7, 3) := by decide +kernel
theorem dX8_readLine_114 : decode cX8_readLine 114 = .ok (.iconst 1, 1) := by decide +kernel
theorem dX8_readLine_115 : decode cX8_readLine 115 = .ok (.goto 4, 3) := by decide +kernel
theorem dX8_readLine_118 : decode cX8_readLine 118 = .ok (.iconst 0, 1) := by decide +kernel
theorem dX8_readLine_119 : decode cX8_readLine 119 = .ok (.iconst 4, 1) := by decide +kernel
theorem dX8_readLine_120 : decode cX8_readLine 120 = .ok (.invokevirtual 83, 3) := by decide +kernel
theorem dX8_readLine_123 : decode cX8_readLine 123 = .ok (.aload_n 0, 1) := by decide +kernel
theorem dX8_readLine_124 : decode cX8_readLine 124 = .ok (.getfield 49, 3) := by decide +kernel
theorem dX8_readLine_127 : decode cX8_readLine 127 = .ok (.ifCond .ne 13, 3) := by decide +kernel
theorem dX8_readLine_130 : decode cX8_readLine 130 = .ok (.aload_n 0, 1) := by decide +kernel
theorem dX8_readLine_131 : decode cX8_readLine 131 = .ok (.iload 5, 2) := by decide +kernel
theorem dX8_readLine_133 : decode cX8_readLine 133 = .ok (.iload_n 3, 1) := by decide +kernel
theorem dX8_readLine_134 : decode cX8_readLine 134 = .ok (.iload_n 1, 1) := by decide +kernel
theorem dX8_readLine_135 : decode cX8_readLine 135 = .ok (.iload 4, 2) := by decide +kernel
theorem dX8_readLine_137 : decode cX8_readLine 137 = .ok (.invokevirtual 106, 3) := by decide +kernel
theorem dX8_readLine_140 : decode cX8_readLine 140 = .ok (.aload_n 0, 1) := by decide +kernel
theorem dX8_readLine_141 : decode cX8_readLine 141 = .ok (.invokevirtual 87, 3) := by decide +kernel
theorem dX8_readLine_144 : decode cX8_readLine 144 = .ok (.return_, 1) := by decide +kernel
theorem dX8_comes_0 : decode cX8_comes 0 = .ok (.aload_n 0, 1) := by decide +kernel
theorem dX8_comes_1 : decode cX8_comes 1 = .ok (.iload_n 1, 1) := by decide +kernel
theorem dX8_comes_2 : decode cX8_comes 2 = .ok (.iload_n 2, 1) := by decide +kernel
theorem dX8_comes_3 : decode cX8_comes 3 = .ok (.iload_n 3, 1) := by decide +kernel
theorem dX8_comes_4 : decode cX8_comes 4 = .ok (.invokevirtual 110, 3) := by decide +kernel
theorem dX8_comes_7 : decode cX8_comes 7 = .ok (.istore 5, 2) := by decide +kernel
theorem dX8_comes_9 : decode cX8_comes 9 = .ok (.aload_n 0, 1) := by decide +kernel
theorem dX8_comes_10 : decode cX8_comes 10 = .ok (.iload 5, 2) := by decide +kernel
theorem dX8_comes_12 : decode cX8_comes 12 = .ok (.ifCond .lt 7, 3) := by decide +kernel
theorem dX8_comes_15 : decode cX8_comes 15 = .ok (.iconst 1, 1) := by decide +kernel
theorem dX8_comes_16 : decode cX8_comes 16 = .ok (.goto 4, 3) := by decide +kernel
theorem dX8_comes_19 : decode cX8_comes 19 = .ok (.iconst 0, 1) := by decide +kernel
theorem dX8_comes_20 : decode cX8_comes 20 = .ok (.iconst 5, 1) := by decide +kernel
theorem dX8_comes_21 : decode cX8_comes 21 = .ok (.invokevirtual 83, 3) := by decide +kernel
theorem dX8_comes_24 : decode cX8_comes 24 = .ok (.aload_n 0, 1) := by decide +kernel
theorem dX8_comes_25 : decode cX8_comes 25 = .ok (.getfield 49, 3) := by decide +kernel
theorem dX8_comes_28 : decode cX8_comes 28 = .ok (.ifCond .ne 29, 3) := by decide +kernel
theorem dX8_comes_31 : decode cX8_comes 31 = .ok (.iload 4, 2) := by decide +kernel
theorem dX8_comes_33 : decode cX8_comes 33 = .ok (.ifCond .le 24, 3) := by decide +kernel
theorem dX8_comes_36 : decode cX8_comes 36 = .ok (.aload_n 0, 1) := by decide +kernel
theorem dX8_comes_37 : decode cX8_comes 37 = .ok (.aload_n 0, 1) := by decide +kernel
theorem dX8_comes_38 : decode cX8_comes 38 = .ok (.iload 5, 2) := by decide +kernel
theorem dX8_comes_40 : decode cX8_comes 40 = .ok (.iload 4, 2) := by decide +kernel
theorem dX8_comes_42 : decode cX8_comes 42 = .ok (.invokevirtual 114, 3) := by decide +kernel
theorem dX8_comes_45 : decode cX8_comes 45 = .ok (.ifCond .lt 7, 3) := by decide +kernel
theorem dX8_comes_48 : decode cX8_comes 48 = .ok (.iconst 1, 1) := by decide +kernel
theorem dX8_comes_49 : decode cX8_comes 49 = .ok (.goto 4, 3) := by decide +kernel
theorem dX8_comes_52 : decode cX8_comes 52 = .ok (.iconst 0, 1) := by decide +kernel
theorem dX8_comes_53 : decode cX8_comes 53 = .ok (.iconst 5, 1) := by decide +kernel
theorem dX8_comes_54 : decode cX8_comes 54 = .ok (.invokevirtual 83, 3) := by decide +kernel
theorem dX8_comes_57 : decode cX8_comes 57 = .ok (.aload_n 0, 1) := by decide +kernel
theorem dX8_comes_58 : decode cX8_comes 58 = .ok (.getfield 49, 3) := by decide +kernel
theorem dX8_comes_61 : decode cX8_comes 61 = .ok (.ifCond .ne 29, 3) := by decide +kernel
theorem dX8_comes_64 : decode cX8_comes 64 = .ok (.iload_n 3, 1) := by decide +kernel
theorem dX8_comes_65 : decode cX8_comes 65 = .ok (.iconst 1, 1) := by decide +kernel
theorem dX8_comes_66 : decode cX8_comes 66 = .ok (.if_icmp .ne 24, 3) := by decide +kernel
theorem dX8_comes_69 : decode cX8_comes 69 = .ok (.aload_n 0, 1) := by decide +kernel
theorem dX8_comes_70 : decode cX8_comes 70 = .ok (.getfield 29, 3) := by decide +kernel
theorem dX8_comes_73 : decode cX8_comes 73 = .ok (.aload_n 0, 1) := by decide +kernel
theorem dX8_comes_74 : decode cX8_comes 74 = .ok (.getfield 100, 3) := by decide +kernel
theorem dX8_comes_77 : decode cX8_comes 77 = .ok (.iload 5, 2) := by decide +kernel
theorem dX8_comes_79 : decode cX8_comes 79 = .ok (.iastore, 1) := by decide +kernel
theorem dX8_comes_80 : decode cX8_comes 80 = .ok (.aload_n 0, 1) := by decide +kernel
theorem dX8_comes_81 : decode cX8_comes 81 = .ok (.dup, 1) := by decide +kernel
theorem dX8_comes_82 : decode cX8_comes 82 = .ok (.getfield 100, 3) := by decide +kernel
theorem dX8_comes_85 : decode cX8_comes 85 = .ok (.iconst 1, 1) := by decide +kernel
theorem dX8_comes_86 : decode cX8_comes 86 = .ok (.iadd, 1) := by decide +kernel
theorem dX8_comes_87 : decode cX8_comes 87 = .ok (.putfield 100, 3) := by decide +kernel
theorem dX8_comes_90 : decode cX8_comes 90 = .ok (.return_, 1) := by decide +kernel
theorem dX8_text_0 : decode cX8_text 0 = .ok (.aload_n 0, 1) := by decide +kernel
theorem dX8_text_1 : decode cX8_text 1 = .ok (.iconst 0, 1) := by decide +kernel
theorem dX8_text_2 : decode cX8_text 2 = .ok (.putfield 49, 3) := by decide +kernel
theorem dX8_text_5 : decode cX8_text 5 = .ok (.aload_n 0, 1) := by decide +kernel
theorem dX8_text_6 : decode cX8_text 6 = .ok (.iconst 0, 1) := by decide +kernel
theorem dX8_text_7 : decode cX8_text 7 = .ok (.putfield 61, 3) := by decide +kernel
theorem dX8_text_10 : decode cX8_text 10 = .ok (.aload_n 0, 1) := by decide +kernel
theorem dX8_text_11 : decode cX8_text 11 = .ok (.iconst 0, 1) := by decide +kernel
theorem dX8_text_12 : decode cX8_text 12 = .ok (.putfield 100, 3) := by decide +kernel
theorem dX8_text_15 : decode cX8_text 15 = .ok (.aload_n 0, 1) := by decide +kernel
theorem dX8_text_16 : decode cX8_text 16 = .ok (.getfield 7, 3) := by decide +kernel
theorem dX8_text_19 : decode cX8_text 19 = .ok (.aload_n 0, 1) := by decide +kernel
theorem dX8_text_20 : decode cX8_text 20 = .ok (.getfield 16, 3) := by decide +kernel
theorem dX8_text_23 : decode cX8_text 23 = .ok (.invokestatic 117, 3) := by decide +kernel
theorem dX8_text_26 : decode cX8_text 26 = .ok (.aload_n 0, 1) := by decide +kernel
theorem dX8_text_27 : decode cX8_text 27 = .ok (.invokevirtual 87, 3) := by decide +kernel
theorem dX8_text_30 : decode cX8_text 30 = .ok (.aload_n 0, 1) := by decide +kernel
theorem dX8_text_31 : decode cX8_text 31 = .ok (.invokevirtual 121, 3) := by decide +kernel
theorem dX8_text_34 : decode cX8_text 34 = .ok (.aload_n 0, 1) := by decide +kernel
theorem dX8_text_35 : decode cX8_text 35 = .ok (.getfield 49, 3) := by decide +kernel
theorem dX8_text_38 : decode cX8_text 38 = .ok (.ifCond .ne 17, 3) := by decide +kernel
theorem dX8_text_41 : decode cX8_text 41 = .ok (.aload_n 0, 1) := by decide +kernel
theorem dX8_text_42 : decode cX8_text 42 = .ok (.getfield 58, 3) := by decide +kernel
theorem dX8_text_45 : decode cX8_text 45 = .ok (.ifCond .eq 10, 3) := by decide +kernel
theorem dX8_text_48 : decode cX8_text 48 = .ok (.aload_n 0, 1) := by decide +kernel
theorem dX8_text_49 : decode cX8_text 49 = .ok (.invokevirtual 124, 3) := by decide +kernel
theorem dX8_text_52 : decode cX8_text 52 = .ok (.goto (-18), 3) := by decide +kernel
theorem dX8_text_55 : decode cX8_text 55 = .ok (.aload_n 0, 1) := by decide +kernel
theorem dX8_text_56 : decode cX8_text 56 = .ok (.iconst 0, 1) := by decide +kernel
theorem dX8_text_57 : decode cX8_text 57 = .ok (.putfield 45, 3) := by decide +kernel
theorem dX8_text_60 : decode cX8_text 60 = .ok (.aload_n 0, 1) := by decide +kernel
theorem dX8_text_61 : decode cX8_text 61 = .ok (.getfield 49, 3) := by decide +kernel
theorem dX8_text_64 : decode cX8_text 64 = .ok (.ifCond .le 22, 3) := by decide +kernel
theorem dX8_text_67 : decode cX8_text 67 = .ok (.aload_n 0, 1) := by decide +kernel
theorem dX8_text_68 : decode cX8_text 68 = .ok (.getfield 16, 3) := by decide +kernel
theorem dX8_text_71 : decode cX8_text 71 = .ok (.aload_n 0, 1) := by decide +kernel
theorem dX8_text_72 : decode cX8_text 72 = .ok (.getfield 7, 3) := by decide +kernel
theorem dX8_text_75 : decode cX8_text 75 = .ok (.invokestatic 117, 3) := by decide +kernel
theorem dX8_text_78 : decode cX8_text 78 = .ok (.bipush (-10), 2) := by decide +kernel
theorem dX8_text_80 : decode cX8_text 80 = .ok (.aload_n 0, 1) := by decide +kernel
theorem dX8_text_81 : decode cX8_text 81 = .ok (.getfield 55, 3) := by decide +kernel
theorem dX8_text_84 : decode cX8_text 84 = .ok (.isub, 1) := by decide +kernel
theorem dX8_text_85 : decode cX8_text 85 = .ok (.ireturn, 1) := by decide +kernel
theorem dX8_text_86 : decode cX8_text 86 = .ok (.aload_n 0, 1) := by decide +kernel
theorem dX8_text_87 : decode cX8_text 87 = .ok (.getfield 7, 3) := by decide +kernel
theorem dX8_text_90 : decode cX8_text 90 = .ok (.bipush 6, 2) := by decide +kernel
theorem dX8_text_92 : decode cX8_text 92 = .ok (.iconst 0, 1) := by decide +kernel
theorem dX8_text_93 : decode cX8_text 93 = .ok (.iastore, 1) := by decide +kernel
theorem dX8_text_94 : decode cX8_text 94 = .ok (.aload_n 0, 1) := by decide +kernel
theorem dX8_text_95 : decode cX8_text 95 = .ok (.getfield 7, 3) := by decide +kernel
theorem dX8_text_98 : decode cX8_text 98 = .ok (.bipush 7, 2) := by decide +kernel
theorem dX8_text_100 : decode cX8_text 100 = .ok (.iconst 0, 1) := by decide +kernel
theorem dX8_text_101 : decode cX8_text 101 = .ok (.iastore, 1) := by decide +kernel
theorem dX8_text_102 : decode cX8_text 102 = .ok (.aload_n 0, 1) := by decide +kernel
theorem dX8_text_103 : decode cX8_text 103 = .ok (.invokevirtual 127, 3) := by decide +kernel
theorem dX8_text_106 : decode cX8_text 106 = .ok (.aload_n 0, 1) := by decide +kernel
theorem dX8_text_107 : decode cX8_text 107 = .ok (.invokevirtual 130, 3) := by decide +kernel
theorem dX8_text_110 : decode cX8_text 110 = .ok (.ireturn, 1) := by decide +kernel
theorem dX8_fault_0 : decode cX8_fault 0 = .ok (.aload_n 0, 1) := by decide +kernel
theorem dX8_fault_1 : decode cX8_fault 1 = .ok (.getfield 49, 3) := by decide +kernel
theorem dX8_fault_4 : decode cX8_fault 4 = .ok (.ireturn, 1) := by decide +kernel
theorem dX8_fragments_0 : decode cX8_fragments 0 = .ok (.iconst 4, 1) := by decide +kernel
theorem dX8_fragments_1 : decode cX8_fragments 1 = .ok (.aload_n 0, 1) := by decide +kernel
theorem dX8_fragments_2 : decode cX8_fragments 2 = .ok (.getfield 7, 3) := by decide +kernel
theorem dX8_fragments_5 : decode cX8_fragments 5 = .ok (.iconst 0, 1) := by decide +kernel
theorem dX8_fragments_6 : decode cX8_fragments 6 = .ok (.iaload, 1) := by decide +kernel
theorem dX8_fragments_7 : decode cX8_fragments 7 = .ok (.imul, 1) := by decide +kernel
theorem dX8_fragments_8 : decode cX8_fragments 8 = .ok (.aload_n 0, 1) := by decide +kernel
theorem dX8_fragments_9 : decode cX8_fragments 9 = .ok (.getfield 7, 3) := by decide +kernel
theorem dX8_fragments_12 : decode cX8_fragments 12 = .ok (.iconst 1, 1) := by decide +kernel
theorem dX8_fragments_13 : decode cX8_fragments 13 = .ok (.iaload, 1) := by decide +kernel
theorem dX8_fragments_14 : decode cX8_fragments 14 = .ok (.imul, 1) := by decide +kernel
theorem dX8_fragments_15 : decode cX8_fragments 15 = .ok (.ireturn, 1) := by decide +kernel
theorem dX8_isFree_0 : decode cX8_isFree 0 = .ok (.aload_n 0, 1) := by decide +kernel
theorem dX8_isFree_1 : decode cX8_isFree 1 = .ok (.getfield 7, 3) := by decide +kernel
theorem dX8_isFree_4 : decode cX8_isFree 4 = .ok (.bipush 8, 2) := by decide +kernel
theorem dX8_isFree_6 : decode cX8_isFree 6 = .ok (.iload_n 1, 1) := by decide +kernel
theorem dX8_isFree_7 : decode cX8_isFree 7 = .ok (.iadd, 1) := by decide +kernel
theorem dX8_isFree_8 : decode cX8_isFree 8 = .ok (.iaload, 1) := by decide +kernel
theorem dX8_isFree_9 : decode cX8_isFree 9 = .ok (.iconst 1, 1) := by decide +kernel
theorem dX8_isFree_10 : decode cX8_isFree 10 = .ok (.if_icmp .ne 7, 3) := by decide +kernel
theorem dX8_isFree_13 : decode cX8_isFree 13 = .ok (.iconst 1, 1) := by decide +kernel
theorem dX8_isFree_14 : decode cX8_isFree 14 = .ok (.goto 4, 3) := by decide +kernel
theorem dX8_isFree_17 : decode cX8_isFree 17 = .ok (.iconst 0, 1) := by decide +kernel
theorem dX8_isFree_18 : decode cX8_isFree 18 = .ok (.ireturn, 1) := by decide +kernel
theorem dX8_lets_0 : decode cX8_lets 0 = .ok (.aload_n 0, 1) := by decide +kernel
theorem dX8_lets_1 : decode cX8_lets 1 = .ok (.getfield 7, 3) := by decide +kernel
theorem dX8_lets_4 : decode cX8_lets 4 = .ok (.bipush 8, 2) := by decide +kernel
theorem dX8_lets_6 : decode cX8_lets 6 = .ok (.iload_n 1, 1) := by decide +kernel
theorem dX8_lets_7 : decode cX8_lets 7 = .ok (.iadd, 1) := by decide +kernel
theorem dX8_lets_8 : decode cX8_lets 8 = .ok (.iload_n 2, 1) := by decide +kernel
theorem dX8_lets_9 : decode cX8_lets 9 = .ok (.invokestatic 133, 3) := by decide +kernel
theorem dX8_lets_12 : decode cX8_lets 12 = .ok (.iastore, 1) := by decide +kernel
theorem dX8_lets_13 : decode cX8_lets 13 = .ok (.return_, 1) := by decide +kernel
theorem dX8_letsAll_0 : decode cX8_letsAll 0 = .ok (.iconst 0, 1) := by decide +kernel
theorem dX8_letsAll_1 : decode cX8_letsAll 1 = .ok (.istore 4, 2) := by decide +kernel
theorem dX8_letsAll_3 : decode cX8_letsAll 3 = .ok (.iload 4, 2) := by decide +kernel
theorem dX8_letsAll_5 : decode cX8_letsAll 5 = .ok (.iload_n 2, 1) := by decide +kernel
theorem dX8_letsAll_6 : decode cX8_letsAll 6 = .ok (.if_icmp .ge 18, 3) := by decide +kernel
theorem dX8_letsAll_9 : decode cX8_letsAll 9 = .ok (.aload_n 0, 1) := by decide +kernel
theorem dX8_letsAll_10 : decode cX8_letsAll 10 = .ok (.iload_n 1, 1) := by decide +kernel
theorem dX8_letsAll_11 : decode cX8_letsAll 11 = .ok (.iload 4, 2) := by decide +kernel
theorem dX8_letsAll_13 : decode cX8_letsAll 13 = .ok (.iadd, 1) := by decide +kernel
theorem dX8_letsAll_14 : decode cX8_letsAll 14 = .ok (.iload_n 3, 1) := by decide +kernel
theorem dX8_letsAll_15 : decode cX8_letsAll 15 = .ok (.invokevirtual 137, 3) := by decide +kernel
theorem dX8_letsAll_18 : decode cX8_letsAll 18 = .ok (.iinc 4 1, 3) := by decide +kernel
theorem dX8_letsAll_21 : decode cX8_letsAll 21 = .ok (.goto (-18), 3) := by decide +kernel
theorem dX8_letsAll_24 : decode cX8_letsAll 24 = .ok (.return_, 1) := by decide +kernel
theorem dX8_areFree_0 : decode cX8_areFree 0 = .ok (.iconst 1, 1) := by decide +kernel
theorem dX8_areFree_1 : decode cX8_areFree 1 = .ok (.istore_n 3, 1) := by decide +kernel
theorem dX8_areFree_2 : decode cX8_areFree 2 = .ok (.iconst 0, 1) := by decide +kernel
theorem dX8_areFree_3 : decode cX8_areFree 3 = .ok (.istore 4, 2) := by decide +kernel
theorem dX8_areFree_5 : decode cX8_areFree 5 = .ok (.iload 4, 2) := by decide +kernel
theorem dX8_areFree_7 : decode cX8_areFree 7 = .ok (.iload_n 2, 1) := by decide +kernel
theorem dX8_areFree_8 : decode cX8_areFree 8 = .ok (.if_icmp .ge 30, 3) := by decide +kernel
theorem dX8_areFree_11 : decode cX8_areFree 11 = .ok (.iload_n 3, 1) := by decide +kernel
theorem dX8_areFree_12 : decode cX8_areFree 12 = .ok (.ifCond .eq 18, 3) := by decide +kernel
theorem dX8_areFree_15 : decode cX8_areFree 15 = .ok (.aload_n 0, 1) := by decide +kernel
theorem dX8_areFree_16 : decode cX8_areFree 16 = .ok (.iload_n 1, 1) := by decide +kernel
theorem dX8_areFree_17 : decode cX8_areFree 17 = .ok (.iload 4, 2) := by decide +kernel
theorem dX8_areFree_19 : decode cX8_areFree 19 = .ok (.iadd, 1) := by decide +kernel
theorem dX8_areFree_20 : decode cX8_areFree 20 = .ok (.invokevirtual 141, 3) := by decide +kernel
theorem dX8_areFree_23 : decode cX8_areFree 23 = .ok (.ifCond .eq 7, 3) := by decide +kernel
theorem dX8_areFree_26 : decode cX8_areFree 26 = .ok (.iconst 1, 1) := by decide +kernel
theorem dX8_areFree_27 : decode cX8_areFree 27 = .ok (.goto 4, 3) := by decide +kernel
theorem dX8_areFree_30 : decode cX8_areFree 30 = .ok (.iconst 0, 1) := by decide +kernel
theorem dX8_areFree_31 : decode cX8_areFree 31 = .ok (.istore_n 3, 1) := by decide +kernel
theorem dX8_areFree_32 : decode cX8_areFree 32 = .ok (.iinc 4 1, 3) := by decide +kernel
theorem dX8_areFree_35 : decode cX8_areFree 35 = .ok (.goto (-30), 3) := by decide +kernel
theorem dX8_areFree_38 : decode cX8_areFree 38 = .ok (.iload_n 3, 1) := by decide +kernel
theorem dX8_areFree_39 : decode cX8_areFree 39 = .ok (.ireturn, 1) := by decide +kernel
theorem dX8_isFreeBlock_0 : decode cX8_isFreeBlock 0 = .ok (.aload_n 0, 1) := by decide +kernel
theorem dX8_isFreeBlock_1 : decode cX8_isFreeBlock 1 = .ok (.iconst 4, 1) := by decide +kernel
theorem dX8_isFreeBlock_2 : decode cX8_isFreeBlock 2 = .ok (.iload_n 1, 1) := by decide +kernel
theorem dX8_isFreeBlock_3 : decode cX8_isFreeBlock 3 = .ok (.imul, 1) := by decide +kernel
theorem dX8_isFreeBlock_4 : decode cX8_isFreeBlock 4 = .ok (.iconst 4, 1) := by decide +kernel
theorem dX8_isFreeBlock_5 : decode cX8_isFreeBlock 5 = .ok (.invokevirtual 145, 3) := by decide +kernel
theorem dX8_isFreeBlock_8 : decode cX8_isFreeBlock 8 = .ok (.ireturn, 1) := by decide +kernel
theorem dX8_freeBlocks_0 : decode cX8_freeBlocks 0 = .ok (.iconst 0, 1) := by decide +kernel
theorem dX8_freeBlocks_1 : decode cX8_freeBlocks 1 = .ok (.istore_n 2, 1) := by decide +kernel
theorem dX8_freeBlocks_2 : decode cX8_freeBlocks 2 = .ok (.iconst 0, 1) := by decide +kernel
theorem dX8_freeBlocks_3 : decode cX8_freeBlocks 3 = .ok (.istore_n 3, 1) := by decide +kernel
theorem dX8_freeBlocks_4 : decode cX8_freeBlocks 4 = .ok (.iload_n 3, 1) := by decide +kernel
theorem dX8_freeBlocks_5 : decode cX8_freeBlocks 5 = .ok (.aload_n 0, 1) := by decide +kernel
theorem dX8_freeBlocks_6 : decode cX8_freeBlocks 6 = .ok (.getfield 7, 3) := by decide +kernel
theorem dX8_freeBlocks_9 : decode cX8_freeBlocks 9 = .ok (.iconst 1, 1) := by decide +kernel
theorem dX8_freeBlocks_10 : decode cX8_freeBlocks 10 = .ok (.iaload, 1) := by decide +kernel
theorem dX8_freeBlocks_11 : decode cX8_freeBlocks 11 = .ok (.if_icmp .ge 29, 3) := by decide +kernel
theorem dX8_freeBlocks_14 : decode cX8_freeBlocks 14 = .ok (.iload_n 2, 1) := by decide +kernel
theorem dX8_freeBlocks_15 : decode cX8_freeBlocks 15 = .ok (.aload_n 0, 1) := by decide +kernel
theorem dX8_freeBlocks_16 : decode cX8_freeBlocks 16 = .ok (.aload_n 0, 1) := by decide +kernel
theorem dX8_freeBlocks_17 : decode cX8_freeBlocks 17 = .ok (.getfield 7, 3) := by decide +kernel
theorem dX8_freeBlocks_20 : decode cX8_freeBlocks 20 = .ok (.iconst 1, 1) := by decide +kernel
theorem dX8_freeBlocks_21 : decode cX8_freeBlocks 21 = .ok (.iaload, 1) := by decide +kernel
theorem dX8_freeBlocks_22 : decode cX8_freeBlocks 22 = .ok (.iload_n 1, 1) := by decide +kernel
theorem dX8_freeBlocks_23 : decode cX8_freeBlocks 23 = .ok (.imul, 1) := by decide +kernel
theorem dX8_freeBlocks_24 : decode cX8_freeBlocks 24 = .ok (.iload_n 3, 1) := by decide +kernel
theorem dX8_freeBlocks_25 : decode cX8_freeBlocks 25 = .ok (.iadd, 1) := by decide +kernel
theorem dX8_freeBlocks_26 : decode cX8_freeBlocks 26 = .ok (.invokevirtual 149, 3) := by decide +kernel
theorem dX8_freeBlocks_29 : decode cX8_freeBlocks 29 = .ok (.invokestatic 133, 3) := by decide +kernel
theorem dX8_freeBlocks_32 : decode cX8_freeBlocks 32 = .ok (.iadd, 1) := by decide +kernel
theorem dX8_freeBlocks_33 : decode cX8_freeBlocks 33 = .ok (.istore_n 2, 1) := by decide +kernel
theorem dX8_freeBlocks_34 : decode cX8_freeBlocks 34 = .ok (.iinc 3 1, 3) := by decide +kernel
theorem dX8_freeBlocks_37 : decode cX8_freeBlocks 37 = .ok (.goto (-33), 3) := by decide +kernel
theorem dX8_freeBlocks_40 : decode cX8_freeBlocks 40 = .ok (.iload_n 2, 1) := by decide +kernel
theorem dX8_freeBlocks_41 : decode cX8_freeBlocks 41 = .ok (.ireturn, 1) := by decide +kernel
theorem dX8_allFreeBlocks_0 : decode cX8_allFreeBlocks 0 = .ok (.iconst 0, 1) := by decide +kernel
theorem dX8_allFreeBlocks_1 : decode cX8_allFreeBlocks 1 = .ok (.istore_n 1, 1) := by decide +kernel
theorem dX8_allFreeBlocks_2 : decode cX8_allFreeBlocks 2 = .ok (.iconst 0, 1) := by decide +kernel
theorem dX8_allFreeBlocks_3 : decode cX8_allFreeBlocks 3 = .ok (.istore_n 2, 1) := by decide +kernel
theorem dX8_allFreeBlocks_4 : decode cX8_allFreeBlocks 4 = .ok (.iload_n 2, 1) := by decide +kernel
theorem dX8_allFreeBlocks_5 : decode cX8_allFreeBlocks 5 = .ok (.aload_n 0, 1) := by decide +kernel
theorem dX8_allFreeBlocks_6 : decode cX8_allFreeBlocks 6 = .ok (.getfield 7, 3) := by decide +kernel
theorem dX8_allFreeBlocks_9 : decode cX8_allFreeBlocks 9 = .ok (.iconst 0, 1) := by decide +kernel
theorem dX8_allFreeBlocks_10 : decode cX8_allFreeBlocks 10 = .ok (.iaload, 1) := by decide +kernel
theorem dX8_allFreeBlocks_11 : decode cX8_allFreeBlocks 11 = .ok (.if_icmp .ge 17, 3) := by decide +kernel
theorem dX8_allFreeBlocks_14 : decode cX8_allFreeBlocks 14 = .ok (.iload_n 1, 1) := by decide +kernel
theorem dX8_allFreeBlocks_15 : decode cX8_allFreeBlocks 15 = .ok (.aload_n 0, 1) := by decide +kernel
theorem dX8_allFreeBlocks_16 : decode cX8_allFreeBlocks 16 = .ok (.iload_n 2, 1) := by decide +kernel
theorem dX8_allFreeBlocks_17 : decode cX8_allFreeBlocks 17 = .ok (.invokevirtual 152, 3) := by decide +kernel
theorem dX8_allFreeBlocks_20 : decode cX8_allFreeBlocks 20 = .ok (.iadd, 1) := by decide +kernel
theorem dX8_allFreeBlocks_21 : decode cX8_allFreeBlocks 21 = .ok (.istore_n 1, 1) := by decide +kernel
theorem dX8_allFreeBlocks_22 : decode cX8_allFreeBlocks 22 = .ok (.iinc 2 1, 3) := by decide +kernel
theorem dX8_allFreeBlocks_25 : decode cX8_allFreeBlocks 25 = .ok (.goto (-21), 3) := by decide +kernel
theorem dX8_allFreeBlocks_28 : decode cX8_allFreeBlocks 28 = .ok (.iload_n 1, 1) := by decide +kernel
theorem dX8_allFreeBlocks_29 : decode cX8_allFreeBlocks 29 = .ok (.ireturn, 1) := by decide +kernel
theorem dX8_freeIn_0 : decode cX8_freeIn 0 = .ok (.iconst 0, 1) := by decide +kernel
theorem dX8_freeIn_1 : decode cX8_freeIn 1 = .ok (.istore_n 3, 1) := by decide +kernel
theorem dX8_freeIn_2 : decode cX8_freeIn 2 = .ok (.iconst 0, 1) := by decide +kernel
theorem dX8_freeIn_3 : decode cX8_freeIn 3 = .ok (.istore 4, 2) := by decide +kernel
theorem dX8_freeIn_5 : decode cX8_freeIn 5 = .ok (.iload 4, 2) := by decide +kernel
theorem dX8_freeIn_7 : decode cX8_freeIn 7 = .ok (.iload_n 2, 1) := by decide +kernel
theorem dX8_freeIn_8 : decode cX8_freeIn 8 = .ok (.if_icmp .ge 23, 3) := by decide +kernel
theorem dX8_freeIn_11 : decode cX8_freeIn 11 = .ok (.iload_n 3, 1) := by decide +kernel
theorem dX8_freeIn_12 : decode cX8_freeIn 12 = .ok (.aload_n 0, 1) := by decide +kernel
theorem dX8_freeIn_13 : decode cX8_freeIn 13 = .ok (.iload_n 1, 1) := by decide +kernel
theorem dX8_freeIn_14 : decode cX8_freeIn 14 = .ok (.iload 4, 2) := by decide +kernel
theorem dX8_freeIn_16 : decode cX8_freeIn 16 = .ok (.iadd, 1) := by decide +kernel
theorem dX8_freeIn_17 : decode cX8_freeIn 17 = .ok (.invokevirtual 141, 3) := by decide +kernel
theorem dX8_freeIn_20 : decode cX8_freeIn 20 = .ok (.invokestatic 133, 3) := by decide +kernel
theorem dX8_freeIn_23 : decode cX8_freeIn 23 = .ok (.iadd, 1) := by decide +kernel
theorem dX8_freeIn_24 : decode cX8_freeIn 24 = .ok (.istore_n 3, 1) := by decide +kernel
theorem dX8_freeIn_25 : decode cX8_freeIn 25 = .ok (.iinc 4 1, 3) := by decide +kernel
theorem dX8_freeIn_28 : decode cX8_freeIn 28 = .ok (.goto (-23), 3) := by decide +kernel
theorem dX8_freeIn_31 : decode cX8_freeIn 31 = .ok (.iload_n 3, 1) := by decide +kernel
theorem dX8_freeIn_32 : decode cX8_freeIn 32 = .ok (.ireturn, 1) := by decide +kernel
theorem dX8_room_0 : decode cX8_room 0 = .ok (.aload_n 0, 1) := by decide +kernel
theorem dX8_room_1 : decode cX8_room 1 = .ok (.iconst 0, 1) := by decide +kernel
theorem dX8_room_2 : decode cX8_room 2 = .ok (.aload_n 0, 1) := by decide +kernel
theorem dX8_room_3 : decode cX8_room 3 = .ok (.invokevirtual 35, 3) := by decide +kernel
theorem dX8_room_6 : decode cX8_room 6 = .ok (.invokevirtual 155, 3) := by decide +kernel
theorem dX8_room_9 : decode cX8_room 9 = .ok (.ireturn, 1) := by decide +kernel
theorem dX8_runAt_0 : decode cX8_runAt 0 = .ok (.iload_n 1, 1) := by decide +kernel
theorem dX8_runAt_1 : decode cX8_runAt 1 = .ok (.iconst 4, 1) := by decide +kernel
theorem dX8_runAt_2 : decode cX8_runAt 2 = .ok (.idiv, 1) := by decide +kernel
theorem dX8_runAt_3 : decode cX8_runAt 3 = .ok (.iconst 4, 1) := by decide +kernel
theorem dX8_runAt_4 : decode cX8_runAt 4 = .ok (.imul, 1) := by decide +kernel
theorem dX8_runAt_5 : decode cX8_runAt 5 = .ok (.istore_n 2, 1) := by decide +kernel
theorem dX8_runAt_6 : decode cX8_runAt 6 = .ok (.aload_n 0, 1) := by decide +kernel
theorem dX8_runAt_7 : decode cX8_runAt 7 = .ok (.iload_n 1, 1) := by decide +kernel
theorem dX8_runAt_8 : decode cX8_runAt 8 = .ok (.invokevirtual 141, 3) := by decide +kernel
theorem dX8_runAt_11 : decode cX8_runAt 11 = .ok (.ifCond .eq 28, 3) := by decide +kernel
theorem dX8_runAt_14 : decode cX8_runAt 14 = .ok (.iload_n 1, 1) := by decide +kernel
theorem dX8_runAt_15 : decode cX8_runAt 15 = .ok (.iload_n 2, 1) := by decide +kernel
theorem dX8_runAt_16 : decode cX8_runAt 16 = .ok (.if_icmp .le 13, 3) := by decide +kernel
theorem dX8_runAt_19 : decode cX8_runAt 19 = .ok (.aload_n 0, 1) := by decide +kernel
theorem dX8_runAt_20 : decode cX8_runAt 20 = .ok (.iload_n 1, 1) := by decide +kernel
theorem dX8_runAt_21 : decode cX8_runAt 21 = .ok (.iconst 1, 1) := by decide +kernel
theorem dX8_runAt_22 : decode cX8_runAt 22 = .ok (.isub, 1) := by decide +kernel
theorem dX8_runAt_23 : decode cX8_runAt 23 = .ok (.invokevirtual 141, 3) := by decide +kernel
theorem dX8_runAt_26 : decode cX8_runAt 26 = .ok (.ifCond .ne 13, 3) := by decide +kernel
theorem dX8_runAt_29 : decode cX8_runAt 29 = .ok (.aload_n 0, 1) := by decide +kernel
theorem dX8_runAt_30 : decode cX8_runAt 30 = .ok (.iload_n 1, 1) := by decide +kernel
theorem dX8_runAt_31 : decode cX8_runAt 31 = .ok (.iconst 4, 1) := by decide +kernel
theorem dX8_runAt_32 : decode cX8_runAt 32 = .ok (.idiv, 1) := by decide +kernel
theorem dX8_runAt_33 : decode cX8_runAt 33 = .ok (.invokevirtual 149, 3) := by decide +kernel
theorem dX8_runAt_36 : decode cX8_runAt 36 = .ok (.ifCond .eq 5, 3) := by decide +kernel
theorem dX8_runAt_39 : decode cX8_runAt 39 = .ok (.iconst 0, 1) := by decide +kernel
theorem dX8_runAt_40 : decode cX8_runAt 40 = .ok (.ireturn, 1) := by decide +kernel
theorem dX8_runAt_41 : decode cX8_runAt 41 = .ok (.iconst 1, 1) := by decide +kernel
theorem dX8_runAt_42 : decode cX8_runAt 42 = .ok (.istore_n 3, 1) := by decide +kernel
theorem dX8_runAt_43 : decode cX8_runAt 43 = .ok (.iload_n 1, 1) := by decide +kernel
theorem dX8_runAt_44 : decode cX8_runAt 44 = .ok (.iload_n 3, 1) := by decide +kernel
theorem dX8_runAt_45 : decode cX8_runAt 45 = .ok (.iadd, 1) := by decide +kernel
theorem dX8_runAt_46 : decode cX8_runAt 46 = .ok (.iload_n 2, 1) := by decide +kernel
theorem dX8_runAt_47 : decode cX8_runAt 47 = .ok (.iconst 4, 1) := by decide +kernel
theorem dX8_runAt_48 : decode cX8_runAt 48 = .ok (.iadd, 1) := by decide +kernel
theorem dX8_runAt_49 : decode cX8_runAt 49 = .ok (.if_icmp .ge 19, 3) := by decide +kernel
theorem dX8_runAt_52 : decode cX8_runAt 52 = .ok (.aload_n 0, 1) := by decide +kernel
theorem dX8_runAt_53 : decode cX8_runAt 53 = .ok (.iload_n 1, 1) := by decide +kernel
theorem dX8_runAt_54 : decode cX8_runAt 54 = .ok (.iload_n 3, 1) := by decide +kernel
theorem dX8_runAt_55 : decode cX8_runAt 55 = .ok (.iadd, 1) := by decide +kernel
theorem dX8_runAt_56 : decode cX8_runAt 56 = .ok (.invokevirtual 141, 3) := by decide +kernel
theorem dX8_runAt_59 : decode cX8_runAt 59 = .ok (.ifCond .eq 9, 3) := by decide +kernel
theorem dX8_runAt_62 : decode cX8_runAt 62 = .ok (.iinc 3 1, 3) := by decide +kernel
theorem dX8_runAt_65 : decode cX8_runAt 65 = .ok (.goto (-22), 3) := by decide +kernel
theorem dX8_runAt_68 : decode cX8_runAt 68 = .ok (.iload_n 3, 1) := by decide +kernel
theorem dX8_runAt_69 : decode cX8_runAt 69 = .ok (.ireturn, 1) := by decide +kernel
theorem dX8_runs_0 : decode cX8_runs 0 = .ok (.iconst 0, 1) := by decide +kernel
theorem dX8_runs_1 : decode cX8_runs 1 = .ok (.istore_n 3, 1) := by decide +kernel
theorem dX8_runs_2 : decode cX8_runs 2 = .ok (.iconst 4, 1) := by decide +kernel
theorem dX8_runs_3 : decode cX8_runs 3 = .ok (.aload_n 0, 1) := by decide +kernel
theorem dX8_runs_4 : decode cX8_runs 4 = .ok (.getfield 7, 3) := by decide +kernel
theorem dX8_runs_7 : decode cX8_runs 7 = .ok (.iconst 1, 1) := by decide +kernel
theorem dX8_runs_8 : decode cX8_runs 8 = .ok (.iaload, 1) := by decide +kernel
theorem dX8_runs_9 : decode cX8_runs 9 = .ok (.imul, 1) := by decide +kernel
theorem dX8_runs_10 : decode cX8_runs 10 = .ok (.iload_n 1, 1) := by decide +kernel
theorem dX8_runs_11 : decode cX8_runs 11 = .ok (.imul, 1) := by decide +kernel
theorem dX8_runs_12 : decode cX8_runs 12 = .ok (.istore 4, 2) := by decide +kernel
theorem dX8_runs_14 : decode cX8_runs 14 = .ok (.iload 4, 2) := by decide +kernel
theorem dX8_runs_16 : decode cX8_runs 16 = .ok (.iconst 4, 1) := by decide +kernel
theorem dX8_runs_17 : decode cX8_runs 17 = .ok (.aload_n 0, 1) := by decide +kernel
theorem dX8_runs_18 : decode cX8_runs 18 = .ok (.getfield 7, 3) := by decide +kernel
theorem dX8_runs_21 : decode cX8_runs 21 = .ok (.iconst 1, 1) := by decide +kernel
theorem dX8_runs_22 : decode cX8_runs 22 = .ok (.iaload, 1) := by decide +kernel
theorem dX8_runs_23 : decode cX8_runs 23 = .ok (.imul, 1) := by decide +kernel
theorem dX8_runs_24 : decode cX8_runs 24 = .ok (.iload_n 1, 1) := by decide +kernel
theorem dX8_runs_25 : decode cX8_runs 25 = .ok (.iconst 1, 1) := by decide +kernel
theorem dX8_runs_26 : decode cX8_runs 26 = .ok (.iadd, 1) := by decide +kernel
theorem dX8_runs_27 : decode cX8_runs 27 = .ok (.imul, 1) := by decide +kernel
theorem dX8_runs_28 : decode cX8_runs 28 = .ok (.if_icmp .ge 30, 3) := by decide +kernel
theorem dX8_runs_31 : decode cX8_runs 31 = .ok (.iload_n 3, 1) := by decide +kernel
theorem dX8_runs_32 : decode cX8_runs 32 = .ok (.aload_n 0, 1) := by decide +kernel
theorem dX8_runs_33 : decode cX8_runs 33 = .ok (.iload 4, 2) := by decide +kernel
theorem dX8_runs_35 : decode cX8_runs 35 = .ok (.invokevirtual 158, 3) := by decide +kernel
theorem dX8_runs_38 : decode cX8_runs 38 = .ok (.iload_n 2, 1) := by decide +kernel
theorem dX8_runs_39 : decode cX8_runs 39 = .ok (.if_icmp .ne 7, 3) := by decide +kernel
theorem dX8_runs_42 : decode cX8_runs 42 = .ok (.iconst 1, 1) := by decide +kernel
theorem dX8_runs_43 : decode cX8_runs 43 = .ok (.goto 4, 3) := by decide +kernel
theorem dX8_runs_46 : decode cX8_runs 46 = .ok (.iconst 0, 1) := by decide +kernel
theorem dX8_runs_47 : decode cX8_runs 47 = .ok (.invokestatic 133, 3) := by decide +kernel
theorem dX8_runs_50 : decode cX8_runs 50 = .ok (.iadd, 1) := by decide +kernel
theorem dX8_runs_51 : decode cX8_runs 51 = .ok (.istore_n 3, 1) := by decide +kernel
theorem dX8_runs_52 : decode cX8_runs 52 = .ok (.iinc 4 1, 3) := by decide +kernel
theorem dX8_runs_55 : decode cX8_runs 55 = .ok (.goto (-41), 3) := by decide +kernel
theorem dX8_runs_58 : decode cX8_runs 58 = .ok (.iload_n 3, 1) := by decide +kernel
theorem dX8_runs_59 : decode cX8_runs 59 = .ok (.ireturn, 1) := by decide +kernel
theorem dX8_behind_0 : decode cX8_behind 0 = .ok (.iload_n 1, 1) := by decide +kernel
theorem dX8_behind_1 : decode cX8_behind 1 = .ok (.iload_n 2, 1) := by decide +kernel
theorem dX8_behind_2 : decode cX8_behind 2 = .ok (.iadd, 1) := by decide +kernel
theorem dX8_behind_3 : decode cX8_behind 3 = .ok (.aload_n 0, 1) := by decide +kernel
theorem dX8_behind_4 : decode cX8_behind 4 = .ok (.getfield 7, 3) := by decide +kernel
theorem dX8_behind_7 : decode cX8_behind 7 = .ok (.iconst 0, 1) := by decide +kernel
theorem dX8_behind_8 : decode cX8_behind 8 = .ok (.iaload, 1) := by decide +kernel
theorem dX8_behind_9 : decode cX8_behind 9 = .ok (.irem, 1) := by decide +kernel
theorem dX8_behind_10 : decode cX8_behind 10 = .ok (.ireturn, 1) := by decide +kernel
theorem dX8_blockNear_0 : decode cX8_blockNear 0 = .ok (.iconst 0, 1) := by decide +kernel
theorem dX8_blockNear_1 : decode cX8_blockNear 1 = .ok (.istore_n 3, 1) := by decide +kernel
theorem dX8_blockNear_2 : decode cX8_blockNear 2 = .ok (.iload_n 3, 1) := by decide +kernel
theorem dX8_blockNear_3 : decode cX8_blockNear 3 = .ok (.aload_n 0, 1) := by decide +kernel
theorem dX8_blockNear_4 : decode cX8_blockNear 4 = .ok (.getfield 7, 3) := by decide +kernel
theorem dX8_blockNear_7 : decode cX8_blockNear 7 = .ok (.iconst 0, 1) := by decide +kernel
theorem dX8_blockNear_8 : decode cX8_blockNear 8 = .ok (.iaload, 1) := by decide +kernel
theorem dX8_blockNear_9 : decode cX8_blockNear 9 = .ok (.if_icmp .ge 77, 3) := by decide +kernel
theorem dX8_blockNear_12 : decode cX8_blockNear 12 = .ok (.iconst 0, 1) := by decide +kernel
theorem dX8_blockNear_13 : decode cX8_blockNear 13 = .ok (.istore 4, 2) := by decide +kernel
theorem dX8_blockNear_15 : decode cX8_blockNear 15 = .ok (.iload 4, 2) := by decide +kernel
theorem dX8_blockNear_17 : decode cX8_blockNear 17 = .ok (.aload_n 0, 1) := by decide +kernel
theorem dX8_blockNear_18 : decode cX8_blockNear 18 = .ok (.getfield 7, 3) := by decide +kernel
theorem dX8_blockNear_21 : decode cX8_blockNear 21 = .ok (.iconst 1, 1) := by decide +kernel
theorem dX8_blockNear_22 : decode cX8_blockNear 22 = .ok (.iaload, 1) := by decide +kernel
theorem dX8_blockNear_23 : decode cX8_blockNear 23 = .ok (.if_icmp .ge 57, 3) := by decide +kernel
theorem dX8_blockNear_26 : decode cX8_blockNear 26 = .ok (.aload_n 0, 1) := by decide +kernel
theorem dX8_blockNear_27 : decode cX8_blockNear 27 = .ok (.getfield 7, 3) := by decide +kernel
theorem dX8_blockNear_30 : decode cX8_blockNear 30 = .ok (.iconst 1, 1) := by decide +kernel
theorem dX8_blockNear_31 : decode cX8_blockNear 31 = .ok (.iaload, 1) := by decide +kernel
theorem dX8_blockNear_32 : decode cX8_blockNear 32 = .ok (.aload_n 0, 1) := by decide +kernel
theorem dX8_blockNear_33 : decode cX8_blockNear 33 = .ok (.iload_n 1, 1) := by decide +kernel
theorem dX8_blockNear_34 : decode cX8_blockNear 34 = .ok (.iload_n 3, 1) := by decide +kernel
theorem dX8_blockNear_35 : decode cX8_blockNear 35 = .ok (.invokevirtual 161, 3) := by decide +kernel
theorem dX8_blockNear_38 : decode cX8_blockNear 38 = .ok (.imul, 1) := by decide +kernel
theorem dX8_blockNear_39 : decode cX8_blockNear 39 = .ok (.iload_n 3, 1) := by decide +kernel
theorem dX8_blockNear_40 : decode cX8_blockNear 40 = .ok (.ifCond .ne 17, 3) := by decide +kernel
theorem dX8_blockNear_43 : decode cX8_blockNear 43 = .ok (.iload_n 2, 1) := by decide +kernel
theorem dX8_blockNear_44 : decode cX8_blockNear 44 = .ok (.iload 4, 2) := by decide +kernel
theorem dX8_blockNear_46 : decode cX8_blockNear 46 = .ok (.iadd, 1) := by decide +kernel
theorem dX8_blockNear_47 : decode cX8_blockNear 47 = .ok (.aload_n 0, 1) := by decide +kernel
theorem dX8_blockNear_48 : decode cX8_blockNear 48 = .ok (.getfield 7, 3) := by decide +kernel
theorem dX8_blockNear_51 : decode cX8_blockNear 51 = .ok (.iconst 1, 1) := by decide +kernel
theorem dX8_blockNear_52 : decode cX8_blockNear 52 = .ok (.iaload, 1) := by decide +kernel
theorem dX8_blockNear_53 : decode cX8_blockNear 53 = .ok (.irem, 1) := by decide +kernel
theorem dX8_blockNear_54 : decode cX8_blockNear 54 = .ok (.goto 5, 3) := by decide +kernel
theorem dX8_blockNear_57 : decode cX8_blockNear 57 = .ok (.iload 4, 2) := by decide +kernel
theorem dX8_blockNear_59 : decode cX8_blockNear 59 = .ok (.iadd, 1) := by decide +kernel
theorem dX8_blockNear_60 : decode cX8_blockNear 60 = .ok (.istore 5, 2) := by decide +kernel
theorem dX8_blockNear_62 : decode cX8_blockNear 62 = .ok (.aload_n 0, 1) := by decide +kernel
theorem dX8_blockNear_63 : decode cX8_blockNear 63 = .ok (.iload 5, 2) := by decide +kernel
theorem dX8_blockNear_65 : decode cX8_blockNear 65 = .ok (.invokevirtual 149, 3) := by decide +kernel
theorem dX8_blockNear_68 : decode cX8_blockNear 68 = .ok (.ifCond .eq 6, 3) := by decide +kernel
theorem dX8_blockNear_71 : decode cX8_blockNear 71 = .ok (.iload 5, 2) := by decide +kernel
theorem dX8_blockNear_73 : decode cX8_blockNear 73 = .ok (.ireturn, 1) := by decide +kernel
theorem dX8_blockNear_74 : decode cX8_blockNear 74 = .ok (.iinc 4 1, 3) := by decide +kernel
theorem dX8_blockNear_77 : decode cX8_blockNear 77 = .ok (.goto (-62), 3) := by decide +kernel
theorem dX8_blockNear_80 : decode cX8_blockNear 80 = .ok (.iinc 3 1, 3) := by decide +kernel
theorem dX8_blockNear_83 : decode cX8_blockNear 83 = .ok (.goto (-81), 3) := by decide +kernel
theorem dX8_blockNear_86 : decode cX8_blockNear 86 = .ok (.bipush (-4), 2) := by decide +kernel
theorem dX8_blockNear_88 : decode cX8_blockNear 88 = .ok (.ireturn, 1) := by decide +kernel
theorem dX8_runIn_0 : decode cX8_runIn 0 = .ok (.iconst 4, 1) := by decide +kernel
theorem dX8_runIn_1 : decode cX8_runIn 1 = .ok (.aload_n 0, 1) := by decide +kernel
theorem dX8_runIn_2 : decode cX8_runIn 2 = .ok (.getfield 7, 3) := by decide +kernel
theorem dX8_runIn_5 : decode cX8_runIn 5 = .ok (.iconst 1, 1) := by decide +kernel
theorem dX8_runIn_6 : decode cX8_runIn 6 = .ok (.iaload, 1) := by decide +kernel
theorem dX8_runIn_7 : decode cX8_runIn 7 = .ok (.imul, 1) := by decide +kernel
theorem dX8_runIn_8 : decode cX8_runIn 8 = .ok (.iload_n 1, 1) := by decide +kernel
theorem dX8_runIn_9 : decode cX8_runIn 9 = .ok (.imul, 1) := by decide +kernel
theorem dX8_runIn_10 : decode cX8_runIn 10 = .ok (.istore_n 3, 1) := by decide +kernel
theorem dX8_runIn_11 : decode cX8_runIn 11 = .ok (.iload_n 2, 1) := by decide +kernel
theorem dX8_runIn_12 : decode cX8_runIn 12 = .ok (.istore 4, 2) := by decide +kernel
theorem dX8_runIn_14 : decode cX8_runIn 14 = .ok (.iload 4, 2) := by decide +kernel
theorem dX8_runIn_16 : decode cX8_runIn 16 = .ok (.iconst 4, 1) := by decide +kernel
theorem dX8_runIn_17 : decode cX8_runIn 17 = .ok (.if_icmp .ge 47, 3) := by decide +kernel
theorem dX8_runIn_20 : decode cX8_runIn 20 = .ok (.iload_n 3, 1) := by decide +kernel
theorem dX8_runIn_21 : decode cX8_runIn 21 = .ok (.istore 5, 2) := by decide +kernel
theorem dX8_runIn_23 : decode cX8_runIn 23 = .ok (.iload 5, 2) := by decide +kernel
theorem dX8_runIn_25 : decode cX8_runIn 25 = .ok (.iload_n 3, 1) := by decide +kernel
theorem dX8_runIn_26 : decode cX8_runIn 26 = .ok (.iconst 4, 1) := by decide +kernel
theorem dX8_runIn_27 : decode cX8_runIn 27 = .ok (.aload_n 0, 1) := by decide +kernel
theorem dX8_runIn_28 : decode cX8_runIn 28 = .ok (.getfield 7, 3) := by decide +kernel
theorem dX8_runIn_31 : decode cX8_runIn 31 = .ok (.iconst 1, 1) := by decide +kernel
theorem dX8_runIn_32 : decode cX8_runIn 32 = .ok (.iaload, 1) := by decide +kernel
theorem dX8_runIn_33 : decode cX8_runIn 33 = .ok (.imul, 1) := by decide +kernel
theorem dX8_runIn_34 : decode cX8_runIn 34 = .ok (.iadd, 1) := by decide +kernel
theorem dX8_runIn_35 : decode cX8_runIn 35 = .ok (.if_icmp .ge 23, 3) := by decide +kernel
theorem dX8_runIn_38 : decode cX8_runIn 38 = .ok (.aload_n 0, 1) := by decide +kernel
theorem dX8_runIn_39 : decode cX8_runIn 39 = .ok (.iload 5, 2) := by decide +kernel
theorem dX8_runIn_41 : decode cX8_runIn 41 = .ok (.invokevirtual 158, 3) := by decide +kernel
theorem dX8_runIn_44 : decode cX8_runIn 44 = .ok (.iload 4, 2) := by decide +kernel
theorem dX8_runIn_46 : decode cX8_runIn 46 = .ok (.if_icmp .ne 6, 3) := by decide +kernel
theorem dX8_runIn_49 : decode cX8_runIn 49 = .ok (.iload 5, 2) := by decide +kernel
theorem dX8_runIn_51 : decode cX8_runIn 51 = .ok (.ireturn, 1) := by decide +kernel
theorem dX8_runIn_52 : decode cX8_runIn 52 = .ok (.iinc 5 1, 3) := by decide +kernel
theorem dX8_runIn_55 : decode cX8_runIn 55 = .ok (.goto (-32), 3) := by decide +kernel
theorem dX8_runIn_58 : decode cX8_runIn 58 = .ok (.iinc 4 1, 3) := by decide +kernel
theorem dX8_runIn_61 : decode cX8_runIn 61 = .ok (.goto (-47), 3) := by decide +kernel
theorem dX8_runIn_64 : decode cX8_runIn 64 = .ok (.aload_n 0, 1) := by decide +kernel
theorem dX8_runIn_65 : decode cX8_runIn 65 = .ok (.getfield 7, 3) := by decide +kernel
theorem dX8_runIn_68 : decode cX8_runIn 68 = .ok (.iconst 1, 1) := by decide +kernel
theorem dX8_runIn_69 : decode cX8_runIn 69 = .ok (.iaload, 1) := by decide +kernel
theorem dX8_runIn_70 : decode cX8_runIn 70 = .ok (.iload_n 1, 1) := by decide +kernel
theorem dX8_runIn_71 : decode cX8_runIn 71 = .ok (.imul, 1) := by decide +kernel
theorem dX8_runIn_72 : decode cX8_runIn 72 = .ok (.istore 4, 2) := by decide +kernel
theorem dX8_runIn_74 : decode cX8_runIn 74 = .ok (.iload 4, 2) := by decide +kernel
theorem dX8_runIn_76 : decode cX8_runIn 76 = .ok (.aload_n 0, 1) := by decide +kernel
theorem dX8_runIn_77 : decode cX8_runIn 77 = .ok (.getfield 7, 3) := by decide +kernel
theorem dX8_runIn_80 : decode cX8_runIn 80 = .ok (.iconst 1, 1) := by decide +kernel
theorem dX8_runIn_81 : decode cX8_runIn 81 = .ok (.iaload, 1) := by decide +kernel
theorem dX8_runIn_82 : decode cX8_runIn 82 = .ok (.iload_n 1, 1) := by decide +kernel
theorem dX8_runIn_83 : decode cX8_runIn 83 = .ok (.iconst 1, 1) := by decide +kernel
theorem dX8_runIn_84 : decode cX8_runIn 84 = .ok (.iadd, 1) := by decide +kernel
theorem dX8_runIn_85 : decode cX8_runIn 85 = .ok (.imul, 1) := by decide +kernel
theorem dX8_runIn_86 : decode cX8_runIn 86 = .ok (.if_icmp .ge 23, 3) := by decide +kernel
theorem dX8_runIn_89 : decode cX8_runIn 89 = .ok (.aload_n 0, 1) := by decide +kernel
theorem dX8_runIn_90 : decode cX8_runIn 90 = .ok (.iload 4, 2) := by decide +kernel
theorem dX8_runIn_92 : decode cX8_runIn 92 = .ok (.invokevirtual 149, 3) := by decide +kernel
theorem dX8_runIn_95 : decode cX8_runIn 95 = .ok (.ifCond .eq 8, 3) := by decide +kernel
theorem dX8_runIn_98 : decode cX8_runIn 98 = .ok (.iconst 4, 1) := by decide +kernel
theorem dX8_runIn_99 : decode cX8_runIn 99 = .ok (.iload 4, 2) := by decide +kernel
theorem dX8_runIn_101 : decode cX8_runIn 101 = .ok (.imul, 1) := by decide +kernel
theorem dX8_runIn_102 : decode cX8_runIn 102 = .ok (.ireturn, 1) := by decide +kernel
theorem dX8_runIn_103 : decode cX8_runIn 103 = .ok (.iinc 4 1, 3) := by decide +kernel
theorem dX8_runIn_106 : decode cX8_runIn 106 = .ok (.goto (-32), 3) := by decide +kernel
theorem dX8_runIn_109 : decode cX8_runIn 109 = .ok (.bipush (-4), 2) := by decide +kernel
theorem dX8_runIn_111 : decode cX8_runIn 111 = .ok (.ireturn, 1) := by decide +kernel
theorem dX8_runNear_0 : decode cX8_runNear 0 = .ok (.iconst 0, 1) := by decide +kernel
theorem dX8_runNear_1 : decode cX8_runNear 1 = .ok (.istore_n 3, 1) := by decide +kernel
theorem dX8_runNear_2 : decode cX8_runNear 2 = .ok (.iload_n 3, 1) := by decide +kernel
theorem dX8_runNear_3 : decode cX8_runNear 3 = .ok (.aload_n 0, 1) := by decide +kernel
theorem dX8_runNear_4 : decode cX8_runNear 4 = .ok (.getfield 7, 3) := by decide +kernel
theorem dX8_runNear_7 : decode cX8_runNear 7 = .ok (.iconst 0, 1) := by decide +kernel
theorem dX8_runNear_8 : decode cX8_runNear 8 = .ok (.iaload, 1) := by decide +kernel
theorem dX8_runNear_9 : decode cX8_runNear 9 = .ok (.if_icmp .ge 32, 3) := by decide +kernel
theorem dX8_runNear_12 : decode cX8_runNear 12 = .ok (.aload_n 0, 1) := by decide +kernel
theorem dX8_runNear_13 : decode cX8_runNear 13 = .ok (.aload_n 0, 1) := by decide +kernel
theorem dX8_runNear_14 : decode cX8_runNear 14 = .ok (.iload_n 1, 1) := by decide +kernel
theorem dX8_runNear_15 : decode cX8_runNear 15 = .ok (.iload_n 3, 1) := by decide +kernel
theorem dX8_runNear_16 : decode cX8_runNear 16 = .ok (.invokevirtual 161, 3) := by decide +kernel
theorem dX8_runNear_19 : decode cX8_runNear 19 = .ok (.iload_n 2, 1) := by decide +kernel
theorem dX8_runNear_20 : decode cX8_runNear 20 = .ok (.invokevirtual 164, 3) := by decide +kernel
theorem dX8_runNear_23 : decode cX8_runNear 23 = .ok (.istore 4, 2) := by decide +kernel
theorem dX8_runNear_25 : decode cX8_runNear 25 = .ok (.iload 4, 2) := by decide +kernel
theorem dX8_runNear_27 : decode cX8_runNear 27 = .ok (.bipush (-4), 2) := by decide +kernel
theorem dX8_runNear_29 : decode cX8_runNear 29 = .ok (.if_icmp .eq 6, 3) := by decide +kernel
theorem dX8_runNear_32 : decode cX8_runNear 32 = .ok (.iload 4, 2) := by decide +kernel
theorem dX8_runNear_34 : decode cX8_runNear 34 = .ok (.ireturn, 1) := by decide +kernel
theorem dX8_runNear_35 : decode cX8_runNear 35 = .ok (.iinc 3 1, 3) := by decide +kernel
theorem dX8_runNear_38 : decode cX8_runNear 38 = .ok (.goto (-36), 3) := by decide +kernel
theorem dX8_runNear_41 : decode cX8_runNear 41 = .ok (.bipush (-4), 2) := by decide +kernel
theorem dX8_runNear_43 : decode cX8_runNear 43 = .ok (.ireturn, 1) := by decide +kernel
theorem dX8_inodes_0 : decode cX8_inodes 0 = .ok (.aload_n 0, 1) := by decide +kernel
theorem dX8_inodes_1 : decode cX8_inodes 1 = .ok (.getfield 7, 3) := by decide +kernel
theorem dX8_inodes_4 : decode cX8_inodes 4 = .ok (.iconst 0, 1) := by decide +kernel
theorem dX8_inodes_5 : decode cX8_inodes 5 = .ok (.iaload, 1) := by decide +kernel
theorem dX8_inodes_6 : decode cX8_inodes 6 = .ok (.aload_n 0, 1) := by decide +kernel
theorem dX8_inodes_7 : decode cX8_inodes 7 = .ok (.getfield 7, 3) := by decide +kernel
theorem dX8_inodes_10 : decode cX8_inodes 10 = .ok (.iconst 2, 1) := by decide +kernel
theorem dX8_inodes_11 : decode cX8_inodes 11 = .ok (.iaload, 1) := by decide +kernel
theorem dX8_inodes_12 : decode cX8_inodes 12 = .ok (.imul, 1) := by decide +kernel
theorem dX8_inodes_13 : decode cX8_inodes 13 = .ok (.ireturn, 1) := by decide +kernel
theorem dX8_isInode_0 : decode cX8_isInode 0 = .ok (.iload_n 1, 1) := by decide +kernel
theorem dX8_isInode_1 : decode cX8_isInode 1 = .ok (.i2l, 1) := by decide +kernel
theorem dX8_isInode_2 : decode cX8_isInode 2 = .ok (.lconst 0, 1) := by decide +kernel
theorem dX8_isInode_3 : decode cX8_isInode 3 = .ok (.aload_n 0, 1) := by decide +kernel
theorem dX8_isInode_4 : decode cX8_isInode 4 = .ok (.invokevirtual 167, 3) := by decide +kernel
theorem dX8_isInode_7 : decode cX8_isInode 7 = .ok (.iconst 1, 1) := by decide +kernel
theorem dX8_isInode_8 : decode cX8_isInode 8 = .ok (.isub, 1) := by decide +kernel
theorem dX8_isInode_9 : decode cX8_isInode 9 = .ok (.i2l, 1) := by decide +kernel
theorem dX8_isInode_10 : decode cX8_isInode 10 = .ok (.invokestatic 41, 3) := by decide +kernel
theorem dX8_isInode_13 : decode cX8_isInode 13 = .ok (.ireturn, 1) := by decide +kernel
theorem dX8_of_0 : decode cX8_of 0 = .ok (.aload_n 0, 1) := by decide +kernel
theorem dX8_of_1 : decode cX8_of 1 = .ok (.getfield 7, 3) := by decide +kernel
theorem dX8_of_4 : decode cX8_of 4 = .ok (.sipush 136, 3) := by decide +kernel
theorem dX8_of_7 : decode cX8_of 7 = .ok (.bipush 15, 2) := by decide +kernel
theorem dX8_of_9 : decode cX8_of 9 = .ok (.iload_n 1, 1) := by decide +kernel
theorem dX8_of_10 : decode cX8_of 10 = .ok (.imul, 1) := by decide +kernel
theorem dX8_of_11 : decode cX8_of 11 = .ok (.iadd, 1) := by decide +kernel
theorem dX8_of_12 : decode cX8_of 12 = .ok (.iload_n 2, 1) := by decide +kernel
theorem dX8_of_13 : decode cX8_of 13 = .ok (.iadd, 1) := by decide +kernel
theorem dX8_of_14 : decode cX8_of 14 = .ok (.iaload, 1) := by decide +kernel
theorem dX8_of_15 : decode cX8_of 15 = .ok (.ireturn, 1) := by decide +kernel
theorem dX8_sets_0 : decode cX8_sets 0 = .ok (.aload_n 0, 1) := by decide +kernel
theorem dX8_sets_1 : decode cX8_sets 1 = .ok (.getfield 7, 3) := by decide +kernel
theorem dX8_sets_4 : decode cX8_sets 4 = .ok (.sipush 136, 3) := by decide +kernel
theorem dX8_sets_7 : decode cX8_sets 7 = .ok (.bipush 15, 2) := by decide +kernel
theorem dX8_sets_9 : decode cX8_sets 9 = .ok (.iload_n 1, 1) := by decide +kernel
theorem dX8_sets_10 : decode cX8_sets 10 = .ok (.imul, 1) := by decide +kernel
theorem dX8_sets_11 : decode cX8_sets 11 = .ok (.iadd, 1) := by decide +kernel
theorem dX8_sets_12 : decode cX8_sets 12 = .ok (.iload_n 2, 1) := by decide +kernel
theorem dX8_sets_13 : decode cX8_sets 13 = .ok (.iadd, 1) := by decide +kernel
theorem dX8_sets_14 : decode cX8_sets 14 = .ok (.iload_n 3, 1) := by decide +kernel
theorem dX8_sets_15 : decode cX8_sets 15 = .ok (.iastore, 1) := by decide +kernel
theorem dX8_sets_16 : decode cX8_sets 16 = .ok (.return_, 1) := by decide +kernel
theorem dX8_isThere_0 : decode cX8_isThere 0 = .ok (.aload_n 0, 1) := by decide +kernel
theorem dX8_isThere_1 : decode cX8_isThere 1 = .ok (.iload_n 1, 1) := by decide +kernel
theorem dX8_isThere_2 : decode cX8_isThere 2 = .ok (.invokevirtual 170, 3) := by decide +kernel
theorem dX8_isThere_5 : decode cX8_isThere 5 = .ok (.ifCond .eq 16, 3) := by decide +kernel
theorem dX8_isThere_8 : decode cX8_isThere 8 = .ok (.aload_n 0, 1) := by decide +kernel
theorem dX8_isThere_9 : decode cX8_isThere 9 = .ok (.iload_n 1, 1) := by decide +kernel
theorem dX8_isThere_10 : decode cX8_isThere 10 = .ok (.iconst 0, 1) := by decide +kernel
theorem dX8_isThere_11 : decode cX8_isThere 11 = .ok (.invokevirtual 173, 3) := by decide +kernel
theorem dX8_isThere_14 : decode cX8_isThere 14 = .ok (.ifCond .eq 7, 3) := by decide +kernel
theorem dX8_isThere_17 : decode cX8_isThere 17 = .ok (.iconst 1, 1) := by decide +kernel
theorem dX8_isThere_18 : decode cX8_isThere 18 = .ok (.goto 4, 3) := by decide +kernel
theorem dX8_isThere_21 : decode cX8_isThere 21 = .ok (.iconst 0, 1) := by decide +kernel
theorem dX8_isThere_22 : decode cX8_isThere 22 = .ok (.ireturn, 1) := by decide +kernel
theorem dX8_isDirectory_0 : decode cX8_isDirectory 0 = .ok (.aload_n 0, 1) := by decide +kernel
theorem dX8_isDirectory_1 : decode cX8_isDirectory 1 = .ok (.iload_n 1, 1) := by decide +kernel
theorem dX8_isDirectory_2 : decode cX8_isDirectory 2 = .ok (.invokevirtual 170, 3) := by decide +kernel
theorem dX8_isDirectory_5 : decode cX8_isDirectory 5 = .ok (.ifCond .eq 17, 3) := by decide +kernel
theorem dX8_isDirectory_8 : decode cX8_isDirectory 8 = .ok (.aload_n 0, 1) := by decide +kernel
theorem dX8_isDirectory_9 : decode cX8_isDirectory 9 = .ok (.iload_n 1, 1) := by decide +kernel
theorem dX8_isDirectory_10 : decode cX8_isDirectory 10 = .ok (.iconst 0, 1) := by decide +kernel
theorem dX8_isDirectory_11 : decode cX8_isDirectory 11 = .ok (.invokevirtual 173, 3) := by decide +kernel
theorem dX8_isDirectory_14 : decode cX8_isDirectory 14 = .ok (.iconst 1, 1) := by decide +kernel
theorem dX8_isDirectory_15 : decode cX8_isDirectory 15 = .ok (.if_icmp .ne 7, 3) := by decide +kernel
theorem dX8_isDirectory_18 : decode cX8_isDirectory 18 = .ok (.iconst 1, 1) := by decide +kernel
theorem dX8_isDirectory_19 : decode cX8_isDirectory 19 = .ok (.goto 4, 3) := by decide +kernel
theorem dX8_isDirectory_22 : decode cX8_isDirectory 22 = .ok (.iconst 0, 1) := by decide +kernel
theorem dX8_isDirectory_23 : decode cX8_isDirectory 23 = .ok (.ireturn, 1) := by decide +kernel
theorem dX8_isFile_0 : decode cX8_isFile 0 = .ok (.aload_n 0, 1) := by decide +kernel
theorem dX8_isFile_1 : decode cX8_isFile 1 = .ok (.iload_n 1, 1) := by decide +kernel
theorem dX8_isFile_2 : decode cX8_isFile 2 = .ok (.invokevirtual 170, 3) := by decide +kernel
theorem dX8_isFile_5 : decode cX8_isFile 5 = .ok (.ifCond .eq 17, 3) := by decide +kernel
theorem dX8_isFile_8 : decode cX8_isFile 8 = .ok (.aload_n 0, 1) := by decide +kernel
theorem dX8_isFile_9 : decode cX8_isFile 9 = .ok (.iload_n 1, 1) := by decide +kernel
theorem dX8_isFile_10 : decode cX8_isFile 10 = .ok (.iconst 0, 1) := by decide +kernel
theorem dX8_isFile_11 : decode cX8_isFile 11 = .ok (.invokevirtual 173, 3) := by decide +kernel
theorem dX8_isFile_14 : decode cX8_isFile 14 = .ok (.iconst 2, 1) := by decide +kernel
theorem dX8_isFile_15 : decode cX8_isFile 15 = .ok (.if_icmp .ne 7, 3) := by decide +kernel
theorem dX8_isFile_18 : decode cX8_isFile 18 = .ok (.iconst 1, 1) := by decide +kernel
theorem dX8_isFile_19 : decode cX8_isFile 19 = .ok (.goto 4, 3) := by decide +kernel
theorem dX8_isFile_22 : decode cX8_isFile 22 = .ok (.iconst 0, 1) := by decide +kernel
theorem dX8_isFile_23 : decode cX8_isFile 23 = .ok (.ireturn, 1) := by decide +kernel
theorem dX8_blocks_0 : decode cX8_blocks 0 = .ok (.aload_n 0, 1) := by decide +kernel
theorem dX8_blocks_1 : decode cX8_blocks 1 = .ok (.iload_n 1, 1) := by decide +kernel
theorem dX8_blocks_2 : decode cX8_blocks 2 = .ok (.iconst 3, 1) := by decide +kernel
theorem dX8_blocks_3 : decode cX8_blocks 3 = .ok (.invokevirtual 173, 3) := by decide +kernel
theorem dX8_blocks_6 : decode cX8_blocks 6 = .ok (.iconst 4, 1) := by decide +kernel
theorem dX8_blocks_7 : decode cX8_blocks 7 = .ok (.idiv, 1) := by decide +kernel
theorem dX8_blocks_8 : decode cX8_blocks 8 = .ok (.ireturn, 1) := by decide +kernel
theorem dX8_tail_0 : decode cX8_tail 0 = .ok (.aload_n 0, 1) := by decide +kernel
theorem dX8_tail_1 : decode cX8_tail 1 = .ok (.iload_n 1, 1) := by decide +kernel
theorem dX8_tail_2 : decode cX8_tail 2 = .ok (.iconst 3, 1) := by decide +kernel
theorem dX8_tail_3 : decode cX8_tail 3 = .ok (.invokevirtual 173, 3) := by decide +kernel
theorem dX8_tail_6 : decode cX8_tail 6 = .ok (.iconst 4, 1) := by decide +kernel
theorem dX8_tail_7 : decode cX8_tail 7 = .ok (.irem, 1) := by decide +kernel
theorem dX8_tail_8 : decode cX8_tail 8 = .ok (.ireturn, 1) := by decide +kernel
theorem dX8_inodesThere_0 : decode cX8_inodesThere 0 = .ok (.iconst 0, 1) := by decide +kernel
theorem dX8_inodesThere_1 : decode cX8_inodesThere 1 = .ok (.istore_n 1, 1) := by decide +kernel
theorem dX8_inodesThere_2 : decode cX8_inodesThere 2 = .ok (.iconst 0, 1) := by decide +kernel
theorem dX8_inodesThere_3 : decode cX8_inodesThere 3 = .ok (.istore_n 2, 1) := by decide +kernel
theorem dX8_inodesThere_4 : decode cX8_inodesThere 4 = .ok (.iload_n 2, 1) := by decide +kernel
theorem dX8_inodesThere_5 : decode cX8_inodesThere 5 = .ok (.aload_n 0, 1) := by decide +kernel
theorem dX8_inodesThere_6 : decode cX8_inodesThere 6 = .ok (.invokevirtual 167, 3) := by decide +kernel
theorem dX8_inodesThere_9 : decode cX8_inodesThere 9 = .ok (.if_icmp .ge 20, 3) := by decide +kernel
theorem dX8_inodesThere_12 : decode cX8_inodesThere 12 = .ok (.iload_n 1, 1) := by decide +kernel
theorem dX8_inodesThere_13 : decode cX8_inodesThere 13 = .ok (.aload_n 0, 1) := by decide +kernel
theorem dX8_inodesThere_14 : decode cX8_inodesThere 14 = .ok (.iload_n 2, 1) := by decide +kernel
theorem dX8_inodesThere_15 : decode cX8_inodesThere 15 = .ok (.invokevirtual 176, 3) := by decide +kernel
theorem dX8_inodesThere_18 : decode cX8_inodesThere 18 = .ok (.invokestatic 133, 3) := by decide +kernel
theorem dX8_inodesThere_21 : decode cX8_inodesThere 21 = .ok (.iadd, 1) := by decide +kernel
theorem dX8_inodesThere_22 : decode cX8_inodesThere 22 = .ok (.istore_n 1, 1) := by decide +kernel
theorem dX8_inodesThere_23 : decode cX8_inodesThere 23 = .ok (.iinc 2 1, 3) := by decide +kernel
theorem dX8_inodesThere_26 : decode cX8_inodesThere 26 = .ok (.goto (-22), 3) := by decide +kernel
theorem dX8_inodesThere_29 : decode cX8_inodesThere 29 = .ok (.iload_n 1, 1) := by decide +kernel
theorem dX8_inodesThere_30 : decode cX8_inodesThere 30 = .ok (.ireturn, 1) := by decide +kernel
theorem dX8_inodeOf_0 : decode cX8_inodeOf 0 = .ok (.iconst 1, 1) := by decide +kernel
theorem dX8_inodeOf_1 : decode cX8_inodeOf 1 = .ok (.istore_n 3, 1) := by decide +kernel
theorem dX8_inodeOf_2 : decode cX8_inodeOf 2 = .ok (.iload_n 3, 1) := by decide +kernel
theorem dX8_inodeOf_3 : decode cX8_inodeOf 3 = .ok (.aload_n 0, 1) := by decide +kernel
theorem dX8_inodeOf_4 : decode cX8_inodeOf 4 = .ok (.invokevirtual 167, 3) := by decide +kernel
theorem dX8_inodeOf_7 : decode cX8_inodeOf 7 = .ok (.if_icmp .ge 39, 3) := by decide +kernel
theorem dX8_inodeOf_10 : decode cX8_inodeOf 10 = .ok (.aload_n 0, 1) := by decide +kernel
theorem dX8_inodeOf_11 : decode cX8_inodeOf 11 = .ok (.iload_n 3, 1) := by decide +kernel
theorem dX8_inodeOf_12 : decode cX8_inodeOf 12 = .ok (.invokevirtual 176, 3) := by decide +kernel
theorem dX8_inodeOf_15 : decode cX8_inodeOf 15 = .ok (.ifCond .eq 25, 3) := by decide +kernel
theorem dX8_inodeOf_18 : decode cX8_inodeOf 18 = .ok (.aload_n 0, 1) := by decide +kernel
theorem dX8_inodeOf_19 : decode cX8_inodeOf 19 = .ok (.iload_n 3, 1) := by decide +kernel
theorem dX8_inodeOf_20 : decode cX8_inodeOf 20 = .ok (.iconst 1, 1) := by decide +kernel
theorem dX8_inodeOf_21 : decode cX8_inodeOf 21 = .ok (.invokevirtual 173, 3) := by decide +kernel
theorem dX8_inodeOf_24 : decode cX8_inodeOf 24 = .ok (.iload_n 1, 1) := by decide +kernel
theorem dX8_inodeOf_25 : decode cX8_inodeOf 25 = .ok (.if_icmp .ne 15, 3) := by decide +kernel
theorem dX8_inodeOf_28 : decode cX8_inodeOf 28 = .ok (.aload_n 0, 1) := by decide +kernel
theorem dX8_inodeOf_29 : decode cX8_inodeOf 29 = .ok (.iload_n 3, 1) := by decide +kernel
theorem dX8_inodeOf_30 : decode cX8_inodeOf 30 = .ok (.iconst 2, 1) := by decide +kernel
theorem dX8_inodeOf_31 : decode cX8_inodeOf 31 = .ok (.invokevirtual 173, 3) := by decide +kernel
theorem dX8_inodeOf_34 : decode cX8_inodeOf 34 = .ok (.iload_n 2, 1) := by decide +kernel
theorem dX8_inodeOf_35 : decode cX8_inodeOf 35 = .ok (.if_icmp .ne 5, 3) := by decide +kernel
theorem dX8_inodeOf_38 : decode cX8_inodeOf 38 = .ok (.iload_n 3, 1) := by decide +kernel
theorem dX8_inodeOf_39 : decode cX8_inodeOf 39 = .ok (.ireturn, 1) := by decide +kernel
theorem dX8_inodeOf_40 : decode cX8_inodeOf 40 = .ok (.iinc 3 1, 3) := by decide +kernel
theorem dX8_inodeOf_43 : decode cX8_inodeOf 43 = .ok (.goto (-41), 3) := by decide +kernel
theorem dX8_inodeOf_46 : decode cX8_inodeOf 46 = .ok (.bipush (-4), 2) := by decide +kernel
theorem dX8_inodeOf_48 : decode cX8_inodeOf 48 = .ok (.ireturn, 1) := by decide +kernel
theorem dX8_nothings_0 : decode cX8_nothings 0 = .ok (.iconst 0, 1) := by decide +kernel
theorem dX8_nothings_1 : decode cX8_nothings 1 = .ok (.istore_n 2, 1) := by decide +kernel
theorem dX8_nothings_2 : decode cX8_nothings 2 = .ok (.iconst 0, 1) := by decide +kernel
theorem dX8_nothings_3 : decode cX8_nothings 3 = .ok (.istore_n 3, 1) := by decide +kernel
theorem dX8_nothings_4 : decode cX8_nothings 4 = .ok (.iload_n 3, 1) := by decide +kernel
theorem dX8_nothings_5 : decode cX8_nothings 5 = .ok (.aload_n 0, 1) := by decide +kernel
theorem dX8_nothings_6 : decode cX8_nothings 6 = .ok (.getfield 7, 3) := by decide +kernel
theorem dX8_nothings_9 : decode cX8_nothings 9 = .ok (.iconst 2, 1) := by decide +kernel
theorem dX8_nothings_10 : decode cX8_nothings 10 = .ok (.iaload, 1) := by decide +kernel
theorem dX8_nothings_11 : decode cX8_nothings 11 = .ok (.if_icmp .ge 38, 3) := by decide +kernel
theorem dX8_nothings_14 : decode cX8_nothings 14 = .ok (.iload_n 2, 1) := by decide +kernel
theorem dX8_nothings_15 : decode cX8_nothings 15 = .ok (.aload_n 0, 1) := by decide +kernel
theorem dX8_nothings_16 : decode cX8_nothings 16 = .ok (.aload_n 0, 1) := by decide +kernel
theorem dX8_nothings_17 : decode cX8_nothings 17 = .ok (.getfield 7, 3) := by decide +kernel
theorem dX8_nothings_20 : decode cX8_nothings 20 = .ok (.iconst 2, 1) := by decide +kernel
theorem dX8_nothings_21 : decode cX8_nothings 21 = .ok (.iaload, 1) := by decide +kernel
theorem dX8_nothings_22 : decode cX8_nothings 22 = .ok (.iload_n 1, 1) := by decide +kernel
theorem dX8_nothings_23 : decode cX8_nothings 23 = .ok (.imul, 1) := by decide +kernel
theorem dX8_nothings_24 : decode cX8_nothings 24 = .ok (.iload_n 3, 1) := by decide +kernel
theorem dX8_nothings_25 : decode cX8_nothings 25 = .ok (.iadd, 1) := by decide +kernel
theorem dX8_nothings_26 : decode cX8_nothings 26 = .ok (.iconst 0, 1) := by decide +kernel
theorem dX8_nothings_27 : decode cX8_nothings 27 = .ok (.invokevirtual 173, 3) := by decide +kernel
theorem dX8_nothings_30 : decode cX8_nothings 30 = .ok (.ifCond .ne 7, 3) := by decide +kernel
theorem dX8_nothings_33 : decode cX8_nothings 33 = .ok (.iconst 1, 1) := by decide +kernel
theorem dX8_nothings_34 : decode cX8_nothings 34 = .ok (.goto 4, 3) := by decide +kernel
theorem dX8_nothings_37 : decode cX8_nothings 37 = .ok (.iconst 0, 1) := by decide +kernel
theorem dX8_nothings_38 : decode cX8_nothings 38 = .ok (.invokestatic 133, 3) := by decide +kernel
theorem dX8_nothings_41 : decode cX8_nothings 41 = .ok (.iadd, 1) := by decide +kernel
theorem dX8_nothings_42 : decode cX8_nothings 42 = .ok (.istore_n 2, 1) := by decide +kernel
theorem dX8_nothings_43 : decode cX8_nothings 43 = .ok (.iinc 3 1, 3) := by decide +kernel
theorem dX8_nothings_46 : decode cX8_nothings 46 = .ok (.goto (-42), 3) := by decide +kernel
theorem dX8_nothings_49 : decode cX8_nothings 49 = .ok (.iload_n 2, 1) := by decide +kernel
theorem dX8_nothings_50 : decode cX8_nothings 50 = .ok (.ireturn, 1) := by decide +kernel
theorem dX8_directories_0 : decode cX8_directories 0 = .ok (.iconst 0, 1) := by decide +kernel
theorem dX8_directories_1 : decode cX8_directories 1 = .ok (.istore_n 2, 1) := by decide +kernel
theorem dX8_directories_2 : decode cX8_directories 2 = .ok (.iconst 0, 1) := by decide +kernel
theorem dX8_directories_3 : decode cX8_directories 3 = .ok (.istore_n 3, 1) := by decide +kernel
theorem dX8_directories_4 : decode cX8_directories 4 = .ok (.iload_n 3, 1) := by decide +kernel
theorem dX8_directories_5 : decode cX8_directories 5 = .ok (.aload_n 0, 1) := by decide +kernel
theorem dX8_directories_6 : decode cX8_directories 6 = .ok (.getfield 7, 3) := by decide +kernel
theorem dX8_directories_9 : decode cX8_directories 9 = .ok (.iconst 2, 1) := by decide +kernel
theorem dX8_directories_10 : decode cX8_directories 10 = .ok (.iaload, 1) := by decide +kernel
theorem dX8_directories_11 : decode cX8_directories 11 = .ok (.if_icmp .ge 39, 3) := by decide +kernel
theorem dX8_directories_14 : decode cX8_directories 14 = .ok (.iload_n 2, 1) := by decide +kernel
theorem dX8_directories_15 : decode cX8_directories 15 = .ok (.aload_n 0, 1) := by decide +kernel
theorem dX8_directories_16 : decode cX8_directories 16 = .ok (.aload_n 0, 1) := by decide +kernel
theorem dX8_directories_17 : decode cX8_directories 17 = .ok (.getfield 7, 3) := by decide +kernel
theorem dX8_directories_20 : decode cX8_directories 20 = .ok (.iconst 2, 1) := by decide +kernel
theorem dX8_directories_21 : decode cX8_directories 21 = .ok (.iaload, 1) := by decide +kernel
theorem dX8_directories_22 : decode cX8_directories 22 = .ok (.iload_n 1, 1) := by decide +kernel
theorem dX8_directories_23 : decode cX8_directories 23 = .ok (.imul, 1) := by decide +kernel
theorem dX8_directories_24 : decode cX8_directories 24 = .ok (.iload_n 3, 1) := by decide +kernel
theorem dX8_directories_25 : decode cX8_directories 25 = .ok (.iadd, 1) := by decide +kernel
theorem dX8_directories_26 : decode cX8_directories 26 = .ok (.iconst 0, 1) := by decide +kernel
theorem dX8_directories_27 : decode cX8_directories 27 = .ok (.invokevirtual 173, 3) := by decide +kernel
theorem dX8_directories_30 : decode cX8_directories 30 = .ok (.iconst 1, 1) := by decide +kernel
theorem dX8_directories_31 : decode cX8_directories 31 = .ok (.if_icmp .ne 7, 3) := by decide +kernel
theorem dX8_directories_34 : decode cX8_directories 34 = .ok (.iconst 1, 1) := by decide +kernel
theorem dX8_directories_35 : decode cX8_directories 35 = .ok (.goto 4, 3) := by decide +kernel
theorem dX8_directories_38 : decode cX8_directories 38 = .ok (.iconst 0, 1) := by decide +kernel
theorem dX8_directories_39 : decode cX8_directories 39 = .ok (.invokestatic 133, 3) := by decide +kernel
theorem dX8_directories_42 : decode cX8_directories 42 = .ok (.iadd, 1) := by decide +kernel
theorem dX8_directories_43 : decode cX8_directories 43 = .ok (.istore_n 2, 1) := by decide +kernel
theorem dX8_directories_44 : decode cX8_directories 44 = .ok (.iinc 3 1, 3) := by decide +kernel
theorem dX8_directories_47 : decode cX8_directories 47 = .ok (.goto (-43), 3) := by decide +kernel
theorem dX8_directories_50 : decode cX8_directories 50 = .ok (.iload_n 2, 1) := by decide +kernel
theorem dX8_directories_51 : decode cX8_directories 51 = .ok (.ireturn, 1) := by decide +kernel
theorem dX8_groupForDirectory_0 : decode cX8_groupForDirectory 0 = .ok (.iconst 0, 1) := by decide +kernel
theorem dX8_groupForDirectory_1 : decode cX8_groupForDirectory 1 = .ok (.istore_n 1, 1) := by decide +kernel
theorem dX8_groupForDirectory_2 : decode cX8_groupForDirectory 2 = .ok (.iconst 0, 1) := by decide +kernel
theorem dX8_groupForDirectory_3 : decode cX8_groupForDirectory 3 = .ok (.istore_n 2, 1) := by decide +kernel
theorem dX8_groupForDirectory_4 : decode cX8_groupForDirectory 4 = .ok (.iload_n 2, 1) := by decide +kernel
theorem dX8_groupForDirectory_5 : decode cX8_groupForDirectory 5 = .ok (.aload_n 0, 1) := by decide +kernel
theorem dX8_groupForDirectory_6 : decode cX8_groupForDirectory 6 = .ok (.getfield 7, 3) := by decide +kernel
theorem dX8_groupForDirectory_9 : decode cX8_groupForDirectory 9 = .ok (.iconst 0, 1) := by decide +kernel
theorem dX8_groupForDirectory_10 : decode cX8_groupForDirectory 10 = .ok (.iaload, 1) := by decide +kernel
theorem dX8_groupForDirectory_11 : decode cX8_groupForDirectory 11 = .ok (.if_icmp .ge 17, 3) := by decide +kernel
theorem dX8_groupForDirectory_14 : decode cX8_groupForDirectory 14 = .ok (.iload_n 1, 1) := by decide +kernel
theorem dX8_groupForDirectory_15 : decode cX8_groupForDirectory 15 = .ok (.aload_n 0, 1) := by decide +kernel
theorem dX8_groupForDirectory_16 : decode cX8_groupForDirectory 16 = .ok (.iload_n 2, 1) := by decide +kernel
theorem dX8_groupForDirectory_17 : decode cX8_groupForDirectory 17 = .ok (.invokevirtual 179, 3) := by decide +kernel
theorem dX8_groupForDirectory_20 : decode cX8_groupForDirectory 20 = .ok (.iadd, 1) := by decide +kernel
theorem dX8_groupForDirectory_21 : decode cX8_groupForDirectory 21 = .ok (.istore_n 1, 1) := by decide +kernel
theorem dX8_groupForDirectory_22 : decode cX8_groupForDirectory 22 = .ok (.iinc 2 1, 3) := by decide +kernel
theorem dX8_groupForDirectory_25 : decode cX8_groupForDirectory 25 = .ok (.goto (-21), 3) := by decide +kernel
theorem dX8_groupForDirectory_28 : decode cX8_groupForDirectory 28 = .ok (.bipush (-4), 2) := by decide +kernel
theorem dX8_groupForDirectory_30 : decode cX8_groupForDirectory 30 = .ok (.istore_n 2, 1) := by decide +kernel
theorem dX8_groupForDirectory_31 : decode cX8_groupForDirectory 31 = .ok (.iconst 0, 1) := by decide +kernel
theorem dX8_groupForDirectory_32 : decode cX8_groupForDirectory 32 = .ok (.istore_n 3, 1) := by decide +kernel
theorem dX8_groupForDirectory_33 : decode cX8_groupForDirectory 33 = .ok (.iload_n 3, 1) := by decide +kernel
theorem dX8_groupForDirectory_34 : decode cX8_groupForDirectory 34 = .ok (.aload_n 0, 1) := by decide +kernel
theorem dX8_groupForDirectory_35 : decode cX8_groupForDirectory 35 = .ok (.getfield 7, 3) := by decide +kernel
theorem dX8_groupForDirectory_38 : decode cX8_groupForDirectory 38 = .ok (.iconst 0, 1) := by decide +kernel
theorem dX8_groupForDirectory_39 : decode cX8_groupForDirectory 39 = .ok (.iaload, 1) := by decide +kernel
theorem dX8_groupForDirectory_40 : decode cX8_groupForDirectory 40 = .ok (.if_icmp .ge 70, 3) := by decide +kernel
theorem dX8_groupForDirectory_43 : decode cX8_groupForDirectory 43 = .ok (.aload_n 0, 1) := by decide +kernel
theorem dX8_groupForDirectory_44 : decode cX8_groupForDirectory 44 = .ok (.iload_n 3, 1) := by decide +kernel
theorem dX8_groupForDirectory_45 : decode cX8_groupForDirectory 45 = .ok (.invokevirtual 179, 3) := by decide +kernel
theorem dX8_groupForDirectory_48 : decode cX8_groupForDirectory 48 = .ok (.ifCond .le 23, 3) := by decide +kernel
theorem dX8_groupForDirectory_51 : decode cX8_groupForDirectory 51 = .ok (.aload_n 0, 1) := by decide +kernel
theorem dX8_groupForDirectory_52 : decode cX8_groupForDirectory 52 = .ok (.iload_n 3, 1) := by decide +kernel
theorem dX8_groupForDirectory_53 : decode cX8_groupForDirectory 53 = .ok (.invokevirtual 179, 3) := by decide +kernel
theorem dX8_groupForDirectory_56 : decode cX8_groupForDirectory 56 = .ok (.aload_n 0, 1) := by decide +kernel
theorem dX8_groupForDirectory_57 : decode cX8_groupForDirectory 57 = .ok (.getfield 7, 3) := by decide +kernel
theorem dX8_groupForDirectory_60 : decode cX8_groupForDirectory 60 = .ok (.iconst 0, 1) := by decide +kernel
theorem dX8_groupForDirectory_61 : decode cX8_groupForDirectory 61 = .ok (.iaload, 1) := by decide +kernel
theorem dX8_groupForDirectory_62 : decode cX8_groupForDirectory 62 = .ok (.imul, 1) := by decide +kernel
theorem dX8_groupForDirectory_63 : decode cX8_groupForDirectory 63 = .ok (.iload_n 1, 1) := by decide +kernel
theorem dX8_groupForDirectory_64 : decode cX8_groupForDirectory 64 = .ok (.if_icmp .lt 7, 3) := by decide +kernel
theorem dX8_groupForDirectory_67 : decode cX8_groupForDirectory 67 = .ok (.iconst 1, 1) := by decide +kernel
theorem dX8_groupForDirectory_68 : decode cX8_groupForDirectory 68 = .ok (.goto 4, 3) := by decide +kernel
theorem dX8_groupForDirectory_71 : decode cX8_groupForDirectory 71 = .ok (.iconst 0, 1) := by decide +kernel
theorem dX8_groupForDirectory_72 : decode cX8_groupForDirectory 72 = .ok (.istore 4, 2) := by decide +kernel
theorem dX8_groupForDirectory_74 : decode cX8_groupForDirectory 74 = .ok (.iload 4, 2) := by decide +kernel
theorem dX8_groupForDirectory_76 : decode cX8_groupForDirectory 76 = .ok (.ifCond .eq 26, 3) := by decide +kernel
theorem dX8_groupForDirectory_79 : decode cX8_groupForDirectory 79 = .ok (.iload_n 2, 1) := by decide +kernel
theorem dX8_groupForDirectory_80 : decode cX8_groupForDirectory 80 = .ok (.bipush (-4), 2) := by decide +kernel
theorem dX8_groupForDirectory_82 : decode cX8_groupForDirectory 82 = .ok (.if_icmp .eq 16, 3) := by decide +kernel
theorem dX8_groupForDirectory_85 : decode cX8_groupForDirectory 85 = .ok (.aload_n 0, 1) := by decide +kernel
theorem dX8_groupForDirectory_86 : decode cX8_groupForDirectory 86 = .ok (.iload_n 3, 1) := by decide +kernel
theorem dX8_groupForDirectory_87 : decode cX8_groupForDirectory 87 = .ok (.invokevirtual 182, 3) := by decide +kernel
theorem dX8_groupForDirectory_90 : decode cX8_groupForDirectory 90 = .ok (.aload_n 0, 1) := by decide +kernel
theorem dX8_groupForDirectory_91 : decode cX8_groupForDirectory 91 = .ok (.iload_n 2, 1) := by decide +kernel
theorem dX8_groupForDirectory_92 : decode cX8_groupForDirectory 92 = .ok (.invokevirtual 182, 3) := by decide +kernel
theorem dX8_groupForDirectory_95 : decode cX8_groupForDirectory 95 = .ok (.if_icmp .ge 7, 3) := by decide +kernel
theorem dX8_groupForDirectory_98 : decode cX8_groupForDirectory 98 = .ok (.iload_n 3, 1) := by decide +kernel
theorem dX8_groupForDirectory_99 : decode cX8_groupForDirectory 99 = .ok (.goto 4, 3) := by decide +kernel
theorem dX8_groupForDirectory_102 : decode cX8_groupForDirectory 102 = .ok (.iload_n 2, 1) := by decide +kernel
theorem dX8_groupForDirectory_103 : decode cX8_groupForDirectory 103 = .ok (.istore_n 2, 1) := by decide +kernel
theorem dX8_groupForDirectory_104 : decode cX8_groupForDirectory 104 = .ok (.iinc 3 1, 3) := by decide +kernel
theorem dX8_groupForDirectory_107 : decode cX8_groupForDirectory 107 = .ok (.goto (-74), 3) := by decide +kernel
theorem dX8_groupForDirectory_110 : decode cX8_groupForDirectory 110 = .ok (.iload_n 2, 1) := by decide +kernel
theorem dX8_groupForDirectory_111 : decode cX8_groupForDirectory 111 = .ok (.ireturn, 1) := by decide +kernel
theorem dX8_groupForFile_0 : decode cX8_groupForFile 0 = .ok (.iconst 0, 1) := by decide +kernel
theorem dX8_groupForFile_1 : decode cX8_groupForFile 1 = .ok (.istore_n 2, 1) := by decide +kernel
theorem dX8_groupForFile_2 : decode cX8_groupForFile 2 = .ok (.iload_n 2, 1) := by decide +kernel
theorem dX8_groupForFile_3 : decode cX8_groupForFile 3 = .ok (.aload_n 0, 1) := by decide +kernel
theorem dX8_groupForFile_4 : decode cX8_groupForFile 4 = .ok (.getfield 7, 3) := by decide +kernel
theorem dX8_groupForFile_7 : decode cX8_groupForFile 7 = .ok (.iconst 0, 1) := by decide +kernel
theorem dX8_groupForFile_8 : decode cX8_groupForFile 8 = .ok (.iaload, 1) := by decide +kernel
theorem dX8_groupForFile_9 : decode cX8_groupForFile 9 = .ok (.if_icmp .ge 33, 3) := by decide +kernel
theorem dX8_groupForFile_12 : decode cX8_groupForFile 12 = .ok (.aload_n 0, 1) := by decide +kernel
theorem dX8_groupForFile_13 : decode cX8_groupForFile 13 = .ok (.iload_n 1, 1) := by decide +kernel
theorem dX8_groupForFile_14 : decode cX8_groupForFile 14 = .ok (.aload_n 0, 1) := by decide +kernel
theorem dX8_groupForFile_15 : decode cX8_groupForFile 15 = .ok (.getfield 7, 3) := by decide +kernel
theorem dX8_groupForFile_18 : decode cX8_groupForFile 18 = .ok (.iconst 2, 1) := by decide +kernel
theorem dX8_groupForFile_19 : decode cX8_groupForFile 19 = .ok (.iaload, 1) := by decide +kernel
theorem dX8_groupForFile_20 : decode cX8_groupForFile 20 = .ok (.idiv, 1) := by decide +kernel
theorem dX8_groupForFile_21 : decode cX8_groupForFile 21 = .ok (.iload_n 2, 1) := by decide +kernel
theorem dX8_groupForFile_22 : decode cX8_groupForFile 22 = .ok (.invokevirtual 161, 3) := by decide +kernel
theorem dX8_groupForFile_25 : decode cX8_groupForFile 25 = .ok (.istore_n 3, 1) := by decide +kernel
theorem dX8_groupForFile_26 : decode cX8_groupForFile 26 = .ok (.aload_n 0, 1) := by decide +kernel
theorem dX8_groupForFile_27 : decode cX8_groupForFile 27 = .ok (.iload_n 3, 1) := by decide +kernel
theorem dX8_groupForFile_28 : decode cX8_groupForFile 28 = .ok (.invokevirtual 179, 3) := by decide +kernel
theorem dX8_groupForFile_31 : decode cX8_groupForFile 31 = .ok (.ifCond .le 5, 3) := by decide +kernel
theorem dX8_groupForFile_34 : decode cX8_groupForFile 34 = .ok (.iload_n 3, 1) := by decide +kernel
theorem dX8_groupForFile_35 : decode cX8_groupForFile 35 = .ok (.ireturn, 1) := by decide +kernel
theorem dX8_groupForFile_36 : decode cX8_groupForFile 36 = .ok (.iinc 2 1, 3) := by decide +kernel
theorem dX8_groupForFile_39 : decode cX8_groupForFile 39 = .ok (.goto (-37), 3) := by decide +kernel
theorem dX8_groupForFile_42 : decode cX8_groupForFile 42 = .ok (.bipush (-4), 2) := by decide +kernel
theorem dX8_groupForFile_44 : decode cX8_groupForFile 44 = .ok (.ireturn, 1) := by decide +kernel
theorem dX8_groupFor_0 : decode cX8_groupFor 0 = .ok (.iload_n 2, 1) := by decide +kernel
theorem dX8_groupFor_1 : decode cX8_groupFor 1 = .ok (.iconst 1, 1) := by decide +kernel
theorem dX8_groupFor_2 : decode cX8_groupFor 2 = .ok (.if_icmp .ne 10, 3) := by decide +kernel
theorem dX8_groupFor_5 : decode cX8_groupFor 5 = .ok (.aload_n 0, 1) := by decide +kernel
theorem dX8_groupFor_6 : decode cX8_groupFor 6 = .ok (.invokevirtual 185, 3) := by decide +kernel
theorem dX8_groupFor_9 : decode cX8_groupFor 9 = .ok (.goto 8, 3) := by decide +kernel
theorem dX8_groupFor_12 : decode cX8_groupFor 12 = .ok (.aload_n 0, 1) := by decide +kernel
theorem dX8_groupFor_13 : decode cX8_groupFor 13 = .ok (.iload_n 1, 1) := by decide +kernel
theorem dX8_groupFor_14 : decode cX8_groupFor 14 = .ok (.invokevirtual 188, 3) := by decide +kernel
theorem dX8_groupFor_17 : decode cX8_groupFor 17 = .ok (.ireturn, 1) := by decide +kernel
theorem dX8_owner_0 : decode cX8_owner 0 = .ok (.iconst 0, 1) := by decide +kernel
theorem dX8_owner_1 : decode cX8_owner 1 = .ok (.istore_n 2, 1) := by decide +kernel
theorem dX8_owner_2 : decode cX8_owner 2 = .ok (.iload_n 2, 1) := by decide +kernel
theorem dX8_owner_3 : decode cX8_owner 3 = .ok (.aload_n 0, 1) := by decide +kernel
theorem dX8_owner_4 : decode cX8_owner 4 = .ok (.invokevirtual 167, 3) := by decide +kernel
theorem dX8_owner_7 : decode cX8_owner 7 = .ok (.if_icmp .ge 119, 3) := by decide +kernel
theorem dX8_owner_10 : decode cX8_owner 10 = .ok (.aload_n 0, 1) := by decide +kernel
theorem dX8_owner_11 : decode cX8_owner 11 = .ok (.iload_n 2, 1) := by decide +kernel
theorem dX8_owner_12 : decode cX8_owner 12 = .ok (.invokevirtual 176, 3) := by decide +kernel
theorem dX8_owner_15 : decode cX8_owner 15 = .ok (.ifCond .eq 45, 3) := by decide +kernel
theorem dX8_owner_18 : decode cX8_owner 18 = .ok (.aload_n 0, 1) := by decide +kernel
theorem dX8_owner_19 : decode cX8_owner 19 = .ok (.iload_n 2, 1) := by decide +kernel
theorem dX8_owner_20 : decode cX8_owner 20 = .ok (.invokevirtual 191, 3) := by decide +kernel
theorem dX8_owner_23 : decode cX8_owner 23 = .ok (.ifCond .le 37, 3) := by decide +kernel
theorem dX8_owner_26 : decode cX8_owner 26 = .ok (.iload_n 1, 1) := by decide +kernel
theorem dX8_owner_27 : decode cX8_owner 27 = .ok (.i2l, 1) := by decide +kernel
theorem dX8_owner_28 : decode cX8_owner 28 = .ok (.aload_n 0, 1) := by decide +kernel
theorem dX8_owner_29 : decode cX8_owner 29 = .ok (.iload_n 2, 1) := by decide +kernel
theorem dX8_owner_30 : decode cX8_owner 30 = .ok (.iconst 4, 1) := by decide +kernel
theorem dX8_owner_31 : decode cX8_owner 31 = .ok (.invokevirtual 173, 3) := by decide +kernel
theorem dX8_owner_34 : decode cX8_owner 34 = .ok (.i2l, 1) := by decide +kernel
theorem dX8_owner_35 : decode cX8_owner 35 = .ok (.aload_n 0, 1) := by decide +kernel
theorem dX8_owner_36 : decode cX8_owner 36 = .ok (.iload_n 2, 1) := by decide +kernel
theorem dX8_owner_37 : decode cX8_owner 37 = .ok (.iconst 4, 1) := by decide +kernel
theorem dX8_owner_38 : decode cX8_owner 38 = .ok (.invokevirtual 173, 3) := by decide +kernel
theorem dX8_owner_41 : decode cX8_owner 41 = .ok (.aload_n 0, 1) := by decide +kernel
theorem dX8_owner_42 : decode cX8_owner 42 = .ok (.iload_n 2, 1) := by decide +kernel
theorem dX8_owner_43 : decode cX8_owner 43 = .ok (.invokevirtual 191, 3) := by decide +kernel
theorem dX8_owner_46 : decode cX8_owner 46 = .ok (.iadd, 1) := by decide +kernel
theorem dX8_owner_47 : decode cX8_owner 47 = .ok (.iconst 1, 1) := by decide +kernel
theorem dX8_owner_48 : decode cX8_owner 48 = .ok (.isub, 1) := by decide +kernel
theorem dX8_owner_49 : decode cX8_owner 49 = .ok (.i2l, 1) := by decide +kernel
theorem dX8_owner_50 : decode cX8_owner 50 = .ok (.invokestatic 41, 3) := by decide +kernel
theorem dX8_owner_53 : decode cX8_owner 53 = .ok (.ifCond .eq 7, 3) := by decide +kernel
theorem dX8_owner_56 : decode cX8_owner 56 = .ok (.iconst 1, 1) := by decide +kernel
theorem dX8_owner_57 : decode cX8_owner 57 = .ok (.goto 4, 3) := by decide +kernel
theorem dX8_owner_60 : decode cX8_owner 60 = .ok (.iconst 0, 1) := by decide +kernel
theorem dX8_owner_61 : decode cX8_owner 61 = .ok (.istore_n 3, 1) := by decide +kernel
theorem dX8_owner_62 : decode cX8_owner 62 = .ok (.iconst 0, 1) := by decide +kernel
theorem dX8_owner_63 : decode cX8_owner 63 = .ok (.istore 4, 2) := by decide +kernel
theorem dX8_owner_65 : decode cX8_owner 65 = .ok (.aload_n 0, 1) := by decide +kernel
theorem dX8_owner_66 : decode cX8_owner 66 = .ok (.iload_n 2, 1) := by decide +kernel
theorem dX8_owner_67 : decode cX8_owner 67 = .ok (.invokevirtual 176, 3) := by decide +kernel
theorem dX8_owner_70 : decode cX8_owner 70 = .ok (.ifCond .eq 44, 3) := by decide +kernel
theorem dX8_owner_73 : decode cX8_owner 73 = .ok (.iload 4, 2) := by decide +kernel
theorem dX8_owner_75 : decode cX8_owner 75 = .ok (.aload_n 0, 1) := by decide +kernel
theorem dX8_owner_76 : decode cX8_owner 76 = .ok (.iload_n 2, 1) := by decide +kernel
theorem dX8_owner_77 : decode cX8_owner 77 = .ok (.invokevirtual 194, 3) := by decide +kernel
theorem dX8_owner_80 : decode cX8_owner 80 = .ok (.if_icmp .ge 34, 3) := by decide +kernel
theorem dX8_owner_83 : decode cX8_owner 83 = .ok (.iload_n 3, 1) := by decide +kernel
theorem dX8_owner_84 : decode cX8_owner 84 = .ok (.ifCond .ne 18, 3) := by decide +kernel
theorem dX8_owner_87 : decode cX8_owner 87 = .ok (.iload_n 1, 1) := by decide +kernel
theorem dX8_owner_88 : decode cX8_owner 88 = .ok (.iconst 4, 1) := by decide +kernel
theorem dX8_owner_89 : decode cX8_owner 89 = .ok (.idiv, 1) := by decide +kernel
theorem dX8_owner_90 : decode cX8_owner 90 = .ok (.aload_n 0, 1) := by decide +kernel
theorem dX8_owner_91 : decode cX8_owner 91 = .ok (.iload_n 2, 1) := by decide +kernel
theorem dX8_owner_92 : decode cX8_owner 92 = .ok (.iconst 5, 1) := by decide +kernel
theorem dX8_owner_93 : decode cX8_owner 93 = .ok (.iload 4, 2) := by decide +kernel
theorem dX8_owner_95 : decode cX8_owner 95 = .ok (.iadd, 1) := by decide +kernel
theorem dX8_owner_96 : decode cX8_owner 96 = .ok (.invokevirtual 173, 3) := by decide +kernel
theorem dX8_owner_99 : decode cX8_owner 99 = .ok (.if_icmp .ne 7, 3) := by decide +kernel
theorem dX8_owner_102 : decode cX8_owner 102 = .ok (.iconst 1, 1) := by decide +kernel
theorem dX8_owner_103 : decode cX8_owner 103 = .ok (.goto 4, 3) := by decide +kernel
theorem dX8_owner_106 : decode cX8_owner 106 = .ok (.iconst 0, 1) := by decide +kernel
theorem dX8_owner_107 : decode cX8_owner 107 = .ok (.istore_n 3, 1) := by decide +kernel
theorem dX8_owner_108 : decode cX8_owner 108 = .ok (.iinc 4 1, 3) := by decide +kernel
theorem dX8_owner_111 : decode cX8_owner 111 = .ok (.goto (-46), 3) := by decide +kernel
theorem dX8_owner_114 : decode cX8_owner 114 = .ok (.iload_n 3, 1) := by decide +kernel
theorem dX8_owner_115 : decode cX8_owner 115 = .ok (.ifCond .eq 5, 3) := by decide +kernel
theorem dX8_owner_118 : decode cX8_owner 118 = .ok (.iload_n 2, 1) := by decide +kernel
theorem dX8_owner_119 : decode cX8_owner 119 = .ok (.ireturn, 1) := by decide +kernel
theorem dX8_owner_120 : decode cX8_owner 120 = .ok (.iinc 2 1, 3) := by decide +kernel
theorem dX8_owner_123 : decode cX8_owner 123 = .ok (.goto (-121), 3) := by decide +kernel
theorem dX8_owner_126 : decode cX8_owner 126 = .ok (.bipush (-4), 2) := by decide +kernel
theorem dX8_owner_128 : decode cX8_owner 128 = .ok (.ireturn, 1) := by decide +kernel
theorem dX8_isSpoilt_0 : decode cX8_isSpoilt 0 = .ok (.iconst 0, 1) := by decide +kernel
theorem dX8_isSpoilt_1 : decode cX8_isSpoilt 1 = .ok (.istore_n 1, 1) := by decide +kernel
theorem dX8_isSpoilt_2 : decode cX8_isSpoilt 2 = .ok (.iconst 0, 1) := by decide +kernel
theorem dX8_isSpoilt_3 : decode cX8_isSpoilt 3 = .ok (.istore_n 2, 1) := by decide +kernel
theorem dX8_isSpoilt_4 : decode cX8_isSpoilt 4 = .ok (.iload_n 2, 1) := by decide +kernel
theorem dX8_isSpoilt_5 : decode cX8_isSpoilt 5 = .ok (.aload_n 0, 1) := by decide +kernel
theorem dX8_isSpoilt_6 : decode cX8_isSpoilt 6 = .ok (.invokevirtual 35, 3) := by decide +kernel
theorem dX8_isSpoilt_9 : decode cX8_isSpoilt 9 = .ok (.if_icmp .ge 42, 3) := by decide +kernel
theorem dX8_isSpoilt_12 : decode cX8_isSpoilt 12 = .ok (.iload_n 1, 1) := by decide +kernel
theorem dX8_isSpoilt_13 : decode cX8_isSpoilt 13 = .ok (.ifCond .ne 26, 3) := by decide +kernel
theorem dX8_isSpoilt_16 : decode cX8_isSpoilt 16 = .ok (.aload_n 0, 1) := by decide +kernel
theorem dX8_isSpoilt_17 : decode cX8_isSpoilt 17 = .ok (.iload_n 2, 1) := by decide +kernel
theorem dX8_isSpoilt_18 : decode cX8_isSpoilt 18 = .ok (.invokevirtual 141, 3) := by decide +kernel
theorem dX8_isSpoilt_21 : decode cX8_isSpoilt 21 = .ok (.aload_n 0, 1) := by decide +kernel
theorem dX8_isSpoilt_22 : decode cX8_isSpoilt 22 = .ok (.iload_n 2, 1) := by decide +kernel
theorem dX8_isSpoilt_23 : decode cX8_isSpoilt 23 = .ok (.invokevirtual 197, 3) := by decide +kernel
theorem dX8_isSpoilt_26 : decode cX8_isSpoilt 26 = .ok (.bipush (-4), 2) := by decide +kernel
theorem dX8_isSpoilt_28 : decode cX8_isSpoilt 28 = .ok (.if_icmp .ne 7, 3) := by decide +kernel
theorem dX8_isSpoilt_31 : decode cX8_isSpoilt 31 = .ok (.iconst 1, 1) := by decide +kernel
theorem dX8_isSpoilt_32 : decode cX8_isSpoilt 32 = .ok (.goto 4, 3) := by decide +kernel
theorem dX8_isSpoilt_35 : decode cX8_isSpoilt 35 = .ok (.iconst 0, 1) := by decide +kernel
theorem dX8_isSpoilt_36 : decode cX8_isSpoilt 36 = .ok (.if_icmp .eq 7, 3) := by decide +kernel
theorem dX8_isSpoilt_39 : decode cX8_isSpoilt 39 = .ok (.iconst 1, 1) := by decide +kernel
theorem dX8_isSpoilt_40 : decode cX8_isSpoilt 40 = .ok (.goto 4, 3) := by decide +kernel
theorem dX8_isSpoilt_43 : decode cX8_isSpoilt 43 = .ok (.iconst 0, 1) := by decide +kernel
theorem dX8_isSpoilt_44 : decode cX8_isSpoilt 44 = .ok (.istore_n 1, 1) := by decide +kernel
theorem dX8_isSpoilt_45 : decode cX8_isSpoilt 45 = .ok (.iinc 2 1, 3) := by decide +kernel
theorem dX8_isSpoilt_48 : decode cX8_isSpoilt 48 = .ok (.goto (-44), 3) := by decide +kernel
theorem dX8_isSpoilt_51 : decode cX8_isSpoilt 51 = .ok (.iload_n 1, 1) := by decide +kernel
theorem dX8_isSpoilt_52 : decode cX8_isSpoilt 52 = .ok (.ireturn, 1) := by decide +kernel
theorem dX8_pairs_0 : decode cX8_pairs 0 = .ok (.iconst 0, 1) := by decide +kernel
theorem dX8_pairs_1 : decode cX8_pairs 1 = .ok (.istore_n 2, 1) := by decide +kernel
theorem dX8_pairs_2 : decode cX8_pairs 2 = .ok (.iconst 1, 1) := by decide +kernel
theorem dX8_pairs_3 : decode cX8_pairs 3 = .ok (.istore_n 3, 1) := by decide +kernel
theorem dX8_pairs_4 : decode cX8_pairs 4 = .ok (.iload_n 3, 1) := by decide +kernel
theorem dX8_pairs_5 : decode cX8_pairs 5 = .ok (.aload_n 0, 1) := by decide +kernel
theorem dX8_pairs_6 : decode cX8_pairs 6 = .ok (.iload_n 1, 1) := by decide +kernel
theorem dX8_pairs_7 : decode cX8_pairs 7 = .ok (.invokevirtual 194, 3) := by decide +kernel
theorem dX8_pairs_10 : decode cX8_pairs 10 = .ok (.if_icmp .ge 31, 3) := by decide +kernel
theorem dX8_pairs_13 : decode cX8_pairs 13 = .ok (.iload_n 2, 1) := by decide +kernel
theorem dX8_pairs_14 : decode cX8_pairs 14 = .ok (.iload_n 3, 1) := by decide +kernel
theorem dX8_pairs_15 : decode cX8_pairs 15 = .ok (.aload_n 0, 1) := by decide +kernel
theorem dX8_pairs_16 : decode cX8_pairs 16 = .ok (.getfield 7, 3) := by decide +kernel
theorem dX8_pairs_19 : decode cX8_pairs 19 = .ok (.iconst 5, 1) := by decide +kernel
theorem dX8_pairs_20 : decode cX8_pairs 20 = .ok (.iaload, 1) := by decide +kernel
theorem dX8_pairs_21 : decode cX8_pairs 21 = .ok (.irem, 1) := by decide +kernel
theorem dX8_pairs_22 : decode cX8_pairs 22 = .ok (.ifCond .eq 7, 3) := by decide +kernel
theorem dX8_pairs_25 : decode cX8_pairs 25 = .ok (.iconst 1, 1) := by decide +kernel
theorem dX8_pairs_26 : decode cX8_pairs 26 = .ok (.goto 4, 3) := by decide +kernel
theorem dX8_pairs_29 : decode cX8_pairs 29 = .ok (.iconst 0, 1) := by decide +kernel
theorem dX8_pairs_30 : decode cX8_pairs 30 = .ok (.invokestatic 133, 3) := by decide +kernel
theorem dX8_pairs_33 : decode cX8_pairs 33 = .ok (.iadd, 1) := by decide +kernel
theorem dX8_pairs_34 : decode cX8_pairs 34 = .ok (.istore_n 2, 1) := by decide +kernel
theorem dX8_pairs_35 : decode cX8_pairs 35 = .ok (.iinc 3 1, 3) := by decide +kernel
theorem dX8_pairs_38 : decode cX8_pairs 38 = .ok (.goto (-34), 3) := by decide +kernel
theorem dX8_pairs_41 : decode cX8_pairs 41 = .ok (.iload_n 2, 1) := by decide +kernel
theorem dX8_pairs_42 : decode cX8_pairs 42 = .ok (.ireturn, 1) := by decide +kernel
theorem dX8_follows_0 : decode cX8_follows 0 = .ok (.iconst 0, 1) := by decide +kernel
theorem dX8_follows_1 : decode cX8_follows 1 = .ok (.istore_n 2, 1) := by decide +kernel
theorem dX8_follows_2 : decode cX8_follows 2 = .ok (.iconst 1, 1) := by decide +kernel
theorem dX8_follows_3 : decode cX8_follows 3 = .ok (.istore_n 3, 1) := by decide +kernel
theorem dX8_follows_4 : decode cX8_follows 4 = .ok (.iload_n 3, 1) := by decide +kernel
theorem dX8_follows_5 : decode cX8_follows 5 = .ok (.aload_n 0, 1) := by decide +kernel
theorem dX8_follows_6 : decode cX8_follows 6 = .ok (.iload_n 1, 1) := by decide +kernel
theorem dX8_follows_7 : decode cX8_follows 7 = .ok (.invokevirtual 194, 3) := by decide +kernel
theorem dX8_follows_10 : decode cX8_follows 10 = .ok (.if_icmp .ge 111, 3) := by decide +kernel
theorem dX8_follows_13 : decode cX8_follows 13 = .ok (.aload_n 0, 1) := by decide +kernel
theorem dX8_follows_14 : decode cX8_follows 14 = .ok (.iload_n 1, 1) := by decide +kernel
theorem dX8_follows_15 : decode cX8_follows 15 = .ok (.iconst 5, 1) := by decide +kernel
theorem dX8_follows_16 : decode cX8_follows 16 = .ok (.iload_n 3, 1) := by decide +kernel
theorem dX8_follows_17 : decode cX8_follows 17 = .ok (.iadd, 1) := by decide +kernel
theorem dX8_follows_18 : decode cX8_follows 18 = .ok (.iconst 1, 1) := by decide +kernel
theorem dX8_follows_19 : decode cX8_follows 19 = .ok (.isub, 1) := by decide +kernel
theorem dX8_follows_20 : decode cX8_follows 20 = .ok (.invokevirtual 173, 3) := by decide +kernel
theorem dX8_follows_23 : decode cX8_follows 23 = .ok (.istore 4, 2) := by decide +kernel
theorem dX8_follows_25 : decode cX8_follows 25 = .ok (.aload_n 0, 1) := by decide +kernel
theorem dX8_follows_26 : decode cX8_follows 26 = .ok (.iload_n 1, 1) := by decide +kernel
theorem dX8_follows_27 : decode cX8_follows 27 = .ok (.iconst 5, 1) := by decide +kernel
theorem dX8_follows_28 : decode cX8_follows 28 = .ok (.iload_n 3, 1) := by decide +kernel
theorem dX8_follows_29 : decode cX8_follows 29 = .ok (.iadd, 1) := by decide +kernel
theorem dX8_follows_30 : decode cX8_follows 30 = .ok (.invokevirtual 173, 3) := by decide +kernel
theorem dX8_follows_33 : decode cX8_follows 33 = .ok (.istore 5, 2) := by decide +kernel
theorem dX8_follows_35 : decode cX8_follows 35 = .ok (.iload_n 2, 1) := by decide +kernel
theorem dX8_follows_36 : decode cX8_follows 36 = .ok (.iload_n 3, 1) := by decide +kernel
theorem dX8_follows_37 : decode cX8_follows 37 = .ok (.aload_n 0, 1) := by decide +kernel
theorem dX8_follows_38 : decode cX8_follows 38 = .ok (.getfield 7, 3) := by decide +kernel
theorem dX8_follows_41 : decode cX8_follows 41 = .ok (.iconst 5, 1) := by decide +kernel
theorem dX8_follows_42 : decode cX8_follows 42 = .ok (.iaload, 1) := by decide +kernel
theorem dX8_follows_43 : decode cX8_follows 43 = .ok (.irem, 1) := by decide +kernel
theorem dX8_follows_44 : decode cX8_follows 44 = .ok (.ifCond .eq 65, 3) := by decide +kernel
theorem dX8_follows_47 : decode cX8_follows 47 = .ok (.iload 4, 2) := by decide +kernel
theorem dX8_follows_49 : decode cX8_follows 49 = .ok (.aload_n 0, 1) := by decide +kernel
theorem dX8_follows_50 : decode cX8_follows 50 = .ok (.getfield 7, 3) := by decide +kernel
theorem dX8_follows_53 : decode cX8_follows 53 = .ok (.iconst 1, 1) := by decide +kernel
theorem dX8_follows_54 : decode cX8_follows 54 = .ok (.iaload, 1) := by decide +kernel
theorem dX8_follows_55 : decode cX8_follows 55 = .ok (.idiv, 1) := by decide +kernel
theorem dX8_follows_56 : decode cX8_follows 56 = .ok (.iload 5, 2) := by decide +kernel
theorem dX8_follows_58 : decode cX8_follows 58 = .ok (.aload_n 0, 1) := by decide +kernel
theorem dX8_follows_59 : decode cX8_follows 59 = .ok (.getfield 7, 3) := by decide +kernel
theorem dX8_follows_62 : decode cX8_follows 62 = .ok (.iconst 1, 1) := by decide +kernel
theorem dX8_follows_63 : decode cX8_follows 63 = .ok (.iaload, 1) := by decide +kernel
theorem dX8_follows_64 : decode cX8_follows 64 = .ok (.idiv, 1) := by decide +kernel
theorem dX8_follows_65 : decode cX8_follows 65 = .ok (.if_icmp .ne 44, 3) := by decide +kernel
theorem dX8_follows_68 : decode cX8_follows 68 = .ok (.iload 5, 2) := by decide +kernel
theorem dX8_follows_70 : decode cX8_follows 70 = .ok (.aload_n 0, 1) := by decide +kernel
theorem dX8_follows_71 : decode cX8_follows 71 = .ok (.getfield 7, 3) := by decide +kernel
theorem dX8_follows_74 : decode cX8_follows 74 = .ok (.iconst 1, 1) := by decide +kernel
theorem dX8_follows_75 : decode cX8_follows 75 = .ok (.iaload, 1) := by decide +kernel
theorem dX8_follows_76 : decode cX8_follows 76 = .ok (.irem, 1) := by decide +kernel
theorem dX8_follows_77 : decode cX8_follows 77 = .ok (.iload 4, 2) := by decide +kernel
theorem dX8_follows_79 : decode cX8_follows 79 = .ok (.aload_n 0, 1) := by decide +kernel
theorem dX8_follows_80 : decode cX8_follows 80 = .ok (.getfield 7, 3) := by decide +kernel
theorem dX8_follows_83 : decode cX8_follows 83 = .ok (.iconst 1, 1) := by decide +kernel
theorem dX8_follows_84 : decode cX8_follows 84 = .ok (.iaload, 1) := by decide +kernel
theorem dX8_follows_85 : decode cX8_follows 85 = .ok (.irem, 1) := by decide +kernel
theorem dX8_follows_86 : decode cX8_follows 86 = .ok (.iconst 1, 1) := by decide +kernel
theorem dX8_follows_87 : decode cX8_follows 87 = .ok (.iadd, 1) := by decide +kernel
theorem dX8_follows_88 : decode cX8_follows 88 = .ok (.aload_n 0, 1) := by decide +kernel
theorem dX8_follows_89 : decode cX8_follows 89 = .ok (.getfield 7, 3) := by decide +kernel
theorem dX8_follows_92 : decode cX8_follows 92 = .ok (.iconst 3, 1) := by decide +kernel
theorem dX8_follows_93 : decode cX8_follows 93 = .ok (.iaload, 1) := by decide +kernel
theorem dX8_follows_94 : decode cX8_follows 94 = .ok (.iadd, 1) := by decide +kernel
theorem dX8_follows_95 : decode cX8_follows 95 = .ok (.aload_n 0, 1) := by decide +kernel
theorem dX8_follows_96 : decode cX8_follows 96 = .ok (.getfield 7, 3) := by decide +kernel
theorem dX8_follows_99 : decode cX8_follows 99 = .ok (.iconst 1, 1) := by decide +kernel
theorem dX8_follows_100 : decode cX8_follows 100 = .ok (.iaload, 1) := by decide +kernel
theorem dX8_follows_101 : decode cX8_follows 101 = .ok (.irem, 1) := by decide +kernel
theorem dX8_follows_102 : decode cX8_follows 102 = .ok (.if_icmp .ne 7, 3) := by decide +kernel
theorem dX8_follows_105 : decode cX8_follows 105 = .ok (.iconst 1, 1) := by decide +kernel
theorem dX8_follows_106 : decode cX8_follows 106 = .ok (.goto 4, 3) := by decide +kernel
theorem dX8_follows_109 : decode cX8_follows 109 = .ok (.iconst 0, 1) := by decide +kernel
theorem dX8_follows_110 : decode cX8_follows 110 = .ok (.invokestatic 133, 3) := by decide +kernel
theorem dX8_follows_113 : decode cX8_follows 113 = .ok (.iadd, 1) := by decide +kernel
theorem dX8_follows_114 : decode cX8_follows 114 = .ok (.istore_n 2, 1) := by decide +kernel
theorem dX8_follows_115 : decode cX8_follows 115 = .ok (.iinc 3 1, 3) := by decide +kernel
theorem dX8_follows_118 : decode cX8_follows 118 = .ok (.goto (-114), 3) := by decide +kernel
theorem dX8_follows_121 : decode cX8_follows 121 = .ok (.iload_n 2, 1) := by decide +kernel
theorem dX8_follows_122 : decode cX8_follows 122 = .ok (.ireturn, 1) := by decide +kernel
theorem dX8_ofKind_0 : decode cX8_ofKind 0 = .ok (.iconst 0, 1) := by decide +kernel
theorem dX8_ofKind_1 : decode cX8_ofKind 1 = .ok (.istore_n 2, 1) := by decide +kernel
theorem dX8_ofKind_2 : decode cX8_ofKind 2 = .ok (.iconst 0, 1) := by decide +kernel
theorem dX8_ofKind_3 : decode cX8_ofKind 3 = .ok (.istore_n 3, 1) := by decide +kernel
theorem dX8_ofKind_4 : decode cX8_ofKind 4 = .ok (.iload_n 3, 1) := by decide +kernel
theorem dX8_ofKind_5 : decode cX8_ofKind 5 = .ok (.aload_n 0, 1) := by decide +kernel
theorem dX8_ofKind_6 : decode cX8_ofKind 6 = .ok (.invokevirtual 167, 3) := by decide +kernel
theorem dX8_ofKind_9 : decode cX8_ofKind 9 = .ok (.if_icmp .ge 30, 3) := by decide +kernel
theorem dX8_ofKind_12 : decode cX8_ofKind 12 = .ok (.iload_n 2, 1) := by decide +kernel
theorem dX8_ofKind_13 : decode cX8_ofKind 13 = .ok (.aload_n 0, 1) := by decide +kernel
theorem dX8_ofKind_14 : decode cX8_ofKind 14 = .ok (.iload_n 3, 1) := by decide +kernel
theorem dX8_ofKind_15 : decode cX8_ofKind 15 = .ok (.iconst 0, 1) := by decide +kernel
theorem dX8_ofKind_16 : decode cX8_ofKind 16 = .ok (.invokevirtual 173, 3) := by decide +kernel
theorem dX8_ofKind_19 : decode cX8_ofKind 19 = .ok (.iload_n 1, 1) := by decide +kernel
theorem dX8_ofKind_20 : decode cX8_ofKind 20 = .ok (.if_icmp .ne 7, 3) := by decide +kernel
theorem dX8_ofKind_23 : decode cX8_ofKind 23 = .ok (.iconst 1, 1) := by decide +kernel
theorem dX8_ofKind_24 : decode cX8_ofKind 24 = .ok (.goto 4, 3) := by decide +kernel
theorem dX8_ofKind_27 : decode cX8_ofKind 27 = .ok (.iconst 0, 1) := by decide +kernel
theorem dX8_ofKind_28 : decode cX8_ofKind 28 = .ok (.invokestatic 133, 3) := by decide +kernel
theorem dX8_ofKind_31 : decode cX8_ofKind 31 = .ok (.iadd, 1) := by decide +kernel
theorem dX8_ofKind_32 : decode cX8_ofKind 32 = .ok (.istore_n 2, 1) := by decide +kernel
theorem dX8_ofKind_33 : decode cX8_ofKind 33 = .ok (.iinc 3 1, 3) := by decide +kernel
theorem dX8_ofKind_36 : decode cX8_ofKind 36 = .ok (.goto (-32), 3) := by decide +kernel
theorem dX8_ofKind_39 : decode cX8_ofKind 39 = .ok (.iload_n 2, 1) := by decide +kernel
theorem dX8_ofKind_40 : decode cX8_ofKind 40 = .ok (.ireturn, 1) := by decide +kernel
theorem dX8_summed_0 : decode cX8_summed 0 = .ok (.iconst 0, 1) := by decide +kernel
theorem dX8_summed_1 : decode cX8_summed 1 = .ok (.istore_n 2, 1) := by decide +kernel
theorem dX8_summed_2 : decode cX8_summed 2 = .ok (.iconst 0, 1) := by decide +kernel
theorem dX8_summed_3 : decode cX8_summed 3 = .ok (.istore_n 3, 1) := by decide +kernel
theorem dX8_summed_4 : decode cX8_summed 4 = .ok (.iload_n 3, 1) := by decide +kernel
theorem dX8_summed_5 : decode cX8_summed 5 = .ok (.aload_n 0, 1) := by decide +kernel
theorem dX8_summed_6 : decode cX8_summed 6 = .ok (.invokevirtual 167, 3) := by decide +kernel
theorem dX8_summed_9 : decode cX8_summed 9 = .ok (.if_icmp .ge 58, 3) := by decide +kernel
theorem dX8_summed_12 : decode cX8_summed 12 = .ok (.iload_n 2, 1) := by decide +kernel
theorem dX8_summed_13 : decode cX8_summed 13 = .ok (.aload_n 0, 1) := by decide +kernel
theorem dX8_summed_14 : decode cX8_summed 14 = .ok (.iload_n 3, 1) := by decide +kernel
theorem dX8_summed_15 : decode cX8_summed 15 = .ok (.invokevirtual 176, 3) := by decide +kernel
theorem dX8_summed_18 : decode cX8_summed 18 = .ok (.ifCond .ne 7, 3) := by decide +kernel
theorem dX8_summed_21 : decode cX8_summed 21 = .ok (.iconst 0, 1) := by decide +kernel
theorem dX8_summed_22 : decode cX8_summed 22 = .ok (.goto 37, 3) := by decide +kernel
theorem dX8_summed_25 : decode cX8_summed 25 = .ok (.iload_n 1, 1) := by decide +kernel
theorem dX8_summed_26 : decode cX8_summed 26 = .ok (.bipush 10, 2) := by decide +kernel
theorem dX8_summed_28 : decode cX8_summed 28 = .ok (.if_icmp .ne 12, 3) := by decide +kernel
theorem dX8_summed_31 : decode cX8_summed 31 = .ok (.aload_n 0, 1) := by decide +kernel
theorem dX8_summed_32 : decode cX8_summed 32 = .ok (.iload_n 3, 1) := by decide +kernel
theorem dX8_summed_33 : decode cX8_summed 33 = .ok (.iconst 3, 1) := by decide +kernel
theorem dX8_summed_34 : decode cX8_summed 34 = .ok (.invokevirtual 173, 3) := by decide +kernel
theorem dX8_summed_37 : decode cX8_summed 37 = .ok (.goto 22, 3) := by decide +kernel
theorem dX8_summed_40 : decode cX8_summed 40 = .ok (.iload_n 1, 1) := by decide +kernel
theorem dX8_summed_41 : decode cX8_summed 41 = .ok (.bipush 11, 2) := by decide +kernel
theorem dX8_summed_43 : decode cX8_summed 43 = .ok (.if_icmp .ne 11, 3) := by decide +kernel
theorem dX8_summed_46 : decode cX8_summed 46 = .ok (.aload_n 0, 1) := by decide +kernel
theorem dX8_summed_47 : decode cX8_summed 47 = .ok (.iload_n 3, 1) := by decide +kernel
theorem dX8_summed_48 : decode cX8_summed 48 = .ok (.invokevirtual 200, 3) := by decide +kernel
theorem dX8_summed_51 : decode cX8_summed 51 = .ok (.goto 8, 3) := by decide +kernel
theorem dX8_summed_54 : decode cX8_summed 54 = .ok (.aload_n 0, 1) := by decide +kernel
theorem dX8_summed_55 : decode cX8_summed 55 = .ok (.iload_n 3, 1) := by decide +kernel
theorem dX8_summed_56 : decode cX8_summed 56 = .ok (.invokevirtual 203, 3) := by decide +kernel
theorem dX8_summed_59 : decode cX8_summed 59 = .ok (.iadd, 1) := by decide +kernel
theorem dX8_summed_60 : decode cX8_summed 60 = .ok (.istore_n 2, 1) := by decide +kernel
theorem dX8_summed_61 : decode cX8_summed 61 = .ok (.iinc 3 1, 3) := by decide +kernel
theorem dX8_summed_64 : decode cX8_summed 64 = .ok (.goto (-60), 3) := by decide +kernel
theorem dX8_summed_67 : decode cX8_summed 67 = .ok (.iload_n 2, 1) := by decide +kernel
theorem dX8_summed_68 : decode cX8_summed 68 = .ok (.ireturn, 1) := by decide +kernel
theorem dX8_rule_0 : decode cX8_rule 0 = .ok (.iload_n 1, 1) := by decide +kernel
theorem dX8_rule_1 : decode cX8_rule 1 = .ok (.tableswitch 120 0 14 #[75, 75, 75, 75, 75, 75, 82, 87, 92, 92, 101, 101, 101, 107, 107], 75) := by decide +kernel
theorem dX8_rule_76 : decode cX8_rule 76 = .ok (.aload_n 0, 1) := by decide +kernel
theorem dX8_rule_77 : decode cX8_rule 77 = .ok (.getfield 7, 3) := by decide +kernel
theorem dX8_rule_80 : decode cX8_rule 80 = .ok (.iload_n 1, 1) := by decide +kernel
theorem dX8_rule_81 : decode cX8_rule 81 = .ok (.iaload, 1) := by decide +kernel
theorem dX8_rule_82 : decode cX8_rule 82 = .ok (.ireturn, 1) := by decide +kernel
theorem dX8_rule_83 : decode cX8_rule 83 = .ok (.aload_n 0, 1) := by decide +kernel
theorem dX8_rule_84 : decode cX8_rule 84 = .ok (.invokevirtual 206, 3) := by decide +kernel
theorem dX8_rule_87 : decode cX8_rule 87 = .ok (.ireturn, 1) := by decide +kernel
theorem dX8_rule_88 : decode cX8_rule 88 = .ok (.aload_n 0, 1) := by decide +kernel
theorem dX8_rule_89 : decode cX8_rule 89 = .ok (.invokevirtual 209, 3) := by decide +kernel
theorem dX8_rule_92 : decode cX8_rule 92 = .ok (.ireturn, 1) := by decide +kernel
theorem dX8_rule_93 : decode cX8_rule 93 = .ok (.aload_n 0, 1) := by decide +kernel
theorem dX8_rule_94 : decode cX8_rule 94 = .ok (.iload_n 1, 1) := by decide +kernel
theorem dX8_rule_95 : decode cX8_rule 95 = .ok (.bipush 7, 2) := by decide +kernel
theorem dX8_rule_97 : decode cX8_rule 97 = .ok (.isub, 1) := by decide +kernel
theorem dX8_rule_98 : decode cX8_rule 98 = .ok (.invokevirtual 212, 3) := by decide +kernel
theorem dX8_rule_101 : decode cX8_rule 101 = .ok (.ireturn, 1) := by decide +kernel
theorem dX8_rule_102 : decode cX8_rule 102 = .ok (.aload_n 0, 1) := by decide +kernel
theorem dX8_rule_103 : decode cX8_rule 103 = .ok (.iload_n 1, 1) := by decide +kernel
theorem dX8_rule_104 : decode cX8_rule 104 = .ok (.invokevirtual 215, 3) := by decide +kernel
theorem dX8_rule_107 : decode cX8_rule 107 = .ok (.ireturn, 1) := by decide +kernel
theorem dX8_rule_108 : decode cX8_rule 108 = .ok (.aload_n 0, 1) := by decide +kernel
theorem dX8_rule_109 : decode cX8_rule 109 = .ok (.getfield 7, 3) := by decide +kernel
theorem dX8_rule_112 : decode cX8_rule 112 = .ok (.bipush 6, 2) := by decide +kernel
theorem dX8_rule_114 : decode cX8_rule 114 = .ok (.iload_n 1, 1) := by decide +kernel
theorem dX8_rule_115 : decode cX8_rule 115 = .ok (.iadd, 1) := by decide +kernel
theorem dX8_rule_116 : decode cX8_rule 116 = .ok (.bipush 13, 2) := by decide +kernel
theorem dX8_rule_118 : decode cX8_rule 118 = .ok (.isub, 1) := by decide +kernel
theorem dX8_rule_119 : decode cX8_rule 119 = .ok (.iaload, 1) := by decide +kernel
theorem dX8_rule_120 : decode cX8_rule 120 = .ok (.ireturn, 1) := by decide +kernel
theorem dX8_rule_121 : decode cX8_rule 121 = .ok (.iconst (-1), 1) := by decide +kernel
theorem dX8_rule_122 : decode cX8_rule 122 = .ok (.ireturn, 1) := by decide +kernel
theorem dX8_group_0 : decode cX8_group 0 = .ok (.iload_n 1, 1) := by decide +kernel
theorem dX8_group_1 : decode cX8_group 1 = .ok (.i2l, 1) := by decide +kernel
theorem dX8_group_2 : decode cX8_group 2 = .ok (.lconst 0, 1) := by decide +kernel
theorem dX8_group_3 : decode cX8_group 3 = .ok (.aload_n 0, 1) := by decide +kernel
theorem dX8_group_4 : decode cX8_group 4 = .ok (.getfield 7, 3) := by decide +kernel
theorem dX8_group_7 : decode cX8_group 7 = .ok (.iconst 0, 1) := by decide +kernel
theorem dX8_group_8 : decode cX8_group 8 = .ok (.iaload, 1) := by decide +kernel
theorem dX8_group_9 : decode cX8_group 9 = .ok (.iconst 1, 1) := by decide +kernel
theorem dX8_group_10 : decode cX8_group 10 = .ok (.isub, 1) := by decide +kernel
theorem dX8_group_11 : decode cX8_group 11 = .ok (.i2l, 1) := by decide +kernel
theorem dX8_group_12 : decode cX8_group 12 = .ok (.invokestatic 41, 3) := by decide +kernel
theorem dX8_group_15 : decode cX8_group 15 = .ok (.ifCond .ne 5, 3) := by decide +kernel
theorem dX8_group_18 : decode cX8_group 18 = .ok (.iconst (-1), 1) := by decide +kernel
theorem dX8_group_19 : decode cX8_group 19 = .ok (.ireturn, 1) := by decide +kernel
theorem dX8_group_20 : decode cX8_group 20 = .ok (.iload_n 2, 1) := by decide +kernel
theorem dX8_group_21 : decode cX8_group 21 = .ok (.tableswitch 93 0 6 #[43, 66, 72, 78, 84, 84, 84], 43) := by decide +kernel
theorem dX8_group_64 : decode cX8_group 64 = .ok (.aload_n 0, 1) := by decide +kernel
theorem dX8_group_65 : decode cX8_group 65 = .ok (.iconst 4, 1) := by decide +kernel
theorem dX8_group_66 : decode cX8_group 66 = .ok (.aload_n 0, 1) := by decide +kernel
theorem dX8_group_67 : decode cX8_group 67 = .ok (.getfield 7, 3) := by decide +kernel
theorem dX8_group_70 : decode cX8_group 70 = .ok (.iconst 1, 1) := by decide +kernel
theorem dX8_group_71 : decode cX8_group 71 = .ok (.iaload, 1) := by decide +kernel
theorem dX8_group_72 : decode cX8_group 72 = .ok (.imul, 1) := by decide +kernel
theorem dX8_group_73 : decode cX8_group 73 = .ok (.iload_n 1, 1) := by decide +kernel
theorem dX8_group_74 : decode cX8_group 74 = .ok (.imul, 1) := by decide +kernel
theorem dX8_group_75 : decode cX8_group 75 = .ok (.iconst 4, 1) := by decide +kernel
theorem dX8_group_76 : decode cX8_group 76 = .ok (.aload_n 0, 1) := by decide +kernel
theorem dX8_group_77 : decode cX8_group 77 = .ok (.getfield 7, 3) := by decide +kernel
theorem dX8_group_80 : decode cX8_group 80 = .ok (.iconst 1, 1) := by decide +kernel
theorem dX8_group_81 : decode cX8_group 81 = .ok (.iaload, 1) := by decide +kernel
theorem dX8_group_82 : decode cX8_group 82 = .ok (.imul, 1) := by decide +kernel
theorem dX8_group_83 : decode cX8_group 83 = .ok (.invokevirtual 155, 3) := by decide +kernel
theorem dX8_group_86 : decode cX8_group 86 = .ok (.ireturn, 1) := by decide +kernel
theorem dX8_group_87 : decode cX8_group 87 = .ok (.aload_n 0, 1) := by decide +kernel
theorem dX8_group_88 : decode cX8_group 88 = .ok (.iload_n 1, 1) := by decide +kernel
theorem dX8_group_89 : decode cX8_group 89 = .ok (.invokevirtual 152, 3) := by decide +kernel
theorem dX8_group_92 : decode cX8_group 92 = .ok (.ireturn, 1) := by decide +kernel
theorem dX8_group_93 : decode cX8_group 93 = .ok (.aload_n 0, 1) := by decide +kernel
theorem dX8_group_94 : decode cX8_group 94 = .ok (.iload_n 1, 1) := by decide +kernel
theorem dX8_group_95 : decode cX8_group 95 = .ok (.invokevirtual 179, 3) := by decide +kernel
theorem dX8_group_98 : decode cX8_group 98 = .ok (.ireturn, 1) := by decide +kernel
theorem dX8_group_99 : decode cX8_group 99 = .ok (.aload_n 0, 1) := by decide +kernel
theorem dX8_group_100 : decode cX8_group 100 = .ok (.iload_n 1, 1) := by decide +kernel
theorem dX8_group_101 : decode cX8_group 101 = .ok (.invokevirtual 182, 3) := by decide +kernel
theorem dX8_group_104 : decode cX8_group 104 = .ok (.ireturn, 1) := by decide +kernel
theorem dX8_group_105 : decode cX8_group 105 = .ok (.aload_n 0, 1) := by decide +kernel
theorem dX8_group_106 : decode cX8_group 106 = .ok (.iload_n 1, 1) := by decide +kernel
theorem dX8_group_107 : decode cX8_group 107 = .ok (.iload_n 2, 1) := by decide +kernel
theorem dX8_group_108 : decode cX8_group 108 = .ok (.iconst 3, 1) := by decide +kernel
theorem dX8_group_109 : decode cX8_group 109 = .ok (.isub, 1) := by decide +kernel
theorem dX8_group_110 : decode cX8_group 110 = .ok (.invokevirtual 218, 3) := by decide +kernel
theorem dX8_group_113 : decode cX8_group 113 = .ok (.ireturn, 1) := by decide +kernel
theorem dX8_group_114 : decode cX8_group 114 = .ok (.iconst (-1), 1) := by decide +kernel
theorem dX8_group_115 : decode cX8_group 115 = .ok (.ireturn, 1) := by decide +kernel
theorem dX8_inode_0 : decode cX8_inode 0 = .ok (.aload_n 0, 1) := by decide +kernel
theorem dX8_inode_1 : decode cX8_inode 1 = .ok (.iload_n 1, 1) := by decide +kernel
theorem dX8_inode_2 : decode cX8_inode 2 = .ok (.invokevirtual 170, 3) := by decide +kernel
theorem dX8_inode_5 : decode cX8_inode 5 = .ok (.ifCond .eq 15, 3) := by decide +kernel
theorem dX8_inode_8 : decode cX8_inode 8 = .ok (.iload_n 2, 1) := by decide +kernel
theorem dX8_inode_9 : decode cX8_inode 9 = .ok (.i2l, 1) := by decide +kernel
theorem dX8_inode_10 : decode cX8_inode 10 = .ok (.lconst 0, 1) := by decide +kernel
theorem dX8_inode_11 : decode cX8_inode 11 = .ok (.ldc2_w 221, 3) := by decide +kernel
theorem dX8_inode_14 : decode cX8_inode 14 = .ok (.invokestatic 41, 3) := by decide +kernel
theorem dX8_inode_17 : decode cX8_inode 17 = .ok (.ifCond .ne 5, 3) := by decide +kernel
theorem dX8_inode_20 : decode cX8_inode 20 = .ok (.iconst (-1), 1) := by decide +kernel
theorem dX8_inode_21 : decode cX8_inode 21 = .ok (.ireturn, 1) := by decide +kernel
theorem dX8_inode_22 : decode cX8_inode 22 = .ok (.iload_n 2, 1) := by decide +kernel
theorem dX8_inode_23 : decode cX8_inode 23 = .ok (.ifCond .eq 11, 3) := by decide +kernel
theorem dX8_inode_26 : decode cX8_inode 26 = .ok (.aload_n 0, 1) := by decide +kernel
theorem dX8_inode_27 : decode cX8_inode 27 = .ok (.iload_n 1, 1) := by decide +kernel
theorem dX8_inode_28 : decode cX8_inode 28 = .ok (.invokevirtual 176, 3) := by decide +kernel
theorem dX8_inode_31 : decode cX8_inode 31 = .ok (.ifCond .ne 19, 3) := by decide +kernel
theorem dX8_inode_34 : decode cX8_inode 34 = .ok (.iload_n 2, 1) := by decide +kernel
theorem dX8_inode_35 : decode cX8_inode 35 = .ok (.ifCond .ne 12, 3) := by decide +kernel
theorem dX8_inode_38 : decode cX8_inode 38 = .ok (.aload_n 0, 1) := by decide +kernel
theorem dX8_inode_39 : decode cX8_inode 39 = .ok (.iload_n 1, 1) := by decide +kernel
theorem dX8_inode_40 : decode cX8_inode 40 = .ok (.iconst 0, 1) := by decide +kernel
theorem dX8_inode_41 : decode cX8_inode 41 = .ok (.invokevirtual 173, 3) := by decide +kernel
theorem dX8_inode_44 : decode cX8_inode 44 = .ok (.goto 5, 3) := by decide +kernel
theorem dX8_inode_47 : decode cX8_inode 47 = .ok (.bipush (-4), 2) := by decide +kernel
theorem dX8_inode_49 : decode cX8_inode 49 = .ok (.ireturn, 1) := by decide +kernel
theorem dX8_inode_50 : decode cX8_inode 50 = .ok (.iload_n 2, 1) := by decide +kernel
theorem dX8_inode_51 : decode cX8_inode 51 = .ok (.tableswitch 76 1 6 #[37, 37, 37, 44, 50, 70], 37) := by decide +kernel
theorem dX8_inode_88 : decode cX8_inode 88 = .ok (.aload_n 0, 1) := by decide +kernel
theorem dX8_inode_89 : decode cX8_inode 89 = .ok (.iload_n 1, 1) := by decide +kernel
theorem dX8_inode_90 : decode cX8_inode 90 = .ok (.iload_n 2, 1) := by decide +kernel
theorem dX8_inode_91 : decode cX8_inode 91 = .ok (.invokevirtual 173, 3) := by decide +kernel
theorem dX8_inode_94 : decode cX8_inode 94 = .ok (.ireturn, 1) := by decide +kernel
theorem dX8_inode_95 : decode cX8_inode 95 = .ok (.aload_n 0, 1) := by decide +kernel
theorem dX8_inode_96 : decode cX8_inode 96 = .ok (.iload_n 1, 1) := by decide +kernel
theorem dX8_inode_97 : decode cX8_inode 97 = .ok (.invokevirtual 194, 3) := by decide +kernel
theorem dX8_inode_100 : decode cX8_inode 100 = .ok (.ireturn, 1) := by decide +kernel
theorem dX8_inode_101 : decode cX8_inode 101 = .ok (.aload_n 0, 1) := by decide +kernel
theorem dX8_inode_102 : decode cX8_inode 102 = .ok (.iload_n 1, 1) := by decide +kernel
theorem dX8_inode_103 : decode cX8_inode 103 = .ok (.invokevirtual 191, 3) := by decide +kernel
theorem dX8_inode_106 : decode cX8_inode 106 = .ok (.ifCond .ne 8, 3) := by decide +kernel
theorem dX8_inode_109 : decode cX8_inode 109 = .ok (.bipush (-4), 2) := by decide +kernel
theorem dX8_inode_111 : decode cX8_inode 111 = .ok (.goto 9, 3) := by decide +kernel
theorem dX8_inode_114 : decode cX8_inode 114 = .ok (.aload_n 0, 1) := by decide +kernel
theorem dX8_inode_115 : decode cX8_inode 115 = .ok (.iload_n 1, 1) := by decide +kernel
theorem dX8_inode_116 : decode cX8_inode 116 = .ok (.iconst 4, 1) := by decide +kernel
theorem dX8_inode_117 : decode cX8_inode 117 = .ok (.invokevirtual 173, 3) := by decide +kernel
theorem dX8_inode_120 : decode cX8_inode 120 = .ok (.ireturn, 1) := by decide +kernel
theorem dX8_inode_121 : decode cX8_inode 121 = .ok (.aload_n 0, 1) := by decide +kernel
theorem dX8_inode_122 : decode cX8_inode 122 = .ok (.iload_n 1, 1) := by decide +kernel
theorem dX8_inode_123 : decode cX8_inode 123 = .ok (.invokevirtual 200, 3) := by decide +kernel
theorem dX8_inode_126 : decode cX8_inode 126 = .ok (.ireturn, 1) := by decide +kernel
theorem dX8_inode_127 : decode cX8_inode 127 = .ok (.aload_n 0, 1) := by decide +kernel
theorem dX8_inode_128 : decode cX8_inode 128 = .ok (.iload_n 1, 1) := by decide +kernel
theorem dX8_inode_129 : decode cX8_inode 129 = .ok (.invokevirtual 203, 3) := by decide +kernel
theorem dX8_inode_132 : decode cX8_inode 132 = .ok (.ireturn, 1) := by decide +kernel
theorem dX8_block_0 : decode cX8_block 0 = .ok (.aload_n 0, 1) := by decide +kernel
theorem dX8_block_1 : decode cX8_block 1 = .ok (.iload_n 1, 1) := by decide +kernel
theorem dX8_block_2 : decode cX8_block 2 = .ok (.invokevirtual 170, 3) := by decide +kernel
theorem dX8_block_5 : decode cX8_block 5 = .ok (.ifCond .eq 7, 3) := by decide +kernel
theorem dX8_block_8 : decode cX8_block 8 = .ok (.iload_n 2, 1) := by decide +kernel
theorem dX8_block_9 : decode cX8_block 9 = .ok (.ifCond .ge 5, 3) := by decide +kernel
theorem dX8_block_12 : decode cX8_block 12 = .ok (.iconst (-1), 1) := by decide +kernel
theorem dX8_block_13 : decode cX8_block 13 = .ok (.ireturn, 1) := by decide +kernel
theorem dX8_block_14 : decode cX8_block 14 = .ok (.aload_n 0, 1) := by decide +kernel
theorem dX8_block_15 : decode cX8_block 15 = .ok (.iload_n 1, 1) := by decide +kernel
theorem dX8_block_16 : decode cX8_block 16 = .ok (.invokevirtual 176, 3) := by decide +kernel
theorem dX8_block_19 : decode cX8_block 19 = .ok (.ifCond .eq 23, 3) := by decide +kernel
theorem dX8_block_22 : decode cX8_block 22 = .ok (.iload_n 2, 1) := by decide +kernel
theorem dX8_block_23 : decode cX8_block 23 = .ok (.aload_n 0, 1) := by decide +kernel
theorem dX8_block_24 : decode cX8_block 24 = .ok (.iload_n 1, 1) := by decide +kernel
theorem dX8_block_25 : decode cX8_block 25 = .ok (.invokevirtual 194, 3) := by decide +kernel
theorem dX8_block_28 : decode cX8_block 28 = .ok (.if_icmp .ge 14, 3) := by decide +kernel
theorem dX8_block_31 : decode cX8_block 31 = .ok (.aload_n 0, 1) := by decide +kernel
theorem dX8_block_32 : decode cX8_block 32 = .ok (.iload_n 1, 1) := by decide +kernel
theorem dX8_block_33 : decode cX8_block 33 = .ok (.iconst 5, 1) := by decide +kernel
theorem dX8_block_34 : decode cX8_block 34 = .ok (.iload_n 2, 1) := by decide +kernel
theorem dX8_block_35 : decode cX8_block 35 = .ok (.iadd, 1) := by decide +kernel
theorem dX8_block_36 : decode cX8_block 36 = .ok (.invokevirtual 173, 3) := by decide +kernel
theorem dX8_block_39 : decode cX8_block 39 = .ok (.goto 5, 3) := by decide +kernel
theorem dX8_block_42 : decode cX8_block 42 = .ok (.bipush (-4), 2) := by decide +kernel
theorem dX8_block_44 : decode cX8_block 44 = .ok (.ireturn, 1) := by decide +kernel
theorem dX8_fragment_0 : decode cX8_fragment 0 = .ok (.iload_n 1, 1) := by decide +kernel
theorem dX8_fragment_1 : decode cX8_fragment 1 = .ok (.i2l, 1) := by decide +kernel
theorem dX8_fragment_2 : decode cX8_fragment 2 = .ok (.lconst 0, 1) := by decide +kernel
theorem dX8_fragment_3 : decode cX8_fragment 3 = .ok (.aload_n 0, 1) := by decide +kernel
theorem dX8_fragment_4 : decode cX8_fragment 4 = .ok (.invokevirtual 35, 3) := by decide +kernel
theorem dX8_fragment_7 : decode cX8_fragment 7 = .ok (.iconst 1, 1) := by decide +kernel
theorem dX8_fragment_8 : decode cX8_fragment 8 = .ok (.isub, 1) := by decide +kernel
theorem dX8_fragment_9 : decode cX8_fragment 9 = .ok (.i2l, 1) := by decide +kernel
theorem dX8_fragment_10 : decode cX8_fragment 10 = .ok (.invokestatic 41, 3) := by decide +kernel
theorem dX8_fragment_13 : decode cX8_fragment 13 = .ok (.ifCond .eq 13, 3) := by decide +kernel
theorem dX8_fragment_16 : decode cX8_fragment 16 = .ok (.iload_n 2, 1) := by decide +kernel
theorem dX8_fragment_17 : decode cX8_fragment 17 = .ok (.i2l, 1) := by decide +kernel
theorem dX8_fragment_18 : decode cX8_fragment 18 = .ok (.lconst 0, 1) := by decide +kernel
theorem dX8_fragment_19 : decode cX8_fragment 19 = .ok (.lconst 1, 1) := by decide +kernel
theorem dX8_fragment_20 : decode cX8_fragment 20 = .ok (.invokestatic 41, 3) := by decide +kernel
theorem dX8_fragment_23 : decode cX8_fragment 23 = .ok (.ifCond .ne 5, 3) := by decide +kernel
theorem dX8_fragment_26 : decode cX8_fragment 26 = .ok (.iconst (-1), 1) := by decide +kernel
theorem dX8_fragment_27 : decode cX8_fragment 27 = .ok (.ireturn, 1) := by decide +kernel
theorem dX8_fragment_28 : decode cX8_fragment 28 = .ok (.iload_n 2, 1) := by decide +kernel
theorem dX8_fragment_29 : decode cX8_fragment 29 = .ok (.ifCond .ne 14, 3) := by decide +kernel
theorem dX8_fragment_32 : decode cX8_fragment 32 = .ok (.aload_n 0, 1) := by decide +kernel
theorem dX8_fragment_33 : decode cX8_fragment 33 = .ok (.iload_n 1, 1) := by decide +kernel
theorem dX8_fragment_34 : decode cX8_fragment 34 = .ok (.invokevirtual 141, 3) := by decide +kernel
theorem dX8_fragment_37 : decode cX8_fragment 37 = .ok (.invokestatic 133, 3) := by decide +kernel
theorem dX8_fragment_40 : decode cX8_fragment 40 = .ok (.goto 8, 3) := by decide +kernel
theorem dX8_fragment_43 : decode cX8_fragment 43 = .ok (.aload_n 0, 1) := by decide +kernel
theorem dX8_fragment_44 : decode cX8_fragment 44 = .ok (.iload_n 1, 1) := by decide +kernel
theorem dX8_fragment_45 : decode cX8_fragment 45 = .ok (.invokevirtual 197, 3) := by decide +kernel
theorem dX8_fragment_48 : decode cX8_fragment 48 = .ok (.ireturn, 1) := by decide +kernel
theorem dX8_find_0 : decode cX8_find 0 = .ok (.aload_n 0, 1) := by decide +kernel
theorem dX8_find_1 : decode cX8_find 1 = .ok (.iload_n 1, 1) := by decide +kernel
theorem dX8_find_2 : decode cX8_find 2 = .ok (.invokevirtual 223, 3) := by decide +kernel
theorem dX8_find_5 : decode cX8_find 5 = .ok (.ifCond .eq 24, 3) := by decide +kernel
theorem dX8_find_8 : decode cX8_find 8 = .ok (.iload_n 2, 1) := by decide +kernel
theorem dX8_find_9 : decode cX8_find 9 = .ok (.i2l, 1) := by decide +kernel
theorem dX8_find_10 : decode cX8_find 10 = .ok (.lconst 0, 1) := by decide +kernel
theorem dX8_find_11 : decode cX8_find 11 = .ok (.ldc2_w 226, 3) := by decide +kernel
theorem dX8_find_14 : decode cX8_find 14 = .ok (.invokestatic 41, 3) := by decide +kernel
theorem dX8_find_17 : decode cX8_find 17 = .ok (.ifCond .eq 12, 3) := by decide +kernel
theorem dX8_find_20 : decode cX8_find 20 = .ok (.aload_n 0, 1) := by decide +kernel
theorem dX8_find_21 : decode cX8_find 21 = .ok (.iload_n 1, 1) := by decide +kernel
theorem dX8_find_22 : decode cX8_find 22 = .ok (.iload_n 2, 1) := by decide +kernel
theorem dX8_find_23 : decode cX8_find 23 = .ok (.invokevirtual 103, 3) := by decide +kernel
theorem dX8_find_26 : decode cX8_find 26 = .ok (.goto 4, 3) := by decide +kernel
theorem dX8_find_29 : decode cX8_find 29 = .ok (.iconst (-1), 1) := by decide +kernel
theorem dX8_find_30 : decode cX8_find 30 = .ok (.ireturn, 1) := by decide +kernel
theorem dX8_entry_0 : decode cX8_entry 0 = .ok (.aload_n 0, 1) := by decide +kernel
theorem dX8_entry_1 : decode cX8_entry 1 = .ok (.iload_n 1, 1) := by decide +kernel
theorem dX8_entry_2 : decode cX8_entry 2 = .ok (.invokevirtual 223, 3) := by decide +kernel
theorem dX8_entry_5 : decode cX8_entry 5 = .ok (.ifCond .eq 7, 3) := by decide +kernel
theorem dX8_entry_8 : decode cX8_entry 8 = .ok (.iload_n 2, 1) := by decide +kernel
theorem dX8_entry_9 : decode cX8_entry 9 = .ok (.ifCond .ge 5, 3) := by decide +kernel
theorem dX8_entry_12 : decode cX8_entry 12 = .ok (.iconst (-1), 1) := by decide +kernel
theorem dX8_entry_13 : decode cX8_entry 13 = .ok (.ireturn, 1) := by decide +kernel
theorem dX8_entry_14 : decode cX8_entry 14 = .ok (.iload_n 2, 1) := by decide +kernel
theorem dX8_entry_15 : decode cX8_entry 15 = .ok (.istore_n 3, 1) := by decide +kernel
theorem dX8_entry_16 : decode cX8_entry 16 = .ok (.iconst 0, 1) := by decide +kernel
theorem dX8_entry_17 : decode cX8_entry 17 = .ok (.istore 4, 2) := by decide +kernel
theorem dX8_entry_19 : decode cX8_entry 19 = .ok (.iload 4, 2) := by decide +kernel
theorem dX8_entry_21 : decode cX8_entry 21 = .ok (.bipush 9, 2) := by decide +kernel
theorem dX8_entry_23 : decode cX8_entry 23 = .ok (.if_icmp .gt 36, 3) := by decide +kernel
theorem dX8_entry_26 : decode cX8_entry 26 = .ok (.aload_n 0, 1) := by decide +kernel
theorem dX8_entry_27 : decode cX8_entry 27 = .ok (.iload_n 1, 1) := by decide +kernel
theorem dX8_entry_28 : decode cX8_entry 28 = .ok (.iload 4, 2) := by decide +kernel
theorem dX8_entry_30 : decode cX8_entry 30 = .ok (.invokevirtual 103, 3) := by decide +kernel
theorem dX8_entry_33 : decode cX8_entry 33 = .ok (.bipush (-4), 2) := by decide +kernel
theorem dX8_entry_35 : decode cX8_entry 35 = .ok (.if_icmp .eq 18, 3) := by decide +kernel
theorem dX8_entry_38 : decode cX8_entry 38 = .ok (.iload_n 3, 1) := by decide +kernel
theorem dX8_entry_39 : decode cX8_entry 39 = .ok (.ifCond .ne 11, 3) := by decide +kernel
theorem dX8_entry_42 : decode cX8_entry 42 = .ok (.aload_n 0, 1) := by decide +kernel
theorem dX8_entry_43 : decode cX8_entry 43 = .ok (.iload_n 1, 1) := by decide +kernel
theorem dX8_entry_44 : decode cX8_entry 44 = .ok (.iload 4, 2) := by decide +kernel
theorem dX8_entry_46 : decode cX8_entry 46 = .ok (.invokevirtual 103, 3) := by decide +kernel
theorem dX8_entry_49 : decode cX8_entry 49 = .ok (.ireturn, 1) := by decide +kernel
theorem dX8_entry_50 : decode cX8_entry 50 = .ok (.iinc 3 (-1), 3) := by decide +kernel
theorem dX8_entry_53 : decode cX8_entry 53 = .ok (.iinc 4 1, 3) := by decide +kernel
theorem dX8_entry_56 : decode cX8_entry 56 = .ok (.goto (-37), 3) := by decide +kernel
theorem dX8_entry_59 : decode cX8_entry 59 = .ok (.bipush (-4), 2) := by decide +kernel
theorem dX8_entry_61 : decode cX8_entry 61 = .ok (.ireturn, 1) := by decide +kernel
theorem dX8_where_0 : decode cX8_where 0 = .ok (.aload_n 0, 1) := by decide +kernel
theorem dX8_where_1 : decode cX8_where 1 = .ok (.iload_n 1, 1) := by decide +kernel
theorem dX8_where_2 : decode cX8_where 2 = .ok (.invokevirtual 223, 3) := by decide +kernel
theorem dX8_where_5 : decode cX8_where 5 = .ok (.ifCond .eq 24, 3) := by decide +kernel
theorem dX8_where_8 : decode cX8_where 8 = .ok (.iload_n 2, 1) := by decide +kernel
theorem dX8_where_9 : decode cX8_where 9 = .ok (.i2l, 1) := by decide +kernel
theorem dX8_where_10 : decode cX8_where 10 = .ok (.lconst 1, 1) := by decide +kernel
theorem dX8_where_11 : decode cX8_where 11 = .ok (.ldc2_w 228, 3) := by decide +kernel
theorem dX8_where_14 : decode cX8_where 14 = .ok (.invokestatic 41, 3) := by decide +kernel
theorem dX8_where_17 : decode cX8_where 17 = .ok (.ifCond .eq 12, 3) := by decide +kernel
theorem dX8_where_20 : decode cX8_where 20 = .ok (.aload_n 0, 1) := by decide +kernel
theorem dX8_where_21 : decode cX8_where 21 = .ok (.iload_n 1, 1) := by decide +kernel
theorem dX8_where_22 : decode cX8_where 22 = .ok (.iload_n 2, 1) := by decide +kernel
theorem dX8_where_23 : decode cX8_where 23 = .ok (.invokevirtual 230, 3) := by decide +kernel
theorem dX8_where_26 : decode cX8_where 26 = .ok (.goto 4, 3) := by decide +kernel
theorem dX8_where_29 : decode cX8_where 29 = .ok (.iconst (-1), 1) := by decide +kernel
theorem dX8_where_30 : decode cX8_where 30 = .ok (.ireturn, 1) := by decide +kernel
theorem dX8_makes_0 : decode cX8_makes 0 = .ok (.aload_n 0, 1) := by decide +kernel
theorem dX8_makes_1 : decode cX8_makes 1 = .ok (.iload_n 1, 1) := by decide +kernel
theorem dX8_makes_2 : decode cX8_makes 2 = .ok (.iload_n 3, 1) := by decide +kernel
theorem dX8_makes_3 : decode cX8_makes 3 = .ok (.invokevirtual 230, 3) := by decide +kernel
theorem dX8_makes_6 : decode cX8_makes 6 = .ok (.istore 4, 2) := by decide +kernel
theorem dX8_makes_8 : decode cX8_makes 8 = .ok (.iload 4, 2) := by decide +kernel
theorem dX8_makes_10 : decode cX8_makes 10 = .ok (.bipush (-4), 2) := by decide +kernel
theorem dX8_makes_12 : decode cX8_makes 12 = .ok (.if_icmp .eq 23, 3) := by decide +kernel
theorem dX8_makes_15 : decode cX8_makes 15 = .ok (.iload_n 3, 1) := by decide +kernel
theorem dX8_makes_16 : decode cX8_makes 16 = .ok (.iconst 1, 1) := by decide +kernel
theorem dX8_makes_17 : decode cX8_makes 17 = .ok (.if_icmp .ne 21, 3) := by decide +kernel
theorem dX8_makes_20 : decode cX8_makes 20 = .ok (.aload_n 0, 1) := by decide +kernel
theorem dX8_makes_21 : decode cX8_makes 21 = .ok (.invokevirtual 206, 3) := by decide +kernel
theorem dX8_makes_24 : decode cX8_makes 24 = .ok (.iconst 1, 1) := by decide +kernel
theorem dX8_makes_25 : decode cX8_makes 25 = .ok (.isub, 1) := by decide +kernel
theorem dX8_makes_26 : decode cX8_makes 26 = .ok (.aload_n 0, 1) := by decide +kernel
theorem dX8_makes_27 : decode cX8_makes 27 = .ok (.getfield 7, 3) := by decide +kernel
theorem dX8_makes_30 : decode cX8_makes 30 = .ok (.iconst 4, 1) := by decide +kernel
theorem dX8_makes_31 : decode cX8_makes 31 = .ok (.iaload, 1) := by decide +kernel
theorem dX8_makes_32 : decode cX8_makes 32 = .ok (.if_icmp .ge 6, 3) := by decide +kernel
theorem dX8_makes_35 : decode cX8_makes 35 = .ok (.bipush (-3), 2) := by decide +kernel
theorem dX8_makes_37 : decode cX8_makes 37 = .ok (.ireturn, 1) := by decide +kernel
theorem dX8_makes_38 : decode cX8_makes 38 = .ok (.aload_n 0, 1) := by decide +kernel
theorem dX8_makes_39 : decode cX8_makes 39 = .ok (.getfield 7, 3) := by decide +kernel
theorem dX8_makes_42 : decode cX8_makes 42 = .ok (.iconst 2, 1) := by decide +kernel
theorem dX8_makes_43 : decode cX8_makes 43 = .ok (.iaload, 1) := by decide +kernel
theorem dX8_makes_44 : decode cX8_makes 44 = .ok (.iload 4, 2) := by decide +kernel
theorem dX8_makes_46 : decode cX8_makes 46 = .ok (.imul, 1) := by decide +kernel
theorem dX8_makes_47 : decode cX8_makes 47 = .ok (.istore 5, 2) := by decide +kernel
theorem dX8_makes_49 : decode cX8_makes 49 = .ok (.aload_n 0, 1) := by decide +kernel
theorem dX8_makes_50 : decode cX8_makes 50 = .ok (.iload 5, 2) := by decide +kernel
theorem dX8_makes_52 : decode cX8_makes 52 = .ok (.iconst 0, 1) := by decide +kernel
theorem dX8_makes_53 : decode cX8_makes 53 = .ok (.invokevirtual 173, 3) := by decide +kernel
theorem dX8_makes_56 : decode cX8_makes 56 = .ok (.ifCond .eq 9, 3) := by decide +kernel
theorem dX8_makes_59 : decode cX8_makes 59 = .ok (.iinc 5 1, 3) := by decide +kernel
theorem dX8_makes_62 : decode cX8_makes 62 = .ok (.goto (-13), 3) := by decide +kernel
theorem dX8_makes_65 : decode cX8_makes 65 = .ok (.iload_n 3, 1) := by decide +kernel
theorem dX8_makes_66 : decode cX8_makes 66 = .ok (.iconst 1, 1) := by decide +kernel
theorem dX8_makes_67 : decode cX8_makes 67 = .ok (.if_icmp .ne 13, 3) := by decide +kernel
theorem dX8_makes_70 : decode cX8_makes 70 = .ok (.aload_n 0, 1) := by decide +kernel
theorem dX8_makes_71 : decode cX8_makes 71 = .ok (.iload 4, 2) := by decide +kernel
theorem dX8_makes_73 : decode cX8_makes 73 = .ok (.iconst 1, 1) := by decide +kernel
theorem dX8_makes_74 : decode cX8_makes 74 = .ok (.invokevirtual 233, 3) := by decide +kernel
theorem dX8_makes_77 : decode cX8_makes 77 = .ok (.goto 4, 3) := by decide +kernel
theorem dX8_makes_80 : decode cX8_makes 80 = .ok (.iconst 0, 1) := by decide +kernel
theorem dX8_makes_81 : decode cX8_makes 81 = .ok (.istore 6, 2) := by decide +kernel
theorem dX8_makes_83 : decode cX8_makes 83 = .ok (.iload 6, 2) := by decide +kernel
theorem dX8_makes_85 : decode cX8_makes 85 = .ok (.bipush (-4), 2) := by decide +kernel
theorem dX8_makes_87 : decode cX8_makes 87 = .ok (.if_icmp .ne 6, 3) := by decide +kernel
theorem dX8_makes_90 : decode cX8_makes 90 = .ok (.bipush (-3), 2) := by decide +kernel
theorem dX8_makes_92 : decode cX8_makes 92 = .ok (.ireturn, 1) := by decide +kernel
theorem dX8_makes_93 : decode cX8_makes 93 = .ok (.aload_n 0, 1) := by decide +kernel
theorem dX8_makes_94 : decode cX8_makes 94 = .ok (.iload 5, 2) := by decide +kernel
theorem dX8_makes_96 : decode cX8_makes 96 = .ok (.iconst 0, 1) := by decide +kernel
theorem dX8_makes_97 : decode cX8_makes 97 = .ok (.iload_n 3, 1) := by decide +kernel
theorem dX8_makes_98 : decode cX8_makes 98 = .ok (.invokevirtual 236, 3) := by decide +kernel
theorem dX8_makes_101 : decode cX8_makes 101 = .ok (.aload_n 0, 1) := by decide +kernel
theorem dX8_makes_102 : decode cX8_makes 102 = .ok (.iload 5, 2) := by decide +kernel
theorem dX8_makes_104 : decode cX8_makes 104 = .ok (.iconst 1, 1) := by decide +kernel
theorem dX8_makes_105 : decode cX8_makes 105 = .ok (.iload_n 1, 1) := by decide +kernel
theorem dX8_makes_106 : decode cX8_makes 106 = .ok (.invokevirtual 236, 3) := by decide +kernel
theorem dX8_makes_109 : decode cX8_makes 109 = .ok (.aload_n 0, 1) := by decide +kernel
theorem dX8_makes_110 : decode cX8_makes 110 = .ok (.iload 5, 2) := by decide +kernel
theorem dX8_makes_112 : decode cX8_makes 112 = .ok (.iconst 2, 1) := by decide +kernel
theorem dX8_makes_113 : decode cX8_makes 113 = .ok (.iload_n 2, 1) := by decide +kernel
theorem dX8_makes_114 : decode cX8_makes 114 = .ok (.invokevirtual 236, 3) := by decide +kernel
theorem dX8_makes_117 : decode cX8_makes 117 = .ok (.aload_n 0, 1) := by decide +kernel
theorem dX8_makes_118 : decode cX8_makes 118 = .ok (.iload 5, 2) := by decide +kernel
theorem dX8_makes_120 : decode cX8_makes 120 = .ok (.iconst 3, 1) := by decide +kernel
theorem dX8_makes_121 : decode cX8_makes 121 = .ok (.iload_n 3, 1) := by decide +kernel
theorem dX8_makes_122 : decode cX8_makes 122 = .ok (.iconst 1, 1) := by decide +kernel
theorem dX8_makes_123 : decode cX8_makes 123 = .ok (.if_icmp .ne 7, 3) := by decide +kernel
theorem dX8_makes_126 : decode cX8_makes 126 = .ok (.iconst 1, 1) := by decide +kernel
theorem dX8_makes_127 : decode cX8_makes 127 = .ok (.goto 4, 3) := by decide +kernel
theorem dX8_makes_130 : decode cX8_makes 130 = .ok (.iconst 0, 1) := by decide +kernel
theorem dX8_makes_131 : decode cX8_makes 131 = .ok (.invokestatic 133, 3) := by decide +kernel
theorem dX8_makes_134 : decode cX8_makes 134 = .ok (.invokevirtual 236, 3) := by decide +kernel
theorem dX8_makes_137 : decode cX8_makes 137 = .ok (.aload_n 0, 1) := by decide +kernel
theorem dX8_makes_138 : decode cX8_makes 138 = .ok (.iload 5, 2) := by decide +kernel
theorem dX8_makes_140 : decode cX8_makes 140 = .ok (.iconst 4, 1) := by decide +kernel
theorem dX8_makes_141 : decode cX8_makes 141 = .ok (.iload 6, 2) := by decide +kernel
theorem dX8_makes_143 : decode cX8_makes 143 = .ok (.invokevirtual 236, 3) := by decide +kernel
theorem dX8_makes_146 : decode cX8_makes 146 = .ok (.iload_n 3, 1) := by decide +kernel
theorem dX8_makes_147 : decode cX8_makes 147 = .ok (.iconst 1, 1) := by decide +kernel
theorem dX8_makes_148 : decode cX8_makes 148 = .ok (.if_icmp .ne 10, 3) := by decide +kernel
theorem dX8_makes_151 : decode cX8_makes 151 = .ok (.aload_n 0, 1) := by decide +kernel
theorem dX8_makes_152 : decode cX8_makes 152 = .ok (.iload 6, 2) := by decide +kernel
theorem dX8_makes_154 : decode cX8_makes 154 = .ok (.iconst 0, 1) := by decide +kernel
theorem dX8_makes_155 : decode cX8_makes 155 = .ok (.invokevirtual 137, 3) := by decide +kernel
theorem dX8_makes_158 : decode cX8_makes 158 = .ok (.iload 5, 2) := by decide +kernel
theorem dX8_makes_160 : decode cX8_makes 160 = .ok (.ireturn, 1) := by decide +kernel
theorem dX8_make_0 : decode cX8_make 0 = .ok (.aload_n 0, 1) := by decide +kernel
theorem dX8_make_1 : decode cX8_make 1 = .ok (.iload_n 1, 1) := by decide +kernel
theorem dX8_make_2 : decode cX8_make 2 = .ok (.invokevirtual 223, 3) := by decide +kernel
theorem dX8_make_5 : decode cX8_make 5 = .ok (.ifCond .eq 27, 3) := by decide +kernel
theorem dX8_make_8 : decode cX8_make 8 = .ok (.iload_n 2, 1) := by decide +kernel
theorem dX8_make_9 : decode cX8_make 9 = .ok (.i2l, 1) := by decide +kernel
theorem dX8_make_10 : decode cX8_make 10 = .ok (.lconst 0, 1) := by decide +kernel
theorem dX8_make_11 : decode cX8_make 11 = .ok (.ldc2_w 226, 3) := by decide +kernel
theorem dX8_make_14 : decode cX8_make 14 = .ok (.invokestatic 41, 3) := by decide +kernel
theorem dX8_make_17 : decode cX8_make 17 = .ok (.ifCond .eq 15, 3) := by decide +kernel
theorem dX8_make_20 : decode cX8_make 20 = .ok (.iload_n 3, 1) := by decide +kernel
theorem dX8_make_21 : decode cX8_make 21 = .ok (.i2l, 1) := by decide +kernel
theorem dX8_make_22 : decode cX8_make 22 = .ok (.lconst 1, 1) := by decide +kernel
theorem dX8_make_23 : decode cX8_make 23 = .ok (.ldc2_w 228, 3) := by decide +kernel
theorem dX8_make_26 : decode cX8_make 26 = .ok (.invokestatic 41, 3) := by decide +kernel
theorem dX8_make_29 : decode cX8_make 29 = .ok (.ifCond .ne 5, 3) := by decide +kernel
theorem dX8_make_32 : decode cX8_make 32 = .ok (.iconst (-1), 1) := by decide +kernel
theorem dX8_make_33 : decode cX8_make 33 = .ok (.ireturn, 1) := by decide +kernel
theorem dX8_make_34 : decode cX8_make 34 = .ok (.aload_n 0, 1) := by decide +kernel
theorem dX8_make_35 : decode cX8_make 35 = .ok (.invokevirtual 240, 3) := by decide +kernel
theorem dX8_make_38 : decode cX8_make 38 = .ok (.ifCond .ne 14, 3) := by decide +kernel
theorem dX8_make_41 : decode cX8_make 41 = .ok (.aload_n 0, 1) := by decide +kernel
theorem dX8_make_42 : decode cX8_make 42 = .ok (.iload_n 1, 1) := by decide +kernel
theorem dX8_make_43 : decode cX8_make 43 = .ok (.iload_n 2, 1) := by decide +kernel
theorem dX8_make_44 : decode cX8_make 44 = .ok (.invokevirtual 103, 3) := by decide +kernel
theorem dX8_make_47 : decode cX8_make 47 = .ok (.bipush (-4), 2) := by decide +kernel
theorem dX8_make_49 : decode cX8_make 49 = .ok (.if_icmp .eq 6, 3) := by decide +kernel
theorem dX8_make_52 : decode cX8_make 52 = .ok (.bipush (-2), 2) := by decide +kernel
theorem dX8_make_54 : decode cX8_make 54 = .ok (.ireturn, 1) := by decide +kernel
theorem dX8_make_55 : decode cX8_make 55 = .ok (.aload_n 0, 1) := by decide +kernel
theorem dX8_make_56 : decode cX8_make 56 = .ok (.iload_n 1, 1) := by decide +kernel
theorem dX8_make_57 : decode cX8_make 57 = .ok (.iload_n 2, 1) := by decide +kernel
theorem dX8_make_58 : decode cX8_make 58 = .ok (.iload_n 3, 1) := by decide +kernel
theorem dX8_make_59 : decode cX8_make 59 = .ok (.invokevirtual 110, 3) := by decide +kernel
theorem dX8_make_62 : decode cX8_make 62 = .ok (.ireturn, 1) := by decide +kernel
theorem dX8_groupOfBlock_0 : decode cX8_groupOfBlock 0 = .ok (.iload_n 2, 1) := by decide +kernel
theorem dX8_groupOfBlock_1 : decode cX8_groupOfBlock 1 = .ok (.ifCond .ne 12, 3) := by decide +kernel
theorem dX8_groupOfBlock_4 : decode cX8_groupOfBlock 4 = .ok (.iload_n 1, 1) := by decide +kernel
theorem dX8_groupOfBlock_5 : decode cX8_groupOfBlock 5 = .ok (.aload_n 0, 1) := by decide +kernel
theorem dX8_groupOfBlock_6 : decode cX8_groupOfBlock 6 = .ok (.getfield 7, 3) := by decide +kernel
theorem dX8_groupOfBlock_9 : decode cX8_groupOfBlock 9 = .ok (.iconst 2, 1) := by decide +kernel
theorem dX8_groupOfBlock_10 : decode cX8_groupOfBlock 10 = .ok (.iaload, 1) := by decide +kernel
theorem dX8_groupOfBlock_11 : decode cX8_groupOfBlock 11 = .ok (.idiv, 1) := by decide +kernel
theorem dX8_groupOfBlock_12 : decode cX8_groupOfBlock 12 = .ok (.ireturn, 1) := by decide +kernel
theorem dX8_groupOfBlock_13 : decode cX8_groupOfBlock 13 = .ok (.aload_n 0, 1) := by decide +kernel
theorem dX8_groupOfBlock_14 : decode cX8_groupOfBlock 14 = .ok (.iload_n 1, 1) := by decide +kernel
theorem dX8_groupOfBlock_15 : decode cX8_groupOfBlock 15 = .ok (.iconst 5, 1) := by decide +kernel
theorem dX8_groupOfBlock_16 : decode cX8_groupOfBlock 16 = .ok (.iload_n 2, 1) := by decide +kernel
theorem dX8_groupOfBlock_17 : decode cX8_groupOfBlock 17 = .ok (.iadd, 1) := by decide +kernel
theorem dX8_groupOfBlock_18 : decode cX8_groupOfBlock 18 = .ok (.iconst 1, 1) := by decide +kernel
theorem dX8_groupOfBlock_19 : decode cX8_groupOfBlock 19 = .ok (.isub, 1) := by decide +kernel
theorem dX8_groupOfBlock_20 : decode cX8_groupOfBlock 20 = .ok (.invokevirtual 173, 3) := by decide +kernel
theorem dX8_groupOfBlock_23 : decode cX8_groupOfBlock 23 = .ok (.aload_n 0, 1) := by decide +kernel
theorem dX8_groupOfBlock_24 : decode cX8_groupOfBlock 24 = .ok (.getfield 7, 3) := by decide +kernel
theorem dX8_groupOfBlock_27 : decode cX8_groupOfBlock 27 = .ok (.iconst 1, 1) := by decide +kernel
theorem dX8_groupOfBlock_28 : decode cX8_groupOfBlock 28 = .ok (.iaload, 1) := by decide +kernel
theorem dX8_groupOfBlock_29 : decode cX8_groupOfBlock 29 = .ok (.idiv, 1) := by decide +kernel
theorem dX8_groupOfBlock_30 : decode cX8_groupOfBlock 30 = .ok (.istore_n 3, 1) := by decide +kernel
theorem dX8_groupOfBlock_31 : decode cX8_groupOfBlock 31 = .ok (.iload_n 2, 1) := by decide +kernel
theorem dX8_groupOfBlock_32 : decode cX8_groupOfBlock 32 = .ok (.aload_n 0, 1) := by decide +kernel
theorem dX8_groupOfBlock_33 : decode cX8_groupOfBlock 33 = .ok (.getfield 7, 3) := by decide +kernel
theorem dX8_groupOfBlock_36 : decode cX8_groupOfBlock 36 = .ok (.iconst 5, 1) := by decide +kernel
theorem dX8_groupOfBlock_37 : decode cX8_groupOfBlock 37 = .ok (.iaload, 1) := by decide +kernel
theorem dX8_groupOfBlock_38 : decode cX8_groupOfBlock 38 = .ok (.irem, 1) := by decide +kernel
theorem dX8_groupOfBlock_39 : decode cX8_groupOfBlock 39 = .ok (.ifCond .eq 5, 3) := by decide +kernel
theorem dX8_groupOfBlock_42 : decode cX8_groupOfBlock 42 = .ok (.iload_n 3, 1) := by decide +kernel
theorem dX8_groupOfBlock_43 : decode cX8_groupOfBlock 43 = .ok (.ireturn, 1) := by decide +kernel
theorem dX8_groupOfBlock_44 : decode cX8_groupOfBlock 44 = .ok (.iconst 1, 1) := by decide +kernel
theorem dX8_groupOfBlock_45 : decode cX8_groupOfBlock 45 = .ok (.istore 4, 2) := by decide +kernel
theorem dX8_groupOfBlock_47 : decode cX8_groupOfBlock 47 = .ok (.iload 4, 2) := by decide +kernel
theorem dX8_groupOfBlock_49 : decode cX8_groupOfBlock 49 = .ok (.aload_n 0, 1) := by decide +kernel
theorem dX8_groupOfBlock_50 : decode cX8_groupOfBlock 50 = .ok (.getfield 7, 3) := by decide +kernel
theorem dX8_groupOfBlock_53 : decode cX8_groupOfBlock 53 = .ok (.iconst 0, 1) := by decide +kernel
theorem dX8_groupOfBlock_54 : decode cX8_groupOfBlock 54 = .ok (.iaload, 1) := by decide +kernel
theorem dX8_groupOfBlock_55 : decode cX8_groupOfBlock 55 = .ok (.if_icmp .gt 42, 3) := by decide +kernel
theorem dX8_groupOfBlock_58 : decode cX8_groupOfBlock 58 = .ok (.aload_n 0, 1) := by decide +kernel
theorem dX8_groupOfBlock_59 : decode cX8_groupOfBlock 59 = .ok (.aload_n 0, 1) := by decide +kernel
theorem dX8_groupOfBlock_60 : decode cX8_groupOfBlock 60 = .ok (.iload_n 3, 1) := by decide +kernel
theorem dX8_groupOfBlock_61 : decode cX8_groupOfBlock 61 = .ok (.iload 4, 2) := by decide +kernel
theorem dX8_groupOfBlock_63 : decode cX8_groupOfBlock 63 = .ok (.invokevirtual 161, 3) := by decide +kernel
theorem dX8_groupOfBlock_66 : decode cX8_groupOfBlock 66 = .ok (.invokevirtual 152, 3) := by decide +kernel
theorem dX8_groupOfBlock_69 : decode cX8_groupOfBlock 69 = .ok (.aload_n 0, 1) := by decide +kernel
theorem dX8_groupOfBlock_70 : decode cX8_groupOfBlock 70 = .ok (.getfield 7, 3) := by decide +kernel
theorem dX8_groupOfBlock_73 : decode cX8_groupOfBlock 73 = .ok (.iconst 0, 1) := by decide +kernel
theorem dX8_groupOfBlock_74 : decode cX8_groupOfBlock 74 = .ok (.iaload, 1) := by decide +kernel
theorem dX8_groupOfBlock_75 : decode cX8_groupOfBlock 75 = .ok (.imul, 1) := by decide +kernel
theorem dX8_groupOfBlock_76 : decode cX8_groupOfBlock 76 = .ok (.aload_n 0, 1) := by decide +kernel
theorem dX8_groupOfBlock_77 : decode cX8_groupOfBlock 77 = .ok (.invokevirtual 209, 3) := by decide +kernel
theorem dX8_groupOfBlock_80 : decode cX8_groupOfBlock 80 = .ok (.if_icmp .lt 11, 3) := by decide +kernel
theorem dX8_groupOfBlock_83 : decode cX8_groupOfBlock 83 = .ok (.aload_n 0, 1) := by decide +kernel
theorem dX8_groupOfBlock_84 : decode cX8_groupOfBlock 84 = .ok (.iload_n 3, 1) := by decide +kernel
theorem dX8_groupOfBlock_85 : decode cX8_groupOfBlock 85 = .ok (.iload 4, 2) := by decide +kernel
theorem dX8_groupOfBlock_87 : decode cX8_groupOfBlock 87 = .ok (.invokevirtual 161, 3) := by decide +kernel
theorem dX8_groupOfBlock_90 : decode cX8_groupOfBlock 90 = .ok (.ireturn, 1) := by decide +kernel
theorem dX8_groupOfBlock_91 : decode cX8_groupOfBlock 91 = .ok (.iinc 4 1, 3) := by decide +kernel
theorem dX8_groupOfBlock_94 : decode cX8_groupOfBlock 94 = .ok (.goto (-47), 3) := by decide +kernel
theorem dX8_groupOfBlock_97 : decode cX8_groupOfBlock 97 = .ok (.iload_n 3, 1) := by decide +kernel
theorem dX8_groupOfBlock_98 : decode cX8_groupOfBlock 98 = .ok (.ireturn, 1) := by decide +kernel
theorem dX8_placeOfBlock_0 : decode cX8_placeOfBlock 0 = .ok (.iload_n 2, 1) := by decide +kernel
theorem dX8_placeOfBlock_1 : decode cX8_placeOfBlock 1 = .ok (.ifCond .eq 14, 3) := by decide +kernel
theorem dX8_placeOfBlock_4 : decode cX8_placeOfBlock 4 = .ok (.iload_n 2, 1) := by decide +kernel
theorem dX8_placeOfBlock_5 : decode cX8_placeOfBlock 5 = .ok (.aload_n 0, 1) := by decide +kernel
theorem dX8_placeOfBlock_6 : decode cX8_placeOfBlock 6 = .ok (.getfield 7, 3) := by decide +kernel
theorem dX8_placeOfBlock_9 : decode cX8_placeOfBlock 9 = .ok (.iconst 5, 1) := by decide +kernel
theorem dX8_placeOfBlock_10 : decode cX8_placeOfBlock 10 = .ok (.iaload, 1) := by decide +kernel
theorem dX8_placeOfBlock_11 : decode cX8_placeOfBlock 11 = .ok (.irem, 1) := by decide +kernel
theorem dX8_placeOfBlock_12 : decode cX8_placeOfBlock 12 = .ok (.ifCond .ne 7, 3) := by decide +kernel
theorem dX8_placeOfBlock_15 : decode cX8_placeOfBlock 15 = .ok (.iconst 0, 1) := by decide +kernel
theorem dX8_placeOfBlock_16 : decode cX8_placeOfBlock 16 = .ok (.goto 36, 3) := by decide +kernel
theorem dX8_placeOfBlock_19 : decode cX8_placeOfBlock 19 = .ok (.aload_n 0, 1) := by decide +kernel
theorem dX8_placeOfBlock_20 : decode cX8_placeOfBlock 20 = .ok (.iload_n 1, 1) := by decide +kernel
theorem dX8_placeOfBlock_21 : decode cX8_placeOfBlock 21 = .ok (.iconst 5, 1) := by decide +kernel
theorem dX8_placeOfBlock_22 : decode cX8_placeOfBlock 22 = .ok (.iload_n 2, 1) := by decide +kernel
theorem dX8_placeOfBlock_23 : decode cX8_placeOfBlock 23 = .ok (.iadd, 1) := by decide +kernel
theorem dX8_placeOfBlock_24 : decode cX8_placeOfBlock 24 = .ok (.iconst 1, 1) := by decide +kernel
theorem dX8_placeOfBlock_25 : decode cX8_placeOfBlock 25 = .ok (.isub, 1) := by decide +kernel
theorem dX8_placeOfBlock_26 : decode cX8_placeOfBlock 26 = .ok (.invokevirtual 173, 3) := by decide +kernel
theorem dX8_placeOfBlock_29 : decode cX8_placeOfBlock 29 = .ok (.aload_n 0, 1) := by decide +kernel
theorem dX8_placeOfBlock_30 : decode cX8_placeOfBlock 30 = .ok (.getfield 7, 3) := by decide +kernel
theorem dX8_placeOfBlock_33 : decode cX8_placeOfBlock 33 = .ok (.iconst 1, 1) := by decide +kernel
theorem dX8_placeOfBlock_34 : decode cX8_placeOfBlock 34 = .ok (.iaload, 1) := by decide +kernel
theorem dX8_placeOfBlock_35 : decode cX8_placeOfBlock 35 = .ok (.irem, 1) := by decide +kernel
theorem dX8_placeOfBlock_36 : decode cX8_placeOfBlock 36 = .ok (.iconst 1, 1) := by decide +kernel
theorem dX8_placeOfBlock_37 : decode cX8_placeOfBlock 37 = .ok (.iadd, 1) := by decide +kernel
theorem dX8_placeOfBlock_38 : decode cX8_placeOfBlock 38 = .ok (.aload_n 0, 1) := by decide +kernel
theorem dX8_placeOfBlock_39 : decode cX8_placeOfBlock 39 = .ok (.getfield 7, 3) := by decide +kernel
theorem dX8_placeOfBlock_42 : decode cX8_placeOfBlock 42 = .ok (.iconst 3, 1) := by decide +kernel
theorem dX8_placeOfBlock_43 : decode cX8_placeOfBlock 43 = .ok (.iaload, 1) := by decide +kernel
theorem dX8_placeOfBlock_44 : decode cX8_placeOfBlock 44 = .ok (.iadd, 1) := by decide +kernel
theorem dX8_placeOfBlock_45 : decode cX8_placeOfBlock 45 = .ok (.aload_n 0, 1) := by decide +kernel
theorem dX8_placeOfBlock_46 : decode cX8_placeOfBlock 46 = .ok (.getfield 7, 3) := by decide +kernel
theorem dX8_placeOfBlock_49 : decode cX8_placeOfBlock 49 = .ok (.iconst 1, 1) := by decide +kernel
theorem dX8_placeOfBlock_50 : decode cX8_placeOfBlock 50 = .ok (.iaload, 1) := by decide +kernel
theorem dX8_placeOfBlock_51 : decode cX8_placeOfBlock 51 = .ok (.irem, 1) := by decide +kernel
theorem dX8_placeOfBlock_52 : decode cX8_placeOfBlock 52 = .ok (.ireturn, 1) := by decide +kernel
theorem dX8_takesBlock_0 : decode cX8_takesBlock 0 = .ok (.aload_n 0, 1) := by decide +kernel
theorem dX8_takesBlock_1 : decode cX8_takesBlock 1 = .ok (.aload_n 0, 1) := by decide +kernel
theorem dX8_takesBlock_2 : decode cX8_takesBlock 2 = .ok (.iload_n 1, 1) := by decide +kernel
theorem dX8_takesBlock_3 : decode cX8_takesBlock 3 = .ok (.iload_n 2, 1) := by decide +kernel
theorem dX8_takesBlock_4 : decode cX8_takesBlock 4 = .ok (.invokevirtual 244, 3) := by decide +kernel
theorem dX8_takesBlock_7 : decode cX8_takesBlock 7 = .ok (.aload_n 0, 1) := by decide +kernel
theorem dX8_takesBlock_8 : decode cX8_takesBlock 8 = .ok (.iload_n 1, 1) := by decide +kernel
theorem dX8_takesBlock_9 : decode cX8_takesBlock 9 = .ok (.iload_n 2, 1) := by decide +kernel
theorem dX8_takesBlock_10 : decode cX8_takesBlock 10 = .ok (.invokevirtual 247, 3) := by decide +kernel
theorem dX8_takesBlock_13 : decode cX8_takesBlock 13 = .ok (.invokevirtual 250, 3) := by decide +kernel
theorem dX8_takesBlock_16 : decode cX8_takesBlock 16 = .ok (.istore_n 3, 1) := by decide +kernel
theorem dX8_takesBlock_17 : decode cX8_takesBlock 17 = .ok (.iload_n 3, 1) := by decide +kernel
theorem dX8_takesBlock_18 : decode cX8_takesBlock 18 = .ok (.bipush (-4), 2) := by decide +kernel
theorem dX8_takesBlock_20 : decode cX8_takesBlock 20 = .ok (.if_icmp .ne 5, 3) := by decide +kernel
theorem dX8_takesBlock_23 : decode cX8_takesBlock 23 = .ok (.iconst 0, 1) := by decide +kernel
theorem dX8_takesBlock_24 : decode cX8_takesBlock 24 = .ok (.ireturn, 1) := by decide +kernel
theorem dX8_takesBlock_25 : decode cX8_takesBlock 25 = .ok (.aload_n 0, 1) := by decide +kernel
theorem dX8_takesBlock_26 : decode cX8_takesBlock 26 = .ok (.iload_n 1, 1) := by decide +kernel
theorem dX8_takesBlock_27 : decode cX8_takesBlock 27 = .ok (.iconst 5, 1) := by decide +kernel
theorem dX8_takesBlock_28 : decode cX8_takesBlock 28 = .ok (.iload_n 2, 1) := by decide +kernel
theorem dX8_takesBlock_29 : decode cX8_takesBlock 29 = .ok (.iadd, 1) := by decide +kernel
theorem dX8_takesBlock_30 : decode cX8_takesBlock 30 = .ok (.iload_n 3, 1) := by decide +kernel
theorem dX8_takesBlock_31 : decode cX8_takesBlock 31 = .ok (.invokevirtual 236, 3) := by decide +kernel
theorem dX8_takesBlock_34 : decode cX8_takesBlock 34 = .ok (.aload_n 0, 1) := by decide +kernel
theorem dX8_takesBlock_35 : decode cX8_takesBlock 35 = .ok (.iconst 4, 1) := by decide +kernel
theorem dX8_takesBlock_36 : decode cX8_takesBlock 36 = .ok (.iload_n 3, 1) := by decide +kernel
theorem dX8_takesBlock_37 : decode cX8_takesBlock 37 = .ok (.imul, 1) := by decide +kernel
theorem dX8_takesBlock_38 : decode cX8_takesBlock 38 = .ok (.iconst 4, 1) := by decide +kernel
theorem dX8_takesBlock_39 : decode cX8_takesBlock 39 = .ok (.iconst 0, 1) := by decide +kernel
theorem dX8_takesBlock_40 : decode cX8_takesBlock 40 = .ok (.invokevirtual 253, 3) := by decide +kernel
theorem dX8_takesBlock_43 : decode cX8_takesBlock 43 = .ok (.iconst 1, 1) := by decide +kernel
theorem dX8_takesBlock_44 : decode cX8_takesBlock 44 = .ok (.ireturn, 1) := by decide +kernel
theorem dX8_takesTail_0 : decode cX8_takesTail 0 = .ok (.aload_n 0, 1) := by decide +kernel
theorem dX8_takesTail_1 : decode cX8_takesTail 1 = .ok (.iload_n 2, 1) := by decide +kernel
theorem dX8_takesTail_2 : decode cX8_takesTail 2 = .ok (.ifCond .ne 14, 3) := by decide +kernel
theorem dX8_takesTail_5 : decode cX8_takesTail 5 = .ok (.iload_n 1, 1) := by decide +kernel
theorem dX8_takesTail_6 : decode cX8_takesTail 6 = .ok (.aload_n 0, 1) := by decide +kernel
theorem dX8_takesTail_7 : decode cX8_takesTail 7 = .ok (.getfield 7, 3) := by decide +kernel
theorem dX8_takesTail_10 : decode cX8_takesTail 10 = .ok (.iconst 2, 1) := by decide +kernel
theorem dX8_takesTail_11 : decode cX8_takesTail 11 = .ok (.iaload, 1) := by decide +kernel
theorem dX8_takesTail_12 : decode cX8_takesTail 12 = .ok (.idiv, 1) := by decide +kernel
theorem dX8_takesTail_13 : decode cX8_takesTail 13 = .ok (.goto 20, 3) := by decide +kernel
theorem dX8_takesTail_16 : decode cX8_takesTail 16 = .ok (.aload_n 0, 1) := by decide +kernel
theorem dX8_takesTail_17 : decode cX8_takesTail 17 = .ok (.iload_n 1, 1) := by decide +kernel
theorem dX8_takesTail_18 : decode cX8_takesTail 18 = .ok (.iconst 5, 1) := by decide +kernel
theorem dX8_takesTail_19 : decode cX8_takesTail 19 = .ok (.iload_n 2, 1) := by decide +kernel
theorem dX8_takesTail_20 : decode cX8_takesTail 20 = .ok (.iadd, 1) := by decide +kernel
theorem dX8_takesTail_21 : decode cX8_takesTail 21 = .ok (.iconst 1, 1) := by decide +kernel
theorem dX8_takesTail_22 : decode cX8_takesTail 22 = .ok (.isub, 1) := by decide +kernel
theorem dX8_takesTail_23 : decode cX8_takesTail 23 = .ok (.invokevirtual 173, 3) := by decide +kernel
theorem dX8_takesTail_26 : decode cX8_takesTail 26 = .ok (.aload_n 0, 1) := by decide +kernel
theorem dX8_takesTail_27 : decode cX8_takesTail 27 = .ok (.getfield 7, 3) := by decide +kernel
theorem dX8_takesTail_30 : decode cX8_takesTail 30 = .ok (.iconst 1, 1) := by decide +kernel
theorem dX8_takesTail_31 : decode cX8_takesTail 31 = .ok (.iaload, 1) := by decide +kernel
theorem dX8_takesTail_32 : decode cX8_takesTail 32 = .ok (.idiv, 1) := by decide +kernel
theorem dX8_takesTail_33 : decode cX8_takesTail 33 = .ok (.iload_n 3, 1) := by decide +kernel
theorem dX8_takesTail_34 : decode cX8_takesTail 34 = .ok (.invokevirtual 233, 3) := by decide +kernel
theorem dX8_takesTail_37 : decode cX8_takesTail 37 = .ok (.istore 4, 2) := by decide +kernel
theorem dX8_takesTail_39 : decode cX8_takesTail 39 = .ok (.iload 4, 2) := by decide +kernel
theorem dX8_takesTail_41 : decode cX8_takesTail 41 = .ok (.bipush (-4), 2) := by decide +kernel
theorem dX8_takesTail_43 : decode cX8_takesTail 43 = .ok (.if_icmp .ne 5, 3) := by decide +kernel
theorem dX8_takesTail_46 : decode cX8_takesTail 46 = .ok (.iconst 0, 1) := by decide +kernel
theorem dX8_takesTail_47 : decode cX8_takesTail 47 = .ok (.ireturn, 1) := by decide +kernel
theorem dX8_takesTail_48 : decode cX8_takesTail 48 = .ok (.aload_n 0, 1) := by decide +kernel
theorem dX8_takesTail_49 : decode cX8_takesTail 49 = .ok (.iload_n 1, 1) := by decide +kernel
theorem dX8_takesTail_50 : decode cX8_takesTail 50 = .ok (.iconst 4, 1) := by decide +kernel
theorem dX8_takesTail_51 : decode cX8_takesTail 51 = .ok (.iload 4, 2) := by decide +kernel
theorem dX8_takesTail_53 : decode cX8_takesTail 53 = .ok (.invokevirtual 236, 3) := by decide +kernel
theorem dX8_takesTail_56 : decode cX8_takesTail 56 = .ok (.aload_n 0, 1) := by decide +kernel
theorem dX8_takesTail_57 : decode cX8_takesTail 57 = .ok (.iload 4, 2) := by decide +kernel
theorem dX8_takesTail_59 : decode cX8_takesTail 59 = .ok (.iload_n 3, 1) := by decide +kernel
theorem dX8_takesTail_60 : decode cX8_takesTail 60 = .ok (.iconst 0, 1) := by decide +kernel
theorem dX8_takesTail_61 : decode cX8_takesTail 61 = .ok (.invokevirtual 253, 3) := by decide +kernel
theorem dX8_takesTail_64 : decode cX8_takesTail 64 = .ok (.iconst 1, 1) := by decide +kernel
theorem dX8_takesTail_65 : decode cX8_takesTail 65 = .ok (.ireturn, 1) := by decide +kernel
theorem dX8_widens_0 : decode cX8_widens 0 = .ok (.aload_n 0, 1) := by decide +kernel
theorem dX8_widens_1 : decode cX8_widens 1 = .ok (.iload_n 1, 1) := by decide +kernel
theorem dX8_widens_2 : decode cX8_widens 2 = .ok (.iconst 4, 1) := by decide +kernel
theorem dX8_widens_3 : decode cX8_widens 3 = .ok (.invokevirtual 173, 3) := by decide +kernel
theorem dX8_widens_6 : decode cX8_widens 6 = .ok (.istore 4, 2) := by decide +kernel
theorem dX8_widens_8 : decode cX8_widens 8 = .ok (.iload_n 2, 1) := by decide +kernel
theorem dX8_widens_9 : decode cX8_widens 9 = .ok (.ifCond .le 52, 3) := by decide +kernel
theorem dX8_widens_12 : decode cX8_widens 12 = .ok (.iload 4, 2) := by decide +kernel
theorem dX8_widens_14 : decode cX8_widens 14 = .ok (.iconst 4, 1) := by decide +kernel
theorem dX8_widens_15 : decode cX8_widens 15 = .ok (.irem, 1) := by decide +kernel
theorem dX8_widens_16 : decode cX8_widens 16 = .ok (.iload_n 3, 1) := by decide +kernel
theorem dX8_widens_17 : decode cX8_widens 17 = .ok (.iadd, 1) := by decide +kernel
theorem dX8_widens_18 : decode cX8_widens 18 = .ok (.iconst 4, 1) := by decide +kernel
theorem dX8_widens_19 : decode cX8_widens 19 = .ok (.if_icmp .gt 42, 3) := by decide +kernel
theorem dX8_widens_22 : decode cX8_widens 22 = .ok (.aload_n 0, 1) := by decide +kernel
theorem dX8_widens_23 : decode cX8_widens 23 = .ok (.iload 4, 2) := by decide +kernel
theorem dX8_widens_25 : decode cX8_widens 25 = .ok (.iload_n 2, 1) := by decide +kernel
theorem dX8_widens_26 : decode cX8_widens 26 = .ok (.iadd, 1) := by decide +kernel
theorem dX8_widens_27 : decode cX8_widens 27 = .ok (.iload_n 3, 1) := by decide +kernel
theorem dX8_widens_28 : decode cX8_widens 28 = .ok (.iload_n 2, 1) := by decide +kernel
theorem dX8_widens_29 : decode cX8_widens 29 = .ok (.isub, 1) := by decide +kernel
theorem dX8_widens_30 : decode cX8_widens 30 = .ok (.invokevirtual 145, 3) := by decide +kernel
theorem dX8_widens_33 : decode cX8_widens 33 = .ok (.ifCond .eq 28, 3) := by decide +kernel
theorem dX8_widens_36 : decode cX8_widens 36 = .ok (.aload_n 0, 1) := by decide +kernel
theorem dX8_widens_37 : decode cX8_widens 37 = .ok (.iload 4, 2) := by decide +kernel
theorem dX8_widens_39 : decode cX8_widens 39 = .ok (.iload_n 2, 1) := by decide +kernel
theorem dX8_widens_40 : decode cX8_widens 40 = .ok (.iadd, 1) := by decide +kernel
theorem dX8_widens_41 : decode cX8_widens 41 = .ok (.iload_n 3, 1) := by decide +kernel
theorem dX8_widens_42 : decode cX8_widens 42 = .ok (.iload_n 2, 1) := by decide +kernel
theorem dX8_widens_43 : decode cX8_widens 43 = .ok (.isub, 1) := by decide +kernel
theorem dX8_widens_44 : decode cX8_widens 44 = .ok (.iconst 0, 1) := by decide +kernel
theorem dX8_widens_45 : decode cX8_widens 45 = .ok (.invokevirtual 253, 3) := by decide +kernel
theorem dX8_widens_48 : decode cX8_widens 48 = .ok (.aload_n 0, 1) := by decide +kernel
theorem dX8_widens_49 : decode cX8_widens 49 = .ok (.getfield 7, 3) := by decide +kernel
theorem dX8_widens_52 : decode cX8_widens 52 = .ok (.bipush 6, 2) := by decide +kernel
theorem dX8_widens_54 : decode cX8_widens 54 = .ok (.dup2, 1) := by decide +kernel
theorem dX8_widens_55 : decode cX8_widens 55 = .ok (.iaload, 1) := by decide +kernel
theorem dX8_widens_56 : decode cX8_widens 56 = .ok (.iconst 1, 1) := by decide +kernel
theorem dX8_widens_57 : decode cX8_widens 57 = .ok (.iadd, 1) := by decide +kernel
theorem dX8_widens_58 : decode cX8_widens 58 = .ok (.iastore, 1) := by decide +kernel
theorem dX8_widens_59 : decode cX8_widens 59 = .ok (.iconst 1, 1) := by decide +kernel
theorem dX8_widens_60 : decode cX8_widens 60 = .ok (.ireturn, 1) := by decide +kernel
theorem dX8_widens_61 : decode cX8_widens 61 = .ok (.aload_n 0, 1) := by decide +kernel
theorem dX8_widens_62 : decode cX8_widens 62 = .ok (.iload_n 1, 1) := by decide +kernel
theorem dX8_widens_63 : decode cX8_widens 63 = .ok (.aload_n 0, 1) := by decide +kernel
theorem dX8_widens_64 : decode cX8_widens 64 = .ok (.iload_n 1, 1) := by decide +kernel
theorem dX8_widens_65 : decode cX8_widens 65 = .ok (.invokevirtual 194, 3) := by decide +kernel
theorem dX8_widens_68 : decode cX8_widens 68 = .ok (.iload_n 3, 1) := by decide +kernel
theorem dX8_widens_69 : decode cX8_widens 69 = .ok (.invokevirtual 257, 3) := by decide +kernel
theorem dX8_widens_72 : decode cX8_widens 72 = .ok (.ifCond .ne 5, 3) := by decide +kernel
theorem dX8_widens_75 : decode cX8_widens 75 = .ok (.iconst 0, 1) := by decide +kernel
theorem dX8_widens_76 : decode cX8_widens 76 = .ok (.ireturn, 1) := by decide +kernel
theorem dX8_widens_77 : decode cX8_widens 77 = .ok (.iload_n 2, 1) := by decide +kernel
theorem dX8_widens_78 : decode cX8_widens 78 = .ok (.ifCond .le 22, 3) := by decide +kernel
theorem dX8_widens_81 : decode cX8_widens 81 = .ok (.aload_n 0, 1) := by decide +kernel
theorem dX8_widens_82 : decode cX8_widens 82 = .ok (.iload 4, 2) := by decide +kernel
theorem dX8_widens_84 : decode cX8_widens 84 = .ok (.iload_n 2, 1) := by decide +kernel
theorem dX8_widens_85 : decode cX8_widens 85 = .ok (.iconst 1, 1) := by decide +kernel
theorem dX8_widens_86 : decode cX8_widens 86 = .ok (.invokevirtual 253, 3) := by decide +kernel
theorem dX8_widens_89 : decode cX8_widens 89 = .ok (.aload_n 0, 1) := by decide +kernel
theorem dX8_widens_90 : decode cX8_widens 90 = .ok (.getfield 7, 3) := by decide +kernel
theorem dX8_widens_93 : decode cX8_widens 93 = .ok (.bipush 7, 2) := by decide +kernel
theorem dX8_widens_95 : decode cX8_widens 95 = .ok (.dup2, 1) := by decide +kernel
theorem dX8_widens_96 : decode cX8_widens 96 = .ok (.iaload, 1) := by decide +kernel
theorem dX8_widens_97 : decode cX8_widens 97 = .ok (.iconst 1, 1) := by decide +kernel
theorem dX8_widens_98 : decode cX8_widens 98 = .ok (.iadd, 1) := by decide +kernel
theorem dX8_widens_99 : decode cX8_widens 99 = .ok (.iastore, 1) := by decide +kernel
theorem dX8_widens_100 : decode cX8_widens 100 = .ok (.iconst 1, 1) := by decide +kernel
theorem dX8_widens_101 : decode cX8_widens 101 = .ok (.ireturn, 1) := by decide +kernel
theorem dX8_fills_0 : decode cX8_fills 0 = .ok (.aload_n 0, 1) := by decide +kernel
theorem dX8_fills_1 : decode cX8_fills 1 = .ok (.iload_n 1, 1) := by decide +kernel
theorem dX8_fills_2 : decode cX8_fills 2 = .ok (.iconst 4, 1) := by decide +kernel
theorem dX8_fills_3 : decode cX8_fills 3 = .ok (.invokevirtual 173, 3) := by decide +kernel
theorem dX8_fills_6 : decode cX8_fills 6 = .ok (.istore_n 3, 1) := by decide +kernel
theorem dX8_fills_7 : decode cX8_fills 7 = .ok (.aload_n 0, 1) := by decide +kernel
theorem dX8_fills_8 : decode cX8_fills 8 = .ok (.iload_n 1, 1) := by decide +kernel
theorem dX8_fills_9 : decode cX8_fills 9 = .ok (.invokevirtual 194, 3) := by decide +kernel
theorem dX8_fills_12 : decode cX8_fills 12 = .ok (.istore 4, 2) := by decide +kernel
theorem dX8_fills_14 : decode cX8_fills 14 = .ok (.iload_n 3, 1) := by decide +kernel
theorem dX8_fills_15 : decode cX8_fills 15 = .ok (.iconst 4, 1) := by decide +kernel
theorem dX8_fills_16 : decode cX8_fills 16 = .ok (.irem, 1) := by decide +kernel
theorem dX8_fills_17 : decode cX8_fills 17 = .ok (.ifCond .ne 48, 3) := by decide +kernel
theorem dX8_fills_20 : decode cX8_fills 20 = .ok (.aload_n 0, 1) := by decide +kernel
theorem dX8_fills_21 : decode cX8_fills 21 = .ok (.iload_n 3, 1) := by decide +kernel
theorem dX8_fills_22 : decode cX8_fills 22 = .ok (.iload_n 2, 1) := by decide +kernel
theorem dX8_fills_23 : decode cX8_fills 23 = .ok (.iadd, 1) := by decide +kernel
theorem dX8_fills_24 : decode cX8_fills 24 = .ok (.iconst 4, 1) := by decide +kernel
theorem dX8_fills_25 : decode cX8_fills 25 = .ok (.iload_n 2, 1) := by decide +kernel
theorem dX8_fills_26 : decode cX8_fills 26 = .ok (.isub, 1) := by decide +kernel
theorem dX8_fills_27 : decode cX8_fills 27 = .ok (.invokevirtual 145, 3) := by decide +kernel
theorem dX8_fills_30 : decode cX8_fills 30 = .ok (.ifCond .eq 35, 3) := by decide +kernel
theorem dX8_fills_33 : decode cX8_fills 33 = .ok (.aload_n 0, 1) := by decide +kernel
theorem dX8_fills_34 : decode cX8_fills 34 = .ok (.iload_n 3, 1) := by decide +kernel
theorem dX8_fills_35 : decode cX8_fills 35 = .ok (.iconst 4, 1) := by decide +kernel
theorem dX8_fills_36 : decode cX8_fills 36 = .ok (.iconst 0, 1) := by decide +kernel
theorem dX8_fills_37 : decode cX8_fills 37 = .ok (.invokevirtual 253, 3) := by decide +kernel
theorem dX8_fills_40 : decode cX8_fills 40 = .ok (.aload_n 0, 1) := by decide +kernel
theorem dX8_fills_41 : decode cX8_fills 41 = .ok (.iload_n 1, 1) := by decide +kernel
theorem dX8_fills_42 : decode cX8_fills 42 = .ok (.iconst 5, 1) := by decide +kernel
theorem dX8_fills_43 : decode cX8_fills 43 = .ok (.iload 4, 2) := by decide +kernel
theorem dX8_fills_45 : decode cX8_fills 45 = .ok (.iadd, 1) := by decide +kernel
theorem dX8_fills_46 : decode cX8_fills 46 = .ok (.iload_n 3, 1) := by decide +kernel
theorem dX8_fills_47 : decode cX8_fills 47 = .ok (.iconst 4, 1) := by decide +kernel
theorem dX8_fills_48 : decode cX8_fills 48 = .ok (.idiv, 1) := by decide +kernel
theorem dX8_fills_49 : decode cX8_fills 49 = .ok (.invokevirtual 236, 3) := by decide +kernel
theorem dX8_fills_52 : decode cX8_fills 52 = .ok (.aload_n 0, 1) := by decide +kernel
theorem dX8_fills_53 : decode cX8_fills 53 = .ok (.getfield 7, 3) := by decide +kernel
theorem dX8_fills_56 : decode cX8_fills 56 = .ok (.bipush 6, 2) := by decide +kernel
theorem dX8_fills_58 : decode cX8_fills 58 = .ok (.dup2, 1) := by decide +kernel
theorem dX8_fills_59 : decode cX8_fills 59 = .ok (.iaload, 1) := by decide +kernel
theorem dX8_fills_60 : decode cX8_fills 60 = .ok (.iconst 1, 1) := by decide +kernel
theorem dX8_fills_61 : decode cX8_fills 61 = .ok (.iadd, 1) := by decide +kernel
theorem dX8_fills_62 : decode cX8_fills 62 = .ok (.iastore, 1) := by decide +kernel
theorem dX8_fills_63 : decode cX8_fills 63 = .ok (.iconst 1, 1) := by decide +kernel
theorem dX8_fills_64 : decode cX8_fills 64 = .ok (.ireturn, 1) := by decide +kernel
theorem dX8_fills_65 : decode cX8_fills 65 = .ok (.aload_n 0, 1) := by decide +kernel
theorem dX8_fills_66 : decode cX8_fills 66 = .ok (.iload_n 1, 1) := by decide +kernel
theorem dX8_fills_67 : decode cX8_fills 67 = .ok (.iload 4, 2) := by decide +kernel
theorem dX8_fills_69 : decode cX8_fills 69 = .ok (.invokevirtual 261, 3) := by decide +kernel
theorem dX8_fills_72 : decode cX8_fills 72 = .ok (.ifCond .ne 5, 3) := by decide +kernel
theorem dX8_fills_75 : decode cX8_fills 75 = .ok (.iconst 0, 1) := by decide +kernel
theorem dX8_fills_76 : decode cX8_fills 76 = .ok (.ireturn, 1) := by decide +kernel
theorem dX8_fills_77 : decode cX8_fills 77 = .ok (.aload_n 0, 1) := by decide +kernel
theorem dX8_fills_78 : decode cX8_fills 78 = .ok (.iload_n 3, 1) := by decide +kernel
theorem dX8_fills_79 : decode cX8_fills 79 = .ok (.iload_n 2, 1) := by decide +kernel
theorem dX8_fills_80 : decode cX8_fills 80 = .ok (.iconst 1, 1) := by decide +kernel
theorem dX8_fills_81 : decode cX8_fills 81 = .ok (.invokevirtual 253, 3) := by decide +kernel
theorem dX8_fills_84 : decode cX8_fills 84 = .ok (.aload_n 0, 1) := by decide +kernel
theorem dX8_fills_85 : decode cX8_fills 85 = .ok (.getfield 7, 3) := by decide +kernel
theorem dX8_fills_88 : decode cX8_fills 88 = .ok (.bipush 7, 2) := by decide +kernel
theorem dX8_fills_90 : decode cX8_fills 90 = .ok (.dup2, 1) := by decide +kernel
theorem dX8_fills_91 : decode cX8_fills 91 = .ok (.iaload, 1) := by decide +kernel
theorem dX8_fills_92 : decode cX8_fills 92 = .ok (.iconst 1, 1) := by decide +kernel
theorem dX8_fills_93 : decode cX8_fills 93 = .ok (.iadd, 1) := by decide +kernel
theorem dX8_fills_94 : decode cX8_fills 94 = .ok (.iastore, 1) := by decide +kernel
theorem dX8_fills_95 : decode cX8_fills 95 = .ok (.iconst 1, 1) := by decide +kernel
theorem dX8_fills_96 : decode cX8_fills 96 = .ok (.ireturn, 1) := by decide +kernel
theorem dX8_canGrow_0 : decode cX8_canGrow 0 = .ok (.aload_n 0, 1) := by decide +kernel
theorem dX8_canGrow_1 : decode cX8_canGrow 1 = .ok (.iload_n 1, 1) := by decide +kernel
theorem dX8_canGrow_2 : decode cX8_canGrow 2 = .ok (.invokevirtual 194, 3) := by decide +kernel
theorem dX8_canGrow_5 : decode cX8_canGrow 5 = .ok (.istore_n 3, 1) := by decide +kernel
theorem dX8_canGrow_6 : decode cX8_canGrow 6 = .ok (.aload_n 0, 1) := by decide +kernel
theorem dX8_canGrow_7 : decode cX8_canGrow 7 = .ok (.iload_n 1, 1) := by decide +kernel
theorem dX8_canGrow_8 : decode cX8_canGrow 8 = .ok (.invokevirtual 191, 3) := by decide +kernel
theorem dX8_canGrow_11 : decode cX8_canGrow 11 = .ok (.istore 4, 2) := by decide +kernel
theorem dX8_canGrow_13 : decode cX8_canGrow 13 = .ok (.iload_n 2, 1) := by decide +kernel
theorem dX8_canGrow_14 : decode cX8_canGrow 14 = .ok (.iconst 4, 1) := by decide +kernel
theorem dX8_canGrow_15 : decode cX8_canGrow 15 = .ok (.idiv, 1) := by decide +kernel
theorem dX8_canGrow_16 : decode cX8_canGrow 16 = .ok (.istore 5, 2) := by decide +kernel
theorem dX8_canGrow_18 : decode cX8_canGrow 18 = .ok (.iload_n 2, 1) := by decide +kernel
theorem dX8_canGrow_19 : decode cX8_canGrow 19 = .ok (.iconst 4, 1) := by decide +kernel
theorem dX8_canGrow_20 : decode cX8_canGrow 20 = .ok (.irem, 1) := by decide +kernel
theorem dX8_canGrow_21 : decode cX8_canGrow 21 = .ok (.istore 6, 2) := by decide +kernel
theorem dX8_canGrow_23 : decode cX8_canGrow 23 = .ok (.iload 5, 2) := by decide +kernel
theorem dX8_canGrow_25 : decode cX8_canGrow 25 = .ok (.iload_n 3, 1) := by decide +kernel
theorem dX8_canGrow_26 : decode cX8_canGrow 26 = .ok (.if_icmp .ne 13, 3) := by decide +kernel
theorem dX8_canGrow_29 : decode cX8_canGrow 29 = .ok (.aload_n 0, 1) := by decide +kernel
theorem dX8_canGrow_30 : decode cX8_canGrow 30 = .ok (.iload_n 1, 1) := by decide +kernel
theorem dX8_canGrow_31 : decode cX8_canGrow 31 = .ok (.iload 4, 2) := by decide +kernel
theorem dX8_canGrow_33 : decode cX8_canGrow 33 = .ok (.iload 6, 2) := by decide +kernel
theorem dX8_canGrow_35 : decode cX8_canGrow 35 = .ok (.invokevirtual 264, 3) := by decide +kernel
theorem dX8_canGrow_38 : decode cX8_canGrow 38 = .ok (.ireturn, 1) := by decide +kernel
theorem dX8_canGrow_39 : decode cX8_canGrow 39 = .ok (.iload_n 3, 1) := by decide +kernel
theorem dX8_canGrow_40 : decode cX8_canGrow 40 = .ok (.istore 7, 2) := by decide +kernel
theorem dX8_canGrow_42 : decode cX8_canGrow 42 = .ok (.iload 4, 2) := by decide +kernel
theorem dX8_canGrow_44 : decode cX8_canGrow 44 = .ok (.ifCond .le 18, 3) := by decide +kernel
theorem dX8_canGrow_47 : decode cX8_canGrow 47 = .ok (.aload_n 0, 1) := by decide +kernel
theorem dX8_canGrow_48 : decode cX8_canGrow 48 = .ok (.iload_n 1, 1) := by decide +kernel
theorem dX8_canGrow_49 : decode cX8_canGrow 49 = .ok (.iload 4, 2) := by decide +kernel
theorem dX8_canGrow_51 : decode cX8_canGrow 51 = .ok (.invokevirtual 267, 3) := by decide +kernel
theorem dX8_canGrow_54 : decode cX8_canGrow 54 = .ok (.ifCond .ne 5, 3) := by decide +kernel
theorem dX8_canGrow_57 : decode cX8_canGrow 57 = .ok (.iconst 0, 1) := by decide +kernel
theorem dX8_canGrow_58 : decode cX8_canGrow 58 = .ok (.ireturn, 1) := by decide +kernel
theorem dX8_canGrow_59 : decode cX8_canGrow 59 = .ok (.iinc 7 1, 3) := by decide +kernel
theorem dX8_canGrow_62 : decode cX8_canGrow 62 = .ok (.iload 7, 2) := by decide +kernel
theorem dX8_canGrow_64 : decode cX8_canGrow 64 = .ok (.iload 5, 2) := by decide +kernel
theorem dX8_canGrow_66 : decode cX8_canGrow 66 = .ok (.if_icmp .ge 21, 3) := by decide +kernel
theorem dX8_canGrow_69 : decode cX8_canGrow 69 = .ok (.aload_n 0, 1) := by decide +kernel
theorem dX8_canGrow_70 : decode cX8_canGrow 70 = .ok (.iload_n 1, 1) := by decide +kernel
theorem dX8_canGrow_71 : decode cX8_canGrow 71 = .ok (.iload 7, 2) := by decide +kernel
theorem dX8_canGrow_73 : decode cX8_canGrow 73 = .ok (.invokevirtual 261, 3) := by decide +kernel
theorem dX8_canGrow_76 : decode cX8_canGrow 76 = .ok (.ifCond .ne 5, 3) := by decide +kernel
theorem dX8_canGrow_79 : decode cX8_canGrow 79 = .ok (.iconst 0, 1) := by decide +kernel
theorem dX8_canGrow_80 : decode cX8_canGrow 80 = .ok (.ireturn, 1) := by decide +kernel
theorem dX8_canGrow_81 : decode cX8_canGrow 81 = .ok (.iinc 7 1, 3) := by decide +kernel
theorem dX8_canGrow_84 : decode cX8_canGrow 84 = .ok (.goto (-22), 3) := by decide +kernel
theorem dX8_canGrow_87 : decode cX8_canGrow 87 = .ok (.iload 6, 2) := by decide +kernel
theorem dX8_canGrow_89 : decode cX8_canGrow 89 = .ok (.ifCond .eq 15, 3) := by decide +kernel
theorem dX8_canGrow_92 : decode cX8_canGrow 92 = .ok (.aload_n 0, 1) := by decide +kernel
theorem dX8_canGrow_93 : decode cX8_canGrow 93 = .ok (.iload_n 1, 1) := by decide +kernel
theorem dX8_canGrow_94 : decode cX8_canGrow 94 = .ok (.iload 5, 2) := by decide +kernel
theorem dX8_canGrow_96 : decode cX8_canGrow 96 = .ok (.iload 6, 2) := by decide +kernel
theorem dX8_canGrow_98 : decode cX8_canGrow 98 = .ok (.invokevirtual 257, 3) := by decide +kernel
theorem dX8_canGrow_101 : decode cX8_canGrow 101 = .ok (.ifCond .eq 7, 3) := by decide +kernel
theorem dX8_canGrow_104 : decode cX8_canGrow 104 = .ok (.iconst 1, 1) := by decide +kernel
theorem dX8_canGrow_105 : decode cX8_canGrow 105 = .ok (.goto 4, 3) := by decide +kernel
theorem dX8_canGrow_108 : decode cX8_canGrow 108 = .ok (.iconst 0, 1) := by decide +kernel
theorem dX8_canGrow_109 : decode cX8_canGrow 109 = .ok (.ireturn, 1) := by decide +kernel
theorem dX8_grows_0 : decode cX8_grows 0 = .ok (.aload_n 0, 1) := by decide +kernel
theorem dX8_grows_1 : decode cX8_grows 1 = .ok (.iload_n 1, 1) := by decide +kernel
theorem dX8_grows_2 : decode cX8_grows 2 = .ok (.iconst 3, 1) := by decide +kernel
theorem dX8_grows_3 : decode cX8_grows 3 = .ok (.invokevirtual 173, 3) := by decide +kernel
theorem dX8_grows_6 : decode cX8_grows 6 = .ok (.iload_n 2, 1) := by decide +kernel
theorem dX8_grows_7 : decode cX8_grows 7 = .ok (.iadd, 1) := by decide +kernel
theorem dX8_grows_8 : decode cX8_grows 8 = .ok (.istore_n 3, 1) := by decide +kernel
theorem dX8_grows_9 : decode cX8_grows 9 = .ok (.iload_n 3, 1) := by decide +kernel
theorem dX8_grows_10 : decode cX8_grows 10 = .ok (.bipush 40, 2) := by decide +kernel
theorem dX8_grows_12 : decode cX8_grows 12 = .ok (.if_icmp .gt 18, 3) := by decide +kernel
theorem dX8_grows_15 : decode cX8_grows 15 = .ok (.aload_n 0, 1) := by decide +kernel
theorem dX8_grows_16 : decode cX8_grows 16 = .ok (.invokevirtual 206, 3) := by decide +kernel
theorem dX8_grows_19 : decode cX8_grows 19 = .ok (.iload_n 2, 1) := by decide +kernel
theorem dX8_grows_20 : decode cX8_grows 20 = .ok (.isub, 1) := by decide +kernel
theorem dX8_grows_21 : decode cX8_grows 21 = .ok (.aload_n 0, 1) := by decide +kernel
theorem dX8_grows_22 : decode cX8_grows 22 = .ok (.getfield 7, 3) := by decide +kernel
theorem dX8_grows_25 : decode cX8_grows 25 = .ok (.iconst 4, 1) := by decide +kernel
theorem dX8_grows_26 : decode cX8_grows 26 = .ok (.iaload, 1) := by decide +kernel
theorem dX8_grows_27 : decode cX8_grows 27 = .ok (.if_icmp .ge 6, 3) := by decide +kernel
theorem dX8_grows_30 : decode cX8_grows 30 = .ok (.bipush (-3), 2) := by decide +kernel
theorem dX8_grows_32 : decode cX8_grows 32 = .ok (.ireturn, 1) := by decide +kernel
theorem dX8_grows_33 : decode cX8_grows 33 = .ok (.aload_n 0, 1) := by decide +kernel
theorem dX8_grows_34 : decode cX8_grows 34 = .ok (.getfield 7, 3) := by decide +kernel
theorem dX8_grows_37 : decode cX8_grows 37 = .ok (.aload_n 0, 1) := by decide +kernel
theorem dX8_grows_38 : decode cX8_grows 38 = .ok (.getfield 13, 3) := by decide +kernel
theorem dX8_grows_41 : decode cX8_grows 41 = .ok (.invokestatic 117, 3) := by decide +kernel
theorem dX8_grows_44 : decode cX8_grows 44 = .ok (.aload_n 0, 1) := by decide +kernel
theorem dX8_grows_45 : decode cX8_grows 45 = .ok (.iload_n 1, 1) := by decide +kernel
theorem dX8_grows_46 : decode cX8_grows 46 = .ok (.iload_n 3, 1) := by decide +kernel
theorem dX8_grows_47 : decode cX8_grows 47 = .ok (.invokevirtual 270, 3) := by decide +kernel
theorem dX8_grows_50 : decode cX8_grows 50 = .ok (.ifCond .ne 17, 3) := by decide +kernel
theorem dX8_grows_53 : decode cX8_grows 53 = .ok (.aload_n 0, 1) := by decide +kernel
theorem dX8_grows_54 : decode cX8_grows 54 = .ok (.getfield 13, 3) := by decide +kernel
theorem dX8_grows_57 : decode cX8_grows 57 = .ok (.aload_n 0, 1) := by decide +kernel
theorem dX8_grows_58 : decode cX8_grows 58 = .ok (.getfield 7, 3) := by decide +kernel
theorem dX8_grows_61 : decode cX8_grows 61 = .ok (.invokestatic 117, 3) := by decide +kernel
theorem dX8_grows_64 : decode cX8_grows 64 = .ok (.bipush (-3), 2) := by decide +kernel
theorem dX8_grows_66 : decode cX8_grows 66 = .ok (.ireturn, 1) := by decide +kernel
theorem dX8_grows_67 : decode cX8_grows 67 = .ok (.aload_n 0, 1) := by decide +kernel
theorem dX8_grows_68 : decode cX8_grows 68 = .ok (.iload_n 1, 1) := by decide +kernel
theorem dX8_grows_69 : decode cX8_grows 69 = .ok (.iconst 3, 1) := by decide +kernel
theorem dX8_grows_70 : decode cX8_grows 70 = .ok (.iload_n 3, 1) := by decide +kernel
theorem dX8_grows_71 : decode cX8_grows 71 = .ok (.invokevirtual 236, 3) := by decide +kernel
theorem dX8_grows_74 : decode cX8_grows 74 = .ok (.iload_n 3, 1) := by decide +kernel
theorem dX8_grows_75 : decode cX8_grows 75 = .ok (.ireturn, 1) := by decide +kernel
theorem dX8_grow_0 : decode cX8_grow 0 = .ok (.aload_n 0, 1) := by decide +kernel
theorem dX8_grow_1 : decode cX8_grow 1 = .ok (.iload_n 1, 1) := by decide +kernel
theorem dX8_grow_2 : decode cX8_grow 2 = .ok (.invokevirtual 273, 3) := by decide +kernel
theorem dX8_grow_5 : decode cX8_grow 5 = .ok (.ifCond .eq 15, 3) := by decide +kernel
theorem dX8_grow_8 : decode cX8_grow 8 = .ok (.iload_n 2, 1) := by decide +kernel
theorem dX8_grow_9 : decode cX8_grow 9 = .ok (.i2l, 1) := by decide +kernel
theorem dX8_grow_10 : decode cX8_grow 10 = .ok (.lconst 1, 1) := by decide +kernel
theorem dX8_grow_11 : decode cX8_grow 11 = .ok (.ldc2_w 276, 3) := by decide +kernel
theorem dX8_grow_14 : decode cX8_grow 14 = .ok (.invokestatic 41, 3) := by decide +kernel
theorem dX8_grow_17 : decode cX8_grow 17 = .ok (.ifCond .ne 5, 3) := by decide +kernel
theorem dX8_grow_20 : decode cX8_grow 20 = .ok (.iconst (-1), 1) := by decide +kernel
theorem dX8_grow_21 : decode cX8_grow 21 = .ok (.ireturn, 1) := by decide +kernel
theorem dX8_grow_22 : decode cX8_grow 22 = .ok (.aload_n 0, 1) := by decide +kernel
theorem dX8_grow_23 : decode cX8_grow 23 = .ok (.invokevirtual 240, 3) := by decide +kernel
theorem dX8_grow_26 : decode cX8_grow 26 = .ok (.ifCond .eq 8, 3) := by decide +kernel
theorem dX8_grow_29 : decode cX8_grow 29 = .ok (.bipush (-2), 2) := by decide +kernel
theorem dX8_grow_31 : decode cX8_grow 31 = .ok (.goto 9, 3) := by decide +kernel
theorem dX8_grow_34 : decode cX8_grow 34 = .ok (.aload_n 0, 1) := by decide +kernel
theorem dX8_grow_35 : decode cX8_grow 35 = .ok (.iload_n 1, 1) := by decide +kernel
theorem dX8_grow_36 : decode cX8_grow 36 = .ok (.iload_n 2, 1) := by decide +kernel
theorem dX8_grow_37 : decode cX8_grow 37 = .ok (.invokevirtual 114, 3) := by decide +kernel
theorem dX8_grow_40 : decode cX8_grow 40 = .ok (.ireturn, 1) := by decide +kernel
theorem dX8_shrink_0 : decode cX8_shrink 0 = .ok (.aload_n 0, 1) := by decide +kernel
theorem dX8_shrink_1 : decode cX8_shrink 1 = .ok (.iload_n 1, 1) := by decide +kernel
theorem dX8_shrink_2 : decode cX8_shrink 2 = .ok (.invokevirtual 273, 3) := by decide +kernel
theorem dX8_shrink_5 : decode cX8_shrink 5 = .ok (.ifCond .eq 19, 3) := by decide +kernel
theorem dX8_shrink_8 : decode cX8_shrink 8 = .ok (.iload_n 2, 1) := by decide +kernel
theorem dX8_shrink_9 : decode cX8_shrink 9 = .ok (.i2l, 1) := by decide +kernel
theorem dX8_shrink_10 : decode cX8_shrink 10 = .ok (.lconst 1, 1) := by decide +kernel
theorem dX8_shrink_11 : decode cX8_shrink 11 = .ok (.aload_n 0, 1) := by decide +kernel
theorem dX8_shrink_12 : decode cX8_shrink 12 = .ok (.iload_n 1, 1) := by decide +kernel
theorem dX8_shrink_13 : decode cX8_shrink 13 = .ok (.iconst 3, 1) := by decide +kernel
theorem dX8_shrink_14 : decode cX8_shrink 14 = .ok (.invokevirtual 173, 3) := by decide +kernel
theorem dX8_shrink_17 : decode cX8_shrink 17 = .ok (.i2l, 1) := by decide +kernel
theorem dX8_shrink_18 : decode cX8_shrink 18 = .ok (.invokestatic 41, 3) := by decide +kernel
theorem dX8_shrink_21 : decode cX8_shrink 21 = .ok (.ifCond .ne 5, 3) := by decide +kernel
theorem dX8_shrink_24 : decode cX8_shrink 24 = .ok (.iconst (-1), 1) := by decide +kernel
theorem dX8_shrink_25 : decode cX8_shrink 25 = .ok (.ireturn, 1) := by decide +kernel
theorem dX8_shrink_26 : decode cX8_shrink 26 = .ok (.aload_n 0, 1) := by decide +kernel
theorem dX8_shrink_27 : decode cX8_shrink 27 = .ok (.invokevirtual 240, 3) := by decide +kernel
theorem dX8_shrink_30 : decode cX8_shrink 30 = .ok (.ifCond .eq 6, 3) := by decide +kernel
theorem dX8_shrink_33 : decode cX8_shrink 33 = .ok (.bipush (-2), 2) := by decide +kernel
theorem dX8_shrink_35 : decode cX8_shrink 35 = .ok (.ireturn, 1) := by decide +kernel
theorem dX8_shrink_36 : decode cX8_shrink 36 = .ok (.aload_n 0, 1) := by decide +kernel
theorem dX8_shrink_37 : decode cX8_shrink 37 = .ok (.iload_n 1, 1) := by decide +kernel
theorem dX8_shrink_38 : decode cX8_shrink 38 = .ok (.invokevirtual 194, 3) := by decide +kernel
theorem dX8_shrink_41 : decode cX8_shrink 41 = .ok (.istore_n 3, 1) := by decide +kernel
theorem dX8_shrink_42 : decode cX8_shrink 42 = .ok (.aload_n 0, 1) := by decide +kernel
theorem dX8_shrink_43 : decode cX8_shrink 43 = .ok (.iload_n 1, 1) := by decide +kernel
theorem dX8_shrink_44 : decode cX8_shrink 44 = .ok (.invokevirtual 191, 3) := by decide +kernel
theorem dX8_shrink_47 : decode cX8_shrink 47 = .ok (.istore 4, 2) := by decide +kernel
theorem dX8_shrink_49 : decode cX8_shrink 49 = .ok (.aload_n 0, 1) := by decide +kernel
theorem dX8_shrink_50 : decode cX8_shrink 50 = .ok (.iload_n 1, 1) := by decide +kernel
theorem dX8_shrink_51 : decode cX8_shrink 51 = .ok (.iconst 3, 1) := by decide +kernel
theorem dX8_shrink_52 : decode cX8_shrink 52 = .ok (.invokevirtual 173, 3) := by decide +kernel
theorem dX8_shrink_55 : decode cX8_shrink 55 = .ok (.iload_n 2, 1) := by decide +kernel
theorem dX8_shrink_56 : decode cX8_shrink 56 = .ok (.isub, 1) := by decide +kernel
theorem dX8_shrink_57 : decode cX8_shrink 57 = .ok (.istore 5, 2) := by decide +kernel
theorem dX8_shrink_59 : decode cX8_shrink 59 = .ok (.iload 5, 2) := by decide +kernel
theorem dX8_shrink_61 : decode cX8_shrink 61 = .ok (.iconst 4, 1) := by decide +kernel
theorem dX8_shrink_62 : decode cX8_shrink 62 = .ok (.idiv, 1) := by decide +kernel
theorem dX8_shrink_63 : decode cX8_shrink 63 = .ok (.istore 6, 2) := by decide +kernel
theorem dX8_shrink_65 : decode cX8_shrink 65 = .ok (.iload 5, 2) := by decide +kernel
theorem dX8_shrink_67 : decode cX8_shrink 67 = .ok (.iconst 4, 1) := by decide +kernel
theorem dX8_shrink_68 : decode cX8_shrink 68 = .ok (.irem, 1) := by decide +kernel
theorem dX8_shrink_69 : decode cX8_shrink 69 = .ok (.istore 7, 2) := by decide +kernel
theorem dX8_shrink_71 : decode cX8_shrink 71 = .ok (.iload 6, 2) := by decide +kernel
theorem dX8_shrink_73 : decode cX8_shrink 73 = .ok (.iload_n 3, 1) := by decide +kernel
theorem dX8_shrink_74 : decode cX8_shrink 74 = .ok (.if_icmp .ne 25, 3) := by decide +kernel
theorem dX8_shrink_77 : decode cX8_shrink 77 = .ok (.aload_n 0, 1) := by decide +kernel
theorem dX8_shrink_78 : decode cX8_shrink 78 = .ok (.aload_n 0, 1) := by decide +kernel
theorem dX8_shrink_79 : decode cX8_shrink 79 = .ok (.iload_n 1, 1) := by decide +kernel
theorem dX8_shrink_80 : decode cX8_shrink 80 = .ok (.iconst 4, 1) := by decide +kernel
theorem dX8_shrink_81 : decode cX8_shrink 81 = .ok (.invokevirtual 173, 3) := by decide +kernel
theorem dX8_shrink_84 : decode cX8_shrink 84 = .ok (.iload 7, 2) := by decide +kernel
theorem dX8_shrink_86 : decode cX8_shrink 86 = .ok (.iadd, 1) := by decide +kernel
theorem dX8_shrink_87 : decode cX8_shrink 87 = .ok (.iload 4, 2) := by decide +kernel
theorem dX8_shrink_89 : decode cX8_shrink 89 = .ok (.iload 7, 2) := by decide +kernel
theorem dX8_shrink_91 : decode cX8_shrink 91 = .ok (.isub, 1) := by decide +kernel
theorem dX8_shrink_92 : decode cX8_shrink 92 = .ok (.iconst 1, 1) := by decide +kernel
theorem dX8_shrink_93 : decode cX8_shrink 93 = .ok (.invokevirtual 253, 3) := by decide +kernel
theorem dX8_shrink_96 : decode cX8_shrink 96 = .ok (.goto 79, 3) := by decide +kernel
theorem dX8_shrink_99 : decode cX8_shrink 99 = .ok (.aload_n 0, 1) := by decide +kernel
theorem dX8_shrink_100 : decode cX8_shrink 100 = .ok (.aload_n 0, 1) := by decide +kernel
theorem dX8_shrink_101 : decode cX8_shrink 101 = .ok (.iload_n 1, 1) := by decide +kernel
theorem dX8_shrink_102 : decode cX8_shrink 102 = .ok (.iconst 4, 1) := by decide +kernel
theorem dX8_shrink_103 : decode cX8_shrink 103 = .ok (.invokevirtual 173, 3) := by decide +kernel
theorem dX8_shrink_106 : decode cX8_shrink 106 = .ok (.iload 4, 2) := by decide +kernel
theorem dX8_shrink_108 : decode cX8_shrink 108 = .ok (.iconst 1, 1) := by decide +kernel
theorem dX8_shrink_109 : decode cX8_shrink 109 = .ok (.invokevirtual 253, 3) := by decide +kernel
theorem dX8_shrink_112 : decode cX8_shrink 112 = .ok (.iload 6, 2) := by decide +kernel
theorem dX8_shrink_114 : decode cX8_shrink 114 = .ok (.istore 8, 2) := by decide +kernel
theorem dX8_shrink_116 : decode cX8_shrink 116 = .ok (.iload 8, 2) := by decide +kernel
theorem dX8_shrink_118 : decode cX8_shrink 118 = .ok (.iload_n 3, 1) := by decide +kernel
theorem dX8_shrink_119 : decode cX8_shrink 119 = .ok (.if_icmp .ge 26, 3) := by decide +kernel
theorem dX8_shrink_122 : decode cX8_shrink 122 = .ok (.aload_n 0, 1) := by decide +kernel
theorem dX8_shrink_123 : decode cX8_shrink 123 = .ok (.iconst 4, 1) := by decide +kernel
theorem dX8_shrink_124 : decode cX8_shrink 124 = .ok (.aload_n 0, 1) := by decide +kernel
theorem dX8_shrink_125 : decode cX8_shrink 125 = .ok (.iload_n 1, 1) := by decide +kernel
theorem dX8_shrink_126 : decode cX8_shrink 126 = .ok (.iconst 5, 1) := by decide +kernel
theorem dX8_shrink_127 : decode cX8_shrink 127 = .ok (.iload 8, 2) := by decide +kernel
theorem dX8_shrink_129 : decode cX8_shrink 129 = .ok (.iadd, 1) := by decide +kernel
theorem dX8_shrink_130 : decode cX8_shrink 130 = .ok (.invokevirtual 173, 3) := by decide +kernel
theorem dX8_shrink_133 : decode cX8_shrink 133 = .ok (.imul, 1) := by decide +kernel
theorem dX8_shrink_134 : decode cX8_shrink 134 = .ok (.iconst 4, 1) := by decide +kernel
theorem dX8_shrink_135 : decode cX8_shrink 135 = .ok (.iconst 1, 1) := by decide +kernel
theorem dX8_shrink_136 : decode cX8_shrink 136 = .ok (.invokevirtual 253, 3) := by decide +kernel
theorem dX8_shrink_139 : decode cX8_shrink 139 = .ok (.iinc 8 1, 3) := by decide +kernel
theorem dX8_shrink_142 : decode cX8_shrink 142 = .ok (.goto (-26), 3) := by decide +kernel
theorem dX8_shrink_145 : decode cX8_shrink 145 = .ok (.aload_n 0, 1) := by decide +kernel
theorem dX8_shrink_146 : decode cX8_shrink 146 = .ok (.iload_n 1, 1) := by decide +kernel
theorem dX8_shrink_147 : decode cX8_shrink 147 = .ok (.iconst 4, 1) := by decide +kernel
theorem dX8_shrink_148 : decode cX8_shrink 148 = .ok (.iconst 4, 1) := by decide +kernel
theorem dX8_shrink_149 : decode cX8_shrink 149 = .ok (.aload_n 0, 1) := by decide +kernel
theorem dX8_shrink_150 : decode cX8_shrink 150 = .ok (.iload_n 1, 1) := by decide +kernel
theorem dX8_shrink_151 : decode cX8_shrink 151 = .ok (.iconst 5, 1) := by decide +kernel
theorem dX8_shrink_152 : decode cX8_shrink 152 = .ok (.iload 6, 2) := by decide +kernel
theorem dX8_shrink_154 : decode cX8_shrink 154 = .ok (.iadd, 1) := by decide +kernel
theorem dX8_shrink_155 : decode cX8_shrink 155 = .ok (.invokevirtual 173, 3) := by decide +kernel
theorem dX8_shrink_158 : decode cX8_shrink 158 = .ok (.imul, 1) := by decide +kernel
theorem dX8_shrink_159 : decode cX8_shrink 159 = .ok (.invokevirtual 236, 3) := by decide +kernel
theorem dX8_shrink_162 : decode cX8_shrink 162 = .ok (.aload_n 0, 1) := by decide +kernel
theorem dX8_shrink_163 : decode cX8_shrink 163 = .ok (.aload_n 0, 1) := by decide +kernel
theorem dX8_shrink_164 : decode cX8_shrink 164 = .ok (.iload_n 1, 1) := by decide +kernel
theorem dX8_shrink_165 : decode cX8_shrink 165 = .ok (.iconst 4, 1) := by decide +kernel
theorem dX8_shrink_166 : decode cX8_shrink 166 = .ok (.invokevirtual 173, 3) := by decide +kernel
theorem dX8_shrink_169 : decode cX8_shrink 169 = .ok (.iload 7, 2) := by decide +kernel
theorem dX8_shrink_171 : decode cX8_shrink 171 = .ok (.iconst 0, 1) := by decide +kernel
theorem dX8_shrink_172 : decode cX8_shrink 172 = .ok (.invokevirtual 253, 3) := by decide +kernel
theorem dX8_shrink_175 : decode cX8_shrink 175 = .ok (.aload_n 0, 1) := by decide +kernel
theorem dX8_shrink_176 : decode cX8_shrink 176 = .ok (.iload_n 1, 1) := by decide +kernel
theorem dX8_shrink_177 : decode cX8_shrink 177 = .ok (.iconst 3, 1) := by decide +kernel
theorem dX8_shrink_178 : decode cX8_shrink 178 = .ok (.iload 5, 2) := by decide +kernel
theorem dX8_shrink_180 : decode cX8_shrink 180 = .ok (.invokevirtual 236, 3) := by decide +kernel
theorem dX8_shrink_183 : decode cX8_shrink 183 = .ok (.iload 5, 2) := by decide +kernel
theorem dX8_shrink_185 : decode cX8_shrink 185 = .ok (.ireturn, 1) := by decide +kernel
theorem dX8_hasOthers_0 : decode cX8_hasOthers 0 = .ok (.iconst 0, 1) := by decide +kernel
theorem dX8_hasOthers_1 : decode cX8_hasOthers 1 = .ok (.istore_n 2, 1) := by decide +kernel
theorem dX8_hasOthers_2 : decode cX8_hasOthers 2 = .ok (.iconst 1, 1) := by decide +kernel
theorem dX8_hasOthers_3 : decode cX8_hasOthers 3 = .ok (.istore_n 3, 1) := by decide +kernel
theorem dX8_hasOthers_4 : decode cX8_hasOthers 4 = .ok (.iload_n 3, 1) := by decide +kernel
theorem dX8_hasOthers_5 : decode cX8_hasOthers 5 = .ok (.aload_n 0, 1) := by decide +kernel
theorem dX8_hasOthers_6 : decode cX8_hasOthers 6 = .ok (.invokevirtual 167, 3) := by decide +kernel
theorem dX8_hasOthers_9 : decode cX8_hasOthers 9 = .ok (.if_icmp .ge 37, 3) := by decide +kernel
theorem dX8_hasOthers_12 : decode cX8_hasOthers 12 = .ok (.iload_n 2, 1) := by decide +kernel
theorem dX8_hasOthers_13 : decode cX8_hasOthers 13 = .ok (.ifCond .ne 21, 3) := by decide +kernel
theorem dX8_hasOthers_16 : decode cX8_hasOthers 16 = .ok (.aload_n 0, 1) := by decide +kernel
theorem dX8_hasOthers_17 : decode cX8_hasOthers 17 = .ok (.iload_n 3, 1) := by decide +kernel
theorem dX8_hasOthers_18 : decode cX8_hasOthers 18 = .ok (.invokevirtual 176, 3) := by decide +kernel
theorem dX8_hasOthers_21 : decode cX8_hasOthers 21 = .ok (.ifCond .eq 17, 3) := by decide +kernel
theorem dX8_hasOthers_24 : decode cX8_hasOthers 24 = .ok (.aload_n 0, 1) := by decide +kernel
theorem dX8_hasOthers_25 : decode cX8_hasOthers 25 = .ok (.iload_n 3, 1) := by decide +kernel
theorem dX8_hasOthers_26 : decode cX8_hasOthers 26 = .ok (.iconst 1, 1) := by decide +kernel
theorem dX8_hasOthers_27 : decode cX8_hasOthers 27 = .ok (.invokevirtual 173, 3) := by decide +kernel
theorem dX8_hasOthers_30 : decode cX8_hasOthers 30 = .ok (.iload_n 1, 1) := by decide +kernel
theorem dX8_hasOthers_31 : decode cX8_hasOthers 31 = .ok (.if_icmp .ne 7, 3) := by decide +kernel
theorem dX8_hasOthers_34 : decode cX8_hasOthers 34 = .ok (.iconst 1, 1) := by decide +kernel
theorem dX8_hasOthers_35 : decode cX8_hasOthers 35 = .ok (.goto 4, 3) := by decide +kernel
theorem dX8_hasOthers_38 : decode cX8_hasOthers 38 = .ok (.iconst 0, 1) := by decide +kernel
theorem dX8_hasOthers_39 : decode cX8_hasOthers 39 = .ok (.istore_n 2, 1) := by decide +kernel
theorem dX8_hasOthers_40 : decode cX8_hasOthers 40 = .ok (.iinc 3 1, 3) := by decide +kernel
theorem dX8_hasOthers_43 : decode cX8_hasOthers 43 = .ok (.goto (-39), 3) := by decide +kernel
theorem dX8_hasOthers_46 : decode cX8_hasOthers 46 = .ok (.iload_n 2, 1) := by decide +kernel
theorem dX8_hasOthers_47 : decode cX8_hasOthers 47 = .ok (.ireturn, 1) := by decide +kernel
theorem dX8_remove_0 : decode cX8_remove 0 = .ok (.aload_n 0, 1) := by decide +kernel
theorem dX8_remove_1 : decode cX8_remove 1 = .ok (.iload_n 1, 1) := by decide +kernel
theorem dX8_remove_2 : decode cX8_remove 2 = .ok (.invokevirtual 176, 3) := by decide +kernel
theorem dX8_remove_5 : decode cX8_remove 5 = .ok (.ifCond .ne 5, 3) := by decide +kernel
theorem dX8_remove_8 : decode cX8_remove 8 = .ok (.iconst (-1), 1) := by decide +kernel
theorem dX8_remove_9 : decode cX8_remove 9 = .ok (.ireturn, 1) := by decide +kernel
theorem dX8_remove_10 : decode cX8_remove 10 = .ok (.aload_n 0, 1) := by decide +kernel
theorem dX8_remove_11 : decode cX8_remove 11 = .ok (.invokevirtual 240, 3) := by decide +kernel
theorem dX8_remove_14 : decode cX8_remove 14 = .ok (.ifCond .ne 15, 3) := by decide +kernel
theorem dX8_remove_17 : decode cX8_remove 17 = .ok (.iload_n 1, 1) := by decide +kernel
theorem dX8_remove_18 : decode cX8_remove 18 = .ok (.ifCond .eq 11, 3) := by decide +kernel
theorem dX8_remove_21 : decode cX8_remove 21 = .ok (.aload_n 0, 1) := by decide +kernel
theorem dX8_remove_22 : decode cX8_remove 22 = .ok (.iload_n 1, 1) := by decide +kernel
theorem dX8_remove_23 : decode cX8_remove 23 = .ok (.invokevirtual 278, 3) := by decide +kernel
theorem dX8_remove_26 : decode cX8_remove 26 = .ok (.ifCond .eq 6, 3) := by decide +kernel
theorem dX8_remove_29 : decode cX8_remove 29 = .ok (.bipush (-2), 2) := by decide +kernel
theorem dX8_remove_31 : decode cX8_remove 31 = .ok (.ireturn, 1) := by decide +kernel
theorem dX8_remove_32 : decode cX8_remove 32 = .ok (.aload_n 0, 1) := by decide +kernel
theorem dX8_remove_33 : decode cX8_remove 33 = .ok (.aload_n 0, 1) := by decide +kernel
theorem dX8_remove_34 : decode cX8_remove 34 = .ok (.iload_n 1, 1) := by decide +kernel
theorem dX8_remove_35 : decode cX8_remove 35 = .ok (.iconst 4, 1) := by decide +kernel
theorem dX8_remove_36 : decode cX8_remove 36 = .ok (.invokevirtual 173, 3) := by decide +kernel
theorem dX8_remove_39 : decode cX8_remove 39 = .ok (.aload_n 0, 1) := by decide +kernel
theorem dX8_remove_40 : decode cX8_remove 40 = .ok (.iload_n 1, 1) := by decide +kernel
theorem dX8_remove_41 : decode cX8_remove 41 = .ok (.invokevirtual 191, 3) := by decide +kernel
theorem dX8_remove_44 : decode cX8_remove 44 = .ok (.iconst 1, 1) := by decide +kernel
theorem dX8_remove_45 : decode cX8_remove 45 = .ok (.invokevirtual 253, 3) := by decide +kernel
theorem dX8_remove_48 : decode cX8_remove 48 = .ok (.iconst 0, 1) := by decide +kernel
theorem dX8_remove_49 : decode cX8_remove 49 = .ok (.istore_n 2, 1) := by decide +kernel
theorem dX8_remove_50 : decode cX8_remove 50 = .ok (.iload_n 2, 1) := by decide +kernel
theorem dX8_remove_51 : decode cX8_remove 51 = .ok (.aload_n 0, 1) := by decide +kernel
theorem dX8_remove_52 : decode cX8_remove 52 = .ok (.iload_n 1, 1) := by decide +kernel
theorem dX8_remove_53 : decode cX8_remove 53 = .ok (.invokevirtual 194, 3) := by decide +kernel
theorem dX8_remove_56 : decode cX8_remove 56 = .ok (.if_icmp .ge 25, 3) := by decide +kernel
theorem dX8_remove_59 : decode cX8_remove 59 = .ok (.aload_n 0, 1) := by decide +kernel
theorem dX8_remove_60 : decode cX8_remove 60 = .ok (.iconst 4, 1) := by decide +kernel
theorem dX8_remove_61 : decode cX8_remove 61 = .ok (.aload_n 0, 1) := by decide +kernel
theorem dX8_remove_62 : decode cX8_remove 62 = .ok (.iload_n 1, 1) := by decide +kernel
theorem dX8_remove_63 : decode cX8_remove 63 = .ok (.iconst 5, 1) := by decide +kernel
theorem dX8_remove_64 : decode cX8_remove 64 = .ok (.iload_n 2, 1) := by decide +kernel
theorem dX8_remove_65 : decode cX8_remove 65 = .ok (.iadd, 1) := by decide +kernel
theorem dX8_remove_66 : decode cX8_remove 66 = .ok (.invokevirtual 173, 3) := by decide +kernel
theorem dX8_remove_69 : decode cX8_remove 69 = .ok (.imul, 1) := by decide +kernel
theorem dX8_remove_70 : decode cX8_remove 70 = .ok (.iconst 4, 1) := by decide +kernel
theorem dX8_remove_71 : decode cX8_remove 71 = .ok (.iconst 1, 1) := by decide +kernel
theorem dX8_remove_72 : decode cX8_remove 72 = .ok (.invokevirtual 253, 3) := by decide +kernel
theorem dX8_remove_75 : decode cX8_remove 75 = .ok (.iinc 2 1, 3) := by decide +kernel
theorem dX8_remove_78 : decode cX8_remove 78 = .ok (.goto (-28), 3) := by decide +kernel
theorem dX8_remove_81 : decode cX8_remove 81 = .ok (.aload_n 0, 1) := by decide +kernel
theorem dX8_remove_82 : decode cX8_remove 82 = .ok (.iload_n 1, 1) := by decide +kernel
theorem dX8_remove_83 : decode cX8_remove 83 = .ok (.iconst 0, 1) := by decide +kernel
theorem dX8_remove_84 : decode cX8_remove 84 = .ok (.iconst 0, 1) := by decide +kernel
theorem dX8_remove_85 : decode cX8_remove 85 = .ok (.invokevirtual 236, 3) := by decide +kernel
theorem dX8_remove_88 : decode cX8_remove 88 = .ok (.aload_n 0, 1) := by decide +kernel
theorem dX8_remove_89 : decode cX8_remove 89 = .ok (.iload_n 1, 1) := by decide +kernel
theorem dX8_remove_90 : decode cX8_remove 90 = .ok (.iconst 3, 1) := by decide +kernel
theorem dX8_remove_91 : decode cX8_remove 91 = .ok (.invokevirtual 173, 3) := by decide +kernel
theorem dX8_remove_94 : decode cX8_remove 94 = .ok (.ireturn, 1) := by decide +kernel
theorem dX8_isWithin_0 : decode cX8_isWithin 0 = .ok (.iload_n 1, 1) := by decide +kernel
theorem dX8_isWithin_1 : decode cX8_isWithin 1 = .ok (.istore_n 3, 1) := by decide +kernel
theorem dX8_isWithin_2 : decode cX8_isWithin 2 = .ok (.iload_n 3, 1) := by decide +kernel
theorem dX8_isWithin_3 : decode cX8_isWithin 3 = .ok (.bipush (-4), 2) := by decide +kernel
theorem dX8_isWithin_5 : decode cX8_isWithin 5 = .ok (.if_icmp .eq 18, 3) := by decide +kernel
theorem dX8_isWithin_8 : decode cX8_isWithin 8 = .ok (.iload_n 3, 1) := by decide +kernel
theorem dX8_isWithin_9 : decode cX8_isWithin 9 = .ok (.iload_n 2, 1) := by decide +kernel
theorem dX8_isWithin_10 : decode cX8_isWithin 10 = .ok (.if_icmp .eq 13, 3) := by decide +kernel
theorem dX8_isWithin_13 : decode cX8_isWithin 13 = .ok (.aload_n 0, 1) := by decide +kernel
theorem dX8_isWithin_14 : decode cX8_isWithin 14 = .ok (.iload_n 3, 1) := by decide +kernel
theorem dX8_isWithin_15 : decode cX8_isWithin 15 = .ok (.iconst 1, 1) := by decide +kernel
theorem dX8_isWithin_16 : decode cX8_isWithin 16 = .ok (.invokevirtual 173, 3) := by decide +kernel
theorem dX8_isWithin_19 : decode cX8_isWithin 19 = .ok (.istore_n 3, 1) := by decide +kernel
theorem dX8_isWithin_20 : decode cX8_isWithin 20 = .ok (.goto (-18), 3) := by decide +kernel
theorem dX8_isWithin_23 : decode cX8_isWithin 23 = .ok (.iload_n 3, 1) := by decide +kernel
theorem dX8_isWithin_24 : decode cX8_isWithin 24 = .ok (.iload_n 2, 1) := by decide +kernel
theorem dX8_isWithin_25 : decode cX8_isWithin 25 = .ok (.if_icmp .ne 7, 3) := by decide +kernel
theorem dX8_isWithin_28 : decode cX8_isWithin 28 = .ok (.iconst 1, 1) := by decide +kernel
theorem dX8_isWithin_29 : decode cX8_isWithin 29 = .ok (.goto 4, 3) := by decide +kernel
theorem dX8_isWithin_32 : decode cX8_isWithin 32 = .ok (.iconst 0, 1) := by decide +kernel
theorem dX8_isWithin_33 : decode cX8_isWithin 33 = .ok (.ireturn, 1) := by decide +kernel
theorem dX8_farFromRoot_0 : decode cX8_farFromRoot 0 = .ok (.iconst 0, 1) := by decide +kernel
theorem dX8_farFromRoot_1 : decode cX8_farFromRoot 1 = .ok (.istore_n 2, 1) := by decide +kernel
theorem dX8_farFromRoot_2 : decode cX8_farFromRoot 2 = .ok (.iload_n 1, 1) := by decide +kernel
theorem dX8_farFromRoot_3 : decode cX8_farFromRoot 3 = .ok (.istore_n 3, 1) := by decide +kernel
theorem dX8_farFromRoot_4 : decode cX8_farFromRoot 4 = .ok (.iload_n 3, 1) := by decide +kernel
theorem dX8_farFromRoot_5 : decode cX8_farFromRoot 5 = .ok (.ifCond .eq 16, 3) := by decide +kernel
theorem dX8_farFromRoot_8 : decode cX8_farFromRoot 8 = .ok (.iinc 2 1, 3) := by decide +kernel
theorem dX8_farFromRoot_11 : decode cX8_farFromRoot 11 = .ok (.aload_n 0, 1) := by decide +kernel
theorem dX8_farFromRoot_12 : decode cX8_farFromRoot 12 = .ok (.iload_n 3, 1) := by decide +kernel
theorem dX8_farFromRoot_13 : decode cX8_farFromRoot 13 = .ok (.iconst 1, 1) := by decide +kernel
theorem dX8_farFromRoot_14 : decode cX8_farFromRoot 14 = .ok (.invokevirtual 173, 3) := by decide +kernel
theorem dX8_farFromRoot_17 : decode cX8_farFromRoot 17 = .ok (.istore_n 3, 1) := by decide +kernel
theorem dX8_farFromRoot_18 : decode cX8_farFromRoot 18 = .ok (.goto (-14), 3) := by decide +kernel
theorem dX8_farFromRoot_21 : decode cX8_farFromRoot 21 = .ok (.iload_n 2, 1) := by decide +kernel
theorem dX8_farFromRoot_22 : decode cX8_farFromRoot 22 = .ok (.ireturn, 1) := by decide +kernel
theorem dX8_move_0 : decode cX8_move 0 = .ok (.aload_n 0, 1) := by decide +kernel
theorem dX8_move_1 : decode cX8_move 1 = .ok (.iload_n 1, 1) := by decide +kernel
theorem dX8_move_2 : decode cX8_move 2 = .ok (.invokevirtual 176, 3) := by decide +kernel
theorem dX8_move_5 : decode cX8_move 5 = .ok (.ifCond .eq 23, 3) := by decide +kernel
theorem dX8_move_8 : decode cX8_move 8 = .ok (.aload_n 0, 1) := by decide +kernel
theorem dX8_move_9 : decode cX8_move 9 = .ok (.iload_n 2, 1) := by decide +kernel
theorem dX8_move_10 : decode cX8_move 10 = .ok (.invokevirtual 223, 3) := by decide +kernel
theorem dX8_move_13 : decode cX8_move 13 = .ok (.ifCond .eq 15, 3) := by decide +kernel
theorem dX8_move_16 : decode cX8_move 16 = .ok (.iload_n 3, 1) := by decide +kernel
theorem dX8_move_17 : decode cX8_move 17 = .ok (.i2l, 1) := by decide +kernel
theorem dX8_move_18 : decode cX8_move 18 = .ok (.lconst 0, 1) := by decide +kernel
theorem dX8_move_19 : decode cX8_move 19 = .ok (.ldc2_w 226, 3) := by decide +kernel
theorem dX8_move_22 : decode cX8_move 22 = .ok (.invokestatic 41, 3) := by decide +kernel
theorem dX8_move_25 : decode cX8_move 25 = .ok (.ifCond .ne 5, 3) := by decide +kernel
theorem dX8_move_28 : decode cX8_move 28 = .ok (.iconst (-1), 1) := by decide +kernel
theorem dX8_move_29 : decode cX8_move 29 = .ok (.ireturn, 1) := by decide +kernel
theorem dX8_move_30 : decode cX8_move 30 = .ok (.aload_n 0, 1) := by decide +kernel
theorem dX8_move_31 : decode cX8_move 31 = .ok (.iload_n 2, 1) := by decide +kernel
theorem dX8_move_32 : decode cX8_move 32 = .ok (.iload_n 3, 1) := by decide +kernel
theorem dX8_move_33 : decode cX8_move 33 = .ok (.invokevirtual 103, 3) := by decide +kernel
theorem dX8_move_36 : decode cX8_move 36 = .ok (.istore 4, 2) := by decide +kernel
theorem dX8_move_38 : decode cX8_move 38 = .ok (.aload_n 0, 1) := by decide +kernel
theorem dX8_move_39 : decode cX8_move 39 = .ok (.invokevirtual 240, 3) := by decide +kernel
theorem dX8_move_42 : decode cX8_move 42 = .ok (.ifCond .ne 29, 3) := by decide +kernel
theorem dX8_move_45 : decode cX8_move 45 = .ok (.iload_n 1, 1) := by decide +kernel
theorem dX8_move_46 : decode cX8_move 46 = .ok (.ifCond .eq 25, 3) := by decide +kernel
theorem dX8_move_49 : decode cX8_move 49 = .ok (.aload_n 0, 1) := by decide +kernel
theorem dX8_move_50 : decode cX8_move 50 = .ok (.iload_n 2, 1) := by decide +kernel
theorem dX8_move_51 : decode cX8_move 51 = .ok (.iload_n 1, 1) := by decide +kernel
theorem dX8_move_52 : decode cX8_move 52 = .ok (.invokevirtual 281, 3) := by decide +kernel
theorem dX8_move_55 : decode cX8_move 55 = .ok (.ifCond .ne 16, 3) := by decide +kernel
theorem dX8_move_58 : decode cX8_move 58 = .ok (.iload 4, 2) := by decide +kernel
theorem dX8_move_60 : decode cX8_move 60 = .ok (.bipush (-4), 2) := by decide +kernel
theorem dX8_move_62 : decode cX8_move 62 = .ok (.if_icmp .eq 12, 3) := by decide +kernel
theorem dX8_move_65 : decode cX8_move 65 = .ok (.iload 4, 2) := by decide +kernel
theorem dX8_move_67 : decode cX8_move 67 = .ok (.iload_n 1, 1) := by decide +kernel
theorem dX8_move_68 : decode cX8_move 68 = .ok (.if_icmp .eq 6, 3) := by decide +kernel
theorem dX8_move_71 : decode cX8_move 71 = .ok (.bipush (-2), 2) := by decide +kernel
theorem dX8_move_73 : decode cX8_move 73 = .ok (.ireturn, 1) := by decide +kernel
theorem dX8_move_74 : decode cX8_move 74 = .ok (.aload_n 0, 1) := by decide +kernel
theorem dX8_move_75 : decode cX8_move 75 = .ok (.iload_n 1, 1) := by decide +kernel
theorem dX8_move_76 : decode cX8_move 76 = .ok (.iconst 1, 1) := by decide +kernel
theorem dX8_move_77 : decode cX8_move 77 = .ok (.iload_n 2, 1) := by decide +kernel
theorem dX8_move_78 : decode cX8_move 78 = .ok (.invokevirtual 236, 3) := by decide +kernel
theorem dX8_move_81 : decode cX8_move 81 = .ok (.aload_n 0, 1) := by decide +kernel
theorem dX8_move_82 : decode cX8_move 82 = .ok (.iload_n 1, 1) := by decide +kernel
theorem dX8_move_83 : decode cX8_move 83 = .ok (.iconst 2, 1) := by decide +kernel
theorem dX8_move_84 : decode cX8_move 84 = .ok (.iload_n 3, 1) := by decide +kernel
theorem dX8_move_85 : decode cX8_move 85 = .ok (.invokevirtual 236, 3) := by decide +kernel
theorem dX8_move_88 : decode cX8_move 88 = .ok (.aload_n 0, 1) := by decide +kernel
theorem dX8_move_89 : decode cX8_move 89 = .ok (.iload_n 1, 1) := by decide +kernel
theorem dX8_move_90 : decode cX8_move 90 = .ok (.invokevirtual 284, 3) := by decide +kernel
theorem dX8_move_93 : decode cX8_move 93 = .ok (.ireturn, 1) := by decide +kernel
theorem dX8_isRowFree_0 : decode cX8_isRowFree 0 = .ok (.iconst 1, 1) := by decide +kernel
theorem dX8_isRowFree_1 : decode cX8_isRowFree 1 = .ok (.istore 4, 2) := by decide +kernel
theorem dX8_isRowFree_3 : decode cX8_isRowFree 3 = .ok (.iconst 0, 1) := by decide +kernel
theorem dX8_isRowFree_4 : decode cX8_isRowFree 4 = .ok (.istore 5, 2) := by decide +kernel
theorem dX8_isRowFree_6 : decode cX8_isRowFree 6 = .ok (.iload 5, 2) := by decide +kernel
theorem dX8_isRowFree_8 : decode cX8_isRowFree 8 = .ok (.iload_n 3, 1) := by decide +kernel
theorem dX8_isRowFree_9 : decode cX8_isRowFree 9 = .ok (.if_icmp .ge 65, 3) := by decide +kernel
theorem dX8_isRowFree_12 : decode cX8_isRowFree 12 = .ok (.iload_n 2, 1) := by decide +kernel
theorem dX8_isRowFree_13 : decode cX8_isRowFree 13 = .ok (.iload 5, 2) := by decide +kernel
theorem dX8_isRowFree_15 : decode cX8_isRowFree 15 = .ok (.iconst 1, 1) := by decide +kernel
theorem dX8_isRowFree_16 : decode cX8_isRowFree 16 = .ok (.aload_n 0, 1) := by decide +kernel
theorem dX8_isRowFree_17 : decode cX8_isRowFree 17 = .ok (.getfield 7, 3) := by decide +kernel
theorem dX8_isRowFree_20 : decode cX8_isRowFree 20 = .ok (.iconst 3, 1) := by decide +kernel
theorem dX8_isRowFree_21 : decode cX8_isRowFree 21 = .ok (.iaload, 1) := by decide +kernel
theorem dX8_isRowFree_22 : decode cX8_isRowFree 22 = .ok (.iadd, 1) := by decide +kernel
theorem dX8_isRowFree_23 : decode cX8_isRowFree 23 = .ok (.imul, 1) := by decide +kernel
theorem dX8_isRowFree_24 : decode cX8_isRowFree 24 = .ok (.iadd, 1) := by decide +kernel
theorem dX8_isRowFree_25 : decode cX8_isRowFree 25 = .ok (.istore 6, 2) := by decide +kernel
theorem dX8_isRowFree_27 : decode cX8_isRowFree 27 = .ok (.iload 4, 2) := by decide +kernel
theorem dX8_isRowFree_29 : decode cX8_isRowFree 29 = .ok (.ifCond .eq 36, 3) := by decide +kernel
theorem dX8_isRowFree_32 : decode cX8_isRowFree 32 = .ok (.iload 6, 2) := by decide +kernel
theorem dX8_isRowFree_34 : decode cX8_isRowFree 34 = .ok (.aload_n 0, 1) := by decide +kernel
theorem dX8_isRowFree_35 : decode cX8_isRowFree 35 = .ok (.getfield 7, 3) := by decide +kernel
theorem dX8_isRowFree_38 : decode cX8_isRowFree 38 = .ok (.iconst 1, 1) := by decide +kernel
theorem dX8_isRowFree_39 : decode cX8_isRowFree 39 = .ok (.iaload, 1) := by decide +kernel
theorem dX8_isRowFree_40 : decode cX8_isRowFree 40 = .ok (.if_icmp .ge 25, 3) := by decide +kernel
theorem dX8_isRowFree_43 : decode cX8_isRowFree 43 = .ok (.aload_n 0, 1) := by decide +kernel
theorem dX8_isRowFree_44 : decode cX8_isRowFree 44 = .ok (.aload_n 0, 1) := by decide +kernel
theorem dX8_isRowFree_45 : decode cX8_isRowFree 45 = .ok (.getfield 7, 3) := by decide +kernel
theorem dX8_isRowFree_48 : decode cX8_isRowFree 48 = .ok (.iconst 1, 1) := by decide +kernel
theorem dX8_isRowFree_49 : decode cX8_isRowFree 49 = .ok (.iaload, 1) := by decide +kernel
theorem dX8_isRowFree_50 : decode cX8_isRowFree 50 = .ok (.iload_n 1, 1) := by decide +kernel
theorem dX8_isRowFree_51 : decode cX8_isRowFree 51 = .ok (.imul, 1) := by decide +kernel
theorem dX8_isRowFree_52 : decode cX8_isRowFree 52 = .ok (.iload 6, 2) := by decide +kernel
theorem dX8_isRowFree_54 : decode cX8_isRowFree 54 = .ok (.iadd, 1) := by decide +kernel
theorem dX8_isRowFree_55 : decode cX8_isRowFree 55 = .ok (.invokevirtual 149, 3) := by decide +kernel
theorem dX8_isRowFree_58 : decode cX8_isRowFree 58 = .ok (.ifCond .eq 7, 3) := by decide +kernel
theorem dX8_isRowFree_61 : decode cX8_isRowFree 61 = .ok (.iconst 1, 1) := by decide +kernel
theorem dX8_isRowFree_62 : decode cX8_isRowFree 62 = .ok (.goto 4, 3) := by decide +kernel
theorem dX8_isRowFree_65 : decode cX8_isRowFree 65 = .ok (.iconst 0, 1) := by decide +kernel
theorem dX8_isRowFree_66 : decode cX8_isRowFree 66 = .ok (.istore 4, 2) := by decide +kernel
theorem dX8_isRowFree_68 : decode cX8_isRowFree 68 = .ok (.iinc 5 1, 3) := by decide +kernel
theorem dX8_isRowFree_71 : decode cX8_isRowFree 71 = .ok (.goto (-65), 3) := by decide +kernel
theorem dX8_isRowFree_74 : decode cX8_isRowFree 74 = .ok (.iload 4, 2) := by decide +kernel
theorem dX8_isRowFree_76 : decode cX8_isRowFree 76 = .ok (.ireturn, 1) := by decide +kernel
theorem dX8_gathers_0 : decode cX8_gathers 0 = .ok (.iconst 0, 1) := by decide +kernel
theorem dX8_gathers_1 : decode cX8_gathers 1 = .ok (.istore 4, 2) := by decide +kernel
theorem dX8_gathers_3 : decode cX8_gathers 3 = .ok (.iload 4, 2) := by decide +kernel
theorem dX8_gathers_5 : decode cX8_gathers 5 = .ok (.aload_n 0, 1) := by decide +kernel
theorem dX8_gathers_6 : decode cX8_gathers 6 = .ok (.iload_n 1, 1) := by decide +kernel
theorem dX8_gathers_7 : decode cX8_gathers 7 = .ok (.invokevirtual 194, 3) := by decide +kernel
theorem dX8_gathers_10 : decode cX8_gathers 10 = .ok (.if_icmp .ge 26, 3) := by decide +kernel
theorem dX8_gathers_13 : decode cX8_gathers 13 = .ok (.aload_n 0, 1) := by decide +kernel
theorem dX8_gathers_14 : decode cX8_gathers 14 = .ok (.iconst 4, 1) := by decide +kernel
theorem dX8_gathers_15 : decode cX8_gathers 15 = .ok (.aload_n 0, 1) := by decide +kernel
theorem dX8_gathers_16 : decode cX8_gathers 16 = .ok (.iload_n 1, 1) := by decide +kernel
theorem dX8_gathers_17 : decode cX8_gathers 17 = .ok (.iconst 5, 1) := by decide +kernel
theorem dX8_gathers_18 : decode cX8_gathers 18 = .ok (.iload 4, 2) := by decide +kernel
theorem dX8_gathers_20 : decode cX8_gathers 20 = .ok (.iadd, 1) := by decide +kernel
theorem dX8_gathers_21 : decode cX8_gathers 21 = .ok (.invokevirtual 173, 3) := by decide +kernel
theorem dX8_gathers_24 : decode cX8_gathers 24 = .ok (.imul, 1) := by decide +kernel
theorem dX8_gathers_25 : decode cX8_gathers 25 = .ok (.iconst 4, 1) := by decide +kernel
theorem dX8_gathers_26 : decode cX8_gathers 26 = .ok (.iconst 1, 1) := by decide +kernel
theorem dX8_gathers_27 : decode cX8_gathers 27 = .ok (.invokevirtual 253, 3) := by decide +kernel
theorem dX8_gathers_30 : decode cX8_gathers 30 = .ok (.iinc 4 1, 3) := by decide +kernel
theorem dX8_gathers_33 : decode cX8_gathers 33 = .ok (.goto (-30), 3) := by decide +kernel
theorem dX8_gathers_36 : decode cX8_gathers 36 = .ok (.iconst 0, 1) := by decide +kernel
theorem dX8_gathers_37 : decode cX8_gathers 37 = .ok (.istore 4, 2) := by decide +kernel
theorem dX8_gathers_39 : decode cX8_gathers 39 = .ok (.iload 4, 2) := by decide +kernel
theorem dX8_gathers_41 : decode cX8_gathers 41 = .ok (.aload_n 0, 1) := by decide +kernel
theorem dX8_gathers_42 : decode cX8_gathers 42 = .ok (.iload_n 1, 1) := by decide +kernel
theorem dX8_gathers_43 : decode cX8_gathers 43 = .ok (.invokevirtual 194, 3) := by decide +kernel
theorem dX8_gathers_46 : decode cX8_gathers 46 = .ok (.if_icmp .ge 54, 3) := by decide +kernel
theorem dX8_gathers_49 : decode cX8_gathers 49 = .ok (.aload_n 0, 1) := by decide +kernel
theorem dX8_gathers_50 : decode cX8_gathers 50 = .ok (.getfield 7, 3) := by decide +kernel
theorem dX8_gathers_53 : decode cX8_gathers 53 = .ok (.iconst 1, 1) := by decide +kernel
theorem dX8_gathers_54 : decode cX8_gathers 54 = .ok (.iaload, 1) := by decide +kernel
theorem dX8_gathers_55 : decode cX8_gathers 55 = .ok (.iload_n 2, 1) := by decide +kernel
theorem dX8_gathers_56 : decode cX8_gathers 56 = .ok (.imul, 1) := by decide +kernel
theorem dX8_gathers_57 : decode cX8_gathers 57 = .ok (.iload_n 3, 1) := by decide +kernel
theorem dX8_gathers_58 : decode cX8_gathers 58 = .ok (.iadd, 1) := by decide +kernel
theorem dX8_gathers_59 : decode cX8_gathers 59 = .ok (.iload 4, 2) := by decide +kernel
theorem dX8_gathers_61 : decode cX8_gathers 61 = .ok (.iconst 1, 1) := by decide +kernel
theorem dX8_gathers_62 : decode cX8_gathers 62 = .ok (.aload_n 0, 1) := by decide +kernel
theorem dX8_gathers_63 : decode cX8_gathers 63 = .ok (.getfield 7, 3) := by decide +kernel
theorem dX8_gathers_66 : decode cX8_gathers 66 = .ok (.iconst 3, 1) := by decide +kernel
theorem dX8_gathers_67 : decode cX8_gathers 67 = .ok (.iaload, 1) := by decide +kernel
theorem dX8_gathers_68 : decode cX8_gathers 68 = .ok (.iadd, 1) := by decide +kernel
theorem dX8_gathers_69 : decode cX8_gathers 69 = .ok (.imul, 1) := by decide +kernel
theorem dX8_gathers_70 : decode cX8_gathers 70 = .ok (.iadd, 1) := by decide +kernel
theorem dX8_gathers_71 : decode cX8_gathers 71 = .ok (.istore 5, 2) := by decide +kernel
theorem dX8_gathers_73 : decode cX8_gathers 73 = .ok (.aload_n 0, 1) := by decide +kernel
theorem dX8_gathers_74 : decode cX8_gathers 74 = .ok (.iload_n 1, 1) := by decide +kernel
theorem dX8_gathers_75 : decode cX8_gathers 75 = .ok (.iconst 5, 1) := by decide +kernel
theorem dX8_gathers_76 : decode cX8_gathers 76 = .ok (.iload 4, 2) := by decide +kernel
theorem dX8_gathers_78 : decode cX8_gathers 78 = .ok (.iadd, 1) := by decide +kernel
theorem dX8_gathers_79 : decode cX8_gathers 79 = .ok (.iload 5, 2) := by decide +kernel
theorem dX8_gathers_81 : decode cX8_gathers 81 = .ok (.invokevirtual 236, 3) := by decide +kernel
theorem dX8_gathers_84 : decode cX8_gathers 84 = .ok (.aload_n 0, 1) := by decide +kernel
theorem dX8_gathers_85 : decode cX8_gathers 85 = .ok (.iconst 4, 1) := by decide +kernel
theorem dX8_gathers_86 : decode cX8_gathers 86 = .ok (.iload 5, 2) := by decide +kernel
theorem dX8_gathers_88 : decode cX8_gathers 88 = .ok (.imul, 1) := by decide +kernel
theorem dX8_gathers_89 : decode cX8_gathers 89 = .ok (.iconst 4, 1) := by decide +kernel
theorem dX8_gathers_90 : decode cX8_gathers 90 = .ok (.iconst 0, 1) := by decide +kernel
theorem dX8_gathers_91 : decode cX8_gathers 91 = .ok (.invokevirtual 253, 3) := by decide +kernel
theorem dX8_gathers_94 : decode cX8_gathers 94 = .ok (.iinc 4 1, 3) := by decide +kernel
theorem dX8_gathers_97 : decode cX8_gathers 97 = .ok (.goto (-58), 3) := by decide +kernel
theorem dX8_gathers_100 : decode cX8_gathers 100 = .ok (.aload_n 0, 1) := by decide +kernel
theorem dX8_gathers_101 : decode cX8_gathers 101 = .ok (.getfield 7, 3) := by decide +kernel
theorem dX8_gathers_104 : decode cX8_gathers 104 = .ok (.bipush 7, 2) := by decide +kernel
theorem dX8_gathers_106 : decode cX8_gathers 106 = .ok (.dup2, 1) := by decide +kernel
theorem dX8_gathers_107 : decode cX8_gathers 107 = .ok (.iaload, 1) := by decide +kernel
theorem dX8_gathers_108 : decode cX8_gathers 108 = .ok (.aload_n 0, 1) := by decide +kernel
theorem dX8_gathers_109 : decode cX8_gathers 109 = .ok (.iload_n 1, 1) := by decide +kernel
theorem dX8_gathers_110 : decode cX8_gathers 110 = .ok (.invokevirtual 194, 3) := by decide +kernel
theorem dX8_gathers_113 : decode cX8_gathers 113 = .ok (.iadd, 1) := by decide +kernel
theorem dX8_gathers_114 : decode cX8_gathers 114 = .ok (.iastore, 1) := by decide +kernel
theorem dX8_gathers_115 : decode cX8_gathers 115 = .ok (.return_, 1) := by decide +kernel
theorem dX8_gather_0 : decode cX8_gather 0 = .ok (.aload_n 0, 1) := by decide +kernel
theorem dX8_gather_1 : decode cX8_gather 1 = .ok (.iload_n 1, 1) := by decide +kernel
theorem dX8_gather_2 : decode cX8_gather 2 = .ok (.invokevirtual 273, 3) := by decide +kernel
theorem dX8_gather_5 : decode cX8_gather 5 = .ok (.ifCond .ne 5, 3) := by decide +kernel
theorem dX8_gather_8 : decode cX8_gather 8 = .ok (.iconst (-1), 1) := by decide +kernel
theorem dX8_gather_9 : decode cX8_gather 9 = .ok (.ireturn, 1) := by decide +kernel
theorem dX8_gather_10 : decode cX8_gather 10 = .ok (.aload_n 0, 1) := by decide +kernel
theorem dX8_gather_11 : decode cX8_gather 11 = .ok (.invokevirtual 240, 3) := by decide +kernel
theorem dX8_gather_14 : decode cX8_gather 14 = .ok (.ifCond .ne 12, 3) := by decide +kernel
theorem dX8_gather_17 : decode cX8_gather 17 = .ok (.aload_n 0, 1) := by decide +kernel
theorem dX8_gather_18 : decode cX8_gather 18 = .ok (.iload_n 1, 1) := by decide +kernel
theorem dX8_gather_19 : decode cX8_gather 19 = .ok (.invokevirtual 194, 3) := by decide +kernel
theorem dX8_gather_22 : decode cX8_gather 22 = .ok (.iconst 2, 1) := by decide +kernel
theorem dX8_gather_23 : decode cX8_gather 23 = .ok (.if_icmp .ge 6, 3) := by decide +kernel
theorem dX8_gather_26 : decode cX8_gather 26 = .ok (.bipush (-2), 2) := by decide +kernel
theorem dX8_gather_28 : decode cX8_gather 28 = .ok (.ireturn, 1) := by decide +kernel
theorem dX8_gather_29 : decode cX8_gather 29 = .ok (.iconst 0, 1) := by decide +kernel
theorem dX8_gather_30 : decode cX8_gather 30 = .ok (.istore_n 2, 1) := by decide +kernel
theorem dX8_gather_31 : decode cX8_gather 31 = .ok (.iload_n 2, 1) := by decide +kernel
theorem dX8_gather_32 : decode cX8_gather 32 = .ok (.aload_n 0, 1) := by decide +kernel
theorem dX8_gather_33 : decode cX8_gather 33 = .ok (.getfield 7, 3) := by decide +kernel
theorem dX8_gather_36 : decode cX8_gather 36 = .ok (.iconst 0, 1) := by decide +kernel
theorem dX8_gather_37 : decode cX8_gather 37 = .ok (.iaload, 1) := by decide +kernel
theorem dX8_gather_38 : decode cX8_gather 38 = .ok (.if_icmp .ge 72, 3) := by decide +kernel
theorem dX8_gather_41 : decode cX8_gather 41 = .ok (.aload_n 0, 1) := by decide +kernel
theorem dX8_gather_42 : decode cX8_gather 42 = .ok (.iload_n 1, 1) := by decide +kernel
theorem dX8_gather_43 : decode cX8_gather 43 = .ok (.aload_n 0, 1) := by decide +kernel
theorem dX8_gather_44 : decode cX8_gather 44 = .ok (.getfield 7, 3) := by decide +kernel
theorem dX8_gather_47 : decode cX8_gather 47 = .ok (.iconst 2, 1) := by decide +kernel
theorem dX8_gather_48 : decode cX8_gather 48 = .ok (.iaload, 1) := by decide +kernel
theorem dX8_gather_49 : decode cX8_gather 49 = .ok (.idiv, 1) := by decide +kernel
theorem dX8_gather_50 : decode cX8_gather 50 = .ok (.iload_n 2, 1) := by decide +kernel
theorem dX8_gather_51 : decode cX8_gather 51 = .ok (.invokevirtual 161, 3) := by decide +kernel
theorem dX8_gather_54 : decode cX8_gather 54 = .ok (.istore_n 3, 1) := by decide +kernel
theorem dX8_gather_55 : decode cX8_gather 55 = .ok (.iconst 0, 1) := by decide +kernel
theorem dX8_gather_56 : decode cX8_gather 56 = .ok (.istore 4, 2) := by decide +kernel
theorem dX8_gather_58 : decode cX8_gather 58 = .ok (.iload 4, 2) := by decide +kernel
theorem dX8_gather_60 : decode cX8_gather 60 = .ok (.aload_n 0, 1) := by decide +kernel
theorem dX8_gather_61 : decode cX8_gather 61 = .ok (.getfield 7, 3) := by decide +kernel
theorem dX8_gather_64 : decode cX8_gather 64 = .ok (.iconst 1, 1) := by decide +kernel
theorem dX8_gather_65 : decode cX8_gather 65 = .ok (.iaload, 1) := by decide +kernel
theorem dX8_gather_66 : decode cX8_gather 66 = .ok (.if_icmp .ge 38, 3) := by decide +kernel
theorem dX8_gather_69 : decode cX8_gather 69 = .ok (.aload_n 0, 1) := by decide +kernel
theorem dX8_gather_70 : decode cX8_gather 70 = .ok (.iload_n 3, 1) := by decide +kernel
theorem dX8_gather_71 : decode cX8_gather 71 = .ok (.iload 4, 2) := by decide +kernel
theorem dX8_gather_73 : decode cX8_gather 73 = .ok (.aload_n 0, 1) := by decide +kernel
theorem dX8_gather_74 : decode cX8_gather 74 = .ok (.iload_n 1, 1) := by decide +kernel
theorem dX8_gather_75 : decode cX8_gather 75 = .ok (.invokevirtual 194, 3) := by decide +kernel
theorem dX8_gather_78 : decode cX8_gather 78 = .ok (.invokevirtual 287, 3) := by decide +kernel
theorem dX8_gather_81 : decode cX8_gather 81 = .ok (.ifCond .eq 17, 3) := by decide +kernel
theorem dX8_gather_84 : decode cX8_gather 84 = .ok (.aload_n 0, 1) := by decide +kernel
theorem dX8_gather_85 : decode cX8_gather 85 = .ok (.iload_n 1, 1) := by decide +kernel
theorem dX8_gather_86 : decode cX8_gather 86 = .ok (.iload_n 3, 1) := by decide +kernel
theorem dX8_gather_87 : decode cX8_gather 87 = .ok (.iload 4, 2) := by decide +kernel
theorem dX8_gather_89 : decode cX8_gather 89 = .ok (.invokevirtual 290, 3) := by decide +kernel
theorem dX8_gather_92 : decode cX8_gather 92 = .ok (.aload_n 0, 1) := by decide +kernel
theorem dX8_gather_93 : decode cX8_gather 93 = .ok (.iload_n 1, 1) := by decide +kernel
theorem dX8_gather_94 : decode cX8_gather 94 = .ok (.invokevirtual 203, 3) := by decide +kernel
theorem dX8_gather_97 : decode cX8_gather 97 = .ok (.ireturn, 1) := by decide +kernel
theorem dX8_gather_98 : decode cX8_gather 98 = .ok (.iinc 4 1, 3) := by decide +kernel
theorem dX8_gather_101 : decode cX8_gather 101 = .ok (.goto (-43), 3) := by decide +kernel
theorem dX8_gather_104 : decode cX8_gather 104 = .ok (.iinc 2 1, 3) := by decide +kernel
theorem dX8_gather_107 : decode cX8_gather 107 = .ok (.goto (-76), 3) := by decide +kernel
theorem dX8_gather_110 : decode cX8_gather 110 = .ok (.bipush (-3), 2) := by decide +kernel
theorem dX8_gather_112 : decode cX8_gather 112 = .ok (.ireturn, 1) := by decide +kernel
theorem dX8_gets_0 : decode cX8_gets 0 = .ok (.aload_n 0, 1) := by decide +kernel
theorem dX8_gets_1 : decode cX8_gets 1 = .ok (.aload_n 0, 1) := by decide +kernel
theorem dX8_gets_2 : decode cX8_gets 2 = .ok (.getfield 293, 3) := by decide +kernel
theorem dX8_gets_5 : decode cX8_gets 5 = .ok (.ldc_w 296, 3) := by decide +kernel
theorem dX8_gets_8 : decode cX8_gets 8 = .ok (.imul, 1) := by decide +kernel
theorem dX8_gets_9 : decode cX8_gets 9 = .ok (.sipush 12345, 3) := by decide +kernel
theorem dX8_gets_12 : decode cX8_gets 12 = .ok (.iadd, 1) := by decide +kernel
theorem dX8_gets_13 : decode cX8_gets 13 = .ok (.putfield 293, 3) := by decide +kernel
theorem dX8_gets_16 : decode cX8_gets 16 = .ok (.aload_n 0, 1) := by decide +kernel
theorem dX8_gets_17 : decode cX8_gets 17 = .ok (.getfield 293, 3) := by decide +kernel
theorem dX8_gets_20 : decode cX8_gets 20 = .ok (.bipush 16, 2) := by decide +kernel
theorem dX8_gets_22 : decode cX8_gets 22 = .ok (.ishr, 1) := by decide +kernel
theorem dX8_gets_23 : decode cX8_gets 23 = .ok (.sipush 32767, 3) := by decide +kernel
theorem dX8_gets_26 : decode cX8_gets 26 = .ok (.iand, 1) := by decide +kernel
theorem dX8_gets_27 : decode cX8_gets 27 = .ok (.ireturn, 1) := by decide +kernel
theorem dX8_deed_0 : decode cX8_deed 0 = .ok (.iload_n 1, 1) := by decide +kernel
theorem dX8_deed_1 : decode cX8_deed 1 = .ok (.tableswitch 95 0 4 #[35, 46, 46, 82, 82], 35) := by decide +kernel
theorem dX8_deed_36 : decode cX8_deed 36 = .ok (.aload_n 0, 1) := by decide +kernel
theorem dX8_deed_37 : decode cX8_deed 37 = .ok (.iload_n 2, 1) := by decide +kernel
theorem dX8_deed_38 : decode cX8_deed 38 = .ok (.iload_n 3, 1) := by decide +kernel
theorem dX8_deed_39 : decode cX8_deed 39 = .ok (.bipush 10, 2) := by decide +kernel
theorem dX8_deed_41 : decode cX8_deed 41 = .ok (.irem, 1) := by decide +kernel
theorem dX8_deed_42 : decode cX8_deed 42 = .ok (.iconst 1, 1) := by decide +kernel
theorem dX8_deed_43 : decode cX8_deed 43 = .ok (.invokevirtual 297, 3) := by decide +kernel
theorem dX8_deed_46 : decode cX8_deed 46 = .ok (.ireturn, 1) := by decide +kernel
theorem dX8_deed_47 : decode cX8_deed 47 = .ok (.aload_n 0, 1) := by decide +kernel
theorem dX8_deed_48 : decode cX8_deed 48 = .ok (.iload_n 2, 1) := by decide +kernel
theorem dX8_deed_49 : decode cX8_deed 49 = .ok (.iload_n 3, 1) := by decide +kernel
theorem dX8_deed_50 : decode cX8_deed 50 = .ok (.bipush 10, 2) := by decide +kernel
theorem dX8_deed_52 : decode cX8_deed 52 = .ok (.irem, 1) := by decide +kernel
theorem dX8_deed_53 : decode cX8_deed 53 = .ok (.iconst 2, 1) := by decide +kernel
theorem dX8_deed_54 : decode cX8_deed 54 = .ok (.invokevirtual 297, 3) := by decide +kernel
theorem dX8_deed_57 : decode cX8_deed 57 = .ok (.istore 5, 2) := by decide +kernel
theorem dX8_deed_59 : decode cX8_deed 59 = .ok (.iload 5, 2) := by decide +kernel
theorem dX8_deed_61 : decode cX8_deed 61 = .ok (.ifCond .ge 8, 3) := by decide +kernel
theorem dX8_deed_64 : decode cX8_deed 64 = .ok (.iload 5, 2) := by decide +kernel
theorem dX8_deed_66 : decode cX8_deed 66 = .ok (.goto 16, 3) := by decide +kernel
theorem dX8_deed_69 : decode cX8_deed 69 = .ok (.aload_n 0, 1) := by decide +kernel
theorem dX8_deed_70 : decode cX8_deed 70 = .ok (.iload 5, 2) := by decide +kernel
theorem dX8_deed_72 : decode cX8_deed 72 = .ok (.iload 4, 2) := by decide +kernel
theorem dX8_deed_74 : decode cX8_deed 74 = .ok (.bipush 9, 2) := by decide +kernel
theorem dX8_deed_76 : decode cX8_deed 76 = .ok (.irem, 1) := by decide +kernel
theorem dX8_deed_77 : decode cX8_deed 77 = .ok (.iconst 1, 1) := by decide +kernel
theorem dX8_deed_78 : decode cX8_deed 78 = .ok (.iadd, 1) := by decide +kernel
theorem dX8_deed_79 : decode cX8_deed 79 = .ok (.invokevirtual 300, 3) := by decide +kernel
theorem dX8_deed_82 : decode cX8_deed 82 = .ok (.ireturn, 1) := by decide +kernel
theorem dX8_deed_83 : decode cX8_deed 83 = .ok (.aload_n 0, 1) := by decide +kernel
theorem dX8_deed_84 : decode cX8_deed 84 = .ok (.iload_n 2, 1) := by decide +kernel
theorem dX8_deed_85 : decode cX8_deed 85 = .ok (.iload 4, 2) := by decide +kernel
theorem dX8_deed_87 : decode cX8_deed 87 = .ok (.bipush 9, 2) := by decide +kernel
theorem dX8_deed_89 : decode cX8_deed 89 = .ok (.irem, 1) := by decide +kernel
theorem dX8_deed_90 : decode cX8_deed 90 = .ok (.iconst 1, 1) := by decide +kernel
theorem dX8_deed_91 : decode cX8_deed 91 = .ok (.iadd, 1) := by decide +kernel
theorem dX8_deed_92 : decode cX8_deed 92 = .ok (.invokevirtual 300, 3) := by decide +kernel
theorem dX8_deed_95 : decode cX8_deed 95 = .ok (.ireturn, 1) := by decide +kernel
theorem dX8_deed_96 : decode cX8_deed 96 = .ok (.aload_n 0, 1) := by decide +kernel
theorem dX8_deed_97 : decode cX8_deed 97 = .ok (.iload_n 2, 1) := by decide +kernel
theorem dX8_deed_98 : decode cX8_deed 98 = .ok (.invokevirtual 303, 3) := by decide +kernel
theorem dX8_deed_101 : decode cX8_deed 101 = .ok (.ireturn, 1) := by decide +kernel
theorem dX8_draw_0 : decode cX8_draw 0 = .ok (.iload_n 2, 1) := by decide +kernel
theorem dX8_draw_1 : decode cX8_draw 1 = .ok (.i2l, 1) := by decide +kernel
theorem dX8_draw_2 : decode cX8_draw 2 = .ok (.lconst 1, 1) := by decide +kernel
theorem dX8_draw_3 : decode cX8_draw 3 = .ok (.ldc2_w 306, 3) := by decide +kernel
theorem dX8_draw_6 : decode cX8_draw 6 = .ok (.invokestatic 41, 3) := by decide +kernel
theorem dX8_draw_9 : decode cX8_draw 9 = .ok (.ifCond .ne 5, 3) := by decide +kernel
theorem dX8_draw_12 : decode cX8_draw 12 = .ok (.iconst (-1), 1) := by decide +kernel
theorem dX8_draw_13 : decode cX8_draw 13 = .ok (.ireturn, 1) := by decide +kernel
theorem dX8_draw_14 : decode cX8_draw 14 = .ok (.aload_n 0, 1) := by decide +kernel
theorem dX8_draw_15 : decode cX8_draw 15 = .ok (.invokevirtual 240, 3) := by decide +kernel
theorem dX8_draw_18 : decode cX8_draw 18 = .ok (.ifCond .eq 6, 3) := by decide +kernel
theorem dX8_draw_21 : decode cX8_draw 21 = .ok (.bipush (-2), 2) := by decide +kernel
theorem dX8_draw_23 : decode cX8_draw 23 = .ok (.ireturn, 1) := by decide +kernel
theorem dX8_draw_24 : decode cX8_draw 24 = .ok (.aload_n 0, 1) := by decide +kernel
theorem dX8_draw_25 : decode cX8_draw 25 = .ok (.iload_n 1, 1) := by decide +kernel
theorem dX8_draw_26 : decode cX8_draw 26 = .ok (.putfield 293, 3) := by decide +kernel
theorem dX8_draw_29 : decode cX8_draw 29 = .ok (.iconst 0, 1) := by decide +kernel
theorem dX8_draw_30 : decode cX8_draw 30 = .ok (.istore_n 3, 1) := by decide +kernel
theorem dX8_draw_31 : decode cX8_draw 31 = .ok (.iconst 0, 1) := by decide +kernel
theorem dX8_draw_32 : decode cX8_draw 32 = .ok (.istore 4, 2) := by decide +kernel
theorem dX8_draw_34 : decode cX8_draw 34 = .ok (.iload 4, 2) := by decide +kernel
theorem dX8_draw_36 : decode cX8_draw 36 = .ok (.iload_n 2, 1) := by decide +kernel
theorem dX8_draw_37 : decode cX8_draw 37 = .ok (.if_icmp .ge 67, 3) := by decide +kernel
theorem dX8_draw_40 : decode cX8_draw 40 = .ok (.aload_n 0, 1) := by decide +kernel
theorem dX8_draw_41 : decode cX8_draw 41 = .ok (.invokevirtual 308, 3) := by decide +kernel
theorem dX8_draw_44 : decode cX8_draw 44 = .ok (.bipush 6, 2) := by decide +kernel
theorem dX8_draw_46 : decode cX8_draw 46 = .ok (.irem, 1) := by decide +kernel
theorem dX8_draw_47 : decode cX8_draw 47 = .ok (.istore 5, 2) := by decide +kernel
theorem dX8_draw_49 : decode cX8_draw 49 = .ok (.aload_n 0, 1) := by decide +kernel
theorem dX8_draw_50 : decode cX8_draw 50 = .ok (.invokevirtual 308, 3) := by decide +kernel
theorem dX8_draw_53 : decode cX8_draw 53 = .ok (.aload_n 0, 1) := by decide +kernel
theorem dX8_draw_54 : decode cX8_draw 54 = .ok (.invokevirtual 167, 3) := by decide +kernel
theorem dX8_draw_57 : decode cX8_draw 57 = .ok (.irem, 1) := by decide +kernel
theorem dX8_draw_58 : decode cX8_draw 58 = .ok (.istore 6, 2) := by decide +kernel
theorem dX8_draw_60 : decode cX8_draw 60 = .ok (.aload_n 0, 1) := by decide +kernel
theorem dX8_draw_61 : decode cX8_draw 61 = .ok (.invokevirtual 308, 3) := by decide +kernel
theorem dX8_draw_64 : decode cX8_draw 64 = .ok (.istore 7, 2) := by decide +kernel
theorem dX8_draw_66 : decode cX8_draw 66 = .ok (.aload_n 0, 1) := by decide +kernel
theorem dX8_draw_67 : decode cX8_draw 67 = .ok (.invokevirtual 308, 3) := by decide +kernel
theorem dX8_draw_70 : decode cX8_draw 70 = .ok (.istore 8, 2) := by decide +kernel
theorem dX8_draw_72 : decode cX8_draw 72 = .ok (.iload_n 3, 1) := by decide +kernel
theorem dX8_draw_73 : decode cX8_draw 73 = .ok (.aload_n 0, 1) := by decide +kernel
theorem dX8_draw_74 : decode cX8_draw 74 = .ok (.iload 5, 2) := by decide +kernel
theorem dX8_draw_76 : decode cX8_draw 76 = .ok (.iload 6, 2) := by decide +kernel
theorem dX8_draw_78 : decode cX8_draw 78 = .ok (.iload 7, 2) := by decide +kernel
theorem dX8_draw_80 : decode cX8_draw 80 = .ok (.iload 8, 2) := by decide +kernel
theorem dX8_draw_82 : decode cX8_draw 82 = .ok (.invokevirtual 311, 3) := by decide +kernel
theorem dX8_draw_85 : decode cX8_draw 85 = .ok (.ifCond .lt 7, 3) := by decide +kernel
theorem dX8_draw_88 : decode cX8_draw 88 = .ok (.iconst 1, 1) := by decide +kernel
theorem dX8_draw_89 : decode cX8_draw 89 = .ok (.goto 4, 3) := by decide +kernel
theorem dX8_draw_92 : decode cX8_draw 92 = .ok (.iconst 0, 1) := by decide +kernel
theorem dX8_draw_93 : decode cX8_draw 93 = .ok (.invokestatic 133, 3) := by decide +kernel
theorem dX8_draw_96 : decode cX8_draw 96 = .ok (.iadd, 1) := by decide +kernel
theorem dX8_draw_97 : decode cX8_draw 97 = .ok (.istore_n 3, 1) := by decide +kernel
theorem dX8_draw_98 : decode cX8_draw 98 = .ok (.iinc 4 1, 3) := by decide +kernel
theorem dX8_draw_101 : decode cX8_draw 101 = .ok (.goto (-67), 3) := by decide +kernel
theorem dX8_draw_104 : decode cX8_draw 104 = .ok (.iload_n 3, 1) := by decide +kernel
theorem dX8_draw_105 : decode cX8_draw 105 = .ok (.ireturn, 1) := by decide +kernel
theorem dX8_flip_0 : decode cX8_flip 0 = .ok (.iload_n 1, 1) := by decide +kernel
theorem dX8_flip_1 : decode cX8_flip 1 = .ok (.i2l, 1) := by decide +kernel
theorem dX8_flip_2 : decode cX8_flip 2 = .ok (.lconst 0, 1) := by decide +kernel
theorem dX8_flip_3 : decode cX8_flip 3 = .ok (.aload_n 0, 1) := by decide +kernel
theorem dX8_flip_4 : decode cX8_flip 4 = .ok (.invokevirtual 35, 3) := by decide +kernel
theorem dX8_flip_7 : decode cX8_flip 7 = .ok (.iconst 1, 1) := by decide +kernel
theorem dX8_flip_8 : decode cX8_flip 8 = .ok (.isub, 1) := by decide +kernel
theorem dX8_flip_9 : decode cX8_flip 9 = .ok (.i2l, 1) := by decide +kernel
theorem dX8_flip_10 : decode cX8_flip 10 = .ok (.invokestatic 41, 3) := by decide +kernel
theorem dX8_flip_13 : decode cX8_flip 13 = .ok (.ifCond .ne 5, 3) := by decide +kernel
theorem dX8_flip_16 : decode cX8_flip 16 = .ok (.iconst (-1), 1) := by decide +kernel
theorem dX8_flip_17 : decode cX8_flip 17 = .ok (.ireturn, 1) := by decide +kernel
theorem dX8_flip_18 : decode cX8_flip 18 = .ok (.aload_n 0, 1) := by decide +kernel
theorem dX8_flip_19 : decode cX8_flip 19 = .ok (.iload_n 1, 1) := by decide +kernel
theorem dX8_flip_20 : decode cX8_flip 20 = .ok (.invokevirtual 141, 3) := by decide +kernel
theorem dX8_flip_23 : decode cX8_flip 23 = .ok (.istore_n 2, 1) := by decide +kernel
theorem dX8_flip_24 : decode cX8_flip 24 = .ok (.aload_n 0, 1) := by decide +kernel
theorem dX8_flip_25 : decode cX8_flip 25 = .ok (.iload_n 1, 1) := by decide +kernel
theorem dX8_flip_26 : decode cX8_flip 26 = .ok (.iload_n 2, 1) := by decide +kernel
theorem dX8_flip_27 : decode cX8_flip 27 = .ok (.ifCond .ne 7, 3) := by decide +kernel
theorem dX8_flip_30 : decode cX8_flip 30 = .ok (.iconst 1, 1) := by decide +kernel
theorem dX8_flip_31 : decode cX8_flip 31 = .ok (.goto 4, 3) := by decide +kernel
theorem dX8_flip_34 : decode cX8_flip 34 = .ok (.iconst 0, 1) := by decide +kernel
theorem dX8_flip_35 : decode cX8_flip 35 = .ok (.invokevirtual 137, 3) := by decide +kernel
theorem dX8_flip_38 : decode cX8_flip 38 = .ok (.iload_n 2, 1) := by decide +kernel
theorem dX8_flip_39 : decode cX8_flip 39 = .ok (.invokestatic 133, 3) := by decide +kernel
theorem dX8_flip_42 : decode cX8_flip 42 = .ok (.ireturn, 1) := by decide +kernel
theorem dX8_check_0 : decode cX8_check 0 = .ok (.iload_n 1, 1) := by decide +kernel
theorem dX8_check_1 : decode cX8_check 1 = .ok (.i2l, 1) := by decide +kernel
theorem dX8_check_2 : decode cX8_check 2 = .ok (.lconst 0, 1) := by decide +kernel
theorem dX8_check_3 : decode cX8_check 3 = .ok (.ldc2_w 228, 3) := by decide +kernel
theorem dX8_check_6 : decode cX8_check 6 = .ok (.invokestatic 41, 3) := by decide +kernel
theorem dX8_check_9 : decode cX8_check 9 = .ok (.ifCond .ne 5, 3) := by decide +kernel
theorem dX8_check_12 : decode cX8_check 12 = .ok (.iconst (-1), 1) := by decide +kernel
theorem dX8_check_13 : decode cX8_check 13 = .ok (.ireturn, 1) := by decide +kernel
theorem dX8_check_14 : decode cX8_check 14 = .ok (.iconst 0, 1) := by decide +kernel
theorem dX8_check_15 : decode cX8_check 15 = .ok (.istore_n 2, 1) := by decide +kernel
theorem dX8_check_16 : decode cX8_check 16 = .ok (.iconst 0, 1) := by decide +kernel
theorem dX8_check_17 : decode cX8_check 17 = .ok (.istore_n 3, 1) := by decide +kernel
theorem dX8_check_18 : decode cX8_check 18 = .ok (.iload_n 3, 1) := by decide +kernel
theorem dX8_check_19 : decode cX8_check 19 = .ok (.aload_n 0, 1) := by decide +kernel
theorem dX8_check_20 : decode cX8_check 20 = .ok (.invokevirtual 35, 3) := by decide +kernel
theorem dX8_check_23 : decode cX8_check 23 = .ok (.if_icmp .ge 92, 3) := by decide +kernel
theorem dX8_check_26 : decode cX8_check 26 = .ok (.aload_n 0, 1) := by decide +kernel
theorem dX8_check_27 : decode cX8_check 27 = .ok (.iload_n 3, 1) := by decide +kernel
theorem dX8_check_28 : decode cX8_check 28 = .ok (.invokevirtual 197, 3) := by decide +kernel
theorem dX8_check_31 : decode cX8_check 31 = .ok (.bipush (-4), 2) := by decide +kernel
theorem dX8_check_33 : decode cX8_check 33 = .ok (.if_icmp .eq 7, 3) := by decide +kernel
theorem dX8_check_36 : decode cX8_check 36 = .ok (.iconst 1, 1) := by decide +kernel
theorem dX8_check_37 : decode cX8_check 37 = .ok (.goto 4, 3) := by decide +kernel
theorem dX8_check_40 : decode cX8_check 40 = .ok (.iconst 0, 1) := by decide +kernel
theorem dX8_check_41 : decode cX8_check 41 = .ok (.istore 4, 2) := by decide +kernel
theorem dX8_check_43 : decode cX8_check 43 = .ok (.iload_n 1, 1) := by decide +kernel
theorem dX8_check_44 : decode cX8_check 44 = .ok (.iconst 2, 1) := by decide +kernel
theorem dX8_check_45 : decode cX8_check 45 = .ok (.if_icmp .ne 15, 3) := by decide +kernel
theorem dX8_check_48 : decode cX8_check 48 = .ok (.aload_n 0, 1) := by decide +kernel
theorem dX8_check_49 : decode cX8_check 49 = .ok (.iload_n 3, 1) := by decide +kernel
theorem dX8_check_50 : decode cX8_check 50 = .ok (.invokevirtual 141, 3) := by decide +kernel
theorem dX8_check_53 : decode cX8_check 53 = .ok (.iload 4, 2) := by decide +kernel
theorem dX8_check_55 : decode cX8_check 55 = .ok (.if_icmp .ne 5, 3) := by decide +kernel
theorem dX8_check_58 : decode cX8_check 58 = .ok (.iload_n 3, 1) := by decide +kernel
theorem dX8_check_59 : decode cX8_check 59 = .ok (.ireturn, 1) := by decide +kernel
theorem dX8_check_60 : decode cX8_check 60 = .ok (.iload_n 2, 1) := by decide +kernel
theorem dX8_check_61 : decode cX8_check 61 = .ok (.iload_n 1, 1) := by decide +kernel
theorem dX8_check_62 : decode cX8_check 62 = .ok (.ifCond .ne 24, 3) := by decide +kernel
theorem dX8_check_65 : decode cX8_check 65 = .ok (.aload_n 0, 1) := by decide +kernel
theorem dX8_check_66 : decode cX8_check 66 = .ok (.iload_n 3, 1) := by decide +kernel
theorem dX8_check_67 : decode cX8_check 67 = .ok (.invokevirtual 141, 3) := by decide +kernel
theorem dX8_check_70 : decode cX8_check 70 = .ok (.ifCond .eq 12, 3) := by decide +kernel
theorem dX8_check_73 : decode cX8_check 73 = .ok (.iload 4, 2) := by decide +kernel
theorem dX8_check_75 : decode cX8_check 75 = .ok (.ifCond .eq 7, 3) := by decide +kernel
theorem dX8_check_78 : decode cX8_check 78 = .ok (.iconst 1, 1) := by decide +kernel
theorem dX8_check_79 : decode cX8_check 79 = .ok (.goto 25, 3) := by decide +kernel
theorem dX8_check_82 : decode cX8_check 82 = .ok (.iconst 0, 1) := by decide +kernel
theorem dX8_check_83 : decode cX8_check 83 = .ok (.goto 21, 3) := by decide +kernel
theorem dX8_check_86 : decode cX8_check 86 = .ok (.aload_n 0, 1) := by decide +kernel
theorem dX8_check_87 : decode cX8_check 87 = .ok (.iload_n 3, 1) := by decide +kernel
theorem dX8_check_88 : decode cX8_check 88 = .ok (.invokevirtual 141, 3) := by decide +kernel
theorem dX8_check_91 : decode cX8_check 91 = .ok (.ifCond .ne 12, 3) := by decide +kernel
theorem dX8_check_94 : decode cX8_check 94 = .ok (.iload 4, 2) := by decide +kernel
theorem dX8_check_96 : decode cX8_check 96 = .ok (.ifCond .ne 7, 3) := by decide +kernel
theorem dX8_check_99 : decode cX8_check 99 = .ok (.iconst 1, 1) := by decide +kernel
theorem dX8_check_100 : decode cX8_check 100 = .ok (.goto 4, 3) := by decide +kernel
theorem dX8_check_103 : decode cX8_check 103 = .ok (.iconst 0, 1) := by decide +kernel
theorem dX8_check_104 : decode cX8_check 104 = .ok (.invokestatic 133, 3) := by decide +kernel
theorem dX8_check_107 : decode cX8_check 107 = .ok (.iadd, 1) := by decide +kernel
theorem dX8_check_108 : decode cX8_check 108 = .ok (.istore_n 2, 1) := by decide +kernel
theorem dX8_check_109 : decode cX8_check 109 = .ok (.iinc 3 1, 3) := by decide +kernel
theorem dX8_check_112 : decode cX8_check 112 = .ok (.goto (-94), 3) := by decide +kernel
theorem dX8_check_115 : decode cX8_check 115 = .ok (.iload_n 1, 1) := by decide +kernel
theorem dX8_check_116 : decode cX8_check 116 = .ok (.iconst 2, 1) := by decide +kernel
theorem dX8_check_117 : decode cX8_check 117 = .ok (.if_icmp .ne 8, 3) := by decide +kernel
theorem dX8_check_120 : decode cX8_check 120 = .ok (.bipush (-4), 2) := by decide +kernel
theorem dX8_check_122 : decode cX8_check 122 = .ok (.goto 4, 3) := by decide +kernel
theorem dX8_check_125 : decode cX8_check 125 = .ok (.iload_n 2, 1) := by decide +kernel
theorem dX8_check_126 : decode cX8_check 126 = .ok (.ireturn, 1) := by decide +kernel
theorem dX8_mend_0 : decode cX8_mend 0 = .ok (.iconst 0, 1) := by decide +kernel
theorem dX8_mend_1 : decode cX8_mend 1 = .ok (.istore_n 1, 1) := by decide +kernel
theorem dX8_mend_2 : decode cX8_mend 2 = .ok (.iconst 0, 1) := by decide +kernel
theorem dX8_mend_3 : decode cX8_mend 3 = .ok (.istore_n 2, 1) := by decide +kernel
theorem dX8_mend_4 : decode cX8_mend 4 = .ok (.iload_n 2, 1) := by decide +kernel
theorem dX8_mend_5 : decode cX8_mend 5 = .ok (.aload_n 0, 1) := by decide +kernel
theorem dX8_mend_6 : decode cX8_mend 6 = .ok (.invokevirtual 35, 3) := by decide +kernel
theorem dX8_mend_9 : decode cX8_mend 9 = .ok (.if_icmp .ge 51, 3) := by decide +kernel
theorem dX8_mend_12 : decode cX8_mend 12 = .ok (.aload_n 0, 1) := by decide +kernel
theorem dX8_mend_13 : decode cX8_mend 13 = .ok (.iload_n 2, 1) := by decide +kernel
theorem dX8_mend_14 : decode cX8_mend 14 = .ok (.invokevirtual 197, 3) := by decide +kernel
theorem dX8_mend_17 : decode cX8_mend 17 = .ok (.bipush (-4), 2) := by decide +kernel
theorem dX8_mend_19 : decode cX8_mend 19 = .ok (.if_icmp .ne 7, 3) := by decide +kernel
theorem dX8_mend_22 : decode cX8_mend 22 = .ok (.iconst 1, 1) := by decide +kernel
theorem dX8_mend_23 : decode cX8_mend 23 = .ok (.goto 4, 3) := by decide +kernel
theorem dX8_mend_26 : decode cX8_mend 26 = .ok (.iconst 0, 1) := by decide +kernel
theorem dX8_mend_27 : decode cX8_mend 27 = .ok (.istore_n 3, 1) := by decide +kernel
theorem dX8_mend_28 : decode cX8_mend 28 = .ok (.iload_n 1, 1) := by decide +kernel
theorem dX8_mend_29 : decode cX8_mend 29 = .ok (.aload_n 0, 1) := by decide +kernel
theorem dX8_mend_30 : decode cX8_mend 30 = .ok (.iload_n 2, 1) := by decide +kernel
theorem dX8_mend_31 : decode cX8_mend 31 = .ok (.invokevirtual 141, 3) := by decide +kernel
theorem dX8_mend_34 : decode cX8_mend 34 = .ok (.iload_n 3, 1) := by decide +kernel
theorem dX8_mend_35 : decode cX8_mend 35 = .ok (.if_icmp .eq 7, 3) := by decide +kernel
theorem dX8_mend_38 : decode cX8_mend 38 = .ok (.iconst 1, 1) := by decide +kernel
theorem dX8_mend_39 : decode cX8_mend 39 = .ok (.goto 4, 3) := by decide +kernel
theorem dX8_mend_42 : decode cX8_mend 42 = .ok (.iconst 0, 1) := by decide +kernel
theorem dX8_mend_43 : decode cX8_mend 43 = .ok (.invokestatic 133, 3) := by decide +kernel
theorem dX8_mend_46 : decode cX8_mend 46 = .ok (.iadd, 1) := by decide +kernel
theorem dX8_mend_47 : decode cX8_mend 47 = .ok (.istore_n 1, 1) := by decide +kernel
theorem dX8_mend_48 : decode cX8_mend 48 = .ok (.aload_n 0, 1) := by decide +kernel
theorem dX8_mend_49 : decode cX8_mend 49 = .ok (.iload_n 2, 1) := by decide +kernel
theorem dX8_mend_50 : decode cX8_mend 50 = .ok (.iload_n 3, 1) := by decide +kernel
theorem dX8_mend_51 : decode cX8_mend 51 = .ok (.invokevirtual 137, 3) := by decide +kernel
theorem dX8_mend_54 : decode cX8_mend 54 = .ok (.iinc 2 1, 3) := by decide +kernel
theorem dX8_mend_57 : decode cX8_mend 57 = .ok (.goto (-53), 3) := by decide +kernel
theorem dX8_mend_60 : decode cX8_mend 60 = .ok (.iload_n 1, 1) := by decide +kernel
theorem dX8_mend_61 : decode cX8_mend 61 = .ok (.ireturn, 1) := by decide +kernel
theorem dX8_keep_0 : decode cX8_keep 0 = .ok (.iload_n 1, 1) := by decide +kernel
theorem dX8_keep_1 : decode cX8_keep 1 = .ok (.i2l, 1) := by decide +kernel
theorem dX8_keep_2 : decode cX8_keep 2 = .ok (.lconst 0, 1) := by decide +kernel
theorem dX8_keep_3 : decode cX8_keep 3 = .ok (.lconst 1, 1) := by decide +kernel
theorem dX8_keep_4 : decode cX8_keep 4 = .ok (.invokestatic 41, 3) := by decide +kernel
theorem dX8_keep_7 : decode cX8_keep 7 = .ok (.ifCond .ne 5, 3) := by decide +kernel
theorem dX8_keep_10 : decode cX8_keep 10 = .ok (.iconst (-1), 1) := by decide +kernel
theorem dX8_keep_11 : decode cX8_keep 11 = .ok (.ireturn, 1) := by decide +kernel
theorem dX8_keep_12 : decode cX8_keep 12 = .ok (.aload_n 0, 1) := by decide +kernel
theorem dX8_keep_13 : decode cX8_keep 13 = .ok (.getfield 22, 3) := by decide +kernel
theorem dX8_keep_16 : decode cX8_keep 16 = .ok (.iload_n 1, 1) := by decide +kernel
theorem dX8_keep_17 : decode cX8_keep 17 = .ok (.baload, 1) := by decide +kernel
theorem dX8_keep_18 : decode cX8_keep 18 = .ok (.invokestatic 133, 3) := by decide +kernel
theorem dX8_keep_21 : decode cX8_keep 21 = .ok (.istore_n 2, 1) := by decide +kernel
theorem dX8_keep_22 : decode cX8_keep 22 = .ok (.aload_n 0, 1) := by decide +kernel
theorem dX8_keep_23 : decode cX8_keep 23 = .ok (.getfield 22, 3) := by decide +kernel
theorem dX8_keep_26 : decode cX8_keep 26 = .ok (.iload_n 1, 1) := by decide +kernel
theorem dX8_keep_27 : decode cX8_keep 27 = .ok (.iconst 1, 1) := by decide +kernel
theorem dX8_keep_28 : decode cX8_keep 28 = .ok (.bastore, 1) := by decide +kernel
theorem dX8_keep_29 : decode cX8_keep 29 = .ok (.iconst 0, 1) := by decide +kernel
theorem dX8_keep_30 : decode cX8_keep 30 = .ok (.istore_n 3, 1) := by decide +kernel
theorem dX8_keep_31 : decode cX8_keep 31 = .ok (.iload_n 3, 1) := by decide +kernel
theorem dX8_keep_32 : decode cX8_keep 32 = .ok (.sipush 496, 3) := by decide +kernel
theorem dX8_keep_35 : decode cX8_keep 35 = .ok (.if_icmp .ge 27, 3) := by decide +kernel
theorem dX8_keep_38 : decode cX8_keep 38 = .ok (.aload_n 0, 1) := by decide +kernel
theorem dX8_keep_39 : decode cX8_keep 39 = .ok (.getfield 19, 3) := by decide +kernel
theorem dX8_keep_42 : decode cX8_keep 42 = .ok (.sipush 496, 3) := by decide +kernel
theorem dX8_keep_45 : decode cX8_keep 45 = .ok (.iload_n 1, 1) := by decide +kernel
theorem dX8_keep_46 : decode cX8_keep 46 = .ok (.imul, 1) := by decide +kernel
theorem dX8_keep_47 : decode cX8_keep 47 = .ok (.iload_n 3, 1) := by decide +kernel
theorem dX8_keep_48 : decode cX8_keep 48 = .ok (.iadd, 1) := by decide +kernel
theorem dX8_keep_49 : decode cX8_keep 49 = .ok (.aload_n 0, 1) := by decide +kernel
theorem dX8_keep_50 : decode cX8_keep 50 = .ok (.getfield 7, 3) := by decide +kernel
theorem dX8_keep_53 : decode cX8_keep 53 = .ok (.iload_n 3, 1) := by decide +kernel
theorem dX8_keep_54 : decode cX8_keep 54 = .ok (.iaload, 1) := by decide +kernel
theorem dX8_keep_55 : decode cX8_keep 55 = .ok (.iastore, 1) := by decide +kernel
theorem dX8_keep_56 : decode cX8_keep 56 = .ok (.iinc 3 1, 3) := by decide +kernel
theorem dX8_keep_59 : decode cX8_keep 59 = .ok (.goto (-28), 3) := by decide +kernel
theorem dX8_keep_62 : decode cX8_keep 62 = .ok (.iload_n 2, 1) := by decide +kernel
theorem dX8_keep_63 : decode cX8_keep 63 = .ok (.ireturn, 1) := by decide +kernel
theorem dX8_back_0 : decode cX8_back 0 = .ok (.iload_n 1, 1) := by decide +kernel
theorem dX8_back_1 : decode cX8_back 1 = .ok (.i2l, 1) := by decide +kernel
theorem dX8_back_2 : decode cX8_back 2 = .ok (.lconst 0, 1) := by decide +kernel
theorem dX8_back_3 : decode cX8_back 3 = .ok (.lconst 1, 1) := by decide +kernel
theorem dX8_back_4 : decode cX8_back 4 = .ok (.invokestatic 41, 3) := by decide +kernel
theorem dX8_back_7 : decode cX8_back 7 = .ok (.ifCond .ne 5, 3) := by decide +kernel
theorem dX8_back_10 : decode cX8_back 10 = .ok (.iconst (-1), 1) := by decide +kernel
theorem dX8_back_11 : decode cX8_back 11 = .ok (.ireturn, 1) := by decide +kernel
theorem dX8_back_12 : decode cX8_back 12 = .ok (.aload_n 0, 1) := by decide +kernel
theorem dX8_back_13 : decode cX8_back 13 = .ok (.getfield 22, 3) := by decide +kernel
theorem dX8_back_16 : decode cX8_back 16 = .ok (.iload_n 1, 1) := by decide +kernel
theorem dX8_back_17 : decode cX8_back 17 = .ok (.baload, 1) := by decide +kernel
theorem dX8_back_18 : decode cX8_back 18 = .ok (.ifCond .ne 6, 3) := by decide +kernel
theorem dX8_back_21 : decode cX8_back 21 = .ok (.bipush (-2), 2) := by decide +kernel
theorem dX8_back_23 : decode cX8_back 23 = .ok (.ireturn, 1) := by decide +kernel
theorem dX8_back_24 : decode cX8_back 24 = .ok (.iconst 0, 1) := by decide +kernel
theorem dX8_back_25 : decode cX8_back 25 = .ok (.istore_n 2, 1) := by decide +kernel
theorem dX8_back_26 : decode cX8_back 26 = .ok (.iload_n 2, 1) := by decide +kernel
theorem dX8_back_27 : decode cX8_back 27 = .ok (.sipush 496, 3) := by decide +kernel
theorem dX8_back_30 : decode cX8_back 30 = .ok (.if_icmp .ge 27, 3) := by decide +kernel
theorem dX8_back_33 : decode cX8_back 33 = .ok (.aload_n 0, 1) := by decide +kernel
theorem dX8_back_34 : decode cX8_back 34 = .ok (.getfield 7, 3) := by decide +kernel
theorem dX8_back_37 : decode cX8_back 37 = .ok (.iload_n 2, 1) := by decide +kernel
theorem dX8_back_38 : decode cX8_back 38 = .ok (.aload_n 0, 1) := by decide +kernel
theorem dX8_back_39 : decode cX8_back 39 = .ok (.getfield 19, 3) := by decide +kernel
theorem dX8_back_42 : decode cX8_back 42 = .ok (.sipush 496, 3) := by decide +kernel
theorem dX8_back_45 : decode cX8_back 45 = .ok (.iload_n 1, 1) := by decide +kernel
theorem dX8_back_46 : decode cX8_back 46 = .ok (.imul, 1) := by decide +kernel
theorem dX8_back_47 : decode cX8_back 47 = .ok (.iload_n 2, 1) := by decide +kernel
theorem dX8_back_48 : decode cX8_back 48 = .ok (.iadd, 1) := by decide +kernel
theorem dX8_back_49 : decode cX8_back 49 = .ok (.iaload, 1) := by decide +kernel
theorem dX8_back_50 : decode cX8_back 50 = .ok (.iastore, 1) := by decide +kernel
theorem dX8_back_51 : decode cX8_back 51 = .ok (.iinc 2 1, 3) := by decide +kernel
theorem dX8_back_54 : decode cX8_back 54 = .ok (.goto (-28), 3) := by decide +kernel
theorem dX8_back_57 : decode cX8_back 57 = .ok (.aload_n 0, 1) := by decide +kernel
theorem dX8_back_58 : decode cX8_back 58 = .ok (.invokevirtual 130, 3) := by decide +kernel
theorem dX8_back_61 : decode cX8_back 61 = .ok (.ireturn, 1) := by decide +kernel
theorem dX8_count_0 : decode cX8_count 0 = .ok (.iload_n 1, 1) := by decide +kernel
theorem dX8_count_1 : decode cX8_count 1 = .ok (.lookupswitch 52 #[(0, 27), (1, 47)], 27) := by decide +kernel
theorem dX8_count_28 : decode cX8_count 28 = .ok (.aload_n 0, 1) := by decide +kernel
theorem dX8_count_29 : decode cX8_count 29 = .ok (.getfield 22, 3) := by decide +kernel
theorem dX8_count_32 : decode cX8_count 32 = .ok (.iconst 0, 1) := by decide +kernel
theorem dX8_count_33 : decode cX8_count 33 = .ok (.baload, 1) := by decide +kernel
theorem dX8_count_34 : decode cX8_count 34 = .ok (.invokestatic 133, 3) := by decide +kernel
theorem dX8_count_37 : decode cX8_count 37 = .ok (.aload_n 0, 1) := by decide +kernel
theorem dX8_count_38 : decode cX8_count 38 = .ok (.getfield 22, 3) := by decide +kernel
theorem dX8_count_41 : decode cX8_count 41 = .ok (.iconst 1, 1) := by decide +kernel
theorem dX8_count_42 : decode cX8_count 42 = .ok (.baload, 1) := by decide +kernel
theorem dX8_count_43 : decode cX8_count 43 = .ok (.invokestatic 133, 3) := by decide +kernel
theorem dX8_count_46 : decode cX8_count 46 = .ok (.iadd, 1) := by decide +kernel
theorem dX8_count_47 : decode cX8_count 47 = .ok (.ireturn, 1) := by decide +kernel
theorem dX8_count_48 : decode cX8_count 48 = .ok (.aload_n 0, 1) := by decide +kernel
theorem dX8_count_49 : decode cX8_count 49 = .ok (.getfield 45, 3) := by decide +kernel
theorem dX8_count_52 : decode cX8_count 52 = .ok (.ireturn, 1) := by decide +kernel
theorem dX8_count_53 : decode cX8_count 53 = .ok (.iconst (-1), 1) := by decide +kernel
theorem dX8_count_54 : decode cX8_count 54 = .ok (.ireturn, 1) := by decide +kernel
