theorem dJ0_length_8abf5_0 : decode cJ0_length_8abf5 0 = .ok (.aload_n 0, 1) := by decide +kernel
theorem dJ0_length_8abf5_1 : decode cJ0_length_8abf5 1 = .ok (.getfield 9, 3) := by decide +kernel
theorem dJ0_length_8abf5_4 : decode cJ0_length_8abf5 4 = .ok (.arraylength, 1) := by decide +kernel
theorem dJ0_length_8abf5_5 : decode cJ0_length_8abf5 5 = .ok (.aload_n 0, 1) := by decide +kernel
theorem dJ0_length_8abf5_6 : decode cJ0_length_8abf5 6 = .ok (.invokevirtual 335, 3) := by decide +kernel
theorem dJ0_length_8abf5_9 : decode cJ0_length_8abf5 9 = .ok (.ishr, 1) := by decide +kernel
theorem dJ0_length_8abf5_10 : decode cJ0_length_8abf5 10 = .ok (.ireturn, 1) := by decide +kernel
theorem dJ0_charAt_5068e_0 : decode cJ0_charAt_5068e 0 = .ok (.aload_n 0, 1) := by decide +kernel
theorem dJ0_charAt_5068e_1 : decode cJ0_charAt_5068e 1 = .ok (.invokevirtual 492, 3) := by decide +kernel
theorem dJ0_charAt_5068e_4 : decode cJ0_charAt_5068e 4 = .ok (.ifCond .eq 12, 3) := by decide +kernel
theorem dJ0_charAt_5068e_7 : decode cJ0_charAt_5068e 7 = .ok (.aload_n 0, 1) := by decide +kernel
theorem dJ0_charAt_5068e_8 : decode cJ0_charAt_5068e 8 = .ok (.getfield 9, 3) := by decide +kernel
theorem dJ0_charAt_5068e_11 : decode cJ0_charAt_5068e 11 = .ok (.iload_n 1, 1) := by decide +kernel
theorem dJ0_charAt_5068e_12 : decode cJ0_charAt_5068e 12 = .ok (.invokestatic 495, 3) := by decide +kernel
theorem dJ0_charAt_5068e_15 : decode cJ0_charAt_5068e 15 = .ok (.ireturn, 1) := by decide +kernel
theorem dJ0_charAt_5068e_16 : decode cJ0_charAt_5068e 16 = .ok (.aload_n 0, 1) := by decide +kernel
theorem dJ0_charAt_5068e_17 : decode cJ0_charAt_5068e 17 = .ok (.getfield 9, 3) := by decide +kernel
theorem dJ0_charAt_5068e_20 : decode cJ0_charAt_5068e 20 = .ok (.iload_n 1, 1) := by decide +kernel
theorem dJ0_charAt_5068e_21 : decode cJ0_charAt_5068e 21 = .ok (.invokestatic 498, 3) := by decide +kernel
theorem dJ0_charAt_5068e_24 : decode cJ0_charAt_5068e 24 = .ok (.ireturn, 1) := by decide +kernel
theorem dJ0_coder_7d493_0 : decode cJ0_coder_7d493 0 = .ok (.getstatic 38, 3) := by decide +kernel
theorem dJ0_coder_7d493_3 : decode cJ0_coder_7d493 3 = .ok (.ifCond .eq 10, 3) := by decide +kernel
theorem dJ0_coder_7d493_6 : decode cJ0_coder_7d493 6 = .ok (.aload_n 0, 1) := by decide +kernel
theorem dJ0_coder_7d493_7 : decode cJ0_coder_7d493 7 = .ok (.getfield 15, 3) := by decide +kernel
theorem dJ0_coder_7d493_10 : decode cJ0_coder_7d493 10 = .ok (.goto 4, 3) := by decide +kernel
theorem dJ0_coder_7d493_13 : decode cJ0_coder_7d493 13 = .ok (.iconst 1, 1) := by decide +kernel
theorem dJ0_coder_7d493_14 : decode cJ0_coder_7d493 14 = .ok (.ireturn, 1) := by decide +kernel
theorem dJ0_isLatin1_aae02_0 : decode cJ0_isLatin1_aae02 0 = .ok (.getstatic 38, 3) := by decide +kernel
theorem dJ0_isLatin1_aae02_3 : decode cJ0_isLatin1_aae02 3 = .ok (.ifCond .eq 14, 3) := by decide +kernel
theorem dJ0_isLatin1_aae02_6 : decode cJ0_isLatin1_aae02 6 = .ok (.aload_n 0, 1) := by decide +kernel
theorem dJ0_isLatin1_aae02_7 : decode cJ0_isLatin1_aae02 7 = .ok (.getfield 15, 3) := by decide +kernel
theorem dJ0_isLatin1_aae02_10 : decode cJ0_isLatin1_aae02 10 = .ok (.ifCond .ne 7, 3) := by decide +kernel
theorem dJ0_isLatin1_aae02_13 : decode cJ0_isLatin1_aae02 13 = .ok (.iconst 1, 1) := by decide +kernel
theorem dJ0_isLatin1_aae02_14 : decode cJ0_isLatin1_aae02 14 = .ok (.goto 4, 3) := by decide +kernel
theorem dJ0_isLatin1_aae02_17 : decode cJ0_isLatin1_aae02 17 = .ok (.iconst 0, 1) := by decide +kernel
theorem dJ0_isLatin1_aae02_18 : decode cJ0_isLatin1_aae02 18 = .ok (.ireturn, 1) := by decide +kernel
theorem dJ0_checkIndex_df160_0 : decode cJ0_checkIndex_df160 0 = .ok (.iload_n 0, 1) := by decide +kernel
theorem dJ0_checkIndex_df160_1 : decode cJ0_checkIndex_df160 1 = .ok (.iload_n 1, 1) := by decide +kernel
theorem dJ0_checkIndex_df160_2 : decode cJ0_checkIndex_df160 2 = .ok (.getstatic 1053, 3) := by decide +kernel
theorem dJ0_checkIndex_df160_5 : decode cJ0_checkIndex_df160 5 = .ok (.invokestatic 1059, 3) := by decide +kernel
theorem dJ0_checkIndex_df160_8 : decode cJ0_checkIndex_df160 8 = .ok (.pop, 1) := by decide +kernel
theorem dJ0_checkIndex_df160_9 : decode cJ0_checkIndex_df160 9 = .ok (.return_, 1) := by decide +kernel
theorem dJ1_charAt_3b067_0 : decode cJ1_charAt_3b067 0 = .ok (.iload_n 1, 1) := by decide +kernel
theorem dJ1_charAt_3b067_1 : decode cJ1_charAt_3b067 1 = .ok (.aload_n 0, 1) := by decide +kernel
theorem dJ1_charAt_3b067_2 : decode cJ1_charAt_3b067 2 = .ok (.arraylength, 1) := by decide +kernel
theorem dJ1_charAt_3b067_3 : decode cJ1_charAt_3b067 3 = .ok (.invokestatic 9, 3) := by decide +kernel
theorem dJ1_charAt_3b067_6 : decode cJ1_charAt_3b067 6 = .ok (.aload_n 0, 1) := by decide +kernel
theorem dJ1_charAt_3b067_7 : decode cJ1_charAt_3b067 7 = .ok (.iload_n 1, 1) := by decide +kernel
theorem dJ1_charAt_3b067_8 : decode cJ1_charAt_3b067 8 = .ok (.baload, 1) := by decide +kernel
theorem dJ1_charAt_3b067_9 : decode cJ1_charAt_3b067 9 = .ok (.sipush 255, 3) := by decide +kernel
theorem dJ1_charAt_3b067_12 : decode cJ1_charAt_3b067 12 = .ok (.iand, 1) := by decide +kernel
theorem dJ1_charAt_3b067_13 : decode cJ1_charAt_3b067 13 = .ok (.i2c, 1) := by decide +kernel
theorem dJ1_charAt_3b067_14 : decode cJ1_charAt_3b067 14 = .ok (.ireturn, 1) := by decide +kernel
theorem dJ2_getChar_3b067_0 : decode cJ2_getChar_3b067 0 = .ok (.getstatic 44, 3) := by decide +kernel
theorem dJ2_getChar_3b067_3 : decode cJ2_getChar_3b067 3 = .ok (.ifCond .ne 25, 3) := by decide +kernel
theorem dJ2_getChar_3b067_6 : decode cJ2_getChar_3b067 6 = .ok (.iload_n 1, 1) := by decide +kernel
theorem dJ2_getChar_3b067_7 : decode cJ2_getChar_3b067 7 = .ok (.ifCond .lt 11, 3) := by decide +kernel
theorem dJ2_getChar_3b067_10 : decode cJ2_getChar_3b067 10 = .ok (.iload_n 1, 1) := by decide +kernel
theorem dJ2_getChar_3b067_11 : decode cJ2_getChar_3b067 11 = .ok (.aload_n 0, 1) := by decide +kernel
theorem dJ2_getChar_3b067_12 : decode cJ2_getChar_3b067 12 = .ok (.invokestatic 48, 3) := by decide +kernel
theorem dJ2_getChar_3b067_15 : decode cJ2_getChar_3b067 15 = .ok (.if_icmp .lt 13, 3) := by decide +kernel
theorem dJ2_getChar_3b067_18 : decode cJ2_getChar_3b067 18 = .ok (.new 52, 3) := by decide +kernel
theorem dJ2_getChar_3b067_21 : decode cJ2_getChar_3b067 21 = .ok (.dup, 1) := by decide +kernel
theorem dJ2_getChar_3b067_22 : decode cJ2_getChar_3b067 22 = .ok (.ldc 54, 2) := by decide +kernel
theorem dJ2_getChar_3b067_24 : decode cJ2_getChar_3b067 24 = .ok (.invokespecial 56, 3) := by decide +kernel
theorem dJ2_getChar_3b067_27 : decode cJ2_getChar_3b067 27 = .ok (.athrow, 1) := by decide +kernel
theorem dJ2_getChar_3b067_28 : decode cJ2_getChar_3b067 28 = .ok (.iload_n 1, 1) := by decide +kernel
theorem dJ2_getChar_3b067_29 : decode cJ2_getChar_3b067 29 = .ok (.iconst 1, 1) := by decide +kernel
theorem dJ2_getChar_3b067_30 : decode cJ2_getChar_3b067 30 = .ok (.ishl, 1) := by decide +kernel
theorem dJ2_getChar_3b067_31 : decode cJ2_getChar_3b067 31 = .ok (.istore_n 1, 1) := by decide +kernel
theorem dJ2_getChar_3b067_32 : decode cJ2_getChar_3b067 32 = .ok (.aload_n 0, 1) := by decide +kernel
theorem dJ2_getChar_3b067_33 : decode cJ2_getChar_3b067 33 = .ok (.iload_n 1, 1) := by decide +kernel
theorem dJ2_getChar_3b067_34 : decode cJ2_getChar_3b067 34 = .ok (.iinc 1 1, 3) := by decide +kernel
theorem dJ2_getChar_3b067_37 : decode cJ2_getChar_3b067 37 = .ok (.baload, 1) := by decide +kernel
theorem dJ2_getChar_3b067_38 : decode cJ2_getChar_3b067 38 = .ok (.sipush 255, 3) := by decide +kernel
theorem dJ2_getChar_3b067_41 : decode cJ2_getChar_3b067 41 = .ok (.iand, 1) := by decide +kernel
theorem dJ2_getChar_3b067_42 : decode cJ2_getChar_3b067 42 = .ok (.getstatic 59, 3) := by decide +kernel
theorem dJ2_getChar_3b067_45 : decode cJ2_getChar_3b067 45 = .ok (.ishl, 1) := by decide +kernel
theorem dJ2_getChar_3b067_46 : decode cJ2_getChar_3b067 46 = .ok (.aload_n 0, 1) := by decide +kernel
theorem dJ2_getChar_3b067_47 : decode cJ2_getChar_3b067 47 = .ok (.iload_n 1, 1) := by decide +kernel
theorem dJ2_getChar_3b067_48 : decode cJ2_getChar_3b067 48 = .ok (.baload, 1) := by decide +kernel
theorem dJ2_getChar_3b067_49 : decode cJ2_getChar_3b067 49 = .ok (.sipush 255, 3) := by decide +kernel
theorem dJ2_getChar_3b067_52 : decode cJ2_getChar_3b067 52 = .ok (.iand, 1) := by decide +kernel
theorem dJ2_getChar_3b067_53 : decode cJ2_getChar_3b067 53 = .ok (.getstatic 63, 3) := by decide +kernel
theorem dJ2_getChar_3b067_56 : decode cJ2_getChar_3b067 56 = .ok (.ishl, 1) := by decide +kernel
theorem dJ2_getChar_3b067_57 : decode cJ2_getChar_3b067 57 = .ok (.ior, 1) := by decide +kernel
theorem dJ2_getChar_3b067_58 : decode cJ2_getChar_3b067 58 = .ok (.i2c, 1) := by decide +kernel
theorem dJ2_getChar_3b067_59 : decode cJ2_getChar_3b067 59 = .ok (.ireturn, 1) := by decide +kernel
theorem dJ2_length_9d52b_0 : decode cJ2_length_9d52b 0 = .ok (.aload_n 0, 1) := by decide +kernel
theorem dJ2_length_9d52b_1 : decode cJ2_length_9d52b 1 = .ok (.arraylength, 1) := by decide +kernel
theorem dJ2_length_9d52b_2 : decode cJ2_length_9d52b 2 = .ok (.iconst 1, 1) := by decide +kernel
theorem dJ2_length_9d52b_3 : decode cJ2_length_9d52b 3 = .ok (.ishr, 1) := by decide +kernel
theorem dJ2_length_9d52b_4 : decode cJ2_length_9d52b 4 = .ok (.ireturn, 1) := by decide +kernel
theorem dJ2_charAt_3b067_0 : decode cJ2_charAt_3b067 0 = .ok (.iload_n 1, 1) := by decide +kernel
theorem dJ2_charAt_3b067_1 : decode cJ2_charAt_3b067 1 = .ok (.aload_n 0, 1) := by decide +kernel
theorem dJ2_charAt_3b067_2 : decode cJ2_charAt_3b067 2 = .ok (.invokestatic 67, 3) := by decide +kernel
theorem dJ2_charAt_3b067_5 : decode cJ2_charAt_3b067 5 = .ok (.aload_n 0, 1) := by decide +kernel
theorem dJ2_charAt_3b067_6 : decode cJ2_charAt_3b067 6 = .ok (.iload_n 1, 1) := by decide +kernel
theorem dJ2_charAt_3b067_7 : decode cJ2_charAt_3b067 7 = .ok (.invokestatic 71, 3) := by decide +kernel
theorem dJ2_charAt_3b067_10 : decode cJ2_charAt_3b067 10 = .ok (.ireturn, 1) := by decide +kernel
theorem dJ2_checkIndex_2214a_0 : decode cJ2_checkIndex_2214a 0 = .ok (.iload_n 0, 1) := by decide +kernel
theorem dJ2_checkIndex_2214a_1 : decode cJ2_checkIndex_2214a 1 = .ok (.aload_n 1, 1) := by decide +kernel
theorem dJ2_checkIndex_2214a_2 : decode cJ2_checkIndex_2214a 2 = .ok (.invokestatic 48, 3) := by decide +kernel
theorem dJ2_checkIndex_2214a_5 : decode cJ2_checkIndex_2214a 5 = .ok (.invokestatic 414, 3) := by decide +kernel
theorem dJ2_checkIndex_2214a_8 : decode cJ2_checkIndex_2214a 8 = .ok (.return_, 1) := by decide +kernel
theorem dJ3_checkIndex_8e157_0 : decode cJ3_checkIndex_8e157 0 = .ok (.iload_n 0, 1) := by decide +kernel
theorem dJ3_checkIndex_8e157_1 : decode cJ3_checkIndex_8e157 1 = .ok (.ifCond .lt 8, 3) := by decide +kernel
theorem dJ3_checkIndex_8e157_4 : decode cJ3_checkIndex_8e157 4 = .ok (.iload_n 0, 1) := by decide +kernel
theorem dJ3_checkIndex_8e157_5 : decode cJ3_checkIndex_8e157 5 = .ok (.iload_n 1, 1) := by decide +kernel
theorem dJ3_checkIndex_8e157_6 : decode cJ3_checkIndex_8e157 6 = .ok (.if_icmp .lt 10, 3) := by decide +kernel
theorem dJ3_checkIndex_8e157_9 : decode cJ3_checkIndex_8e157 9 = .ok (.aload_n 2, 1) := by decide +kernel
theorem dJ3_checkIndex_8e157_10 : decode cJ3_checkIndex_8e157 10 = .ok (.iload_n 0, 1) := by decide +kernel
theorem dJ3_checkIndex_8e157_11 : decode cJ3_checkIndex_8e157 11 = .ok (.iload_n 1, 1) := by decide +kernel
theorem dJ3_checkIndex_8e157_12 : decode cJ3_checkIndex_8e157 12 = .ok (.invokestatic 95, 3) := by decide +kernel
theorem dJ3_checkIndex_8e157_15 : decode cJ3_checkIndex_8e157 15 = .ok (.athrow, 1) := by decide +kernel
theorem dJ3_checkIndex_8e157_16 : decode cJ3_checkIndex_8e157 16 = .ok (.iload_n 0, 1) := by decide +kernel
theorem dJ3_checkIndex_8e157_17 : decode cJ3_checkIndex_8e157 17 = .ok (.ireturn, 1) := by decide +kernel
theorem dJ6_bitCount_0f7a4_0 : decode cJ6_bitCount_0f7a4 0 = .ok (.iload_n 0, 1) := by decide +kernel
theorem dJ6_bitCount_0f7a4_1 : decode cJ6_bitCount_0f7a4 1 = .ok (.iload_n 0, 1) := by decide +kernel
theorem dJ6_bitCount_0f7a4_2 : decode cJ6_bitCount_0f7a4 2 = .ok (.iconst 1, 1) := by decide +kernel
theorem dJ6_bitCount_0f7a4_3 : decode cJ6_bitCount_0f7a4 3 = .ok (.iushr, 1) := by decide +kernel
theorem dJ6_bitCount_0f7a4_4 : decode cJ6_bitCount_0f7a4 4 = .ok (.ldc_w 265, 3) := by decide +kernel
theorem dJ6_bitCount_0f7a4_7 : decode cJ6_bitCount_0f7a4 7 = .ok (.iand, 1) := by decide +kernel
theorem dJ6_bitCount_0f7a4_8 : decode cJ6_bitCount_0f7a4 8 = .ok (.isub, 1) := by decide +kernel
theorem dJ6_bitCount_0f7a4_9 : decode cJ6_bitCount_0f7a4 9 = .ok (.istore_n 0, 1) := by decide +kernel
theorem dJ6_bitCount_0f7a4_10 : decode cJ6_bitCount_0f7a4 10 = .ok (.iload_n 0, 1) := by decide +kernel
theorem dJ6_bitCount_0f7a4_11 : decode cJ6_bitCount_0f7a4 11 = .ok (.ldc_w 266, 3) := by decide +kernel
theorem dJ6_bitCount_0f7a4_14 : decode cJ6_bitCount_0f7a4 14 = .ok (.iand, 1) := by decide +kernel
theorem dJ6_bitCount_0f7a4_15 : decode cJ6_bitCount_0f7a4 15 = .ok (.iload_n 0, 1) := by decide +kernel
theorem dJ6_bitCount_0f7a4_16 : decode cJ6_bitCount_0f7a4 16 = .ok (.iconst 2, 1) := by decide +kernel
theorem dJ6_bitCount_0f7a4_17 : decode cJ6_bitCount_0f7a4 17 = .ok (.iushr, 1) := by decide +kernel
theorem dJ6_bitCount_0f7a4_18 : decode cJ6_bitCount_0f7a4 18 = .ok (.ldc_w 266, 3) := by decide +kernel
theorem dJ6_bitCount_0f7a4_21 : decode cJ6_bitCount_0f7a4 21 = .ok (.iand, 1) := by decide +kernel
theorem dJ6_bitCount_0f7a4_22 : decode cJ6_bitCount_0f7a4 22 = .ok (.iadd, 1) := by decide +kernel
theorem dJ6_bitCount_0f7a4_23 : decode cJ6_bitCount_0f7a4 23 = .ok (.istore_n 0, 1) := by decide +kernel
theorem dJ6_bitCount_0f7a4_24 : decode cJ6_bitCount_0f7a4 24 = .ok (.iload_n 0, 1) := by decide +kernel
theorem dJ6_bitCount_0f7a4_25 : decode cJ6_bitCount_0f7a4 25 = .ok (.iload_n 0, 1) := by decide +kernel
theorem dJ6_bitCount_0f7a4_26 : decode cJ6_bitCount_0f7a4 26 = .ok (.iconst 4, 1) := by decide +kernel
theorem dJ6_bitCount_0f7a4_27 : decode cJ6_bitCount_0f7a4 27 = .ok (.iushr, 1) := by decide +kernel
theorem dJ6_bitCount_0f7a4_28 : decode cJ6_bitCount_0f7a4 28 = .ok (.iadd, 1) := by decide +kernel
theorem dJ6_bitCount_0f7a4_29 : decode cJ6_bitCount_0f7a4 29 = .ok (.ldc_w 267, 3) := by decide +kernel
theorem dJ6_bitCount_0f7a4_32 : decode cJ6_bitCount_0f7a4 32 = .ok (.iand, 1) := by decide +kernel
theorem dJ6_bitCount_0f7a4_33 : decode cJ6_bitCount_0f7a4 33 = .ok (.istore_n 0, 1) := by decide +kernel
theorem dJ6_bitCount_0f7a4_34 : decode cJ6_bitCount_0f7a4 34 = .ok (.iload_n 0, 1) := by decide +kernel
theorem dJ6_bitCount_0f7a4_35 : decode cJ6_bitCount_0f7a4 35 = .ok (.iload_n 0, 1) := by decide +kernel
theorem dJ6_bitCount_0f7a4_36 : decode cJ6_bitCount_0f7a4 36 = .ok (.bipush 8, 2) := by decide +kernel
theorem dJ6_bitCount_0f7a4_38 : decode cJ6_bitCount_0f7a4 38 = .ok (.iushr, 1) := by decide +kernel
theorem dJ6_bitCount_0f7a4_39 : decode cJ6_bitCount_0f7a4 39 = .ok (.iadd, 1) := by decide +kernel
theorem dJ6_bitCount_0f7a4_40 : decode cJ6_bitCount_0f7a4 40 = .ok (.istore_n 0, 1) := by decide +kernel
theorem dJ6_bitCount_0f7a4_41 : decode cJ6_bitCount_0f7a4 41 = .ok (.iload_n 0, 1) := by decide +kernel
theorem dJ6_bitCount_0f7a4_42 : decode cJ6_bitCount_0f7a4 42 = .ok (.iload_n 0, 1) := by decide +kernel
theorem dJ6_bitCount_0f7a4_43 : decode cJ6_bitCount_0f7a4 43 = .ok (.bipush 16, 2) := by decide +kernel
theorem dJ6_bitCount_0f7a4_45 : decode cJ6_bitCount_0f7a4 45 = .ok (.iushr, 1) := by decide +kernel
theorem dJ6_bitCount_0f7a4_46 : decode cJ6_bitCount_0f7a4 46 = .ok (.iadd, 1) := by decide +kernel
theorem dJ6_bitCount_0f7a4_47 : decode cJ6_bitCount_0f7a4 47 = .ok (.istore_n 0, 1) := by decide +kernel
theorem dJ6_bitCount_0f7a4_48 : decode cJ6_bitCount_0f7a4 48 = .ok (.iload_n 0, 1) := by decide +kernel
theorem dJ6_bitCount_0f7a4_49 : decode cJ6_bitCount_0f7a4 49 = .ok (.bipush 63, 2) := by decide +kernel
theorem dJ6_bitCount_0f7a4_51 : decode cJ6_bitCount_0f7a4 51 = .ok (.iand, 1) := by decide +kernel
theorem dJ6_bitCount_0f7a4_52 : decode cJ6_bitCount_0f7a4 52 = .ok (.ireturn, 1) := by decide +kernel
theorem dX0_init_0 : decode cX0_init 0 = .ok (.aload_n 0, 1) := by decide +kernel
theorem dX0_init_1 : decode cX0_init 1 = .ok (.invokespecial 3, 3) := by decide +kernel
theorem dX0_init_4 : decode cX0_init 4 = .ok (.aload_n 0, 1) := by decide +kernel
theorem dX0_init_5 : decode cX0_init 5 = .ok (.aload_n 1, 1) := by decide +kernel
theorem dX0_init_6 : decode cX0_init 6 = .ok (.putfield 9, 3) := by decide +kernel
theorem dX0_init_9 : decode cX0_init 9 = .ok (.aload_n 0, 1) := by decide +kernel
theorem dX0_init_10 : decode cX0_init 10 = .ok (.aload_n 1, 1) := by decide +kernel
theorem dX0_init_11 : decode cX0_init 11 = .ok (.getfield 15, 3) := by decide +kernel
theorem dX0_init_14 : decode cX0_init 14 = .ok (.putfield 21, 3) := by decide +kernel
theorem dX0_init_17 : decode cX0_init 17 = .ok (.aload_n 0, 1) := by decide +kernel
theorem dX0_init_18 : decode cX0_init 18 = .ok (.aload_n 1, 1) := by decide +kernel
theorem dX0_init_19 : decode cX0_init 19 = .ok (.getfield 22, 3) := by decide +kernel
theorem dX0_init_22 : decode cX0_init 22 = .ok (.putfield 26, 3) := by decide +kernel
theorem dX0_init_25 : decode cX0_init 25 = .ok (.aload_n 0, 1) := by decide +kernel
theorem dX0_init_26 : decode cX0_init 26 = .ok (.aload_n 1, 1) := by decide +kernel
theorem dX0_init_27 : decode cX0_init 27 = .ok (.getfield 27, 3) := by decide +kernel
theorem dX0_init_30 : decode cX0_init 30 = .ok (.putfield 31, 3) := by decide +kernel
theorem dX0_init_33 : decode cX0_init 33 = .ok (.aload_n 0, 1) := by decide +kernel
theorem dX0_init_34 : decode cX0_init 34 = .ok (.new 32, 3) := by decide +kernel
theorem dX0_init_37 : decode cX0_init 37 = .ok (.dup, 1) := by decide +kernel
theorem dX0_init_38 : decode cX0_init 38 = .ok (.aload_n 1, 1) := by decide +kernel
theorem dX0_init_39 : decode cX0_init 39 = .ok (.getfield 15, 3) := by decide +kernel
theorem dX0_init_42 : decode cX0_init 42 = .ok (.invokespecial 34, 3) := by decide +kernel
theorem dX0_init_45 : decode cX0_init 45 = .ok (.putfield 37, 3) := by decide +kernel
theorem dX0_init_48 : decode cX0_init 48 = .ok (.return_, 1) := by decide +kernel
theorem dX0_makeInode_0 : decode cX0_makeInode 0 = .ok (.aload_n 0, 1) := by decide +kernel
theorem dX0_makeInode_1 : decode cX0_makeInode 1 = .ok (.getfield 31, 3) := by decide +kernel
theorem dX0_makeInode_4 : decode cX0_makeInode 4 = .ok (.iload_n 1, 1) := by decide +kernel
theorem dX0_makeInode_5 : decode cX0_makeInode 5 = .ok (.invokevirtual 40, 3) := by decide +kernel
theorem dX0_makeInode_8 : decode cX0_makeInode 8 = .ok (.iconst 1, 1) := by decide +kernel
theorem dX0_makeInode_9 : decode cX0_makeInode 9 = .ok (.if_icmp .ne 20, 3) := by decide +kernel
theorem dX0_makeInode_12 : decode cX0_makeInode 12 = .ok (.iload_n 2, 1) := by decide +kernel
theorem dX0_makeInode_13 : decode cX0_makeInode 13 = .ok (.invokestatic 46, 3) := by decide +kernel
theorem dX0_makeInode_16 : decode cX0_makeInode 16 = .ok (.ifCond .eq 13, 3) := by decide +kernel
theorem dX0_makeInode_19 : decode cX0_makeInode 19 = .ok (.iload_n 3, 1) := by decide +kernel
theorem dX0_makeInode_20 : decode cX0_makeInode 20 = .ok (.iconst 1, 1) := by decide +kernel
theorem dX0_makeInode_21 : decode cX0_makeInode 21 = .ok (.if_icmp .eq 10, 3) := by decide +kernel
theorem dX0_makeInode_24 : decode cX0_makeInode 24 = .ok (.iload_n 3, 1) := by decide +kernel
theorem dX0_makeInode_25 : decode cX0_makeInode 25 = .ok (.iconst 2, 1) := by decide +kernel
theorem dX0_makeInode_26 : decode cX0_makeInode 26 = .ok (.if_icmp .eq 5, 3) := by decide +kernel
theorem dX0_makeInode_29 : decode cX0_makeInode 29 = .ok (.iconst (-1), 1) := by decide +kernel
theorem dX0_makeInode_30 : decode cX0_makeInode 30 = .ok (.ireturn, 1) := by decide +kernel
theorem dX0_makeInode_31 : decode cX0_makeInode 31 = .ok (.aload_n 0, 1) := by decide +kernel
theorem dX0_makeInode_32 : decode cX0_makeInode 32 = .ok (.getfield 9, 3) := by decide +kernel
theorem dX0_makeInode_35 : decode cX0_makeInode 35 = .ok (.invokevirtual 50, 3) := by decide +kernel
theorem dX0_makeInode_38 : decode cX0_makeInode 38 = .ok (.ifCond .ne 17, 3) := by decide +kernel
theorem dX0_makeInode_41 : decode cX0_makeInode 41 = .ok (.aload_n 0, 1) := by decide +kernel
theorem dX0_makeInode_42 : decode cX0_makeInode 42 = .ok (.getfield 31, 3) := by decide +kernel
theorem dX0_makeInode_45 : decode cX0_makeInode 45 = .ok (.iload_n 1, 1) := by decide +kernel
theorem dX0_makeInode_46 : decode cX0_makeInode 46 = .ok (.iload_n 2, 1) := by decide +kernel
theorem dX0_makeInode_47 : decode cX0_makeInode 47 = .ok (.invokevirtual 54, 3) := by decide +kernel
theorem dX0_makeInode_50 : decode cX0_makeInode 50 = .ok (.bipush (-4), 2) := by decide +kernel
theorem dX0_makeInode_52 : decode cX0_makeInode 52 = .ok (.if_icmp .eq 6, 3) := by decide +kernel
theorem dX0_makeInode_55 : decode cX0_makeInode 55 = .ok (.bipush (-2), 2) := by decide +kernel
theorem dX0_makeInode_57 : decode cX0_makeInode 57 = .ok (.ireturn, 1) := by decide +kernel
theorem dX0_makeInode_58 : decode cX0_makeInode 58 = .ok (.aload_n 0, 1) := by decide +kernel
theorem dX0_makeInode_59 : decode cX0_makeInode 59 = .ok (.getfield 9, 3) := by decide +kernel
theorem dX0_makeInode_62 : decode cX0_makeInode 62 = .ok (.iload_n 1, 1) := by decide +kernel
theorem dX0_makeInode_63 : decode cX0_makeInode 63 = .ok (.iload_n 3, 1) := by decide +kernel
theorem dX0_makeInode_64 : decode cX0_makeInode 64 = .ok (.invokevirtual 58, 3) := by decide +kernel
theorem dX0_makeInode_67 : decode cX0_makeInode 67 = .ok (.istore 4, 2) := by decide +kernel
theorem dX0_makeInode_69 : decode cX0_makeInode 69 = .ok (.iload 4, 2) := by decide +kernel
theorem dX0_makeInode_71 : decode cX0_makeInode 71 = .ok (.bipush (-4), 2) := by decide +kernel
theorem dX0_makeInode_73 : decode cX0_makeInode 73 = .ok (.if_icmp .eq 16, 3) := by decide +kernel
theorem dX0_makeInode_76 : decode cX0_makeInode 76 = .ok (.iload_n 3, 1) := by decide +kernel
theorem dX0_makeInode_77 : decode cX0_makeInode 77 = .ok (.iconst 1, 1) := by decide +kernel
theorem dX0_makeInode_78 : decode cX0_makeInode 78 = .ok (.if_icmp .ne 14, 3) := by decide +kernel
theorem dX0_makeInode_81 : decode cX0_makeInode 81 = .ok (.aload_n 0, 1) := by decide +kernel
theorem dX0_makeInode_82 : decode cX0_makeInode 82 = .ok (.iconst 1, 1) := by decide +kernel
theorem dX0_makeInode_83 : decode cX0_makeInode 83 = .ok (.invokevirtual 61, 3) := by decide +kernel
theorem dX0_makeInode_86 : decode cX0_makeInode 86 = .ok (.ifCond .eq 6, 3) := by decide +kernel
theorem dX0_makeInode_89 : decode cX0_makeInode 89 = .ok (.bipush (-3), 2) := by decide +kernel
theorem dX0_makeInode_91 : decode cX0_makeInode 91 = .ok (.ireturn, 1) := by decide +kernel
theorem dX0_makeInode_92 : decode cX0_makeInode 92 = .ok (.aload_n 0, 1) := by decide +kernel
theorem dX0_makeInode_93 : decode cX0_makeInode 93 = .ok (.getfield 31, 3) := by decide +kernel
theorem dX0_makeInode_96 : decode cX0_makeInode 96 = .ok (.iload 4, 2) := by decide +kernel
theorem dX0_makeInode_98 : decode cX0_makeInode 98 = .ok (.invokevirtual 64, 3) := by decide +kernel
theorem dX0_makeInode_101 : decode cX0_makeInode 101 = .ok (.istore 5, 2) := by decide +kernel
theorem dX0_makeInode_103 : decode cX0_makeInode 103 = .ok (.iload_n 3, 1) := by decide +kernel
theorem dX0_makeInode_104 : decode cX0_makeInode 104 = .ok (.iconst 1, 1) := by decide +kernel
theorem dX0_makeInode_105 : decode cX0_makeInode 105 = .ok (.if_icmp .ne 16, 3) := by decide +kernel
theorem dX0_makeInode_108 : decode cX0_makeInode 108 = .ok (.aload_n 0, 1) := by decide +kernel
theorem dX0_makeInode_109 : decode cX0_makeInode 109 = .ok (.getfield 26, 3) := by decide +kernel
theorem dX0_makeInode_112 : decode cX0_makeInode 112 = .ok (.iload 4, 2) := by decide +kernel
theorem dX0_makeInode_114 : decode cX0_makeInode 114 = .ok (.iconst 1, 1) := by decide +kernel
theorem dX0_makeInode_115 : decode cX0_makeInode 115 = .ok (.invokevirtual 67, 3) := by decide +kernel
theorem dX0_makeInode_118 : decode cX0_makeInode 118 = .ok (.goto 5, 3) := by decide +kernel
theorem dX0_makeInode_121 : decode cX0_makeInode 121 = .ok (.bipush (-4), 2) := by decide +kernel
theorem dX0_makeInode_123 : decode cX0_makeInode 123 = .ok (.istore 6, 2) := by decide +kernel
theorem dX0_makeInode_125 : decode cX0_makeInode 125 = .ok (.aload_n 0, 1) := by decide +kernel
theorem dX0_makeInode_126 : decode cX0_makeInode 126 = .ok (.getfield 31, 3) := by decide +kernel
theorem dX0_makeInode_129 : decode cX0_makeInode 129 = .ok (.iload 5, 2) := by decide +kernel
theorem dX0_makeInode_131 : decode cX0_makeInode 131 = .ok (.iload_n 3, 1) := by decide +kernel
theorem dX0_makeInode_132 : decode cX0_makeInode 132 = .ok (.iload_n 1, 1) := by decide +kernel
theorem dX0_makeInode_133 : decode cX0_makeInode 133 = .ok (.iload_n 2, 1) := by decide +kernel
theorem dX0_makeInode_134 : decode cX0_makeInode 134 = .ok (.invokevirtual 70, 3) := by decide +kernel
theorem dX0_makeInode_137 : decode cX0_makeInode 137 = .ok (.aload_n 0, 1) := by decide +kernel
theorem dX0_makeInode_138 : decode cX0_makeInode 138 = .ok (.getfield 31, 3) := by decide +kernel
theorem dX0_makeInode_141 : decode cX0_makeInode 141 = .ok (.iload 5, 2) := by decide +kernel
theorem dX0_makeInode_143 : decode cX0_makeInode 143 = .ok (.iload_n 3, 1) := by decide +kernel
theorem dX0_makeInode_144 : decode cX0_makeInode 144 = .ok (.iconst 1, 1) := by decide +kernel
theorem dX0_makeInode_145 : decode cX0_makeInode 145 = .ok (.if_icmp .ne 7, 3) := by decide +kernel
theorem dX0_makeInode_148 : decode cX0_makeInode 148 = .ok (.iconst 1, 1) := by decide +kernel
theorem dX0_makeInode_149 : decode cX0_makeInode 149 = .ok (.goto 4, 3) := by decide +kernel
theorem dX0_makeInode_152 : decode cX0_makeInode 152 = .ok (.iconst 0, 1) := by decide +kernel
theorem dX0_makeInode_153 : decode cX0_makeInode 153 = .ok (.iload 6, 2) := by decide +kernel
theorem dX0_makeInode_155 : decode cX0_makeInode 155 = .ok (.invokevirtual 74, 3) := by decide +kernel
theorem dX0_makeInode_158 : decode cX0_makeInode 158 = .ok (.iload 5, 2) := by decide +kernel
theorem dX0_makeInode_160 : decode cX0_makeInode 160 = .ok (.ireturn, 1) := by decide +kernel
theorem dX0_lacksRoomFor_0 : decode cX0_lacksRoomFor 0 = .ok (.aload_n 0, 1) := by decide +kernel
theorem dX0_lacksRoomFor_1 : decode cX0_lacksRoomFor 1 = .ok (.getfield 26, 3) := by decide +kernel
theorem dX0_lacksRoomFor_4 : decode cX0_lacksRoomFor 4 = .ok (.invokevirtual 78, 3) := by decide +kernel
theorem dX0_lacksRoomFor_7 : decode cX0_lacksRoomFor 7 = .ok (.iload_n 1, 1) := by decide +kernel
theorem dX0_lacksRoomFor_8 : decode cX0_lacksRoomFor 8 = .ok (.isub, 1) := by decide +kernel
theorem dX0_lacksRoomFor_9 : decode cX0_lacksRoomFor 9 = .ok (.aload_n 0, 1) := by decide +kernel
theorem dX0_lacksRoomFor_10 : decode cX0_lacksRoomFor 10 = .ok (.getfield 21, 3) := by decide +kernel
theorem dX0_lacksRoomFor_13 : decode cX0_lacksRoomFor 13 = .ok (.getfield 82, 3) := by decide +kernel
theorem dX0_lacksRoomFor_16 : decode cX0_lacksRoomFor 16 = .ok (.if_icmp .ge 7, 3) := by decide +kernel
theorem dX0_lacksRoomFor_19 : decode cX0_lacksRoomFor 19 = .ok (.iconst 1, 1) := by decide +kernel
theorem dX0_lacksRoomFor_20 : decode cX0_lacksRoomFor 20 = .ok (.goto 4, 3) := by decide +kernel
theorem dX0_lacksRoomFor_23 : decode cX0_lacksRoomFor 23 = .ok (.iconst 0, 1) := by decide +kernel
theorem dX0_lacksRoomFor_24 : decode cX0_lacksRoomFor 24 = .ok (.ireturn, 1) := by decide +kernel
theorem dX0_growFile_0 : decode cX0_growFile 0 = .ok (.aload_n 0, 1) := by decide +kernel
theorem dX0_growFile_1 : decode cX0_growFile 1 = .ok (.getfield 31, 3) := by decide +kernel
theorem dX0_growFile_4 : decode cX0_growFile 4 = .ok (.iload_n 1, 1) := by decide +kernel
theorem dX0_growFile_5 : decode cX0_growFile 5 = .ok (.invokevirtual 40, 3) := by decide +kernel
theorem dX0_growFile_8 : decode cX0_growFile 8 = .ok (.iconst 2, 1) := by decide +kernel
theorem dX0_growFile_9 : decode cX0_growFile 9 = .ok (.if_icmp .ne 14, 3) := by decide +kernel
theorem dX0_growFile_12 : decode cX0_growFile 12 = .ok (.iload_n 2, 1) := by decide +kernel
theorem dX0_growFile_13 : decode cX0_growFile 13 = .ok (.iconst 1, 1) := by decide +kernel
theorem dX0_growFile_14 : decode cX0_growFile 14 = .ok (.if_icmp .lt 9, 3) := by decide +kernel
theorem dX0_growFile_17 : decode cX0_growFile 17 = .ok (.iload_n 2, 1) := by decide +kernel
theorem dX0_growFile_18 : decode cX0_growFile 18 = .ok (.bipush 40, 2) := by decide +kernel
theorem dX0_growFile_20 : decode cX0_growFile 20 = .ok (.if_icmp .le 5, 3) := by decide +kernel
theorem dX0_growFile_23 : decode cX0_growFile 23 = .ok (.iconst (-1), 1) := by decide +kernel
theorem dX0_growFile_24 : decode cX0_growFile 24 = .ok (.ireturn, 1) := by decide +kernel
theorem dX0_growFile_25 : decode cX0_growFile 25 = .ok (.aload_n 0, 1) := by decide +kernel
theorem dX0_growFile_26 : decode cX0_growFile 26 = .ok (.getfield 9, 3) := by decide +kernel
theorem dX0_growFile_29 : decode cX0_growFile 29 = .ok (.invokevirtual 50, 3) := by decide +kernel
theorem dX0_growFile_32 : decode cX0_growFile 32 = .ok (.ifCond .eq 6, 3) := by decide +kernel
theorem dX0_growFile_35 : decode cX0_growFile 35 = .ok (.bipush (-2), 2) := by decide +kernel
theorem dX0_growFile_37 : decode cX0_growFile 37 = .ok (.ireturn, 1) := by decide +kernel
theorem dX0_growFile_38 : decode cX0_growFile 38 = .ok (.aload_n 0, 1) := by decide +kernel
theorem dX0_growFile_39 : decode cX0_growFile 39 = .ok (.getfield 31, 3) := by decide +kernel
theorem dX0_growFile_42 : decode cX0_growFile 42 = .ok (.iload_n 1, 1) := by decide +kernel
theorem dX0_growFile_43 : decode cX0_growFile 43 = .ok (.invokevirtual 88, 3) := by decide +kernel
theorem dX0_growFile_46 : decode cX0_growFile 46 = .ok (.iload_n 2, 1) := by decide +kernel
theorem dX0_growFile_47 : decode cX0_growFile 47 = .ok (.iadd, 1) := by decide +kernel
theorem dX0_growFile_48 : decode cX0_growFile 48 = .ok (.istore_n 3, 1) := by decide +kernel
theorem dX0_growFile_49 : decode cX0_growFile 49 = .ok (.iload_n 3, 1) := by decide +kernel
theorem dX0_growFile_50 : decode cX0_growFile 50 = .ok (.bipush 40, 2) := by decide +kernel
theorem dX0_growFile_52 : decode cX0_growFile 52 = .ok (.if_icmp .gt 11, 3) := by decide +kernel
theorem dX0_growFile_55 : decode cX0_growFile 55 = .ok (.aload_n 0, 1) := by decide +kernel
theorem dX0_growFile_56 : decode cX0_growFile 56 = .ok (.iload_n 2, 1) := by decide +kernel
theorem dX0_growFile_57 : decode cX0_growFile 57 = .ok (.invokevirtual 61, 3) := by decide +kernel
theorem dX0_growFile_60 : decode cX0_growFile 60 = .ok (.ifCond .eq 6, 3) := by decide +kernel
theorem dX0_growFile_63 : decode cX0_growFile 63 = .ok (.bipush (-3), 2) := by decide +kernel
theorem dX0_growFile_65 : decode cX0_growFile 65 = .ok (.ireturn, 1) := by decide +kernel
theorem dX0_growFile_66 : decode cX0_growFile 66 = .ok (.aload_n 0, 1) := by decide +kernel
theorem dX0_growFile_67 : decode cX0_growFile 67 = .ok (.getfield 37, 3) := by decide +kernel
theorem dX0_growFile_70 : decode cX0_growFile 70 = .ok (.aload_n 0, 1) := by decide +kernel
theorem dX0_growFile_71 : decode cX0_growFile 71 = .ok (.getfield 26, 3) := by decide +kernel
theorem dX0_growFile_74 : decode cX0_growFile 74 = .ok (.invokevirtual 91, 3) := by decide +kernel
theorem dX0_growFile_77 : decode cX0_growFile 77 = .ok (.iload_n 3, 1) := by decide +kernel
theorem dX0_growFile_78 : decode cX0_growFile 78 = .ok (.iconst 4, 1) := by decide +kernel
theorem dX0_growFile_79 : decode cX0_growFile 79 = .ok (.idiv, 1) := by decide +kernel
theorem dX0_growFile_80 : decode cX0_growFile 80 = .ok (.aload_n 0, 1) := by decide +kernel
theorem dX0_growFile_81 : decode cX0_growFile 81 = .ok (.getfield 31, 3) := by decide +kernel
theorem dX0_growFile_84 : decode cX0_growFile 84 = .ok (.iload_n 1, 1) := by decide +kernel
theorem dX0_growFile_85 : decode cX0_growFile 85 = .ok (.invokevirtual 95, 3) := by decide +kernel
theorem dX0_growFile_88 : decode cX0_growFile 88 = .ok (.if_icmp .ne 12, 3) := by decide +kernel
theorem dX0_growFile_91 : decode cX0_growFile 91 = .ok (.aload_n 0, 1) := by decide +kernel
theorem dX0_growFile_92 : decode cX0_growFile 92 = .ok (.iload_n 1, 1) := by decide +kernel
theorem dX0_growFile_93 : decode cX0_growFile 93 = .ok (.iload_n 3, 1) := by decide +kernel
theorem dX0_growFile_94 : decode cX0_growFile 94 = .ok (.invokevirtual 98, 3) := by decide +kernel
theorem dX0_growFile_97 : decode cX0_growFile 97 = .ok (.goto 9, 3) := by decide +kernel
theorem dX0_growFile_100 : decode cX0_growFile 100 = .ok (.aload_n 0, 1) := by decide +kernel
theorem dX0_growFile_101 : decode cX0_growFile 101 = .ok (.iload_n 1, 1) := by decide +kernel
theorem dX0_growFile_102 : decode cX0_growFile 102 = .ok (.iload_n 3, 1) := by decide +kernel
theorem dX0_growFile_103 : decode cX0_growFile 103 = .ok (.invokevirtual 102, 3) := by decide +kernel
theorem dX0_growFile_106 : decode cX0_growFile 106 = .ok (.istore 4, 2) := by decide +kernel
theorem dX0_growFile_108 : decode cX0_growFile 108 = .ok (.iload 4, 2) := by decide +kernel
theorem dX0_growFile_110 : decode cX0_growFile 110 = .ok (.ifCond .ne 17, 3) := by decide +kernel
theorem dX0_growFile_113 : decode cX0_growFile 113 = .ok (.aload_n 0, 1) := by decide +kernel
theorem dX0_growFile_114 : decode cX0_growFile 114 = .ok (.getfield 26, 3) := by decide +kernel
theorem dX0_growFile_117 : decode cX0_growFile 117 = .ok (.aload_n 0, 1) := by decide +kernel
theorem dX0_growFile_118 : decode cX0_growFile 118 = .ok (.getfield 37, 3) := by decide +kernel
theorem dX0_growFile_121 : decode cX0_growFile 121 = .ok (.invokevirtual 91, 3) := by decide +kernel
theorem dX0_growFile_124 : decode cX0_growFile 124 = .ok (.bipush (-3), 2) := by decide +kernel
theorem dX0_growFile_126 : decode cX0_growFile 126 = .ok (.ireturn, 1) := by decide +kernel
theorem dX0_growFile_127 : decode cX0_growFile 127 = .ok (.iload_n 3, 1) := by decide +kernel
theorem dX0_growFile_128 : decode cX0_growFile 128 = .ok (.ireturn, 1) := by decide +kernel
theorem dX0_layTail_0 : decode cX0_layTail 0 = .ok (.aload_n 0, 1) := by decide +kernel
theorem dX0_layTail_1 : decode cX0_layTail 1 = .ok (.getfield 31, 3) := by decide +kernel
theorem dX0_layTail_4 : decode cX0_layTail 4 = .ok (.iload_n 1, 1) := by decide +kernel
theorem dX0_layTail_5 : decode cX0_layTail 5 = .ok (.invokevirtual 105, 3) := by decide +kernel
theorem dX0_layTail_8 : decode cX0_layTail 8 = .ok (.istore_n 3, 1) := by decide +kernel
theorem dX0_layTail_9 : decode cX0_layTail 9 = .ok (.aload_n 0, 1) := by decide +kernel
theorem dX0_layTail_10 : decode cX0_layTail 10 = .ok (.getfield 31, 3) := by decide +kernel
theorem dX0_layTail_13 : decode cX0_layTail 13 = .ok (.iload_n 1, 1) := by decide +kernel
theorem dX0_layTail_14 : decode cX0_layTail 14 = .ok (.invokevirtual 108, 3) := by decide +kernel
theorem dX0_layTail_17 : decode cX0_layTail 17 = .ok (.istore 4, 2) := by decide +kernel
theorem dX0_layTail_19 : decode cX0_layTail 19 = .ok (.iload_n 2, 1) := by decide +kernel
theorem dX0_layTail_20 : decode cX0_layTail 20 = .ok (.iconst 4, 1) := by decide +kernel
theorem dX0_layTail_21 : decode cX0_layTail 21 = .ok (.irem, 1) := by decide +kernel
theorem dX0_layTail_22 : decode cX0_layTail 22 = .ok (.iload_n 3, 1) := by decide +kernel
theorem dX0_layTail_23 : decode cX0_layTail 23 = .ok (.isub, 1) := by decide +kernel
theorem dX0_layTail_24 : decode cX0_layTail 24 = .ok (.istore 5, 2) := by decide +kernel
theorem dX0_layTail_26 : decode cX0_layTail 26 = .ok (.iload_n 3, 1) := by decide +kernel
theorem dX0_layTail_27 : decode cX0_layTail 27 = .ok (.ifCond .le 20, 3) := by decide +kernel
theorem dX0_layTail_30 : decode cX0_layTail 30 = .ok (.iload 4, 2) := by decide +kernel
theorem dX0_layTail_32 : decode cX0_layTail 32 = .ok (.iconst 4, 1) := by decide +kernel
theorem dX0_layTail_33 : decode cX0_layTail 33 = .ok (.irem, 1) := by decide +kernel
theorem dX0_layTail_34 : decode cX0_layTail 34 = .ok (.iload_n 3, 1) := by decide +kernel
theorem dX0_layTail_35 : decode cX0_layTail 35 = .ok (.iadd, 1) := by decide +kernel
theorem dX0_layTail_36 : decode cX0_layTail 36 = .ok (.iload 5, 2) := by decide +kernel
theorem dX0_layTail_38 : decode cX0_layTail 38 = .ok (.iadd, 1) := by decide +kernel
theorem dX0_layTail_39 : decode cX0_layTail 39 = .ok (.iconst 4, 1) := by decide +kernel
theorem dX0_layTail_40 : decode cX0_layTail 40 = .ok (.if_icmp .gt 7, 3) := by decide +kernel
theorem dX0_layTail_43 : decode cX0_layTail 43 = .ok (.iconst 1, 1) := by decide +kernel
theorem dX0_layTail_44 : decode cX0_layTail 44 = .ok (.goto 4, 3) := by decide +kernel
theorem dX0_layTail_47 : decode cX0_layTail 47 = .ok (.iconst 0, 1) := by decide +kernel
theorem dX0_layTail_48 : decode cX0_layTail 48 = .ok (.istore 6, 2) := by decide +kernel
theorem dX0_layTail_50 : decode cX0_layTail 50 = .ok (.iload 6, 2) := by decide +kernel
theorem dX0_layTail_52 : decode cX0_layTail 52 = .ok (.ifCond .eq 59, 3) := by decide +kernel
theorem dX0_layTail_55 : decode cX0_layTail 55 = .ok (.aload_n 0, 1) := by decide +kernel
theorem dX0_layTail_56 : decode cX0_layTail 56 = .ok (.getfield 26, 3) := by decide +kernel
theorem dX0_layTail_59 : decode cX0_layTail 59 = .ok (.iload 4, 2) := by decide +kernel
theorem dX0_layTail_61 : decode cX0_layTail 61 = .ok (.iload_n 3, 1) := by decide +kernel
theorem dX0_layTail_62 : decode cX0_layTail 62 = .ok (.iadd, 1) := by decide +kernel
theorem dX0_layTail_63 : decode cX0_layTail 63 = .ok (.iload 5, 2) := by decide +kernel
theorem dX0_layTail_65 : decode cX0_layTail 65 = .ok (.invokevirtual 111, 3) := by decide +kernel
theorem dX0_layTail_68 : decode cX0_layTail 68 = .ok (.ifCond .eq 43, 3) := by decide +kernel
theorem dX0_layTail_71 : decode cX0_layTail 71 = .ok (.aload_n 0, 1) := by decide +kernel
theorem dX0_layTail_72 : decode cX0_layTail 72 = .ok (.getfield 26, 3) := by decide +kernel
theorem dX0_layTail_75 : decode cX0_layTail 75 = .ok (.iload 4, 2) := by decide +kernel
theorem dX0_layTail_77 : decode cX0_layTail 77 = .ok (.iload_n 3, 1) := by decide +kernel
theorem dX0_layTail_78 : decode cX0_layTail 78 = .ok (.iadd, 1) := by decide +kernel
theorem dX0_layTail_79 : decode cX0_layTail 79 = .ok (.iload 5, 2) := by decide +kernel
theorem dX0_layTail_81 : decode cX0_layTail 81 = .ok (.iconst 0, 1) := by decide +kernel
theorem dX0_layTail_82 : decode cX0_layTail 82 = .ok (.invokevirtual 114, 3) := by decide +kernel
theorem dX0_layTail_85 : decode cX0_layTail 85 = .ok (.aload_n 0, 1) := by decide +kernel
theorem dX0_layTail_86 : decode cX0_layTail 86 = .ok (.getfield 9, 3) := by decide +kernel
theorem dX0_layTail_89 : decode cX0_layTail 89 = .ok (.dup, 1) := by decide +kernel
theorem dX0_layTail_90 : decode cX0_layTail 90 = .ok (.getfield 118, 3) := by decide +kernel
theorem dX0_layTail_93 : decode cX0_layTail 93 = .ok (.iconst 1, 1) := by decide +kernel
theorem dX0_layTail_94 : decode cX0_layTail 94 = .ok (.iadd, 1) := by decide +kernel
theorem dX0_layTail_95 : decode cX0_layTail 95 = .ok (.putfield 118, 3) := by decide +kernel
theorem dX0_layTail_98 : decode cX0_layTail 98 = .ok (.aload_n 0, 1) := by decide +kernel
theorem dX0_layTail_99 : decode cX0_layTail 99 = .ok (.getfield 31, 3) := by decide +kernel
theorem dX0_layTail_102 : decode cX0_layTail 102 = .ok (.iload_n 1, 1) := by decide +kernel
theorem dX0_layTail_103 : decode cX0_layTail 103 = .ok (.iload_n 2, 1) := by decide +kernel
theorem dX0_layTail_104 : decode cX0_layTail 104 = .ok (.iload 4, 2) := by decide +kernel
theorem dX0_layTail_106 : decode cX0_layTail 106 = .ok (.invokevirtual 74, 3) := by decide +kernel
theorem dX0_layTail_109 : decode cX0_layTail 109 = .ok (.iconst 1, 1) := by decide +kernel
theorem dX0_layTail_110 : decode cX0_layTail 110 = .ok (.ireturn, 1) := by decide +kernel
theorem dX0_layTail_111 : decode cX0_layTail 111 = .ok (.aload_n 0, 1) := by decide +kernel
theorem dX0_layTail_112 : decode cX0_layTail 112 = .ok (.getfield 26, 3) := by decide +kernel
theorem dX0_layTail_115 : decode cX0_layTail 115 = .ok (.aload_n 0, 1) := by decide +kernel
theorem dX0_layTail_116 : decode cX0_layTail 116 = .ok (.iload_n 1, 1) := by decide +kernel
theorem dX0_layTail_117 : decode cX0_layTail 117 = .ok (.aload_n 0, 1) := by decide +kernel
theorem dX0_layTail_118 : decode cX0_layTail 118 = .ok (.getfield 31, 3) := by decide +kernel
theorem dX0_layTail_121 : decode cX0_layTail 121 = .ok (.iload_n 1, 1) := by decide +kernel
theorem dX0_layTail_122 : decode cX0_layTail 122 = .ok (.invokevirtual 95, 3) := by decide +kernel
theorem dX0_layTail_125 : decode cX0_layTail 125 = .ok (.invokevirtual 121, 3) := by decide +kernel
theorem dX0_layTail_128 : decode cX0_layTail 128 = .ok (.iload_n 2, 1) := by decide +kernel
theorem dX0_layTail_129 : decode cX0_layTail 129 = .ok (.iconst 4, 1) := by decide +kernel
theorem dX0_layTail_130 : decode cX0_layTail 130 = .ok (.irem, 1) := by decide +kernel
theorem dX0_layTail_131 : decode cX0_layTail 131 = .ok (.invokevirtual 67, 3) := by decide +kernel
theorem dX0_layTail_134 : decode cX0_layTail 134 = .ok (.istore 7, 2) := by decide +kernel
theorem dX0_layTail_136 : decode cX0_layTail 136 = .ok (.iload 7, 2) := by decide +kernel
theorem dX0_layTail_138 : decode cX0_layTail 138 = .ok (.bipush (-4), 2) := by decide +kernel
theorem dX0_layTail_140 : decode cX0_layTail 140 = .ok (.if_icmp .ne 5, 3) := by decide +kernel
theorem dX0_layTail_143 : decode cX0_layTail 143 = .ok (.iconst 0, 1) := by decide +kernel
theorem dX0_layTail_144 : decode cX0_layTail 144 = .ok (.ireturn, 1) := by decide +kernel
theorem dX0_layTail_145 : decode cX0_layTail 145 = .ok (.iload_n 3, 1) := by decide +kernel
theorem dX0_layTail_146 : decode cX0_layTail 146 = .ok (.ifCond .le 27, 3) := by decide +kernel
theorem dX0_layTail_149 : decode cX0_layTail 149 = .ok (.aload_n 0, 1) := by decide +kernel
theorem dX0_layTail_150 : decode cX0_layTail 150 = .ok (.getfield 26, 3) := by decide +kernel
theorem dX0_layTail_153 : decode cX0_layTail 153 = .ok (.iload 4, 2) := by decide +kernel
theorem dX0_layTail_155 : decode cX0_layTail 155 = .ok (.iload_n 3, 1) := by decide +kernel
theorem dX0_layTail_156 : decode cX0_layTail 156 = .ok (.iconst 1, 1) := by decide +kernel
theorem dX0_layTail_157 : decode cX0_layTail 157 = .ok (.invokevirtual 114, 3) := by decide +kernel
theorem dX0_layTail_160 : decode cX0_layTail 160 = .ok (.aload_n 0, 1) := by decide +kernel
theorem dX0_layTail_161 : decode cX0_layTail 161 = .ok (.getfield 9, 3) := by decide +kernel
theorem dX0_layTail_164 : decode cX0_layTail 164 = .ok (.dup, 1) := by decide +kernel
theorem dX0_layTail_165 : decode cX0_layTail 165 = .ok (.getfield 124, 3) := by decide +kernel
theorem dX0_layTail_168 : decode cX0_layTail 168 = .ok (.iconst 1, 1) := by decide +kernel
theorem dX0_layTail_169 : decode cX0_layTail 169 = .ok (.iadd, 1) := by decide +kernel
theorem dX0_layTail_170 : decode cX0_layTail 170 = .ok (.putfield 124, 3) := by decide +kernel
theorem dX0_layTail_173 : decode cX0_layTail 173 = .ok (.aload_n 0, 1) := by decide +kernel
theorem dX0_layTail_174 : decode cX0_layTail 174 = .ok (.getfield 31, 3) := by decide +kernel
theorem dX0_layTail_177 : decode cX0_layTail 177 = .ok (.iload_n 1, 1) := by decide +kernel
theorem dX0_layTail_178 : decode cX0_layTail 178 = .ok (.iload_n 2, 1) := by decide +kernel
theorem dX0_layTail_179 : decode cX0_layTail 179 = .ok (.iload 7, 2) := by decide +kernel
theorem dX0_layTail_181 : decode cX0_layTail 181 = .ok (.invokevirtual 74, 3) := by decide +kernel
theorem dX0_layTail_184 : decode cX0_layTail 184 = .ok (.iconst 1, 1) := by decide +kernel
theorem dX0_layTail_185 : decode cX0_layTail 185 = .ok (.ireturn, 1) := by decide +kernel
theorem dX0_layBlocks_0 : decode cX0_layBlocks 0 = .ok (.aload_n 0, 1) := by decide +kernel
theorem dX0_layBlocks_1 : decode cX0_layBlocks 1 = .ok (.getfield 31, 3) := by decide +kernel
theorem dX0_layBlocks_4 : decode cX0_layBlocks 4 = .ok (.iload_n 1, 1) := by decide +kernel
theorem dX0_layBlocks_5 : decode cX0_layBlocks 5 = .ok (.invokevirtual 105, 3) := by decide +kernel
theorem dX0_layBlocks_8 : decode cX0_layBlocks 8 = .ok (.istore_n 3, 1) := by decide +kernel
theorem dX0_layBlocks_9 : decode cX0_layBlocks 9 = .ok (.aload_n 0, 1) := by decide +kernel
theorem dX0_layBlocks_10 : decode cX0_layBlocks 10 = .ok (.getfield 31, 3) := by decide +kernel
theorem dX0_layBlocks_13 : decode cX0_layBlocks 13 = .ok (.iload_n 1, 1) := by decide +kernel
theorem dX0_layBlocks_14 : decode cX0_layBlocks 14 = .ok (.invokevirtual 108, 3) := by decide +kernel
theorem dX0_layBlocks_17 : decode cX0_layBlocks 17 = .ok (.istore 4, 2) := by decide +kernel
theorem dX0_layBlocks_19 : decode cX0_layBlocks 19 = .ok (.aload_n 0, 1) := by decide +kernel
theorem dX0_layBlocks_20 : decode cX0_layBlocks 20 = .ok (.getfield 31, 3) := by decide +kernel
theorem dX0_layBlocks_23 : decode cX0_layBlocks 23 = .ok (.iload_n 1, 1) := by decide +kernel
theorem dX0_layBlocks_24 : decode cX0_layBlocks 24 = .ok (.invokevirtual 95, 3) := by decide +kernel
theorem dX0_layBlocks_27 : decode cX0_layBlocks 27 = .ok (.istore 5, 2) := by decide +kernel
theorem dX0_layBlocks_29 : decode cX0_layBlocks 29 = .ok (.iload_n 3, 1) := by decide +kernel
theorem dX0_layBlocks_30 : decode cX0_layBlocks 30 = .ok (.ifCond .le 31, 3) := by decide +kernel
theorem dX0_layBlocks_33 : decode cX0_layBlocks 33 = .ok (.iload 4, 2) := by decide +kernel
theorem dX0_layBlocks_35 : decode cX0_layBlocks 35 = .ok (.iconst 4, 1) := by decide +kernel
theorem dX0_layBlocks_36 : decode cX0_layBlocks 36 = .ok (.irem, 1) := by decide +kernel
theorem dX0_layBlocks_37 : decode cX0_layBlocks 37 = .ok (.ifCond .ne 24, 3) := by decide +kernel
theorem dX0_layBlocks_40 : decode cX0_layBlocks 40 = .ok (.aload_n 0, 1) := by decide +kernel
theorem dX0_layBlocks_41 : decode cX0_layBlocks 41 = .ok (.getfield 26, 3) := by decide +kernel
theorem dX0_layBlocks_44 : decode cX0_layBlocks 44 = .ok (.iload 4, 2) := by decide +kernel
theorem dX0_layBlocks_46 : decode cX0_layBlocks 46 = .ok (.iload_n 3, 1) := by decide +kernel
theorem dX0_layBlocks_47 : decode cX0_layBlocks 47 = .ok (.iadd, 1) := by decide +kernel
theorem dX0_layBlocks_48 : decode cX0_layBlocks 48 = .ok (.iconst 4, 1) := by decide +kernel
theorem dX0_layBlocks_49 : decode cX0_layBlocks 49 = .ok (.iload_n 3, 1) := by decide +kernel
theorem dX0_layBlocks_50 : decode cX0_layBlocks 50 = .ok (.isub, 1) := by decide +kernel
theorem dX0_layBlocks_51 : decode cX0_layBlocks 51 = .ok (.invokevirtual 111, 3) := by decide +kernel
theorem dX0_layBlocks_54 : decode cX0_layBlocks 54 = .ok (.ifCond .eq 7, 3) := by decide +kernel
theorem dX0_layBlocks_57 : decode cX0_layBlocks 57 = .ok (.iconst 1, 1) := by decide +kernel
theorem dX0_layBlocks_58 : decode cX0_layBlocks 58 = .ok (.goto 4, 3) := by decide +kernel
theorem dX0_layBlocks_61 : decode cX0_layBlocks 61 = .ok (.iconst 0, 1) := by decide +kernel
theorem dX0_layBlocks_62 : decode cX0_layBlocks 62 = .ok (.istore 6, 2) := by decide +kernel
theorem dX0_layBlocks_64 : decode cX0_layBlocks 64 = .ok (.iload 6, 2) := by decide +kernel
theorem dX0_layBlocks_66 : decode cX0_layBlocks 66 = .ok (.ifCond .eq 31, 3) := by decide +kernel
theorem dX0_layBlocks_69 : decode cX0_layBlocks 69 = .ok (.aload_n 0, 1) := by decide +kernel
theorem dX0_layBlocks_70 : decode cX0_layBlocks 70 = .ok (.getfield 26, 3) := by decide +kernel
theorem dX0_layBlocks_73 : decode cX0_layBlocks 73 = .ok (.iload 4, 2) := by decide +kernel
theorem dX0_layBlocks_75 : decode cX0_layBlocks 75 = .ok (.iconst 4, 1) := by decide +kernel
theorem dX0_layBlocks_76 : decode cX0_layBlocks 76 = .ok (.iconst 0, 1) := by decide +kernel
theorem dX0_layBlocks_77 : decode cX0_layBlocks 77 = .ok (.invokevirtual 114, 3) := by decide +kernel
theorem dX0_layBlocks_80 : decode cX0_layBlocks 80 = .ok (.aload_n 0, 1) := by decide +kernel
theorem dX0_layBlocks_81 : decode cX0_layBlocks 81 = .ok (.getfield 31, 3) := by decide +kernel
theorem dX0_layBlocks_84 : decode cX0_layBlocks 84 = .ok (.iload_n 1, 1) := by decide +kernel
theorem dX0_layBlocks_85 : decode cX0_layBlocks 85 = .ok (.iload 5, 2) := by decide +kernel
theorem dX0_layBlocks_87 : decode cX0_layBlocks 87 = .ok (.iload 4, 2) := by decide +kernel
theorem dX0_layBlocks_89 : decode cX0_layBlocks 89 = .ok (.iconst 4, 1) := by decide +kernel
theorem dX0_layBlocks_90 : decode cX0_layBlocks 90 = .ok (.idiv, 1) := by decide +kernel
theorem dX0_layBlocks_91 : decode cX0_layBlocks 91 = .ok (.invokevirtual 127, 3) := by decide +kernel
theorem dX0_layBlocks_94 : decode cX0_layBlocks 94 = .ok (.goto 26, 3) := by decide +kernel
theorem dX0_layBlocks_97 : decode cX0_layBlocks 97 = .ok (.aload_n 0, 1) := by decide +kernel
theorem dX0_layBlocks_98 : decode cX0_layBlocks 98 = .ok (.iload_n 1, 1) := by decide +kernel
theorem dX0_layBlocks_99 : decode cX0_layBlocks 99 = .ok (.iload 5, 2) := by decide +kernel
theorem dX0_layBlocks_101 : decode cX0_layBlocks 101 = .ok (.invokevirtual 130, 3) := by decide +kernel
theorem dX0_layBlocks_104 : decode cX0_layBlocks 104 = .ok (.ifCond .ne 5, 3) := by decide +kernel
theorem dX0_layBlocks_107 : decode cX0_layBlocks 107 = .ok (.iconst 0, 1) := by decide +kernel
theorem dX0_layBlocks_108 : decode cX0_layBlocks 108 = .ok (.ireturn, 1) := by decide +kernel
theorem dX0_layBlocks_109 : decode cX0_layBlocks 109 = .ok (.aload_n 0, 1) := by decide +kernel
theorem dX0_layBlocks_110 : decode cX0_layBlocks 110 = .ok (.getfield 26, 3) := by decide +kernel
theorem dX0_layBlocks_113 : decode cX0_layBlocks 113 = .ok (.iload 4, 2) := by decide +kernel
theorem dX0_layBlocks_115 : decode cX0_layBlocks 115 = .ok (.iload_n 3, 1) := by decide +kernel
theorem dX0_layBlocks_116 : decode cX0_layBlocks 116 = .ok (.iconst 1, 1) := by decide +kernel
theorem dX0_layBlocks_117 : decode cX0_layBlocks 117 = .ok (.invokevirtual 114, 3) := by decide +kernel
theorem dX0_layBlocks_120 : decode cX0_layBlocks 120 = .ok (.iload 5, 2) := by decide +kernel
theorem dX0_layBlocks_122 : decode cX0_layBlocks 122 = .ok (.iconst 1, 1) := by decide +kernel
theorem dX0_layBlocks_123 : decode cX0_layBlocks 123 = .ok (.iadd, 1) := by decide +kernel
theorem dX0_layBlocks_124 : decode cX0_layBlocks 124 = .ok (.istore 7, 2) := by decide +kernel
theorem dX0_layBlocks_126 : decode cX0_layBlocks 126 = .ok (.iload 7, 2) := by decide +kernel
theorem dX0_layBlocks_128 : decode cX0_layBlocks 128 = .ok (.iload_n 2, 1) := by decide +kernel
theorem dX0_layBlocks_129 : decode cX0_layBlocks 129 = .ok (.iconst 4, 1) := by decide +kernel
theorem dX0_layBlocks_130 : decode cX0_layBlocks 130 = .ok (.idiv, 1) := by decide +kernel
theorem dX0_layBlocks_131 : decode cX0_layBlocks 131 = .ok (.if_icmp .ge 21, 3) := by decide +kernel
theorem dX0_layBlocks_134 : decode cX0_layBlocks 134 = .ok (.aload_n 0, 1) := by decide +kernel
theorem dX0_layBlocks_135 : decode cX0_layBlocks 135 = .ok (.iload_n 1, 1) := by decide +kernel
theorem dX0_layBlocks_136 : decode cX0_layBlocks 136 = .ok (.iload 7, 2) := by decide +kernel
theorem dX0_layBlocks_138 : decode cX0_layBlocks 138 = .ok (.invokevirtual 130, 3) := by decide +kernel
theorem dX0_layBlocks_141 : decode cX0_layBlocks 141 = .ok (.ifCond .ne 5, 3) := by decide +kernel
theorem dX0_layBlocks_144 : decode cX0_layBlocks 144 = .ok (.iconst 0, 1) := by decide +kernel
theorem dX0_layBlocks_145 : decode cX0_layBlocks 145 = .ok (.ireturn, 1) := by decide +kernel
theorem dX0_layBlocks_146 : decode cX0_layBlocks 146 = .ok (.iinc 7 1, 3) := by decide +kernel
theorem dX0_layBlocks_149 : decode cX0_layBlocks 149 = .ok (.goto (-23), 3) := by decide +kernel
theorem dX0_layBlocks_152 : decode cX0_layBlocks 152 = .ok (.bipush (-4), 2) := by decide +kernel
theorem dX0_layBlocks_154 : decode cX0_layBlocks 154 = .ok (.istore 7, 2) := by decide +kernel
theorem dX0_layBlocks_156 : decode cX0_layBlocks 156 = .ok (.iload_n 2, 1) := by decide +kernel
theorem dX0_layBlocks_157 : decode cX0_layBlocks 157 = .ok (.iconst 4, 1) := by decide +kernel
theorem dX0_layBlocks_158 : decode cX0_layBlocks 158 = .ok (.irem, 1) := by decide +kernel
theorem dX0_layBlocks_159 : decode cX0_layBlocks 159 = .ok (.ifCond .le 32, 3) := by decide +kernel
theorem dX0_layBlocks_162 : decode cX0_layBlocks 162 = .ok (.aload_n 0, 1) := by decide +kernel
theorem dX0_layBlocks_163 : decode cX0_layBlocks 163 = .ok (.getfield 26, 3) := by decide +kernel
theorem dX0_layBlocks_166 : decode cX0_layBlocks 166 = .ok (.aload_n 0, 1) := by decide +kernel
theorem dX0_layBlocks_167 : decode cX0_layBlocks 167 = .ok (.iload_n 1, 1) := by decide +kernel
theorem dX0_layBlocks_168 : decode cX0_layBlocks 168 = .ok (.iload_n 2, 1) := by decide +kernel
theorem dX0_layBlocks_169 : decode cX0_layBlocks 169 = .ok (.iconst 4, 1) := by decide +kernel
theorem dX0_layBlocks_170 : decode cX0_layBlocks 170 = .ok (.idiv, 1) := by decide +kernel
theorem dX0_layBlocks_171 : decode cX0_layBlocks 171 = .ok (.invokevirtual 121, 3) := by decide +kernel
theorem dX0_layBlocks_174 : decode cX0_layBlocks 174 = .ok (.iload_n 2, 1) := by decide +kernel
theorem dX0_layBlocks_175 : decode cX0_layBlocks 175 = .ok (.iconst 4, 1) := by decide +kernel
theorem dX0_layBlocks_176 : decode cX0_layBlocks 176 = .ok (.irem, 1) := by decide +kernel
theorem dX0_layBlocks_177 : decode cX0_layBlocks 177 = .ok (.invokevirtual 67, 3) := by decide +kernel
theorem dX0_layBlocks_180 : decode cX0_layBlocks 180 = .ok (.istore 7, 2) := by decide +kernel
theorem dX0_layBlocks_182 : decode cX0_layBlocks 182 = .ok (.iload 7, 2) := by decide +kernel
theorem dX0_layBlocks_184 : decode cX0_layBlocks 184 = .ok (.bipush (-4), 2) := by decide +kernel
theorem dX0_layBlocks_186 : decode cX0_layBlocks 186 = .ok (.if_icmp .ne 5, 3) := by decide +kernel
theorem dX0_layBlocks_189 : decode cX0_layBlocks 189 = .ok (.iconst 0, 1) := by decide +kernel
theorem dX0_layBlocks_190 : decode cX0_layBlocks 190 = .ok (.ireturn, 1) := by decide +kernel
theorem dX0_layBlocks_191 : decode cX0_layBlocks 191 = .ok (.aload_n 0, 1) := by decide +kernel
theorem dX0_layBlocks_192 : decode cX0_layBlocks 192 = .ok (.getfield 9, 3) := by decide +kernel
theorem dX0_layBlocks_195 : decode cX0_layBlocks 195 = .ok (.dup, 1) := by decide +kernel
theorem dX0_layBlocks_196 : decode cX0_layBlocks 196 = .ok (.getfield 118, 3) := by decide +kernel
theorem dX0_layBlocks_199 : decode cX0_layBlocks 199 = .ok (.iload 6, 2) := by decide +kernel
theorem dX0_layBlocks_201 : decode cX0_layBlocks 201 = .ok (.ifCond .eq 7, 3) := by decide +kernel
theorem dX0_layBlocks_204 : decode cX0_layBlocks 204 = .ok (.iconst 1, 1) := by decide +kernel
theorem dX0_layBlocks_205 : decode cX0_layBlocks 205 = .ok (.goto 4, 3) := by decide +kernel
theorem dX0_layBlocks_208 : decode cX0_layBlocks 208 = .ok (.iconst 0, 1) := by decide +kernel
theorem dX0_layBlocks_209 : decode cX0_layBlocks 209 = .ok (.iadd, 1) := by decide +kernel
theorem dX0_layBlocks_210 : decode cX0_layBlocks 210 = .ok (.putfield 118, 3) := by decide +kernel
theorem dX0_layBlocks_213 : decode cX0_layBlocks 213 = .ok (.aload_n 0, 1) := by decide +kernel
theorem dX0_layBlocks_214 : decode cX0_layBlocks 214 = .ok (.getfield 9, 3) := by decide +kernel
theorem dX0_layBlocks_217 : decode cX0_layBlocks 217 = .ok (.dup, 1) := by decide +kernel
theorem dX0_layBlocks_218 : decode cX0_layBlocks 218 = .ok (.getfield 124, 3) := by decide +kernel
theorem dX0_layBlocks_221 : decode cX0_layBlocks 221 = .ok (.iload_n 3, 1) := by decide +kernel
theorem dX0_layBlocks_222 : decode cX0_layBlocks 222 = .ok (.ifCond .le 12, 3) := by decide +kernel
theorem dX0_layBlocks_225 : decode cX0_layBlocks 225 = .ok (.iload 6, 2) := by decide +kernel
theorem dX0_layBlocks_227 : decode cX0_layBlocks 227 = .ok (.ifCond .ne 7, 3) := by decide +kernel
theorem dX0_layBlocks_230 : decode cX0_layBlocks 230 = .ok (.iconst 1, 1) := by decide +kernel
theorem dX0_layBlocks_231 : decode cX0_layBlocks 231 = .ok (.goto 4, 3) := by decide +kernel
theorem dX0_layBlocks_234 : decode cX0_layBlocks 234 = .ok (.iconst 0, 1) := by decide +kernel
theorem dX0_layBlocks_235 : decode cX0_layBlocks 235 = .ok (.iadd, 1) := by decide +kernel
theorem dX0_layBlocks_236 : decode cX0_layBlocks 236 = .ok (.putfield 124, 3) := by decide +kernel
theorem dX0_layBlocks_239 : decode cX0_layBlocks 239 = .ok (.aload_n 0, 1) := by decide +kernel
theorem dX0_layBlocks_240 : decode cX0_layBlocks 240 = .ok (.getfield 31, 3) := by decide +kernel
theorem dX0_layBlocks_243 : decode cX0_layBlocks 243 = .ok (.iload_n 1, 1) := by decide +kernel
theorem dX0_layBlocks_244 : decode cX0_layBlocks 244 = .ok (.iload_n 2, 1) := by decide +kernel
theorem dX0_layBlocks_245 : decode cX0_layBlocks 245 = .ok (.iload 7, 2) := by decide +kernel
theorem dX0_layBlocks_247 : decode cX0_layBlocks 247 = .ok (.invokevirtual 74, 3) := by decide +kernel
theorem dX0_layBlocks_250 : decode cX0_layBlocks 250 = .ok (.iconst 1, 1) := by decide +kernel
theorem dX0_layBlocks_251 : decode cX0_layBlocks 251 = .ok (.ireturn, 1) := by decide +kernel
theorem dX0_layBlock_0 : decode cX0_layBlock 0 = .ok (.aload_n 0, 1) := by decide +kernel
theorem dX0_layBlock_1 : decode cX0_layBlock 1 = .ok (.getfield 31, 3) := by decide +kernel
theorem dX0_layBlock_4 : decode cX0_layBlock 4 = .ok (.iload_n 1, 1) := by decide +kernel
theorem dX0_layBlock_5 : decode cX0_layBlock 5 = .ok (.iload_n 2, 1) := by decide +kernel
theorem dX0_layBlock_6 : decode cX0_layBlock 6 = .ok (.iconst 1, 1) := by decide +kernel
theorem dX0_layBlock_7 : decode cX0_layBlock 7 = .ok (.isub, 1) := by decide +kernel
theorem dX0_layBlock_8 : decode cX0_layBlock 8 = .ok (.invokevirtual 133, 3) := by decide +kernel
theorem dX0_layBlock_11 : decode cX0_layBlock 11 = .ok (.istore_n 3, 1) := by decide +kernel
theorem dX0_layBlock_12 : decode cX0_layBlock 12 = .ok (.iload_n 2, 1) := by decide +kernel
theorem dX0_layBlock_13 : decode cX0_layBlock 13 = .ok (.ifCond .ne 14, 3) := by decide +kernel
theorem dX0_layBlock_16 : decode cX0_layBlock 16 = .ok (.aload_n 0, 1) := by decide +kernel
theorem dX0_layBlock_17 : decode cX0_layBlock 17 = .ok (.getfield 21, 3) := by decide +kernel
theorem dX0_layBlock_20 : decode cX0_layBlock 20 = .ok (.iload_n 1, 1) := by decide +kernel
theorem dX0_layBlock_21 : decode cX0_layBlock 21 = .ok (.invokevirtual 136, 3) := by decide +kernel
theorem dX0_layBlock_24 : decode cX0_layBlock 24 = .ok (.goto 11, 3) := by decide +kernel
theorem dX0_layBlock_27 : decode cX0_layBlock 27 = .ok (.aload_n 0, 1) := by decide +kernel
theorem dX0_layBlock_28 : decode cX0_layBlock 28 = .ok (.getfield 21, 3) := by decide +kernel
theorem dX0_layBlock_31 : decode cX0_layBlock 31 = .ok (.iload_n 3, 1) := by decide +kernel
theorem dX0_layBlock_32 : decode cX0_layBlock 32 = .ok (.invokevirtual 139, 3) := by decide +kernel
theorem dX0_layBlock_35 : decode cX0_layBlock 35 = .ok (.istore 4, 2) := by decide +kernel
theorem dX0_layBlock_37 : decode cX0_layBlock 37 = .ok (.iconst 0, 1) := by decide +kernel
theorem dX0_layBlock_38 : decode cX0_layBlock 38 = .ok (.istore 5, 2) := by decide +kernel
theorem dX0_layBlock_40 : decode cX0_layBlock 40 = .ok (.iload_n 2, 1) := by decide +kernel
theorem dX0_layBlock_41 : decode cX0_layBlock 41 = .ok (.ifCond .le 28, 3) := by decide +kernel
theorem dX0_layBlock_44 : decode cX0_layBlock 44 = .ok (.aload_n 0, 1) := by decide +kernel
theorem dX0_layBlock_45 : decode cX0_layBlock 45 = .ok (.getfield 21, 3) := by decide +kernel
theorem dX0_layBlock_48 : decode cX0_layBlock 48 = .ok (.iload_n 2, 1) := by decide +kernel
theorem dX0_layBlock_49 : decode cX0_layBlock 49 = .ok (.invokevirtual 142, 3) := by decide +kernel
theorem dX0_layBlock_52 : decode cX0_layBlock 52 = .ok (.ifCond .eq 17, 3) := by decide +kernel
theorem dX0_layBlock_55 : decode cX0_layBlock 55 = .ok (.aload_n 0, 1) := by decide +kernel
theorem dX0_layBlock_56 : decode cX0_layBlock 56 = .ok (.getfield 26, 3) := by decide +kernel
theorem dX0_layBlock_59 : decode cX0_layBlock 59 = .ok (.iload 4, 2) := by decide +kernel
theorem dX0_layBlock_61 : decode cX0_layBlock 61 = .ok (.invokevirtual 145, 3) := by decide +kernel
theorem dX0_layBlock_64 : decode cX0_layBlock 64 = .ok (.istore 4, 2) := by decide +kernel
theorem dX0_layBlock_66 : decode cX0_layBlock 66 = .ok (.goto 17, 3) := by decide +kernel
theorem dX0_layBlock_69 : decode cX0_layBlock 69 = .ok (.iload_n 2, 1) := by decide +kernel
theorem dX0_layBlock_70 : decode cX0_layBlock 70 = .ok (.ifCond .le 13, 3) := by decide +kernel
theorem dX0_layBlock_73 : decode cX0_layBlock 73 = .ok (.aload_n 0, 1) := by decide +kernel
theorem dX0_layBlock_74 : decode cX0_layBlock 74 = .ok (.getfield 21, 3) := by decide +kernel
theorem dX0_layBlock_77 : decode cX0_layBlock 77 = .ok (.iload_n 3, 1) := by decide +kernel
theorem dX0_layBlock_78 : decode cX0_layBlock 78 = .ok (.invokevirtual 148, 3) := by decide +kernel
theorem dX0_layBlock_81 : decode cX0_layBlock 81 = .ok (.istore 5, 2) := by decide +kernel
theorem dX0_layBlock_83 : decode cX0_layBlock 83 = .ok (.aload_n 0, 1) := by decide +kernel
theorem dX0_layBlock_84 : decode cX0_layBlock 84 = .ok (.getfield 26, 3) := by decide +kernel
theorem dX0_layBlock_87 : decode cX0_layBlock 87 = .ok (.iload 4, 2) := by decide +kernel
theorem dX0_layBlock_89 : decode cX0_layBlock 89 = .ok (.iload 5, 2) := by decide +kernel
theorem dX0_layBlock_91 : decode cX0_layBlock 91 = .ok (.invokevirtual 151, 3) := by decide +kernel
theorem dX0_layBlock_94 : decode cX0_layBlock 94 = .ok (.istore 6, 2) := by decide +kernel
theorem dX0_layBlock_96 : decode cX0_layBlock 96 = .ok (.aload_n 0, 1) := by decide +kernel
theorem dX0_layBlock_97 : decode cX0_layBlock 97 = .ok (.getfield 31, 3) := by decide +kernel
theorem dX0_layBlock_100 : decode cX0_layBlock 100 = .ok (.iload_n 1, 1) := by decide +kernel
theorem dX0_layBlock_101 : decode cX0_layBlock 101 = .ok (.iload_n 2, 1) := by decide +kernel
theorem dX0_layBlock_102 : decode cX0_layBlock 102 = .ok (.iload 6, 2) := by decide +kernel
theorem dX0_layBlock_104 : decode cX0_layBlock 104 = .ok (.invokevirtual 127, 3) := by decide +kernel
theorem dX0_layBlock_107 : decode cX0_layBlock 107 = .ok (.iload 6, 2) := by decide +kernel
theorem dX0_layBlock_109 : decode cX0_layBlock 109 = .ok (.bipush (-4), 2) := by decide +kernel
theorem dX0_layBlock_111 : decode cX0_layBlock 111 = .ok (.if_icmp .eq 7, 3) := by decide +kernel
theorem dX0_layBlock_114 : decode cX0_layBlock 114 = .ok (.iconst 1, 1) := by decide +kernel
theorem dX0_layBlock_115 : decode cX0_layBlock 115 = .ok (.goto 4, 3) := by decide +kernel
theorem dX0_layBlock_118 : decode cX0_layBlock 118 = .ok (.iconst 0, 1) := by decide +kernel
theorem dX0_layBlock_119 : decode cX0_layBlock 119 = .ok (.ireturn, 1) := by decide +kernel
theorem dX0_groupForTail_0 : decode cX0_groupForTail 0 = .ok (.iload_n 2, 1) := by decide +kernel
theorem dX0_groupForTail_1 : decode cX0_groupForTail 1 = .ok (.ifCond .ne 12, 3) := by decide +kernel
theorem dX0_groupForTail_4 : decode cX0_groupForTail 4 = .ok (.aload_n 0, 1) := by decide +kernel
theorem dX0_groupForTail_5 : decode cX0_groupForTail 5 = .ok (.getfield 21, 3) := by decide +kernel
theorem dX0_groupForTail_8 : decode cX0_groupForTail 8 = .ok (.iload_n 1, 1) := by decide +kernel
theorem dX0_groupForTail_9 : decode cX0_groupForTail 9 = .ok (.invokevirtual 136, 3) := by decide +kernel
theorem dX0_groupForTail_12 : decode cX0_groupForTail 12 = .ok (.ireturn, 1) := by decide +kernel
theorem dX0_groupForTail_13 : decode cX0_groupForTail 13 = .ok (.aload_n 0, 1) := by decide +kernel
theorem dX0_groupForTail_14 : decode cX0_groupForTail 14 = .ok (.getfield 21, 3) := by decide +kernel
theorem dX0_groupForTail_17 : decode cX0_groupForTail 17 = .ok (.aload_n 0, 1) := by decide +kernel
theorem dX0_groupForTail_18 : decode cX0_groupForTail 18 = .ok (.getfield 31, 3) := by decide +kernel
theorem dX0_groupForTail_21 : decode cX0_groupForTail 21 = .ok (.iload_n 1, 1) := by decide +kernel
theorem dX0_groupForTail_22 : decode cX0_groupForTail 22 = .ok (.iload_n 2, 1) := by decide +kernel
theorem dX0_groupForTail_23 : decode cX0_groupForTail 23 = .ok (.iconst 1, 1) := by decide +kernel
theorem dX0_groupForTail_24 : decode cX0_groupForTail 24 = .ok (.isub, 1) := by decide +kernel
theorem dX0_groupForTail_25 : decode cX0_groupForTail 25 = .ok (.invokevirtual 133, 3) := by decide +kernel
theorem dX0_groupForTail_28 : decode cX0_groupForTail 28 = .ok (.invokevirtual 139, 3) := by decide +kernel
theorem dX0_groupForTail_31 : decode cX0_groupForTail 31 = .ok (.ireturn, 1) := by decide +kernel
theorem dX0_shrinkFile_0 : decode cX0_shrinkFile 0 = .ok (.aload_n 0, 1) := by decide +kernel
theorem dX0_shrinkFile_1 : decode cX0_shrinkFile 1 = .ok (.getfield 31, 3) := by decide +kernel
theorem dX0_shrinkFile_4 : decode cX0_shrinkFile 4 = .ok (.iload_n 1, 1) := by decide +kernel
theorem dX0_shrinkFile_5 : decode cX0_shrinkFile 5 = .ok (.invokevirtual 40, 3) := by decide +kernel
theorem dX0_shrinkFile_8 : decode cX0_shrinkFile 8 = .ok (.iconst 2, 1) := by decide +kernel
theorem dX0_shrinkFile_9 : decode cX0_shrinkFile 9 = .ok (.if_icmp .ne 20, 3) := by decide +kernel
theorem dX0_shrinkFile_12 : decode cX0_shrinkFile 12 = .ok (.iload_n 2, 1) := by decide +kernel
theorem dX0_shrinkFile_13 : decode cX0_shrinkFile 13 = .ok (.iconst 1, 1) := by decide +kernel
theorem dX0_shrinkFile_14 : decode cX0_shrinkFile 14 = .ok (.if_icmp .lt 15, 3) := by decide +kernel
theorem dX0_shrinkFile_17 : decode cX0_shrinkFile 17 = .ok (.iload_n 2, 1) := by decide +kernel
theorem dX0_shrinkFile_18 : decode cX0_shrinkFile 18 = .ok (.aload_n 0, 1) := by decide +kernel
theorem dX0_shrinkFile_19 : decode cX0_shrinkFile 19 = .ok (.getfield 31, 3) := by decide +kernel
theorem dX0_shrinkFile_22 : decode cX0_shrinkFile 22 = .ok (.iload_n 1, 1) := by decide +kernel
theorem dX0_shrinkFile_23 : decode cX0_shrinkFile 23 = .ok (.invokevirtual 88, 3) := by decide +kernel
theorem dX0_shrinkFile_26 : decode cX0_shrinkFile 26 = .ok (.if_icmp .le 5, 3) := by decide +kernel
theorem dX0_shrinkFile_29 : decode cX0_shrinkFile 29 = .ok (.iconst (-1), 1) := by decide +kernel
theorem dX0_shrinkFile_30 : decode cX0_shrinkFile 30 = .ok (.ireturn, 1) := by decide +kernel
theorem dX0_shrinkFile_31 : decode cX0_shrinkFile 31 = .ok (.aload_n 0, 1) := by decide +kernel
theorem dX0_shrinkFile_32 : decode cX0_shrinkFile 32 = .ok (.getfield 9, 3) := by decide +kernel
theorem dX0_shrinkFile_35 : decode cX0_shrinkFile 35 = .ok (.invokevirtual 50, 3) := by decide +kernel
theorem dX0_shrinkFile_38 : decode cX0_shrinkFile 38 = .ok (.ifCond .eq 6, 3) := by decide +kernel
theorem dX0_shrinkFile_41 : decode cX0_shrinkFile 41 = .ok (.bipush (-2), 2) := by decide +kernel
theorem dX0_shrinkFile_43 : decode cX0_shrinkFile 43 = .ok (.ireturn, 1) := by decide +kernel
theorem dX0_shrinkFile_44 : decode cX0_shrinkFile 44 = .ok (.aload_n 0, 1) := by decide +kernel
theorem dX0_shrinkFile_45 : decode cX0_shrinkFile 45 = .ok (.getfield 31, 3) := by decide +kernel
theorem dX0_shrinkFile_48 : decode cX0_shrinkFile 48 = .ok (.iload_n 1, 1) := by decide +kernel
theorem dX0_shrinkFile_49 : decode cX0_shrinkFile 49 = .ok (.invokevirtual 88, 3) := by decide +kernel
theorem dX0_shrinkFile_52 : decode cX0_shrinkFile 52 = .ok (.iload_n 2, 1) := by decide +kernel
theorem dX0_shrinkFile_53 : decode cX0_shrinkFile 53 = .ok (.isub, 1) := by decide +kernel
theorem dX0_shrinkFile_54 : decode cX0_shrinkFile 54 = .ok (.istore_n 3, 1) := by decide +kernel
theorem dX0_shrinkFile_55 : decode cX0_shrinkFile 55 = .ok (.iload_n 3, 1) := by decide +kernel
theorem dX0_shrinkFile_56 : decode cX0_shrinkFile 56 = .ok (.iconst 4, 1) := by decide +kernel
theorem dX0_shrinkFile_57 : decode cX0_shrinkFile 57 = .ok (.idiv, 1) := by decide +kernel
theorem dX0_shrinkFile_58 : decode cX0_shrinkFile 58 = .ok (.istore 4, 2) := by decide +kernel
theorem dX0_shrinkFile_60 : decode cX0_shrinkFile 60 = .ok (.bipush (-4), 2) := by decide +kernel
theorem dX0_shrinkFile_62 : decode cX0_shrinkFile 62 = .ok (.istore 5, 2) := by decide +kernel
theorem dX0_shrinkFile_64 : decode cX0_shrinkFile 64 = .ok (.iload_n 3, 1) := by decide +kernel
theorem dX0_shrinkFile_65 : decode cX0_shrinkFile 65 = .ok (.iconst 4, 1) := by decide +kernel
theorem dX0_shrinkFile_66 : decode cX0_shrinkFile 66 = .ok (.irem, 1) := by decide +kernel
theorem dX0_shrinkFile_67 : decode cX0_shrinkFile 67 = .ok (.ifCond .le 41, 3) := by decide +kernel
theorem dX0_shrinkFile_70 : decode cX0_shrinkFile 70 = .ok (.iload 4, 2) := by decide +kernel
theorem dX0_shrinkFile_72 : decode cX0_shrinkFile 72 = .ok (.aload_n 0, 1) := by decide +kernel
theorem dX0_shrinkFile_73 : decode cX0_shrinkFile 73 = .ok (.getfield 31, 3) := by decide +kernel
theorem dX0_shrinkFile_76 : decode cX0_shrinkFile 76 = .ok (.iload_n 1, 1) := by decide +kernel
theorem dX0_shrinkFile_77 : decode cX0_shrinkFile 77 = .ok (.invokevirtual 95, 3) := by decide +kernel
theorem dX0_shrinkFile_80 : decode cX0_shrinkFile 80 = .ok (.if_icmp .ge 18, 3) := by decide +kernel
theorem dX0_shrinkFile_83 : decode cX0_shrinkFile 83 = .ok (.aload_n 0, 1) := by decide +kernel
theorem dX0_shrinkFile_84 : decode cX0_shrinkFile 84 = .ok (.getfield 31, 3) := by decide +kernel
theorem dX0_shrinkFile_87 : decode cX0_shrinkFile 87 = .ok (.iload_n 1, 1) := by decide +kernel
theorem dX0_shrinkFile_88 : decode cX0_shrinkFile 88 = .ok (.iload 4, 2) := by decide +kernel
theorem dX0_shrinkFile_90 : decode cX0_shrinkFile 90 = .ok (.invokevirtual 133, 3) := by decide +kernel
theorem dX0_shrinkFile_93 : decode cX0_shrinkFile 93 = .ok (.iconst 4, 1) := by decide +kernel
theorem dX0_shrinkFile_94 : decode cX0_shrinkFile 94 = .ok (.imul, 1) := by decide +kernel
theorem dX0_shrinkFile_95 : decode cX0_shrinkFile 95 = .ok (.goto 11, 3) := by decide +kernel
theorem dX0_shrinkFile_98 : decode cX0_shrinkFile 98 = .ok (.aload_n 0, 1) := by decide +kernel
theorem dX0_shrinkFile_99 : decode cX0_shrinkFile 99 = .ok (.getfield 31, 3) := by decide +kernel
theorem dX0_shrinkFile_102 : decode cX0_shrinkFile 102 = .ok (.iload_n 1, 1) := by decide +kernel
theorem dX0_shrinkFile_103 : decode cX0_shrinkFile 103 = .ok (.invokevirtual 108, 3) := by decide +kernel
theorem dX0_shrinkFile_106 : decode cX0_shrinkFile 106 = .ok (.istore 5, 2) := by decide +kernel
theorem dX0_shrinkFile_108 : decode cX0_shrinkFile 108 = .ok (.aload_n 0, 1) := by decide +kernel
theorem dX0_shrinkFile_109 : decode cX0_shrinkFile 109 = .ok (.getfield 9, 3) := by decide +kernel
theorem dX0_shrinkFile_112 : decode cX0_shrinkFile 112 = .ok (.iload_n 1, 1) := by decide +kernel
theorem dX0_shrinkFile_113 : decode cX0_shrinkFile 113 = .ok (.iload 4, 2) := by decide +kernel
theorem dX0_shrinkFile_115 : decode cX0_shrinkFile 115 = .ok (.aload_n 0, 1) := by decide +kernel
theorem dX0_shrinkFile_116 : decode cX0_shrinkFile 116 = .ok (.getfield 26, 3) := by decide +kernel
theorem dX0_shrinkFile_119 : decode cX0_shrinkFile 119 = .ok (.iconst 1, 1) := by decide +kernel
theorem dX0_shrinkFile_120 : decode cX0_shrinkFile 120 = .ok (.invokevirtual 154, 3) := by decide +kernel
theorem dX0_shrinkFile_123 : decode cX0_shrinkFile 123 = .ok (.aload_n 0, 1) := by decide +kernel
theorem dX0_shrinkFile_124 : decode cX0_shrinkFile 124 = .ok (.getfield 26, 3) := by decide +kernel
theorem dX0_shrinkFile_127 : decode cX0_shrinkFile 127 = .ok (.iload 5, 2) := by decide +kernel
theorem dX0_shrinkFile_129 : decode cX0_shrinkFile 129 = .ok (.iload_n 3, 1) := by decide +kernel
theorem dX0_shrinkFile_130 : decode cX0_shrinkFile 130 = .ok (.iconst 4, 1) := by decide +kernel
theorem dX0_shrinkFile_131 : decode cX0_shrinkFile 131 = .ok (.irem, 1) := by decide +kernel
theorem dX0_shrinkFile_132 : decode cX0_shrinkFile 132 = .ok (.iconst 0, 1) := by decide +kernel
theorem dX0_shrinkFile_133 : decode cX0_shrinkFile 133 = .ok (.invokevirtual 114, 3) := by decide +kernel
theorem dX0_shrinkFile_136 : decode cX0_shrinkFile 136 = .ok (.aload_n 0, 1) := by decide +kernel
theorem dX0_shrinkFile_137 : decode cX0_shrinkFile 137 = .ok (.getfield 31, 3) := by decide +kernel
theorem dX0_shrinkFile_140 : decode cX0_shrinkFile 140 = .ok (.iload_n 1, 1) := by decide +kernel
theorem dX0_shrinkFile_141 : decode cX0_shrinkFile 141 = .ok (.iload_n 3, 1) := by decide +kernel
theorem dX0_shrinkFile_142 : decode cX0_shrinkFile 142 = .ok (.iload 5, 2) := by decide +kernel
theorem dX0_shrinkFile_144 : decode cX0_shrinkFile 144 = .ok (.invokevirtual 74, 3) := by decide +kernel
theorem dX0_shrinkFile_147 : decode cX0_shrinkFile 147 = .ok (.iload_n 3, 1) := by decide +kernel
theorem dX0_shrinkFile_148 : decode cX0_shrinkFile 148 = .ok (.ireturn, 1) := by decide +kernel
theorem dX0_removeInode_0 : decode cX0_removeInode 0 = .ok (.aload_n 0, 1) := by decide +kernel
theorem dX0_removeInode_1 : decode cX0_removeInode 1 = .ok (.getfield 31, 3) := by decide +kernel
theorem dX0_removeInode_4 : decode cX0_removeInode 4 = .ok (.iload_n 1, 1) := by decide +kernel
theorem dX0_removeInode_5 : decode cX0_removeInode 5 = .ok (.invokevirtual 40, 3) := by decide +kernel
theorem dX0_removeInode_8 : decode cX0_removeInode 8 = .ok (.ifCond .ne 5, 3) := by decide +kernel
theorem dX0_removeInode_11 : decode cX0_removeInode 11 = .ok (.iconst (-1), 1) := by decide +kernel
theorem dX0_removeInode_12 : decode cX0_removeInode 12 = .ok (.ireturn, 1) := by decide +kernel
theorem dX0_removeInode_13 : decode cX0_removeInode 13 = .ok (.aload_n 0, 1) := by decide +kernel
theorem dX0_removeInode_14 : decode cX0_removeInode 14 = .ok (.getfield 9, 3) := by decide +kernel
theorem dX0_removeInode_17 : decode cX0_removeInode 17 = .ok (.invokevirtual 50, 3) := by decide +kernel
theorem dX0_removeInode_20 : decode cX0_removeInode 20 = .ok (.ifCond .ne 18, 3) := by decide +kernel
theorem dX0_removeInode_23 : decode cX0_removeInode 23 = .ok (.iload_n 1, 1) := by decide +kernel
theorem dX0_removeInode_24 : decode cX0_removeInode 24 = .ok (.ifCond .eq 14, 3) := by decide +kernel
theorem dX0_removeInode_27 : decode cX0_removeInode 27 = .ok (.aload_n 0, 1) := by decide +kernel
theorem dX0_removeInode_28 : decode cX0_removeInode 28 = .ok (.getfield 31, 3) := by decide +kernel
theorem dX0_removeInode_31 : decode cX0_removeInode 31 = .ok (.iload_n 1, 1) := by decide +kernel
theorem dX0_removeInode_32 : decode cX0_removeInode 32 = .ok (.invokevirtual 158, 3) := by decide +kernel
theorem dX0_removeInode_35 : decode cX0_removeInode 35 = .ok (.ifCond .eq 6, 3) := by decide +kernel
theorem dX0_removeInode_38 : decode cX0_removeInode 38 = .ok (.bipush (-2), 2) := by decide +kernel
theorem dX0_removeInode_40 : decode cX0_removeInode 40 = .ok (.ireturn, 1) := by decide +kernel
theorem dX0_removeInode_41 : decode cX0_removeInode 41 = .ok (.aload_n 0, 1) := by decide +kernel
theorem dX0_removeInode_42 : decode cX0_removeInode 42 = .ok (.getfield 31, 3) := by decide +kernel
theorem dX0_removeInode_45 : decode cX0_removeInode 45 = .ok (.iload_n 1, 1) := by decide +kernel
theorem dX0_removeInode_46 : decode cX0_removeInode 46 = .ok (.invokevirtual 88, 3) := by decide +kernel
theorem dX0_removeInode_49 : decode cX0_removeInode 49 = .ok (.istore_n 2, 1) := by decide +kernel
theorem dX0_removeInode_50 : decode cX0_removeInode 50 = .ok (.aload_n 0, 1) := by decide +kernel
theorem dX0_removeInode_51 : decode cX0_removeInode 51 = .ok (.getfield 9, 3) := by decide +kernel
theorem dX0_removeInode_54 : decode cX0_removeInode 54 = .ok (.iload_n 1, 1) := by decide +kernel
theorem dX0_removeInode_55 : decode cX0_removeInode 55 = .ok (.iconst 0, 1) := by decide +kernel
theorem dX0_removeInode_56 : decode cX0_removeInode 56 = .ok (.aload_n 0, 1) := by decide +kernel
theorem dX0_removeInode_57 : decode cX0_removeInode 57 = .ok (.getfield 26, 3) := by decide +kernel
theorem dX0_removeInode_60 : decode cX0_removeInode 60 = .ok (.iconst 1, 1) := by decide +kernel
theorem dX0_removeInode_61 : decode cX0_removeInode 61 = .ok (.invokevirtual 154, 3) := by decide +kernel
theorem dX0_removeInode_64 : decode cX0_removeInode 64 = .ok (.aload_n 0, 1) := by decide +kernel
theorem dX0_removeInode_65 : decode cX0_removeInode 65 = .ok (.getfield 31, 3) := by decide +kernel
theorem dX0_removeInode_68 : decode cX0_removeInode 68 = .ok (.iload_n 1, 1) := by decide +kernel
theorem dX0_removeInode_69 : decode cX0_removeInode 69 = .ok (.iconst 0, 1) := by decide +kernel
theorem dX0_removeInode_70 : decode cX0_removeInode 70 = .ok (.bipush (-4), 2) := by decide +kernel
theorem dX0_removeInode_72 : decode cX0_removeInode 72 = .ok (.bipush (-4), 2) := by decide +kernel
theorem dX0_removeInode_74 : decode cX0_removeInode 74 = .ok (.invokevirtual 70, 3) := by decide +kernel
theorem dX0_removeInode_77 : decode cX0_removeInode 77 = .ok (.iload_n 2, 1) := by decide +kernel
theorem dX0_removeInode_78 : decode cX0_removeInode 78 = .ok (.ireturn, 1) := by decide +kernel
theorem dX0_moveInode_0 : decode cX0_moveInode 0 = .ok (.aload_n 0, 1) := by decide +kernel
theorem dX0_moveInode_1 : decode cX0_moveInode 1 = .ok (.getfield 31, 3) := by decide +kernel
theorem dX0_moveInode_4 : decode cX0_moveInode 4 = .ok (.iload_n 1, 1) := by decide +kernel
theorem dX0_moveInode_5 : decode cX0_moveInode 5 = .ok (.invokevirtual 40, 3) := by decide +kernel
theorem dX0_moveInode_8 : decode cX0_moveInode 8 = .ok (.ifCond .eq 22, 3) := by decide +kernel
theorem dX0_moveInode_11 : decode cX0_moveInode 11 = .ok (.aload_n 0, 1) := by decide +kernel
theorem dX0_moveInode_12 : decode cX0_moveInode 12 = .ok (.getfield 31, 3) := by decide +kernel
theorem dX0_moveInode_15 : decode cX0_moveInode 15 = .ok (.iload_n 2, 1) := by decide +kernel
theorem dX0_moveInode_16 : decode cX0_moveInode 16 = .ok (.invokevirtual 40, 3) := by decide +kernel
theorem dX0_moveInode_19 : decode cX0_moveInode 19 = .ok (.iconst 1, 1) := by decide +kernel
theorem dX0_moveInode_20 : decode cX0_moveInode 20 = .ok (.if_icmp .ne 10, 3) := by decide +kernel
theorem dX0_moveInode_23 : decode cX0_moveInode 23 = .ok (.iload_n 3, 1) := by decide +kernel
theorem dX0_moveInode_24 : decode cX0_moveInode 24 = .ok (.invokestatic 46, 3) := by decide +kernel
theorem dX0_moveInode_27 : decode cX0_moveInode 27 = .ok (.ifCond .ne 5, 3) := by decide +kernel
theorem dX0_moveInode_30 : decode cX0_moveInode 30 = .ok (.iconst (-1), 1) := by decide +kernel
theorem dX0_moveInode_31 : decode cX0_moveInode 31 = .ok (.ireturn, 1) := by decide +kernel
theorem dX0_moveInode_32 : decode cX0_moveInode 32 = .ok (.aload_n 0, 1) := by decide +kernel
theorem dX0_moveInode_33 : decode cX0_moveInode 33 = .ok (.getfield 31, 3) := by decide +kernel
theorem dX0_moveInode_36 : decode cX0_moveInode 36 = .ok (.iload_n 2, 1) := by decide +kernel
theorem dX0_moveInode_37 : decode cX0_moveInode 37 = .ok (.iload_n 3, 1) := by decide +kernel
theorem dX0_moveInode_38 : decode cX0_moveInode 38 = .ok (.invokevirtual 54, 3) := by decide +kernel
theorem dX0_moveInode_41 : decode cX0_moveInode 41 = .ok (.istore 4, 2) := by decide +kernel
theorem dX0_moveInode_43 : decode cX0_moveInode 43 = .ok (.aload_n 0, 1) := by decide +kernel
theorem dX0_moveInode_44 : decode cX0_moveInode 44 = .ok (.getfield 9, 3) := by decide +kernel
theorem dX0_moveInode_47 : decode cX0_moveInode 47 = .ok (.invokevirtual 50, 3) := by decide +kernel
theorem dX0_moveInode_50 : decode cX0_moveInode 50 = .ok (.ifCond .ne 34, 3) := by decide +kernel
theorem dX0_moveInode_53 : decode cX0_moveInode 53 = .ok (.iload_n 1, 1) := by decide +kernel
theorem dX0_moveInode_54 : decode cX0_moveInode 54 = .ok (.ifCond .eq 30, 3) := by decide +kernel
theorem dX0_moveInode_57 : decode cX0_moveInode 57 = .ok (.aload_n 0, 1) := by decide +kernel
theorem dX0_moveInode_58 : decode cX0_moveInode 58 = .ok (.getfield 31, 3) := by decide +kernel
theorem dX0_moveInode_61 : decode cX0_moveInode 61 = .ok (.iload_n 1, 1) := by decide +kernel
theorem dX0_moveInode_62 : decode cX0_moveInode 62 = .ok (.iload_n 2, 1) := by decide +kernel
theorem dX0_moveInode_63 : decode cX0_moveInode 63 = .ok (.invokevirtual 161, 3) := by decide +kernel
theorem dX0_moveInode_66 : decode cX0_moveInode 66 = .ok (.bipush (-4), 2) := by decide +kernel
theorem dX0_moveInode_68 : decode cX0_moveInode 68 = .ok (.if_icmp .ne 16, 3) := by decide +kernel
theorem dX0_moveInode_71 : decode cX0_moveInode 71 = .ok (.iload 4, 2) := by decide +kernel
theorem dX0_moveInode_73 : decode cX0_moveInode 73 = .ok (.bipush (-4), 2) := by decide +kernel
theorem dX0_moveInode_75 : decode cX0_moveInode 75 = .ok (.if_icmp .eq 12, 3) := by decide +kernel
theorem dX0_moveInode_78 : decode cX0_moveInode 78 = .ok (.iload 4, 2) := by decide +kernel
theorem dX0_moveInode_80 : decode cX0_moveInode 80 = .ok (.iload_n 1, 1) := by decide +kernel
theorem dX0_moveInode_81 : decode cX0_moveInode 81 = .ok (.if_icmp .eq 6, 3) := by decide +kernel
theorem dX0_moveInode_84 : decode cX0_moveInode 84 = .ok (.bipush (-2), 2) := by decide +kernel
theorem dX0_moveInode_86 : decode cX0_moveInode 86 = .ok (.ireturn, 1) := by decide +kernel
theorem dX0_moveInode_87 : decode cX0_moveInode 87 = .ok (.aload_n 0, 1) := by decide +kernel
theorem dX0_moveInode_88 : decode cX0_moveInode 88 = .ok (.getfield 31, 3) := by decide +kernel
theorem dX0_moveInode_91 : decode cX0_moveInode 91 = .ok (.iload_n 1, 1) := by decide +kernel
theorem dX0_moveInode_92 : decode cX0_moveInode 92 = .ok (.iload_n 2, 1) := by decide +kernel
theorem dX0_moveInode_93 : decode cX0_moveInode 93 = .ok (.iload_n 3, 1) := by decide +kernel
theorem dX0_moveInode_94 : decode cX0_moveInode 94 = .ok (.invokevirtual 164, 3) := by decide +kernel
theorem dX0_moveInode_97 : decode cX0_moveInode 97 = .ok (.aload_n 0, 1) := by decide +kernel
theorem dX0_moveInode_98 : decode cX0_moveInode 98 = .ok (.getfield 31, 3) := by decide +kernel
theorem dX0_moveInode_101 : decode cX0_moveInode 101 = .ok (.iconst 0, 1) := by decide +kernel
theorem dX0_moveInode_102 : decode cX0_moveInode 102 = .ok (.iload_n 1, 1) := by decide +kernel
theorem dX0_moveInode_103 : decode cX0_moveInode 103 = .ok (.invokevirtual 161, 3) := by decide +kernel
theorem dX0_moveInode_106 : decode cX0_moveInode 106 = .ok (.ireturn, 1) := by decide +kernel
theorem dX0_gatherFile_0 : decode cX0_gatherFile 0 = .ok (.aload_n 0, 1) := by decide +kernel
theorem dX0_gatherFile_1 : decode cX0_gatherFile 1 = .ok (.getfield 31, 3) := by decide +kernel
theorem dX0_gatherFile_4 : decode cX0_gatherFile 4 = .ok (.iload_n 1, 1) := by decide +kernel
theorem dX0_gatherFile_5 : decode cX0_gatherFile 5 = .ok (.invokevirtual 40, 3) := by decide +kernel
theorem dX0_gatherFile_8 : decode cX0_gatherFile 8 = .ok (.iconst 2, 1) := by decide +kernel
theorem dX0_gatherFile_9 : decode cX0_gatherFile 9 = .ok (.if_icmp .eq 5, 3) := by decide +kernel
theorem dX0_gatherFile_12 : decode cX0_gatherFile 12 = .ok (.iconst (-1), 1) := by decide +kernel
theorem dX0_gatherFile_13 : decode cX0_gatherFile 13 = .ok (.ireturn, 1) := by decide +kernel
theorem dX0_gatherFile_14 : decode cX0_gatherFile 14 = .ok (.aload_n 0, 1) := by decide +kernel
theorem dX0_gatherFile_15 : decode cX0_gatherFile 15 = .ok (.getfield 31, 3) := by decide +kernel
theorem dX0_gatherFile_18 : decode cX0_gatherFile 18 = .ok (.iload_n 1, 1) := by decide +kernel
theorem dX0_gatherFile_19 : decode cX0_gatherFile 19 = .ok (.invokevirtual 95, 3) := by decide +kernel
theorem dX0_gatherFile_22 : decode cX0_gatherFile 22 = .ok (.istore_n 2, 1) := by decide +kernel
theorem dX0_gatherFile_23 : decode cX0_gatherFile 23 = .ok (.aload_n 0, 1) := by decide +kernel
theorem dX0_gatherFile_24 : decode cX0_gatherFile 24 = .ok (.getfield 9, 3) := by decide +kernel
theorem dX0_gatherFile_27 : decode cX0_gatherFile 27 = .ok (.invokevirtual 50, 3) := by decide +kernel
theorem dX0_gatherFile_30 : decode cX0_gatherFile 30 = .ok (.ifCond .ne 8, 3) := by decide +kernel
theorem dX0_gatherFile_33 : decode cX0_gatherFile 33 = .ok (.iload_n 2, 1) := by decide +kernel
theorem dX0_gatherFile_34 : decode cX0_gatherFile 34 = .ok (.iconst 2, 1) := by decide +kernel
theorem dX0_gatherFile_35 : decode cX0_gatherFile 35 = .ok (.if_icmp .ge 6, 3) := by decide +kernel
theorem dX0_gatherFile_38 : decode cX0_gatherFile 38 = .ok (.bipush (-2), 2) := by decide +kernel
theorem dX0_gatherFile_40 : decode cX0_gatherFile 40 = .ok (.ireturn, 1) := by decide +kernel
theorem dX0_gatherFile_41 : decode cX0_gatherFile 41 = .ok (.aload_n 0, 1) := by decide +kernel
theorem dX0_gatherFile_42 : decode cX0_gatherFile 42 = .ok (.getfield 21, 3) := by decide +kernel
theorem dX0_gatherFile_45 : decode cX0_gatherFile 45 = .ok (.iload_n 1, 1) := by decide +kernel
theorem dX0_gatherFile_46 : decode cX0_gatherFile 46 = .ok (.invokevirtual 136, 3) := by decide +kernel
theorem dX0_gatherFile_49 : decode cX0_gatherFile 49 = .ok (.istore_n 3, 1) := by decide +kernel
theorem dX0_gatherFile_50 : decode cX0_gatherFile 50 = .ok (.iconst 0, 1) := by decide +kernel
theorem dX0_gatherFile_51 : decode cX0_gatherFile 51 = .ok (.istore 4, 2) := by decide +kernel
theorem dX0_gatherFile_53 : decode cX0_gatherFile 53 = .ok (.iload 4, 2) := by decide +kernel
theorem dX0_gatherFile_55 : decode cX0_gatherFile 55 = .ok (.aload_n 0, 1) := by decide +kernel
theorem dX0_gatherFile_56 : decode cX0_gatherFile 56 = .ok (.getfield 21, 3) := by decide +kernel
theorem dX0_gatherFile_59 : decode cX0_gatherFile 59 = .ok (.getfield 167, 3) := by decide +kernel
theorem dX0_gatherFile_62 : decode cX0_gatherFile 62 = .ok (.if_icmp .ge 53, 3) := by decide +kernel
theorem dX0_gatherFile_65 : decode cX0_gatherFile 65 = .ok (.aload_n 0, 1) := by decide +kernel
theorem dX0_gatherFile_66 : decode cX0_gatherFile 66 = .ok (.getfield 26, 3) := by decide +kernel
theorem dX0_gatherFile_69 : decode cX0_gatherFile 69 = .ok (.aload_n 0, 1) := by decide +kernel
theorem dX0_gatherFile_70 : decode cX0_gatherFile 70 = .ok (.getfield 21, 3) := by decide +kernel
theorem dX0_gatherFile_73 : decode cX0_gatherFile 73 = .ok (.iload_n 3, 1) := by decide +kernel
theorem dX0_gatherFile_74 : decode cX0_gatherFile 74 = .ok (.iload 4, 2) := by decide +kernel
theorem dX0_gatherFile_76 : decode cX0_gatherFile 76 = .ok (.invokevirtual 170, 3) := by decide +kernel
theorem dX0_gatherFile_79 : decode cX0_gatherFile 79 = .ok (.iload_n 2, 1) := by decide +kernel
theorem dX0_gatherFile_80 : decode cX0_gatherFile 80 = .ok (.invokevirtual 173, 3) := by decide +kernel
theorem dX0_gatherFile_83 : decode cX0_gatherFile 83 = .ok (.istore 5, 2) := by decide +kernel
theorem dX0_gatherFile_85 : decode cX0_gatherFile 85 = .ok (.iload 5, 2) := by decide +kernel
theorem dX0_gatherFile_87 : decode cX0_gatherFile 87 = .ok (.bipush (-4), 2) := by decide +kernel
theorem dX0_gatherFile_89 : decode cX0_gatherFile 89 = .ok (.if_icmp .eq 20, 3) := by decide +kernel
theorem dX0_gatherFile_92 : decode cX0_gatherFile 92 = .ok (.aload_n 0, 1) := by decide +kernel
theorem dX0_gatherFile_93 : decode cX0_gatherFile 93 = .ok (.iload_n 1, 1) := by decide +kernel
theorem dX0_gatherFile_94 : decode cX0_gatherFile 94 = .ok (.iload 5, 2) := by decide +kernel
theorem dX0_gatherFile_96 : decode cX0_gatherFile 96 = .ok (.invokevirtual 176, 3) := by decide +kernel
theorem dX0_gatherFile_99 : decode cX0_gatherFile 99 = .ok (.aload_n 0, 1) := by decide +kernel
theorem dX0_gatherFile_100 : decode cX0_gatherFile 100 = .ok (.getfield 9, 3) := by decide +kernel
theorem dX0_gatherFile_103 : decode cX0_gatherFile 103 = .ok (.iload_n 1, 1) := by decide +kernel
theorem dX0_gatherFile_104 : decode cX0_gatherFile 104 = .ok (.iconst 1, 1) := by decide +kernel
theorem dX0_gatherFile_105 : decode cX0_gatherFile 105 = .ok (.invokevirtual 180, 3) := by decide +kernel
theorem dX0_gatherFile_108 : decode cX0_gatherFile 108 = .ok (.ireturn, 1) := by decide +kernel
theorem dX0_gatherFile_109 : decode cX0_gatherFile 109 = .ok (.iinc 4 1, 3) := by decide +kernel
theorem dX0_gatherFile_112 : decode cX0_gatherFile 112 = .ok (.goto (-59), 3) := by decide +kernel
theorem dX0_gatherFile_115 : decode cX0_gatherFile 115 = .ok (.bipush (-3), 2) := by decide +kernel
theorem dX0_gatherFile_117 : decode cX0_gatherFile 117 = .ok (.ireturn, 1) := by decide +kernel
theorem dX0_gatherAt_0 : decode cX0_gatherAt 0 = .ok (.aload_n 0, 1) := by decide +kernel
theorem dX0_gatherAt_1 : decode cX0_gatherAt 1 = .ok (.getfield 31, 3) := by decide +kernel
theorem dX0_gatherAt_4 : decode cX0_gatherAt 4 = .ok (.iload_n 1, 1) := by decide +kernel
theorem dX0_gatherAt_5 : decode cX0_gatherAt 5 = .ok (.invokevirtual 95, 3) := by decide +kernel
theorem dX0_gatherAt_8 : decode cX0_gatherAt 8 = .ok (.istore_n 3, 1) := by decide +kernel
theorem dX0_gatherAt_9 : decode cX0_gatherAt 9 = .ok (.iconst 0, 1) := by decide +kernel
theorem dX0_gatherAt_10 : decode cX0_gatherAt 10 = .ok (.istore 4, 2) := by decide +kernel
theorem dX0_gatherAt_12 : decode cX0_gatherAt 12 = .ok (.iload 4, 2) := by decide +kernel
theorem dX0_gatherAt_14 : decode cX0_gatherAt 14 = .ok (.iload_n 3, 1) := by decide +kernel
theorem dX0_gatherAt_15 : decode cX0_gatherAt 15 = .ok (.if_icmp .ge 71, 3) := by decide +kernel
theorem dX0_gatherAt_18 : decode cX0_gatherAt 18 = .ok (.iload_n 2, 1) := by decide +kernel
theorem dX0_gatherAt_19 : decode cX0_gatherAt 19 = .ok (.iload 4, 2) := by decide +kernel
theorem dX0_gatherAt_21 : decode cX0_gatherAt 21 = .ok (.iconst 1, 1) := by decide +kernel
theorem dX0_gatherAt_22 : decode cX0_gatherAt 22 = .ok (.aload_n 0, 1) := by decide +kernel
theorem dX0_gatherAt_23 : decode cX0_gatherAt 23 = .ok (.getfield 21, 3) := by decide +kernel
theorem dX0_gatherAt_26 : decode cX0_gatherAt 26 = .ok (.getfield 184, 3) := by decide +kernel
theorem dX0_gatherAt_29 : decode cX0_gatherAt 29 = .ok (.iadd, 1) := by decide +kernel
theorem dX0_gatherAt_30 : decode cX0_gatherAt 30 = .ok (.imul, 1) := by decide +kernel
theorem dX0_gatherAt_31 : decode cX0_gatherAt 31 = .ok (.iadd, 1) := by decide +kernel
theorem dX0_gatherAt_32 : decode cX0_gatherAt 32 = .ok (.istore 5, 2) := by decide +kernel
theorem dX0_gatherAt_34 : decode cX0_gatherAt 34 = .ok (.aload_n 0, 1) := by decide +kernel
theorem dX0_gatherAt_35 : decode cX0_gatherAt 35 = .ok (.getfield 26, 3) := by decide +kernel
theorem dX0_gatherAt_38 : decode cX0_gatherAt 38 = .ok (.aload_n 0, 1) := by decide +kernel
theorem dX0_gatherAt_39 : decode cX0_gatherAt 39 = .ok (.getfield 31, 3) := by decide +kernel
theorem dX0_gatherAt_42 : decode cX0_gatherAt 42 = .ok (.iload_n 1, 1) := by decide +kernel
theorem dX0_gatherAt_43 : decode cX0_gatherAt 43 = .ok (.iload 4, 2) := by decide +kernel
theorem dX0_gatherAt_45 : decode cX0_gatherAt 45 = .ok (.invokevirtual 133, 3) := by decide +kernel
theorem dX0_gatherAt_48 : decode cX0_gatherAt 48 = .ok (.iconst 4, 1) := by decide +kernel
theorem dX0_gatherAt_49 : decode cX0_gatherAt 49 = .ok (.imul, 1) := by decide +kernel
theorem dX0_gatherAt_50 : decode cX0_gatherAt 50 = .ok (.iconst 4, 1) := by decide +kernel
theorem dX0_gatherAt_51 : decode cX0_gatherAt 51 = .ok (.iconst 1, 1) := by decide +kernel
theorem dX0_gatherAt_52 : decode cX0_gatherAt 52 = .ok (.invokevirtual 114, 3) := by decide +kernel
theorem dX0_gatherAt_55 : decode cX0_gatherAt 55 = .ok (.aload_n 0, 1) := by decide +kernel
theorem dX0_gatherAt_56 : decode cX0_gatherAt 56 = .ok (.getfield 26, 3) := by decide +kernel
theorem dX0_gatherAt_59 : decode cX0_gatherAt 59 = .ok (.iload 5, 2) := by decide +kernel
theorem dX0_gatherAt_61 : decode cX0_gatherAt 61 = .ok (.iconst 4, 1) := by decide +kernel
theorem dX0_gatherAt_62 : decode cX0_gatherAt 62 = .ok (.imul, 1) := by decide +kernel
theorem dX0_gatherAt_63 : decode cX0_gatherAt 63 = .ok (.iconst 4, 1) := by decide +kernel
theorem dX0_gatherAt_64 : decode cX0_gatherAt 64 = .ok (.iconst 0, 1) := by decide +kernel
theorem dX0_gatherAt_65 : decode cX0_gatherAt 65 = .ok (.invokevirtual 114, 3) := by decide +kernel
theorem dX0_gatherAt_68 : decode cX0_gatherAt 68 = .ok (.aload_n 0, 1) := by decide +kernel
theorem dX0_gatherAt_69 : decode cX0_gatherAt 69 = .ok (.getfield 31, 3) := by decide +kernel
theorem dX0_gatherAt_72 : decode cX0_gatherAt 72 = .ok (.iload_n 1, 1) := by decide +kernel
theorem dX0_gatherAt_73 : decode cX0_gatherAt 73 = .ok (.iload 4, 2) := by decide +kernel
theorem dX0_gatherAt_75 : decode cX0_gatherAt 75 = .ok (.iload 5, 2) := by decide +kernel
theorem dX0_gatherAt_77 : decode cX0_gatherAt 77 = .ok (.invokevirtual 127, 3) := by decide +kernel
theorem dX0_gatherAt_80 : decode cX0_gatherAt 80 = .ok (.iinc 4 1, 3) := by decide +kernel
theorem dX0_gatherAt_83 : decode cX0_gatherAt 83 = .ok (.goto (-71), 3) := by decide +kernel
theorem dX0_gatherAt_86 : decode cX0_gatherAt 86 = .ok (.aload_n 0, 1) := by decide +kernel
theorem dX0_gatherAt_87 : decode cX0_gatherAt 87 = .ok (.getfield 9, 3) := by decide +kernel
theorem dX0_gatherAt_90 : decode cX0_gatherAt 90 = .ok (.dup, 1) := by decide +kernel
theorem dX0_gatherAt_91 : decode cX0_gatherAt 91 = .ok (.getfield 124, 3) := by decide +kernel
theorem dX0_gatherAt_94 : decode cX0_gatherAt 94 = .ok (.iload_n 3, 1) := by decide +kernel
theorem dX0_gatherAt_95 : decode cX0_gatherAt 95 = .ok (.iadd, 1) := by decide +kernel
theorem dX0_gatherAt_96 : decode cX0_gatherAt 96 = .ok (.putfield 124, 3) := by decide +kernel
theorem dX0_gatherAt_99 : decode cX0_gatherAt 99 = .ok (.return_, 1) := by decide +kernel
theorem dX1_init_0 : decode cX1_init 0 = .ok (.aload_n 0, 1) := by decide +kernel
theorem dX1_init_1 : decode cX1_init 1 = .ok (.invokespecial 3, 3) := by decide +kernel
theorem dX1_init_4 : decode cX1_init 4 = .ok (.aload_n 0, 1) := by decide +kernel
theorem dX1_init_5 : decode cX1_init 5 = .ok (.bipush 32, 2) := by decide +kernel
theorem dX1_init_7 : decode cX1_init 7 = .ok (.newarray .int, 2) := by decide +kernel
theorem dX1_init_9 : decode cX1_init 9 = .ok (.putfield 9, 3) := by decide +kernel
theorem dX1_init_12 : decode cX1_init 12 = .ok (.aload_n 0, 1) := by decide +kernel
theorem dX1_init_13 : decode cX1_init 13 = .ok (.aload_n 1, 1) := by decide +kernel
theorem dX1_init_14 : decode cX1_init 14 = .ok (.putfield 15, 3) := by decide +kernel
theorem dX1_init_17 : decode cX1_init 17 = .ok (.return_, 1) := by decide +kernel
theorem dX1_copyFrom_0 : decode cX1_copyFrom 0 = .ok (.aload_n 1, 1) := by decide +kernel
theorem dX1_copyFrom_1 : decode cX1_copyFrom 1 = .ok (.getfield 9, 3) := by decide +kernel
theorem dX1_copyFrom_4 : decode cX1_copyFrom 4 = .ok (.iconst 0, 1) := by decide +kernel
theorem dX1_copyFrom_5 : decode cX1_copyFrom 5 = .ok (.aload_n 0, 1) := by decide +kernel
theorem dX1_copyFrom_6 : decode cX1_copyFrom 6 = .ok (.getfield 9, 3) := by decide +kernel
theorem dX1_copyFrom_9 : decode cX1_copyFrom 9 = .ok (.iconst 0, 1) := by decide +kernel
theorem dX1_copyFrom_10 : decode cX1_copyFrom 10 = .ok (.bipush 32, 2) := by decide +kernel
theorem dX1_copyFrom_12 : decode cX1_copyFrom 12 = .ok (.invokestatic 19, 3) := by decide +kernel
theorem dX1_copyFrom_15 : decode cX1_copyFrom 15 = .ok (.return_, 1) := by decide +kernel
theorem dX1_freeAll_0 : decode cX1_freeAll 0 = .ok (.iconst 0, 1) := by decide +kernel
theorem dX1_freeAll_1 : decode cX1_freeAll 1 = .ok (.istore_n 1, 1) := by decide +kernel
theorem dX1_freeAll_2 : decode cX1_freeAll 2 = .ok (.iload_n 1, 1) := by decide +kernel
theorem dX1_freeAll_3 : decode cX1_freeAll 3 = .ok (.aload_n 0, 1) := by decide +kernel
theorem dX1_freeAll_4 : decode cX1_freeAll 4 = .ok (.getfield 9, 3) := by decide +kernel
theorem dX1_freeAll_7 : decode cX1_freeAll 7 = .ok (.arraylength, 1) := by decide +kernel
theorem dX1_freeAll_8 : decode cX1_freeAll 8 = .ok (.if_icmp .ge 32, 3) := by decide +kernel
theorem dX1_freeAll_11 : decode cX1_freeAll 11 = .ok (.aload_n 0, 1) := by decide +kernel
theorem dX1_freeAll_12 : decode cX1_freeAll 12 = .ok (.getfield 9, 3) := by decide +kernel
theorem dX1_freeAll_15 : decode cX1_freeAll 15 = .ok (.iload_n 1, 1) := by decide +kernel
theorem dX1_freeAll_16 : decode cX1_freeAll 16 = .ok (.iload_n 1, 1) := by decide +kernel
theorem dX1_freeAll_17 : decode cX1_freeAll 17 = .ok (.aload_n 0, 1) := by decide +kernel
theorem dX1_freeAll_18 : decode cX1_freeAll 18 = .ok (.getfield 15, 3) := by decide +kernel
theorem dX1_freeAll_21 : decode cX1_freeAll 21 = .ok (.invokevirtual 25, 3) := by decide +kernel
theorem dX1_freeAll_24 : decode cX1_freeAll 24 = .ok (.if_icmp .ge 8, 3) := by decide +kernel
theorem dX1_freeAll_27 : decode cX1_freeAll 27 = .ok (.bipush 15, 2) := by decide +kernel
theorem dX1_freeAll_29 : decode cX1_freeAll 29 = .ok (.goto 4, 3) := by decide +kernel
theorem dX1_freeAll_32 : decode cX1_freeAll 32 = .ok (.iconst 0, 1) := by decide +kernel
theorem dX1_freeAll_33 : decode cX1_freeAll 33 = .ok (.iastore, 1) := by decide +kernel
theorem dX1_freeAll_34 : decode cX1_freeAll 34 = .ok (.iinc 1 1, 3) := by decide +kernel
theorem dX1_freeAll_37 : decode cX1_freeAll 37 = .ok (.goto (-35), 3) := by decide +kernel
theorem dX1_freeAll_40 : decode cX1_freeAll 40 = .ok (.return_, 1) := by decide +kernel
theorem dX1_bitsOf_0 : decode cX1_bitsOf 0 = .ok (.iload_n 1, 1) := by decide +kernel
theorem dX1_bitsOf_1 : decode cX1_bitsOf 1 = .ok (.ifCond .lt 21, 3) := by decide +kernel
theorem dX1_bitsOf_4 : decode cX1_bitsOf 4 = .ok (.iload_n 1, 1) := by decide +kernel
theorem dX1_bitsOf_5 : decode cX1_bitsOf 5 = .ok (.aload_n 0, 1) := by decide +kernel
theorem dX1_bitsOf_6 : decode cX1_bitsOf 6 = .ok (.getfield 9, 3) := by decide +kernel
theorem dX1_bitsOf_9 : decode cX1_bitsOf 9 = .ok (.arraylength, 1) := by decide +kernel
theorem dX1_bitsOf_10 : decode cX1_bitsOf 10 = .ok (.if_icmp .ge 12, 3) := by decide +kernel
theorem dX1_bitsOf_13 : decode cX1_bitsOf 13 = .ok (.aload_n 0, 1) := by decide +kernel
theorem dX1_bitsOf_14 : decode cX1_bitsOf 14 = .ok (.getfield 9, 3) := by decide +kernel
theorem dX1_bitsOf_17 : decode cX1_bitsOf 17 = .ok (.iload_n 1, 1) := by decide +kernel
theorem dX1_bitsOf_18 : decode cX1_bitsOf 18 = .ok (.iaload, 1) := by decide +kernel
theorem dX1_bitsOf_19 : decode cX1_bitsOf 19 = .ok (.goto 4, 3) := by decide +kernel
theorem dX1_bitsOf_22 : decode cX1_bitsOf 22 = .ok (.iconst 0, 1) := by decide +kernel
theorem dX1_bitsOf_23 : decode cX1_bitsOf 23 = .ok (.ireturn, 1) := by decide +kernel
theorem dX1_isFreeBlock_0 : decode cX1_isFreeBlock 0 = .ok (.iload_n 1, 1) := by decide +kernel
theorem dX1_isFreeBlock_1 : decode cX1_isFreeBlock 1 = .ok (.ifCond .lt 27, 3) := by decide +kernel
theorem dX1_isFreeBlock_4 : decode cX1_isFreeBlock 4 = .ok (.iload_n 1, 1) := by decide +kernel
theorem dX1_isFreeBlock_5 : decode cX1_isFreeBlock 5 = .ok (.aload_n 0, 1) := by decide +kernel
theorem dX1_isFreeBlock_6 : decode cX1_isFreeBlock 6 = .ok (.getfield 9, 3) := by decide +kernel
theorem dX1_isFreeBlock_9 : decode cX1_isFreeBlock 9 = .ok (.arraylength, 1) := by decide +kernel
theorem dX1_isFreeBlock_10 : decode cX1_isFreeBlock 10 = .ok (.if_icmp .ge 18, 3) := by decide +kernel
theorem dX1_isFreeBlock_13 : decode cX1_isFreeBlock 13 = .ok (.aload_n 0, 1) := by decide +kernel
theorem dX1_isFreeBlock_14 : decode cX1_isFreeBlock 14 = .ok (.getfield 9, 3) := by decide +kernel
theorem dX1_isFreeBlock_17 : decode cX1_isFreeBlock 17 = .ok (.iload_n 1, 1) := by decide +kernel
theorem dX1_isFreeBlock_18 : decode cX1_isFreeBlock 18 = .ok (.iaload, 1) := by decide +kernel
theorem dX1_isFreeBlock_19 : decode cX1_isFreeBlock 19 = .ok (.bipush 15, 2) := by decide +kernel
theorem dX1_isFreeBlock_21 : decode cX1_isFreeBlock 21 = .ok (.if_icmp .ne 7, 3) := by decide +kernel
theorem dX1_isFreeBlock_24 : decode cX1_isFreeBlock 24 = .ok (.iconst 1, 1) := by decide +kernel
theorem dX1_isFreeBlock_25 : decode cX1_isFreeBlock 25 = .ok (.goto 4, 3) := by decide +kernel
theorem dX1_isFreeBlock_28 : decode cX1_isFreeBlock 28 = .ok (.iconst 0, 1) := by decide +kernel
theorem dX1_isFreeBlock_29 : decode cX1_isFreeBlock 29 = .ok (.ireturn, 1) := by decide +kernel
theorem dX1_isFree_0 : decode cX1_isFree 0 = .ok (.aload_n 0, 1) := by decide +kernel
theorem dX1_isFree_1 : decode cX1_isFree 1 = .ok (.iload_n 1, 1) := by decide +kernel
theorem dX1_isFree_2 : decode cX1_isFree 2 = .ok (.iconst 1, 1) := by decide +kernel
theorem dX1_isFree_3 : decode cX1_isFree 3 = .ok (.invokevirtual 31, 3) := by decide +kernel
theorem dX1_isFree_6 : decode cX1_isFree 6 = .ok (.ireturn, 1) := by decide +kernel
theorem dX1_areFree_0 : decode cX1_areFree 0 = .ok (.iload_n 1, 1) := by decide +kernel
theorem dX1_areFree_1 : decode cX1_areFree 1 = .ok (.ifCond .lt 16, 3) := by decide +kernel
theorem dX1_areFree_4 : decode cX1_areFree 4 = .ok (.iload_n 2, 1) := by decide +kernel
theorem dX1_areFree_5 : decode cX1_areFree 5 = .ok (.ifCond .lt 12, 3) := by decide +kernel
theorem dX1_areFree_8 : decode cX1_areFree 8 = .ok (.iload_n 1, 1) := by decide +kernel
theorem dX1_areFree_9 : decode cX1_areFree 9 = .ok (.iconst 4, 1) := by decide +kernel
theorem dX1_areFree_10 : decode cX1_areFree 10 = .ok (.irem, 1) := by decide +kernel
theorem dX1_areFree_11 : decode cX1_areFree 11 = .ok (.iload_n 2, 1) := by decide +kernel
theorem dX1_areFree_12 : decode cX1_areFree 12 = .ok (.iadd, 1) := by decide +kernel
theorem dX1_areFree_13 : decode cX1_areFree 13 = .ok (.iconst 4, 1) := by decide +kernel
theorem dX1_areFree_14 : decode cX1_areFree 14 = .ok (.if_icmp .le 5, 3) := by decide +kernel
theorem dX1_areFree_17 : decode cX1_areFree 17 = .ok (.iconst 0, 1) := by decide +kernel
theorem dX1_areFree_18 : decode cX1_areFree 18 = .ok (.ireturn, 1) := by decide +kernel
theorem dX1_areFree_19 : decode cX1_areFree 19 = .ok (.iconst 1, 1) := by decide +kernel
theorem dX1_areFree_20 : decode cX1_areFree 20 = .ok (.iload_n 2, 1) := by decide +kernel
theorem dX1_areFree_21 : decode cX1_areFree 21 = .ok (.ishl, 1) := by decide +kernel
theorem dX1_areFree_22 : decode cX1_areFree 22 = .ok (.iconst 1, 1) := by decide +kernel
theorem dX1_areFree_23 : decode cX1_areFree 23 = .ok (.isub, 1) := by decide +kernel
theorem dX1_areFree_24 : decode cX1_areFree 24 = .ok (.iload_n 1, 1) := by decide +kernel
theorem dX1_areFree_25 : decode cX1_areFree 25 = .ok (.iconst 4, 1) := by decide +kernel
theorem dX1_areFree_26 : decode cX1_areFree 26 = .ok (.irem, 1) := by decide +kernel
theorem dX1_areFree_27 : decode cX1_areFree 27 = .ok (.ishl, 1) := by decide +kernel
theorem dX1_areFree_28 : decode cX1_areFree 28 = .ok (.istore_n 3, 1) := by decide +kernel
theorem dX1_areFree_29 : decode cX1_areFree 29 = .ok (.aload_n 0, 1) := by decide +kernel
theorem dX1_areFree_30 : decode cX1_areFree 30 = .ok (.iload_n 1, 1) := by decide +kernel
theorem dX1_areFree_31 : decode cX1_areFree 31 = .ok (.iconst 4, 1) := by decide +kernel
theorem dX1_areFree_32 : decode cX1_areFree 32 = .ok (.idiv, 1) := by decide +kernel
theorem dX1_areFree_33 : decode cX1_areFree 33 = .ok (.invokevirtual 35, 3) := by decide +kernel
theorem dX1_areFree_36 : decode cX1_areFree 36 = .ok (.iload_n 3, 1) := by decide +kernel
theorem dX1_areFree_37 : decode cX1_areFree 37 = .ok (.iand, 1) := by decide +kernel
theorem dX1_areFree_38 : decode cX1_areFree 38 = .ok (.iload_n 3, 1) := by decide +kernel
theorem dX1_areFree_39 : decode cX1_areFree 39 = .ok (.if_icmp .ne 7, 3) := by decide +kernel
theorem dX1_areFree_42 : decode cX1_areFree 42 = .ok (.iconst 1, 1) := by decide +kernel
theorem dX1_areFree_43 : decode cX1_areFree 43 = .ok (.goto 4, 3) := by decide +kernel
theorem dX1_areFree_46 : decode cX1_areFree 46 = .ok (.iconst 0, 1) := by decide +kernel
theorem dX1_areFree_47 : decode cX1_areFree 47 = .ok (.ireturn, 1) := by decide +kernel
theorem dX1_put_0 : decode cX1_put 0 = .ok (.iload_n 1, 1) := by decide +kernel
theorem dX1_put_1 : decode cX1_put 1 = .ok (.ifCond .lt 27, 3) := by decide +kernel
theorem dX1_put_4 : decode cX1_put 4 = .ok (.iload_n 2, 1) := by decide +kernel
theorem dX1_put_5 : decode cX1_put 5 = .ok (.ifCond .lt 23, 3) := by decide +kernel
theorem dX1_put_8 : decode cX1_put 8 = .ok (.iload_n 1, 1) := by decide +kernel
theorem dX1_put_9 : decode cX1_put 9 = .ok (.iconst 4, 1) := by decide +kernel
theorem dX1_put_10 : decode cX1_put 10 = .ok (.irem, 1) := by decide +kernel
theorem dX1_put_11 : decode cX1_put 11 = .ok (.iload_n 2, 1) := by decide +kernel
theorem dX1_put_12 : decode cX1_put 12 = .ok (.iadd, 1) := by decide +kernel
theorem dX1_put_13 : decode cX1_put 13 = .ok (.iconst 4, 1) := by decide +kernel
theorem dX1_put_14 : decode cX1_put 14 = .ok (.if_icmp .gt 14, 3) := by decide +kernel
theorem dX1_put_17 : decode cX1_put 17 = .ok (.iload_n 1, 1) := by decide +kernel
theorem dX1_put_18 : decode cX1_put 18 = .ok (.iconst 4, 1) := by decide +kernel
theorem dX1_put_19 : decode cX1_put 19 = .ok (.idiv, 1) := by decide +kernel
theorem dX1_put_20 : decode cX1_put 20 = .ok (.aload_n 0, 1) := by decide +kernel
theorem dX1_put_21 : decode cX1_put 21 = .ok (.getfield 9, 3) := by decide +kernel
theorem dX1_put_24 : decode cX1_put 24 = .ok (.arraylength, 1) := by decide +kernel
theorem dX1_put_25 : decode cX1_put 25 = .ok (.if_icmp .lt 4, 3) := by decide +kernel
theorem dX1_put_28 : decode cX1_put 28 = .ok (.return_, 1) := by decide +kernel
theorem dX1_put_29 : decode cX1_put 29 = .ok (.iconst 1, 1) := by decide +kernel
theorem dX1_put_30 : decode cX1_put 30 = .ok (.iload_n 2, 1) := by decide +kernel
theorem dX1_put_31 : decode cX1_put 31 = .ok (.ishl, 1) := by decide +kernel
theorem dX1_put_32 : decode cX1_put 32 = .ok (.iconst 1, 1) := by decide +kernel
theorem dX1_put_33 : decode cX1_put 33 = .ok (.isub, 1) := by decide +kernel
theorem dX1_put_34 : decode cX1_put 34 = .ok (.iload_n 1, 1) := by decide +kernel
theorem dX1_put_35 : decode cX1_put 35 = .ok (.iconst 4, 1) := by decide +kernel
theorem dX1_put_36 : decode cX1_put 36 = .ok (.irem, 1) := by decide +kernel
theorem dX1_put_37 : decode cX1_put 37 = .ok (.ishl, 1) := by decide +kernel
theorem dX1_put_38 : decode cX1_put 38 = .ok (.istore 4, 2) := by decide +kernel
theorem dX1_put_40 : decode cX1_put 40 = .ok (.iload_n 1, 1) := by decide +kernel
theorem dX1_put_41 : decode cX1_put 41 = .ok (.iconst 4, 1) := by decide +kernel
theorem dX1_put_42 : decode cX1_put 42 = .ok (.idiv, 1) := by decide +kernel
theorem dX1_put_43 : decode cX1_put 43 = .ok (.istore 5, 2) := by decide +kernel
theorem dX1_put_45 : decode cX1_put 45 = .ok (.aload_n 0, 1) := by decide +kernel
theorem dX1_put_46 : decode cX1_put 46 = .ok (.getfield 9, 3) := by decide +kernel
theorem dX1_put_49 : decode cX1_put 49 = .ok (.iload 5, 2) := by decide +kernel
theorem dX1_put_51 : decode cX1_put 51 = .ok (.iload_n 3, 1) := by decide +kernel
theorem dX1_put_52 : decode cX1_put 52 = .ok (.ifCond .eq 16, 3) := by decide +kernel
theorem dX1_put_55 : decode cX1_put 55 = .ok (.aload_n 0, 1) := by decide +kernel
theorem dX1_put_56 : decode cX1_put 56 = .ok (.getfield 9, 3) := by decide +kernel
theorem dX1_put_59 : decode cX1_put 59 = .ok (.iload 5, 2) := by decide +kernel
theorem dX1_put_61 : decode cX1_put 61 = .ok (.iaload, 1) := by decide +kernel
theorem dX1_put_62 : decode cX1_put 62 = .ok (.iload 4, 2) := by decide +kernel
theorem dX1_put_64 : decode cX1_put 64 = .ok (.ior, 1) := by decide +kernel
theorem dX1_put_65 : decode cX1_put 65 = .ok (.goto 15, 3) := by decide +kernel
theorem dX1_put_68 : decode cX1_put 68 = .ok (.aload_n 0, 1) := by decide +kernel
theorem dX1_put_69 : decode cX1_put 69 = .ok (.getfield 9, 3) := by decide +kernel
theorem dX1_put_72 : decode cX1_put 72 = .ok (.iload 5, 2) := by decide +kernel
theorem dX1_put_74 : decode cX1_put 74 = .ok (.iaload, 1) := by decide +kernel
theorem dX1_put_75 : decode cX1_put 75 = .ok (.iload 4, 2) := by decide +kernel
theorem dX1_put_77 : decode cX1_put 77 = .ok (.iconst (-1), 1) := by decide +kernel
theorem dX1_put_78 : decode cX1_put 78 = .ok (.ixor, 1) := by decide +kernel
theorem dX1_put_79 : decode cX1_put 79 = .ok (.iand, 1) := by decide +kernel
theorem dX1_put_80 : decode cX1_put 80 = .ok (.iastore, 1) := by decide +kernel
theorem dX1_put_81 : decode cX1_put 81 = .ok (.return_, 1) := by decide +kernel
theorem dX1_freeFragmentsIn_0 : decode cX1_freeFragmentsIn 0 = .ok (.iconst 0, 1) := by decide +kernel
theorem dX1_freeFragmentsIn_1 : decode cX1_freeFragmentsIn 1 = .ok (.istore_n 2, 1) := by decide +kernel
theorem dX1_freeFragmentsIn_2 : decode cX1_freeFragmentsIn 2 = .ok (.iconst 0, 1) := by decide +kernel
theorem dX1_freeFragmentsIn_3 : decode cX1_freeFragmentsIn 3 = .ok (.istore_n 3, 1) := by decide +kernel
theorem dX1_freeFragmentsIn_4 : decode cX1_freeFragmentsIn 4 = .ok (.iload_n 3, 1) := by decide +kernel
theorem dX1_freeFragmentsIn_5 : decode cX1_freeFragmentsIn 5 = .ok (.aload_n 0, 1) := by decide +kernel
theorem dX1_freeFragmentsIn_6 : decode cX1_freeFragmentsIn 6 = .ok (.getfield 15, 3) := by decide +kernel
theorem dX1_freeFragmentsIn_9 : decode cX1_freeFragmentsIn 9 = .ok (.getfield 39, 3) := by decide +kernel
theorem dX1_freeFragmentsIn_12 : decode cX1_freeFragmentsIn 12 = .ok (.if_icmp .ge 30, 3) := by decide +kernel
theorem dX1_freeFragmentsIn_15 : decode cX1_freeFragmentsIn 15 = .ok (.iload_n 2, 1) := by decide +kernel
theorem dX1_freeFragmentsIn_16 : decode cX1_freeFragmentsIn 16 = .ok (.aload_n 0, 1) := by decide +kernel
theorem dX1_freeFragmentsIn_17 : decode cX1_freeFragmentsIn 17 = .ok (.iload_n 1, 1) := by decide +kernel
theorem dX1_freeFragmentsIn_18 : decode cX1_freeFragmentsIn 18 = .ok (.aload_n 0, 1) := by decide +kernel
theorem dX1_freeFragmentsIn_19 : decode cX1_freeFragmentsIn 19 = .ok (.getfield 15, 3) := by decide +kernel
theorem dX1_freeFragmentsIn_22 : decode cX1_freeFragmentsIn 22 = .ok (.getfield 39, 3) := by decide +kernel
theorem dX1_freeFragmentsIn_25 : decode cX1_freeFragmentsIn 25 = .ok (.imul, 1) := by decide +kernel
theorem dX1_freeFragmentsIn_26 : decode cX1_freeFragmentsIn 26 = .ok (.iload_n 3, 1) := by decide +kernel
theorem dX1_freeFragmentsIn_27 : decode cX1_freeFragmentsIn 27 = .ok (.iadd, 1) := by decide +kernel
theorem dX1_freeFragmentsIn_28 : decode cX1_freeFragmentsIn 28 = .ok (.invokevirtual 35, 3) := by decide +kernel
theorem dX1_freeFragmentsIn_31 : decode cX1_freeFragmentsIn 31 = .ok (.invokestatic 43, 3) := by decide +kernel
theorem dX1_freeFragmentsIn_34 : decode cX1_freeFragmentsIn 34 = .ok (.iadd, 1) := by decide +kernel
theorem dX1_freeFragmentsIn_35 : decode cX1_freeFragmentsIn 35 = .ok (.istore_n 2, 1) := by decide +kernel
theorem dX1_freeFragmentsIn_36 : decode cX1_freeFragmentsIn 36 = .ok (.iinc 3 1, 3) := by decide +kernel
theorem dX1_freeFragmentsIn_39 : decode cX1_freeFragmentsIn 39 = .ok (.goto (-35), 3) := by decide +kernel
theorem dX1_freeFragmentsIn_42 : decode cX1_freeFragmentsIn 42 = .ok (.iload_n 2, 1) := by decide +kernel
theorem dX1_freeFragmentsIn_43 : decode cX1_freeFragmentsIn 43 = .ok (.ireturn, 1) := by decide +kernel
theorem dX1_freeFragments_0 : decode cX1_freeFragments 0 = .ok (.iconst 0, 1) := by decide +kernel
theorem dX1_freeFragments_1 : decode cX1_freeFragments 1 = .ok (.istore_n 1, 1) := by decide +kernel
theorem dX1_freeFragments_2 : decode cX1_freeFragments 2 = .ok (.iconst 0, 1) := by decide +kernel
theorem dX1_freeFragments_3 : decode cX1_freeFragments 3 = .ok (.istore_n 2, 1) := by decide +kernel
theorem dX1_freeFragments_4 : decode cX1_freeFragments 4 = .ok (.iload_n 2, 1) := by decide +kernel
theorem dX1_freeFragments_5 : decode cX1_freeFragments 5 = .ok (.aload_n 0, 1) := by decide +kernel
theorem dX1_freeFragments_6 : decode cX1_freeFragments 6 = .ok (.getfield 15, 3) := by decide +kernel
theorem dX1_freeFragments_9 : decode cX1_freeFragments 9 = .ok (.getfield 48, 3) := by decide +kernel
theorem dX1_freeFragments_12 : decode cX1_freeFragments 12 = .ok (.if_icmp .ge 17, 3) := by decide +kernel
theorem dX1_freeFragments_15 : decode cX1_freeFragments 15 = .ok (.iload_n 1, 1) := by decide +kernel
theorem dX1_freeFragments_16 : decode cX1_freeFragments 16 = .ok (.aload_n 0, 1) := by decide +kernel
theorem dX1_freeFragments_17 : decode cX1_freeFragments 17 = .ok (.iload_n 2, 1) := by decide +kernel
theorem dX1_freeFragments_18 : decode cX1_freeFragments 18 = .ok (.invokevirtual 51, 3) := by decide +kernel
theorem dX1_freeFragments_21 : decode cX1_freeFragments 21 = .ok (.iadd, 1) := by decide +kernel
theorem dX1_freeFragments_22 : decode cX1_freeFragments 22 = .ok (.istore_n 1, 1) := by decide +kernel
theorem dX1_freeFragments_23 : decode cX1_freeFragments 23 = .ok (.iinc 2 1, 3) := by decide +kernel
theorem dX1_freeFragments_26 : decode cX1_freeFragments 26 = .ok (.goto (-22), 3) := by decide +kernel
theorem dX1_freeFragments_29 : decode cX1_freeFragments 29 = .ok (.iload_n 1, 1) := by decide +kernel
theorem dX1_freeFragments_30 : decode cX1_freeFragments 30 = .ok (.ireturn, 1) := by decide +kernel
theorem dX1_freeBlocksIn_0 : decode cX1_freeBlocksIn 0 = .ok (.iconst 0, 1) := by decide +kernel
theorem dX1_freeBlocksIn_1 : decode cX1_freeBlocksIn 1 = .ok (.istore_n 2, 1) := by decide +kernel
theorem dX1_freeBlocksIn_2 : decode cX1_freeBlocksIn 2 = .ok (.iconst 0, 1) := by decide +kernel
theorem dX1_freeBlocksIn_3 : decode cX1_freeBlocksIn 3 = .ok (.istore_n 3, 1) := by decide +kernel
theorem dX1_freeBlocksIn_4 : decode cX1_freeBlocksIn 4 = .ok (.iload_n 3, 1) := by decide +kernel
theorem dX1_freeBlocksIn_5 : decode cX1_freeBlocksIn 5 = .ok (.aload_n 0, 1) := by decide +kernel
theorem dX1_freeBlocksIn_6 : decode cX1_freeBlocksIn 6 = .ok (.getfield 15, 3) := by decide +kernel
theorem dX1_freeBlocksIn_9 : decode cX1_freeBlocksIn 9 = .ok (.getfield 39, 3) := by decide +kernel
theorem dX1_freeBlocksIn_12 : decode cX1_freeBlocksIn 12 = .ok (.if_icmp .ge 30, 3) := by decide +kernel
theorem dX1_freeBlocksIn_15 : decode cX1_freeBlocksIn 15 = .ok (.aload_n 0, 1) := by decide +kernel
theorem dX1_freeBlocksIn_16 : decode cX1_freeBlocksIn 16 = .ok (.iload_n 1, 1) := by decide +kernel
theorem dX1_freeBlocksIn_17 : decode cX1_freeBlocksIn 17 = .ok (.aload_n 0, 1) := by decide +kernel
theorem dX1_freeBlocksIn_18 : decode cX1_freeBlocksIn 18 = .ok (.getfield 15, 3) := by decide +kernel
theorem dX1_freeBlocksIn_21 : decode cX1_freeBlocksIn 21 = .ok (.getfield 39, 3) := by decide +kernel
theorem dX1_freeBlocksIn_24 : decode cX1_freeBlocksIn 24 = .ok (.imul, 1) := by decide +kernel
theorem dX1_freeBlocksIn_25 : decode cX1_freeBlocksIn 25 = .ok (.iload_n 3, 1) := by decide +kernel
theorem dX1_freeBlocksIn_26 : decode cX1_freeBlocksIn 26 = .ok (.iadd, 1) := by decide +kernel
theorem dX1_freeBlocksIn_27 : decode cX1_freeBlocksIn 27 = .ok (.invokevirtual 54, 3) := by decide +kernel
theorem dX1_freeBlocksIn_30 : decode cX1_freeBlocksIn 30 = .ok (.ifCond .eq 6, 3) := by decide +kernel
theorem dX1_freeBlocksIn_33 : decode cX1_freeBlocksIn 33 = .ok (.iinc 2 1, 3) := by decide +kernel
theorem dX1_freeBlocksIn_36 : decode cX1_freeBlocksIn 36 = .ok (.iinc 3 1, 3) := by decide +kernel
theorem dX1_freeBlocksIn_39 : decode cX1_freeBlocksIn 39 = .ok (.goto (-35), 3) := by decide +kernel
theorem dX1_freeBlocksIn_42 : decode cX1_freeBlocksIn 42 = .ok (.iload_n 2, 1) := by decide +kernel
theorem dX1_freeBlocksIn_43 : decode cX1_freeBlocksIn 43 = .ok (.ireturn, 1) := by decide +kernel
theorem dX1_freeBlocks_0 : decode cX1_freeBlocks 0 = .ok (.iconst 0, 1) := by decide +kernel
theorem dX1_freeBlocks_1 : decode cX1_freeBlocks 1 = .ok (.istore_n 1, 1) := by decide +kernel
theorem dX1_freeBlocks_2 : decode cX1_freeBlocks 2 = .ok (.iconst 0, 1) := by decide +kernel
theorem dX1_freeBlocks_3 : decode cX1_freeBlocks 3 = .ok (.istore_n 2, 1) := by decide +kernel
theorem dX1_freeBlocks_4 : decode cX1_freeBlocks 4 = .ok (.iload_n 2, 1) := by decide +kernel
theorem dX1_freeBlocks_5 : decode cX1_freeBlocks 5 = .ok (.aload_n 0, 1) := by decide +kernel
theorem dX1_freeBlocks_6 : decode cX1_freeBlocks 6 = .ok (.getfield 15, 3) := by decide +kernel
theorem dX1_freeBlocks_9 : decode cX1_freeBlocks 9 = .ok (.invokevirtual 25, 3) := by decide +kernel
theorem dX1_freeBlocks_12 : decode cX1_freeBlocks 12 = .ok (.if_icmp .ge 20, 3) := by decide +kernel
theorem dX1_freeBlocks_15 : decode cX1_freeBlocks 15 = .ok (.aload_n 0, 1) := by decide +kernel
theorem dX1_freeBlocks_16 : decode cX1_freeBlocks 16 = .ok (.iload_n 2, 1) := by decide +kernel
theorem dX1_freeBlocks_17 : decode cX1_freeBlocks 17 = .ok (.invokevirtual 54, 3) := by decide +kernel
theorem dX1_freeBlocks_20 : decode cX1_freeBlocks 20 = .ok (.ifCond .eq 6, 3) := by decide +kernel
theorem dX1_freeBlocks_23 : decode cX1_freeBlocks 23 = .ok (.iinc 1 1, 3) := by decide +kernel
theorem dX1_freeBlocks_26 : decode cX1_freeBlocks 26 = .ok (.iinc 2 1, 3) := by decide +kernel
theorem dX1_freeBlocks_29 : decode cX1_freeBlocks 29 = .ok (.goto (-25), 3) := by decide +kernel
theorem dX1_freeBlocks_32 : decode cX1_freeBlocks 32 = .ok (.iload_n 1, 1) := by decide +kernel
theorem dX1_freeBlocks_33 : decode cX1_freeBlocks 33 = .ok (.ireturn, 1) := by decide +kernel
theorem dX1_runAt_0 : decode cX1_runAt 0 = .ok (.iload_n 1, 1) := by decide +kernel
theorem dX1_runAt_1 : decode cX1_runAt 1 = .ok (.ifCond .lt 14, 3) := by decide +kernel
theorem dX1_runAt_4 : decode cX1_runAt 4 = .ok (.iload_n 1, 1) := by decide +kernel
theorem dX1_runAt_5 : decode cX1_runAt 5 = .ok (.iconst 4, 1) := by decide +kernel
theorem dX1_runAt_6 : decode cX1_runAt 6 = .ok (.idiv, 1) := by decide +kernel
theorem dX1_runAt_7 : decode cX1_runAt 7 = .ok (.aload_n 0, 1) := by decide +kernel
theorem dX1_runAt_8 : decode cX1_runAt 8 = .ok (.getfield 9, 3) := by decide +kernel
theorem dX1_runAt_11 : decode cX1_runAt 11 = .ok (.arraylength, 1) := by decide +kernel
theorem dX1_runAt_12 : decode cX1_runAt 12 = .ok (.if_icmp .lt 5, 3) := by decide +kernel
theorem dX1_runAt_15 : decode cX1_runAt 15 = .ok (.iconst 0, 1) := by decide +kernel
theorem dX1_runAt_16 : decode cX1_runAt 16 = .ok (.ireturn, 1) := by decide +kernel
theorem dX1_runAt_17 : decode cX1_runAt 17 = .ok (.aload_n 0, 1) := by decide +kernel
theorem dX1_runAt_18 : decode cX1_runAt 18 = .ok (.getfield 9, 3) := by decide +kernel
theorem dX1_runAt_21 : decode cX1_runAt 21 = .ok (.iload_n 1, 1) := by decide +kernel
theorem dX1_runAt_22 : decode cX1_runAt 22 = .ok (.iconst 4, 1) := by decide +kernel
theorem dX1_runAt_23 : decode cX1_runAt 23 = .ok (.idiv, 1) := by decide +kernel
theorem dX1_runAt_24 : decode cX1_runAt 24 = .ok (.iaload, 1) := by decide +kernel
theorem dX1_runAt_25 : decode cX1_runAt 25 = .ok (.istore_n 2, 1) := by decide +kernel
theorem dX1_runAt_26 : decode cX1_runAt 26 = .ok (.iload_n 1, 1) := by decide +kernel
theorem dX1_runAt_27 : decode cX1_runAt 27 = .ok (.iconst 4, 1) := by decide +kernel
theorem dX1_runAt_28 : decode cX1_runAt 28 = .ok (.irem, 1) := by decide +kernel
theorem dX1_runAt_29 : decode cX1_runAt 29 = .ok (.istore_n 3, 1) := by decide +kernel
theorem dX1_runAt_30 : decode cX1_runAt 30 = .ok (.iload_n 3, 1) := by decide +kernel
theorem dX1_runAt_31 : decode cX1_runAt 31 = .ok (.ifCond .le 18, 3) := by decide +kernel
theorem dX1_runAt_34 : decode cX1_runAt 34 = .ok (.iload_n 2, 1) := by decide +kernel
theorem dX1_runAt_35 : decode cX1_runAt 35 = .ok (.iload_n 3, 1) := by decide +kernel
theorem dX1_runAt_36 : decode cX1_runAt 36 = .ok (.iconst 1, 1) := by decide +kernel
theorem dX1_runAt_37 : decode cX1_runAt 37 = .ok (.isub, 1) := by decide +kernel
theorem dX1_runAt_38 : decode cX1_runAt 38 = .ok (.ishr, 1) := by decide +kernel
theorem dX1_runAt_39 : decode cX1_runAt 39 = .ok (.iconst 1, 1) := by decide +kernel
theorem dX1_runAt_40 : decode cX1_runAt 40 = .ok (.iand, 1) := by decide +kernel
theorem dX1_runAt_41 : decode cX1_runAt 41 = .ok (.iconst 1, 1) := by decide +kernel
theorem dX1_runAt_42 : decode cX1_runAt 42 = .ok (.if_icmp .ne 7, 3) := by decide +kernel
theorem dX1_runAt_45 : decode cX1_runAt 45 = .ok (.iconst 1, 1) := by decide +kernel
theorem dX1_runAt_46 : decode cX1_runAt 46 = .ok (.goto 4, 3) := by decide +kernel
theorem dX1_runAt_49 : decode cX1_runAt 49 = .ok (.iconst 0, 1) := by decide +kernel
theorem dX1_runAt_50 : decode cX1_runAt 50 = .ok (.istore 4, 2) := by decide +kernel
theorem dX1_runAt_52 : decode cX1_runAt 52 = .ok (.iload_n 2, 1) := by decide +kernel
theorem dX1_runAt_53 : decode cX1_runAt 53 = .ok (.bipush 15, 2) := by decide +kernel
theorem dX1_runAt_55 : decode cX1_runAt 55 = .ok (.if_icmp .eq 8, 3) := by decide +kernel
theorem dX1_runAt_58 : decode cX1_runAt 58 = .ok (.iload 4, 2) := by decide +kernel
theorem dX1_runAt_60 : decode cX1_runAt 60 = .ok (.ifCond .eq 5, 3) := by decide +kernel
theorem dX1_runAt_63 : decode cX1_runAt 63 = .ok (.iconst 0, 1) := by decide +kernel
theorem dX1_runAt_64 : decode cX1_runAt 64 = .ok (.ireturn, 1) := by decide +kernel
theorem dX1_runAt_65 : decode cX1_runAt 65 = .ok (.iconst 0, 1) := by decide +kernel
theorem dX1_runAt_66 : decode cX1_runAt 66 = .ok (.istore 5, 2) := by decide +kernel
theorem dX1_runAt_68 : decode cX1_runAt 68 = .ok (.iload_n 3, 1) := by decide +kernel
theorem dX1_runAt_69 : decode cX1_runAt 69 = .ok (.iload 5, 2) := by decide +kernel
theorem dX1_runAt_71 : decode cX1_runAt 71 = .ok (.iadd, 1) := by decide +kernel
theorem dX1_runAt_72 : decode cX1_runAt 72 = .ok (.iconst 4, 1) := by decide +kernel
theorem dX1_runAt_73 : decode cX1_runAt 73 = .ok (.if_icmp .ge 21, 3) := by decide +kernel
theorem dX1_runAt_76 : decode cX1_runAt 76 = .ok (.iload_n 2, 1) := by decide +kernel
theorem dX1_runAt_77 : decode cX1_runAt 77 = .ok (.iload_n 3, 1) := by decide +kernel
theorem dX1_runAt_78 : decode cX1_runAt 78 = .ok (.iload 5, 2) := by decide +kernel
theorem dX1_runAt_80 : decode cX1_runAt 80 = .ok (.iadd, 1) := by decide +kernel
theorem dX1_runAt_81 : decode cX1_runAt 81 = .ok (.ishr, 1) := by decide +kernel
theorem dX1_runAt_82 : decode cX1_runAt 82 = .ok (.iconst 1, 1) := by decide +kernel
theorem dX1_runAt_83 : decode cX1_runAt 83 = .ok (.iand, 1) := by decide +kernel
theorem dX1_runAt_84 : decode cX1_runAt 84 = .ok (.iconst 1, 1) := by decide +kernel
theorem dX1_runAt_85 : decode cX1_runAt 85 = .ok (.if_icmp .ne 9, 3) := by decide +kernel
theorem dX1_runAt_88 : decode cX1_runAt 88 = .ok (.iinc 5 1, 3) := by decide +kernel
theorem dX1_runAt_91 : decode cX1_runAt 91 = .ok (.goto (-23), 3) := by decide +kernel
theorem dX1_runAt_94 : decode cX1_runAt 94 = .ok (.iload 5, 2) := by decide +kernel
theorem dX1_runAt_96 : decode cX1_runAt 96 = .ok (.ireturn, 1) := by decide +kernel
theorem dX1_runsIn_0 : decode cX1_runsIn 0 = .ok (.iconst 0, 1) := by decide +kernel
theorem dX1_runsIn_1 : decode cX1_runsIn 1 = .ok (.istore_n 3, 1) := by decide +kernel
theorem dX1_runsIn_2 : decode cX1_runsIn 2 = .ok (.iload_n 1, 1) := by decide +kernel
theorem dX1_runsIn_3 : decode cX1_runsIn 3 = .ok (.aload_n 0, 1) := by decide +kernel
theorem dX1_runsIn_4 : decode cX1_runsIn 4 = .ok (.getfield 15, 3) := by decide +kernel
theorem dX1_runsIn_7 : decode cX1_runsIn 7 = .ok (.getfield 39, 3) := by decide +kernel
theorem dX1_runsIn_10 : decode cX1_runsIn 10 = .ok (.imul, 1) := by decide +kernel
theorem dX1_runsIn_11 : decode cX1_runsIn 11 = .ok (.iconst 4, 1) := by decide +kernel
theorem dX1_runsIn_12 : decode cX1_runsIn 12 = .ok (.imul, 1) := by decide +kernel
theorem dX1_runsIn_13 : decode cX1_runsIn 13 = .ok (.istore 4, 2) := by decide +kernel
theorem dX1_runsIn_15 : decode cX1_runsIn 15 = .ok (.iload 4, 2) := by decide +kernel
theorem dX1_runsIn_17 : decode cX1_runsIn 17 = .ok (.istore 5, 2) := by decide +kernel
theorem dX1_runsIn_19 : decode cX1_runsIn 19 = .ok (.iload 5, 2) := by decide +kernel
theorem dX1_runsIn_21 : decode cX1_runsIn 21 = .ok (.iload 4, 2) := by decide +kernel
theorem dX1_runsIn_23 : decode cX1_runsIn 23 = .ok (.aload_n 0, 1) := by decide +kernel
theorem dX1_runsIn_24 : decode cX1_runsIn 24 = .ok (.getfield 15, 3) := by decide +kernel
theorem dX1_runsIn_27 : decode cX1_runsIn 27 = .ok (.getfield 39, 3) := by decide +kernel
theorem dX1_runsIn_30 : decode cX1_runsIn 30 = .ok (.iconst 4, 1) := by decide +kernel
theorem dX1_runsIn_31 : decode cX1_runsIn 31 = .ok (.imul, 1) := by decide +kernel
theorem dX1_runsIn_32 : decode cX1_runsIn 32 = .ok (.iadd, 1) := by decide +kernel
theorem dX1_runsIn_33 : decode cX1_runsIn 33 = .ok (.if_icmp .ge 22, 3) := by decide +kernel
theorem dX1_runsIn_36 : decode cX1_runsIn 36 = .ok (.aload_n 0, 1) := by decide +kernel
theorem dX1_runsIn_37 : decode cX1_runsIn 37 = .ok (.iload 5, 2) := by decide +kernel
theorem dX1_runsIn_39 : decode cX1_runsIn 39 = .ok (.invokevirtual 58, 3) := by decide +kernel
theorem dX1_runsIn_42 : decode cX1_runsIn 42 = .ok (.iload_n 2, 1) := by decide +kernel
theorem dX1_runsIn_43 : decode cX1_runsIn 43 = .ok (.if_icmp .ne 6, 3) := by decide +kernel
theorem dX1_runsIn_46 : decode cX1_runsIn 46 = .ok (.iinc 3 1, 3) := by decide +kernel
theorem dX1_runsIn_49 : decode cX1_runsIn 49 = .ok (.iinc 5 1, 3) := by decide +kernel
theorem dX1_runsIn_52 : decode cX1_runsIn 52 = .ok (.goto (-33), 3) := by decide +kernel
theorem dX1_runsIn_55 : decode cX1_runsIn 55 = .ok (.iload_n 3, 1) := by decide +kernel
theorem dX1_runsIn_56 : decode cX1_runsIn 56 = .ok (.ireturn, 1) := by decide +kernel
theorem dX1_shortestRunIn_0 : decode cX1_shortestRunIn 0 = .ok (.bipush (-4), 2) := by decide +kernel
theorem dX1_shortestRunIn_2 : decode cX1_shortestRunIn 2 = .ok (.istore_n 3, 1) := by decide +kernel
theorem dX1_shortestRunIn_3 : decode cX1_shortestRunIn 3 = .ok (.iconst 4, 1) := by decide +kernel
theorem dX1_shortestRunIn_4 : decode cX1_shortestRunIn 4 = .ok (.istore 4, 2) := by decide +kernel
theorem dX1_shortestRunIn_6 : decode cX1_shortestRunIn 6 = .ok (.iload_n 1, 1) := by decide +kernel
theorem dX1_shortestRunIn_7 : decode cX1_shortestRunIn 7 = .ok (.aload_n 0, 1) := by decide +kernel
theorem dX1_shortestRunIn_8 : decode cX1_shortestRunIn 8 = .ok (.getfield 15, 3) := by decide +kernel
theorem dX1_shortestRunIn_11 : decode cX1_shortestRunIn 11 = .ok (.getfield 39, 3) := by decide +kernel
theorem dX1_shortestRunIn_14 : decode cX1_shortestRunIn 14 = .ok (.imul, 1) := by decide +kernel
theorem dX1_shortestRunIn_15 : decode cX1_shortestRunIn 15 = .ok (.iconst 4, 1) := by decide +kernel
theorem dX1_shortestRunIn_16 : decode cX1_shortestRunIn 16 = .ok (.imul, 1) := by decide +kernel
theorem dX1_shortestRunIn_17 : decode cX1_shortestRunIn 17 = .ok (.istore 5, 2) := by decide +kernel
theorem dX1_shortestRunIn_19 : decode cX1_shortestRunIn 19 = .ok (.iload 5, 2) := by decide +kernel
theorem dX1_shortestRunIn_21 : decode cX1_shortestRunIn 21 = .ok (.istore 6, 2) := by decide +kernel
theorem dX1_shortestRunIn_23 : decode cX1_shortestRunIn 23 = .ok (.iload 6, 2) := by decide +kernel
theorem dX1_shortestRunIn_25 : decode cX1_shortestRunIn 25 = .ok (.iload 5, 2) := by decide +kernel
theorem dX1_shortestRunIn_27 : decode cX1_shortestRunIn 27 = .ok (.aload_n 0, 1) := by decide +kernel
theorem dX1_shortestRunIn_28 : decode cX1_shortestRunIn 28 = .ok (.getfield 15, 3) := by decide +kernel
theorem dX1_shortestRunIn_31 : decode cX1_shortestRunIn 31 = .ok (.getfield 39, 3) := by decide +kernel
theorem dX1_shortestRunIn_34 : decode cX1_shortestRunIn 34 = .ok (.iconst 4, 1) := by decide +kernel
theorem dX1_shortestRunIn_35 : decode cX1_shortestRunIn 35 = .ok (.imul, 1) := by decide +kernel
theorem dX1_shortestRunIn_36 : decode cX1_shortestRunIn 36 = .ok (.iadd, 1) := by decide +kernel
theorem dX1_shortestRunIn_37 : decode cX1_shortestRunIn 37 = .ok (.if_icmp .ge 37, 3) := by decide +kernel
theorem dX1_shortestRunIn_40 : decode cX1_shortestRunIn 40 = .ok (.aload_n 0, 1) := by decide +kernel
theorem dX1_shortestRunIn_41 : decode cX1_shortestRunIn 41 = .ok (.iload 6, 2) := by decide +kernel
theorem dX1_shortestRunIn_43 : decode cX1_shortestRunIn 43 = .ok (.invokevirtual 58, 3) := by decide +kernel
theorem dX1_shortestRunIn_46 : decode cX1_shortestRunIn 46 = .ok (.istore 7, 2) := by decide +kernel
theorem dX1_shortestRunIn_48 : decode cX1_shortestRunIn 48 = .ok (.iload 7, 2) := by decide +kernel
theorem dX1_shortestRunIn_50 : decode cX1_shortestRunIn 50 = .ok (.iload_n 2, 1) := by decide +kernel
theorem dX1_shortestRunIn_51 : decode cX1_shortestRunIn 51 = .ok (.if_icmp .lt 17, 3) := by decide +kernel
theorem dX1_shortestRunIn_54 : decode cX1_shortestRunIn 54 = .ok (.iload 7, 2) := by decide +kernel
theorem dX1_shortestRunIn_56 : decode cX1_shortestRunIn 56 = .ok (.iload 4, 2) := by decide +kernel
theorem dX1_shortestRunIn_58 : decode cX1_shortestRunIn 58 = .ok (.if_icmp .ge 10, 3) := by decide +kernel
theorem dX1_shortestRunIn_61 : decode cX1_shortestRunIn 61 = .ok (.iload 6, 2) := by decide +kernel
theorem dX1_shortestRunIn_63 : decode cX1_shortestRunIn 63 = .ok (.istore_n 3, 1) := by decide +kernel
theorem dX1_shortestRunIn_64 : decode cX1_shortestRunIn 64 = .ok (.iload 7, 2) := by decide +kernel
theorem dX1_shortestRunIn_66 : decode cX1_shortestRunIn 66 = .ok (.istore 4, 2) := by decide +kernel
theorem dX1_shortestRunIn_68 : decode cX1_shortestRunIn 68 = .ok (.iinc 6 1, 3) := by decide +kernel
theorem dX1_shortestRunIn_71 : decode cX1_shortestRunIn 71 = .ok (.goto (-48), 3) := by decide +kernel
theorem dX1_shortestRunIn_74 : decode cX1_shortestRunIn 74 = .ok (.iload_n 3, 1) := by decide +kernel
theorem dX1_shortestRunIn_75 : decode cX1_shortestRunIn 75 = .ok (.ireturn, 1) := by decide +kernel
theorem dX1_freeBlockIn_0 : decode cX1_freeBlockIn 0 = .ok (.iconst 0, 1) := by decide +kernel
theorem dX1_freeBlockIn_1 : decode cX1_freeBlockIn 1 = .ok (.istore_n 3, 1) := by decide +kernel
theorem dX1_freeBlockIn_2 : decode cX1_freeBlockIn 2 = .ok (.iload_n 3, 1) := by decide +kernel
theorem dX1_freeBlockIn_3 : decode cX1_freeBlockIn 3 = .ok (.aload_n 0, 1) := by decide +kernel
theorem dX1_freeBlockIn_4 : decode cX1_freeBlockIn 4 = .ok (.getfield 15, 3) := by decide +kernel
theorem dX1_freeBlockIn_7 : decode cX1_freeBlockIn 7 = .ok (.getfield 39, 3) := by decide +kernel
theorem dX1_freeBlockIn_10 : decode cX1_freeBlockIn 10 = .ok (.if_icmp .ge 67, 3) := by decide +kernel
theorem dX1_freeBlockIn_13 : decode cX1_freeBlockIn 13 = .ok (.iload_n 2, 1) := by decide +kernel
theorem dX1_freeBlockIn_14 : decode cX1_freeBlockIn 14 = .ok (.iload_n 3, 1) := by decide +kernel
theorem dX1_freeBlockIn_15 : decode cX1_freeBlockIn 15 = .ok (.iadd, 1) := by decide +kernel
theorem dX1_freeBlockIn_16 : decode cX1_freeBlockIn 16 = .ok (.aload_n 0, 1) := by decide +kernel
theorem dX1_freeBlockIn_17 : decode cX1_freeBlockIn 17 = .ok (.getfield 15, 3) := by decide +kernel
theorem dX1_freeBlockIn_20 : decode cX1_freeBlockIn 20 = .ok (.getfield 39, 3) := by decide +kernel
theorem dX1_freeBlockIn_23 : decode cX1_freeBlockIn 23 = .ok (.if_icmp .ge 9, 3) := by decide +kernel
theorem dX1_freeBlockIn_26 : decode cX1_freeBlockIn 26 = .ok (.iload_n 2, 1) := by decide +kernel
theorem dX1_freeBlockIn_27 : decode cX1_freeBlockIn 27 = .ok (.iload_n 3, 1) := by decide +kernel
theorem dX1_freeBlockIn_28 : decode cX1_freeBlockIn 28 = .ok (.iadd, 1) := by decide +kernel
theorem dX1_freeBlockIn_29 : decode cX1_freeBlockIn 29 = .ok (.goto 14, 3) := by decide +kernel
theorem dX1_freeBlockIn_32 : decode cX1_freeBlockIn 32 = .ok (.iload_n 2, 1) := by decide +kernel
theorem dX1_freeBlockIn_33 : decode cX1_freeBlockIn 33 = .ok (.iload_n 3, 1) := by decide +kernel
theorem dX1_freeBlockIn_34 : decode cX1_freeBlockIn 34 = .ok (.iadd, 1) := by decide +kernel
theorem dX1_freeBlockIn_35 : decode cX1_freeBlockIn 35 = .ok (.aload_n 0, 1) := by decide +kernel
theorem dX1_freeBlockIn_36 : decode cX1_freeBlockIn 36 = .ok (.getfield 15, 3) := by decide +kernel
theorem dX1_freeBlockIn_39 : decode cX1_freeBlockIn 39 = .ok (.getfield 39, 3) := by decide +kernel
theorem dX1_freeBlockIn_42 : decode cX1_freeBlockIn 42 = .ok (.isub, 1) := by decide +kernel
theorem dX1_freeBlockIn_43 : decode cX1_freeBlockIn 43 = .ok (.istore 4, 2) := by decide +kernel
theorem dX1_freeBlockIn_45 : decode cX1_freeBlockIn 45 = .ok (.iload_n 1, 1) := by decide +kernel
theorem dX1_freeBlockIn_46 : decode cX1_freeBlockIn 46 = .ok (.aload_n 0, 1) := by decide +kernel
theorem dX1_freeBlockIn_47 : decode cX1_freeBlockIn 47 = .ok (.getfield 15, 3) := by decide +kernel
theorem dX1_freeBlockIn_50 : decode cX1_freeBlockIn 50 = .ok (.getfield 39, 3) := by decide +kernel
theorem dX1_freeBlockIn_53 : decode cX1_freeBlockIn 53 = .ok (.imul, 1) := by decide +kernel
theorem dX1_freeBlockIn_54 : decode cX1_freeBlockIn 54 = .ok (.iload 4, 2) := by decide +kernel
theorem dX1_freeBlockIn_56 : decode cX1_freeBlockIn 56 = .ok (.iadd, 1) := by decide +kernel
theorem dX1_freeBlockIn_57 : decode cX1_freeBlockIn 57 = .ok (.istore 5, 2) := by decide +kernel
theorem dX1_freeBlockIn_59 : decode cX1_freeBlockIn 59 = .ok (.aload_n 0, 1) := by decide +kernel
theorem dX1_freeBlockIn_60 : decode cX1_freeBlockIn 60 = .ok (.iload 5, 2) := by decide +kernel
theorem dX1_freeBlockIn_62 : decode cX1_freeBlockIn 62 = .ok (.invokevirtual 54, 3) := by decide +kernel
theorem dX1_freeBlockIn_65 : decode cX1_freeBlockIn 65 = .ok (.ifCond .eq 6, 3) := by decide +kernel
theorem dX1_freeBlockIn_68 : decode cX1_freeBlockIn 68 = .ok (.iload 5, 2) := by decide +kernel
theorem dX1_freeBlockIn_70 : decode cX1_freeBlockIn 70 = .ok (.ireturn, 1) := by decide +kernel
theorem dX1_freeBlockIn_71 : decode cX1_freeBlockIn 71 = .ok (.iinc 3 1, 3) := by decide +kernel
theorem dX1_freeBlockIn_74 : decode cX1_freeBlockIn 74 = .ok (.goto (-72), 3) := by decide +kernel
theorem dX1_freeBlockIn_77 : decode cX1_freeBlockIn 77 = .ok (.bipush (-4), 2) := by decide +kernel
theorem dX1_freeBlockIn_79 : decode cX1_freeBlockIn 79 = .ok (.ireturn, 1) := by decide +kernel
theorem dX1_takeBlock_0 : decode cX1_takeBlock 0 = .ok (.iconst 0, 1) := by decide +kernel
theorem dX1_takeBlock_1 : decode cX1_takeBlock 1 = .ok (.istore_n 3, 1) := by decide +kernel
theorem dX1_takeBlock_2 : decode cX1_takeBlock 2 = .ok (.iload_n 3, 1) := by decide +kernel
theorem dX1_takeBlock_3 : decode cX1_takeBlock 3 = .ok (.aload_n 0, 1) := by decide +kernel
theorem dX1_takeBlock_4 : decode cX1_takeBlock 4 = .ok (.getfield 15, 3) := by decide +kernel
theorem dX1_takeBlock_7 : decode cX1_takeBlock 7 = .ok (.getfield 48, 3) := by decide +kernel
theorem dX1_takeBlock_10 : decode cX1_takeBlock 10 = .ok (.if_icmp .ge 53, 3) := by decide +kernel
theorem dX1_takeBlock_13 : decode cX1_takeBlock 13 = .ok (.aload_n 0, 1) := by decide +kernel
theorem dX1_takeBlock_14 : decode cX1_takeBlock 14 = .ok (.aload_n 0, 1) := by decide +kernel
theorem dX1_takeBlock_15 : decode cX1_takeBlock 15 = .ok (.getfield 15, 3) := by decide +kernel
theorem dX1_takeBlock_18 : decode cX1_takeBlock 18 = .ok (.iload_n 1, 1) := by decide +kernel
theorem dX1_takeBlock_19 : decode cX1_takeBlock 19 = .ok (.iload_n 3, 1) := by decide +kernel
theorem dX1_takeBlock_20 : decode cX1_takeBlock 20 = .ok (.invokevirtual 61, 3) := by decide +kernel
theorem dX1_takeBlock_23 : decode cX1_takeBlock 23 = .ok (.iload_n 3, 1) := by decide +kernel
theorem dX1_takeBlock_24 : decode cX1_takeBlock 24 = .ok (.ifCond .ne 7, 3) := by decide +kernel
theorem dX1_takeBlock_27 : decode cX1_takeBlock 27 = .ok (.iload_n 2, 1) := by decide +kernel
theorem dX1_takeBlock_28 : decode cX1_takeBlock 28 = .ok (.goto 4, 3) := by decide +kernel
theorem dX1_takeBlock_31 : decode cX1_takeBlock 31 = .ok (.iconst 0, 1) := by decide +kernel
theorem dX1_takeBlock_32 : decode cX1_takeBlock 32 = .ok (.invokevirtual 65, 3) := by decide +kernel
theorem dX1_takeBlock_35 : decode cX1_takeBlock 35 = .ok (.istore 4, 2) := by decide +kernel
theorem dX1_takeBlock_37 : decode cX1_takeBlock 37 = .ok (.iload 4, 2) := by decide +kernel
theorem dX1_takeBlock_39 : decode cX1_takeBlock 39 = .ok (.bipush (-4), 2) := by decide +kernel
theorem dX1_takeBlock_41 : decode cX1_takeBlock 41 = .ok (.if_icmp .eq 16, 3) := by decide +kernel
theorem dX1_takeBlock_44 : decode cX1_takeBlock 44 = .ok (.aload_n 0, 1) := by decide +kernel
theorem dX1_takeBlock_45 : decode cX1_takeBlock 45 = .ok (.iload 4, 2) := by decide +kernel
theorem dX1_takeBlock_47 : decode cX1_takeBlock 47 = .ok (.iconst 4, 1) := by decide +kernel
theorem dX1_takeBlock_48 : decode cX1_takeBlock 48 = .ok (.imul, 1) := by decide +kernel
theorem dX1_takeBlock_49 : decode cX1_takeBlock 49 = .ok (.iconst 4, 1) := by decide +kernel
theorem dX1_takeBlock_50 : decode cX1_takeBlock 50 = .ok (.iconst 0, 1) := by decide +kernel
theorem dX1_takeBlock_51 : decode cX1_takeBlock 51 = .ok (.invokevirtual 68, 3) := by decide +kernel
theorem dX1_takeBlock_54 : decode cX1_takeBlock 54 = .ok (.iload 4, 2) := by decide +kernel
theorem dX1_takeBlock_56 : decode cX1_takeBlock 56 = .ok (.ireturn, 1) := by decide +kernel
theorem dX1_takeBlock_57 : decode cX1_takeBlock 57 = .ok (.iinc 3 1, 3) := by decide +kernel
theorem dX1_takeBlock_60 : decode cX1_takeBlock 60 = .ok (.goto (-58), 3) := by decide +kernel
theorem dX1_takeBlock_63 : decode cX1_takeBlock 63 = .ok (.bipush (-4), 2) := by decide +kernel
theorem dX1_takeBlock_65 : decode cX1_takeBlock 65 = .ok (.ireturn, 1) := by decide +kernel
theorem dX1_takeRun_0 : decode cX1_takeRun 0 = .ok (.iconst 0, 1) := by decide +kernel
theorem dX1_takeRun_1 : decode cX1_takeRun 1 = .ok (.istore_n 3, 1) := by decide +kernel
theorem dX1_takeRun_2 : decode cX1_takeRun 2 = .ok (.iload_n 3, 1) := by decide +kernel
theorem dX1_takeRun_3 : decode cX1_takeRun 3 = .ok (.aload_n 0, 1) := by decide +kernel
theorem dX1_takeRun_4 : decode cX1_takeRun 4 = .ok (.getfield 15, 3) := by decide +kernel
theorem dX1_takeRun_7 : decode cX1_takeRun 7 = .ok (.getfield 48, 3) := by decide +kernel
theorem dX1_takeRun_10 : decode cX1_takeRun 10 = .ok (.if_icmp .ge 81, 3) := by decide +kernel
theorem dX1_takeRun_13 : decode cX1_takeRun 13 = .ok (.aload_n 0, 1) := by decide +kernel
theorem dX1_takeRun_14 : decode cX1_takeRun 14 = .ok (.getfield 15, 3) := by decide +kernel
theorem dX1_takeRun_17 : decode cX1_takeRun 17 = .ok (.iload_n 1, 1) := by decide +kernel
theorem dX1_takeRun_18 : decode cX1_takeRun 18 = .ok (.iload_n 3, 1) := by decide +kernel
theorem dX1_takeRun_19 : decode cX1_takeRun 19 = .ok (.invokevirtual 61, 3) := by decide +kernel
theorem dX1_takeRun_22 : decode cX1_takeRun 22 = .ok (.istore 4, 2) := by decide +kernel
theorem dX1_takeRun_24 : decode cX1_takeRun 24 = .ok (.aload_n 0, 1) := by decide +kernel
theorem dX1_takeRun_25 : decode cX1_takeRun 25 = .ok (.iload 4, 2) := by decide +kernel
theorem dX1_takeRun_27 : decode cX1_takeRun 27 = .ok (.iload_n 2, 1) := by decide +kernel
theorem dX1_takeRun_28 : decode cX1_takeRun 28 = .ok (.invokevirtual 72, 3) := by decide +kernel
theorem dX1_takeRun_31 : decode cX1_takeRun 31 = .ok (.istore 5, 2) := by decide +kernel
theorem dX1_takeRun_33 : decode cX1_takeRun 33 = .ok (.iload 5, 2) := by decide +kernel
theorem dX1_takeRun_35 : decode cX1_takeRun 35 = .ok (.bipush (-4), 2) := by decide +kernel
theorem dX1_takeRun_37 : decode cX1_takeRun 37 = .ok (.if_icmp .ne 30, 3) := by decide +kernel
theorem dX1_takeRun_40 : decode cX1_takeRun 40 = .ok (.aload_n 0, 1) := by decide +kernel
theorem dX1_takeRun_41 : decode cX1_takeRun 41 = .ok (.iload 4, 2) := by decide +kernel
theorem dX1_takeRun_43 : decode cX1_takeRun 43 = .ok (.iconst 0, 1) := by decide +kernel
theorem dX1_takeRun_44 : decode cX1_takeRun 44 = .ok (.invokevirtual 65, 3) := by decide +kernel
theorem dX1_takeRun_47 : decode cX1_takeRun 47 = .ok (.istore 6, 2) := by decide +kernel
theorem dX1_takeRun_49 : decode cX1_takeRun 49 = .ok (.iload 6, 2) := by decide +kernel
theorem dX1_takeRun_51 : decode cX1_takeRun 51 = .ok (.bipush (-4), 2) := by decide +kernel
theorem dX1_takeRun_53 : decode cX1_takeRun 53 = .ok (.if_icmp .ne 8, 3) := by decide +kernel
theorem dX1_takeRun_56 : decode cX1_takeRun 56 = .ok (.bipush (-4), 2) := by decide +kernel
theorem dX1_takeRun_58 : decode cX1_takeRun 58 = .ok (.goto 7, 3) := by decide +kernel
theorem dX1_takeRun_61 : decode cX1_takeRun 61 = .ok (.iload 6, 2) := by decide +kernel
theorem dX1_takeRun_63 : decode cX1_takeRun 63 = .ok (.iconst 4, 1) := by decide +kernel
theorem dX1_takeRun_64 : decode cX1_takeRun 64 = .ok (.imul, 1) := by decide +kernel
theorem dX1_takeRun_65 : decode cX1_takeRun 65 = .ok (.istore 5, 2) := by decide +kernel
theorem dX1_takeRun_67 : decode cX1_takeRun 67 = .ok (.iload 5, 2) := by decide +kernel
theorem dX1_takeRun_69 : decode cX1_takeRun 69 = .ok (.bipush (-4), 2) := by decide +kernel
theorem dX1_takeRun_71 : decode cX1_takeRun 71 = .ok (.if_icmp .eq 14, 3) := by decide +kernel
theorem dX1_takeRun_74 : decode cX1_takeRun 74 = .ok (.aload_n 0, 1) := by decide +kernel
theorem dX1_takeRun_75 : decode cX1_takeRun 75 = .ok (.iload 5, 2) := by decide +kernel
theorem dX1_takeRun_77 : decode cX1_takeRun 77 = .ok (.iload_n 2, 1) := by decide +kernel
theorem dX1_takeRun_78 : decode cX1_takeRun 78 = .ok (.iconst 0, 1) := by decide +kernel
theorem dX1_takeRun_79 : decode cX1_takeRun 79 = .ok (.invokevirtual 68, 3) := by decide +kernel
theorem dX1_takeRun_82 : decode cX1_takeRun 82 = .ok (.iload 5, 2) := by decide +kernel
theorem dX1_takeRun_84 : decode cX1_takeRun 84 = .ok (.ireturn, 1) := by decide +kernel
theorem dX1_takeRun_85 : decode cX1_takeRun 85 = .ok (.iinc 3 1, 3) := by decide +kernel
theorem dX1_takeRun_88 : decode cX1_takeRun 88 = .ok (.goto (-86), 3) := by decide +kernel
theorem dX1_takeRun_91 : decode cX1_takeRun 91 = .ok (.bipush (-4), 2) := by decide +kernel
theorem dX1_takeRun_93 : decode cX1_takeRun 93 = .ok (.ireturn, 1) := by decide +kernel
theorem dX1_groupOnward_0 : decode cX1_groupOnward 0 = .ok (.aload_n 0, 1) := by decide +kernel
theorem dX1_groupOnward_1 : decode cX1_groupOnward 1 = .ok (.invokevirtual 75, 3) := by decide +kernel
theorem dX1_groupOnward_4 : decode cX1_groupOnward 4 = .ok (.istore_n 2, 1) := by decide +kernel
theorem dX1_groupOnward_5 : decode cX1_groupOnward 5 = .ok (.iconst 1, 1) := by decide +kernel
theorem dX1_groupOnward_6 : decode cX1_groupOnward 6 = .ok (.istore_n 3, 1) := by decide +kernel
theorem dX1_groupOnward_7 : decode cX1_groupOnward 7 = .ok (.iload_n 3, 1) := by decide +kernel
theorem dX1_groupOnward_8 : decode cX1_groupOnward 8 = .ok (.aload_n 0, 1) := by decide +kernel
theorem dX1_groupOnward_9 : decode cX1_groupOnward 9 = .ok (.getfield 15, 3) := by decide +kernel
theorem dX1_groupOnward_12 : decode cX1_groupOnward 12 = .ok (.getfield 48, 3) := by decide +kernel
theorem dX1_groupOnward_15 : decode cX1_groupOnward 15 = .ok (.if_icmp .ge 41, 3) := by decide +kernel
theorem dX1_groupOnward_18 : decode cX1_groupOnward 18 = .ok (.aload_n 0, 1) := by decide +kernel
theorem dX1_groupOnward_19 : decode cX1_groupOnward 19 = .ok (.getfield 15, 3) := by decide +kernel
theorem dX1_groupOnward_22 : decode cX1_groupOnward 22 = .ok (.iload_n 1, 1) := by decide +kernel
theorem dX1_groupOnward_23 : decode cX1_groupOnward 23 = .ok (.iload_n 3, 1) := by decide +kernel
theorem dX1_groupOnward_24 : decode cX1_groupOnward 24 = .ok (.invokevirtual 61, 3) := by decide +kernel
theorem dX1_groupOnward_27 : decode cX1_groupOnward 27 = .ok (.istore 4, 2) := by decide +kernel
theorem dX1_groupOnward_29 : decode cX1_groupOnward 29 = .ok (.aload_n 0, 1) := by decide +kernel
theorem dX1_groupOnward_30 : decode cX1_groupOnward 30 = .ok (.iload 4, 2) := by decide +kernel
theorem dX1_groupOnward_32 : decode cX1_groupOnward 32 = .ok (.invokevirtual 78, 3) := by decide +kernel
theorem dX1_groupOnward_35 : decode cX1_groupOnward 35 = .ok (.aload_n 0, 1) := by decide +kernel
theorem dX1_groupOnward_36 : decode cX1_groupOnward 36 = .ok (.getfield 15, 3) := by decide +kernel
theorem dX1_groupOnward_39 : decode cX1_groupOnward 39 = .ok (.getfield 48, 3) := by decide +kernel
theorem dX1_groupOnward_42 : decode cX1_groupOnward 42 = .ok (.imul, 1) := by decide +kernel
theorem dX1_groupOnward_43 : decode cX1_groupOnward 43 = .ok (.iload_n 2, 1) := by decide +kernel
theorem dX1_groupOnward_44 : decode cX1_groupOnward 44 = .ok (.if_icmp .lt 6, 3) := by decide +kernel
theorem dX1_groupOnward_47 : decode cX1_groupOnward 47 = .ok (.iload 4, 2) := by decide +kernel
theorem dX1_groupOnward_49 : decode cX1_groupOnward 49 = .ok (.ireturn, 1) := by decide +kernel
theorem dX1_groupOnward_50 : decode cX1_groupOnward 50 = .ok (.iinc 3 1, 3) := by decide +kernel
theorem dX1_groupOnward_53 : decode cX1_groupOnward 53 = .ok (.goto (-46), 3) := by decide +kernel
theorem dX1_groupOnward_56 : decode cX1_groupOnward 56 = .ok (.iload_n 1, 1) := by decide +kernel
theorem dX1_groupOnward_57 : decode cX1_groupOnward 57 = .ok (.ireturn, 1) := by decide +kernel
theorem dX1_gatheredRowIn_0 : decode cX1_gatheredRowIn 0 = .ok (.iconst 1, 1) := by decide +kernel
theorem dX1_gatheredRowIn_1 : decode cX1_gatheredRowIn 1 = .ok (.aload_n 0, 1) := by decide +kernel
theorem dX1_gatheredRowIn_2 : decode cX1_gatheredRowIn 2 = .ok (.getfield 15, 3) := by decide +kernel
theorem dX1_gatheredRowIn_5 : decode cX1_gatheredRowIn 5 = .ok (.getfield 81, 3) := by decide +kernel
theorem dX1_gatheredRowIn_8 : decode cX1_gatheredRowIn 8 = .ok (.iadd, 1) := by decide +kernel
theorem dX1_gatheredRowIn_9 : decode cX1_gatheredRowIn 9 = .ok (.istore_n 3, 1) := by decide +kernel
theorem dX1_gatheredRowIn_10 : decode cX1_gatheredRowIn 10 = .ok (.iconst 0, 1) := by decide +kernel
theorem dX1_gatheredRowIn_11 : decode cX1_gatheredRowIn 11 = .ok (.istore 4, 2) := by decide +kernel
theorem dX1_gatheredRowIn_13 : decode cX1_gatheredRowIn 13 = .ok (.iload 4, 2) := by decide +kernel
theorem dX1_gatheredRowIn_15 : decode cX1_gatheredRowIn 15 = .ok (.iload_n 2, 1) := by decide +kernel
theorem dX1_gatheredRowIn_16 : decode cX1_gatheredRowIn 16 = .ok (.iconst 1, 1) := by decide +kernel
theorem dX1_gatheredRowIn_17 : decode cX1_gatheredRowIn 17 = .ok (.isub, 1) := by decide +kernel
theorem dX1_gatheredRowIn_18 : decode cX1_gatheredRowIn 18 = .ok (.iload_n 3, 1) := by decide +kernel
theorem dX1_gatheredRowIn_19 : decode cX1_gatheredRowIn 19 = .ok (.imul, 1) := by decide +kernel
theorem dX1_gatheredRowIn_20 : decode cX1_gatheredRowIn 20 = .ok (.iadd, 1) := by decide +kernel
theorem dX1_gatheredRowIn_21 : decode cX1_gatheredRowIn 21 = .ok (.aload_n 0, 1) := by decide +kernel
theorem dX1_gatheredRowIn_22 : decode cX1_gatheredRowIn 22 = .ok (.getfield 15, 3) := by decide +kernel
theorem dX1_gatheredRowIn_25 : decode cX1_gatheredRowIn 25 = .ok (.getfield 39, 3) := by decide +kernel
theorem dX1_gatheredRowIn_28 : decode cX1_gatheredRowIn 28 = .ok (.if_icmp .ge 67, 3) := by decide +kernel
theorem dX1_gatheredRowIn_31 : decode cX1_gatheredRowIn 31 = .ok (.iconst 0, 1) := by decide +kernel
theorem dX1_gatheredRowIn_32 : decode cX1_gatheredRowIn 32 = .ok (.istore 5, 2) := by decide +kernel
theorem dX1_gatheredRowIn_34 : decode cX1_gatheredRowIn 34 = .ok (.iload 5, 2) := by decide +kernel
theorem dX1_gatheredRowIn_36 : decode cX1_gatheredRowIn 36 = .ok (.iload_n 2, 1) := by decide +kernel
theorem dX1_gatheredRowIn_37 : decode cX1_gatheredRowIn 37 = .ok (.if_icmp .ge 33, 3) := by decide +kernel
theorem dX1_gatheredRowIn_40 : decode cX1_gatheredRowIn 40 = .ok (.aload_n 0, 1) := by decide +kernel
theorem dX1_gatheredRowIn_41 : decode cX1_gatheredRowIn 41 = .ok (.iload_n 1, 1) := by decide +kernel
theorem dX1_gatheredRowIn_42 : decode cX1_gatheredRowIn 42 = .ok (.aload_n 0, 1) := by decide +kernel
theorem dX1_gatheredRowIn_43 : decode cX1_gatheredRowIn 43 = .ok (.getfield 15, 3) := by decide +kernel
theorem dX1_gatheredRowIn_46 : decode cX1_gatheredRowIn 46 = .ok (.getfield 39, 3) := by decide +kernel
theorem dX1_gatheredRowIn_49 : decode cX1_gatheredRowIn 49 = .ok (.imul, 1) := by decide +kernel
theorem dX1_gatheredRowIn_50 : decode cX1_gatheredRowIn 50 = .ok (.iload 4, 2) := by decide +kernel
theorem dX1_gatheredRowIn_52 : decode cX1_gatheredRowIn 52 = .ok (.iadd, 1) := by decide +kernel
theorem dX1_gatheredRowIn_53 : decode cX1_gatheredRowIn 53 = .ok (.iload 5, 2) := by decide +kernel
theorem dX1_gatheredRowIn_55 : decode cX1_gatheredRowIn 55 = .ok (.iload_n 3, 1) := by decide +kernel
theorem dX1_gatheredRowIn_56 : decode cX1_gatheredRowIn 56 = .ok (.imul, 1) := by decide +kernel
theorem dX1_gatheredRowIn_57 : decode cX1_gatheredRowIn 57 = .ok (.iadd, 1) := by decide +kernel
theorem dX1_gatheredRowIn_58 : decode cX1_gatheredRowIn 58 = .ok (.invokevirtual 54, 3) := by decide +kernel
theorem dX1_gatheredRowIn_61 : decode cX1_gatheredRowIn 61 = .ok (.ifCond .eq 9, 3) := by decide +kernel
theorem dX1_gatheredRowIn_64 : decode cX1_gatheredRowIn 64 = .ok (.iinc 5 1, 3) := by decide +kernel
theorem dX1_gatheredRowIn_67 : decode cX1_gatheredRowIn 67 = .ok (.goto (-33), 3) := by decide +kernel
theorem dX1_gatheredRowIn_70 : decode cX1_gatheredRowIn 70 = .ok (.iload 5, 2) := by decide +kernel
theorem dX1_gatheredRowIn_72 : decode cX1_gatheredRowIn 72 = .ok (.iload_n 2, 1) := by decide +kernel
theorem dX1_gatheredRowIn_73 : decode cX1_gatheredRowIn 73 = .ok (.if_icmp .ne 16, 3) := by decide +kernel
theorem dX1_gatheredRowIn_76 : decode cX1_gatheredRowIn 76 = .ok (.iload_n 1, 1) := by decide +kernel
theorem dX1_gatheredRowIn_77 : decode cX1_gatheredRowIn 77 = .ok (.aload_n 0, 1) := by decide +kernel
theorem dX1_gatheredRowIn_78 : decode cX1_gatheredRowIn 78 = .ok (.getfield 15, 3) := by decide +kernel
theorem dX1_gatheredRowIn_81 : decode cX1_gatheredRowIn 81 = .ok (.getfield 39, 3) := by decide +kernel
theorem dX1_gatheredRowIn_84 : decode cX1_gatheredRowIn 84 = .ok (.imul, 1) := by decide +kernel
theorem dX1_gatheredRowIn_85 : decode cX1_gatheredRowIn 85 = .ok (.iload 4, 2) := by decide +kernel
theorem dX1_gatheredRowIn_87 : decode cX1_gatheredRowIn 87 = .ok (.iadd, 1) := by decide +kernel
theorem dX1_gatheredRowIn_88 : decode cX1_gatheredRowIn 88 = .ok (.ireturn, 1) := by decide +kernel
theorem dX1_gatheredRowIn_89 : decode cX1_gatheredRowIn 89 = .ok (.iinc 4 1, 3) := by decide +kernel
theorem dX1_gatheredRowIn_92 : decode cX1_gatheredRowIn 92 = .ok (.goto (-79), 3) := by decide +kernel
theorem dX1_gatheredRowIn_95 : decode cX1_gatheredRowIn 95 = .ok (.bipush (-4), 2) := by decide +kernel
theorem dX1_gatheredRowIn_97 : decode cX1_gatheredRowIn 97 = .ok (.ireturn, 1) := by decide +kernel
theorem dX2_init_0 : decode cX2_init 0 = .ok (.aload_n 0, 1) := by decide +kernel
theorem dX2_init_1 : decode cX2_init 1 = .ok (.invokespecial 3, 3) := by decide +kernel
theorem dX2_init_4 : decode cX2_init 4 = .ok (.aload_n 0, 1) := by decide +kernel
theorem dX2_init_5 : decode cX2_init 5 = .ok (.bipush 24, 2) := by decide +kernel
theorem dX2_init_7 : decode cX2_init 7 = .ok (.newarray .int, 2) := by decide +kernel
theorem dX2_init_9 : decode cX2_init 9 = .ok (.putfield 9, 3) := by decide +kernel
theorem dX2_init_12 : decode cX2_init 12 = .ok (.aload_n 0, 1) := by decide +kernel
theorem dX2_init_13 : decode cX2_init 13 = .ok (.bipush 24, 2) := by decide +kernel
theorem dX2_init_15 : decode cX2_init 15 = .ok (.newarray .int, 2) := by decide +kernel
theorem dX2_init_17 : decode cX2_init 17 = .ok (.putfield 15, 3) := by decide +kernel
theorem dX2_init_20 : decode cX2_init 20 = .ok (.aload_n 0, 1) := by decide +kernel
theorem dX2_init_21 : decode cX2_init 21 = .ok (.bipush 24, 2) := by decide +kernel
theorem dX2_init_23 : decode cX2_init 23 = .ok (.newarray .int, 2) := by decide +kernel
theorem dX2_init_25 : decode cX2_init 25 = .ok (.putfield 18, 3) := by decide +kernel
theorem dX2_init_28 : decode cX2_init 28 = .ok (.aload_n 0, 1) := by decide +kernel
theorem dX2_init_29 : decode cX2_init 29 = .ok (.bipush 24, 2) := by decide +kernel
theorem dX2_init_31 : decode cX2_init 31 = .ok (.newarray .int, 2) := by decide +kernel
theorem dX2_init_33 : decode cX2_init 33 = .ok (.putfield 21, 3) := by decide +kernel
theorem dX2_init_36 : decode cX2_init 36 = .ok (.aload_n 0, 1) := by decide +kernel
theorem dX2_init_37 : decode cX2_init 37 = .ok (.bipush 24, 2) := by decide +kernel
theorem dX2_init_39 : decode cX2_init 39 = .ok (.newarray .int, 2) := by decide +kernel
theorem dX2_init_41 : decode cX2_init 41 = .ok (.putfield 24, 3) := by decide +kernel
theorem dX2_init_44 : decode cX2_init 44 = .ok (.aload_n 0, 1) := by decide +kernel
theorem dX2_init_45 : decode cX2_init 45 = .ok (.sipush 240, 3) := by decide +kernel
theorem dX2_init_48 : decode cX2_init 48 = .ok (.newarray .int, 2) := by decide +kernel
theorem dX2_init_50 : decode cX2_init 50 = .ok (.putfield 27, 3) := by decide +kernel
theorem dX2_init_53 : decode cX2_init 53 = .ok (.aload_n 0, 1) := by decide +kernel
theorem dX2_init_54 : decode cX2_init 54 = .ok (.aload_n 1, 1) := by decide +kernel
theorem dX2_init_55 : decode cX2_init 55 = .ok (.putfield 30, 3) := by decide +kernel
theorem dX2_init_58 : decode cX2_init 58 = .ok (.return_, 1) := by decide +kernel
theorem dX2_copyFrom_0 : decode cX2_copyFrom 0 = .ok (.aload_n 1, 1) := by decide +kernel
theorem dX2_copyFrom_1 : decode cX2_copyFrom 1 = .ok (.getfield 9, 3) := by decide +kernel
theorem dX2_copyFrom_4 : decode cX2_copyFrom 4 = .ok (.iconst 0, 1) := by decide +kernel
theorem dX2_copyFrom_5 : decode cX2_copyFrom 5 = .ok (.aload_n 0, 1) := by decide +kernel
theorem dX2_copyFrom_6 : decode cX2_copyFrom 6 = .ok (.getfield 9, 3) := by decide +kernel
theorem dX2_copyFrom_9 : decode cX2_copyFrom 9 = .ok (.iconst 0, 1) := by decide +kernel
theorem dX2_copyFrom_10 : decode cX2_copyFrom 10 = .ok (.bipush 24, 2) := by decide +kernel
theorem dX2_copyFrom_12 : decode cX2_copyFrom 12 = .ok (.invokestatic 34, 3) := by decide +kernel
theorem dX2_copyFrom_15 : decode cX2_copyFrom 15 = .ok (.aload_n 1, 1) := by decide +kernel
theorem dX2_copyFrom_16 : decode cX2_copyFrom 16 = .ok (.getfield 15, 3) := by decide +kernel
theorem dX2_copyFrom_19 : decode cX2_copyFrom 19 = .ok (.iconst 0, 1) := by decide +kernel
theorem dX2_copyFrom_20 : decode cX2_copyFrom 20 = .ok (.aload_n 0, 1) := by decide +kernel
theorem dX2_copyFrom_21 : decode cX2_copyFrom 21 = .ok (.getfield 15, 3) := by decide +kernel
theorem dX2_copyFrom_24 : decode cX2_copyFrom 24 = .ok (.iconst 0, 1) := by decide +kernel
theorem dX2_copyFrom_25 : decode cX2_copyFrom 25 = .ok (.bipush 24, 2) := by decide +kernel
theorem dX2_copyFrom_27 : decode cX2_copyFrom 27 = .ok (.invokestatic 34, 3) := by decide +kernel
theorem dX2_copyFrom_30 : decode cX2_copyFrom 30 = .ok (.aload_n 1, 1) := by decide +kernel
theorem dX2_copyFrom_31 : decode cX2_copyFrom 31 = .ok (.getfield 18, 3) := by decide +kernel
theorem dX2_copyFrom_34 : decode cX2_copyFrom 34 = .ok (.iconst 0, 1) := by decide +kernel
theorem dX2_copyFrom_35 : decode cX2_copyFrom 35 = .ok (.aload_n 0, 1) := by decide +kernel
theorem dX2_copyFrom_36 : decode cX2_copyFrom 36 = .ok (.getfield 18, 3) := by decide +kernel
theorem dX2_copyFrom_39 : decode cX2_copyFrom 39 = .ok (.iconst 0, 1) := by decide +kernel
theorem dX2_copyFrom_40 : decode cX2_copyFrom 40 = .ok (.bipush 24, 2) := by decide +kernel
theorem dX2_copyFrom_42 : decode cX2_copyFrom 42 = .ok (.invokestatic 34, 3) := by decide +kernel
theorem dX2_copyFrom_45 : decode cX2_copyFrom 45 = .ok (.aload_n 1, 1) := by decide +kernel
theorem dX2_copyFrom_46 : decode cX2_copyFrom 46 = .ok (.getfield 21, 3) := by decide +kernel
theorem dX2_copyFrom_49 : decode cX2_copyFrom 49 = .ok (.iconst 0, 1) := by decide +kernel
theorem dX2_copyFrom_50 : decode cX2_copyFrom 50 = .ok (.aload_n 0, 1) := by decide +kernel
theorem dX2_copyFrom_51 : decode cX2_copyFrom 51 = .ok (.getfield 21, 3) := by decide +kernel
theorem dX2_copyFrom_54 : decode cX2_copyFrom 54 = .ok (.iconst 0, 1) := by decide +kernel
theorem dX2_copyFrom_55 : decode cX2_copyFrom 55 = .ok (.bipush 24, 2) := by decide +kernel
theorem dX2_copyFrom_57 : decode cX2_copyFrom 57 = .ok (.invokestatic 34, 3) := by decide +kernel
theorem dX2_copyFrom_60 : decode cX2_copyFrom 60 = .ok (.aload_n 1, 1) := by decide +kernel
theorem dX2_copyFrom_61 : decode cX2_copyFrom 61 = .ok (.getfield 24, 3) := by decide +kernel
theorem dX2_copyFrom_64 : decode cX2_copyFrom 64 = .ok (.iconst 0, 1) := by decide +kernel
theorem dX2_copyFrom_65 : decode cX2_copyFrom 65 = .ok (.aload_n 0, 1) := by decide +kernel
theorem dX2_copyFrom_66 : decode cX2_copyFrom 66 = .ok (.getfield 24, 3) := by decide +kernel
theorem dX2_copyFrom_69 : decode cX2_copyFrom 69 = .ok (.iconst 0, 1) := by decide +kernel
theorem dX2_copyFrom_70 : decode cX2_copyFrom 70 = .ok (.bipush 24, 2) := by decide +kernel
theorem dX2_copyFrom_72 : decode cX2_copyFrom 72 = .ok (.invokestatic 34, 3) := by decide +kernel
theorem dX2_copyFrom_75 : decode cX2_copyFrom 75 = .ok (.aload_n 1, 1) := by decide +kernel
theorem dX2_copyFrom_76 : decode cX2_copyFrom 76 = .ok (.getfield 27, 3) := by decide +kernel
theorem dX2_copyFrom_79 : decode cX2_copyFrom 79 = .ok (.iconst 0, 1) := by decide +kernel
theorem dX2_copyFrom_80 : decode cX2_copyFrom 80 = .ok (.aload_n 0, 1) := by decide +kernel
theorem dX2_copyFrom_81 : decode cX2_copyFrom 81 = .ok (.getfield 27, 3) := by decide +kernel
theorem dX2_copyFrom_84 : decode cX2_copyFrom 84 = .ok (.iconst 0, 1) := by decide +kernel
theorem dX2_copyFrom_85 : decode cX2_copyFrom 85 = .ok (.sipush 240, 3) := by decide +kernel
theorem dX2_copyFrom_88 : decode cX2_copyFrom 88 = .ok (.invokestatic 34, 3) := by decide +kernel
theorem dX2_copyFrom_91 : decode cX2_copyFrom 91 = .ok (.return_, 1) := by decide +kernel
theorem dX2_clear_0 : decode cX2_clear 0 = .ok (.iconst 0, 1) := by decide +kernel
theorem dX2_clear_1 : decode cX2_clear 1 = .ok (.istore_n 1, 1) := by decide +kernel
theorem dX2_clear_2 : decode cX2_clear 2 = .ok (.iload_n 1, 1) := by decide +kernel
theorem dX2_clear_3 : decode cX2_clear 3 = .ok (.bipush 24, 2) := by decide +kernel
theorem dX2_clear_5 : decode cX2_clear 5 = .ok (.if_icmp .ge 19, 3) := by decide +kernel
theorem dX2_clear_8 : decode cX2_clear 8 = .ok (.aload_n 0, 1) := by decide +kernel
theorem dX2_clear_9 : decode cX2_clear 9 = .ok (.iload_n 1, 1) := by decide +kernel
theorem dX2_clear_10 : decode cX2_clear 10 = .ok (.iconst 0, 1) := by decide +kernel
theorem dX2_clear_11 : decode cX2_clear 11 = .ok (.bipush (-4), 2) := by decide +kernel
theorem dX2_clear_13 : decode cX2_clear 13 = .ok (.bipush (-4), 2) := by decide +kernel
theorem dX2_clear_15 : decode cX2_clear 15 = .ok (.invokevirtual 40, 3) := by decide +kernel
theorem dX2_clear_18 : decode cX2_clear 18 = .ok (.iinc 1 1, 3) := by decide +kernel
theorem dX2_clear_21 : decode cX2_clear 21 = .ok (.goto (-19), 3) := by decide +kernel
theorem dX2_clear_24 : decode cX2_clear 24 = .ok (.return_, 1) := by decide +kernel
theorem dX2_become_0 : decode cX2_become 0 = .ok (.iload_n 1, 1) := by decide +kernel
theorem dX2_become_1 : decode cX2_become 1 = .ok (.ifCond .lt 16, 3) := by decide +kernel
theorem dX2_become_4 : decode cX2_become 4 = .ok (.iload_n 1, 1) := by decide +kernel
theorem dX2_become_5 : decode cX2_become 5 = .ok (.bipush 24, 2) := by decide +kernel
theorem dX2_become_7 : decode cX2_become 7 = .ok (.if_icmp .ge 10, 3) := by decide +kernel
theorem dX2_become_10 : decode cX2_become 10 = .ok (.aload_n 0, 1) := by decide +kernel
theorem dX2_become_11 : decode cX2_become 11 = .ok (.getfield 9, 3) := by decide +kernel
theorem dX2_become_14 : decode cX2_become 14 = .ok (.iload_n 1, 1) := by decide +kernel
theorem dX2_become_15 : decode cX2_become 15 = .ok (.iload_n 2, 1) := by decide +kernel
theorem dX2_become_16 : decode cX2_become 16 = .ok (.iastore, 1) := by decide +kernel
theorem dX2_become_17 : decode cX2_become 17 = .ok (.aload_n 0, 1) := by decide +kernel
theorem dX2_become_18 : decode cX2_become 18 = .ok (.iload_n 1, 1) := by decide +kernel
theorem dX2_become_19 : decode cX2_become 19 = .ok (.iload_n 3, 1) := by decide +kernel
theorem dX2_become_20 : decode cX2_become 20 = .ok (.iload 4, 2) := by decide +kernel
theorem dX2_become_22 : decode cX2_become 22 = .ok (.invokevirtual 44, 3) := by decide +kernel
theorem dX2_become_25 : decode cX2_become 25 = .ok (.aload_n 0, 1) := by decide +kernel
theorem dX2_become_26 : decode cX2_become 26 = .ok (.iload_n 1, 1) := by decide +kernel
theorem dX2_become_27 : decode cX2_become 27 = .ok (.iconst 0, 1) := by decide +kernel
theorem dX2_become_28 : decode cX2_become 28 = .ok (.bipush (-4), 2) := by decide +kernel
theorem dX2_become_30 : decode cX2_become 30 = .ok (.invokevirtual 48, 3) := by decide +kernel
theorem dX2_become_33 : decode cX2_become 33 = .ok (.return_, 1) := by decide +kernel
theorem dX2_setEntry_0 : decode cX2_setEntry 0 = .ok (.iload_n 1, 1) := by decide +kernel
theorem dX2_setEntry_1 : decode cX2_setEntry 1 = .ok (.ifCond .lt 23, 3) := by decide +kernel
theorem dX2_setEntry_4 : decode cX2_setEntry 4 = .ok (.iload_n 1, 1) := by decide +kernel
theorem dX2_setEntry_5 : decode cX2_setEntry 5 = .ok (.bipush 24, 2) := by decide +kernel
theorem dX2_setEntry_7 : decode cX2_setEntry 7 = .ok (.if_icmp .ge 17, 3) := by decide +kernel
theorem dX2_setEntry_10 : decode cX2_setEntry 10 = .ok (.aload_n 0, 1) := by decide +kernel
theorem dX2_setEntry_11 : decode cX2_setEntry 11 = .ok (.getfield 15, 3) := by decide +kernel
theorem dX2_setEntry_14 : decode cX2_setEntry 14 = .ok (.iload_n 1, 1) := by decide +kernel
theorem dX2_setEntry_15 : decode cX2_setEntry 15 = .ok (.iload_n 2, 1) := by decide +kernel
theorem dX2_setEntry_16 : decode cX2_setEntry 16 = .ok (.iastore, 1) := by decide +kernel
theorem dX2_setEntry_17 : decode cX2_setEntry 17 = .ok (.aload_n 0, 1) := by decide +kernel
theorem dX2_setEntry_18 : decode cX2_setEntry 18 = .ok (.getfield 18, 3) := by decide +kernel
theorem dX2_setEntry_21 : decode cX2_setEntry 21 = .ok (.iload_n 1, 1) := by decide +kernel
theorem dX2_setEntry_22 : decode cX2_setEntry 22 = .ok (.iload_n 3, 1) := by decide +kernel
theorem dX2_setEntry_23 : decode cX2_setEntry 23 = .ok (.iastore, 1) := by decide +kernel
theorem dX2_setEntry_24 : decode cX2_setEntry 24 = .ok (.return_, 1) := by decide +kernel
theorem dX2_setSize_0 : decode cX2_setSize 0 = .ok (.iload_n 1, 1) := by decide +kernel
theorem dX2_setSize_1 : decode cX2_setSize 1 = .ok (.ifCond .lt 23, 3) := by decide +kernel
theorem dX2_setSize_4 : decode cX2_setSize 4 = .ok (.iload_n 1, 1) := by decide +kernel
theorem dX2_setSize_5 : decode cX2_setSize 5 = .ok (.bipush 24, 2) := by decide +kernel
theorem dX2_setSize_7 : decode cX2_setSize 7 = .ok (.if_icmp .ge 17, 3) := by decide +kernel
theorem dX2_setSize_10 : decode cX2_setSize 10 = .ok (.aload_n 0, 1) := by decide +kernel
theorem dX2_setSize_11 : decode cX2_setSize 11 = .ok (.getfield 21, 3) := by decide +kernel
theorem dX2_setSize_14 : decode cX2_setSize 14 = .ok (.iload_n 1, 1) := by decide +kernel
theorem dX2_setSize_15 : decode cX2_setSize 15 = .ok (.iload_n 2, 1) := by decide +kernel
theorem dX2_setSize_16 : decode cX2_setSize 16 = .ok (.iastore, 1) := by decide +kernel
theorem dX2_setSize_17 : decode cX2_setSize 17 = .ok (.aload_n 0, 1) := by decide +kernel
theorem dX2_setSize_18 : decode cX2_setSize 18 = .ok (.getfield 24, 3) := by decide +kernel
theorem dX2_setSize_21 : decode cX2_setSize 21 = .ok (.iload_n 1, 1) := by decide +kernel
theorem dX2_setSize_22 : decode cX2_setSize 22 = .ok (.iload_n 3, 1) := by decide +kernel
theorem dX2_setSize_23 : decode cX2_setSize 23 = .ok (.iastore, 1) := by decide +kernel
theorem dX2_setSize_24 : decode cX2_setSize 24 = .ok (.return_, 1) := by decide +kernel
theorem dX2_setBlock_0 : decode cX2_setBlock 0 = .ok (.iload_n 1, 1) := by decide +kernel
theorem dX2_setBlock_1 : decode cX2_setBlock 1 = .ok (.ifCond .lt 31, 3) := by decide +kernel
theorem dX2_setBlock_4 : decode cX2_setBlock 4 = .ok (.iload_n 1, 1) := by decide +kernel
theorem dX2_setBlock_5 : decode cX2_setBlock 5 = .ok (.bipush 24, 2) := by decide +kernel
theorem dX2_setBlock_7 : decode cX2_setBlock 7 = .ok (.if_icmp .ge 25, 3) := by decide +kernel
theorem dX2_setBlock_10 : decode cX2_setBlock 10 = .ok (.iload_n 2, 1) := by decide +kernel
theorem dX2_setBlock_11 : decode cX2_setBlock 11 = .ok (.ifCond .lt 21, 3) := by decide +kernel
theorem dX2_setBlock_14 : decode cX2_setBlock 14 = .ok (.iload_n 2, 1) := by decide +kernel
theorem dX2_setBlock_15 : decode cX2_setBlock 15 = .ok (.bipush 10, 2) := by decide +kernel
theorem dX2_setBlock_17 : decode cX2_setBlock 17 = .ok (.if_icmp .ge 15, 3) := by decide +kernel
theorem dX2_setBlock_20 : decode cX2_setBlock 20 = .ok (.aload_n 0, 1) := by decide +kernel
theorem dX2_setBlock_21 : decode cX2_setBlock 21 = .ok (.getfield 27, 3) := by decide +kernel
theorem dX2_setBlock_24 : decode cX2_setBlock 24 = .ok (.iload_n 1, 1) := by decide +kernel
theorem dX2_setBlock_25 : decode cX2_setBlock 25 = .ok (.bipush 10, 2) := by decide +kernel
theorem dX2_setBlock_27 : decode cX2_setBlock 27 = .ok (.imul, 1) := by decide +kernel
theorem dX2_setBlock_28 : decode cX2_setBlock 28 = .ok (.iload_n 2, 1) := by decide +kernel
theorem dX2_setBlock_29 : decode cX2_setBlock 29 = .ok (.iadd, 1) := by decide +kernel
theorem dX2_setBlock_30 : decode cX2_setBlock 30 = .ok (.iload_n 3, 1) := by decide +kernel
theorem dX2_setBlock_31 : decode cX2_setBlock 31 = .ok (.iastore, 1) := by decide +kernel
theorem dX2_setBlock_32 : decode cX2_setBlock 32 = .ok (.return_, 1) := by decide +kernel
theorem dX2_blockAt_0 : decode cX2_blockAt 0 = .ok (.iload_n 1, 1) := by decide +kernel
theorem dX2_blockAt_1 : decode cX2_blockAt 1 = .ok (.ifCond .lt 19, 3) := by decide +kernel
theorem dX2_blockAt_4 : decode cX2_blockAt 4 = .ok (.iload_n 1, 1) := by decide +kernel
theorem dX2_blockAt_5 : decode cX2_blockAt 5 = .ok (.bipush 24, 2) := by decide +kernel
theorem dX2_blockAt_7 : decode cX2_blockAt 7 = .ok (.if_icmp .ge 13, 3) := by decide +kernel
theorem dX2_blockAt_10 : decode cX2_blockAt 10 = .ok (.iload_n 2, 1) := by decide +kernel
theorem dX2_blockAt_11 : decode cX2_blockAt 11 = .ok (.ifCond .lt 9, 3) := by decide +kernel
theorem dX2_blockAt_14 : decode cX2_blockAt 14 = .ok (.iload_n 2, 1) := by decide +kernel
theorem dX2_blockAt_15 : decode cX2_blockAt 15 = .ok (.bipush 10, 2) := by decide +kernel
theorem dX2_blockAt_17 : decode cX2_blockAt 17 = .ok (.if_icmp .lt 6, 3) := by decide +kernel
theorem dX2_blockAt_20 : decode cX2_blockAt 20 = .ok (.bipush (-4), 2) := by decide +kernel
theorem dX2_blockAt_22 : decode cX2_blockAt 22 = .ok (.ireturn, 1) := by decide +kernel
theorem dX2_blockAt_23 : decode cX2_blockAt 23 = .ok (.aload_n 0, 1) := by decide +kernel
theorem dX2_blockAt_24 : decode cX2_blockAt 24 = .ok (.getfield 27, 3) := by decide +kernel
theorem dX2_blockAt_27 : decode cX2_blockAt 27 = .ok (.iload_n 1, 1) := by decide +kernel
theorem dX2_blockAt_28 : decode cX2_blockAt 28 = .ok (.bipush 10, 2) := by decide +kernel
theorem dX2_blockAt_30 : decode cX2_blockAt 30 = .ok (.imul, 1) := by decide +kernel
theorem dX2_blockAt_31 : decode cX2_blockAt 31 = .ok (.iload_n 2, 1) := by decide +kernel
theorem dX2_blockAt_32 : decode cX2_blockAt 32 = .ok (.iadd, 1) := by decide +kernel
theorem dX2_blockAt_33 : decode cX2_blockAt 33 = .ok (.iaload, 1) := by decide +kernel
theorem dX2_blockAt_34 : decode cX2_blockAt 34 = .ok (.ireturn, 1) := by decide +kernel
theorem dX2_isNumber_0 : decode cX2_isNumber 0 = .ok (.iload_n 1, 1) := by decide +kernel
theorem dX2_isNumber_1 : decode cX2_isNumber 1 = .ok (.ifCond .lt 18, 3) := by decide +kernel
theorem dX2_isNumber_4 : decode cX2_isNumber 4 = .ok (.iload_n 1, 1) := by decide +kernel
theorem dX2_isNumber_5 : decode cX2_isNumber 5 = .ok (.aload_n 0, 1) := by decide +kernel
theorem dX2_isNumber_6 : decode cX2_isNumber 6 = .ok (.getfield 30, 3) := by decide +kernel
theorem dX2_isNumber_9 : decode cX2_isNumber 9 = .ok (.invokevirtual 51, 3) := by decide +kernel
theorem dX2_isNumber_12 : decode cX2_isNumber 12 = .ok (.if_icmp .ge 7, 3) := by decide +kernel
theorem dX2_isNumber_15 : decode cX2_isNumber 15 = .ok (.iconst 1, 1) := by decide +kernel
theorem dX2_isNumber_16 : decode cX2_isNumber 16 = .ok (.goto 4, 3) := by decide +kernel
theorem dX2_isNumber_19 : decode cX2_isNumber 19 = .ok (.iconst 0, 1) := by decide +kernel
theorem dX2_isNumber_20 : decode cX2_isNumber 20 = .ok (.ireturn, 1) := by decide +kernel
theorem dX2_kindOf_0 : decode cX2_kindOf 0 = .ok (.iload_n 1, 1) := by decide +kernel
theorem dX2_kindOf_1 : decode cX2_kindOf 1 = .ok (.ifCond .lt 18, 3) := by decide +kernel
theorem dX2_kindOf_4 : decode cX2_kindOf 4 = .ok (.iload_n 1, 1) := by decide +kernel
theorem dX2_kindOf_5 : decode cX2_kindOf 5 = .ok (.bipush 24, 2) := by decide +kernel
theorem dX2_kindOf_7 : decode cX2_kindOf 7 = .ok (.if_icmp .ge 12, 3) := by decide +kernel
theorem dX2_kindOf_10 : decode cX2_kindOf 10 = .ok (.aload_n 0, 1) := by decide +kernel
theorem dX2_kindOf_11 : decode cX2_kindOf 11 = .ok (.getfield 9, 3) := by decide +kernel
theorem dX2_kindOf_14 : decode cX2_kindOf 14 = .ok (.iload_n 1, 1) := by decide +kernel
theorem dX2_kindOf_15 : decode cX2_kindOf 15 = .ok (.iaload, 1) := by decide +kernel
theorem dX2_kindOf_16 : decode cX2_kindOf 16 = .ok (.goto 4, 3) := by decide +kernel
theorem dX2_kindOf_19 : decode cX2_kindOf 19 = .ok (.iconst 0, 1) := by decide +kernel
theorem dX2_kindOf_20 : decode cX2_kindOf 20 = .ok (.ireturn, 1) := by decide +kernel
theorem dX2_parentOf_0 : decode cX2_parentOf 0 = .ok (.iload_n 1, 1) := by decide +kernel
theorem dX2_parentOf_1 : decode cX2_parentOf 1 = .ok (.ifCond .lt 18, 3) := by decide +kernel
theorem dX2_parentOf_4 : decode cX2_parentOf 4 = .ok (.iload_n 1, 1) := by decide +kernel
theorem dX2_parentOf_5 : decode cX2_parentOf 5 = .ok (.bipush 24, 2) := by decide +kernel
theorem dX2_parentOf_7 : decode cX2_parentOf 7 = .ok (.if_icmp .ge 12, 3) := by decide +kernel
theorem dX2_parentOf_10 : decode cX2_parentOf 10 = .ok (.aload_n 0, 1) := by decide +kernel
theorem dX2_parentOf_11 : decode cX2_parentOf 11 = .ok (.getfield 15, 3) := by decide +kernel
theorem dX2_parentOf_14 : decode cX2_parentOf 14 = .ok (.iload_n 1, 1) := by decide +kernel
theorem dX2_parentOf_15 : decode cX2_parentOf 15 = .ok (.iaload, 1) := by decide +kernel
theorem dX2_parentOf_16 : decode cX2_parentOf 16 = .ok (.goto 5, 3) := by decide +kernel
theorem dX2_parentOf_19 : decode cX2_parentOf 19 = .ok (.bipush (-4), 2) := by decide +kernel
theorem dX2_parentOf_21 : decode cX2_parentOf 21 = .ok (.ireturn, 1) := by decide +kernel
theorem dX2_nameOf_0 : decode cX2_nameOf 0 = .ok (.iload_n 1, 1) := by decide +kernel
theorem dX2_nameOf_1 : decode cX2_nameOf 1 = .ok (.ifCond .lt 18, 3) := by decide +kernel
theorem dX2_nameOf_4 : decode cX2_nameOf 4 = .ok (.iload_n 1, 1) := by decide +kernel
theorem dX2_nameOf_5 : decode cX2_nameOf 5 = .ok (.bipush 24, 2) := by decide +kernel
theorem dX2_nameOf_7 : decode cX2_nameOf 7 = .ok (.if_icmp .ge 12, 3) := by decide +kernel
theorem dX2_nameOf_10 : decode cX2_nameOf 10 = .ok (.aload_n 0, 1) := by decide +kernel
theorem dX2_nameOf_11 : decode cX2_nameOf 11 = .ok (.getfield 18, 3) := by decide +kernel
theorem dX2_nameOf_14 : decode cX2_nameOf 14 = .ok (.iload_n 1, 1) := by decide +kernel
theorem dX2_nameOf_15 : decode cX2_nameOf 15 = .ok (.iaload, 1) := by decide +kernel
theorem dX2_nameOf_16 : decode cX2_nameOf 16 = .ok (.goto 5, 3) := by decide +kernel
theorem dX2_nameOf_19 : decode cX2_nameOf 19 = .ok (.bipush (-4), 2) := by decide +kernel
theorem dX2_nameOf_21 : decode cX2_nameOf 21 = .ok (.ireturn, 1) := by decide +kernel
theorem dX2_sizeOf_0 : decode cX2_sizeOf 0 = .ok (.iload_n 1, 1) := by decide +kernel
theorem dX2_sizeOf_1 : decode cX2_sizeOf 1 = .ok (.ifCond .lt 18, 3) := by decide +kernel
theorem dX2_sizeOf_4 : decode cX2_sizeOf 4 = .ok (.iload_n 1, 1) := by decide +kernel
theorem dX2_sizeOf_5 : decode cX2_sizeOf 5 = .ok (.bipush 24, 2) := by decide +kernel
theorem dX2_sizeOf_7 : decode cX2_sizeOf 7 = .ok (.if_icmp .ge 12, 3) := by decide +kernel
theorem dX2_sizeOf_10 : decode cX2_sizeOf 10 = .ok (.aload_n 0, 1) := by decide +kernel
theorem dX2_sizeOf_11 : decode cX2_sizeOf 11 = .ok (.getfield 21, 3) := by decide +kernel
theorem dX2_sizeOf_14 : decode cX2_sizeOf 14 = .ok (.iload_n 1, 1) := by decide +kernel
theorem dX2_sizeOf_15 : decode cX2_sizeOf 15 = .ok (.iaload, 1) := by decide +kernel
theorem dX2_sizeOf_16 : decode cX2_sizeOf 16 = .ok (.goto 4, 3) := by decide +kernel
theorem dX2_sizeOf_19 : decode cX2_sizeOf 19 = .ok (.iconst 0, 1) := by decide +kernel
theorem dX2_sizeOf_20 : decode cX2_sizeOf 20 = .ok (.ireturn, 1) := by decide +kernel
theorem dX2_blocksOf_0 : decode cX2_blocksOf 0 = .ok (.iload_n 1, 1) := by decide +kernel
theorem dX2_blocksOf_1 : decode cX2_blocksOf 1 = .ok (.ifCond .lt 20, 3) := by decide +kernel
theorem dX2_blocksOf_4 : decode cX2_blocksOf 4 = .ok (.iload_n 1, 1) := by decide +kernel
theorem dX2_blocksOf_5 : decode cX2_blocksOf 5 = .ok (.bipush 24, 2) := by decide +kernel
theorem dX2_blocksOf_7 : decode cX2_blocksOf 7 = .ok (.if_icmp .ge 14, 3) := by decide +kernel
theorem dX2_blocksOf_10 : decode cX2_blocksOf 10 = .ok (.aload_n 0, 1) := by decide +kernel
theorem dX2_blocksOf_11 : decode cX2_blocksOf 11 = .ok (.getfield 21, 3) := by decide +kernel
theorem dX2_blocksOf_14 : decode cX2_blocksOf 14 = .ok (.iload_n 1, 1) := by decide +kernel
theorem dX2_blocksOf_15 : decode cX2_blocksOf 15 = .ok (.iaload, 1) := by decide +kernel
theorem dX2_blocksOf_16 : decode cX2_blocksOf 16 = .ok (.iconst 4, 1) := by decide +kernel
theorem dX2_blocksOf_17 : decode cX2_blocksOf 17 = .ok (.idiv, 1) := by decide +kernel
theorem dX2_blocksOf_18 : decode cX2_blocksOf 18 = .ok (.goto 4, 3) := by decide +kernel
theorem dX2_blocksOf_21 : decode cX2_blocksOf 21 = .ok (.iconst 0, 1) := by decide +kernel
theorem dX2_blocksOf_22 : decode cX2_blocksOf 22 = .ok (.ireturn, 1) := by decide +kernel
theorem dX2_tailOf_0 : decode cX2_tailOf 0 = .ok (.iload_n 1, 1) := by decide +kernel
theorem dX2_tailOf_1 : decode cX2_tailOf 1 = .ok (.ifCond .lt 18, 3) := by decide +kernel
theorem dX2_tailOf_4 : decode cX2_tailOf 4 = .ok (.iload_n 1, 1) := by decide +kernel
theorem dX2_tailOf_5 : decode cX2_tailOf 5 = .ok (.bipush 24, 2) := by decide +kernel
theorem dX2_tailOf_7 : decode cX2_tailOf 7 = .ok (.if_icmp .ge 12, 3) := by decide +kernel
theorem dX2_tailOf_10 : decode cX2_tailOf 10 = .ok (.aload_n 0, 1) := by decide +kernel
theorem dX2_tailOf_11 : decode cX2_tailOf 11 = .ok (.getfield 24, 3) := by decide +kernel
theorem dX2_tailOf_14 : decode cX2_tailOf 14 = .ok (.iload_n 1, 1) := by decide +kernel
theorem dX2_tailOf_15 : decode cX2_tailOf 15 = .ok (.iaload, 1) := by decide +kernel
theorem dX2_tailOf_16 : decode cX2_tailOf 16 = .ok (.goto 5, 3) := by decide +kernel
theorem dX2_tailOf_19 : decode cX2_tailOf 19 = .ok (.bipush (-4), 2) := by decide +kernel
theorem dX2_tailOf_21 : decode cX2_tailOf 21 = .ok (.ireturn, 1) := by decide +kernel
theorem dX2_tailLengthOf_0 : decode cX2_tailLengthOf 0 = .ok (.iload_n 1, 1) := by decide +kernel
theorem dX2_tailLengthOf_1 : decode cX2_tailLengthOf 1 = .ok (.ifCond .lt 20, 3) := by decide +kernel
theorem dX2_tailLengthOf_4 : decode cX2_tailLengthOf 4 = .ok (.iload_n 1, 1) := by decide +kernel
theorem dX2_tailLengthOf_5 : decode cX2_tailLengthOf 5 = .ok (.bipush 24, 2) := by decide +kernel
theorem dX2_tailLengthOf_7 : decode cX2_tailLengthOf 7 = .ok (.if_icmp .ge 14, 3) := by decide +kernel
theorem dX2_tailLengthOf_10 : decode cX2_tailLengthOf 10 = .ok (.aload_n 0, 1) := by decide +kernel
theorem dX2_tailLengthOf_11 : decode cX2_tailLengthOf 11 = .ok (.getfield 21, 3) := by decide +kernel
theorem dX2_tailLengthOf_14 : decode cX2_tailLengthOf 14 = .ok (.iload_n 1, 1) := by decide +kernel
theorem dX2_tailLengthOf_15 : decode cX2_tailLengthOf 15 = .ok (.iaload, 1) := by decide +kernel
theorem dX2_tailLengthOf_16 : decode cX2_tailLengthOf 16 = .ok (.iconst 4, 1) := by decide +kernel
theorem dX2_tailLengthOf_17 : decode cX2_tailLengthOf 17 = .ok (.irem, 1) := by decide +kernel
theorem dX2_tailLengthOf_18 : decode cX2_tailLengthOf 18 = .ok (.goto 4, 3) := by decide +kernel
theorem dX2_tailLengthOf_21 : decode cX2_tailLengthOf 21 = .ok (.iconst 0, 1) := by decide +kernel
theorem dX2_tailLengthOf_22 : decode cX2_tailLengthOf 22 = .ok (.ireturn, 1) := by decide +kernel
theorem dX2_howManyIn_0 : decode cX2_howManyIn 0 = .ok (.iconst 0, 1) := by decide +kernel
theorem dX2_howManyIn_1 : decode cX2_howManyIn 1 = .ok (.istore_n 3, 1) := by decide +kernel
theorem dX2_howManyIn_2 : decode cX2_howManyIn 2 = .ok (.iconst 0, 1) := by decide +kernel
theorem dX2_howManyIn_3 : decode cX2_howManyIn 3 = .ok (.istore 4, 2) := by decide +kernel
theorem dX2_howManyIn_5 : decode cX2_howManyIn 5 = .ok (.iload 4, 2) := by decide +kernel
theorem dX2_howManyIn_7 : decode cX2_howManyIn 7 = .ok (.aload_n 0, 1) := by decide +kernel
theorem dX2_howManyIn_8 : decode cX2_howManyIn 8 = .ok (.getfield 30, 3) := by decide +kernel
theorem dX2_howManyIn_11 : decode cX2_howManyIn 11 = .ok (.getfield 57, 3) := by decide +kernel
theorem dX2_howManyIn_14 : decode cX2_howManyIn 14 = .ok (.if_icmp .ge 32, 3) := by decide +kernel
theorem dX2_howManyIn_17 : decode cX2_howManyIn 17 = .ok (.aload_n 0, 1) := by decide +kernel
theorem dX2_howManyIn_18 : decode cX2_howManyIn 18 = .ok (.iload_n 1, 1) := by decide +kernel
theorem dX2_howManyIn_19 : decode cX2_howManyIn 19 = .ok (.aload_n 0, 1) := by decide +kernel
theorem dX2_howManyIn_20 : decode cX2_howManyIn 20 = .ok (.getfield 30, 3) := by decide +kernel
theorem dX2_howManyIn_23 : decode cX2_howManyIn 23 = .ok (.getfield 57, 3) := by decide +kernel
theorem dX2_howManyIn_26 : decode cX2_howManyIn 26 = .ok (.imul, 1) := by decide +kernel
theorem dX2_howManyIn_27 : decode cX2_howManyIn 27 = .ok (.iload 4, 2) := by decide +kernel
theorem dX2_howManyIn_29 : decode cX2_howManyIn 29 = .ok (.iadd, 1) := by decide +kernel
theorem dX2_howManyIn_30 : decode cX2_howManyIn 30 = .ok (.invokevirtual 61, 3) := by decide +kernel
theorem dX2_howManyIn_33 : decode cX2_howManyIn 33 = .ok (.iload_n 2, 1) := by decide +kernel
theorem dX2_howManyIn_34 : decode cX2_howManyIn 34 = .ok (.if_icmp .ne 6, 3) := by decide +kernel
theorem dX2_howManyIn_37 : decode cX2_howManyIn 37 = .ok (.iinc 3 1, 3) := by decide +kernel
theorem dX2_howManyIn_40 : decode cX2_howManyIn 40 = .ok (.iinc 4 1, 3) := by decide +kernel
theorem dX2_howManyIn_43 : decode cX2_howManyIn 43 = .ok (.goto (-38), 3) := by decide +kernel
theorem dX2_howManyIn_46 : decode cX2_howManyIn 46 = .ok (.iload_n 3, 1) := by decide +kernel
theorem dX2_howManyIn_47 : decode cX2_howManyIn 47 = .ok (.ireturn, 1) := by decide +kernel
theorem dX2_howMany_0 : decode cX2_howMany 0 = .ok (.iconst 0, 1) := by decide +kernel
theorem dX2_howMany_1 : decode cX2_howMany 1 = .ok (.istore_n 2, 1) := by decide +kernel
theorem dX2_howMany_2 : decode cX2_howMany 2 = .ok (.iconst 0, 1) := by decide +kernel
theorem dX2_howMany_3 : decode cX2_howMany 3 = .ok (.istore_n 3, 1) := by decide +kernel
theorem dX2_howMany_4 : decode cX2_howMany 4 = .ok (.iload_n 3, 1) := by decide +kernel
theorem dX2_howMany_5 : decode cX2_howMany 5 = .ok (.aload_n 0, 1) := by decide +kernel
theorem dX2_howMany_6 : decode cX2_howMany 6 = .ok (.getfield 30, 3) := by decide +kernel
theorem dX2_howMany_9 : decode cX2_howMany 9 = .ok (.invokevirtual 51, 3) := by decide +kernel
theorem dX2_howMany_12 : decode cX2_howMany 12 = .ok (.if_icmp .ge 21, 3) := by decide +kernel
theorem dX2_howMany_15 : decode cX2_howMany 15 = .ok (.aload_n 0, 1) := by decide +kernel
theorem dX2_howMany_16 : decode cX2_howMany 16 = .ok (.iload_n 3, 1) := by decide +kernel
theorem dX2_howMany_17 : decode cX2_howMany 17 = .ok (.invokevirtual 61, 3) := by decide +kernel
theorem dX2_howMany_20 : decode cX2_howMany 20 = .ok (.iload_n 1, 1) := by decide +kernel
theorem dX2_howMany_21 : decode cX2_howMany 21 = .ok (.if_icmp .ne 6, 3) := by decide +kernel
theorem dX2_howMany_24 : decode cX2_howMany 24 = .ok (.iinc 2 1, 3) := by decide +kernel
theorem dX2_howMany_27 : decode cX2_howMany 27 = .ok (.iinc 3 1, 3) := by decide +kernel
theorem dX2_howMany_30 : decode cX2_howMany 30 = .ok (.goto (-26), 3) := by decide +kernel
theorem dX2_howMany_33 : decode cX2_howMany 33 = .ok (.iload_n 2, 1) := by decide +kernel
theorem dX2_howMany_34 : decode cX2_howMany 34 = .ok (.ireturn, 1) := by decide +kernel
theorem dX2_howManyAreThere_0 : decode cX2_howManyAreThere 0 = .ok (.aload_n 0, 1) := by decide +kernel
theorem dX2_howManyAreThere_1 : decode cX2_howManyAreThere 1 = .ok (.getfield 30, 3) := by decide +kernel
theorem dX2_howManyAreThere_4 : decode cX2_howManyAreThere 4 = .ok (.invokevirtual 51, 3) := by decide +kernel
theorem dX2_howManyAreThere_7 : decode cX2_howManyAreThere 7 = .ok (.aload_n 0, 1) := by decide +kernel
theorem dX2_howManyAreThere_8 : decode cX2_howManyAreThere 8 = .ok (.iconst 0, 1) := by decide +kernel
theorem dX2_howManyAreThere_9 : decode cX2_howManyAreThere 9 = .ok (.invokevirtual 65, 3) := by decide +kernel
theorem dX2_howManyAreThere_12 : decode cX2_howManyAreThere 12 = .ok (.isub, 1) := by decide +kernel
theorem dX2_howManyAreThere_13 : decode cX2_howManyAreThere 13 = .ok (.ireturn, 1) := by decide +kernel
theorem dX2_sizesOfAll_0 : decode cX2_sizesOfAll 0 = .ok (.iconst 0, 1) := by decide +kernel
theorem dX2_sizesOfAll_1 : decode cX2_sizesOfAll 1 = .ok (.istore_n 1, 1) := by decide +kernel
theorem dX2_sizesOfAll_2 : decode cX2_sizesOfAll 2 = .ok (.iconst 0, 1) := by decide +kernel
theorem dX2_sizesOfAll_3 : decode cX2_sizesOfAll 3 = .ok (.istore_n 2, 1) := by decide +kernel
theorem dX2_sizesOfAll_4 : decode cX2_sizesOfAll 4 = .ok (.iload_n 2, 1) := by decide +kernel
theorem dX2_sizesOfAll_5 : decode cX2_sizesOfAll 5 = .ok (.aload_n 0, 1) := by decide +kernel
theorem dX2_sizesOfAll_6 : decode cX2_sizesOfAll 6 = .ok (.getfield 30, 3) := by decide +kernel
theorem dX2_sizesOfAll_9 : decode cX2_sizesOfAll 9 = .ok (.invokevirtual 51, 3) := by decide +kernel
theorem dX2_sizesOfAll_12 : decode cX2_sizesOfAll 12 = .ok (.if_icmp .ge 17, 3) := by decide +kernel
theorem dX2_sizesOfAll_15 : decode cX2_sizesOfAll 15 = .ok (.iload_n 1, 1) := by decide +kernel
theorem dX2_sizesOfAll_16 : decode cX2_sizesOfAll 16 = .ok (.aload_n 0, 1) := by decide +kernel
theorem dX2_sizesOfAll_17 : decode cX2_sizesOfAll 17 = .ok (.iload_n 2, 1) := by decide +kernel
theorem dX2_sizesOfAll_18 : decode cX2_sizesOfAll 18 = .ok (.invokevirtual 68, 3) := by decide +kernel
theorem dX2_sizesOfAll_21 : decode cX2_sizesOfAll 21 = .ok (.iadd, 1) := by decide +kernel
theorem dX2_sizesOfAll_22 : decode cX2_sizesOfAll 22 = .ok (.istore_n 1, 1) := by decide +kernel
theorem dX2_sizesOfAll_23 : decode cX2_sizesOfAll 23 = .ok (.iinc 2 1, 3) := by decide +kernel
theorem dX2_sizesOfAll_26 : decode cX2_sizesOfAll 26 = .ok (.goto (-22), 3) := by decide +kernel
theorem dX2_sizesOfAll_29 : decode cX2_sizesOfAll 29 = .ok (.iload_n 1, 1) := by decide +kernel
theorem dX2_sizesOfAll_30 : decode cX2_sizesOfAll 30 = .ok (.ireturn, 1) := by decide +kernel
theorem dX2_firstNothingIn_0 : decode cX2_firstNothingIn 0 = .ok (.iconst 0, 1) := by decide +kernel
theorem dX2_firstNothingIn_1 : decode cX2_firstNothingIn 1 = .ok (.istore_n 2, 1) := by decide +kernel
theorem dX2_firstNothingIn_2 : decode cX2_firstNothingIn 2 = .ok (.iload_n 2, 1) := by decide +kernel
theorem dX2_firstNothingIn_3 : decode cX2_firstNothingIn 3 = .ok (.aload_n 0, 1) := by decide +kernel
theorem dX2_firstNothingIn_4 : decode cX2_firstNothingIn 4 = .ok (.getfield 30, 3) := by decide +kernel
theorem dX2_firstNothingIn_7 : decode cX2_firstNothingIn 7 = .ok (.getfield 57, 3) := by decide +kernel
theorem dX2_firstNothingIn_10 : decode cX2_firstNothingIn 10 = .ok (.if_icmp .ge 31, 3) := by decide +kernel
theorem dX2_firstNothingIn_13 : decode cX2_firstNothingIn 13 = .ok (.iload_n 1, 1) := by decide +kernel
theorem dX2_firstNothingIn_14 : decode cX2_firstNothingIn 14 = .ok (.aload_n 0, 1) := by decide +kernel
theorem dX2_firstNothingIn_15 : decode cX2_firstNothingIn 15 = .ok (.getfield 30, 3) := by decide +kernel
theorem dX2_firstNothingIn_18 : decode cX2_firstNothingIn 18 = .ok (.getfield 57, 3) := by decide +kernel
theorem dX2_firstNothingIn_21 : decode cX2_firstNothingIn 21 = .ok (.imul, 1) := by decide +kernel
theorem dX2_firstNothingIn_22 : decode cX2_firstNothingIn 22 = .ok (.iload_n 2, 1) := by decide +kernel
theorem dX2_firstNothingIn_23 : decode cX2_firstNothingIn 23 = .ok (.iadd, 1) := by decide +kernel
theorem dX2_firstNothingIn_24 : decode cX2_firstNothingIn 24 = .ok (.istore_n 3, 1) := by decide +kernel
theorem dX2_firstNothingIn_25 : decode cX2_firstNothingIn 25 = .ok (.aload_n 0, 1) := by decide +kernel
theorem dX2_firstNothingIn_26 : decode cX2_firstNothingIn 26 = .ok (.iload_n 3, 1) := by decide +kernel
theorem dX2_firstNothingIn_27 : decode cX2_firstNothingIn 27 = .ok (.invokevirtual 61, 3) := by decide +kernel
theorem dX2_firstNothingIn_30 : decode cX2_firstNothingIn 30 = .ok (.ifCond .ne 5, 3) := by decide +kernel
theorem dX2_firstNothingIn_33 : decode cX2_firstNothingIn 33 = .ok (.iload_n 3, 1) := by decide +kernel
theorem dX2_firstNothingIn_34 : decode cX2_firstNothingIn 34 = .ok (.ireturn, 1) := by decide +kernel
theorem dX2_firstNothingIn_35 : decode cX2_firstNothingIn 35 = .ok (.iinc 2 1, 3) := by decide +kernel
theorem dX2_firstNothingIn_38 : decode cX2_firstNothingIn 38 = .ok (.goto (-36), 3) := by decide +kernel
theorem dX2_firstNothingIn_41 : decode cX2_firstNothingIn 41 = .ok (.bipush (-4), 2) := by decide +kernel
theorem dX2_firstNothingIn_43 : decode cX2_firstNothingIn 43 = .ok (.ireturn, 1) := by decide +kernel
theorem dX2_named_0 : decode cX2_named 0 = .ok (.iconst 0, 1) := by decide +kernel
theorem dX2_named_1 : decode cX2_named 1 = .ok (.istore_n 3, 1) := by decide +kernel
theorem dX2_named_2 : decode cX2_named 2 = .ok (.iload_n 3, 1) := by decide +kernel
theorem dX2_named_3 : decode cX2_named 3 = .ok (.aload_n 0, 1) := by decide +kernel
theorem dX2_named_4 : decode cX2_named 4 = .ok (.getfield 30, 3) := by decide +kernel
theorem dX2_named_7 : decode cX2_named 7 = .ok (.invokevirtual 51, 3) := by decide +kernel
theorem dX2_named_10 : decode cX2_named 10 = .ok (.if_icmp .ge 37, 3) := by decide +kernel
theorem dX2_named_13 : decode cX2_named 13 = .ok (.aload_n 0, 1) := by decide +kernel
theorem dX2_named_14 : decode cX2_named 14 = .ok (.iload_n 3, 1) := by decide +kernel
theorem dX2_named_15 : decode cX2_named 15 = .ok (.invokevirtual 61, 3) := by decide +kernel
theorem dX2_named_18 : decode cX2_named 18 = .ok (.ifCond .eq 23, 3) := by decide +kernel
theorem dX2_named_21 : decode cX2_named 21 = .ok (.aload_n 0, 1) := by decide +kernel
theorem dX2_named_22 : decode cX2_named 22 = .ok (.iload_n 3, 1) := by decide +kernel
theorem dX2_named_23 : decode cX2_named 23 = .ok (.invokevirtual 71, 3) := by decide +kernel
theorem dX2_named_26 : decode cX2_named 26 = .ok (.iload_n 1, 1) := by decide +kernel
theorem dX2_named_27 : decode cX2_named 27 = .ok (.if_icmp .ne 14, 3) := by decide +kernel
theorem dX2_named_30 : decode cX2_named 30 = .ok (.aload_n 0, 1) := by decide +kernel
theorem dX2_named_31 : decode cX2_named 31 = .ok (.iload_n 3, 1) := by decide +kernel
theorem dX2_named_32 : decode cX2_named 32 = .ok (.invokevirtual 74, 3) := by decide +kernel
theorem dX2_named_35 : decode cX2_named 35 = .ok (.iload_n 2, 1) := by decide +kernel
theorem dX2_named_36 : decode cX2_named 36 = .ok (.if_icmp .ne 5, 3) := by decide +kernel
theorem dX2_named_39 : decode cX2_named 39 = .ok (.iload_n 3, 1) := by decide +kernel
theorem dX2_named_40 : decode cX2_named 40 = .ok (.ireturn, 1) := by decide +kernel
theorem dX2_named_41 : decode cX2_named 41 = .ok (.iinc 3 1, 3) := by decide +kernel
theorem dX2_named_44 : decode cX2_named 44 = .ok (.goto (-42), 3) := by decide +kernel
theorem dX2_named_47 : decode cX2_named 47 = .ok (.bipush (-4), 2) := by decide +kernel
theorem dX2_named_49 : decode cX2_named 49 = .ok (.ireturn, 1) := by decide +kernel
theorem dX2_hasOthers_0 : decode cX2_hasOthers 0 = .ok (.iconst 0, 1) := by decide +kernel
theorem dX2_hasOthers_1 : decode cX2_hasOthers 1 = .ok (.istore_n 2, 1) := by decide +kernel
theorem dX2_hasOthers_2 : decode cX2_hasOthers 2 = .ok (.iload_n 2, 1) := by decide +kernel
theorem dX2_hasOthers_3 : decode cX2_hasOthers 3 = .ok (.aload_n 0, 1) := by decide +kernel
theorem dX2_hasOthers_4 : decode cX2_hasOthers 4 = .ok (.getfield 30, 3) := by decide +kernel
theorem dX2_hasOthers_7 : decode cX2_hasOthers 7 = .ok (.invokevirtual 51, 3) := by decide +kernel
theorem dX2_hasOthers_10 : decode cX2_hasOthers 10 = .ok (.if_icmp .ge 28, 3) := by decide +kernel
theorem dX2_hasOthers_13 : decode cX2_hasOthers 13 = .ok (.aload_n 0, 1) := by decide +kernel
theorem dX2_hasOthers_14 : decode cX2_hasOthers 14 = .ok (.iload_n 2, 1) := by decide +kernel
theorem dX2_hasOthers_15 : decode cX2_hasOthers 15 = .ok (.invokevirtual 61, 3) := by decide +kernel
theorem dX2_hasOthers_18 : decode cX2_hasOthers 18 = .ok (.ifCond .eq 14, 3) := by decide +kernel
theorem dX2_hasOthers_21 : decode cX2_hasOthers 21 = .ok (.aload_n 0, 1) := by decide +kernel
theorem dX2_hasOthers_22 : decode cX2_hasOthers 22 = .ok (.iload_n 2, 1) := by decide +kernel
theorem dX2_hasOthers_23 : decode cX2_hasOthers 23 = .ok (.invokevirtual 71, 3) := by decide +kernel
theorem dX2_hasOthers_26 : decode cX2_hasOthers 26 = .ok (.iload_n 1, 1) := by decide +kernel
theorem dX2_hasOthers_27 : decode cX2_hasOthers 27 = .ok (.if_icmp .ne 5, 3) := by decide +kernel
theorem dX2_hasOthers_30 : decode cX2_hasOthers 30 = .ok (.iconst 1, 1) := by decide +kernel
theorem dX2_hasOthers_31 : decode cX2_hasOthers 31 = .ok (.ireturn, 1) := by decide +kernel
theorem dX2_hasOthers_32 : decode cX2_hasOthers 32 = .ok (.iinc 2 1, 3) := by decide +kernel
theorem dX2_hasOthers_35 : decode cX2_hasOthers 35 = .ok (.goto (-33), 3) := by decide +kernel
theorem dX2_hasOthers_38 : decode cX2_hasOthers 38 = .ok (.iconst 0, 1) := by decide +kernel
theorem dX2_hasOthers_39 : decode cX2_hasOthers 39 = .ok (.ireturn, 1) := by decide +kernel
theorem dX2_depthBelow_0 : decode cX2_depthBelow 0 = .ok (.iload_n 2, 1) := by decide +kernel
theorem dX2_depthBelow_1 : decode cX2_depthBelow 1 = .ok (.istore_n 3, 1) := by decide +kernel
theorem dX2_depthBelow_2 : decode cX2_depthBelow 2 = .ok (.iconst 0, 1) := by decide +kernel
theorem dX2_depthBelow_3 : decode cX2_depthBelow 3 = .ok (.istore 4, 2) := by decide +kernel
theorem dX2_depthBelow_5 : decode cX2_depthBelow 5 = .ok (.iload 4, 2) := by decide +kernel
theorem dX2_depthBelow_7 : decode cX2_depthBelow 7 = .ok (.bipush 24, 2) := by decide +kernel
theorem dX2_depthBelow_9 : decode cX2_depthBelow 9 = .ok (.if_icmp .ge 30, 3) := by decide +kernel
theorem dX2_depthBelow_12 : decode cX2_depthBelow 12 = .ok (.iload_n 3, 1) := by decide +kernel
theorem dX2_depthBelow_13 : decode cX2_depthBelow 13 = .ok (.iload_n 1, 1) := by decide +kernel
theorem dX2_depthBelow_14 : decode cX2_depthBelow 14 = .ok (.if_icmp .ne 6, 3) := by decide +kernel
theorem dX2_depthBelow_17 : decode cX2_depthBelow 17 = .ok (.iload 4, 2) := by decide +kernel
theorem dX2_depthBelow_19 : decode cX2_depthBelow 19 = .ok (.ireturn, 1) := by decide +kernel
theorem dX2_depthBelow_20 : decode cX2_depthBelow 20 = .ok (.iload_n 3, 1) := by decide +kernel
theorem dX2_depthBelow_21 : decode cX2_depthBelow 21 = .ok (.ifCond .ge 6, 3) := by decide +kernel
theorem dX2_depthBelow_24 : decode cX2_depthBelow 24 = .ok (.bipush (-4), 2) := by decide +kernel
theorem dX2_depthBelow_26 : decode cX2_depthBelow 26 = .ok (.ireturn, 1) := by decide +kernel
theorem dX2_depthBelow_27 : decode cX2_depthBelow 27 = .ok (.aload_n 0, 1) := by decide +kernel
theorem dX2_depthBelow_28 : decode cX2_depthBelow 28 = .ok (.iload_n 3, 1) := by decide +kernel
theorem dX2_depthBelow_29 : decode cX2_depthBelow 29 = .ok (.invokevirtual 71, 3) := by decide +kernel
theorem dX2_depthBelow_32 : decode cX2_depthBelow 32 = .ok (.istore_n 3, 1) := by decide +kernel
theorem dX2_depthBelow_33 : decode cX2_depthBelow 33 = .ok (.iinc 4 1, 3) := by decide +kernel
theorem dX2_depthBelow_36 : decode cX2_depthBelow 36 = .ok (.goto (-31), 3) := by decide +kernel
theorem dX2_depthBelow_39 : decode cX2_depthBelow 39 = .ok (.bipush (-4), 2) := by decide +kernel
theorem dX2_depthBelow_41 : decode cX2_depthBelow 41 = .ok (.ireturn, 1) := by decide +kernel
theorem dX2_ownerOf_0 : decode cX2_ownerOf 0 = .ok (.iconst 0, 1) := by decide +kernel
theorem dX2_ownerOf_1 : decode cX2_ownerOf 1 = .ok (.istore_n 2, 1) := by decide +kernel
theorem dX2_ownerOf_2 : decode cX2_ownerOf 2 = .ok (.iload_n 2, 1) := by decide +kernel
theorem dX2_ownerOf_3 : decode cX2_ownerOf 3 = .ok (.aload_n 0, 1) := by decide +kernel
theorem dX2_ownerOf_4 : decode cX2_ownerOf 4 = .ok (.getfield 30, 3) := by decide +kernel
theorem dX2_ownerOf_7 : decode cX2_ownerOf 7 = .ok (.invokevirtual 51, 3) := by decide +kernel
theorem dX2_ownerOf_10 : decode cX2_ownerOf 10 = .ok (.if_icmp .ge 74, 3) := by decide +kernel
theorem dX2_ownerOf_13 : decode cX2_ownerOf 13 = .ok (.aload_n 0, 1) := by decide +kernel
theorem dX2_ownerOf_14 : decode cX2_ownerOf 14 = .ok (.iload_n 2, 1) := by decide +kernel
theorem dX2_ownerOf_15 : decode cX2_ownerOf 15 = .ok (.invokevirtual 77, 3) := by decide +kernel
theorem dX2_ownerOf_18 : decode cX2_ownerOf 18 = .ok (.ifCond .le 29, 3) := by decide +kernel
theorem dX2_ownerOf_21 : decode cX2_ownerOf 21 = .ok (.iload_n 1, 1) := by decide +kernel
theorem dX2_ownerOf_22 : decode cX2_ownerOf 22 = .ok (.aload_n 0, 1) := by decide +kernel
theorem dX2_ownerOf_23 : decode cX2_ownerOf 23 = .ok (.iload_n 2, 1) := by decide +kernel
theorem dX2_ownerOf_24 : decode cX2_ownerOf 24 = .ok (.invokevirtual 80, 3) := by decide +kernel
theorem dX2_ownerOf_27 : decode cX2_ownerOf 27 = .ok (.if_icmp .lt 20, 3) := by decide +kernel
theorem dX2_ownerOf_30 : decode cX2_ownerOf 30 = .ok (.iload_n 1, 1) := by decide +kernel
theorem dX2_ownerOf_31 : decode cX2_ownerOf 31 = .ok (.aload_n 0, 1) := by decide +kernel
theorem dX2_ownerOf_32 : decode cX2_ownerOf 32 = .ok (.iload_n 2, 1) := by decide +kernel
theorem dX2_ownerOf_33 : decode cX2_ownerOf 33 = .ok (.invokevirtual 80, 3) := by decide +kernel
theorem dX2_ownerOf_36 : decode cX2_ownerOf 36 = .ok (.aload_n 0, 1) := by decide +kernel
theorem dX2_ownerOf_37 : decode cX2_ownerOf 37 = .ok (.iload_n 2, 1) := by decide +kernel
theorem dX2_ownerOf_38 : decode cX2_ownerOf 38 = .ok (.invokevirtual 77, 3) := by decide +kernel
theorem dX2_ownerOf_41 : decode cX2_ownerOf 41 = .ok (.iadd, 1) := by decide +kernel
theorem dX2_ownerOf_42 : decode cX2_ownerOf 42 = .ok (.if_icmp .ge 5, 3) := by decide +kernel
theorem dX2_ownerOf_45 : decode cX2_ownerOf 45 = .ok (.iload_n 2, 1) := by decide +kernel
theorem dX2_ownerOf_46 : decode cX2_ownerOf 46 = .ok (.ireturn, 1) := by decide +kernel
theorem dX2_ownerOf_47 : decode cX2_ownerOf 47 = .ok (.iconst 0, 1) := by decide +kernel
theorem dX2_ownerOf_48 : decode cX2_ownerOf 48 = .ok (.istore_n 3, 1) := by decide +kernel
theorem dX2_ownerOf_49 : decode cX2_ownerOf 49 = .ok (.iload_n 3, 1) := by decide +kernel
theorem dX2_ownerOf_50 : decode cX2_ownerOf 50 = .ok (.aload_n 0, 1) := by decide +kernel
theorem dX2_ownerOf_51 : decode cX2_ownerOf 51 = .ok (.iload_n 2, 1) := by decide +kernel
theorem dX2_ownerOf_52 : decode cX2_ownerOf 52 = .ok (.invokevirtual 83, 3) := by decide +kernel
theorem dX2_ownerOf_55 : decode cX2_ownerOf 55 = .ok (.if_icmp .ge 23, 3) := by decide +kernel
theorem dX2_ownerOf_58 : decode cX2_ownerOf 58 = .ok (.iload_n 1, 1) := by decide +kernel
theorem dX2_ownerOf_59 : decode cX2_ownerOf 59 = .ok (.iconst 4, 1) := by decide +kernel
theorem dX2_ownerOf_60 : decode cX2_ownerOf 60 = .ok (.idiv, 1) := by decide +kernel
theorem dX2_ownerOf_61 : decode cX2_ownerOf 61 = .ok (.aload_n 0, 1) := by decide +kernel
theorem dX2_ownerOf_62 : decode cX2_ownerOf 62 = .ok (.iload_n 2, 1) := by decide +kernel
theorem dX2_ownerOf_63 : decode cX2_ownerOf 63 = .ok (.iload_n 3, 1) := by decide +kernel
theorem dX2_ownerOf_64 : decode cX2_ownerOf 64 = .ok (.invokevirtual 86, 3) := by decide +kernel
theorem dX2_ownerOf_67 : decode cX2_ownerOf 67 = .ok (.if_icmp .ne 5, 3) := by decide +kernel
theorem dX2_ownerOf_70 : decode cX2_ownerOf 70 = .ok (.iload_n 2, 1) := by decide +kernel
theorem dX2_ownerOf_71 : decode cX2_ownerOf 71 = .ok (.ireturn, 1) := by decide +kernel
theorem dX2_ownerOf_72 : decode cX2_ownerOf 72 = .ok (.iinc 3 1, 3) := by decide +kernel
theorem dX2_ownerOf_75 : decode cX2_ownerOf 75 = .ok (.goto (-26), 3) := by decide +kernel
theorem dX2_ownerOf_78 : decode cX2_ownerOf 78 = .ok (.iinc 2 1, 3) := by decide +kernel
theorem dX2_ownerOf_81 : decode cX2_ownerOf 81 = .ok (.goto (-79), 3) := by decide +kernel
theorem dX2_ownerOf_84 : decode cX2_ownerOf 84 = .ok (.bipush (-4), 2) := by decide +kernel
theorem dX2_ownerOf_86 : decode cX2_ownerOf 86 = .ok (.ireturn, 1) := by decide +kernel
theorem dX3_init_0 : decode cX3_init 0 = .ok (.aload_n 0, 1) := by decide +kernel
theorem dX3_init_1 : decode cX3_init 1 = .ok (.invokespecial 3, 3) := by decide +kernel
theorem dX3_init_4 : decode cX3_init 4 = .ok (.return_, 1) := by decide +kernel
theorem dX3_set_0 : decode cX3_set 0 = .ok (.aload_n 1, 1) := by decide +kernel
theorem dX3_set_1 : decode cX3_set 1 = .ok (.ifnull 10, 3) := by decide +kernel
theorem dX3_set_4 : decode cX3_set 4 = .ok (.aload_n 1, 1) := by decide +kernel
theorem dX3_set_5 : decode cX3_set 5 = .ok (.arraylength, 1) := by decide +kernel
theorem dX3_set_6 : decode cX3_set 6 = .ok (.bipush 6, 2) := by decide +kernel
theorem dX3_set_8 : decode cX3_set 8 = .ok (.if_icmp .ge 4, 3) := by decide +kernel
theorem dX3_set_11 : decode cX3_set 11 = .ok (.return_, 1) := by decide +kernel
theorem dX3_set_12 : decode cX3_set 12 = .ok (.aload_n 0, 1) := by decide +kernel
theorem dX3_set_13 : decode cX3_set 13 = .ok (.aload_n 1, 1) := by decide +kernel
theorem dX3_set_14 : decode cX3_set 14 = .ok (.iconst 0, 1) := by decide +kernel
theorem dX3_set_15 : decode cX3_set 15 = .ok (.iaload, 1) := by decide +kernel
theorem dX3_set_16 : decode cX3_set 16 = .ok (.putfield 9, 3) := by decide +kernel
theorem dX3_set_19 : decode cX3_set 19 = .ok (.aload_n 0, 1) := by decide +kernel
theorem dX3_set_20 : decode cX3_set 20 = .ok (.aload_n 1, 1) := by decide +kernel
theorem dX3_set_21 : decode cX3_set 21 = .ok (.iconst 1, 1) := by decide +kernel
theorem dX3_set_22 : decode cX3_set 22 = .ok (.iaload, 1) := by decide +kernel
theorem dX3_set_23 : decode cX3_set 23 = .ok (.putfield 15, 3) := by decide +kernel
theorem dX3_set_26 : decode cX3_set 26 = .ok (.aload_n 0, 1) := by decide +kernel
theorem dX3_set_27 : decode cX3_set 27 = .ok (.aload_n 1, 1) := by decide +kernel
theorem dX3_set_28 : decode cX3_set 28 = .ok (.iconst 2, 1) := by decide +kernel
theorem dX3_set_29 : decode cX3_set 29 = .ok (.iaload, 1) := by decide +kernel
theorem dX3_set_30 : decode cX3_set 30 = .ok (.putfield 18, 3) := by decide +kernel
theorem dX3_set_33 : decode cX3_set 33 = .ok (.aload_n 0, 1) := by decide +kernel
theorem dX3_set_34 : decode cX3_set 34 = .ok (.aload_n 1, 1) := by decide +kernel
theorem dX3_set_35 : decode cX3_set 35 = .ok (.iconst 3, 1) := by decide +kernel
theorem dX3_set_36 : decode cX3_set 36 = .ok (.iaload, 1) := by decide +kernel
theorem dX3_set_37 : decode cX3_set 37 = .ok (.putfield 21, 3) := by decide +kernel
theorem dX3_set_40 : decode cX3_set 40 = .ok (.aload_n 0, 1) := by decide +kernel
theorem dX3_set_41 : decode cX3_set 41 = .ok (.aload_n 1, 1) := by decide +kernel
theorem dX3_set_42 : decode cX3_set 42 = .ok (.iconst 4, 1) := by decide +kernel
theorem dX3_set_43 : decode cX3_set 43 = .ok (.iaload, 1) := by decide +kernel
theorem dX3_set_44 : decode cX3_set 44 = .ok (.putfield 24, 3) := by decide +kernel
theorem dX3_set_47 : decode cX3_set 47 = .ok (.aload_n 0, 1) := by decide +kernel
theorem dX3_set_48 : decode cX3_set 48 = .ok (.aload_n 1, 1) := by decide +kernel
theorem dX3_set_49 : decode cX3_set 49 = .ok (.iconst 5, 1) := by decide +kernel
theorem dX3_set_50 : decode cX3_set 50 = .ok (.iaload, 1) := by decide +kernel
theorem dX3_set_51 : decode cX3_set 51 = .ok (.putfield 27, 3) := by decide +kernel
theorem dX3_set_54 : decode cX3_set 54 = .ok (.return_, 1) := by decide +kernel
theorem dX3_copyFrom_0 : decode cX3_copyFrom 0 = .ok (.aload_n 0, 1) := by decide +kernel
theorem dX3_copyFrom_1 : decode cX3_copyFrom 1 = .ok (.aload_n 1, 1) := by decide +kernel
theorem dX3_copyFrom_2 : decode cX3_copyFrom 2 = .ok (.getfield 9, 3) := by decide +kernel
theorem dX3_copyFrom_5 : decode cX3_copyFrom 5 = .ok (.putfield 9, 3) := by decide +kernel
theorem dX3_copyFrom_8 : decode cX3_copyFrom 8 = .ok (.aload_n 0, 1) := by decide +kernel
theorem dX3_copyFrom_9 : decode cX3_copyFrom 9 = .ok (.aload_n 1, 1) := by decide +kernel
theorem dX3_copyFrom_10 : decode cX3_copyFrom 10 = .ok (.getfield 15, 3) := by decide +kernel
theorem dX3_copyFrom_13 : decode cX3_copyFrom 13 = .ok (.putfield 15, 3) := by decide +kernel
theorem dX3_copyFrom_16 : decode cX3_copyFrom 16 = .ok (.aload_n 0, 1) := by decide +kernel
theorem dX3_copyFrom_17 : decode cX3_copyFrom 17 = .ok (.aload_n 1, 1) := by decide +kernel
theorem dX3_copyFrom_18 : decode cX3_copyFrom 18 = .ok (.getfield 18, 3) := by decide +kernel
theorem dX3_copyFrom_21 : decode cX3_copyFrom 21 = .ok (.putfield 18, 3) := by decide +kernel
theorem dX3_copyFrom_24 : decode cX3_copyFrom 24 = .ok (.aload_n 0, 1) := by decide +kernel
theorem dX3_copyFrom_25 : decode cX3_copyFrom 25 = .ok (.aload_n 1, 1) := by decide +kernel
theorem dX3_copyFrom_26 : decode cX3_copyFrom 26 = .ok (.getfield 21, 3) := by decide +kernel
theorem dX3_copyFrom_29 : decode cX3_copyFrom 29 = .ok (.putfield 21, 3) := by decide +kernel
theorem dX3_copyFrom_32 : decode cX3_copyFrom 32 = .ok (.aload_n 0, 1) := by decide +kernel
theorem dX3_copyFrom_33 : decode cX3_copyFrom 33 = .ok (.aload_n 1, 1) := by decide +kernel
theorem dX3_copyFrom_34 : decode cX3_copyFrom 34 = .ok (.getfield 24, 3) := by decide +kernel
theorem dX3_copyFrom_37 : decode cX3_copyFrom 37 = .ok (.putfield 24, 3) := by decide +kernel
theorem dX3_copyFrom_40 : decode cX3_copyFrom 40 = .ok (.aload_n 0, 1) := by decide +kernel
theorem dX3_copyFrom_41 : decode cX3_copyFrom 41 = .ok (.aload_n 1, 1) := by decide +kernel
theorem dX3_copyFrom_42 : decode cX3_copyFrom 42 = .ok (.getfield 27, 3) := by decide +kernel
theorem dX3_copyFrom_45 : decode cX3_copyFrom 45 = .ok (.putfield 27, 3) := by decide +kernel
theorem dX3_copyFrom_48 : decode cX3_copyFrom 48 = .ok (.return_, 1) := by decide +kernel
theorem dX3_number_0 : decode cX3_number 0 = .ok (.iload_n 1, 1) := by decide +kernel
theorem dX3_number_1 : decode cX3_number 1 = .ok (.tableswitch 60 0 4 #[35, 40, 45, 50, 55], 35) := by decide +kernel
theorem dX3_number_36 : decode cX3_number 36 = .ok (.aload_n 0, 1) := by decide +kernel
theorem dX3_number_37 : decode cX3_number 37 = .ok (.getfield 9, 3) := by decide +kernel
theorem dX3_number_40 : decode cX3_number 40 = .ok (.ireturn, 1) := by decide +kernel
theorem dX3_number_41 : decode cX3_number 41 = .ok (.aload_n 0, 1) := by decide +kernel
theorem dX3_number_42 : decode cX3_number 42 = .ok (.getfield 15, 3) := by decide +kernel
theorem dX3_number_45 : decode cX3_number 45 = .ok (.ireturn, 1) := by decide +kernel
theorem dX3_number_46 : decode cX3_number 46 = .ok (.aload_n 0, 1) := by decide +kernel
theorem dX3_number_47 : decode cX3_number 47 = .ok (.getfield 18, 3) := by decide +kernel
theorem dX3_number_50 : decode cX3_number 50 = .ok (.ireturn, 1) := by decide +kernel
theorem dX3_number_51 : decode cX3_number 51 = .ok (.aload_n 0, 1) := by decide +kernel
theorem dX3_number_52 : decode cX3_number 52 = .ok (.getfield 21, 3) := by decide +kernel
theorem dX3_number_55 : decode cX3_number 55 = .ok (.ireturn, 1) := by decide +kernel
theorem dX3_number_56 : decode cX3_number 56 = .ok (.aload_n 0, 1) := by decide +kernel
theorem dX3_number_57 : decode cX3_number 57 = .ok (.getfield 24, 3) := by decide +kernel
theorem dX3_number_60 : decode cX3_number 60 = .ok (.ireturn, 1) := by decide +kernel
theorem dX3_number_61 : decode cX3_number 61 = .ok (.aload_n 0, 1) := by decide +kernel
theorem dX3_number_62 : decode cX3_number 62 = .ok (.getfield 27, 3) := by decide +kernel
theorem dX3_number_65 : decode cX3_number 65 = .ok (.ireturn, 1) := by decide +kernel
theorem dX3_allBlocks_0 : decode cX3_allBlocks 0 = .ok (.aload_n 0, 1) := by decide +kernel
theorem dX3_allBlocks_1 : decode cX3_allBlocks 1 = .ok (.getfield 9, 3) := by decide +kernel
theorem dX3_allBlocks_4 : decode cX3_allBlocks 4 = .ok (.aload_n 0, 1) := by decide +kernel
theorem dX3_allBlocks_5 : decode cX3_allBlocks 5 = .ok (.getfield 15, 3) := by decide +kernel
theorem dX3_allBlocks_8 : decode cX3_allBlocks 8 = .ok (.imul, 1) := by decide +kernel
theorem dX3_allBlocks_9 : decode cX3_allBlocks 9 = .ok (.ireturn, 1) := by decide +kernel
theorem dX3_allInodes_0 : decode cX3_allInodes 0 = .ok (.aload_n 0, 1) := by decide +kernel
theorem dX3_allInodes_1 : decode cX3_allInodes 1 = .ok (.getfield 9, 3) := by decide +kernel
theorem dX3_allInodes_4 : decode cX3_allInodes 4 = .ok (.aload_n 0, 1) := by decide +kernel
theorem dX3_allInodes_5 : decode cX3_allInodes 5 = .ok (.getfield 18, 3) := by decide +kernel
theorem dX3_allInodes_8 : decode cX3_allInodes 8 = .ok (.imul, 1) := by decide +kernel
theorem dX3_allInodes_9 : decode cX3_allInodes 9 = .ok (.ireturn, 1) := by decide +kernel
theorem dX3_isFragment_0 : decode cX3_isFragment 0 = .ok (.iload_n 1, 1) := by decide +kernel
theorem dX3_isFragment_1 : decode cX3_isFragment 1 = .ok (.ifCond .lt 22, 3) := by decide +kernel
theorem dX3_isFragment_4 : decode cX3_isFragment 4 = .ok (.iload_n 1, 1) := by decide +kernel
theorem dX3_isFragment_5 : decode cX3_isFragment 5 = .ok (.aload_n 0, 1) := by decide +kernel
theorem dX3_isFragment_6 : decode cX3_isFragment 6 = .ok (.getfield 9, 3) := by decide +kernel
theorem dX3_isFragment_9 : decode cX3_isFragment 9 = .ok (.aload_n 0, 1) := by decide +kernel
theorem dX3_isFragment_10 : decode cX3_isFragment 10 = .ok (.getfield 15, 3) := by decide +kernel
theorem dX3_isFragment_13 : decode cX3_isFragment 13 = .ok (.imul, 1) := by decide +kernel
theorem dX3_isFragment_14 : decode cX3_isFragment 14 = .ok (.iconst 4, 1) := by decide +kernel
theorem dX3_isFragment_15 : decode cX3_isFragment 15 = .ok (.imul, 1) := by decide +kernel
theorem dX3_isFragment_16 : decode cX3_isFragment 16 = .ok (.if_icmp .ge 7, 3) := by decide +kernel
theorem dX3_isFragment_19 : decode cX3_isFragment 19 = .ok (.iconst 1, 1) := by decide +kernel
theorem dX3_isFragment_20 : decode cX3_isFragment 20 = .ok (.goto 4, 3) := by decide +kernel
theorem dX3_isFragment_23 : decode cX3_isFragment 23 = .ok (.iconst 0, 1) := by decide +kernel
theorem dX3_isFragment_24 : decode cX3_isFragment 24 = .ok (.ireturn, 1) := by decide +kernel
theorem dX3_behind_0 : decode cX3_behind 0 = .ok (.iload_n 1, 1) := by decide +kernel
theorem dX3_behind_1 : decode cX3_behind 1 = .ok (.iload_n 2, 1) := by decide +kernel
theorem dX3_behind_2 : decode cX3_behind 2 = .ok (.iadd, 1) := by decide +kernel
theorem dX3_behind_3 : decode cX3_behind 3 = .ok (.istore_n 3, 1) := by decide +kernel
theorem dX3_behind_4 : decode cX3_behind 4 = .ok (.iload_n 3, 1) := by decide +kernel
theorem dX3_behind_5 : decode cX3_behind 5 = .ok (.aload_n 0, 1) := by decide +kernel
theorem dX3_behind_6 : decode cX3_behind 6 = .ok (.getfield 9, 3) := by decide +kernel
theorem dX3_behind_9 : decode cX3_behind 9 = .ok (.if_icmp .ge 7, 3) := by decide +kernel
theorem dX3_behind_12 : decode cX3_behind 12 = .ok (.iload_n 3, 1) := by decide +kernel
theorem dX3_behind_13 : decode cX3_behind 13 = .ok (.goto 9, 3) := by decide +kernel
theorem dX3_behind_16 : decode cX3_behind 16 = .ok (.iload_n 3, 1) := by decide +kernel
theorem dX3_behind_17 : decode cX3_behind 17 = .ok (.aload_n 0, 1) := by decide +kernel
theorem dX3_behind_18 : decode cX3_behind 18 = .ok (.getfield 9, 3) := by decide +kernel
theorem dX3_behind_21 : decode cX3_behind 21 = .ok (.isub, 1) := by decide +kernel
theorem dX3_behind_22 : decode cX3_behind 22 = .ok (.ireturn, 1) := by decide +kernel
theorem dX3_groupOfInode_0 : decode cX3_groupOfInode 0 = .ok (.aload_n 0, 1) := by decide +kernel
theorem dX3_groupOfInode_1 : decode cX3_groupOfInode 1 = .ok (.getfield 18, 3) := by decide +kernel
theorem dX3_groupOfInode_4 : decode cX3_groupOfInode 4 = .ok (.ifCond .le 12, 3) := by decide +kernel
theorem dX3_groupOfInode_7 : decode cX3_groupOfInode 7 = .ok (.iload_n 1, 1) := by decide +kernel
theorem dX3_groupOfInode_8 : decode cX3_groupOfInode 8 = .ok (.aload_n 0, 1) := by decide +kernel
theorem dX3_groupOfInode_9 : decode cX3_groupOfInode 9 = .ok (.getfield 18, 3) := by decide +kernel
theorem dX3_groupOfInode_12 : decode cX3_groupOfInode 12 = .ok (.idiv, 1) := by decide +kernel
theorem dX3_groupOfInode_13 : decode cX3_groupOfInode 13 = .ok (.goto 4, 3) := by decide +kernel
theorem dX3_groupOfInode_16 : decode cX3_groupOfInode 16 = .ok (.iconst 0, 1) := by decide +kernel
theorem dX3_groupOfInode_17 : decode cX3_groupOfInode 17 = .ok (.ireturn, 1) := by decide +kernel
theorem dX3_groupOfBlock_0 : decode cX3_groupOfBlock 0 = .ok (.aload_n 0, 1) := by decide +kernel
theorem dX3_groupOfBlock_1 : decode cX3_groupOfBlock 1 = .ok (.getfield 15, 3) := by decide +kernel
theorem dX3_groupOfBlock_4 : decode cX3_groupOfBlock 4 = .ok (.ifCond .le 12, 3) := by decide +kernel
theorem dX3_groupOfBlock_7 : decode cX3_groupOfBlock 7 = .ok (.iload_n 1, 1) := by decide +kernel
theorem dX3_groupOfBlock_8 : decode cX3_groupOfBlock 8 = .ok (.aload_n 0, 1) := by decide +kernel
theorem dX3_groupOfBlock_9 : decode cX3_groupOfBlock 9 = .ok (.getfield 15, 3) := by decide +kernel
theorem dX3_groupOfBlock_12 : decode cX3_groupOfBlock 12 = .ok (.idiv, 1) := by decide +kernel
theorem dX3_groupOfBlock_13 : decode cX3_groupOfBlock 13 = .ok (.goto 4, 3) := by decide +kernel
theorem dX3_groupOfBlock_16 : decode cX3_groupOfBlock 16 = .ok (.iconst 0, 1) := by decide +kernel
theorem dX3_groupOfBlock_17 : decode cX3_groupOfBlock 17 = .ok (.ireturn, 1) := by decide +kernel
theorem dX3_placeBehind_0 : decode cX3_placeBehind 0 = .ok (.aload_n 0, 1) := by decide +kernel
theorem dX3_placeBehind_1 : decode cX3_placeBehind 1 = .ok (.getfield 15, 3) := by decide +kernel
theorem dX3_placeBehind_4 : decode cX3_placeBehind 4 = .ok (.ifCond .le 24, 3) := by decide +kernel
theorem dX3_placeBehind_7 : decode cX3_placeBehind 7 = .ok (.iload_n 1, 1) := by decide +kernel
theorem dX3_placeBehind_8 : decode cX3_placeBehind 8 = .ok (.aload_n 0, 1) := by decide +kernel
theorem dX3_placeBehind_9 : decode cX3_placeBehind 9 = .ok (.getfield 15, 3) := by decide +kernel
theorem dX3_placeBehind_12 : decode cX3_placeBehind 12 = .ok (.irem, 1) := by decide +kernel
theorem dX3_placeBehind_13 : decode cX3_placeBehind 13 = .ok (.iconst 1, 1) := by decide +kernel
theorem dX3_placeBehind_14 : decode cX3_placeBehind 14 = .ok (.iadd, 1) := by decide +kernel
theorem dX3_placeBehind_15 : decode cX3_placeBehind 15 = .ok (.aload_n 0, 1) := by decide +kernel
theorem dX3_placeBehind_16 : decode cX3_placeBehind 16 = .ok (.getfield 21, 3) := by decide +kernel
theorem dX3_placeBehind_19 : decode cX3_placeBehind 19 = .ok (.iadd, 1) := by decide +kernel
theorem dX3_placeBehind_20 : decode cX3_placeBehind 20 = .ok (.aload_n 0, 1) := by decide +kernel
theorem dX3_placeBehind_21 : decode cX3_placeBehind 21 = .ok (.getfield 15, 3) := by decide +kernel
theorem dX3_placeBehind_24 : decode cX3_placeBehind 24 = .ok (.irem, 1) := by decide +kernel
theorem dX3_placeBehind_25 : decode cX3_placeBehind 25 = .ok (.goto 4, 3) := by decide +kernel
theorem dX3_placeBehind_28 : decode cX3_placeBehind 28 = .ok (.iconst 0, 1) := by decide +kernel
theorem dX3_placeBehind_29 : decode cX3_placeBehind 29 = .ok (.ireturn, 1) := by decide +kernel
theorem dX3_leadsOn_0 : decode cX3_leadsOn 0 = .ok (.aload_n 0, 1) := by decide +kernel
theorem dX3_leadsOn_1 : decode cX3_leadsOn 1 = .ok (.getfield 27, 3) := by decide +kernel
theorem dX3_leadsOn_4 : decode cX3_leadsOn 4 = .ok (.ifCond .le 16, 3) := by decide +kernel
theorem dX3_leadsOn_7 : decode cX3_leadsOn 7 = .ok (.iload_n 1, 1) := by decide +kernel
theorem dX3_leadsOn_8 : decode cX3_leadsOn 8 = .ok (.aload_n 0, 1) := by decide +kernel
theorem dX3_leadsOn_9 : decode cX3_leadsOn 9 = .ok (.getfield 27, 3) := by decide +kernel
theorem dX3_leadsOn_12 : decode cX3_leadsOn 12 = .ok (.irem, 1) := by decide +kernel
theorem dX3_leadsOn_13 : decode cX3_leadsOn 13 = .ok (.ifCond .ne 7, 3) := by decide +kernel
theorem dX3_leadsOn_16 : decode cX3_leadsOn 16 = .ok (.iconst 1, 1) := by decide +kernel
theorem dX3_leadsOn_17 : decode cX3_leadsOn 17 = .ok (.goto 4, 3) := by decide +kernel
theorem dX3_leadsOn_20 : decode cX3_leadsOn 20 = .ok (.iconst 0, 1) := by decide +kernel
theorem dX3_leadsOn_21 : decode cX3_leadsOn 21 = .ok (.ireturn, 1) := by decide +kernel
theorem dX4_init_0 : decode cX4_init 0 = .ok (.aload_n 0, 1) := by decide +kernel
theorem dX4_init_1 : decode cX4_init 1 = .ok (.invokespecial 3, 3) := by decide +kernel
theorem dX4_init_4 : decode cX4_init 4 = .ok (.aload_n 0, 1) := by decide +kernel
theorem dX4_init_5 : decode cX4_init 5 = .ok (.bipush 6, 2) := by decide +kernel
theorem dX4_init_7 : decode cX4_init 7 = .ok (.newarray .int, 2) := by decide +kernel
theorem dX4_init_9 : decode cX4_init 9 = .ok (.putfield 9, 3) := by decide +kernel
theorem dX4_init_12 : decode cX4_init 12 = .ok (.aload_n 0, 1) := by decide +kernel
theorem dX4_init_13 : decode cX4_init 13 = .ok (.aload_n 1, 1) := by decide +kernel
theorem dX4_init_14 : decode cX4_init 14 = .ok (.putfield 15, 3) := by decide +kernel
theorem dX4_init_17 : decode cX4_init 17 = .ok (.return_, 1) := by decide +kernel
theorem dX4_rewind_0 : decode cX4_rewind 0 = .ok (.aload_n 0, 1) := by decide +kernel
theorem dX4_rewind_1 : decode cX4_rewind 1 = .ok (.iconst 0, 1) := by decide +kernel
theorem dX4_rewind_2 : decode cX4_rewind 2 = .ok (.putfield 19, 3) := by decide +kernel
theorem dX4_rewind_5 : decode cX4_rewind 5 = .ok (.aload_n 0, 1) := by decide +kernel
theorem dX4_rewind_6 : decode cX4_rewind 6 = .ok (.iconst 0, 1) := by decide +kernel
theorem dX4_rewind_7 : decode cX4_rewind 7 = .ok (.putfield 23, 3) := by decide +kernel
theorem dX4_rewind_10 : decode cX4_rewind 10 = .ok (.aload_n 0, 1) := by decide +kernel
theorem dX4_rewind_11 : decode cX4_rewind 11 = .ok (.iconst 0, 1) := by decide +kernel
theorem dX4_rewind_12 : decode cX4_rewind 12 = .ok (.putfield 26, 3) := by decide +kernel
theorem dX4_rewind_15 : decode cX4_rewind 15 = .ok (.return_, 1) := by decide +kernel
theorem dX4_hasMore_0 : decode cX4_hasMore 0 = .ok (.aload_n 0, 1) := by decide +kernel
theorem dX4_hasMore_1 : decode cX4_hasMore 1 = .ok (.invokevirtual 29, 3) := by decide +kernel
theorem dX4_hasMore_4 : decode cX4_hasMore 4 = .ok (.aload_n 0, 1) := by decide +kernel
theorem dX4_hasMore_5 : decode cX4_hasMore 5 = .ok (.getfield 19, 3) := by decide +kernel
theorem dX4_hasMore_8 : decode cX4_hasMore 8 = .ok (.aload_n 0, 1) := by decide +kernel
theorem dX4_hasMore_9 : decode cX4_hasMore 9 = .ok (.getfield 15, 3) := by decide +kernel
theorem dX4_hasMore_12 : decode cX4_hasMore 12 = .ok (.getfield 32, 3) := by decide +kernel
theorem dX4_hasMore_15 : decode cX4_hasMore 15 = .ok (.if_icmp .ge 7, 3) := by decide +kernel
theorem dX4_hasMore_18 : decode cX4_hasMore 18 = .ok (.iconst 1, 1) := by decide +kernel
theorem dX4_hasMore_19 : decode cX4_hasMore 19 = .ok (.goto 4, 3) := by decide +kernel
theorem dX4_hasMore_22 : decode cX4_hasMore 22 = .ok (.iconst 0, 1) := by decide +kernel
theorem dX4_hasMore_23 : decode cX4_hasMore 23 = .ok (.ireturn, 1) := by decide +kernel
theorem dX4_readRules_0 : decode cX4_readRules 0 = .ok (.aload_n 0, 1) := by decide +kernel
theorem dX4_readRules_1 : decode cX4_readRules 1 = .ok (.ldc 37, 2) := by decide +kernel
theorem dX4_readRules_3 : decode cX4_readRules 3 = .ok (.invokevirtual 39, 3) := by decide +kernel
theorem dX4_readRules_6 : decode cX4_readRules 6 = .ok (.ifCond .ne 5, 3) := by decide +kernel
theorem dX4_readRules_9 : decode cX4_readRules 9 = .ok (.iconst 0, 1) := by decide +kernel
theorem dX4_readRules_10 : decode cX4_readRules 10 = .ok (.ireturn, 1) := by decide +kernel
theorem dX4_readRules_11 : decode cX4_readRules 11 = .ok (.iconst 0, 1) := by decide +kernel
theorem dX4_readRules_12 : decode cX4_readRules 12 = .ok (.istore_n 1, 1) := by decide +kernel
theorem dX4_readRules_13 : decode cX4_readRules 13 = .ok (.iload_n 1, 1) := by decide +kernel
theorem dX4_readRules_14 : decode cX4_readRules 14 = .ok (.bipush 6, 2) := by decide +kernel
theorem dX4_readRules_16 : decode cX4_readRules 16 = .ok (.if_icmp .ge 29, 3) := by decide +kernel
theorem dX4_readRules_19 : decode cX4_readRules 19 = .ok (.aload_n 0, 1) := by decide +kernel
theorem dX4_readRules_20 : decode cX4_readRules 20 = .ok (.iload_n 1, 1) := by decide +kernel
theorem dX4_readRules_21 : decode cX4_readRules 21 = .ok (.getstatic 43, 3) := by decide +kernel
theorem dX4_readRules_24 : decode cX4_readRules 24 = .ok (.iload_n 1, 1) := by decide +kernel
theorem dX4_readRules_25 : decode cX4_readRules 25 = .ok (.iaload, 1) := by decide +kernel
theorem dX4_readRules_26 : decode cX4_readRules 26 = .ok (.getstatic 46, 3) := by decide +kernel
theorem dX4_readRules_29 : decode cX4_readRules 29 = .ok (.iload_n 1, 1) := by decide +kernel
theorem dX4_readRules_30 : decode cX4_readRules 30 = .ok (.iaload, 1) := by decide +kernel
theorem dX4_readRules_31 : decode cX4_readRules 31 = .ok (.invokevirtual 49, 3) := by decide +kernel
theorem dX4_readRules_34 : decode cX4_readRules 34 = .ok (.ifCond .ne 5, 3) := by decide +kernel
theorem dX4_readRules_37 : decode cX4_readRules 37 = .ok (.iconst 0, 1) := by decide +kernel
theorem dX4_readRules_38 : decode cX4_readRules 38 = .ok (.ireturn, 1) := by decide +kernel
theorem dX4_readRules_39 : decode cX4_readRules 39 = .ok (.iinc 1 1, 3) := by decide +kernel
theorem dX4_readRules_42 : decode cX4_readRules 42 = .ok (.goto (-29), 3) := by decide +kernel
theorem dX4_readRules_45 : decode cX4_readRules 45 = .ok (.aload_n 0, 1) := by decide +kernel
theorem dX4_readRules_46 : decode cX4_readRules 46 = .ok (.invokevirtual 53, 3) := by decide +kernel
theorem dX4_readRules_49 : decode cX4_readRules 49 = .ok (.ireturn, 1) := by decide +kernel
theorem dX4_readLine_0 : decode cX4_readLine 0 = .ok (.aload_n 0, 1) := by decide +kernel
theorem dX4_readLine_1 : decode cX4_readLine 1 = .ok (.invokevirtual 57, 3) := by decide +kernel
theorem dX4_readLine_4 : decode cX4_readLine 4 = .ok (.ifCond .ne 5, 3) := by decide +kernel
theorem dX4_readLine_7 : decode cX4_readLine 7 = .ok (.iconst 0, 1) := by decide +kernel
theorem dX4_readLine_8 : decode cX4_readLine 8 = .ok (.ireturn, 1) := by decide +kernel
theorem dX4_readLine_9 : decode cX4_readLine 9 = .ok (.aload_n 0, 1) := by decide +kernel
theorem dX4_readLine_10 : decode cX4_readLine 10 = .ok (.ldc 60, 2) := by decide +kernel
theorem dX4_readLine_12 : decode cX4_readLine 12 = .ok (.invokevirtual 62, 3) := by decide +kernel
theorem dX4_readLine_15 : decode cX4_readLine 15 = .ok (.ifCond .ne 22, 3) := by decide +kernel
theorem dX4_readLine_18 : decode cX4_readLine 18 = .ok (.aload_n 0, 1) := by decide +kernel
theorem dX4_readLine_19 : decode cX4_readLine 19 = .ok (.ldc 65, 2) := by decide +kernel
theorem dX4_readLine_21 : decode cX4_readLine 21 = .ok (.invokevirtual 62, 3) := by decide +kernel
theorem dX4_readLine_24 : decode cX4_readLine 24 = .ok (.ifCond .ne 13, 3) := by decide +kernel
theorem dX4_readLine_27 : decode cX4_readLine 27 = .ok (.aload_n 0, 1) := by decide +kernel
theorem dX4_readLine_28 : decode cX4_readLine 28 = .ok (.iconst 2, 1) := by decide +kernel
theorem dX4_readLine_29 : decode cX4_readLine 29 = .ok (.aload_n 0, 1) := by decide +kernel
theorem dX4_readLine_30 : decode cX4_readLine 30 = .ok (.getfield 67, 3) := by decide +kernel
theorem dX4_readLine_33 : decode cX4_readLine 33 = .ok (.invokevirtual 70, 3) := by decide +kernel
theorem dX4_readLine_36 : decode cX4_readLine 36 = .ok (.ireturn, 1) := by decide +kernel
theorem dX4_readLine_37 : decode cX4_readLine 37 = .ok (.aload_n 0, 1) := by decide +kernel
theorem dX4_readLine_38 : decode cX4_readLine 38 = .ok (.aload_n 0, 1) := by decide +kernel
theorem dX4_readLine_39 : decode cX4_readLine 39 = .ok (.ldc 60, 2) := by decide +kernel
theorem dX4_readLine_41 : decode cX4_readLine 41 = .ok (.invokevirtual 62, 3) := by decide +kernel
theorem dX4_readLine_44 : decode cX4_readLine 44 = .ok (.ifCond .eq 7, 3) := by decide +kernel
theorem dX4_readLine_47 : decode cX4_readLine 47 = .ok (.iconst 1, 1) := by decide +kernel
theorem dX4_readLine_48 : decode cX4_readLine 48 = .ok (.goto 4, 3) := by decide +kernel
theorem dX4_readLine_51 : decode cX4_readLine 51 = .ok (.iconst 2, 1) := by decide +kernel
theorem dX4_readLine_52 : decode cX4_readLine 52 = .ok (.putfield 74, 3) := by decide +kernel
theorem dX4_readLine_55 : decode cX4_readLine 55 = .ok (.aload_n 0, 1) := by decide +kernel
theorem dX4_readLine_56 : decode cX4_readLine 56 = .ok (.iconst 0, 1) := by decide +kernel
theorem dX4_readLine_57 : decode cX4_readLine 57 = .ok (.iconst 0, 1) := by decide +kernel
theorem dX4_readLine_58 : decode cX4_readLine 58 = .ok (.iload_n 1, 1) := by decide +kernel
theorem dX4_readLine_59 : decode cX4_readLine 59 = .ok (.invokevirtual 49, 3) := by decide +kernel
theorem dX4_readLine_62 : decode cX4_readLine 62 = .ok (.ifCond .eq 44, 3) := by decide +kernel
theorem dX4_readLine_65 : decode cX4_readLine 65 = .ok (.aload_n 0, 1) := by decide +kernel
theorem dX4_readLine_66 : decode cX4_readLine 66 = .ok (.iconst 1, 1) := by decide +kernel
theorem dX4_readLine_67 : decode cX4_readLine 67 = .ok (.iconst 0, 1) := by decide +kernel
theorem dX4_readLine_68 : decode cX4_readLine 68 = .ok (.bipush 9, 2) := by decide +kernel
theorem dX4_readLine_70 : decode cX4_readLine 70 = .ok (.invokevirtual 49, 3) := by decide +kernel
theorem dX4_readLine_73 : decode cX4_readLine 73 = .ok (.ifCond .eq 33, 3) := by decide +kernel
theorem dX4_readLine_76 : decode cX4_readLine 76 = .ok (.aload_n 0, 1) := by decide +kernel
theorem dX4_readLine_77 : decode cX4_readLine 77 = .ok (.getfield 74, 3) := by decide +kernel
theorem dX4_readLine_80 : decode cX4_readLine 80 = .ok (.iconst 1, 1) := by decide +kernel
theorem dX4_readLine_81 : decode cX4_readLine 81 = .ok (.if_icmp .eq 14, 3) := by decide +kernel
theorem dX4_readLine_84 : decode cX4_readLine 84 = .ok (.aload_n 0, 1) := by decide +kernel
theorem dX4_readLine_85 : decode cX4_readLine 85 = .ok (.iconst 2, 1) := by decide +kernel
theorem dX4_readLine_86 : decode cX4_readLine 86 = .ok (.iconst 0, 1) := by decide +kernel
theorem dX4_readLine_87 : decode cX4_readLine 87 = .ok (.bipush 40, 2) := by decide +kernel
theorem dX4_readLine_89 : decode cX4_readLine 89 = .ok (.invokevirtual 49, 3) := by decide +kernel
theorem dX4_readLine_92 : decode cX4_readLine 92 = .ok (.ifCond .eq 14, 3) := by decide +kernel
theorem dX4_readLine_95 : decode cX4_readLine 95 = .ok (.aload_n 0, 1) := by decide +kernel
theorem dX4_readLine_96 : decode cX4_readLine 96 = .ok (.invokevirtual 53, 3) := by decide +kernel
theorem dX4_readLine_99 : decode cX4_readLine 99 = .ok (.ifCond .eq 7, 3) := by decide +kernel
theorem dX4_readLine_102 : decode cX4_readLine 102 = .ok (.iconst 1, 1) := by decide +kernel
theorem dX4_readLine_103 : decode cX4_readLine 103 = .ok (.goto 4, 3) := by decide +kernel
theorem dX4_readLine_106 : decode cX4_readLine 106 = .ok (.iconst 0, 1) := by decide +kernel
theorem dX4_readLine_107 : decode cX4_readLine 107 = .ok (.ireturn, 1) := by decide +kernel
theorem dX4_refuseLine_0 : decode cX4_refuseLine 0 = .ok (.aload_n 0, 1) := by decide +kernel
theorem dX4_refuseLine_1 : decode cX4_refuseLine 1 = .ok (.iload_n 1, 1) := by decide +kernel
theorem dX4_refuseLine_2 : decode cX4_refuseLine 2 = .ok (.aload_n 0, 1) := by decide +kernel
theorem dX4_refuseLine_3 : decode cX4_refuseLine 3 = .ok (.getfield 67, 3) := by decide +kernel
theorem dX4_refuseLine_6 : decode cX4_refuseLine 6 = .ok (.invokevirtual 70, 3) := by decide +kernel
theorem dX4_refuseLine_9 : decode cX4_refuseLine 9 = .ok (.ireturn, 1) := by decide +kernel
theorem dX4_refuse_0 : decode cX4_refuse 0 = .ok (.aload_n 0, 1) := by decide +kernel
theorem dX4_refuse_1 : decode cX4_refuse 1 = .ok (.iload_n 1, 1) := by decide +kernel
theorem dX4_refuse_2 : decode cX4_refuse 2 = .ok (.putfield 23, 3) := by decide +kernel
theorem dX4_refuse_5 : decode cX4_refuse 5 = .ok (.aload_n 0, 1) := by decide +kernel
theorem dX4_refuse_6 : decode cX4_refuse 6 = .ok (.iload_n 2, 1) := by decide +kernel
theorem dX4_refuse_7 : decode cX4_refuse 7 = .ok (.putfield 26, 3) := by decide +kernel
theorem dX4_refuse_10 : decode cX4_refuse 10 = .ok (.iconst 0, 1) := by decide +kernel
theorem dX4_refuse_11 : decode cX4_refuse 11 = .ok (.ireturn, 1) := by decide +kernel
theorem dX4_takeWord_0 : decode cX4_takeWord 0 = .ok (.aload_n 0, 1) := by decide +kernel
theorem dX4_takeWord_1 : decode cX4_takeWord 1 = .ok (.invokevirtual 57, 3) := by decide +kernel
theorem dX4_takeWord_4 : decode cX4_takeWord 4 = .ok (.ifCond .eq 27, 3) := by decide +kernel
theorem dX4_takeWord_7 : decode cX4_takeWord 7 = .ok (.aload_n 0, 1) := by decide +kernel
theorem dX4_takeWord_8 : decode cX4_takeWord 8 = .ok (.aload_n 1, 1) := by decide +kernel
theorem dX4_takeWord_9 : decode cX4_takeWord 9 = .ok (.invokevirtual 62, 3) := by decide +kernel
theorem dX4_takeWord_12 : decode cX4_takeWord 12 = .ok (.ifCond .ne 15, 3) := by decide +kernel
theorem dX4_takeWord_15 : decode cX4_takeWord 15 = .ok (.aload_n 0, 1) := by decide +kernel
theorem dX4_takeWord_16 : decode cX4_takeWord 16 = .ok (.iconst 2, 1) := by decide +kernel
theorem dX4_takeWord_17 : decode cX4_takeWord 17 = .ok (.aload_n 0, 1) := by decide +kernel
theorem dX4_takeWord_18 : decode cX4_takeWord 18 = .ok (.getfield 67, 3) := by decide +kernel
theorem dX4_takeWord_21 : decode cX4_takeWord 21 = .ok (.invokevirtual 70, 3) := by decide +kernel
theorem dX4_takeWord_24 : decode cX4_takeWord 24 = .ok (.ifCond .eq 7, 3) := by decide +kernel
theorem dX4_takeWord_27 : decode cX4_takeWord 27 = .ok (.iconst 1, 1) := by decide +kernel
theorem dX4_takeWord_28 : decode cX4_takeWord 28 = .ok (.goto 4, 3) := by decide +kernel
theorem dX4_takeWord_31 : decode cX4_takeWord 31 = .ok (.iconst 0, 1) := by decide +kernel
theorem dX4_takeWord_32 : decode cX4_takeWord 32 = .ok (.ireturn, 1) := by decide +kernel
theorem dX4_takeSign_0 : decode cX4_takeSign 0 = .ok (.aload_n 0, 1) := by decide +kernel
theorem dX4_takeSign_1 : decode cX4_takeSign 1 = .ok (.invokevirtual 57, 3) := by decide +kernel
theorem dX4_takeSign_4 : decode cX4_takeSign 4 = .ok (.ifCond .eq 27, 3) := by decide +kernel
theorem dX4_takeSign_7 : decode cX4_takeSign 7 = .ok (.aload_n 0, 1) := by decide +kernel
theorem dX4_takeSign_8 : decode cX4_takeSign 8 = .ok (.getfield 77, 3) := by decide +kernel
theorem dX4_takeSign_11 : decode cX4_takeSign 11 = .ok (.iconst 3, 1) := by decide +kernel
theorem dX4_takeSign_12 : decode cX4_takeSign 12 = .ok (.if_icmp .eq 15, 3) := by decide +kernel
theorem dX4_takeSign_15 : decode cX4_takeSign 15 = .ok (.aload_n 0, 1) := by decide +kernel
theorem dX4_takeSign_16 : decode cX4_takeSign 16 = .ok (.iconst 2, 1) := by decide +kernel
theorem dX4_takeSign_17 : decode cX4_takeSign 17 = .ok (.aload_n 0, 1) := by decide +kernel
theorem dX4_takeSign_18 : decode cX4_takeSign 18 = .ok (.getfield 67, 3) := by decide +kernel
theorem dX4_takeSign_21 : decode cX4_takeSign 21 = .ok (.invokevirtual 70, 3) := by decide +kernel
theorem dX4_takeSign_24 : decode cX4_takeSign 24 = .ok (.ifCond .eq 7, 3) := by decide +kernel
theorem dX4_takeSign_27 : decode cX4_takeSign 27 = .ok (.iconst 1, 1) := by decide +kernel
theorem dX4_takeSign_28 : decode cX4_takeSign 28 = .ok (.goto 4, 3) := by decide +kernel
theorem dX4_takeSign_31 : decode cX4_takeSign 31 = .ok (.iconst 0, 1) := by decide +kernel
theorem dX4_takeSign_32 : decode cX4_takeSign 32 = .ok (.ireturn, 1) := by decide +kernel
theorem dX4_takeNumber_0 : decode cX4_takeNumber 0 = .ok (.aload_n 0, 1) := by decide +kernel
theorem dX4_takeNumber_1 : decode cX4_takeNumber 1 = .ok (.invokevirtual 57, 3) := by decide +kernel
theorem dX4_takeNumber_4 : decode cX4_takeNumber 4 = .ok (.ifCond .ne 5, 3) := by decide +kernel
theorem dX4_takeNumber_7 : decode cX4_takeNumber 7 = .ok (.iconst 0, 1) := by decide +kernel
theorem dX4_takeNumber_8 : decode cX4_takeNumber 8 = .ok (.ireturn, 1) := by decide +kernel
theorem dX4_takeNumber_9 : decode cX4_takeNumber 9 = .ok (.aload_n 0, 1) := by decide +kernel
theorem dX4_takeNumber_10 : decode cX4_takeNumber 10 = .ok (.getfield 77, 3) := by decide +kernel
theorem dX4_takeNumber_13 : decode cX4_takeNumber 13 = .ok (.iconst 2, 1) := by decide +kernel
theorem dX4_takeNumber_14 : decode cX4_takeNumber 14 = .ok (.if_icmp .eq 13, 3) := by decide +kernel
theorem dX4_takeNumber_17 : decode cX4_takeNumber 17 = .ok (.aload_n 0, 1) := by decide +kernel
theorem dX4_takeNumber_18 : decode cX4_takeNumber 18 = .ok (.iconst 2, 1) := by decide +kernel
theorem dX4_takeNumber_19 : decode cX4_takeNumber 19 = .ok (.aload_n 0, 1) := by decide +kernel
theorem dX4_takeNumber_20 : decode cX4_takeNumber 20 = .ok (.getfield 67, 3) := by decide +kernel
theorem dX4_takeNumber_23 : decode cX4_takeNumber 23 = .ok (.invokevirtual 70, 3) := by decide +kernel
theorem dX4_takeNumber_26 : decode cX4_takeNumber 26 = .ok (.ireturn, 1) := by decide +kernel
theorem dX4_takeNumber_27 : decode cX4_takeNumber 27 = .ok (.aload_n 0, 1) := by decide +kernel
theorem dX4_takeNumber_28 : decode cX4_takeNumber 28 = .ok (.getfield 80, 3) := by decide +kernel
theorem dX4_takeNumber_31 : decode cX4_takeNumber 31 = .ok (.iload_n 2, 1) := by decide +kernel
theorem dX4_takeNumber_32 : decode cX4_takeNumber 32 = .ok (.if_icmp .lt 24, 3) := by decide +kernel
theorem dX4_takeNumber_35 : decode cX4_takeNumber 35 = .ok (.aload_n 0, 1) := by decide +kernel
theorem dX4_takeNumber_36 : decode cX4_takeNumber 36 = .ok (.getfield 80, 3) := by decide +kernel
theorem dX4_takeNumber_39 : decode cX4_takeNumber 39 = .ok (.iload_n 3, 1) := by decide +kernel
theorem dX4_takeNumber_40 : decode cX4_takeNumber 40 = .ok (.if_icmp .gt 16, 3) := by decide +kernel
theorem dX4_takeNumber_43 : decode cX4_takeNumber 43 = .ok (.iload_n 1, 1) := by decide +kernel
theorem dX4_takeNumber_44 : decode cX4_takeNumber 44 = .ok (.ifCond .lt 12, 3) := by decide +kernel
theorem dX4_takeNumber_47 : decode cX4_takeNumber 47 = .ok (.iload_n 1, 1) := by decide +kernel
theorem dX4_takeNumber_48 : decode cX4_takeNumber 48 = .ok (.aload_n 0, 1) := by decide +kernel
theorem dX4_takeNumber_49 : decode cX4_takeNumber 49 = .ok (.getfield 9, 3) := by decide +kernel
theorem dX4_takeNumber_52 : decode cX4_takeNumber 52 = .ok (.arraylength, 1) := by decide +kernel
theorem dX4_takeNumber_53 : decode cX4_takeNumber 53 = .ok (.if_icmp .lt 13, 3) := by decide +kernel
theorem dX4_takeNumber_56 : decode cX4_takeNumber 56 = .ok (.aload_n 0, 1) := by decide +kernel
theorem dX4_takeNumber_57 : decode cX4_takeNumber 57 = .ok (.iconst 3, 1) := by decide +kernel
theorem dX4_takeNumber_58 : decode cX4_takeNumber 58 = .ok (.aload_n 0, 1) := by decide +kernel
theorem dX4_takeNumber_59 : decode cX4_takeNumber 59 = .ok (.getfield 67, 3) := by decide +kernel
theorem dX4_takeNumber_62 : decode cX4_takeNumber 62 = .ok (.invokevirtual 70, 3) := by decide +kernel
theorem dX4_takeNumber_65 : decode cX4_takeNumber 65 = .ok (.ireturn, 1) := by decide +kernel
theorem dX4_takeNumber_66 : decode cX4_takeNumber 66 = .ok (.aload_n 0, 1) := by decide +kernel
theorem dX4_takeNumber_67 : decode cX4_takeNumber 67 = .ok (.getfield 9, 3) := by decide +kernel
theorem dX4_takeNumber_70 : decode cX4_takeNumber 70 = .ok (.iload_n 1, 1) := by decide +kernel
theorem dX4_takeNumber_71 : decode cX4_takeNumber 71 = .ok (.aload_n 0, 1) := by decide +kernel
theorem dX4_takeNumber_72 : decode cX4_takeNumber 72 = .ok (.getfield 80, 3) := by decide +kernel
theorem dX4_takeNumber_75 : decode cX4_takeNumber 75 = .ok (.iastore, 1) := by decide +kernel
theorem dX4_takeNumber_76 : decode cX4_takeNumber 76 = .ok (.iconst 1, 1) := by decide +kernel
theorem dX4_takeNumber_77 : decode cX4_takeNumber 77 = .ok (.ireturn, 1) := by decide +kernel
theorem dX4_isWord_0 : decode cX4_isWord 0 = .ok (.aload_n 0, 1) := by decide +kernel
theorem dX4_isWord_1 : decode cX4_isWord 1 = .ok (.getfield 77, 3) := by decide +kernel
theorem dX4_isWord_4 : decode cX4_isWord 4 = .ok (.iconst 1, 1) := by decide +kernel
theorem dX4_isWord_5 : decode cX4_isWord 5 = .ok (.if_icmp .ne 19, 3) := by decide +kernel
theorem dX4_isWord_8 : decode cX4_isWord 8 = .ok (.aload_n 0, 1) := by decide +kernel
theorem dX4_isWord_9 : decode cX4_isWord 9 = .ok (.getfield 19, 3) := by decide +kernel
theorem dX4_isWord_12 : decode cX4_isWord 12 = .ok (.aload_n 0, 1) := by decide +kernel
theorem dX4_isWord_13 : decode cX4_isWord 13 = .ok (.getfield 67, 3) := by decide +kernel
theorem dX4_isWord_16 : decode cX4_isWord 16 = .ok (.isub, 1) := by decide +kernel
theorem dX4_isWord_17 : decode cX4_isWord 17 = .ok (.aload_n 1, 1) := by decide +kernel
theorem dX4_isWord_18 : decode cX4_isWord 18 = .ok (.invokevirtual 83, 3) := by decide +kernel
theorem dX4_isWord_21 : decode cX4_isWord 21 = .ok (.if_icmp .eq 5, 3) := by decide +kernel
theorem dX4_isWord_24 : decode cX4_isWord 24 = .ok (.iconst 0, 1) := by decide +kernel
theorem dX4_isWord_25 : decode cX4_isWord 25 = .ok (.ireturn, 1) := by decide +kernel
theorem dX4_isWord_26 : decode cX4_isWord 26 = .ok (.iconst 0, 1) := by decide +kernel
theorem dX4_isWord_27 : decode cX4_isWord 27 = .ok (.istore_n 2, 1) := by decide +kernel
theorem dX4_isWord_28 : decode cX4_isWord 28 = .ok (.iload_n 2, 1) := by decide +kernel
theorem dX4_isWord_29 : decode cX4_isWord 29 = .ok (.aload_n 1, 1) := by decide +kernel
theorem dX4_isWord_30 : decode cX4_isWord 30 = .ok (.invokevirtual 83, 3) := by decide +kernel
theorem dX4_isWord_33 : decode cX4_isWord 33 = .ok (.if_icmp .ge 32, 3) := by decide +kernel
theorem dX4_isWord_36 : decode cX4_isWord 36 = .ok (.aload_n 0, 1) := by decide +kernel
theorem dX4_isWord_37 : decode cX4_isWord 37 = .ok (.getfield 15, 3) := by decide +kernel
theorem dX4_isWord_40 : decode cX4_isWord 40 = .ok (.aload_n 0, 1) := by decide +kernel
theorem dX4_isWord_41 : decode cX4_isWord 41 = .ok (.getfield 67, 3) := by decide +kernel
theorem dX4_isWord_44 : decode cX4_isWord 44 = .ok (.iload_n 2, 1) := by decide +kernel
theorem dX4_isWord_45 : decode cX4_isWord 45 = .ok (.iadd, 1) := by decide +kernel
theorem dX4_isWord_46 : decode cX4_isWord 46 = .ok (.invokevirtual 88, 3) := by decide +kernel
theorem dX4_isWord_49 : decode cX4_isWord 49 = .ok (.aload_n 1, 1) := by decide +kernel
theorem dX4_isWord_50 : decode cX4_isWord 50 = .ok (.iload_n 2, 1) := by decide +kernel
theorem dX4_isWord_51 : decode cX4_isWord 51 = .ok (.invokevirtual 92, 3) := by decide +kernel
theorem dX4_isWord_54 : decode cX4_isWord 54 = .ok (.if_icmp .eq 5, 3) := by decide +kernel
theorem dX4_isWord_57 : decode cX4_isWord 57 = .ok (.iconst 0, 1) := by decide +kernel
theorem dX4_isWord_58 : decode cX4_isWord 58 = .ok (.ireturn, 1) := by decide +kernel
theorem dX4_isWord_59 : decode cX4_isWord 59 = .ok (.iinc 2 1, 3) := by decide +kernel
theorem dX4_isWord_62 : decode cX4_isWord 62 = .ok (.goto (-34), 3) := by decide +kernel
theorem dX4_isWord_65 : decode cX4_isWord 65 = .ok (.iconst 1, 1) := by decide +kernel
theorem dX4_isWord_66 : decode cX4_isWord 66 = .ok (.ireturn, 1) := by decide +kernel
theorem dX4_readToken_0 : decode cX4_readToken 0 = .ok (.aload_n 0, 1) := by decide +kernel
theorem dX4_readToken_1 : decode cX4_readToken 1 = .ok (.invokevirtual 29, 3) := by decide +kernel
theorem dX4_readToken_4 : decode cX4_readToken 4 = .ok (.aload_n 0, 1) := by decide +kernel
theorem dX4_readToken_5 : decode cX4_readToken 5 = .ok (.aload_n 0, 1) := by decide +kernel
theorem dX4_readToken_6 : decode cX4_readToken 6 = .ok (.getfield 19, 3) := by decide +kernel
theorem dX4_readToken_9 : decode cX4_readToken 9 = .ok (.putfield 67, 3) := by decide +kernel
theorem dX4_readToken_12 : decode cX4_readToken 12 = .ok (.aload_n 0, 1) := by decide +kernel
theorem dX4_readToken_13 : decode cX4_readToken 13 = .ok (.getfield 19, 3) := by decide +kernel
theorem dX4_readToken_16 : decode cX4_readToken 16 = .ok (.aload_n 0, 1) := by decide +kernel
theorem dX4_readToken_17 : decode cX4_readToken 17 = .ok (.getfield 15, 3) := by decide +kernel
theorem dX4_readToken_20 : decode cX4_readToken 20 = .ok (.getfield 32, 3) := by decide +kernel
theorem dX4_readToken_23 : decode cX4_readToken 23 = .ok (.if_icmp .lt 10, 3) := by decide +kernel
theorem dX4_readToken_26 : decode cX4_readToken 26 = .ok (.aload_n 0, 1) := by decide +kernel
theorem dX4_readToken_27 : decode cX4_readToken 27 = .ok (.iconst 4, 1) := by decide +kernel
theorem dX4_readToken_28 : decode cX4_readToken 28 = .ok (.putfield 77, 3) := by decide +kernel
theorem dX4_readToken_31 : decode cX4_readToken 31 = .ok (.iconst 1, 1) := by decide +kernel
theorem dX4_readToken_32 : decode cX4_readToken 32 = .ok (.ireturn, 1) := by decide +kernel
theorem dX4_readToken_33 : decode cX4_readToken 33 = .ok (.aload_n 0, 1) := by decide +kernel
theorem dX4_readToken_34 : decode cX4_readToken 34 = .ok (.getfield 15, 3) := by decide +kernel
theorem dX4_readToken_37 : decode cX4_readToken 37 = .ok (.aload_n 0, 1) := by decide +kernel
theorem dX4_readToken_38 : decode cX4_readToken 38 = .ok (.getfield 19, 3) := by decide +kernel
theorem dX4_readToken_41 : decode cX4_readToken 41 = .ok (.invokevirtual 96, 3) := by decide +kernel
theorem dX4_readToken_44 : decode cX4_readToken 44 = .ok (.ifCond .eq 8, 3) := by decide +kernel
theorem dX4_readToken_47 : decode cX4_readToken 47 = .ok (.aload_n 0, 1) := by decide +kernel
theorem dX4_readToken_48 : decode cX4_readToken 48 = .ok (.invokevirtual 100, 3) := by decide +kernel
theorem dX4_readToken_51 : decode cX4_readToken 51 = .ok (.ireturn, 1) := by decide +kernel
theorem dX4_readToken_52 : decode cX4_readToken 52 = .ok (.aload_n 0, 1) := by decide +kernel
theorem dX4_readToken_53 : decode cX4_readToken 53 = .ok (.getfield 15, 3) := by decide +kernel
theorem dX4_readToken_56 : decode cX4_readToken 56 = .ok (.aload_n 0, 1) := by decide +kernel
theorem dX4_readToken_57 : decode cX4_readToken 57 = .ok (.getfield 19, 3) := by decide +kernel
theorem dX4_readToken_60 : decode cX4_readToken 60 = .ok (.invokevirtual 103, 3) := by decide +kernel
theorem dX4_readToken_63 : decode cX4_readToken 63 = .ok (.ifCond .eq 51, 3) := by decide +kernel
theorem dX4_readToken_66 : decode cX4_readToken 66 = .ok (.aload_n 0, 1) := by decide +kernel
theorem dX4_readToken_67 : decode cX4_readToken 67 = .ok (.iconst 1, 1) := by decide +kernel
theorem dX4_readToken_68 : decode cX4_readToken 68 = .ok (.putfield 77, 3) := by decide +kernel
theorem dX4_readToken_71 : decode cX4_readToken 71 = .ok (.aload_n 0, 1) := by decide +kernel
theorem dX4_readToken_72 : decode cX4_readToken 72 = .ok (.getfield 19, 3) := by decide +kernel
theorem dX4_readToken_75 : decode cX4_readToken 75 = .ok (.aload_n 0, 1) := by decide +kernel
theorem dX4_readToken_76 : decode cX4_readToken 76 = .ok (.getfield 15, 3) := by decide +kernel
theorem dX4_readToken_79 : decode cX4_readToken 79 = .ok (.getfield 32, 3) := by decide +kernel
theorem dX4_readToken_82 : decode cX4_readToken 82 = .ok (.if_icmp .ge 30, 3) := by decide +kernel
theorem dX4_readToken_85 : decode cX4_readToken 85 = .ok (.aload_n 0, 1) := by decide +kernel
theorem dX4_readToken_86 : decode cX4_readToken 86 = .ok (.getfield 15, 3) := by decide +kernel
theorem dX4_readToken_89 : decode cX4_readToken 89 = .ok (.aload_n 0, 1) := by decide +kernel
theorem dX4_readToken_90 : decode cX4_readToken 90 = .ok (.getfield 19, 3) := by decide +kernel
theorem dX4_readToken_93 : decode cX4_readToken 93 = .ok (.invokevirtual 103, 3) := by decide +kernel
theorem dX4_readToken_96 : decode cX4_readToken 96 = .ok (.ifCond .eq 16, 3) := by decide +kernel
theorem dX4_readToken_99 : decode cX4_readToken 99 = .ok (.aload_n 0, 1) := by decide +kernel
theorem dX4_readToken_100 : decode cX4_readToken 100 = .ok (.dup, 1) := by decide +kernel
theorem dX4_readToken_101 : decode cX4_readToken 101 = .ok (.getfield 19, 3) := by decide +kernel
theorem dX4_readToken_104 : decode cX4_readToken 104 = .ok (.iconst 1, 1) := by decide +kernel
theorem dX4_readToken_105 : decode cX4_readToken 105 = .ok (.iadd, 1) := by decide +kernel
theorem dX4_readToken_106 : decode cX4_readToken 106 = .ok (.putfield 19, 3) := by decide +kernel
theorem dX4_readToken_109 : decode cX4_readToken 109 = .ok (.goto (-38), 3) := by decide +kernel
theorem dX4_readToken_112 : decode cX4_readToken 112 = .ok (.iconst 1, 1) := by decide +kernel
theorem dX4_readToken_113 : decode cX4_readToken 113 = .ok (.ireturn, 1) := by decide +kernel
theorem dX4_readToken_114 : decode cX4_readToken 114 = .ok (.aload_n 0, 1) := by decide +kernel
theorem dX4_readToken_115 : decode cX4_readToken 115 = .ok (.getfield 15, 3) := by decide +kernel
theorem dX4_readToken_118 : decode cX4_readToken 118 = .ok (.aload_n 0, 1) := by decide +kernel
theorem dX4_readToken_119 : decode cX4_readToken 119 = .ok (.getfield 19, 3) := by decide +kernel
theorem dX4_readToken_122 : decode cX4_readToken 122 = .ok (.invokevirtual 88, 3) := by decide +kernel
theorem dX4_readToken_125 : decode cX4_readToken 125 = .ok (.bipush 59, 2) := by decide +kernel
theorem dX4_readToken_127 : decode cX4_readToken 127 = .ok (.if_icmp .eq 13, 3) := by decide +kernel
theorem dX4_readToken_130 : decode cX4_readToken 130 = .ok (.aload_n 0, 1) := by decide +kernel
theorem dX4_readToken_131 : decode cX4_readToken 131 = .ok (.iconst 1, 1) := by decide +kernel
theorem dX4_readToken_132 : decode cX4_readToken 132 = .ok (.aload_n 0, 1) := by decide +kernel
theorem dX4_readToken_133 : decode cX4_readToken 133 = .ok (.getfield 67, 3) := by decide +kernel
theorem dX4_readToken_136 : decode cX4_readToken 136 = .ok (.invokevirtual 70, 3) := by decide +kernel
theorem dX4_readToken_139 : decode cX4_readToken 139 = .ok (.ireturn, 1) := by decide +kernel
theorem dX4_readToken_140 : decode cX4_readToken 140 = .ok (.aload_n 0, 1) := by decide +kernel
theorem dX4_readToken_141 : decode cX4_readToken 141 = .ok (.iconst 3, 1) := by decide +kernel
theorem dX4_readToken_142 : decode cX4_readToken 142 = .ok (.putfield 77, 3) := by decide +kernel
theorem dX4_readToken_145 : decode cX4_readToken 145 = .ok (.aload_n 0, 1) := by decide +kernel
theorem dX4_readToken_146 : decode cX4_readToken 146 = .ok (.dup, 1) := by decide +kernel
theorem dX4_readToken_147 : decode cX4_readToken 147 = .ok (.getfield 19, 3) := by decide +kernel
theorem dX4_readToken_150 : decode cX4_readToken 150 = .ok (.iconst 1, 1) := by decide +kernel
theorem dX4_readToken_151 : decode cX4_readToken 151 = .ok (.iadd, 1) := by decide +kernel
theorem dX4_readToken_152 : decode cX4_readToken 152 = .ok (.putfield 19, 3) := by decide +kernel
theorem dX4_readToken_155 : decode cX4_readToken 155 = .ok (.iconst 1, 1) := by decide +kernel
theorem dX4_readToken_156 : decode cX4_readToken 156 = .ok (.ireturn, 1) := by decide +kernel
theorem dX4_readNumber_0 : decode cX4_readNumber 0 = .ok (.aload_n 0, 1) := by decide +kernel
theorem dX4_readNumber_1 : decode cX4_readNumber 1 = .ok (.iconst 2, 1) := by decide +kernel
theorem dX4_readNumber_2 : decode cX4_readNumber 2 = .ok (.putfield 77, 3) := by decide +kernel
theorem dX4_readNumber_5 : decode cX4_readNumber 5 = .ok (.aload_n 0, 1) := by decide +kernel
theorem dX4_readNumber_6 : decode cX4_readNumber 6 = .ok (.iconst 0, 1) := by decide +kernel
theorem dX4_readNumber_7 : decode cX4_readNumber 7 = .ok (.putfield 80, 3) := by decide +kernel
theorem dX4_readNumber_10 : decode cX4_readNumber 10 = .ok (.aload_n 0, 1) := by decide +kernel
theorem dX4_readNumber_11 : decode cX4_readNumber 11 = .ok (.getfield 19, 3) := by decide +kernel
theorem dX4_readNumber_14 : decode cX4_readNumber 14 = .ok (.aload_n 0, 1) := by decide +kernel
theorem dX4_readNumber_15 : decode cX4_readNumber 15 = .ok (.getfield 15, 3) := by decide +kernel
theorem dX4_readNumber_18 : decode cX4_readNumber 18 = .ok (.getfield 32, 3) := by decide +kernel
theorem dX4_readNumber_21 : decode cX4_readNumber 21 = .ok (.if_icmp .ge 56, 3) := by decide +kernel
theorem dX4_readNumber_24 : decode cX4_readNumber 24 = .ok (.aload_n 0, 1) := by decide +kernel
theorem dX4_readNumber_25 : decode cX4_readNumber 25 = .ok (.getfield 15, 3) := by decide +kernel
theorem dX4_readNumber_28 : decode cX4_readNumber 28 = .ok (.aload_n 0, 1) := by decide +kernel
theorem dX4_readNumber_29 : decode cX4_readNumber 29 = .ok (.getfield 19, 3) := by decide +kernel
theorem dX4_readNumber_32 : decode cX4_readNumber 32 = .ok (.invokevirtual 96, 3) := by decide +kernel
theorem dX4_readNumber_35 : decode cX4_readNumber 35 = .ok (.ifCond .eq 42, 3) := by decide +kernel
theorem dX4_readNumber_38 : decode cX4_readNumber 38 = .ok (.aload_n 0, 1) := by decide +kernel
theorem dX4_readNumber_39 : decode cX4_readNumber 39 = .ok (.aload_n 0, 1) := by decide +kernel
theorem dX4_readNumber_40 : decode cX4_readNumber 40 = .ok (.getfield 80, 3) := by decide +kernel
theorem dX4_readNumber_43 : decode cX4_readNumber 43 = .ok (.bipush 10, 2) := by decide +kernel
theorem dX4_readNumber_45 : decode cX4_readNumber 45 = .ok (.imul, 1) := by decide +kernel
theorem dX4_readNumber_46 : decode cX4_readNumber 46 = .ok (.aload_n 0, 1) := by decide +kernel
theorem dX4_readNumber_47 : decode cX4_readNumber 47 = .ok (.getfield 15, 3) := by decide +kernel
theorem dX4_readNumber_50 : decode cX4_readNumber 50 = .ok (.aload_n 0, 1) := by decide +kernel
theorem dX4_readNumber_51 : decode cX4_readNumber 51 = .ok (.getfield 19, 3) := by decide +kernel
theorem dX4_readNumber_54 : decode cX4_readNumber 54 = .ok (.invokevirtual 88, 3) := by decide +kernel
theorem dX4_readNumber_57 : decode cX4_readNumber 57 = .ok (.bipush 48, 2) := by decide +kernel
theorem dX4_readNumber_59 : decode cX4_readNumber 59 = .ok (.isub, 1) := by decide +kernel
theorem dX4_readNumber_60 : decode cX4_readNumber 60 = .ok (.iadd, 1) := by decide +kernel
theorem dX4_readNumber_61 : decode cX4_readNumber 61 = .ok (.putfield 80, 3) := by decide +kernel
theorem dX4_readNumber_64 : decode cX4_readNumber 64 = .ok (.aload_n 0, 1) := by decide +kernel
theorem dX4_readNumber_65 : decode cX4_readNumber 65 = .ok (.dup, 1) := by decide +kernel
theorem dX4_readNumber_66 : decode cX4_readNumber 66 = .ok (.getfield 19, 3) := by decide +kernel
theorem dX4_readNumber_69 : decode cX4_readNumber 69 = .ok (.iconst 1, 1) := by decide +kernel
theorem dX4_readNumber_70 : decode cX4_readNumber 70 = .ok (.iadd, 1) := by decide +kernel
theorem dX4_readNumber_71 : decode cX4_readNumber 71 = .ok (.putfield 19, 3) := by decide +kernel
theorem dX4_readNumber_74 : decode cX4_readNumber 74 = .ok (.goto (-64), 3) := by decide +kernel
theorem dX4_readNumber_77 : decode cX4_readNumber 77 = .ok (.aload_n 0, 1) := by decide +kernel
theorem dX4_readNumber_78 : decode cX4_readNumber 78 = .ok (.getfield 19, 3) := by decide +kernel
theorem dX4_readNumber_81 : decode cX4_readNumber 81 = .ok (.aload_n 0, 1) := by decide +kernel
theorem dX4_readNumber_82 : decode cX4_readNumber 82 = .ok (.getfield 67, 3) := by decide +kernel
theorem dX4_readNumber_85 : decode cX4_readNumber 85 = .ok (.isub, 1) := by decide +kernel
theorem dX4_readNumber_86 : decode cX4_readNumber 86 = .ok (.iconst 2, 1) := by decide +kernel
theorem dX4_readNumber_87 : decode cX4_readNumber 87 = .ok (.if_icmp .le 15, 3) := by decide +kernel
theorem dX4_readNumber_90 : decode cX4_readNumber 90 = .ok (.aload_n 0, 1) := by decide +kernel
theorem dX4_readNumber_91 : decode cX4_readNumber 91 = .ok (.iconst 1, 1) := by decide +kernel
theorem dX4_readNumber_92 : decode cX4_readNumber 92 = .ok (.aload_n 0, 1) := by decide +kernel
theorem dX4_readNumber_93 : decode cX4_readNumber 93 = .ok (.getfield 67, 3) := by decide +kernel
theorem dX4_readNumber_96 : decode cX4_readNumber 96 = .ok (.invokevirtual 70, 3) := by decide +kernel
theorem dX4_readNumber_99 : decode cX4_readNumber 99 = .ok (.ifCond .eq 7, 3) := by decide +kernel
theorem dX4_readNumber_102 : decode cX4_readNumber 102 = .ok (.iconst 1, 1) := by decide +kernel
theorem dX4_readNumber_103 : decode cX4_readNumber 103 = .ok (.goto 4, 3) := by decide +kernel
theorem dX4_readNumber_106 : decode cX4_readNumber 106 = .ok (.iconst 0, 1) := by decide +kernel
theorem dX4_readNumber_107 : decode cX4_readNumber 107 = .ok (.ireturn, 1) := by decide +kernel
theorem dX4_passBlanks_0 : decode cX4_passBlanks 0 = .ok (.aload_n 0, 1) := by decide +kernel
theorem dX4_passBlanks_1 : decode cX4_passBlanks 1 = .ok (.getfield 19, 3) := by decide +kernel
theorem dX4_passBlanks_4 : decode cX4_passBlanks 4 = .ok (.aload_n 0, 1) := by decide +kernel
theorem dX4_passBlanks_5 : decode cX4_passBlanks 5 = .ok (.getfield 15, 3) := by decide +kernel
theorem dX4_passBlanks_8 : decode cX4_passBlanks 8 = .ok (.getfield 32, 3) := by decide +kernel
theorem dX4_passBlanks_11 : decode cX4_passBlanks 11 = .ok (.if_icmp .ge 32, 3) := by decide +kernel
theorem dX4_passBlanks_14 : decode cX4_passBlanks 14 = .ok (.aload_n 0, 1) := by decide +kernel
theorem dX4_passBlanks_15 : decode cX4_passBlanks 15 = .ok (.getfield 15, 3) := by decide +kernel
theorem dX4_passBlanks_18 : decode cX4_passBlanks 18 = .ok (.aload_n 0, 1) := by decide +kernel
theorem dX4_passBlanks_19 : decode cX4_passBlanks 19 = .ok (.getfield 19, 3) := by decide +kernel
theorem dX4_passBlanks_22 : decode cX4_passBlanks 22 = .ok (.invokevirtual 88, 3) := by decide +kernel
theorem dX4_passBlanks_25 : decode cX4_passBlanks 25 = .ok (.bipush 32, 2) := by decide +kernel
theorem dX4_passBlanks_27 : decode cX4_passBlanks 27 = .ok (.if_icmp .ne 16, 3) := by decide +kernel
theorem dX4_passBlanks_30 : decode cX4_passBlanks 30 = .ok (.aload_n 0, 1) := by decide +kernel
theorem dX4_passBlanks_31 : decode cX4_passBlanks 31 = .ok (.dup, 1) := by decide +kernel
theorem dX4_passBlanks_32 : decode cX4_passBlanks 32 = .ok (.getfield 19, 3) := by decide +kernel
theorem dX4_passBlanks_35 : decode cX4_passBlanks 35 = .ok (.iconst 1, 1) := by decide +kernel
theorem dX4_passBlanks_36 : decode cX4_passBlanks 36 = .ok (.iadd, 1) := by decide +kernel
theorem dX4_passBlanks_37 : decode cX4_passBlanks 37 = .ok (.putfield 19, 3) := by decide +kernel
theorem dX4_passBlanks_40 : decode cX4_passBlanks 40 = .ok (.goto (-40), 3) := by decide +kernel
theorem dX4_passBlanks_43 : decode cX4_passBlanks 43 = .ok (.return_, 1) := by decide +kernel
theorem dX5_init_0 : decode cX5_init 0 = .ok (.aload_n 0, 1) := by decide +kernel
theorem dX5_init_1 : decode cX5_init 1 = .ok (.invokespecial 3, 3) := by decide +kernel
theorem dX5_init_4 : decode cX5_init 4 = .ok (.aload_n 0, 1) := by decide +kernel
theorem dX5_init_5 : decode cX5_init 5 = .ok (.sipush 200, 3) := by decide +kernel
theorem dX5_init_8 : decode cX5_init 8 = .ok (.newarray .int, 2) := by decide +kernel
theorem dX5_init_10 : decode cX5_init 10 = .ok (.putfield 9, 3) := by decide +kernel
theorem dX5_init_13 : decode cX5_init 13 = .ok (.return_, 1) := by decide +kernel
theorem dX5_append_0 : decode cX5_append 0 = .ok (.aload_n 0, 1) := by decide +kernel
theorem dX5_append_1 : decode cX5_append 1 = .ok (.getfield 15, 3) := by decide +kernel
theorem dX5_append_4 : decode cX5_append 4 = .ok (.ifCond .lt 15, 3) := by decide +kernel
theorem dX5_append_7 : decode cX5_append 7 = .ok (.aload_n 0, 1) := by decide +kernel
theorem dX5_append_8 : decode cX5_append 8 = .ok (.getfield 15, 3) := by decide +kernel
theorem dX5_append_11 : decode cX5_append 11 = .ok (.aload_n 0, 1) := by decide +kernel
theorem dX5_append_12 : decode cX5_append 12 = .ok (.getfield 9, 3) := by decide +kernel
theorem dX5_append_15 : decode cX5_append 15 = .ok (.arraylength, 1) := by decide +kernel
theorem dX5_append_16 : decode cX5_append 16 = .ok (.if_icmp .lt 5, 3) := by decide +kernel
theorem dX5_append_19 : decode cX5_append 19 = .ok (.iconst 0, 1) := by decide +kernel
theorem dX5_append_20 : decode cX5_append 20 = .ok (.ireturn, 1) := by decide +kernel
theorem dX5_append_21 : decode cX5_append 21 = .ok (.aload_n 0, 1) := by decide +kernel
theorem dX5_append_22 : decode cX5_append 22 = .ok (.getfield 9, 3) := by decide +kernel
theorem dX5_append_25 : decode cX5_append 25 = .ok (.aload_n 0, 1) := by decide +kernel
theorem dX5_append_26 : decode cX5_append 26 = .ok (.getfield 15, 3) := by decide +kernel
theorem dX5_append_29 : decode cX5_append 29 = .ok (.iload_n 1, 1) := by decide +kernel
theorem dX5_append_30 : decode cX5_append 30 = .ok (.iastore, 1) := by decide +kernel
theorem dX5_append_31 : decode cX5_append 31 = .ok (.aload_n 0, 1) := by decide +kernel
theorem dX5_append_32 : decode cX5_append 32 = .ok (.dup, 1) := by decide +kernel
theorem dX5_append_33 : decode cX5_append 33 = .ok (.getfield 15, 3) := by decide +kernel
theorem dX5_append_36 : decode cX5_append 36 = .ok (.iconst 1, 1) := by decide +kernel
theorem dX5_append_37 : decode cX5_append 37 = .ok (.iadd, 1) := by decide +kernel
theorem dX5_append_38 : decode cX5_append 38 = .ok (.putfield 15, 3) := by decide +kernel
theorem dX5_append_41 : decode cX5_append 41 = .ok (.iconst 1, 1) := by decide +kernel
theorem dX5_append_42 : decode cX5_append 42 = .ok (.ireturn, 1) := by decide +kernel
theorem dX5_byteAt_0 : decode cX5_byteAt 0 = .ok (.iload_n 1, 1) := by decide +kernel
theorem dX5_byteAt_1 : decode cX5_byteAt 1 = .ok (.ifCond .lt 29, 3) := by decide +kernel
theorem dX5_byteAt_4 : decode cX5_byteAt 4 = .ok (.iload_n 1, 1) := by decide +kernel
theorem dX5_byteAt_5 : decode cX5_byteAt 5 = .ok (.aload_n 0, 1) := by decide +kernel
theorem dX5_byteAt_6 : decode cX5_byteAt 6 = .ok (.getfield 15, 3) := by decide +kernel
theorem dX5_byteAt_9 : decode cX5_byteAt 9 = .ok (.if_icmp .ge 21, 3) := by decide +kernel
theorem dX5_byteAt_12 : decode cX5_byteAt 12 = .ok (.iload_n 1, 1) := by decide +kernel
theorem dX5_byteAt_13 : decode cX5_byteAt 13 = .ok (.aload_n 0, 1) := by decide +kernel
theorem dX5_byteAt_14 : decode cX5_byteAt 14 = .ok (.getfield 9, 3) := by decide +kernel
theorem dX5_byteAt_17 : decode cX5_byteAt 17 = .ok (.arraylength, 1) := by decide +kernel
theorem dX5_byteAt_18 : decode cX5_byteAt 18 = .ok (.if_icmp .ge 12, 3) := by decide +kernel
theorem dX5_byteAt_21 : decode cX5_byteAt 21 = .ok (.aload_n 0, 1) := by decide +kernel
theorem dX5_byteAt_22 : decode cX5_byteAt 22 = .ok (.getfield 9, 3) := by decide +kernel
theorem dX5_byteAt_25 : decode cX5_byteAt 25 = .ok (.iload_n 1, 1) := by decide +kernel
theorem dX5_byteAt_26 : decode cX5_byteAt 26 = .ok (.iaload, 1) := by decide +kernel
theorem dX5_byteAt_27 : decode cX5_byteAt 27 = .ok (.goto 5, 3) := by decide +kernel
theorem dX5_byteAt_30 : decode cX5_byteAt 30 = .ok (.bipush (-4), 2) := by decide +kernel
theorem dX5_byteAt_32 : decode cX5_byteAt 32 = .ok (.ireturn, 1) := by decide +kernel
theorem dX5_hasLetterAt_0 : decode cX5_hasLetterAt 0 = .ok (.aload_n 0, 1) := by decide +kernel
theorem dX5_hasLetterAt_1 : decode cX5_hasLetterAt 1 = .ok (.iload_n 1, 1) := by decide +kernel
theorem dX5_hasLetterAt_2 : decode cX5_hasLetterAt 2 = .ok (.invokevirtual 19, 3) := by decide +kernel
theorem dX5_hasLetterAt_5 : decode cX5_hasLetterAt 5 = .ok (.istore_n 2, 1) := by decide +kernel
theorem dX5_hasLetterAt_6 : decode cX5_hasLetterAt 6 = .ok (.iload_n 2, 1) := by decide +kernel
theorem dX5_hasLetterAt_7 : decode cX5_hasLetterAt 7 = .ok (.bipush 97, 2) := by decide +kernel
theorem dX5_hasLetterAt_9 : decode cX5_hasLetterAt 9 = .ok (.if_icmp .lt 13, 3) := by decide +kernel
theorem dX5_hasLetterAt_12 : decode cX5_hasLetterAt 12 = .ok (.iload_n 2, 1) := by decide +kernel
theorem dX5_hasLetterAt_13 : decode cX5_hasLetterAt 13 = .ok (.bipush 122, 2) := by decide +kernel
theorem dX5_hasLetterAt_15 : decode cX5_hasLetterAt 15 = .ok (.if_icmp .gt 7, 3) := by decide +kernel
theorem dX5_hasLetterAt_18 : decode cX5_hasLetterAt 18 = .ok (.iconst 1, 1) := by decide +kernel
theorem dX5_hasLetterAt_19 : decode cX5_hasLetterAt 19 = .ok (.goto 4, 3) := by decide +kernel
theorem dX5_hasLetterAt_22 : decode cX5_hasLetterAt 22 = .ok (.iconst 0, 1) := by decide +kernel
theorem dX5_hasLetterAt_23 : decode cX5_hasLetterAt 23 = .ok (.ireturn, 1) := by decide +kernel
theorem dX5_hasFigureAt_0 : decode cX5_hasFigureAt 0 = .ok (.aload_n 0, 1) := by decide +kernel
theorem dX5_hasFigureAt_1 : decode cX5_hasFigureAt 1 = .ok (.iload_n 1, 1) := by decide +kernel
theorem dX5_hasFigureAt_2 : decode cX5_hasFigureAt 2 = .ok (.invokevirtual 19, 3) := by decide +kernel
theorem dX5_hasFigureAt_5 : decode cX5_hasFigureAt 5 = .ok (.istore_n 2, 1) := by decide +kernel
theorem dX5_hasFigureAt_6 : decode cX5_hasFigureAt 6 = .ok (.iload_n 2, 1) := by decide +kernel
theorem dX5_hasFigureAt_7 : decode cX5_hasFigureAt 7 = .ok (.bipush 48, 2) := by decide +kernel
theorem dX5_hasFigureAt_9 : decode cX5_hasFigureAt 9 = .ok (.if_icmp .lt 13, 3) := by decide +kernel
theorem dX5_hasFigureAt_12 : decode cX5_hasFigureAt 12 = .ok (.iload_n 2, 1) := by decide +kernel
theorem dX5_hasFigureAt_13 : decode cX5_hasFigureAt 13 = .ok (.bipush 57, 2) := by decide +kernel
theorem dX5_hasFigureAt_15 : decode cX5_hasFigureAt 15 = .ok (.if_icmp .gt 7, 3) := by decide +kernel
theorem dX5_hasFigureAt_18 : decode cX5_hasFigureAt 18 = .ok (.iconst 1, 1) := by decide +kernel
theorem dX5_hasFigureAt_19 : decode cX5_hasFigureAt 19 = .ok (.goto 4, 3) := by decide +kernel
theorem dX5_hasFigureAt_22 : decode cX5_hasFigureAt 22 = .ok (.iconst 0, 1) := by decide +kernel
theorem dX5_hasFigureAt_23 : decode cX5_hasFigureAt 23 = .ok (.ireturn, 1) := by decide +kernel
theorem dX6_init_0 : decode cX6_init 0 = .ok (.aload_n 0, 1) := by decide +kernel
theorem dX6_init_1 : decode cX6_init 1 = .ok (.invokespecial 3, 3) := by decide +kernel
theorem dX6_init_4 : decode cX6_init 4 = .ok (.aload_n 0, 1) := by decide +kernel
theorem dX6_init_5 : decode cX6_init 5 = .ok (.new 9, 3) := by decide +kernel
theorem dX6_init_8 : decode cX6_init 8 = .ok (.dup, 1) := by decide +kernel
theorem dX6_init_9 : decode cX6_init 9 = .ok (.invokespecial 11, 3) := by decide +kernel
theorem dX6_init_12 : decode cX6_init 12 = .ok (.putfield 12, 3) := by decide +kernel
theorem dX6_init_15 : decode cX6_init 15 = .ok (.aload_n 0, 1) := by decide +kernel
theorem dX6_init_16 : decode cX6_init 16 = .ok (.new 18, 3) := by decide +kernel
theorem dX6_init_19 : decode cX6_init 19 = .ok (.dup, 1) := by decide +kernel
theorem dX6_init_20 : decode cX6_init 20 = .ok (.aload_n 0, 1) := by decide +kernel
theorem dX6_init_21 : decode cX6_init 21 = .ok (.getfield 12, 3) := by decide +kernel
theorem dX6_init_24 : decode cX6_init 24 = .ok (.invokespecial 20, 3) := by decide +kernel
theorem dX6_init_27 : decode cX6_init 27 = .ok (.putfield 23, 3) := by decide +kernel
theorem dX6_init_30 : decode cX6_init 30 = .ok (.aload_n 0, 1) := by decide +kernel
theorem dX6_init_31 : decode cX6_init 31 = .ok (.new 18, 3) := by decide +kernel
theorem dX6_init_34 : decode cX6_init 34 = .ok (.dup, 1) := by decide +kernel
theorem dX6_init_35 : decode cX6_init 35 = .ok (.aload_n 0, 1) := by decide +kernel
theorem dX6_init_36 : decode cX6_init 36 = .ok (.getfield 12, 3) := by decide +kernel
theorem dX6_init_39 : decode cX6_init 39 = .ok (.invokespecial 20, 3) := by decide +kernel
theorem dX6_init_42 : decode cX6_init 42 = .ok (.putfield 27, 3) := by decide +kernel
theorem dX6_init_45 : decode cX6_init 45 = .ok (.aload_n 0, 1) := by decide +kernel
theorem dX6_init_46 : decode cX6_init 46 = .ok (.new 30, 3) := by decide +kernel
theorem dX6_init_49 : decode cX6_init 49 = .ok (.dup, 1) := by decide +kernel
theorem dX6_init_50 : decode cX6_init 50 = .ok (.aload_n 0, 1) := by decide +kernel
theorem dX6_init_51 : decode cX6_init 51 = .ok (.getfield 12, 3) := by decide +kernel
theorem dX6_init_54 : decode cX6_init 54 = .ok (.invokespecial 32, 3) := by decide +kernel
theorem dX6_init_57 : decode cX6_init 57 = .ok (.putfield 33, 3) := by decide +kernel
theorem dX6_init_60 : decode cX6_init 60 = .ok (.return_, 1) := by decide +kernel
theorem dX6_startAnew_0 : decode cX6_startAnew 0 = .ok (.aload_n 0, 1) := by decide +kernel
theorem dX6_startAnew_1 : decode cX6_startAnew 1 = .ok (.getfield 12, 3) := by decide +kernel
theorem dX6_startAnew_4 : decode cX6_startAnew 4 = .ok (.aload_n 1, 1) := by decide +kernel
theorem dX6_startAnew_5 : decode cX6_startAnew 5 = .ok (.invokevirtual 37, 3) := by decide +kernel
theorem dX6_startAnew_8 : decode cX6_startAnew 8 = .ok (.aload_n 0, 1) := by decide +kernel
theorem dX6_startAnew_9 : decode cX6_startAnew 9 = .ok (.getfield 33, 3) := by decide +kernel
theorem dX6_startAnew_12 : decode cX6_startAnew 12 = .ok (.invokevirtual 41, 3) := by decide +kernel
theorem dX6_startAnew_15 : decode cX6_startAnew 15 = .ok (.aload_n 0, 1) := by decide +kernel
theorem dX6_startAnew_16 : decode cX6_startAnew 16 = .ok (.getfield 33, 3) := by decide +kernel
theorem dX6_startAnew_19 : decode cX6_startAnew 19 = .ok (.iconst 0, 1) := by decide +kernel
theorem dX6_startAnew_20 : decode cX6_startAnew 20 = .ok (.iconst 1, 1) := by decide +kernel
theorem dX6_startAnew_21 : decode cX6_startAnew 21 = .ok (.bipush (-4), 2) := by decide +kernel
theorem dX6_startAnew_23 : decode cX6_startAnew 23 = .ok (.bipush (-4), 2) := by decide +kernel
theorem dX6_startAnew_25 : decode cX6_startAnew 25 = .ok (.invokevirtual 44, 3) := by decide +kernel
theorem dX6_startAnew_28 : decode cX6_startAnew 28 = .ok (.aload_n 0, 1) := by decide +kernel
theorem dX6_startAnew_29 : decode cX6_startAnew 29 = .ok (.getfield 33, 3) := by decide +kernel
theorem dX6_startAnew_32 : decode cX6_startAnew 32 = .ok (.iconst 0, 1) := by decide +kernel
theorem dX6_startAnew_33 : decode cX6_startAnew 33 = .ok (.iconst 1, 1) := by decide +kernel
theorem dX6_startAnew_34 : decode cX6_startAnew 34 = .ok (.iconst 0, 1) := by decide +kernel
theorem dX6_startAnew_35 : decode cX6_startAnew 35 = .ok (.invokevirtual 48, 3) := by decide +kernel
theorem dX6_startAnew_38 : decode cX6_startAnew 38 = .ok (.aload_n 0, 1) := by decide +kernel
theorem dX6_startAnew_39 : decode cX6_startAnew 39 = .ok (.invokevirtual 52, 3) := by decide +kernel
theorem dX6_startAnew_42 : decode cX6_startAnew 42 = .ok (.aload_n 0, 1) := by decide +kernel
theorem dX6_startAnew_43 : decode cX6_startAnew 43 = .ok (.iconst 0, 1) := by decide +kernel
theorem dX6_startAnew_44 : decode cX6_startAnew 44 = .ok (.putfield 55, 3) := by decide +kernel
theorem dX6_startAnew_47 : decode cX6_startAnew 47 = .ok (.aload_n 0, 1) := by decide +kernel
theorem dX6_startAnew_48 : decode cX6_startAnew 48 = .ok (.iconst 0, 1) := by decide +kernel
theorem dX6_startAnew_49 : decode cX6_startAnew 49 = .ok (.putfield 59, 3) := by decide +kernel
theorem dX6_startAnew_52 : decode cX6_startAnew 52 = .ok (.return_, 1) := by decide +kernel
theorem dX6_copyFrom_0 : decode cX6_copyFrom 0 = .ok (.aload_n 0, 1) := by decide +kernel
theorem dX6_copyFrom_1 : decode cX6_copyFrom 1 = .ok (.getfield 12, 3) := by decide +kernel
theorem dX6_copyFrom_4 : decode cX6_copyFrom 4 = .ok (.aload_n 1, 1) := by decide +kernel
theorem dX6_copyFrom_5 : decode cX6_copyFrom 5 = .ok (.getfield 12, 3) := by decide +kernel
theorem dX6_copyFrom_8 : decode cX6_copyFrom 8 = .ok (.invokevirtual 62, 3) := by decide +kernel
theorem dX6_copyFrom_11 : decode cX6_copyFrom 11 = .ok (.aload_n 0, 1) := by decide +kernel
theorem dX6_copyFrom_12 : decode cX6_copyFrom 12 = .ok (.getfield 23, 3) := by decide +kernel
theorem dX6_copyFrom_15 : decode cX6_copyFrom 15 = .ok (.aload_n 1, 1) := by decide +kernel
theorem dX6_copyFrom_16 : decode cX6_copyFrom 16 = .ok (.getfield 23, 3) := by decide +kernel
theorem dX6_copyFrom_19 : decode cX6_copyFrom 19 = .ok (.invokevirtual 65, 3) := by decide +kernel
theorem dX6_copyFrom_22 : decode cX6_copyFrom 22 = .ok (.aload_n 0, 1) := by decide +kernel
theorem dX6_copyFrom_23 : decode cX6_copyFrom 23 = .ok (.getfield 33, 3) := by decide +kernel
theorem dX6_copyFrom_26 : decode cX6_copyFrom 26 = .ok (.aload_n 1, 1) := by decide +kernel
theorem dX6_copyFrom_27 : decode cX6_copyFrom 27 = .ok (.getfield 33, 3) := by decide +kernel
theorem dX6_copyFrom_30 : decode cX6_copyFrom 30 = .ok (.invokevirtual 68, 3) := by decide +kernel
theorem dX6_copyFrom_33 : decode cX6_copyFrom 33 = .ok (.aload_n 0, 1) := by decide +kernel
theorem dX6_copyFrom_34 : decode cX6_copyFrom 34 = .ok (.aload_n 1, 1) := by decide +kernel
theorem dX6_copyFrom_35 : decode cX6_copyFrom 35 = .ok (.getfield 55, 3) := by decide +kernel
theorem dX6_copyFrom_38 : decode cX6_copyFrom 38 = .ok (.putfield 55, 3) := by decide +kernel
theorem dX6_copyFrom_41 : decode cX6_copyFrom 41 = .ok (.aload_n 0, 1) := by decide +kernel
theorem dX6_copyFrom_42 : decode cX6_copyFrom 42 = .ok (.aload_n 1, 1) := by decide +kernel
theorem dX6_copyFrom_43 : decode cX6_copyFrom 43 = .ok (.getfield 59, 3) := by decide +kernel
theorem dX6_copyFrom_46 : decode cX6_copyFrom 46 = .ok (.putfield 59, 3) := by decide +kernel
theorem dX6_copyFrom_49 : decode cX6_copyFrom 49 = .ok (.return_, 1) := by decide +kernel
theorem dX6_putAllOf_0 : decode cX6_putAllOf 0 = .ok (.iload_n 2, 1) := by decide +kernel
theorem dX6_putAllOf_1 : decode cX6_putAllOf 1 = .ok (.istore 5, 2) := by decide +kernel
theorem dX6_putAllOf_3 : decode cX6_putAllOf 3 = .ok (.iload 5, 2) := by decide +kernel
theorem dX6_putAllOf_5 : decode cX6_putAllOf 5 = .ok (.aload_n 0, 1) := by decide +kernel
theorem dX6_putAllOf_6 : decode cX6_putAllOf 6 = .ok (.getfield 33, 3) := by decide +kernel
theorem dX6_putAllOf_9 : decode cX6_putAllOf 9 = .ok (.iload_n 1, 1) := by decide +kernel
theorem dX6_putAllOf_10 : decode cX6_putAllOf 10 = .ok (.invokevirtual 71, 3) := by decide +kernel
theorem dX6_putAllOf_13 : decode cX6_putAllOf 13 = .ok (.if_icmp .ge 28, 3) := by decide +kernel
theorem dX6_putAllOf_16 : decode cX6_putAllOf 16 = .ok (.aload_n 3, 1) := by decide +kernel
theorem dX6_putAllOf_17 : decode cX6_putAllOf 17 = .ok (.aload_n 0, 1) := by decide +kernel
theorem dX6_putAllOf_18 : decode cX6_putAllOf 18 = .ok (.getfield 33, 3) := by decide +kernel
theorem dX6_putAllOf_21 : decode cX6_putAllOf 21 = .ok (.iload_n 1, 1) := by decide +kernel
theorem dX6_putAllOf_22 : decode cX6_putAllOf 22 = .ok (.iload 5, 2) := by decide +kernel
theorem dX6_putAllOf_24 : decode cX6_putAllOf 24 = .ok (.invokevirtual 75, 3) := by decide +kernel
theorem dX6_putAllOf_27 : decode cX6_putAllOf 27 = .ok (.iconst 4, 1) := by decide +kernel
theorem dX6_putAllOf_28 : decode cX6_putAllOf 28 = .ok (.imul, 1) := by decide +kernel
theorem dX6_putAllOf_29 : decode cX6_putAllOf 29 = .ok (.iconst 4, 1) := by decide +kernel
theorem dX6_putAllOf_30 : decode cX6_putAllOf 30 = .ok (.iload 4, 2) := by decide +kernel
theorem dX6_putAllOf_32 : decode cX6_putAllOf 32 = .ok (.invokevirtual 79, 3) := by decide +kernel
theorem dX6_putAllOf_35 : decode cX6_putAllOf 35 = .ok (.iinc 5 1, 3) := by decide +kernel
theorem dX6_putAllOf_38 : decode cX6_putAllOf 38 = .ok (.goto (-35), 3) := by decide +kernel
theorem dX6_putAllOf_41 : decode cX6_putAllOf 41 = .ok (.aload_n 3, 1) := by decide +kernel
theorem dX6_putAllOf_42 : decode cX6_putAllOf 42 = .ok (.aload_n 0, 1) := by decide +kernel
theorem dX6_putAllOf_43 : decode cX6_putAllOf 43 = .ok (.getfield 33, 3) := by decide +kernel
theorem dX6_putAllOf_46 : decode cX6_putAllOf 46 = .ok (.iload_n 1, 1) := by decide +kernel
theorem dX6_putAllOf_47 : decode cX6_putAllOf 47 = .ok (.invokevirtual 83, 3) := by decide +kernel
theorem dX6_putAllOf_50 : decode cX6_putAllOf 50 = .ok (.aload_n 0, 1) := by decide +kernel
theorem dX6_putAllOf_51 : decode cX6_putAllOf 51 = .ok (.getfield 33, 3) := by decide +kernel
theorem dX6_putAllOf_54 : decode cX6_putAllOf 54 = .ok (.iload_n 1, 1) := by decide +kernel
theorem dX6_putAllOf_55 : decode cX6_putAllOf 55 = .ok (.invokevirtual 86, 3) := by decide +kernel
theorem dX6_putAllOf_58 : decode cX6_putAllOf 58 = .ok (.iload 4, 2) := by decide +kernel
theorem dX6_putAllOf_60 : decode cX6_putAllOf 60 = .ok (.invokevirtual 79, 3) := by decide +kernel
theorem dX6_putAllOf_63 : decode cX6_putAllOf 63 = .ok (.return_, 1) := by decide +kernel
theorem dX6_findMapDue_0 : decode cX6_findMapDue 0 = .ok (.aload_n 0, 1) := by decide +kernel
theorem dX6_findMapDue_1 : decode cX6_findMapDue 1 = .ok (.getfield 27, 3) := by decide +kernel
theorem dX6_findMapDue_4 : decode cX6_findMapDue 4 = .ok (.invokevirtual 89, 3) := by decide +kernel
theorem dX6_findMapDue_7 : decode cX6_findMapDue 7 = .ok (.iconst 0, 1) := by decide +kernel
theorem dX6_findMapDue_8 : decode cX6_findMapDue 8 = .ok (.istore_n 1, 1) := by decide +kernel
theorem dX6_findMapDue_9 : decode cX6_findMapDue 9 = .ok (.iload_n 1, 1) := by decide +kernel
theorem dX6_findMapDue_10 : decode cX6_findMapDue 10 = .ok (.aload_n 0, 1) := by decide +kernel
theorem dX6_findMapDue_11 : decode cX6_findMapDue 11 = .ok (.getfield 12, 3) := by decide +kernel
theorem dX6_findMapDue_14 : decode cX6_findMapDue 14 = .ok (.invokevirtual 92, 3) := by decide +kernel
theorem dX6_findMapDue_17 : decode cX6_findMapDue 17 = .ok (.if_icmp .ge 20, 3) := by decide +kernel
theorem dX6_findMapDue_20 : decode cX6_findMapDue 20 = .ok (.aload_n 0, 1) := by decide +kernel
theorem dX6_findMapDue_21 : decode cX6_findMapDue 21 = .ok (.iload_n 1, 1) := by decide +kernel
theorem dX6_findMapDue_22 : decode cX6_findMapDue 22 = .ok (.iconst 0, 1) := by decide +kernel
theorem dX6_findMapDue_23 : decode cX6_findMapDue 23 = .ok (.aload_n 0, 1) := by decide +kernel
theorem dX6_findMapDue_24 : decode cX6_findMapDue 24 = .ok (.getfield 27, 3) := by decide +kernel
theorem dX6_findMapDue_27 : decode cX6_findMapDue 27 = .ok (.iconst 0, 1) := by decide +kernel
theorem dX6_findMapDue_28 : decode cX6_findMapDue 28 = .ok (.invokevirtual 96, 3) := by decide +kernel
theorem dX6_findMapDue_31 : decode cX6_findMapDue 31 = .ok (.iinc 1 1, 3) := by decide +kernel
theorem dX6_findMapDue_34 : decode cX6_findMapDue 34 = .ok (.goto (-25), 3) := by decide +kernel
theorem dX6_findMapDue_37 : decode cX6_findMapDue 37 = .ok (.return_, 1) := by decide +kernel
theorem dX6_isSpoilt_0 : decode cX6_isSpoilt 0 = .ok (.aload_n 0, 1) := by decide +kernel
theorem dX6_isSpoilt_1 : decode cX6_isSpoilt 1 = .ok (.invokevirtual 100, 3) := by decide +kernel
theorem dX6_isSpoilt_4 : decode cX6_isSpoilt 4 = .ok (.iconst 0, 1) := by decide +kernel
theorem dX6_isSpoilt_5 : decode cX6_isSpoilt 5 = .ok (.istore_n 1, 1) := by decide +kernel
theorem dX6_isSpoilt_6 : decode cX6_isSpoilt 6 = .ok (.iload_n 1, 1) := by decide +kernel
theorem dX6_isSpoilt_7 : decode cX6_isSpoilt 7 = .ok (.bipush 32, 2) := by decide +kernel
theorem dX6_isSpoilt_9 : decode cX6_isSpoilt 9 = .ok (.if_icmp .ge 30, 3) := by decide +kernel
theorem dX6_isSpoilt_12 : decode cX6_isSpoilt 12 = .ok (.aload_n 0, 1) := by decide +kernel
theorem dX6_isSpoilt_13 : decode cX6_isSpoilt 13 = .ok (.getfield 23, 3) := by decide +kernel
theorem dX6_isSpoilt_16 : decode cX6_isSpoilt 16 = .ok (.iload_n 1, 1) := by decide +kernel
theorem dX6_isSpoilt_17 : decode cX6_isSpoilt 17 = .ok (.invokevirtual 103, 3) := by decide +kernel
theorem dX6_isSpoilt_20 : decode cX6_isSpoilt 20 = .ok (.aload_n 0, 1) := by decide +kernel
theorem dX6_isSpoilt_21 : decode cX6_isSpoilt 21 = .ok (.getfield 27, 3) := by decide +kernel
theorem dX6_isSpoilt_24 : decode cX6_isSpoilt 24 = .ok (.iload_n 1, 1) := by decide +kernel
theorem dX6_isSpoilt_25 : decode cX6_isSpoilt 25 = .ok (.invokevirtual 103, 3) := by decide +kernel
theorem dX6_isSpoilt_28 : decode cX6_isSpoilt 28 = .ok (.if_icmp .eq 5, 3) := by decide +kernel
theorem dX6_isSpoilt_31 : decode cX6_isSpoilt 31 = .ok (.iconst 1, 1) := by decide +kernel
theorem dX6_isSpoilt_32 : decode cX6_isSpoilt 32 = .ok (.ireturn, 1) := by decide +kernel
theorem dX6_isSpoilt_33 : decode cX6_isSpoilt 33 = .ok (.iinc 1 1, 3) := by decide +kernel
theorem dX6_isSpoilt_36 : decode cX6_isSpoilt 36 = .ok (.goto (-30), 3) := by decide +kernel
theorem dX6_isSpoilt_39 : decode cX6_isSpoilt 39 = .ok (.iconst 0, 1) := by decide +kernel
theorem dX6_isSpoilt_40 : decode cX6_isSpoilt 40 = .ok (.ireturn, 1) := by decide +kernel
theorem dX6_wrongs_0 : decode cX6_wrongs 0 = .ok (.aload_n 0, 1) := by decide +kernel
theorem dX6_wrongs_1 : decode cX6_wrongs 1 = .ok (.invokevirtual 100, 3) := by decide +kernel
theorem dX6_wrongs_4 : decode cX6_wrongs 4 = .ok (.iconst 0, 1) := by decide +kernel
theorem dX6_wrongs_5 : decode cX6_wrongs 5 = .ok (.istore_n 2, 1) := by decide +kernel
theorem dX6_wrongs_6 : decode cX6_wrongs 6 = .ok (.iconst 0, 1) := by decide +kernel
theorem dX6_wrongs_7 : decode cX6_wrongs 7 = .ok (.istore_n 3, 1) := by decide +kernel
theorem dX6_wrongs_8 : decode cX6_wrongs 8 = .ok (.iload_n 3, 1) := by decide +kernel
theorem dX6_wrongs_9 : decode cX6_wrongs 9 = .ok (.bipush 32, 2) := by decide +kernel
theorem dX6_wrongs_11 : decode cX6_wrongs 11 = .ok (.if_icmp .ge 64, 3) := by decide +kernel
theorem dX6_wrongs_14 : decode cX6_wrongs 14 = .ok (.iload_n 1, 1) := by decide +kernel
theorem dX6_wrongs_15 : decode cX6_wrongs 15 = .ok (.ifCond .eq 25, 3) := by decide +kernel
theorem dX6_wrongs_18 : decode cX6_wrongs 18 = .ok (.aload_n 0, 1) := by decide +kernel
theorem dX6_wrongs_19 : decode cX6_wrongs 19 = .ok (.getfield 23, 3) := by decide +kernel
theorem dX6_wrongs_22 : decode cX6_wrongs 22 = .ok (.iload_n 3, 1) := by decide +kernel
theorem dX6_wrongs_23 : decode cX6_wrongs 23 = .ok (.invokevirtual 103, 3) := by decide +kernel
theorem dX6_wrongs_26 : decode cX6_wrongs 26 = .ok (.aload_n 0, 1) := by decide +kernel
theorem dX6_wrongs_27 : decode cX6_wrongs 27 = .ok (.getfield 27, 3) := by decide +kernel
theorem dX6_wrongs_30 : decode cX6_wrongs 30 = .ok (.iload_n 3, 1) := by decide +kernel
theorem dX6_wrongs_31 : decode cX6_wrongs 31 = .ok (.invokevirtual 103, 3) := by decide +kernel
theorem dX6_wrongs_34 : decode cX6_wrongs 34 = .ok (.iconst (-1), 1) := by decide +kernel
theorem dX6_wrongs_35 : decode cX6_wrongs 35 = .ok (.ixor, 1) := by decide +kernel
theorem dX6_wrongs_36 : decode cX6_wrongs 36 = .ok (.iand, 1) := by decide +kernel
theorem dX6_wrongs_37 : decode cX6_wrongs 37 = .ok (.goto 22, 3) := by decide +kernel
theorem dX6_wrongs_40 : decode cX6_wrongs 40 = .ok (.aload_n 0, 1) := by decide +kernel
theorem dX6_wrongs_41 : decode cX6_wrongs 41 = .ok (.getfield 27, 3) := by decide +kernel
theorem dX6_wrongs_44 : decode cX6_wrongs 44 = .ok (.iload_n 3, 1) := by decide +kernel
theorem dX6_wrongs_45 : decode cX6_wrongs 45 = .ok (.invokevirtual 103, 3) := by decide +kernel
theorem dX6_wrongs_48 : decode cX6_wrongs 48 = .ok (.aload_n 0, 1) := by decide +kernel
theorem dX6_wrongs_49 : decode cX6_wrongs 49 = .ok (.getfield 23, 3) := by decide +kernel
theorem dX6_wrongs_52 : decode cX6_wrongs 52 = .ok (.iload_n 3, 1) := by decide +kernel
theorem dX6_wrongs_53 : decode cX6_wrongs 53 = .ok (.invokevirtual 103, 3) := by decide +kernel
theorem dX6_wrongs_56 : decode cX6_wrongs 56 = .ok (.iconst (-1), 1) := by decide +kernel
theorem dX6_wrongs_57 : decode cX6_wrongs 57 = .ok (.ixor, 1) := by decide +kernel
theorem dX6_wrongs_58 : decode cX6_wrongs 58 = .ok (.iand, 1) := by decide +kernel
theorem dX6_wrongs_59 : decode cX6_wrongs 59 = .ok (.istore 4, 2) := by decide +kernel
theorem dX6_wrongs_61 : decode cX6_wrongs 61 = .ok (.iload_n 2, 1) := by decide +kernel
theorem dX6_wrongs_62 : decode cX6_wrongs 62 = .ok (.iload 4, 2) := by decide +kernel
theorem dX6_wrongs_64 : decode cX6_wrongs 64 = .ok (.invokestatic 106, 3) := by decide +kernel
theorem dX6_wrongs_67 : decode cX6_wrongs 67 = .ok (.iadd, 1) := by decide +kernel
theorem dX6_wrongs_68 : decode cX6_wrongs 68 = .ok (.istore_n 2, 1) := by decide +kernel
theorem dX6_wrongs_69 : decode cX6_wrongs 69 = .ok (.iinc 3 1, 3) := by decide +kernel
theorem dX6_wrongs_72 : decode cX6_wrongs 72 = .ok (.goto (-64), 3) := by decide +kernel
theorem dX6_wrongs_75 : decode cX6_wrongs 75 = .ok (.iload_n 2, 1) := by decide +kernel
theorem dX6_wrongs_76 : decode cX6_wrongs 76 = .ok (.ireturn, 1) := by decide +kernel
theorem dX6_firstWrong_0 : decode cX6_firstWrong 0 = .ok (.aload_n 0, 1) := by decide +kernel
theorem dX6_firstWrong_1 : decode cX6_firstWrong 1 = .ok (.invokevirtual 100, 3) := by decide +kernel
theorem dX6_firstWrong_4 : decode cX6_firstWrong 4 = .ok (.iconst 0, 1) := by decide +kernel
theorem dX6_firstWrong_5 : decode cX6_firstWrong 5 = .ok (.istore_n 1, 1) := by decide +kernel
theorem dX6_firstWrong_6 : decode cX6_firstWrong 6 = .ok (.iload_n 1, 1) := by decide +kernel
theorem dX6_firstWrong_7 : decode cX6_firstWrong 7 = .ok (.aload_n 0, 1) := by decide +kernel
theorem dX6_firstWrong_8 : decode cX6_firstWrong 8 = .ok (.getfield 12, 3) := by decide +kernel
theorem dX6_firstWrong_11 : decode cX6_firstWrong 11 = .ok (.invokevirtual 111, 3) := by decide +kernel
theorem dX6_firstWrong_14 : decode cX6_firstWrong 14 = .ok (.iconst 4, 1) := by decide +kernel
theorem dX6_firstWrong_15 : decode cX6_firstWrong 15 = .ok (.imul, 1) := by decide +kernel
theorem dX6_firstWrong_16 : decode cX6_firstWrong 16 = .ok (.if_icmp .ge 30, 3) := by decide +kernel
theorem dX6_firstWrong_19 : decode cX6_firstWrong 19 = .ok (.aload_n 0, 1) := by decide +kernel
theorem dX6_firstWrong_20 : decode cX6_firstWrong 20 = .ok (.getfield 23, 3) := by decide +kernel
theorem dX6_firstWrong_23 : decode cX6_firstWrong 23 = .ok (.iload_n 1, 1) := by decide +kernel
theorem dX6_firstWrong_24 : decode cX6_firstWrong 24 = .ok (.invokevirtual 114, 3) := by decide +kernel
theorem dX6_firstWrong_27 : decode cX6_firstWrong 27 = .ok (.aload_n 0, 1) := by decide +kernel
theorem dX6_firstWrong_28 : decode cX6_firstWrong 28 = .ok (.getfield 27, 3) := by decide +kernel
theorem dX6_firstWrong_31 : decode cX6_firstWrong 31 = .ok (.iload_n 1, 1) := by decide +kernel
theorem dX6_firstWrong_32 : decode cX6_firstWrong 32 = .ok (.invokevirtual 114, 3) := by decide +kernel
theorem dX6_firstWrong_35 : decode cX6_firstWrong 35 = .ok (.if_icmp .eq 5, 3) := by decide +kernel
theorem dX6_firstWrong_38 : decode cX6_firstWrong 38 = .ok (.iload_n 1, 1) := by decide +kernel
theorem dX6_firstWrong_39 : decode cX6_firstWrong 39 = .ok (.ireturn, 1) := by decide +kernel
theorem dX6_firstWrong_40 : decode cX6_firstWrong 40 = .ok (.iinc 1 1, 3) := by decide +kernel
theorem dX6_firstWrong_43 : decode cX6_firstWrong 43 = .ok (.goto (-37), 3) := by decide +kernel
theorem dX6_firstWrong_46 : decode cX6_firstWrong 46 = .ok (.bipush (-4), 2) := by decide +kernel
theorem dX6_firstWrong_48 : decode cX6_firstWrong 48 = .ok (.ireturn, 1) := by decide +kernel
theorem dX6_mendMap_0 : decode cX6_mendMap 0 = .ok (.aload_n 0, 1) := by decide +kernel
theorem dX6_mendMap_1 : decode cX6_mendMap 1 = .ok (.invokevirtual 100, 3) := by decide +kernel
theorem dX6_mendMap_4 : decode cX6_mendMap 4 = .ok (.aload_n 0, 1) := by decide +kernel
theorem dX6_mendMap_5 : decode cX6_mendMap 5 = .ok (.getfield 23, 3) := by decide +kernel
theorem dX6_mendMap_8 : decode cX6_mendMap 8 = .ok (.aload_n 0, 1) := by decide +kernel
theorem dX6_mendMap_9 : decode cX6_mendMap 9 = .ok (.getfield 27, 3) := by decide +kernel
theorem dX6_mendMap_12 : decode cX6_mendMap 12 = .ok (.invokevirtual 65, 3) := by decide +kernel
theorem dX6_mendMap_15 : decode cX6_mendMap 15 = .ok (.return_, 1) := by decide +kernel
theorem dX6_groupFor_0 : decode cX6_groupFor 0 = .ok (.iload_n 2, 1) := by decide +kernel
theorem dX6_groupFor_1 : decode cX6_groupFor 1 = .ok (.iconst 1, 1) := by decide +kernel
theorem dX6_groupFor_2 : decode cX6_groupFor 2 = .ok (.if_icmp .ne 10, 3) := by decide +kernel
theorem dX6_groupFor_5 : decode cX6_groupFor 5 = .ok (.aload_n 0, 1) := by decide +kernel
theorem dX6_groupFor_6 : decode cX6_groupFor 6 = .ok (.invokevirtual 118, 3) := by decide +kernel
theorem dX6_groupFor_9 : decode cX6_groupFor 9 = .ok (.goto 8, 3) := by decide +kernel
theorem dX6_groupFor_12 : decode cX6_groupFor 12 = .ok (.aload_n 0, 1) := by decide +kernel
theorem dX6_groupFor_13 : decode cX6_groupFor 13 = .ok (.iload_n 1, 1) := by decide +kernel
theorem dX6_groupFor_14 : decode cX6_groupFor 14 = .ok (.invokevirtual 121, 3) := by decide +kernel
theorem dX6_groupFor_17 : decode cX6_groupFor 17 = .ok (.ireturn, 1) := by decide +kernel
theorem dX6_groupForDirectory_0 : decode cX6_groupForDirectory 0 = .ok (.bipush (-4), 2) := by decide +kernel
theorem dX6_groupForDirectory_2 : decode cX6_groupForDirectory 2 = .ok (.istore_n 1, 1) := by decide +kernel
theorem dX6_groupForDirectory_3 : decode cX6_groupForDirectory 3 = .ok (.iconst 0, 1) := by decide +kernel
theorem dX6_groupForDirectory_4 : decode cX6_groupForDirectory 4 = .ok (.istore_n 2, 1) := by decide +kernel
theorem dX6_groupForDirectory_5 : decode cX6_groupForDirectory 5 = .ok (.aload_n 0, 1) := by decide +kernel
theorem dX6_groupForDirectory_6 : decode cX6_groupForDirectory 6 = .ok (.getfield 33, 3) := by decide +kernel
theorem dX6_groupForDirectory_9 : decode cX6_groupForDirectory 9 = .ok (.iconst 0, 1) := by decide +kernel
theorem dX6_groupForDirectory_10 : decode cX6_groupForDirectory 10 = .ok (.invokevirtual 124, 3) := by decide +kernel
theorem dX6_groupForDirectory_13 : decode cX6_groupForDirectory 13 = .ok (.istore_n 3, 1) := by decide +kernel
theorem dX6_groupForDirectory_14 : decode cX6_groupForDirectory 14 = .ok (.iconst 0, 1) := by decide +kernel
theorem dX6_groupForDirectory_15 : decode cX6_groupForDirectory 15 = .ok (.istore 4, 2) := by decide +kernel
theorem dX6_groupForDirectory_17 : decode cX6_groupForDirectory 17 = .ok (.iload 4, 2) := by decide +kernel
theorem dX6_groupForDirectory_19 : decode cX6_groupForDirectory 19 = .ok (.aload_n 0, 1) := by decide +kernel
theorem dX6_groupForDirectory_20 : decode cX6_groupForDirectory 20 = .ok (.getfield 12, 3) := by decide +kernel
theorem dX6_groupForDirectory_23 : decode cX6_groupForDirectory 23 = .ok (.getfield 127, 3) := by decide +kernel
theorem dX6_groupForDirectory_26 : decode cX6_groupForDirectory 26 = .ok (.if_icmp .ge 82, 3) := by decide +kernel
theorem dX6_groupForDirectory_29 : decode cX6_groupForDirectory 29 = .ok (.aload_n 0, 1) := by decide +kernel
theorem dX6_groupForDirectory_30 : decode cX6_groupForDirectory 30 = .ok (.getfield 33, 3) := by decide +kernel
theorem dX6_groupForDirectory_33 : decode cX6_groupForDirectory 33 = .ok (.iload 4, 2) := by decide +kernel
theorem dX6_groupForDirectory_35 : decode cX6_groupForDirectory 35 = .ok (.iconst 0, 1) := by decide +kernel
theorem dX6_groupForDirectory_36 : decode cX6_groupForDirectory 36 = .ok (.invokevirtual 130, 3) := by decide +kernel
theorem dX6_groupForDirectory_39 : decode cX6_groupForDirectory 39 = .ok (.istore 5, 2) := by decide +kernel
theorem dX6_groupForDirectory_41 : decode cX6_groupForDirectory 41 = .ok (.aload_n 0, 1) := by decide +kernel
theorem dX6_groupForDirectory_42 : decode cX6_groupForDirectory 42 = .ok (.getfield 33, 3) := by decide +kernel
theorem dX6_groupForDirectory_45 : decode cX6_groupForDirectory 45 = .ok (.iload 4, 2) := by decide +kernel
theorem dX6_groupForDirectory_47 : decode cX6_groupForDirectory 47 = .ok (.iconst 1, 1) := by decide +kernel
theorem dX6_groupForDirectory_48 : decode cX6_groupForDirectory 48 = .ok (.invokevirtual 130, 3) := by decide +kernel
theorem dX6_groupForDirectory_51 : decode cX6_groupForDirectory 51 = .ok (.istore 6, 2) := by decide +kernel
theorem dX6_groupForDirectory_53 : decode cX6_groupForDirectory 53 = .ok (.iload 5, 2) := by decide +kernel
theorem dX6_groupForDirectory_55 : decode cX6_groupForDirectory 55 = .ok (.ifCond .le 21, 3) := by decide +kernel
theorem dX6_groupForDirectory_58 : decode cX6_groupForDirectory 58 = .ok (.iload 5, 2) := by decide +kernel
theorem dX6_groupForDirectory_60 : decode cX6_groupForDirectory 60 = .ok (.aload_n 0, 1) := by decide +kernel
theorem dX6_groupForDirectory_61 : decode cX6_groupForDirectory 61 = .ok (.getfield 12, 3) := by decide +kernel
theorem dX6_groupForDirectory_64 : decode cX6_groupForDirectory 64 = .ok (.getfield 127, 3) := by decide +kernel
theorem dX6_groupForDirectory_67 : decode cX6_groupForDirectory 67 = .ok (.imul, 1) := by decide +kernel
theorem dX6_groupForDirectory_68 : decode cX6_groupForDirectory 68 = .ok (.iload_n 3, 1) := by decide +kernel
theorem dX6_groupForDirectory_69 : decode cX6_groupForDirectory 69 = .ok (.if_icmp .lt 7, 3) := by decide +kernel
theorem dX6_groupForDirectory_72 : decode cX6_groupForDirectory 72 = .ok (.iconst 1, 1) := by decide +kernel
theorem dX6_groupForDirectory_73 : decode cX6_groupForDirectory 73 = .ok (.goto 4, 3) := by decide +kernel
theorem dX6_groupForDirectory_76 : decode cX6_groupForDirectory 76 = .ok (.iconst 0, 1) := by decide +kernel
theorem dX6_groupForDirectory_77 : decode cX6_groupForDirectory 77 = .ok (.istore 7, 2) := by decide +kernel
theorem dX6_groupForDirectory_79 : decode cX6_groupForDirectory 79 = .ok (.iload 7, 2) := by decide +kernel
theorem dX6_groupForDirectory_81 : decode cX6_groupForDirectory 81 = .ok (.ifCond .eq 21, 3) := by decide +kernel
theorem dX6_groupForDirectory_84 : decode cX6_groupForDirectory 84 = .ok (.iload_n 1, 1) := by decide +kernel
theorem dX6_groupForDirectory_85 : decode cX6_groupForDirectory 85 = .ok (.bipush (-4), 2) := by decide +kernel
theorem dX6_groupForDirectory_87 : decode cX6_groupForDirectory 87 = .ok (.if_icmp .eq 9, 3) := by decide +kernel
theorem dX6_groupForDirectory_90 : decode cX6_groupForDirectory 90 = .ok (.iload 6, 2) := by decide +kernel
theorem dX6_groupForDirectory_92 : decode cX6_groupForDirectory 92 = .ok (.iload_n 2, 1) := by decide +kernel
theorem dX6_groupForDirectory_93 : decode cX6_groupForDirectory 93 = .ok (.if_icmp .ge 9, 3) := by decide +kernel
theorem dX6_groupForDirectory_96 : decode cX6_groupForDirectory 96 = .ok (.iload 4, 2) := by decide +kernel
theorem dX6_groupForDirectory_98 : decode cX6_groupForDirectory 98 = .ok (.istore_n 1, 1) := by decide +kernel
theorem dX6_groupForDirectory_99 : decode cX6_groupForDirectory 99 = .ok (.iload 6, 2) := by decide +kernel
theorem dX6_groupForDirectory_101 : decode cX6_groupForDirectory 101 = .ok (.istore_n 2, 1) := by decide +kernel
theorem dX6_groupForDirectory_102 : decode cX6_groupForDirectory 102 = .ok (.iinc 4 1, 3) := by decide +kernel
theorem dX6_groupForDirectory_105 : decode cX6_groupForDirectory 105 = .ok (.goto (-88), 3) := by decide +kernel
theorem dX6_groupForDirectory_108 : decode cX6_groupForDirectory 108 = .ok (.iload_n 1, 1) := by decide +kernel
theorem dX6_groupForDirectory_109 : decode cX6_groupForDirectory 109 = .ok (.ireturn, 1) := by decide +kernel
theorem dX6_groupForFile_0 : decode cX6_groupForFile 0 = .ok (.aload_n 0, 1) := by decide +kernel
theorem dX6_groupForFile_1 : decode cX6_groupForFile 1 = .ok (.getfield 12, 3) := by decide +kernel
theorem dX6_groupForFile_4 : decode cX6_groupForFile 4 = .ok (.iload_n 1, 1) := by decide +kernel
theorem dX6_groupForFile_5 : decode cX6_groupForFile 5 = .ok (.invokevirtual 133, 3) := by decide +kernel
theorem dX6_groupForFile_8 : decode cX6_groupForFile 8 = .ok (.istore_n 2, 1) := by decide +kernel
theorem dX6_groupForFile_9 : decode cX6_groupForFile 9 = .ok (.iconst 0, 1) := by decide +kernel
theorem dX6_groupForFile_10 : decode cX6_groupForFile 10 = .ok (.istore_n 3, 1) := by decide +kernel
theorem dX6_groupForFile_11 : decode cX6_groupForFile 11 = .ok (.iload_n 3, 1) := by decide +kernel
theorem dX6_groupForFile_12 : decode cX6_groupForFile 12 = .ok (.aload_n 0, 1) := by decide +kernel
theorem dX6_groupForFile_13 : decode cX6_groupForFile 13 = .ok (.getfield 12, 3) := by decide +kernel
theorem dX6_groupForFile_16 : decode cX6_groupForFile 16 = .ok (.getfield 127, 3) := by decide +kernel
theorem dX6_groupForFile_19 : decode cX6_groupForFile 19 = .ok (.if_icmp .ge 37, 3) := by decide +kernel
theorem dX6_groupForFile_22 : decode cX6_groupForFile 22 = .ok (.aload_n 0, 1) := by decide +kernel
theorem dX6_groupForFile_23 : decode cX6_groupForFile 23 = .ok (.getfield 12, 3) := by decide +kernel
theorem dX6_groupForFile_26 : decode cX6_groupForFile 26 = .ok (.iload_n 2, 1) := by decide +kernel
theorem dX6_groupForFile_27 : decode cX6_groupForFile 27 = .ok (.iload_n 3, 1) := by decide +kernel
theorem dX6_groupForFile_28 : decode cX6_groupForFile 28 = .ok (.invokevirtual 136, 3) := by decide +kernel
theorem dX6_groupForFile_31 : decode cX6_groupForFile 31 = .ok (.istore 4, 2) := by decide +kernel
theorem dX6_groupForFile_33 : decode cX6_groupForFile 33 = .ok (.aload_n 0, 1) := by decide +kernel
theorem dX6_groupForFile_34 : decode cX6_groupForFile 34 = .ok (.getfield 33, 3) := by decide +kernel
theorem dX6_groupForFile_37 : decode cX6_groupForFile 37 = .ok (.iload 4, 2) := by decide +kernel
theorem dX6_groupForFile_39 : decode cX6_groupForFile 39 = .ok (.invokevirtual 139, 3) := by decide +kernel
theorem dX6_groupForFile_42 : decode cX6_groupForFile 42 = .ok (.bipush (-4), 2) := by decide +kernel
theorem dX6_groupForFile_44 : decode cX6_groupForFile 44 = .ok (.if_icmp .eq 6, 3) := by decide +kernel
theorem dX6_groupForFile_47 : decode cX6_groupForFile 47 = .ok (.iload 4, 2) := by decide +kernel
theorem dX6_groupForFile_49 : decode cX6_groupForFile 49 = .ok (.ireturn, 1) := by decide +kernel
theorem dX6_groupForFile_50 : decode cX6_groupForFile 50 = .ok (.iinc 3 1, 3) := by decide +kernel
theorem dX6_groupForFile_53 : decode cX6_groupForFile 53 = .ok (.goto (-42), 3) := by decide +kernel
theorem dX6_groupForFile_56 : decode cX6_groupForFile 56 = .ok (.bipush (-4), 2) := by decide +kernel
theorem dX6_groupForFile_58 : decode cX6_groupForFile 58 = .ok (.ireturn, 1) := by decide +kernel
theorem dX6_pairsOf_0 : decode cX6_pairsOf 0 = .ok (.iconst 0, 1) := by decide +kernel
theorem dX6_pairsOf_1 : decode cX6_pairsOf 1 = .ok (.istore_n 3, 1) := by decide +kernel
theorem dX6_pairsOf_2 : decode cX6_pairsOf 2 = .ok (.iconst 1, 1) := by decide +kernel
theorem dX6_pairsOf_3 : decode cX6_pairsOf 3 = .ok (.istore 4, 2) := by decide +kernel
theorem dX6_pairsOf_5 : decode cX6_pairsOf 5 = .ok (.iload 4, 2) := by decide +kernel
theorem dX6_pairsOf_7 : decode cX6_pairsOf 7 = .ok (.aload_n 0, 1) := by decide +kernel
theorem dX6_pairsOf_8 : decode cX6_pairsOf 8 = .ok (.getfield 33, 3) := by decide +kernel
theorem dX6_pairsOf_11 : decode cX6_pairsOf 11 = .ok (.iload_n 1, 1) := by decide +kernel
theorem dX6_pairsOf_12 : decode cX6_pairsOf 12 = .ok (.invokevirtual 71, 3) := by decide +kernel
theorem dX6_pairsOf_15 : decode cX6_pairsOf 15 = .ok (.if_icmp .ge 57, 3) := by decide +kernel
theorem dX6_pairsOf_18 : decode cX6_pairsOf 18 = .ok (.aload_n 0, 1) := by decide +kernel
theorem dX6_pairsOf_19 : decode cX6_pairsOf 19 = .ok (.getfield 12, 3) := by decide +kernel
theorem dX6_pairsOf_22 : decode cX6_pairsOf 22 = .ok (.iload 4, 2) := by decide +kernel
theorem dX6_pairsOf_24 : decode cX6_pairsOf 24 = .ok (.invokevirtual 142, 3) := by decide +kernel
theorem dX6_pairsOf_27 : decode cX6_pairsOf 27 = .ok (.ifCond .ne 39, 3) := by decide +kernel
theorem dX6_pairsOf_30 : decode cX6_pairsOf 30 = .ok (.iload_n 2, 1) := by decide +kernel
theorem dX6_pairsOf_31 : decode cX6_pairsOf 31 = .ok (.ifCond .eq 32, 3) := by decide +kernel
theorem dX6_pairsOf_34 : decode cX6_pairsOf 34 = .ok (.aload_n 0, 1) := by decide +kernel
theorem dX6_pairsOf_35 : decode cX6_pairsOf 35 = .ok (.aload_n 0, 1) := by decide +kernel
theorem dX6_pairsOf_36 : decode cX6_pairsOf 36 = .ok (.getfield 33, 3) := by decide +kernel
theorem dX6_pairsOf_39 : decode cX6_pairsOf 39 = .ok (.iload_n 1, 1) := by decide +kernel
theorem dX6_pairsOf_40 : decode cX6_pairsOf 40 = .ok (.iload 4, 2) := by decide +kernel
theorem dX6_pairsOf_42 : decode cX6_pairsOf 42 = .ok (.iconst 1, 1) := by decide +kernel
theorem dX6_pairsOf_43 : decode cX6_pairsOf 43 = .ok (.isub, 1) := by decide +kernel
theorem dX6_pairsOf_44 : decode cX6_pairsOf 44 = .ok (.invokevirtual 75, 3) := by decide +kernel
theorem dX6_pairsOf_47 : decode cX6_pairsOf 47 = .ok (.aload_n 0, 1) := by decide +kernel
theorem dX6_pairsOf_48 : decode cX6_pairsOf 48 = .ok (.getfield 33, 3) := by decide +kernel
theorem dX6_pairsOf_51 : decode cX6_pairsOf 51 = .ok (.iload_n 1, 1) := by decide +kernel
theorem dX6_pairsOf_52 : decode cX6_pairsOf 52 = .ok (.iload 4, 2) := by decide +kernel
theorem dX6_pairsOf_54 : decode cX6_pairsOf 54 = .ok (.invokevirtual 75, 3) := by decide +kernel
theorem dX6_pairsOf_57 : decode cX6_pairsOf 57 = .ok (.invokevirtual 145, 3) := by decide +kernel
theorem dX6_pairsOf_60 : decode cX6_pairsOf 60 = .ok (.ifCond .eq 6, 3) := by decide +kernel
theorem dX6_pairsOf_63 : decode cX6_pairsOf 63 = .ok (.iinc 3 1, 3) := by decide +kernel
theorem dX6_pairsOf_66 : decode cX6_pairsOf 66 = .ok (.iinc 4 1, 3) := by decide +kernel
theorem dX6_pairsOf_69 : decode cX6_pairsOf 69 = .ok (.goto (-64), 3) := by decide +kernel
theorem dX6_pairsOf_72 : decode cX6_pairsOf 72 = .ok (.iload_n 3, 1) := by decide +kernel
theorem dX6_pairsOf_73 : decode cX6_pairsOf 73 = .ok (.ireturn, 1) := by decide +kernel
theorem dX6_follows_0 : decode cX6_follows 0 = .ok (.iload_n 2, 1) := by decide +kernel
theorem dX6_follows_1 : decode cX6_follows 1 = .ok (.aload_n 0, 1) := by decide +kernel
theorem dX6_follows_2 : decode cX6_follows 2 = .ok (.getfield 12, 3) := by decide +kernel
theorem dX6_follows_5 : decode cX6_follows 5 = .ok (.iload_n 1, 1) := by decide +kernel
theorem dX6_follows_6 : decode cX6_follows 6 = .ok (.invokevirtual 149, 3) := by decide +kernel
theorem dX6_follows_9 : decode cX6_follows 9 = .ok (.aload_n 0, 1) := by decide +kernel
theorem dX6_follows_10 : decode cX6_follows 10 = .ok (.getfield 12, 3) := by decide +kernel
theorem dX6_follows_13 : decode cX6_follows 13 = .ok (.getfield 152, 3) := by decide +kernel
theorem dX6_follows_16 : decode cX6_follows 16 = .ok (.imul, 1) := by decide +kernel
theorem dX6_follows_17 : decode cX6_follows 17 = .ok (.aload_n 0, 1) := by decide +kernel
theorem dX6_follows_18 : decode cX6_follows 18 = .ok (.getfield 12, 3) := by decide +kernel
theorem dX6_follows_21 : decode cX6_follows 21 = .ok (.iload_n 1, 1) := by decide +kernel
theorem dX6_follows_22 : decode cX6_follows 22 = .ok (.invokevirtual 155, 3) := by decide +kernel
theorem dX6_follows_25 : decode cX6_follows 25 = .ok (.iadd, 1) := by decide +kernel
theorem dX6_follows_26 : decode cX6_follows 26 = .ok (.if_icmp .ne 7, 3) := by decide +kernel
theorem dX6_follows_29 : decode cX6_follows 29 = .ok (.iconst 1, 1) := by decide +kernel
theorem dX6_follows_30 : decode cX6_follows 30 = .ok (.goto 4, 3) := by decide +kernel
theorem dX6_follows_33 : decode cX6_follows 33 = .ok (.iconst 0, 1) := by decide +kernel
theorem dX6_follows_34 : decode cX6_follows 34 = .ok (.ireturn, 1) := by decide +kernel
theorem dX6_pairsOfAll_0 : decode cX6_pairsOfAll 0 = .ok (.iconst 0, 1) := by decide +kernel
theorem dX6_pairsOfAll_1 : decode cX6_pairsOfAll 1 = .ok (.istore_n 2, 1) := by decide +kernel
theorem dX6_pairsOfAll_2 : decode cX6_pairsOfAll 2 = .ok (.iconst 0, 1) := by decide +kernel
theorem dX6_pairsOfAll_3 : decode cX6_pairsOfAll 3 = .ok (.istore_n 3, 1) := by decide +kernel
theorem dX6_pairsOfAll_4 : decode cX6_pairsOfAll 4 = .ok (.iload_n 3, 1) := by decide +kernel
theorem dX6_pairsOfAll_5 : decode cX6_pairsOfAll 5 = .ok (.aload_n 0, 1) := by decide +kernel
theorem dX6_pairsOfAll_6 : decode cX6_pairsOfAll 6 = .ok (.getfield 12, 3) := by decide +kernel
theorem dX6_pairsOfAll_9 : decode cX6_pairsOfAll 9 = .ok (.invokevirtual 92, 3) := by decide +kernel
theorem dX6_pairsOfAll_12 : decode cX6_pairsOfAll 12 = .ok (.if_icmp .ge 18, 3) := by decide +kernel
theorem dX6_pairsOfAll_15 : decode cX6_pairsOfAll 15 = .ok (.iload_n 2, 1) := by decide +kernel
theorem dX6_pairsOfAll_16 : decode cX6_pairsOfAll 16 = .ok (.aload_n 0, 1) := by decide +kernel
theorem dX6_pairsOfAll_17 : decode cX6_pairsOfAll 17 = .ok (.iload_n 3, 1) := by decide +kernel
theorem dX6_pairsOfAll_18 : decode cX6_pairsOfAll 18 = .ok (.iload_n 1, 1) := by decide +kernel
theorem dX6_pairsOfAll_19 : decode cX6_pairsOfAll 19 = .ok (.invokevirtual 158, 3) := by decide +kernel
theorem dX6_pairsOfAll_22 : decode cX6_pairsOfAll 22 = .ok (.iadd, 1) := by decide +kernel
theorem dX6_pairsOfAll_23 : decode cX6_pairsOfAll 23 = .ok (.istore_n 2, 1) := by decide +kernel
theorem dX6_pairsOfAll_24 : decode cX6_pairsOfAll 24 = .ok (.iinc 3 1, 3) := by decide +kernel
theorem dX6_pairsOfAll_27 : decode cX6_pairsOfAll 27 = .ok (.goto (-23), 3) := by decide +kernel
theorem dX6_pairsOfAll_30 : decode cX6_pairsOfAll 30 = .ok (.iload_n 2, 1) := by decide +kernel
theorem dX6_pairsOfAll_31 : decode cX6_pairsOfAll 31 = .ok (.ireturn, 1) := by decide +kernel
theorem dX7_init_0 : decode cX7_init 0 = .ok (.aload_n 0, 1) := by decide +kernel
theorem dX7_init_1 : decode cX7_init 1 = .ok (.invokespecial 1, 3) := by decide +kernel
theorem dX7_init_4 : decode cX7_init 4 = .ok (.aload_n 0, 1) := by decide +kernel
theorem dX7_init_5 : decode cX7_init 5 = .ok (.new 7, 3) := by decide +kernel
theorem dX7_init_8 : decode cX7_init 8 = .ok (.dup, 1) := by decide +kernel
theorem dX7_init_9 : decode cX7_init 9 = .ok (.invokespecial 9, 3) := by decide +kernel
theorem dX7_init_12 : decode cX7_init 12 = .ok (.putfield 10, 3) := by decide +kernel
theorem dX7_init_15 : decode cX7_init 15 = .ok (.aload_n 0, 1) := by decide +kernel
theorem dX7_init_16 : decode cX7_init 16 = .ok (.new 16, 3) := by decide +kernel
theorem dX7_init_19 : decode cX7_init 19 = .ok (.dup, 1) := by decide +kernel
theorem dX7_init_20 : decode cX7_init 20 = .ok (.aload_n 0, 1) := by decide +kernel
theorem dX7_init_21 : decode cX7_init 21 = .ok (.getfield 10, 3) := by decide +kernel
theorem dX7_init_24 : decode cX7_init 24 = .ok (.invokespecial 18, 3) := by decide +kernel
theorem dX7_init_27 : decode cX7_init 27 = .ok (.putfield 21, 3) := by decide +kernel
theorem dX7_init_30 : decode cX7_init 30 = .ok (.aload_n 0, 1) := by decide +kernel
theorem dX7_init_31 : decode cX7_init 31 = .ok (.new 25, 3) := by decide +kernel
theorem dX7_init_34 : decode cX7_init 34 = .ok (.dup, 1) := by decide +kernel
theorem dX7_init_35 : decode cX7_init 35 = .ok (.invokespecial 27, 3) := by decide +kernel
theorem dX7_init_38 : decode cX7_init 38 = .ok (.putfield 28, 3) := by decide +kernel
theorem dX7_init_41 : decode cX7_init 41 = .ok (.aload_n 0, 1) := by decide +kernel
theorem dX7_init_42 : decode cX7_init 42 = .ok (.new 32, 3) := by decide +kernel
theorem dX7_init_45 : decode cX7_init 45 = .ok (.dup, 1) := by decide +kernel
theorem dX7_init_46 : decode cX7_init 46 = .ok (.aload_n 0, 1) := by decide +kernel
theorem dX7_init_47 : decode cX7_init 47 = .ok (.getfield 28, 3) := by decide +kernel
theorem dX7_init_50 : decode cX7_init 50 = .ok (.invokespecial 34, 3) := by decide +kernel
theorem dX7_init_53 : decode cX7_init 53 = .ok (.putfield 37, 3) := by decide +kernel
theorem dX7_init_56 : decode cX7_init 56 = .ok (.aload_n 0, 1) := by decide +kernel
theorem dX7_init_57 : decode cX7_init 57 = .ok (.new 7, 3) := by decide +kernel
theorem dX7_init_60 : decode cX7_init 60 = .ok (.dup, 1) := by decide +kernel
theorem dX7_init_61 : decode cX7_init 61 = .ok (.invokespecial 9, 3) := by decide +kernel
theorem dX7_init_64 : decode cX7_init 64 = .ok (.putfield 41, 3) := by decide +kernel
theorem dX7_init_67 : decode cX7_init 67 = .ok (.aload_n 0, 1) := by decide +kernel
theorem dX7_init_68 : decode cX7_init 68 = .ok (.new 16, 3) := by decide +kernel
theorem dX7_init_71 : decode cX7_init 71 = .ok (.dup, 1) := by decide +kernel
theorem dX7_init_72 : decode cX7_init 72 = .ok (.aload_n 0, 1) := by decide +kernel
theorem dX7_init_73 : decode cX7_init 73 = .ok (.getfield 41, 3) := by decide +kernel
theorem dX7_init_76 : decode cX7_init 76 = .ok (.invokespecial 18, 3) := by decide +kernel
theorem dX7_init_79 : decode cX7_init 79 = .ok (.putfield 44, 3) := by decide +kernel
theorem dX7_init_82 : decode cX7_init 82 = .ok (.aload_n 0, 1) := by decide +kernel
theorem dX7_init_83 : decode cX7_init 83 = .ok (.bipush 24, 2) := by decide +kernel
theorem dX7_init_85 : decode cX7_init 85 = .ok (.newarray .int, 2) := by decide +kernel
theorem dX7_init_87 : decode cX7_init 87 = .ok (.putfield 47, 3) := by decide +kernel
theorem dX7_init_90 : decode cX7_init 90 = .ok (.aload_n 0, 1) := by decide +kernel
theorem dX7_init_91 : decode cX7_init 91 = .ok (.new 7, 3) := by decide +kernel
theorem dX7_init_94 : decode cX7_init 94 = .ok (.dup, 1) := by decide +kernel
theorem dX7_init_95 : decode cX7_init 95 = .ok (.invokespecial 9, 3) := by decide +kernel
theorem dX7_init_98 : decode cX7_init 98 = .ok (.putfield 51, 3) := by decide +kernel
theorem dX7_init_101 : decode cX7_init 101 = .ok (.aload_n 0, 1) := by decide +kernel
theorem dX7_init_102 : decode cX7_init 102 = .ok (.new 7, 3) := by decide +kernel
theorem dX7_init_105 : decode cX7_init 105 = .ok (.dup, 1) := by decide +kernel
theorem dX7_init_106 : decode cX7_init 106 = .ok (.invokespecial 9, 3) := by decide +kernel
theorem dX7_init_109 : decode cX7_init 109 = .ok (.putfield 54, 3) := by decide +kernel
theorem dX7_init_112 : decode cX7_init 112 = .ok (.aload_n 0, 1) := by decide +kernel
theorem dX7_init_113 : decode cX7_init 113 = .ok (.getfield 10, 3) := by decide +kernel
theorem dX7_init_116 : decode cX7_init 116 = .ok (.getstatic 57, 3) := by decide +kernel
theorem dX7_init_119 : decode cX7_init 119 = .ok (.invokevirtual 60, 3) := by decide +kernel
theorem dX7_init_122 : decode cX7_init 122 = .ok (.return_, 1) := by decide +kernel
theorem dX7_feed_0 : decode cX7_feed 0 = .ok (.iload_n 1, 1) := by decide +kernel
theorem dX7_feed_1 : decode cX7_feed 1 = .ok (.ifCond .lt 9, 3) := by decide +kernel
theorem dX7_feed_4 : decode cX7_feed 4 = .ok (.iload_n 1, 1) := by decide +kernel
theorem dX7_feed_5 : decode cX7_feed 5 = .ok (.bipush 127, 2) := by decide +kernel
theorem dX7_feed_7 : decode cX7_feed 7 = .ok (.if_icmp .le 5, 3) := by decide +kernel
theorem dX7_feed_10 : decode cX7_feed 10 = .ok (.iconst (-1), 1) := by decide +kernel
theorem dX7_feed_11 : decode cX7_feed 11 = .ok (.ireturn, 1) := by decide +kernel
theorem dX7_feed_12 : decode cX7_feed 12 = .ok (.aload_n 0, 1) := by decide +kernel
theorem dX7_feed_13 : decode cX7_feed 13 = .ok (.getfield 28, 3) := by decide +kernel
theorem dX7_feed_16 : decode cX7_feed 16 = .ok (.iload_n 1, 1) := by decide +kernel
theorem dX7_feed_17 : decode cX7_feed 17 = .ok (.invokevirtual 64, 3) := by decide +kernel
theorem dX7_feed_20 : decode cX7_feed 20 = .ok (.ifCond .eq 13, 3) := by decide +kernel
theorem dX7_feed_23 : decode cX7_feed 23 = .ok (.aload_n 0, 1) := by decide +kernel
theorem dX7_feed_24 : decode cX7_feed 24 = .ok (.getfield 28, 3) := by decide +kernel
theorem dX7_feed_27 : decode cX7_feed 27 = .ok (.getfield 68, 3) := by decide +kernel
theorem dX7_feed_30 : decode cX7_feed 30 = .ok (.goto 5, 3) := by decide +kernel
theorem dX7_feed_33 : decode cX7_feed 33 = .ok (.bipush (-3), 2) := by decide +kernel
theorem dX7_feed_35 : decode cX7_feed 35 = .ok (.ireturn, 1) := by decide +kernel
theorem dX7_end_0 : decode cX7_end 0 = .ok (.iload_n 1, 1) := by decide +kernel
theorem dX7_end_1 : decode cX7_end 1 = .ok (.ifCond .lt 14, 3) := by decide +kernel
theorem dX7_end_4 : decode cX7_end 4 = .ok (.iload_n 1, 1) := by decide +kernel
theorem dX7_end_5 : decode cX7_end 5 = .ok (.aload_n 0, 1) := by decide +kernel
theorem dX7_end_6 : decode cX7_end 6 = .ok (.getfield 28, 3) := by decide +kernel
theorem dX7_end_9 : decode cX7_end 9 = .ok (.getfield 68, 3) := by decide +kernel
theorem dX7_end_12 : decode cX7_end 12 = .ok (.if_icmp .le 5, 3) := by decide +kernel
theorem dX7_end_15 : decode cX7_end 15 = .ok (.iconst (-1), 1) := by decide +kernel
theorem dX7_end_16 : decode cX7_end 16 = .ok (.ireturn, 1) := by decide +kernel
theorem dX7_end_17 : decode cX7_end 17 = .ok (.aload_n 0, 1) := by decide +kernel
theorem dX7_end_18 : decode cX7_end 18 = .ok (.getfield 28, 3) := by decide +kernel
theorem dX7_end_21 : decode cX7_end 21 = .ok (.getfield 68, 3) := by decide +kernel
theorem dX7_end_24 : decode cX7_end 24 = .ok (.istore_n 2, 1) := by decide +kernel
theorem dX7_end_25 : decode cX7_end 25 = .ok (.aload_n 0, 1) := by decide +kernel
theorem dX7_end_26 : decode cX7_end 26 = .ok (.getfield 28, 3) := by decide +kernel
theorem dX7_end_29 : decode cX7_end 29 = .ok (.iload_n 1, 1) := by decide +kernel
theorem dX7_end_30 : decode cX7_end 30 = .ok (.putfield 68, 3) := by decide +kernel
theorem dX7_end_33 : decode cX7_end 33 = .ok (.iload_n 2, 1) := by decide +kernel
theorem dX7_end_34 : decode cX7_end 34 = .ok (.ireturn, 1) := by decide +kernel
theorem dX7_text_0 : decode cX7_text 0 = .ok (.aload_n 0, 1) := by decide +kernel
theorem dX7_text_1 : decode cX7_text 1 = .ok (.getfield 37, 3) := by decide +kernel
theorem dX7_text_4 : decode cX7_text 4 = .ok (.invokevirtual 72, 3) := by decide +kernel
theorem dX7_text_7 : decode cX7_text 7 = .ok (.aload_n 0, 1) := by decide +kernel
theorem dX7_text_8 : decode cX7_text 8 = .ok (.getfield 37, 3) := by decide +kernel
theorem dX7_text_11 : decode cX7_text 11 = .ok (.invokevirtual 75, 3) := by decide +kernel
theorem dX7_text_14 : decode cX7_text 14 = .ok (.istore_n 1, 1) := by decide +kernel
theorem dX7_text_15 : decode cX7_text 15 = .ok (.iload_n 1, 1) := by decide +kernel
theorem dX7_text_16 : decode cX7_text 16 = .ok (.ifCond .eq 22, 3) := by decide +kernel
theorem dX7_text_19 : decode cX7_text 19 = .ok (.aload_n 0, 1) := by decide +kernel
theorem dX7_text_20 : decode cX7_text 20 = .ok (.getfield 41, 3) := by decide +kernel
theorem dX7_text_23 : decode cX7_text 23 = .ok (.aload_n 0, 1) := by decide +kernel
theorem dX7_text_24 : decode cX7_text 24 = .ok (.getfield 37, 3) := by decide +kernel
theorem dX7_text_27 : decode cX7_text 27 = .ok (.getfield 79, 3) := by decide +kernel
theorem dX7_text_30 : decode cX7_text 30 = .ok (.invokevirtual 60, 3) := by decide +kernel
theorem dX7_text_33 : decode cX7_text 33 = .ok (.aload_n 0, 1) := by decide +kernel
theorem dX7_text_34 : decode cX7_text 34 = .ok (.iconst 0, 1) := by decide +kernel
theorem dX7_text_35 : decode cX7_text 35 = .ok (.putfield 82, 3) := by decide +kernel
theorem dX7_text_38 : decode cX7_text 38 = .ok (.iconst 0, 1) := by decide +kernel
theorem dX7_text_39 : decode cX7_text 39 = .ok (.istore_n 2, 1) := by decide +kernel
theorem dX7_text_40 : decode cX7_text 40 = .ok (.iload_n 1, 1) := by decide +kernel
theorem dX7_text_41 : decode cX7_text 41 = .ok (.ifCond .eq 53, 3) := by decide +kernel
theorem dX7_text_44 : decode cX7_text 44 = .ok (.iload_n 2, 1) := by decide +kernel
theorem dX7_text_45 : decode cX7_text 45 = .ok (.sipush 200, 3) := by decide +kernel
theorem dX7_text_48 : decode cX7_text 48 = .ok (.if_icmp .ge 46, 3) := by decide +kernel
theorem dX7_text_51 : decode cX7_text 51 = .ok (.aload_n 0, 1) := by decide +kernel
theorem dX7_text_52 : decode cX7_text 52 = .ok (.getfield 37, 3) := by decide +kernel
theorem dX7_text_55 : decode cX7_text 55 = .ok (.invokevirtual 85, 3) := by decide +kernel
theorem dX7_text_58 : decode cX7_text 58 = .ok (.ifCond .eq 36, 3) := by decide +kernel
theorem dX7_text_61 : decode cX7_text 61 = .ok (.aload_n 0, 1) := by decide +kernel
theorem dX7_text_62 : decode cX7_text 62 = .ok (.getfield 37, 3) := by decide +kernel
theorem dX7_text_65 : decode cX7_text 65 = .ok (.aload_n 0, 1) := by decide +kernel
theorem dX7_text_66 : decode cX7_text 66 = .ok (.getfield 82, 3) := by decide +kernel
theorem dX7_text_69 : decode cX7_text 69 = .ok (.invokevirtual 88, 3) := by decide +kernel
theorem dX7_text_72 : decode cX7_text 72 = .ok (.ifCond .eq 14, 3) := by decide +kernel
theorem dX7_text_75 : decode cX7_text 75 = .ok (.aload_n 0, 1) := by decide +kernel
theorem dX7_text_76 : decode cX7_text 76 = .ok (.invokevirtual 91, 3) := by decide +kernel
theorem dX7_text_79 : decode cX7_text 79 = .ok (.ifCond .eq 7, 3) := by decide +kernel
theorem dX7_text_82 : decode cX7_text 82 = .ok (.iconst 1, 1) := by decide +kernel
theorem dX7_text_83 : decode cX7_text 83 = .ok (.goto 4, 3) := by decide +kernel
theorem dX7_text_86 : decode cX7_text 86 = .ok (.iconst 0, 1) := by decide +kernel
theorem dX7_text_87 : decode cX7_text 87 = .ok (.istore_n 1, 1) := by decide +kernel
theorem dX7_text_88 : decode cX7_text 88 = .ok (.iinc 2 1, 3) := by decide +kernel
theorem dX7_text_91 : decode cX7_text 91 = .ok (.goto (-51), 3) := by decide +kernel
theorem dX7_text_94 : decode cX7_text 94 = .ok (.aload_n 0, 1) := by decide +kernel
theorem dX7_text_95 : decode cX7_text 95 = .ok (.getfield 28, 3) := by decide +kernel
theorem dX7_text_98 : decode cX7_text 98 = .ok (.iconst 0, 1) := by decide +kernel
theorem dX7_text_99 : decode cX7_text 99 = .ok (.putfield 68, 3) := by decide +kernel
theorem dX7_text_102 : decode cX7_text 102 = .ok (.aload_n 0, 1) := by decide +kernel
theorem dX7_text_103 : decode cX7_text 103 = .ok (.aload_n 0, 1) := by decide +kernel
theorem dX7_text_104 : decode cX7_text 104 = .ok (.getfield 37, 3) := by decide +kernel
theorem dX7_text_107 : decode cX7_text 107 = .ok (.getfield 94, 3) := by decide +kernel
theorem dX7_text_110 : decode cX7_text 110 = .ok (.putfield 97, 3) := by decide +kernel
theorem dX7_text_113 : decode cX7_text 113 = .ok (.iload_n 1, 1) := by decide +kernel
theorem dX7_text_114 : decode cX7_text 114 = .ok (.ifCond .ne 14, 3) := by decide +kernel
theorem dX7_text_117 : decode cX7_text 117 = .ok (.bipush (-10), 2) := by decide +kernel
theorem dX7_text_119 : decode cX7_text 119 = .ok (.aload_n 0, 1) := by decide +kernel
theorem dX7_text_120 : decode cX7_text 120 = .ok (.getfield 37, 3) := by decide +kernel
theorem dX7_text_123 : decode cX7_text 123 = .ok (.getfield 100, 3) := by decide +kernel
theorem dX7_text_126 : decode cX7_text 126 = .ok (.isub, 1) := by decide +kernel
theorem dX7_text_127 : decode cX7_text 127 = .ok (.ireturn, 1) := by decide +kernel
theorem dX7_text_128 : decode cX7_text 128 = .ok (.aload_n 0, 1) := by decide +kernel
theorem dX7_text_129 : decode cX7_text 129 = .ok (.getfield 10, 3) := by decide +kernel
theorem dX7_text_132 : decode cX7_text 132 = .ok (.aload_n 0, 1) := by decide +kernel
theorem dX7_text_133 : decode cX7_text 133 = .ok (.getfield 41, 3) := by decide +kernel
theorem dX7_text_136 : decode cX7_text 136 = .ok (.invokevirtual 103, 3) := by decide +kernel
theorem dX7_text_139 : decode cX7_text 139 = .ok (.aload_n 0, 1) := by decide +kernel
theorem dX7_text_140 : decode cX7_text 140 = .ok (.iconst 0, 1) := by decide +kernel
theorem dX7_text_141 : decode cX7_text 141 = .ok (.putfield 106, 3) := by decide +kernel
theorem dX7_text_144 : decode cX7_text 144 = .ok (.aload_n 0, 1) := by decide +kernel
theorem dX7_text_145 : decode cX7_text 145 = .ok (.iconst 0, 1) := by decide +kernel
theorem dX7_text_146 : decode cX7_text 146 = .ok (.putfield 110, 3) := by decide +kernel
theorem dX7_text_149 : decode cX7_text 149 = .ok (.aload_n 0, 1) := by decide +kernel
theorem dX7_text_150 : decode cX7_text 150 = .ok (.getfield 10, 3) := by decide +kernel
theorem dX7_text_153 : decode cX7_text 153 = .ok (.getfield 113, 3) := by decide +kernel
theorem dX7_text_156 : decode cX7_text 156 = .ok (.invokevirtual 117, 3) := by decide +kernel
theorem dX7_text_159 : decode cX7_text 159 = .ok (.ireturn, 1) := by decide +kernel
theorem dX7_tellLine_0 : decode cX7_tellLine 0 = .ok (.aload_n 0, 1) := by decide +kernel
theorem dX7_tellLine_1 : decode cX7_tellLine 1 = .ok (.getfield 44, 3) := by decide +kernel
theorem dX7_tellLine_4 : decode cX7_tellLine 4 = .ok (.aload_n 0, 1) := by decide +kernel
theorem dX7_tellLine_5 : decode cX7_tellLine 5 = .ok (.aload_n 0, 1) := by decide +kernel
theorem dX7_tellLine_6 : decode cX7_tellLine 6 = .ok (.getfield 37, 3) := by decide +kernel
theorem dX7_tellLine_9 : decode cX7_tellLine 9 = .ok (.getfield 79, 3) := by decide +kernel
theorem dX7_tellLine_12 : decode cX7_tellLine 12 = .ok (.iconst 0, 1) := by decide +kernel
theorem dX7_tellLine_13 : decode cX7_tellLine 13 = .ok (.iaload, 1) := by decide +kernel
theorem dX7_tellLine_14 : decode cX7_tellLine 14 = .ok (.invokevirtual 123, 3) := by decide +kernel
theorem dX7_tellLine_17 : decode cX7_tellLine 17 = .ok (.aload_n 0, 1) := by decide +kernel
theorem dX7_tellLine_18 : decode cX7_tellLine 18 = .ok (.getfield 37, 3) := by decide +kernel
theorem dX7_tellLine_21 : decode cX7_tellLine 21 = .ok (.getfield 79, 3) := by decide +kernel
theorem dX7_tellLine_24 : decode cX7_tellLine 24 = .ok (.iconst 1, 1) := by decide +kernel
theorem dX7_tellLine_25 : decode cX7_tellLine 25 = .ok (.iaload, 1) := by decide +kernel
theorem dX7_tellLine_26 : decode cX7_tellLine 26 = .ok (.aload_n 0, 1) := by decide +kernel
theorem dX7_tellLine_27 : decode cX7_tellLine 27 = .ok (.getfield 37, 3) := by decide +kernel
theorem dX7_tellLine_30 : decode cX7_tellLine 30 = .ok (.getfield 127, 3) := by decide +kernel
theorem dX7_tellLine_33 : decode cX7_tellLine 33 = .ok (.invokevirtual 130, 3) := by decide +kernel
theorem dX7_tellLine_36 : decode cX7_tellLine 36 = .ok (.istore_n 1, 1) := by decide +kernel
theorem dX7_tellLine_37 : decode cX7_tellLine 37 = .ok (.iload_n 1, 1) := by decide +kernel
theorem dX7_tellLine_38 : decode cX7_tellLine 38 = .ok (.bipush (-2), 2) := by decide +kernel
theorem dX7_tellLine_40 : decode cX7_tellLine 40 = .ok (.if_icmp .ne 12, 3) := by decide +kernel
theorem dX7_tellLine_43 : decode cX7_tellLine 43 = .ok (.aload_n 0, 1) := by decide +kernel
theorem dX7_tellLine_44 : decode cX7_tellLine 44 = .ok (.getfield 37, 3) := by decide +kernel
theorem dX7_tellLine_47 : decode cX7_tellLine 47 = .ok (.iconst 4, 1) := by decide +kernel
theorem dX7_tellLine_48 : decode cX7_tellLine 48 = .ok (.invokevirtual 134, 3) := by decide +kernel
theorem dX7_tellLine_51 : decode cX7_tellLine 51 = .ok (.ireturn, 1) := by decide +kernel
theorem dX7_tellLine_52 : decode cX7_tellLine 52 = .ok (.iload_n 1, 1) := by decide +kernel
theorem dX7_tellLine_53 : decode cX7_tellLine 53 = .ok (.ifCond .ge 12, 3) := by decide +kernel
theorem dX7_tellLine_56 : decode cX7_tellLine 56 = .ok (.aload_n 0, 1) := by decide +kernel
theorem dX7_tellLine_57 : decode cX7_tellLine 57 = .ok (.getfield 37, 3) := by decide +kernel
theorem dX7_tellLine_60 : decode cX7_tellLine 60 = .ok (.iconst 5, 1) := by decide +kernel
theorem dX7_tellLine_61 : decode cX7_tellLine 61 = .ok (.invokevirtual 134, 3) := by decide +kernel
theorem dX7_tellLine_64 : decode cX7_tellLine 64 = .ok (.ireturn, 1) := by decide +kernel
theorem dX7_tellLine_65 : decode cX7_tellLine 65 = .ok (.aload_n 0, 1) := by decide +kernel
theorem dX7_tellLine_66 : decode cX7_tellLine 66 = .ok (.getfield 37, 3) := by decide +kernel
theorem dX7_tellLine_69 : decode cX7_tellLine 69 = .ok (.getfield 127, 3) := by decide +kernel
theorem dX7_tellLine_72 : decode cX7_tellLine 72 = .ok (.iconst 1, 1) := by decide +kernel
theorem dX7_tellLine_73 : decode cX7_tellLine 73 = .ok (.if_icmp .ne 10, 3) := by decide +kernel
theorem dX7_tellLine_76 : decode cX7_tellLine 76 = .ok (.aload_n 0, 1) := by decide +kernel
theorem dX7_tellLine_77 : decode cX7_tellLine 77 = .ok (.iload_n 1, 1) := by decide +kernel
theorem dX7_tellLine_78 : decode cX7_tellLine 78 = .ok (.invokevirtual 137, 3) := by decide +kernel
theorem dX7_tellLine_81 : decode cX7_tellLine 81 = .ok (.iconst 1, 1) := by decide +kernel
theorem dX7_tellLine_82 : decode cX7_tellLine 82 = .ok (.ireturn, 1) := by decide +kernel
theorem dX7_tellLine_83 : decode cX7_tellLine 83 = .ok (.aload_n 0, 1) := by decide +kernel
theorem dX7_tellLine_84 : decode cX7_tellLine 84 = .ok (.getfield 37, 3) := by decide +kernel
theorem dX7_tellLine_87 : decode cX7_tellLine 87 = .ok (.getfield 79, 3) := by decide +kernel
theorem dX7_tellLine_90 : decode cX7_tellLine 90 = .ok (.iconst 2, 1) := by decide +kernel
theorem dX7_tellLine_91 : decode cX7_tellLine 91 = .ok (.iaload, 1) := by decide +kernel
theorem dX7_tellLine_92 : decode cX7_tellLine 92 = .ok (.istore_n 2, 1) := by decide +kernel
theorem dX7_tellLine_93 : decode cX7_tellLine 93 = .ok (.iload_n 2, 1) := by decide +kernel
theorem dX7_tellLine_94 : decode cX7_tellLine 94 = .ok (.ifCond .le 24, 3) := by decide +kernel
theorem dX7_tellLine_97 : decode cX7_tellLine 97 = .ok (.aload_n 0, 1) := by decide +kernel
theorem dX7_tellLine_98 : decode cX7_tellLine 98 = .ok (.getfield 44, 3) := by decide +kernel
theorem dX7_tellLine_101 : decode cX7_tellLine 101 = .ok (.iload_n 1, 1) := by decide +kernel
theorem dX7_tellLine_102 : decode cX7_tellLine 102 = .ok (.iload_n 2, 1) := by decide +kernel
theorem dX7_tellLine_103 : decode cX7_tellLine 103 = .ok (.invokevirtual 141, 3) := by decide +kernel
theorem dX7_tellLine_106 : decode cX7_tellLine 106 = .ok (.ifCond .ge 12, 3) := by decide +kernel
theorem dX7_tellLine_109 : decode cX7_tellLine 109 = .ok (.aload_n 0, 1) := by decide +kernel
theorem dX7_tellLine_110 : decode cX7_tellLine 110 = .ok (.getfield 37, 3) := by decide +kernel
theorem dX7_tellLine_113 : decode cX7_tellLine 113 = .ok (.iconst 5, 1) := by decide +kernel
theorem dX7_tellLine_114 : decode cX7_tellLine 114 = .ok (.invokevirtual 134, 3) := by decide +kernel
theorem dX7_tellLine_117 : decode cX7_tellLine 117 = .ok (.ireturn, 1) := by decide +kernel
theorem dX7_tellLine_118 : decode cX7_tellLine 118 = .ok (.iconst 1, 1) := by decide +kernel
theorem dX7_tellLine_119 : decode cX7_tellLine 119 = .ok (.ireturn, 1) := by decide +kernel
theorem dX7_toldParent_0 : decode cX7_toldParent 0 = .ok (.iload_n 1, 1) := by decide +kernel
theorem dX7_toldParent_1 : decode cX7_toldParent 1 = .ok (.ifCond .le 31, 3) := by decide +kernel
theorem dX7_toldParent_4 : decode cX7_toldParent 4 = .ok (.iload_n 1, 1) := by decide +kernel
theorem dX7_toldParent_5 : decode cX7_toldParent 5 = .ok (.aload_n 0, 1) := by decide +kernel
theorem dX7_toldParent_6 : decode cX7_toldParent 6 = .ok (.getfield 82, 3) := by decide +kernel
theorem dX7_toldParent_9 : decode cX7_toldParent 9 = .ok (.if_icmp .gt 23, 3) := by decide +kernel
theorem dX7_toldParent_12 : decode cX7_toldParent 12 = .ok (.iload_n 1, 1) := by decide +kernel
theorem dX7_toldParent_13 : decode cX7_toldParent 13 = .ok (.aload_n 0, 1) := by decide +kernel
theorem dX7_toldParent_14 : decode cX7_toldParent 14 = .ok (.getfield 47, 3) := by decide +kernel
theorem dX7_toldParent_17 : decode cX7_toldParent 17 = .ok (.arraylength, 1) := by decide +kernel
theorem dX7_toldParent_18 : decode cX7_toldParent 18 = .ok (.if_icmp .gt 14, 3) := by decide +kernel
theorem dX7_toldParent_21 : decode cX7_toldParent 21 = .ok (.aload_n 0, 1) := by decide +kernel
theorem dX7_toldParent_22 : decode cX7_toldParent 22 = .ok (.getfield 47, 3) := by decide +kernel
theorem dX7_toldParent_25 : decode cX7_toldParent 25 = .ok (.iload_n 1, 1) := by decide +kernel
theorem dX7_toldParent_26 : decode cX7_toldParent 26 = .ok (.iconst 1, 1) := by decide +kernel
theorem dX7_toldParent_27 : decode cX7_toldParent 27 = .ok (.isub, 1) := by decide +kernel
theorem dX7_toldParent_28 : decode cX7_toldParent 28 = .ok (.iaload, 1) := by decide +kernel
theorem dX7_toldParent_29 : decode cX7_toldParent 29 = .ok (.goto 4, 3) := by decide +kernel
theorem dX7_toldParent_32 : decode cX7_toldParent 32 = .ok (.iconst 0, 1) := by decide +kernel
theorem dX7_toldParent_33 : decode cX7_toldParent 33 = .ok (.ireturn, 1) := by decide +kernel
theorem dX7_noteDirectory_0 : decode cX7_noteDirectory 0 = .ok (.aload_n 0, 1) := by decide +kernel
theorem dX7_noteDirectory_1 : decode cX7_noteDirectory 1 = .ok (.getfield 82, 3) := by decide +kernel
theorem dX7_noteDirectory_4 : decode cX7_noteDirectory 4 = .ok (.ifCond .lt 35, 3) := by decide +kernel
theorem dX7_noteDirectory_7 : decode cX7_noteDirectory 7 = .ok (.aload_n 0, 1) := by decide +kernel
theorem dX7_noteDirectory_8 : decode cX7_noteDirectory 8 = .ok (.getfield 82, 3) := by decide +kernel
theorem dX7_noteDirectory_11 : decode cX7_noteDirectory 11 = .ok (.aload_n 0, 1) := by decide +kernel
theorem dX7_noteDirectory_12 : decode cX7_noteDirectory 12 = .ok (.getfield 47, 3) := by decide +kernel
theorem dX7_noteDirectory_15 : decode cX7_noteDirectory 15 = .ok (.arraylength, 1) := by decide +kernel
theorem dX7_noteDirectory_16 : decode cX7_noteDirectory 16 = .ok (.if_icmp .ge 23, 3) := by decide +kernel
theorem dX7_noteDirectory_19 : decode cX7_noteDirectory 19 = .ok (.aload_n 0, 1) := by decide +kernel
theorem dX7_noteDirectory_20 : decode cX7_noteDirectory 20 = .ok (.getfield 47, 3) := by decide +kernel
theorem dX7_noteDirectory_23 : decode cX7_noteDirectory 23 = .ok (.aload_n 0, 1) := by decide +kernel
theorem dX7_noteDirectory_24 : decode cX7_noteDirectory 24 = .ok (.getfield 82, 3) := by decide +kernel
theorem dX7_noteDirectory_27 : decode cX7_noteDirectory 27 = .ok (.iload_n 1, 1) := by decide +kernel
theorem dX7_noteDirectory_28 : decode cX7_noteDirectory 28 = .ok (.iastore, 1) := by decide +kernel
theorem dX7_noteDirectory_29 : decode cX7_noteDirectory 29 = .ok (.aload_n 0, 1) := by decide +kernel
theorem dX7_noteDirectory_30 : decode cX7_noteDirectory 30 = .ok (.dup, 1) := by decide +kernel
theorem dX7_noteDirectory_31 : decode cX7_noteDirectory 31 = .ok (.getfield 82, 3) := by decide +kernel
theorem dX7_noteDirectory_34 : decode cX7_noteDirectory 34 = .ok (.iconst 1, 1) := by decide +kernel
theorem dX7_noteDirectory_35 : decode cX7_noteDirectory 35 = .ok (.iadd, 1) := by decide +kernel
theorem dX7_noteDirectory_36 : decode cX7_noteDirectory 36 = .ok (.putfield 82, 3) := by decide +kernel
theorem dX7_noteDirectory_39 : decode cX7_noteDirectory 39 = .ok (.return_, 1) := by decide +kernel
theorem dX7_fault_0 : decode cX7_fault 0 = .ok (.aload_n 0, 1) := by decide +kernel
theorem dX7_fault_1 : decode cX7_fault 1 = .ok (.getfield 97, 3) := by decide +kernel
theorem dX7_fault_4 : decode cX7_fault 4 = .ok (.ireturn, 1) := by decide +kernel
theorem dX7_rule_0 : decode cX7_rule 0 = .ok (.iload_n 1, 1) := by decide +kernel
theorem dX7_rule_1 : decode cX7_rule 1 = .ok (.ifCond .lt 9, 3) := by decide +kernel
theorem dX7_rule_4 : decode cX7_rule 4 = .ok (.iload_n 1, 1) := by decide +kernel
theorem dX7_rule_5 : decode cX7_rule 5 = .ok (.bipush 14, 2) := by decide +kernel
theorem dX7_rule_7 : decode cX7_rule 7 = .ok (.if_icmp .le 5, 3) := by decide +kernel
theorem dX7_rule_10 : decode cX7_rule 10 = .ok (.iconst (-1), 1) := by decide +kernel
theorem dX7_rule_11 : decode cX7_rule 11 = .ok (.ireturn, 1) := by decide +kernel
theorem dX7_rule_12 : decode cX7_rule 12 = .ok (.iload_n 1, 1) := by decide +kernel
theorem dX7_rule_13 : decode cX7_rule 13 = .ok (.tableswitch 142 6 14 #[51, 62, 73, 85, 97, 108, 117, 126, 134], 51) := by decide +kernel
theorem dX7_rule_64 : decode cX7_rule 64 = .ok (.aload_n 0, 1) := by decide +kernel
theorem dX7_rule_65 : decode cX7_rule 65 = .ok (.getfield 10, 3) := by decide +kernel
theorem dX7_rule_68 : decode cX7_rule 68 = .ok (.getfield 145, 3) := by decide +kernel
theorem dX7_rule_71 : decode cX7_rule 71 = .ok (.invokevirtual 149, 3) := by decide +kernel
theorem dX7_rule_74 : decode cX7_rule 74 = .ok (.ireturn, 1) := by decide +kernel
theorem dX7_rule_75 : decode cX7_rule 75 = .ok (.aload_n 0, 1) := by decide +kernel
theorem dX7_rule_76 : decode cX7_rule 76 = .ok (.getfield 10, 3) := by decide +kernel
theorem dX7_rule_79 : decode cX7_rule 79 = .ok (.getfield 145, 3) := by decide +kernel
theorem dX7_rule_82 : decode cX7_rule 82 = .ok (.invokevirtual 154, 3) := by decide +kernel
theorem dX7_rule_85 : decode cX7_rule 85 = .ok (.ireturn, 1) := by decide +kernel
theorem dX7_rule_86 : decode cX7_rule 86 = .ok (.aload_n 0, 1) := by decide +kernel
theorem dX7_rule_87 : decode cX7_rule 87 = .ok (.getfield 10, 3) := by decide +kernel
theorem dX7_rule_90 : decode cX7_rule 90 = .ok (.getfield 113, 3) := by decide +kernel
theorem dX7_rule_93 : decode cX7_rule 93 = .ok (.iconst 1, 1) := by decide +kernel
theorem dX7_rule_94 : decode cX7_rule 94 = .ok (.invokevirtual 157, 3) := by decide +kernel
theorem dX7_rule_97 : decode cX7_rule 97 = .ok (.ireturn, 1) := by decide +kernel
theorem dX7_rule_98 : decode cX7_rule 98 = .ok (.aload_n 0, 1) := by decide +kernel
theorem dX7_rule_99 : decode cX7_rule 99 = .ok (.getfield 10, 3) := by decide +kernel
theorem dX7_rule_102 : decode cX7_rule 102 = .ok (.getfield 113, 3) := by decide +kernel
theorem dX7_rule_105 : decode cX7_rule 105 = .ok (.iconst 2, 1) := by decide +kernel
theorem dX7_rule_106 : decode cX7_rule 106 = .ok (.invokevirtual 157, 3) := by decide +kernel
theorem dX7_rule_109 : decode cX7_rule 109 = .ok (.ireturn, 1) := by decide +kernel
theorem dX7_rule_110 : decode cX7_rule 110 = .ok (.aload_n 0, 1) := by decide +kernel
theorem dX7_rule_111 : decode cX7_rule 111 = .ok (.getfield 10, 3) := by decide +kernel
theorem dX7_rule_114 : decode cX7_rule 114 = .ok (.getfield 113, 3) := by decide +kernel
theorem dX7_rule_117 : decode cX7_rule 117 = .ok (.invokevirtual 160, 3) := by decide +kernel
theorem dX7_rule_120 : decode cX7_rule 120 = .ok (.ireturn, 1) := by decide +kernel
theorem dX7_rule_121 : decode cX7_rule 121 = .ok (.aload_n 0, 1) := by decide +kernel
theorem dX7_rule_122 : decode cX7_rule 122 = .ok (.getfield 10, 3) := by decide +kernel
theorem dX7_rule_125 : decode cX7_rule 125 = .ok (.iconst 0, 1) := by decide +kernel
theorem dX7_rule_126 : decode cX7_rule 126 = .ok (.invokevirtual 163, 3) := by decide +kernel
theorem dX7_rule_129 : decode cX7_rule 129 = .ok (.ireturn, 1) := by decide +kernel
theorem dX7_rule_130 : decode cX7_rule 130 = .ok (.aload_n 0, 1) := by decide +kernel
theorem dX7_rule_131 : decode cX7_rule 131 = .ok (.getfield 10, 3) := by decide +kernel
theorem dX7_rule_134 : decode cX7_rule 134 = .ok (.iconst 1, 1) := by decide +kernel
theorem dX7_rule_135 : decode cX7_rule 135 = .ok (.invokevirtual 163, 3) := by decide +kernel
theorem dX7_rule_138 : decode cX7_rule 138 = .ok (.ireturn, 1) := by decide +kernel
theorem dX7_rule_139 : decode cX7_rule 139 = .ok (.aload_n 0, 1) := by decide +kernel
theorem dX7_rule_140 : decode cX7_rule 140 = .ok (.getfield 10, 3) := by decide +kernel
theorem dX7_rule_143 : decode cX7_rule 143 = .ok (.getfield 167, 3) := by decide +kernel
theorem dX7_rule_146 : decode cX7_rule 146 = .ok (.ireturn, 1) := by decide +kernel
theorem dX7_rule_147 : decode cX7_rule 147 = .ok (.aload_n 0, 1) := by decide +kernel
theorem dX7_rule_148 : decode cX7_rule 148 = .ok (.getfield 10, 3) := by decide +kernel
theorem dX7_rule_151 : decode cX7_rule 151 = .ok (.getfield 170, 3) := by decide +kernel
theorem dX7_rule_154 : decode cX7_rule 154 = .ok (.ireturn, 1) := by decide +kernel
theorem dX7_rule_155 : decode cX7_rule 155 = .ok (.aload_n 0, 1) := by decide +kernel
theorem dX7_rule_156 : decode cX7_rule 156 = .ok (.getfield 10, 3) := by decide +kernel
theorem dX7_rule_159 : decode cX7_rule 159 = .ok (.getfield 173, 3) := by decide +kernel
theorem dX7_rule_162 : decode cX7_rule 162 = .ok (.iload_n 1, 1) := by decide +kernel
theorem dX7_rule_163 : decode cX7_rule 163 = .ok (.invokevirtual 177, 3) := by decide +kernel
theorem dX7_rule_166 : decode cX7_rule 166 = .ok (.ireturn, 1) := by decide +kernel
theorem dX7_group_0 : decode cX7_group 0 = .ok (.iload_n 1, 1) := by decide +kernel
theorem dX7_group_1 : decode cX7_group 1 = .ok (.ifCond .lt 27, 3) := by decide +kernel
theorem dX7_group_4 : decode cX7_group 4 = .ok (.iload_n 1, 1) := by decide +kernel
theorem dX7_group_5 : decode cX7_group 5 = .ok (.aload_n 0, 1) := by decide +kernel
theorem dX7_group_6 : decode cX7_group 6 = .ok (.getfield 10, 3) := by decide +kernel
theorem dX7_group_9 : decode cX7_group 9 = .ok (.getfield 173, 3) := by decide +kernel
theorem dX7_group_12 : decode cX7_group 12 = .ok (.getfield 182, 3) := by decide +kernel
theorem dX7_group_15 : decode cX7_group 15 = .ok (.if_icmp .ge 13, 3) := by decide +kernel
theorem dX7_group_18 : decode cX7_group 18 = .ok (.iload_n 2, 1) := by decide +kernel
theorem dX7_group_19 : decode cX7_group 19 = .ok (.ifCond .lt 9, 3) := by decide +kernel
theorem dX7_group_22 : decode cX7_group 22 = .ok (.iload_n 2, 1) := by decide +kernel
theorem dX7_group_23 : decode cX7_group 23 = .ok (.bipush 6, 2) := by decide +kernel
theorem dX7_group_25 : decode cX7_group 25 = .ok (.if_icmp .le 5, 3) := by decide +kernel
theorem dX7_group_28 : decode cX7_group 28 = .ok (.iconst (-1), 1) := by decide +kernel
theorem dX7_group_29 : decode cX7_group 29 = .ok (.ireturn, 1) := by decide +kernel
theorem dX7_group_30 : decode cX7_group 30 = .ok (.iload_n 2, 1) := by decide +kernel
theorem dX7_group_31 : decode cX7_group 31 = .ok (.tableswitch 79 0 3 #[29, 41, 53, 66], 29) := by decide +kernel
theorem dX7_group_60 : decode cX7_group 60 = .ok (.aload_n 0, 1) := by decide +kernel
theorem dX7_group_61 : decode cX7_group 61 = .ok (.getfield 10, 3) := by decide +kernel
theorem dX7_group_64 : decode cX7_group 64 = .ok (.getfield 145, 3) := by decide +kernel
theorem dX7_group_67 : decode cX7_group 67 = .ok (.iload_n 1, 1) := by decide +kernel
theorem dX7_group_68 : decode cX7_group 68 = .ok (.invokevirtual 185, 3) := by decide +kernel
theorem dX7_group_71 : decode cX7_group 71 = .ok (.ireturn, 1) := by decide +kernel
theorem dX7_group_72 : decode cX7_group 72 = .ok (.aload_n 0, 1) := by decide +kernel
theorem dX7_group_73 : decode cX7_group 73 = .ok (.getfield 10, 3) := by decide +kernel
theorem dX7_group_76 : decode cX7_group 76 = .ok (.getfield 145, 3) := by decide +kernel
theorem dX7_group_79 : decode cX7_group 79 = .ok (.iload_n 1, 1) := by decide +kernel
theorem dX7_group_80 : decode cX7_group 80 = .ok (.invokevirtual 188, 3) := by decide +kernel
theorem dX7_group_83 : decode cX7_group 83 = .ok (.ireturn, 1) := by decide +kernel
theorem dX7_group_84 : decode cX7_group 84 = .ok (.aload_n 0, 1) := by decide +kernel
theorem dX7_group_85 : decode cX7_group 85 = .ok (.getfield 10, 3) := by decide +kernel
theorem dX7_group_88 : decode cX7_group 88 = .ok (.getfield 113, 3) := by decide +kernel
theorem dX7_group_91 : decode cX7_group 91 = .ok (.iload_n 1, 1) := by decide +kernel
theorem dX7_group_92 : decode cX7_group 92 = .ok (.iconst 0, 1) := by decide +kernel
theorem dX7_group_93 : decode cX7_group 93 = .ok (.invokevirtual 191, 3) := by decide +kernel
theorem dX7_group_96 : decode cX7_group 96 = .ok (.ireturn, 1) := by decide +kernel
theorem dX7_group_97 : decode cX7_group 97 = .ok (.aload_n 0, 1) := by decide +kernel
theorem dX7_group_98 : decode cX7_group 98 = .ok (.getfield 10, 3) := by decide +kernel
theorem dX7_group_101 : decode cX7_group 101 = .ok (.getfield 113, 3) := by decide +kernel
theorem dX7_group_104 : decode cX7_group 104 = .ok (.iload_n 1, 1) := by decide +kernel
theorem dX7_group_105 : decode cX7_group 105 = .ok (.iconst 1, 1) := by decide +kernel
theorem dX7_group_106 : decode cX7_group 106 = .ok (.invokevirtual 191, 3) := by decide +kernel
theorem dX7_group_109 : decode cX7_group 109 = .ok (.ireturn, 1) := by decide +kernel
theorem dX7_group_110 : decode cX7_group 110 = .ok (.aload_n 0, 1) := by decide +kernel
theorem dX7_group_111 : decode cX7_group 111 = .ok (.getfield 10, 3) := by decide +kernel
theorem dX7_group_114 : decode cX7_group 114 = .ok (.getfield 145, 3) := by decide +kernel
theorem dX7_group_117 : decode cX7_group 117 = .ok (.iload_n 1, 1) := by decide +kernel
theorem dX7_group_118 : decode cX7_group 118 = .ok (.iload_n 2, 1) := by decide +kernel
theorem dX7_group_119 : decode cX7_group 119 = .ok (.iconst 3, 1) := by decide +kernel
theorem dX7_group_120 : decode cX7_group 120 = .ok (.isub, 1) := by decide +kernel
theorem dX7_group_121 : decode cX7_group 121 = .ok (.invokevirtual 194, 3) := by decide +kernel
theorem dX7_group_124 : decode cX7_group 124 = .ok (.ireturn, 1) := by decide +kernel
theorem dX7_inode_0 : decode cX7_inode 0 = .ok (.aload_n 0, 1) := by decide +kernel
theorem dX7_inode_1 : decode cX7_inode 1 = .ok (.getfield 10, 3) := by decide +kernel
theorem dX7_inode_4 : decode cX7_inode 4 = .ok (.getfield 113, 3) := by decide +kernel
theorem dX7_inode_7 : decode cX7_inode 7 = .ok (.iload_n 1, 1) := by decide +kernel
theorem dX7_inode_8 : decode cX7_inode 8 = .ok (.invokevirtual 197, 3) := by decide +kernel
theorem dX7_inode_11 : decode cX7_inode 11 = .ok (.ifCond .eq 13, 3) := by decide +kernel
theorem dX7_inode_14 : decode cX7_inode 14 = .ok (.iload_n 2, 1) := by decide +kernel
theorem dX7_inode_15 : decode cX7_inode 15 = .ok (.ifCond .lt 9, 3) := by decide +kernel
theorem dX7_inode_18 : decode cX7_inode 18 = .ok (.iload_n 2, 1) := by decide +kernel
theorem dX7_inode_19 : decode cX7_inode 19 = .ok (.bipush 7, 2) := by decide +kernel
theorem dX7_inode_21 : decode cX7_inode 21 = .ok (.if_icmp .le 5, 3) := by decide +kernel
theorem dX7_inode_24 : decode cX7_inode 24 = .ok (.iconst (-1), 1) := by decide +kernel
theorem dX7_inode_25 : decode cX7_inode 25 = .ok (.ireturn, 1) := by decide +kernel
theorem dX7_inode_26 : decode cX7_inode 26 = .ok (.aload_n 0, 1) := by decide +kernel
theorem dX7_inode_27 : decode cX7_inode 27 = .ok (.getfield 10, 3) := by decide +kernel
theorem dX7_inode_30 : decode cX7_inode 30 = .ok (.getfield 113, 3) := by decide +kernel
theorem dX7_inode_33 : decode cX7_inode 33 = .ok (.iload_n 1, 1) := by decide +kernel
theorem dX7_inode_34 : decode cX7_inode 34 = .ok (.invokevirtual 200, 3) := by decide +kernel
theorem dX7_inode_37 : decode cX7_inode 37 = .ok (.istore_n 3, 1) := by decide +kernel
theorem dX7_inode_38 : decode cX7_inode 38 = .ok (.iload_n 2, 1) := by decide +kernel
theorem dX7_inode_39 : decode cX7_inode 39 = .ok (.ifCond .ne 5, 3) := by decide +kernel
theorem dX7_inode_42 : decode cX7_inode 42 = .ok (.iload_n 3, 1) := by decide +kernel
theorem dX7_inode_43 : decode cX7_inode 43 = .ok (.ireturn, 1) := by decide +kernel
theorem dX7_inode_44 : decode cX7_inode 44 = .ok (.iload_n 3, 1) := by decide +kernel
theorem dX7_inode_45 : decode cX7_inode 45 = .ok (.ifCond .ne 6, 3) := by decide +kernel
theorem dX7_inode_48 : decode cX7_inode 48 = .ok (.bipush (-4), 2) := by decide +kernel
theorem dX7_inode_50 : decode cX7_inode 50 = .ok (.ireturn, 1) := by decide +kernel
theorem dX7_inode_51 : decode cX7_inode 51 = .ok (.iload_n 2, 1) := by decide +kernel
theorem dX7_inode_52 : decode cX7_inode 52 = .ok (.tableswitch 96 1 5 #[36, 48, 60, 72, 84], 36) := by decide +kernel
theorem dX7_inode_88 : decode cX7_inode 88 = .ok (.aload_n 0, 1) := by decide +kernel
theorem dX7_inode_89 : decode cX7_inode 89 = .ok (.getfield 10, 3) := by decide +kernel
theorem dX7_inode_92 : decode cX7_inode 92 = .ok (.getfield 113, 3) := by decide +kernel
theorem dX7_inode_95 : decode cX7_inode 95 = .ok (.iload_n 1, 1) := by decide +kernel
theorem dX7_inode_96 : decode cX7_inode 96 = .ok (.invokevirtual 203, 3) := by decide +kernel
theorem dX7_inode_99 : decode cX7_inode 99 = .ok (.ireturn, 1) := by decide +kernel
theorem dX7_inode_100 : decode cX7_inode 100 = .ok (.aload_n 0, 1) := by decide +kernel
theorem dX7_inode_101 : decode cX7_inode 101 = .ok (.getfield 10, 3) := by decide +kernel
theorem dX7_inode_104 : decode cX7_inode 104 = .ok (.getfield 113, 3) := by decide +kernel
theorem dX7_inode_107 : decode cX7_inode 107 = .ok (.iload_n 1, 1) := by decide +kernel
theorem dX7_inode_108 : decode cX7_inode 108 = .ok (.invokevirtual 206, 3) := by decide +kernel
theorem dX7_inode_111 : decode cX7_inode 111 = .ok (.ireturn, 1) := by decide +kernel
theorem dX7_inode_112 : decode cX7_inode 112 = .ok (.aload_n 0, 1) := by decide +kernel
theorem dX7_inode_113 : decode cX7_inode 113 = .ok (.getfield 10, 3) := by decide +kernel
theorem dX7_inode_116 : decode cX7_inode 116 = .ok (.getfield 113, 3) := by decide +kernel
theorem dX7_inode_119 : decode cX7_inode 119 = .ok (.iload_n 1, 1) := by decide +kernel
theorem dX7_inode_120 : decode cX7_inode 120 = .ok (.invokevirtual 209, 3) := by decide +kernel
theorem dX7_inode_123 : decode cX7_inode 123 = .ok (.ireturn, 1) := by decide +kernel
theorem dX7_inode_124 : decode cX7_inode 124 = .ok (.aload_n 0, 1) := by decide +kernel
theorem dX7_inode_125 : decode cX7_inode 125 = .ok (.getfield 10, 3) := by decide +kernel
theorem dX7_inode_128 : decode cX7_inode 128 = .ok (.getfield 113, 3) := by decide +kernel
theorem dX7_inode_131 : decode cX7_inode 131 = .ok (.iload_n 1, 1) := by decide +kernel
theorem dX7_inode_132 : decode cX7_inode 132 = .ok (.invokevirtual 212, 3) := by decide +kernel
theorem dX7_inode_135 : decode cX7_inode 135 = .ok (.ireturn, 1) := by decide +kernel
theorem dX7_inode_136 : decode cX7_inode 136 = .ok (.aload_n 0, 1) := by decide +kernel
theorem dX7_inode_137 : decode cX7_inode 137 = .ok (.getfield 10, 3) := by decide +kernel
theorem dX7_inode_140 : decode cX7_inode 140 = .ok (.getfield 113, 3) := by decide +kernel
theorem dX7_inode_143 : decode cX7_inode 143 = .ok (.iload_n 1, 1) := by decide +kernel
theorem dX7_inode_144 : decode cX7_inode 144 = .ok (.invokevirtual 215, 3) := by decide +kernel
theorem dX7_inode_147 : decode cX7_inode 147 = .ok (.ireturn, 1) := by decide +kernel
theorem dX7_inode_148 : decode cX7_inode 148 = .ok (.aload_n 0, 1) := by decide +kernel
theorem dX7_inode_149 : decode cX7_inode 149 = .ok (.getfield 10, 3) := by decide +kernel
theorem dX7_inode_152 : decode cX7_inode 152 = .ok (.iload_n 1, 1) := by decide +kernel
theorem dX7_inode_153 : decode cX7_inode 153 = .ok (.iload_n 2, 1) := by decide +kernel
theorem dX7_inode_154 : decode cX7_inode 154 = .ok (.bipush 7, 2) := by decide +kernel
theorem dX7_inode_156 : decode cX7_inode 156 = .ok (.if_icmp .ne 7, 3) := by decide +kernel
theorem dX7_inode_159 : decode cX7_inode 159 = .ok (.iconst 1, 1) := by decide +kernel
theorem dX7_inode_160 : decode cX7_inode 160 = .ok (.goto 4, 3) := by decide +kernel
theorem dX7_inode_163 : decode cX7_inode 163 = .ok (.iconst 0, 1) := by decide +kernel
theorem dX7_inode_164 : decode cX7_inode 164 = .ok (.invokevirtual 218, 3) := by decide +kernel
theorem dX7_inode_167 : decode cX7_inode 167 = .ok (.ireturn, 1) := by decide +kernel
theorem dX7_block_0 : decode cX7_block 0 = .ok (.aload_n 0, 1) := by decide +kernel
theorem dX7_block_1 : decode cX7_block 1 = .ok (.getfield 10, 3) := by decide +kernel
theorem dX7_block_4 : decode cX7_block 4 = .ok (.getfield 113, 3) := by decide +kernel
theorem dX7_block_7 : decode cX7_block 7 = .ok (.iload_n 1, 1) := by decide +kernel
theorem dX7_block_8 : decode cX7_block 8 = .ok (.invokevirtual 197, 3) := by decide +kernel
theorem dX7_block_11 : decode cX7_block 11 = .ok (.ifCond .eq 7, 3) := by decide +kernel
theorem dX7_block_14 : decode cX7_block 14 = .ok (.iload_n 2, 1) := by decide +kernel
theorem dX7_block_15 : decode cX7_block 15 = .ok (.ifCond .ge 5, 3) := by decide +kernel
theorem dX7_block_18 : decode cX7_block 18 = .ok (.iconst (-1), 1) := by decide +kernel
theorem dX7_block_19 : decode cX7_block 19 = .ok (.ireturn, 1) := by decide +kernel
theorem dX7_block_20 : decode cX7_block 20 = .ok (.iload_n 2, 1) := by decide +kernel
theorem dX7_block_21 : decode cX7_block 21 = .ok (.aload_n 0, 1) := by decide +kernel
theorem dX7_block_22 : decode cX7_block 22 = .ok (.getfield 10, 3) := by decide +kernel
theorem dX7_block_25 : decode cX7_block 25 = .ok (.getfield 113, 3) := by decide +kernel
theorem dX7_block_28 : decode cX7_block 28 = .ok (.iload_n 1, 1) := by decide +kernel
theorem dX7_block_29 : decode cX7_block 29 = .ok (.invokevirtual 212, 3) := by decide +kernel
theorem dX7_block_32 : decode cX7_block 32 = .ok (.if_icmp .ge 18, 3) := by decide +kernel
theorem dX7_block_35 : decode cX7_block 35 = .ok (.aload_n 0, 1) := by decide +kernel
theorem dX7_block_36 : decode cX7_block 36 = .ok (.getfield 10, 3) := by decide +kernel
theorem dX7_block_39 : decode cX7_block 39 = .ok (.getfield 113, 3) := by decide +kernel
theorem dX7_block_42 : decode cX7_block 42 = .ok (.iload_n 1, 1) := by decide +kernel
theorem dX7_block_43 : decode cX7_block 43 = .ok (.iload_n 2, 1) := by decide +kernel
theorem dX7_block_44 : decode cX7_block 44 = .ok (.invokevirtual 222, 3) := by decide +kernel
theorem dX7_block_47 : decode cX7_block 47 = .ok (.goto 5, 3) := by decide +kernel
theorem dX7_block_50 : decode cX7_block 50 = .ok (.bipush (-4), 2) := by decide +kernel
theorem dX7_block_52 : decode cX7_block 52 = .ok (.ireturn, 1) := by decide +kernel
theorem dX7_fragment_0 : decode cX7_fragment 0 = .ok (.aload_n 0, 1) := by decide +kernel
theorem dX7_fragment_1 : decode cX7_fragment 1 = .ok (.getfield 10, 3) := by decide +kernel
theorem dX7_fragment_4 : decode cX7_fragment 4 = .ok (.getfield 173, 3) := by decide +kernel
theorem dX7_fragment_7 : decode cX7_fragment 7 = .ok (.iload_n 1, 1) := by decide +kernel
theorem dX7_fragment_8 : decode cX7_fragment 8 = .ok (.invokevirtual 225, 3) := by decide +kernel
theorem dX7_fragment_11 : decode cX7_fragment 11 = .ok (.ifCond .eq 12, 3) := by decide +kernel
theorem dX7_fragment_14 : decode cX7_fragment 14 = .ok (.iload_n 2, 1) := by decide +kernel
theorem dX7_fragment_15 : decode cX7_fragment 15 = .ok (.ifCond .lt 8, 3) := by decide +kernel
theorem dX7_fragment_18 : decode cX7_fragment 18 = .ok (.iload_n 2, 1) := by decide +kernel
theorem dX7_fragment_19 : decode cX7_fragment 19 = .ok (.iconst 1, 1) := by decide +kernel
theorem dX7_fragment_20 : decode cX7_fragment 20 = .ok (.if_icmp .le 5, 3) := by decide +kernel
theorem dX7_fragment_23 : decode cX7_fragment 23 = .ok (.iconst (-1), 1) := by decide +kernel
theorem dX7_fragment_24 : decode cX7_fragment 24 = .ok (.ireturn, 1) := by decide +kernel
theorem dX7_fragment_25 : decode cX7_fragment 25 = .ok (.iload_n 2, 1) := by decide +kernel
theorem dX7_fragment_26 : decode cX7_fragment 26 = .ok (.ifCond .ne 23, 3) := by decide +kernel
theorem dX7_fragment_29 : decode cX7_fragment 29 = .ok (.aload_n 0, 1) := by decide +kernel
theorem dX7_fragment_30 : decode cX7_fragment 30 = .ok (.getfield 10, 3) := by decide +kernel
theorem dX7_fragment_33 : decode cX7_fragment 33 = .ok (.getfield 145, 3) := by decide +kernel
theorem dX7_fragment_36 : decode cX7_fragment 36 = .ok (.iload_n 1, 1) := by decide +kernel
theorem dX7_fragment_37 : decode cX7_fragment 37 = .ok (.invokevirtual 228, 3) := by decide +kernel
theorem dX7_fragment_40 : decode cX7_fragment 40 = .ok (.ifCond .eq 7, 3) := by decide +kernel
theorem dX7_fragment_43 : decode cX7_fragment 43 = .ok (.iconst 1, 1) := by decide +kernel
theorem dX7_fragment_44 : decode cX7_fragment 44 = .ok (.goto 4, 3) := by decide +kernel
theorem dX7_fragment_47 : decode cX7_fragment 47 = .ok (.iconst 0, 1) := by decide +kernel
theorem dX7_fragment_48 : decode cX7_fragment 48 = .ok (.ireturn, 1) := by decide +kernel
theorem dX7_fragment_49 : decode cX7_fragment 49 = .ok (.aload_n 0, 1) := by decide +kernel
theorem dX7_fragment_50 : decode cX7_fragment 50 = .ok (.getfield 10, 3) := by decide +kernel
theorem dX7_fragment_53 : decode cX7_fragment 53 = .ok (.getfield 113, 3) := by decide +kernel
theorem dX7_fragment_56 : decode cX7_fragment 56 = .ok (.iload_n 1, 1) := by decide +kernel
theorem dX7_fragment_57 : decode cX7_fragment 57 = .ok (.invokevirtual 231, 3) := by decide +kernel
theorem dX7_fragment_60 : decode cX7_fragment 60 = .ok (.ireturn, 1) := by decide +kernel
theorem dX7_find_0 : decode cX7_find 0 = .ok (.aload_n 0, 1) := by decide +kernel
theorem dX7_find_1 : decode cX7_find 1 = .ok (.getfield 10, 3) := by decide +kernel
theorem dX7_find_4 : decode cX7_find 4 = .ok (.getfield 113, 3) := by decide +kernel
theorem dX7_find_7 : decode cX7_find 7 = .ok (.iload_n 1, 1) := by decide +kernel
theorem dX7_find_8 : decode cX7_find 8 = .ok (.invokevirtual 200, 3) := by decide +kernel
theorem dX7_find_11 : decode cX7_find 11 = .ok (.iconst 1, 1) := by decide +kernel
theorem dX7_find_12 : decode cX7_find 12 = .ok (.if_icmp .ne 10, 3) := by decide +kernel
theorem dX7_find_15 : decode cX7_find 15 = .ok (.iload_n 2, 1) := by decide +kernel
theorem dX7_find_16 : decode cX7_find 16 = .ok (.invokestatic 234, 3) := by decide +kernel
theorem dX7_find_19 : decode cX7_find 19 = .ok (.ifCond .ne 5, 3) := by decide +kernel
theorem dX7_find_22 : decode cX7_find 22 = .ok (.iconst (-1), 1) := by decide +kernel
theorem dX7_find_23 : decode cX7_find 23 = .ok (.ireturn, 1) := by decide +kernel
theorem dX7_find_24 : decode cX7_find 24 = .ok (.aload_n 0, 1) := by decide +kernel
theorem dX7_find_25 : decode cX7_find 25 = .ok (.getfield 10, 3) := by decide +kernel
theorem dX7_find_28 : decode cX7_find 28 = .ok (.getfield 113, 3) := by decide +kernel
theorem dX7_find_31 : decode cX7_find 31 = .ok (.iload_n 1, 1) := by decide +kernel
theorem dX7_find_32 : decode cX7_find 32 = .ok (.iload_n 2, 1) := by decide +kernel
theorem dX7_find_33 : decode cX7_find 33 = .ok (.invokevirtual 237, 3) := by decide +kernel
theorem dX7_find_36 : decode cX7_find 36 = .ok (.ireturn, 1) := by decide +kernel
theorem dX7_entry_0 : decode cX7_entry 0 = .ok (.aload_n 0, 1) := by decide +kernel
theorem dX7_entry_1 : decode cX7_entry 1 = .ok (.getfield 10, 3) := by decide +kernel
theorem dX7_entry_4 : decode cX7_entry 4 = .ok (.getfield 113, 3) := by decide +kernel
theorem dX7_entry_7 : decode cX7_entry 7 = .ok (.iload_n 1, 1) := by decide +kernel
theorem dX7_entry_8 : decode cX7_entry 8 = .ok (.invokevirtual 200, 3) := by decide +kernel
theorem dX7_entry_11 : decode cX7_entry 11 = .ok (.iconst 1, 1) := by decide +kernel
theorem dX7_entry_12 : decode cX7_entry 12 = .ok (.if_icmp .ne 7, 3) := by decide +kernel
theorem dX7_entry_15 : decode cX7_entry 15 = .ok (.iload_n 2, 1) := by decide +kernel
theorem dX7_entry_16 : decode cX7_entry 16 = .ok (.ifCond .ge 5, 3) := by decide +kernel
theorem dX7_entry_19 : decode cX7_entry 19 = .ok (.iconst (-1), 1) := by decide +kernel
theorem dX7_entry_20 : decode cX7_entry 20 = .ok (.ireturn, 1) := by decide +kernel
theorem dX7_entry_21 : decode cX7_entry 21 = .ok (.iconst 0, 1) := by decide +kernel
theorem dX7_entry_22 : decode cX7_entry 22 = .ok (.istore_n 3, 1) := by decide +kernel
theorem dX7_entry_23 : decode cX7_entry 23 = .ok (.iconst 0, 1) := by decide +kernel
theorem dX7_entry_24 : decode cX7_entry 24 = .ok (.istore 4, 2) := by decide +kernel
theorem dX7_entry_26 : decode cX7_entry 26 = .ok (.iload 4, 2) := by decide +kernel
theorem dX7_entry_28 : decode cX7_entry 28 = .ok (.bipush 10, 2) := by decide +kernel
theorem dX7_entry_30 : decode cX7_entry 30 = .ok (.if_icmp .ge 42, 3) := by decide +kernel
theorem dX7_entry_33 : decode cX7_entry 33 = .ok (.aload_n 0, 1) := by decide +kernel
theorem dX7_entry_34 : decode cX7_entry 34 = .ok (.getfield 10, 3) := by decide +kernel
theorem dX7_entry_37 : decode cX7_entry 37 = .ok (.getfield 113, 3) := by decide +kernel
theorem dX7_entry_40 : decode cX7_entry 40 = .ok (.iload_n 1, 1) := by decide +kernel
theorem dX7_entry_41 : decode cX7_entry 41 = .ok (.iload 4, 2) := by decide +kernel
theorem dX7_entry_43 : decode cX7_entry 43 = .ok (.invokevirtual 237, 3) := by decide +kernel
theorem dX7_entry_46 : decode cX7_entry 46 = .ok (.istore 5, 2) := by decide +kernel
theorem dX7_entry_48 : decode cX7_entry 48 = .ok (.iload 5, 2) := by decide +kernel
theorem dX7_entry_50 : decode cX7_entry 50 = .ok (.bipush (-4), 2) := by decide +kernel
theorem dX7_entry_52 : decode cX7_entry 52 = .ok (.if_icmp .eq 14, 3) := by decide +kernel
theorem dX7_entry_55 : decode cX7_entry 55 = .ok (.iload_n 3, 1) := by decide +kernel
theorem dX7_entry_56 : decode cX7_entry 56 = .ok (.iload_n 2, 1) := by decide +kernel
theorem dX7_entry_57 : decode cX7_entry 57 = .ok (.if_icmp .ne 6, 3) := by decide +kernel
theorem dX7_entry_60 : decode cX7_entry 60 = .ok (.iload 5, 2) := by decide +kernel
theorem dX7_entry_62 : decode cX7_entry 62 = .ok (.ireturn, 1) := by decide +kernel
theorem dX7_entry_63 : decode cX7_entry 63 = .ok (.iinc 3 1, 3) := by decide +kernel
theorem dX7_entry_66 : decode cX7_entry 66 = .ok (.iinc 4 1, 3) := by decide +kernel
theorem dX7_entry_69 : decode cX7_entry 69 = .ok (.goto (-43), 3) := by decide +kernel
theorem dX7_entry_72 : decode cX7_entry 72 = .ok (.bipush (-4), 2) := by decide +kernel
theorem dX7_entry_74 : decode cX7_entry 74 = .ok (.ireturn, 1) := by decide +kernel
theorem dX7_where_0 : decode cX7_where 0 = .ok (.aload_n 0, 1) := by decide +kernel
theorem dX7_where_1 : decode cX7_where 1 = .ok (.getfield 10, 3) := by decide +kernel
theorem dX7_where_4 : decode cX7_where 4 = .ok (.getfield 113, 3) := by decide +kernel
theorem dX7_where_7 : decode cX7_where 7 = .ok (.iload_n 1, 1) := by decide +kernel
theorem dX7_where_8 : decode cX7_where 8 = .ok (.invokevirtual 200, 3) := by decide +kernel
theorem dX7_where_11 : decode cX7_where 11 = .ok (.iconst 1, 1) := by decide +kernel
theorem dX7_where_12 : decode cX7_where 12 = .ok (.if_icmp .ne 13, 3) := by decide +kernel
theorem dX7_where_15 : decode cX7_where 15 = .ok (.iload_n 2, 1) := by decide +kernel
theorem dX7_where_16 : decode cX7_where 16 = .ok (.iconst 1, 1) := by decide +kernel
theorem dX7_where_17 : decode cX7_where 17 = .ok (.if_icmp .eq 10, 3) := by decide +kernel
theorem dX7_where_20 : decode cX7_where 20 = .ok (.iload_n 2, 1) := by decide +kernel
theorem dX7_where_21 : decode cX7_where 21 = .ok (.iconst 2, 1) := by decide +kernel
theorem dX7_where_22 : decode cX7_where 22 = .ok (.if_icmp .eq 5, 3) := by decide +kernel
theorem dX7_where_25 : decode cX7_where 25 = .ok (.iconst (-1), 1) := by decide +kernel
theorem dX7_where_26 : decode cX7_where 26 = .ok (.ireturn, 1) := by decide +kernel
theorem dX7_where_27 : decode cX7_where 27 = .ok (.aload_n 0, 1) := by decide +kernel
theorem dX7_where_28 : decode cX7_where 28 = .ok (.getfield 10, 3) := by decide +kernel
theorem dX7_where_31 : decode cX7_where 31 = .ok (.iload_n 1, 1) := by decide +kernel
theorem dX7_where_32 : decode cX7_where 32 = .ok (.iload_n 2, 1) := by decide +kernel
theorem dX7_where_33 : decode cX7_where 33 = .ok (.invokevirtual 240, 3) := by decide +kernel
theorem dX7_where_36 : decode cX7_where 36 = .ok (.ireturn, 1) := by decide +kernel
theorem dX7_isName_0 : decode cX7_isName 0 = .ok (.iload_n 0, 1) := by decide +kernel
theorem dX7_isName_1 : decode cX7_isName 1 = .ok (.ifCond .lt 13, 3) := by decide +kernel
theorem dX7_isName_4 : decode cX7_isName 4 = .ok (.iload_n 0, 1) := by decide +kernel
theorem dX7_isName_5 : decode cX7_isName 5 = .ok (.bipush 10, 2) := by decide +kernel
theorem dX7_isName_7 : decode cX7_isName 7 = .ok (.if_icmp .ge 7, 3) := by decide +kernel
theorem dX7_isName_10 : decode cX7_isName 10 = .ok (.iconst 1, 1) := by decide +kernel
theorem dX7_isName_11 : decode cX7_isName 11 = .ok (.goto 4, 3) := by decide +kernel
theorem dX7_isName_14 : decode cX7_isName 14 = .ok (.iconst 0, 1) := by decide +kernel
theorem dX7_isName_15 : decode cX7_isName 15 = .ok (.ireturn, 1) := by decide +kernel
theorem dX7_make_0 : decode cX7_make 0 = .ok (.aload_n 0, 1) := by decide +kernel
theorem dX7_make_1 : decode cX7_make 1 = .ok (.getfield 21, 3) := by decide +kernel
theorem dX7_make_4 : decode cX7_make 4 = .ok (.iload_n 1, 1) := by decide +kernel
theorem dX7_make_5 : decode cX7_make 5 = .ok (.iload_n 2, 1) := by decide +kernel
theorem dX7_make_6 : decode cX7_make 6 = .ok (.iload_n 3, 1) := by decide +kernel
theorem dX7_make_7 : decode cX7_make 7 = .ok (.invokevirtual 130, 3) := by decide +kernel
theorem dX7_make_10 : decode cX7_make 10 = .ok (.ireturn, 1) := by decide +kernel
theorem dX7_grow_0 : decode cX7_grow 0 = .ok (.aload_n 0, 1) := by decide +kernel
theorem dX7_grow_1 : decode cX7_grow 1 = .ok (.getfield 21, 3) := by decide +kernel
theorem dX7_grow_4 : decode cX7_grow 4 = .ok (.iload_n 1, 1) := by decide +kernel
theorem dX7_grow_5 : decode cX7_grow 5 = .ok (.iload_n 2, 1) := by decide +kernel
theorem dX7_grow_6 : decode cX7_grow 6 = .ok (.invokevirtual 141, 3) := by decide +kernel
theorem dX7_grow_9 : decode cX7_grow 9 = .ok (.ireturn, 1) := by decide +kernel
theorem dX7_shrink_0 : decode cX7_shrink 0 = .ok (.aload_n 0, 1) := by decide +kernel
theorem dX7_shrink_1 : decode cX7_shrink 1 = .ok (.getfield 21, 3) := by decide +kernel
theorem dX7_shrink_4 : decode cX7_shrink 4 = .ok (.iload_n 1, 1) := by decide +kernel
theorem dX7_shrink_5 : decode cX7_shrink 5 = .ok (.iload_n 2, 1) := by decide +kernel
theorem dX7_shrink_6 : decode cX7_shrink 6 = .ok (.invokevirtual 243, 3) := by decide +kernel
theorem dX7_shrink_9 : decode cX7_shrink 9 = .ok (.ireturn, 1) := by decide +kernel
theorem dX7_remove_0 : decode cX7_remove 0 = .ok (.aload_n 0, 1) := by decide +kernel
theorem dX7_remove_1 : decode cX7_remove 1 = .ok (.getfield 21, 3) := by decide +kernel
theorem dX7_remove_4 : decode cX7_remove 4 = .ok (.iload_n 1, 1) := by decide +kernel
theorem dX7_remove_5 : decode cX7_remove 5 = .ok (.invokevirtual 246, 3) := by decide +kernel
theorem dX7_remove_8 : decode cX7_remove 8 = .ok (.ireturn, 1) := by decide +kernel
theorem dX7_move_0 : decode cX7_move 0 = .ok (.aload_n 0, 1) := by decide +kernel
theorem dX7_move_1 : decode cX7_move 1 = .ok (.getfield 21, 3) := by decide +kernel
theorem dX7_move_4 : decode cX7_move 4 = .ok (.iload_n 1, 1) := by decide +kernel
theorem dX7_move_5 : decode cX7_move 5 = .ok (.iload_n 2, 1) := by decide +kernel
theorem dX7_move_6 : decode cX7_move 6 = .ok (.iload_n 3, 1) := by decide +kernel
theorem dX7_move_7 : decode cX7_move 7 = .ok (.invokevirtual 249, 3) := by decide +kernel
theorem dX7_move_10 : decode cX7_move 10 = .ok (.ireturn, 1) := by decide +kernel
theorem dX7_gather_0 : decode cX7_gather 0 = .ok (.aload_n 0, 1) := by decide +kernel
theorem dX7_gather_1 : decode cX7_gather 1 = .ok (.getfield 21, 3) := by decide +kernel
theorem dX7_gather_4 : decode cX7_gather 4 = .ok (.iload_n 1, 1) := by decide +kernel
theorem dX7_gather_5 : decode cX7_gather 5 = .ok (.invokevirtual 252, 3) := by decide +kernel
theorem dX7_gather_8 : decode cX7_gather 8 = .ok (.ireturn, 1) := by decide +kernel
theorem dX7_draw_0 : decode cX7_draw 0 = .ok (.iload_n 2, 1) := by decide +kernel
theorem dX7_draw_1 : decode cX7_draw 1 = .ok (.iconst 1, 1) := by decide +kernel
theorem dX7_draw_2 : decode cX7_draw 2 = .ok (.if_icmp .lt 9, 3) := by decide +kernel
theorem dX7_draw_5 : decode cX7_draw 5 = .ok (.iload_n 2, 1) := by decide +kernel
theorem dX7_draw_6 : decode cX7_draw 6 = .ok (.bipush 20, 2) := by decide +kernel
theorem dX7_draw_8 : decode cX7_draw 8 = .ok (.if_icmp .le 5, 3) := by decide +kernel
theorem dX7_draw_11 : decode cX7_draw 11 = .ok (.iconst (-1), 1) := by decide +kernel
theorem dX7_draw_12 : decode cX7_draw 12 = .ok (.ireturn, 1) := by decide +kernel
theorem dX7_draw_13 : decode cX7_draw 13 = .ok (.aload_n 0, 1) := by decide +kernel
theorem dX7_draw_14 : decode cX7_draw 14 = .ok (.getfield 10, 3) := by decide +kernel
theorem dX7_draw_17 : decode cX7_draw 17 = .ok (.invokevirtual 255, 3) := by decide +kernel
theorem dX7_draw_20 : decode cX7_draw 20 = .ok (.ifCond .eq 6, 3) := by decide +kernel
theorem dX7_draw_23 : decode cX7_draw 23 = .ok (.bipush (-2), 2) := by decide +kernel
theorem dX7_draw_25 : decode cX7_draw 25 = .ok (.ireturn, 1) := by decide +kernel
theorem dX7_draw_26 : decode cX7_draw 26 = .ok (.aload_n 0, 1) := by decide +kernel
theorem dX7_draw_27 : decode cX7_draw 27 = .ok (.iload_n 1, 1) := by decide +kernel
theorem dX7_draw_28 : decode cX7_draw 28 = .ok (.putfield 258, 3) := by decide +kernel
theorem dX7_draw_31 : decode cX7_draw 31 = .ok (.iconst 0, 1) := by decide +kernel
theorem dX7_draw_32 : decode cX7_draw 32 = .ok (.istore_n 3, 1) := by decide +kernel
theorem dX7_draw_33 : decode cX7_draw 33 = .ok (.iconst 0, 1) := by decide +kernel
theorem dX7_draw_34 : decode cX7_draw 34 = .ok (.istore 4, 2) := by decide +kernel
theorem dX7_draw_36 : decode cX7_draw 36 = .ok (.iload 4, 2) := by decide +kernel
theorem dX7_draw_38 : decode cX7_draw 38 = .ok (.iload_n 2, 1) := by decide +kernel
theorem dX7_draw_39 : decode cX7_draw 39 = .ok (.if_icmp .ge 19, 3) := by decide +kernel
theorem dX7_draw_42 : decode cX7_draw 42 = .ok (.aload_n 0, 1) := by decide +kernel
theorem dX7_draw_43 : decode cX7_draw 43 = .ok (.invokevirtual 261, 3) := by decide +kernel
theorem dX7_draw_46 : decode cX7_draw 46 = .ok (.ifCond .lt 6, 3) := by decide +kernel
theorem dX7_draw_49 : decode cX7_draw 49 = .ok (.iinc 3 1, 3) := by decide +kernel
theorem dX7_draw_52 : decode cX7_draw 52 = .ok (.iinc 4 1, 3) := by decide +kernel
theorem dX7_draw_55 : decode cX7_draw 55 = .ok (.goto (-19), 3) := by decide +kernel
theorem dX7_draw_58 : decode cX7_draw 58 = .ok (.iload_n 3, 1) := by decide +kernel
theorem dX7_draw_59 : decode cX7_draw 59 = .ok (.ireturn, 1) := by decide +kernel
theorem dX7_drawnDeed_0 : decode cX7_drawnDeed 0 = .ok (.aload_n 0, 1) := by decide +kernel
theorem dX7_drawnDeed_1 : decode cX7_drawnDeed 1 = .ok (.invokevirtual 264, 3) := by decide +kernel
theorem dX7_drawnDeed_4 : decode cX7_drawnDeed 4 = .ok (.bipush 6, 2) := by decide +kernel
theorem dX7_drawnDeed_6 : decode cX7_drawnDeed 6 = .ok (.irem, 1) := by decide +kernel
theorem dX7_drawnDeed_7 : decode cX7_drawnDeed 7 = .ok (.istore_n 1, 1) := by decide +kernel
theorem dX7_drawnDeed_8 : decode cX7_drawnDeed 8 = .ok (.aload_n 0, 1) := by decide +kernel
theorem dX7_drawnDeed_9 : decode cX7_drawnDeed 9 = .ok (.getfield 10, 3) := by decide +kernel
theorem dX7_drawnDeed_12 : decode cX7_drawnDeed 12 = .ok (.getfield 173, 3) := by decide +kernel
theorem dX7_drawnDeed_15 : decode cX7_drawnDeed 15 = .ok (.invokevirtual 267, 3) := by decide +kernel
theorem dX7_drawnDeed_18 : decode cX7_drawnDeed 18 = .ok (.istore_n 2, 1) := by decide +kernel
theorem dX7_drawnDeed_19 : decode cX7_drawnDeed 19 = .ok (.aload_n 0, 1) := by decide +kernel
theorem dX7_drawnDeed_20 : decode cX7_drawnDeed 20 = .ok (.invokevirtual 264, 3) := by decide +kernel
theorem dX7_drawnDeed_23 : decode cX7_drawnDeed 23 = .ok (.istore_n 3, 1) := by decide +kernel
theorem dX7_drawnDeed_24 : decode cX7_drawnDeed 24 = .ok (.iload_n 2, 1) := by decide +kernel
theorem dX7_drawnDeed_25 : decode cX7_drawnDeed 25 = .ok (.ifCond .le 9, 3) := by decide +kernel
theorem dX7_drawnDeed_28 : decode cX7_drawnDeed 28 = .ok (.iload_n 3, 1) := by decide +kernel
theorem dX7_drawnDeed_29 : decode cX7_drawnDeed 29 = .ok (.iload_n 2, 1) := by decide +kernel
theorem dX7_drawnDeed_30 : decode cX7_drawnDeed 30 = .ok (.irem, 1) := by decide +kernel
theorem dX7_drawnDeed_31 : decode cX7_drawnDeed 31 = .ok (.goto 4, 3) := by decide +kernel
theorem dX7_drawnDeed_34 : decode cX7_drawnDeed 34 = .ok (.iconst 0, 1) := by decide +kernel
theorem dX7_drawnDeed_35 : decode cX7_drawnDeed 35 = .ok (.istore_n 3, 1) := by decide +kernel
theorem dX7_drawnDeed_36 : decode cX7_drawnDeed 36 = .ok (.aload_n 0, 1) := by decide +kernel
theorem dX7_drawnDeed_37 : decode cX7_drawnDeed 37 = .ok (.invokevirtual 264, 3) := by decide +kernel
theorem dX7_drawnDeed_40 : decode cX7_drawnDeed 40 = .ok (.bipush 10, 2) := by decide +kernel
theorem dX7_drawnDeed_42 : decode cX7_drawnDeed 42 = .ok (.irem, 1) := by decide +kernel
theorem dX7_drawnDeed_43 : decode cX7_drawnDeed 43 = .ok (.istore 4, 2) := by decide +kernel
theorem dX7_drawnDeed_45 : decode cX7_drawnDeed 45 = .ok (.aload_n 0, 1) := by decide +kernel
theorem dX7_drawnDeed_46 : decode cX7_drawnDeed 46 = .ok (.invokevirtual 264, 3) := by decide +kernel
theorem dX7_drawnDeed_49 : decode cX7_drawnDeed 49 = .ok (.bipush 9, 2) := by decide +kernel
theorem dX7_drawnDeed_51 : decode cX7_drawnDeed 51 = .ok (.irem, 1) := by decide +kernel
theorem dX7_drawnDeed_52 : decode cX7_drawnDeed 52 = .ok (.iconst 1, 1) := by decide +kernel
theorem dX7_drawnDeed_53 : decode cX7_drawnDeed 53 = .ok (.iadd, 1) := by decide +kernel
theorem dX7_drawnDeed_54 : decode cX7_drawnDeed 54 = .ok (.istore 5, 2) := by decide +kernel
theorem dX7_drawnDeed_56 : decode cX7_drawnDeed 56 = .ok (.iload_n 1, 1) := by decide +kernel
theorem dX7_drawnDeed_57 : decode cX7_drawnDeed 57 = .ok (.ifCond .ne 15, 3) := by decide +kernel
theorem dX7_drawnDeed_60 : decode cX7_drawnDeed 60 = .ok (.aload_n 0, 1) := by decide +kernel
theorem dX7_drawnDeed_61 : decode cX7_drawnDeed 61 = .ok (.getfield 21, 3) := by decide +kernel
theorem dX7_drawnDeed_64 : decode cX7_drawnDeed 64 = .ok (.iload_n 3, 1) := by decide +kernel
theorem dX7_drawnDeed_65 : decode cX7_drawnDeed 65 = .ok (.iload 4, 2) := by decide +kernel
theorem dX7_drawnDeed_67 : decode cX7_drawnDeed 67 = .ok (.iconst 1, 1) := by decide +kernel
theorem dX7_drawnDeed_68 : decode cX7_drawnDeed 68 = .ok (.invokevirtual 130, 3) := by decide +kernel
theorem dX7_drawnDeed_71 : decode cX7_drawnDeed 71 = .ok (.ireturn, 1) := by decide +kernel
theorem dX7_drawnDeed_72 : decode cX7_drawnDeed 72 = .ok (.iload_n 1, 1) := by decide +kernel
theorem dX7_drawnDeed_73 : decode cX7_drawnDeed 73 = .ok (.iconst 5, 1) := by decide +kernel
theorem dX7_drawnDeed_74 : decode cX7_drawnDeed 74 = .ok (.if_icmp .ne 12, 3) := by decide +kernel
theorem dX7_drawnDeed_77 : decode cX7_drawnDeed 77 = .ok (.aload_n 0, 1) := by decide +kernel
theorem dX7_drawnDeed_78 : decode cX7_drawnDeed 78 = .ok (.getfield 21, 3) := by decide +kernel
theorem dX7_drawnDeed_81 : decode cX7_drawnDeed 81 = .ok (.iload_n 3, 1) := by decide +kernel
theorem dX7_drawnDeed_82 : decode cX7_drawnDeed 82 = .ok (.invokevirtual 246, 3) := by decide +kernel
theorem dX7_drawnDeed_85 : decode cX7_drawnDeed 85 = .ok (.ireturn, 1) := by decide +kernel
theorem dX7_drawnDeed_86 : decode cX7_drawnDeed 86 = .ok (.iload_n 1, 1) := by decide +kernel
theorem dX7_drawnDeed_87 : decode cX7_drawnDeed 87 = .ok (.iconst 2, 1) := by decide +kernel
theorem dX7_drawnDeed_88 : decode cX7_drawnDeed 88 = .ok (.if_icmp .gt 17, 3) := by decide +kernel
theorem dX7_drawnDeed_91 : decode cX7_drawnDeed 91 = .ok (.aload_n 0, 1) := by decide +kernel
theorem dX7_drawnDeed_92 : decode cX7_drawnDeed 92 = .ok (.getfield 21, 3) := by decide +kernel
theorem dX7_drawnDeed_95 : decode cX7_drawnDeed 95 = .ok (.iload_n 3, 1) := by decide +kernel
theorem dX7_drawnDeed_96 : decode cX7_drawnDeed 96 = .ok (.iload 4, 2) := by decide +kernel
theorem dX7_drawnDeed_98 : decode cX7_drawnDeed 98 = .ok (.iconst 2, 1) := by decide +kernel
theorem dX7_drawnDeed_99 : decode cX7_drawnDeed 99 = .ok (.invokevirtual 130, 3) := by decide +kernel
theorem dX7_drawnDeed_102 : decode cX7_drawnDeed 102 = .ok (.goto 4, 3) := by decide +kernel
theorem dX7_drawnDeed_105 : decode cX7_drawnDeed 105 = .ok (.iload_n 3, 1) := by decide +kernel
theorem dX7_drawnDeed_106 : decode cX7_drawnDeed 106 = .ok (.istore 6, 2) := by decide +kernel
theorem dX7_drawnDeed_108 : decode cX7_drawnDeed 108 = .ok (.iload 6, 2) := by decide +kernel
theorem dX7_drawnDeed_110 : decode cX7_drawnDeed 110 = .ok (.ifCond .ge 8, 3) := by decide +kernel
theorem dX7_drawnDeed_113 : decode cX7_drawnDeed 113 = .ok (.iload 6, 2) := by decide +kernel
theorem dX7_drawnDeed_115 : decode cX7_drawnDeed 115 = .ok (.goto 14, 3) := by decide +kernel
theorem dX7_drawnDeed_118 : decode cX7_drawnDeed 118 = .ok (.aload_n 0, 1) := by decide +kernel
theorem dX7_drawnDeed_119 : decode cX7_drawnDeed 119 = .ok (.getfield 21, 3) := by decide +kernel
theorem dX7_drawnDeed_122 : decode cX7_drawnDeed 122 = .ok (.iload 6, 2) := by decide +kernel
theorem dX7_drawnDeed_124 : decode cX7_drawnDeed 124 = .ok (.iload 5, 2) := by decide +kernel
theorem dX7_drawnDeed_126 : decode cX7_drawnDeed 126 = .ok (.invokevirtual 141, 3) := by decide +kernel
theorem dX7_drawnDeed_129 : decode cX7_drawnDeed 129 = .ok (.ireturn, 1) := by decide +kernel
theorem dX7_drawnNumber_0 : decode cX7_drawnNumber 0 = .ok (.aload_n 0, 1) := by decide +kernel
theorem dX7_drawnNumber_1 : decode cX7_drawnNumber 1 = .ok (.aload_n 0, 1) := by decide +kernel
theorem dX7_drawnNumber_2 : decode cX7_drawnNumber 2 = .ok (.getfield 258, 3) := by decide +kernel
theorem dX7_drawnNumber_5 : decode cX7_drawnNumber 5 = .ok (.ldc_w 270, 3) := by decide +kernel
theorem dX7_drawnNumber_8 : decode cX7_drawnNumber 8 = .ok (.imul, 1) := by decide +kernel
theorem dX7_drawnNumber_9 : decode cX7_drawnNumber 9 = .ok (.sipush 12345, 3) := by decide +kernel
theorem dX7_drawnNumber_12 : decode cX7_drawnNumber 12 = .ok (.iadd, 1) := by decide +kernel
theorem dX7_drawnNumber_13 : decode cX7_drawnNumber 13 = .ok (.putfield 258, 3) := by decide +kernel
theorem dX7_drawnNumber_16 : decode cX7_drawnNumber 16 = .ok (.aload_n 0, 1) := by decide +kernel
theorem dX7_drawnNumber_17 : decode cX7_drawnNumber 17 = .ok (.getfield 258, 3) := by decide +kernel
theorem dX7_drawnNumber_20 : decode cX7_drawnNumber 20 = .ok (.bipush 16, 2) := by decide +kernel
theorem dX7_drawnNumber_22 : decode cX7_drawnNumber 22 = .ok (.iushr, 1) := by decide +kernel
theorem dX7_drawnNumber_23 : decode cX7_drawnNumber 23 = .ok (.sipush 32767, 3) := by decide +kernel
theorem dX7_drawnNumber_26 : decode cX7_drawnNumber 26 = .ok (.iand, 1) := by decide +kernel
theorem dX7_drawnNumber_27 : decode cX7_drawnNumber 27 = .ok (.ireturn, 1) := by decide +kernel
theorem dX7_flip_0 : decode cX7_flip 0 = .ok (.aload_n 0, 1) := by decide +kernel
theorem dX7_flip_1 : decode cX7_flip 1 = .ok (.getfield 10, 3) := by decide +kernel
theorem dX7_flip_4 : decode cX7_flip 4 = .ok (.getfield 173, 3) := by decide +kernel
theorem dX7_flip_7 : decode cX7_flip 7 = .ok (.iload_n 1, 1) := by decide +kernel
theorem dX7_flip_8 : decode cX7_flip 8 = .ok (.invokevirtual 225, 3) := by decide +kernel
theorem dX7_flip_11 : decode cX7_flip 11 = .ok (.ifCond .ne 5, 3) := by decide +kernel
theorem dX7_flip_14 : decode cX7_flip 14 = .ok (.iconst (-1), 1) := by decide +kernel
theorem dX7_flip_15 : decode cX7_flip 15 = .ok (.ireturn, 1) := by decide +kernel
theorem dX7_flip_16 : decode cX7_flip 16 = .ok (.aload_n 0, 1) := by decide +kernel
theorem dX7_flip_17 : decode cX7_flip 17 = .ok (.getfield 10, 3) := by decide +kernel
theorem dX7_flip_20 : decode cX7_flip 20 = .ok (.getfield 145, 3) := by decide +kernel
theorem dX7_flip_23 : decode cX7_flip 23 = .ok (.iload_n 1, 1) := by decide +kernel
theorem dX7_flip_24 : decode cX7_flip 24 = .ok (.invokevirtual 228, 3) := by decide +kernel
theorem dX7_flip_27 : decode cX7_flip 27 = .ok (.istore_n 2, 1) := by decide +kernel
theorem dX7_flip_28 : decode cX7_flip 28 = .ok (.aload_n 0, 1) := by decide +kernel
theorem dX7_flip_29 : decode cX7_flip 29 = .ok (.getfield 10, 3) := by decide +kernel
theorem dX7_flip_32 : decode cX7_flip 32 = .ok (.getfield 145, 3) := by decide +kernel
theorem dX7_flip_35 : decode cX7_flip 35 = .ok (.iload_n 1, 1) := by decide +kernel
theorem dX7_flip_36 : decode cX7_flip 36 = .ok (.iconst 1, 1) := by decide +kernel
theorem dX7_flip_37 : decode cX7_flip 37 = .ok (.iload_n 2, 1) := by decide +kernel
theorem dX7_flip_38 : decode cX7_flip 38 = .ok (.ifCond .ne 7, 3) := by decide +kernel
theorem dX7_flip_41 : decode cX7_flip 41 = .ok (.iconst 1, 1) := by decide +kernel
theorem dX7_flip_42 : decode cX7_flip 42 = .ok (.goto 4, 3) := by decide +kernel
theorem dX7_flip_45 : decode cX7_flip 45 = .ok (.iconst 0, 1) := by decide +kernel
theorem dX7_flip_46 : decode cX7_flip 46 = .ok (.invokevirtual 271, 3) := by decide +kernel
theorem dX7_flip_49 : decode cX7_flip 49 = .ok (.iload_n 2, 1) := by decide +kernel
theorem dX7_flip_50 : decode cX7_flip 50 = .ok (.ifCond .eq 7, 3) := by decide +kernel
theorem dX7_flip_53 : decode cX7_flip 53 = .ok (.iconst 1, 1) := by decide +kernel
theorem dX7_flip_54 : decode cX7_flip 54 = .ok (.goto 4, 3) := by decide +kernel
theorem dX7_flip_57 : decode cX7_flip 57 = .ok (.iconst 0, 1) := by decide +kernel
theorem dX7_flip_58 : decode cX7_flip 58 = .ok (.ireturn, 1) := by decide +kernel
theorem dX7_check_0 : decode cX7_check 0 = .ok (.iload_n 1, 1) := by decide +kernel
theorem dX7_check_1 : decode cX7_check 1 = .ok (.ifCond .lt 8, 3) := by decide +kernel
theorem dX7_check_4 : decode cX7_check 4 = .ok (.iload_n 1, 1) := by decide +kernel
theorem dX7_check_5 : decode cX7_check 5 = .ok (.iconst 2, 1) := by decide +kernel
theorem dX7_check_6 : decode cX7_check 6 = .ok (.if_icmp .le 5, 3) := by decide +kernel
theorem dX7_check_9 : decode cX7_check 9 = .ok (.iconst (-1), 1) := by decide +kernel
theorem dX7_check_10 : decode cX7_check 10 = .ok (.ireturn, 1) := by decide +kernel
theorem dX7_check_11 : decode cX7_check 11 = .ok (.iload_n 1, 1) := by decide +kernel
theorem dX7_check_12 : decode cX7_check 12 = .ok (.iconst 2, 1) := by decide +kernel
theorem dX7_check_13 : decode cX7_check 13 = .ok (.if_icmp .ne 11, 3) := by decide +kernel
theorem dX7_check_16 : decode cX7_check 16 = .ok (.aload_n 0, 1) := by decide +kernel
theorem dX7_check_17 : decode cX7_check 17 = .ok (.getfield 10, 3) := by decide +kernel
theorem dX7_check_20 : decode cX7_check 20 = .ok (.invokevirtual 275, 3) := by decide +kernel
theorem dX7_check_23 : decode cX7_check 23 = .ok (.ireturn, 1) := by decide +kernel
theorem dX7_check_24 : decode cX7_check 24 = .ok (.aload_n 0, 1) := by decide +kernel
theorem dX7_check_25 : decode cX7_check 25 = .ok (.getfield 10, 3) := by decide +kernel
theorem dX7_check_28 : decode cX7_check 28 = .ok (.iload_n 1, 1) := by decide +kernel
theorem dX7_check_29 : decode cX7_check 29 = .ok (.ifCond .ne 7, 3) := by decide +kernel
theorem dX7_check_32 : decode cX7_check 32 = .ok (.iconst 1, 1) := by decide +kernel
theorem dX7_check_33 : decode cX7_check 33 = .ok (.goto 4, 3) := by decide +kernel
theorem dX7_check_36 : decode cX7_check 36 = .ok (.iconst 0, 1) := by decide +kernel
theorem dX7_check_37 : decode cX7_check 37 = .ok (.invokevirtual 278, 3) := by decide +kernel
theorem dX7_check_40 : decode cX7_check 40 = .ok (.ireturn, 1) := by decide +kernel
theorem dX7_mend_0 : decode cX7_mend 0 = .ok (.aload_n 0, 1) := by decide +kernel
theorem dX7_mend_1 : decode cX7_mend 1 = .ok (.getfield 10, 3) := by decide +kernel
theorem dX7_mend_4 : decode cX7_mend 4 = .ok (.iconst 1, 1) := by decide +kernel
theorem dX7_mend_5 : decode cX7_mend 5 = .ok (.invokevirtual 278, 3) := by decide +kernel
theorem dX7_mend_8 : decode cX7_mend 8 = .ok (.aload_n 0, 1) := by decide +kernel
theorem dX7_mend_9 : decode cX7_mend 9 = .ok (.getfield 10, 3) := by decide +kernel
theorem dX7_mend_12 : decode cX7_mend 12 = .ok (.iconst 0, 1) := by decide +kernel
theorem dX7_mend_13 : decode cX7_mend 13 = .ok (.invokevirtual 278, 3) := by decide +kernel
theorem dX7_mend_16 : decode cX7_mend 16 = .ok (.iadd, 1) := by decide +kernel
theorem dX7_mend_17 : decode cX7_mend 17 = .ok (.istore_n 1, 1) := by decide +kernel
theorem dX7_mend_18 : decode cX7_mend 18 = .ok (.aload_n 0, 1) := by decide +kernel
theorem dX7_mend_19 : decode cX7_mend 19 = .ok (.getfield 10, 3) := by decide +kernel
theorem dX7_mend_22 : decode cX7_mend 22 = .ok (.invokevirtual 281, 3) := by decide +kernel
theorem dX7_mend_25 : decode cX7_mend 25 = .ok (.iload_n 1, 1) := by decide +kernel
theorem dX7_mend_26 : decode cX7_mend 26 = .ok (.ireturn, 1) := by decide +kernel
theorem dX7_keep_0 : decode cX7_keep 0 = .ok (.iload_n 1, 1) := by decide +kernel
theorem dX7_keep_1 : decode cX7_keep 1 = .ok (.ifCond .lt 8, 3) := by decide +kernel
theorem dX7_keep_4 : decode cX7_keep 4 = .ok (.iload_n 1, 1) := by decide +kernel
theorem dX7_keep_5 : decode cX7_keep 5 = .ok (.iconst 1, 1) := by decide +kernel
theorem dX7_keep_6 : decode cX7_keep 6 = .ok (.if_icmp .le 5, 3) := by decide +kernel
theorem dX7_keep_9 : decode cX7_keep 9 = .ok (.iconst (-1), 1) := by decide +kernel
theorem dX7_keep_10 : decode cX7_keep 10 = .ok (.ireturn, 1) := by decide +kernel
theorem dX7_keep_11 : decode cX7_keep 11 = .ok (.aload_n 0, 1) := by decide +kernel
theorem dX7_keep_12 : decode cX7_keep 12 = .ok (.iload_n 1, 1) := by decide +kernel
theorem dX7_keep_13 : decode cX7_keep 13 = .ok (.invokevirtual 284, 3) := by decide +kernel
theorem dX7_keep_16 : decode cX7_keep 16 = .ok (.istore_n 2, 1) := by decide +kernel
theorem dX7_keep_17 : decode cX7_keep 17 = .ok (.iload_n 1, 1) := by decide +kernel
theorem dX7_keep_18 : decode cX7_keep 18 = .ok (.ifCond .ne 22, 3) := by decide +kernel
theorem dX7_keep_21 : decode cX7_keep 21 = .ok (.aload_n 0, 1) := by decide +kernel
theorem dX7_keep_22 : decode cX7_keep 22 = .ok (.getfield 51, 3) := by decide +kernel
theorem dX7_keep_25 : decode cX7_keep 25 = .ok (.aload_n 0, 1) := by decide +kernel
theorem dX7_keep_26 : decode cX7_keep 26 = .ok (.getfield 10, 3) := by decide +kernel
theorem dX7_keep_29 : decode cX7_keep 29 = .ok (.invokevirtual 103, 3) := by decide +kernel
theorem dX7_keep_32 : decode cX7_keep 32 = .ok (.aload_n 0, 1) := by decide +kernel
theorem dX7_keep_33 : decode cX7_keep 33 = .ok (.iconst 1, 1) := by decide +kernel
theorem dX7_keep_34 : decode cX7_keep 34 = .ok (.putfield 106, 3) := by decide +kernel
theorem dX7_keep_37 : decode cX7_keep 37 = .ok (.goto 19, 3) := by decide +kernel
theorem dX7_keep_40 : decode cX7_keep 40 = .ok (.aload_n 0, 1) := by decide +kernel
theorem dX7_keep_41 : decode cX7_keep 41 = .ok (.getfield 54, 3) := by decide +kernel
theorem dX7_keep_44 : decode cX7_keep 44 = .ok (.aload_n 0, 1) := by decide +kernel
theorem dX7_keep_45 : decode cX7_keep 45 = .ok (.getfield 10, 3) := by decide +kernel
theorem dX7_keep_48 : decode cX7_keep 48 = .ok (.invokevirtual 103, 3) := by decide +kernel
theorem dX7_keep_51 : decode cX7_keep 51 = .ok (.aload_n 0, 1) := by decide +kernel
theorem dX7_keep_52 : decode cX7_keep 52 = .ok (.iconst 1, 1) := by decide +kernel
theorem dX7_keep_53 : decode cX7_keep 53 = .ok (.putfield 110, 3) := by decide +kernel
theorem dX7_keep_56 : decode cX7_keep 56 = .ok (.iload_n 2, 1) := by decide +kernel
theorem dX7_keep_57 : decode cX7_keep 57 = .ok (.ifCond .eq 7, 3) := by decide +kernel
theorem dX7_keep_60 : decode cX7_keep 60 = .ok (.iconst 1, 1) := by decide +kernel
theorem dX7_keep_61 : decode cX7_keep 61 = .ok (.goto 4, 3) := by decide +kernel
theorem dX7_keep_64 : decode cX7_keep 64 = .ok (.iconst 0, 1) := by decide +kernel
theorem dX7_keep_65 : decode cX7_keep 65 = .ok (.ireturn, 1) := by decide +kernel
theorem dX7_back_0 : decode cX7_back 0 = .ok (.iload_n 1, 1) := by decide +kernel
theorem dX7_back_1 : decode cX7_back 1 = .ok (.ifCond .lt 8, 3) := by decide +kernel
theorem dX7_back_4 : decode cX7_back 4 = .ok (.iload_n 1, 1) := by decide +kernel
theorem dX7_back_5 : decode cX7_back 5 = .ok (.iconst 1, 1) := by decide +kernel
theorem dX7_back_6 : decode cX7_back 6 = .ok (.if_icmp .le 5, 3) := by decide +kernel
theorem dX7_back_9 : decode cX7_back 9 = .ok (.iconst (-1), 1) := by decide +kernel
theorem dX7_back_10 : decode cX7_back 10 = .ok (.ireturn, 1) := by decide +kernel
theorem dX7_back_11 : decode cX7_back 11 = .ok (.aload_n 0, 1) := by decide +kernel
theorem dX7_back_12 : decode cX7_back 12 = .ok (.iload_n 1, 1) := by decide +kernel
theorem dX7_back_13 : decode cX7_back 13 = .ok (.invokevirtual 284, 3) := by decide +kernel
theorem dX7_back_16 : decode cX7_back 16 = .ok (.ifCond .ne 6, 3) := by decide +kernel
theorem dX7_back_19 : decode cX7_back 19 = .ok (.bipush (-2), 2) := by decide +kernel
theorem dX7_back_21 : decode cX7_back 21 = .ok (.ireturn, 1) := by decide +kernel
theorem dX7_back_22 : decode cX7_back 22 = .ok (.aload_n 0, 1) := by decide +kernel
theorem dX7_back_23 : decode cX7_back 23 = .ok (.getfield 10, 3) := by decide +kernel
theorem dX7_back_26 : decode cX7_back 26 = .ok (.iload_n 1, 1) := by decide +kernel
theorem dX7_back_27 : decode cX7_back 27 = .ok (.ifCond .ne 10, 3) := by decide +kernel
theorem dX7_back_30 : decode cX7_back 30 = .ok (.aload_n 0, 1) := by decide +kernel
theorem dX7_back_31 : decode cX7_back 31 = .ok (.getfield 51, 3) := by decide +kernel
theorem dX7_back_34 : decode cX7_back 34 = .ok (.goto 7, 3) := by decide +kernel
theorem dX7_back_37 : decode cX7_back 37 = .ok (.aload_n 0, 1) := by decide +kernel
theorem dX7_back_38 : decode cX7_back 38 = .ok (.getfield 54, 3) := by decide +kernel
theorem dX7_back_41 : decode cX7_back 41 = .ok (.invokevirtual 103, 3) := by decide +kernel
theorem dX7_back_44 : decode cX7_back 44 = .ok (.aload_n 0, 1) := by decide +kernel
theorem dX7_back_45 : decode cX7_back 45 = .ok (.getfield 10, 3) := by decide +kernel
theorem dX7_back_48 : decode cX7_back 48 = .ok (.getfield 113, 3) := by decide +kernel
theorem dX7_back_51 : decode cX7_back 51 = .ok (.invokevirtual 117, 3) := by decide +kernel
theorem dX7_back_54 : decode cX7_back 54 = .ok (.ireturn, 1) := by decide +kernel
theorem dX7_count_0 : decode cX7_count 0 = .ok (.iload_n 1, 1) := by decide +kernel
theorem dX7_count_1 : decode cX7_count 1 = .ok (.ifCond .lt 8, 3) := by decide +kernel
theorem dX7_count_4 : decode cX7_count 4 = .ok (.iload_n 1, 1) := by decide +kernel
theorem dX7_count_5 : decode cX7_count 5 = .ok (.iconst 1, 1) := by decide +kernel
theorem dX7_count_6 : decode cX7_count 6 = .ok (.if_icmp .le 5, 3) := by decide +kernel
theorem dX7_count_9 : decode cX7_count 9 = .ok (.iconst (-1), 1) := by decide +kernel
theorem dX7_count_10 : decode cX7_count 10 = .ok (.ireturn, 1) := by decide +kernel
theorem dX7_count_11 : decode cX7_count 11 = .ok (.iload_n 1, 1) := by decide +kernel
theorem dX7_count_12 : decode cX7_count 12 = .ok (.iconst 1, 1) := by decide +kernel
theorem dX7_count_13 : decode cX7_count 13 = .ok (.if_icmp .ne 11, 3) := by decide +kernel
theorem dX7_count_16 : decode cX7_count 16 = .ok (.aload_n 0, 1) := by decide +kernel
theorem dX7_count_17 : decode cX7_count 17 = .ok (.getfield 28, 3) := by decide +kernel
theorem dX7_count_20 : decode cX7_count 20 = .ok (.getfield 68, 3) := by decide +kernel
theorem dX7_count_23 : decode cX7_count 23 = .ok (.ireturn, 1) := by decide +kernel
theorem dX7_count_24 : decode cX7_count 24 = .ok (.aload_n 0, 1) := by decide +kernel
theorem dX7_count_25 : decode cX7_count 25 = .ok (.getfield 106, 3) := by decide +kernel
theorem dX7_count_28 : decode cX7_count 28 = .ok (.ifCond .eq 7, 3) := by decide +kernel
theorem dX7_count_31 : decode cX7_count 31 = .ok (.iconst 1, 1) := by decide +kernel
theorem dX7_count_32 : decode cX7_count 32 = .ok (.goto 4, 3) := by decide +kernel
theorem dX7_count_35 : decode cX7_count 35 = .ok (.iconst 0, 1) := by decide +kernel
theorem dX7_count_36 : decode cX7_count 36 = .ok (.aload_n 0, 1) := by decide +kernel
theorem dX7_count_37 : decode cX7_count 37 = .ok (.getfield 110, 3) := by decide +kernel
theorem dX7_count_40 : decode cX7_count 40 = .ok (.ifCond .eq 7, 3) := by decide +kernel
theorem dX7_count_43 : decode cX7_count 43 = .ok (.iconst 1, 1) := by decide +kernel
theorem dX7_count_44 : decode cX7_count 44 = .ok (.goto 4, 3) := by decide +kernel
theorem dX7_count_47 : decode cX7_count 47 = .ok (.iconst 0, 1) := by decide +kernel
theorem dX7_count_48 : decode cX7_count 48 = .ok (.iadd, 1) := by decide +kernel
theorem dX7_count_49 : decode cX7_count 49 = .ok (.ireturn, 1) := by decide +kernel
theorem dX7_hasImage_0 : decode cX7_hasImage 0 = .ok (.iload_n 1, 1) := by decide +kernel
theorem dX7_hasImage_1 : decode cX7_hasImage 1 = .ok (.ifCond .ne 10, 3) := by decide +kernel
theorem dX7_hasImage_4 : decode cX7_hasImage 4 = .ok (.aload_n 0, 1) := by decide +kernel
theorem dX7_hasImage_5 : decode cX7_hasImage 5 = .ok (.getfield 106, 3) := by decide +kernel
theorem dX7_hasImage_8 : decode cX7_hasImage 8 = .ok (.goto 7, 3) := by decide +kernel
theorem dX7_hasImage_11 : decode cX7_hasImage 11 = .ok (.aload_n 0, 1) := by decide +kernel
theorem dX7_hasImage_12 : decode cX7_hasImage 12 = .ok (.getfield 110, 3) := by decide +kernel
theorem dX7_hasImage_15 : decode cX7_hasImage 15 = .ok (.ireturn, 1) := by decide +kernel
