theorem dJ0_length_8abf5_0 : decode cJ0_length_8abf5 0 = .ok (.aload_n 0, 1) := by decide +kernel
theorem dJ0_length_8abf5_1 : decode cJ0_length_8abf5 1 = .ok (.getfield 9, 3) := by decide +kernel
theorem dJ0_length_8abf5_4 : decode cJ0_length_8abf5 4 = .ok (.arraylength, 1) := by decide +kernel
theorem dJ0_length_8abf5_5 : decode cJ0_length_8abf5 5 = .ok (.aload_n 0, 1) := by decide +kernel
theorem dJ0_length_8abf5_6 : decode cJ0_length_8abf5 6 = .ok (.invokevirtual 335, 3) := by decide +kernel
theorem dJ0_length_8abf5_9 : decode cJ0_length_8abf5 9 = .ok (.ishr, 1) := by decide +kernel
theorem dJ0_length_8abf5_10 : decode cJ0_length_8abf5 10 = .ok (.ireturn, 1) := by decide +kernel
theorem dJ0_charAt_5068e_0 : decode cJ0_charAt_5068e 0 = .ok (.aload_n 0, 1) := by decide +kernel
theorem dJ0_charAt_5068e_1 : decode cJ0_charAt_5068e 1 = .ok (.invokevirtual 492, 3) := by decide +kernel
theorem dJ0_charAt_5068e_4 : decode cJ0_charAt_5068e 4 = .ok (.ifCond .eq 12, 3) := by decide +kernel
theorem dJ0_charAt_5068e_7 : decode cJ0_charAt_5068e 7 = .ok (.aload_n 0, 1) := by decide +kernel
theorem dJ0_charAt_5068e_8 : decode cJ0_charAt_5068e 8 = .ok (.getfield 9, 3) := by decide +kernel
theorem dJ0_charAt_5068e_11 : decode cJ0_charAt_5068e 11 = .ok (.iload_n 1, 1) := by decide +kernel
theorem dJ0_charAt_5068e_12 : decode cJ0_charAt_5068e 12 = .ok (.invokestatic 495, 3) := by decide +kernel
theorem dJ0_charAt_5068e_15 : decode cJ0_charAt_5068e 15 = .ok (.ireturn, 1) := by decide +kernel
theorem dJ0_charAt_5068e_16 : decode cJ0_charAt_5068e 16 = .ok (.aload_n 0, 1) := by decide +kernel
theorem dJ0_charAt_5068e_17 : decode cJ0_charAt_5068e 17 = .ok (.getfield 9, 3) := by decide +kernel
theorem dJ0_charAt_5068e_20 : decode cJ0_charAt_5068e 20 = .ok (.iload_n 1, 1) := by decide +kernel
theorem dJ0_charAt_5068e_21 : decode cJ0_charAt_5068e 21 = .ok (.invokestatic 498, 3) := by decide +kernel
theorem dJ0_charAt_5068e_24 : decode cJ0_charAt_5068e 24 = .ok (.ireturn, 1) := by decide +kernel
theorem dJ0_coder_7d493_0 : decode cJ0_coder_7d493 0 = .ok (.getstatic 38, 3) := by decide +kernel
theorem dJ0_coder_7d493_3 : decode cJ0_coder_7d493 3 = .ok (.ifCond .eq 10, 3) := by decide +kernel
theorem dJ0_coder_7d493_6 : decode cJ0_coder_7d493 6 = .ok (.aload_n 0, 1) := by decide +kernel
theorem dJ0_coder_7d493_7 : decode cJ0_coder_7d493 7 = .ok (.getfield 15, 3) := by decide +kernel
theorem dJ0_coder_7d493_10 : decode cJ0_coder_7d493 10 = .ok (.goto 4, 3) := by decide +kernel
theorem dJ0_coder_7d493_13 : decode cJ0_coder_7d493 13 = .ok (.iconst 1, 1) := by decide +kernel
theorem dJ0_coder_7d493_14 : decode cJ0_coder_7d493 14 = .ok (.ireturn, 1) := by decide +kernel
theorem dJ0_isLatin1_aae02_0 : decode cJ0_isLatin1_aae02 0 = .ok (.getstatic 38, 3) := by decide +kernel
theorem dJ0_isLatin1_aae02_3 : decode cJ0_isLatin1_aae02 3 = .ok (.ifCond .eq 14, 3) := by decide +kernel
theorem dJ0_isLatin1_aae02_6 : decode cJ0_isLatin1_aae02 6 = .ok (.aload_n 0, 1) := by decide +kernel
theorem dJ0_isLatin1_aae02_7 : decode cJ0_isLatin1_aae02 7 = .ok (.getfield 15, 3) := by decide +kernel
theorem dJ0_isLatin1_aae02_10 : decode cJ0_isLatin1_aae02 10 = .ok (.ifCond .ne 7, 3) := by decide +kernel
theorem dJ0_isLatin1_aae02_13 : decode cJ0_isLatin1_aae02 13 = .ok (.iconst 1, 1) := by decide +kernel
theorem dJ0_isLatin1_aae02_14 : decode cJ0_isLatin1_aae02 14 = .ok (.goto 4, 3) := by decide +kernel
theorem dJ0_isLatin1_aae02_17 : decode cJ0_isLatin1_aae02 17 = .ok (.iconst 0, 1) := by decide +kernel
theorem dJ0_isLatin1_aae02_18 : decode cJ0_isLatin1_aae02 18 = .ok (.ireturn, 1) := by decide +kernel
theorem dJ0_checkIndex_df160_0 : decode cJ0_checkIndex_df160 0 = .ok (.iload_n 0, 1) := by decide +kernel
theorem dJ0_checkIndex_df160_1 : decode cJ0_checkIndex_df160 1 = .ok (.iload_n 1, 1) := by decide +kernel
theorem dJ0_checkIndex_df160_2 : decode cJ0_checkIndex_df160 2 = .ok (.getstatic 1053, 3) := by decide +kernel
theorem dJ0_checkIndex_df160_5 : decode cJ0_checkIndex_df160 5 = .ok (.invokestatic 1059, 3) := by decide +kernel
theorem dJ0_checkIndex_df160_8 : decode cJ0_checkIndex_df160 8 = .ok (.pop, 1) := by decide +kernel
theorem dJ0_checkIndex_df160_9 : decode cJ0_checkIndex_df160 9 = .ok (.return_, 1) := by decide +kernel
theorem dJ1_charAt_3b067_0 : decode cJ1_charAt_3b067 0 = .ok (.iload_n 1, 1) := by decide +kernel
theorem dJ1_charAt_3b067_1 : decode cJ1_charAt_3b067 1 = .ok (.aload_n 0, 1) := by decide +kernel
theorem dJ1_charAt_3b067_2 : decode cJ1_charAt_3b067 2 = .ok (.arraylength, 1) := by decide +kernel
theorem dJ1_charAt_3b067_3 : decode cJ1_charAt_3b067 3 = .ok (.invokestatic 9, 3) := by decide +kernel
theorem dJ1_charAt_3b067_6 : decode cJ1_charAt_3b067 6 = .ok (.aload_n 0, 1) := by decide +kernel
theorem dJ1_charAt_3b067_7 : decode cJ1_charAt_3b067 7 = .ok (.iload_n 1, 1) := by decide +kernel
theorem dJ1_charAt_3b067_8 : decode cJ1_charAt_3b067 8 = .ok (.baload, 1) := by decide +kernel
theorem dJ1_charAt_3b067_9 : decode cJ1_charAt_3b067 9 = .ok (.sipush 255, 3) := by decide +kernel
theorem dJ1_charAt_3b067_12 : decode cJ1_charAt_3b067 12 = .ok (.iand, 1) := by decide +kernel
theorem dJ1_charAt_3b067_13 : decode cJ1_charAt_3b067 13 = .ok (.i2c, 1) := by decide +kernel
theorem dJ1_charAt_3b067_14 : decode cJ1_charAt_3b067 14 = .ok (.ireturn, 1) := by decide +kernel
theorem dJ2_getChar_3b067_0 : decode cJ2_getChar_3b067 0 = .ok (.getstatic 44, 3) := by decide +kernel
theorem dJ2_getChar_3b067_3 : decode cJ2_getChar_3b067 3 = .ok (.ifCond .ne 25, 3) := by decide +kernel
theorem dJ2_getChar_3b067_6 : decode cJ2_getChar_3b067 6 = .ok (.iload_n 1, 1) := by decide +kernel
theorem dJ2_getChar_3b067_7 : decode cJ2_getChar_3b067 7 = .ok (.ifCond .lt 11, 3) := by decide +kernel
theorem dJ2_getChar_3b067_10 : decode cJ2_getChar_3b067 10 = .ok (.iload_n 1, 1) := by decide +kernel
theorem dJ2_getChar_3b067_11 : decode cJ2_getChar_3b067 11 = .ok (.aload_n 0, 1) := by decide +kernel
theorem dJ2_getChar_3b067_12 : decode cJ2_getChar_3b067 12 = .ok (.invokestatic 48, 3) := by decide +kernel
theorem dJ2_getChar_3b067_15 : decode cJ2_getChar_3b067 15 = .ok (.if_icmp .lt 13, 3) := by decide +kernel
theorem dJ2_getChar_3b067_18 : decode cJ2_getChar_3b067 18 = .ok (.new 52, 3) := by decide +kernel
theorem dJ2_getChar_3b067_21 : decode cJ2_getChar_3b067 21 = .ok (.dup, 1) := by decide +kernel
theorem dJ2_getChar_3b067_22 : decode cJ2_getChar_3b067 22 = .ok (.ldc 54, 2) := by decide +kernel
theorem dJ2_getChar_3b067_24 : decode cJ2_getChar_3b067 24 = .ok (.invokespecial 56, 3) := by decide +kernel
theorem dJ2_getChar_3b067_27 : decode cJ2_getChar_3b067 27 = .ok (.athrow, 1) := by decide +kernel
theorem dJ2_getChar_3b067_28 : decode cJ2_getChar_3b067 28 = .ok (.iload_n 1, 1) := by decide +kernel
theorem dJ2_getChar_3b067_29 : decode cJ2_getChar_3b067 29 = .ok (.iconst 1, 1) := by decide +kernel
theorem dJ2_getChar_3b067_30 : decode cJ2_getChar_3b067 30 = .ok (.ishl, 1) := by decide +kernel
theorem dJ2_getChar_3b067_31 : decode cJ2_getChar_3b067 31 = .ok (.istore_n 1, 1) := by decide +kernel
theorem dJ2_getChar_3b067_32 : decode cJ2_getChar_3b067 32 = .ok (.aload_n 0, 1) := by decide +kernel
theorem dJ2_getChar_3b067_33 : decode cJ2_getChar_3b067 33 = .ok (.iload_n 1, 1) := by decide +kernel
theorem dJ2_getChar_3b067_34 : decode cJ2_getChar_3b067 34 = .ok (.iinc 1 1, 3) := by decide +kernel
theorem dJ2_getChar_3b067_37 : decode cJ2_getChar_3b067 37 = .ok (.baload, 1) := by decide +kernel
theorem dJ2_getChar_3b067_38 : decode cJ2_getChar_3b067 38 = .ok (.sipush 255, 3) := by decide +kernel
theorem dJ2_getChar_3b067_41 : decode cJ2_getChar_3b067 41 = .ok (.iand, 1) := by decide +kernel
theorem dJ2_getChar_3b067_42 : decode cJ2_getChar_3b067 42 = .ok (.getstatic 59, 3) := by decide +kernel
theorem dJ2_getChar_3b067_45 : decode cJ2_getChar_3b067 45 = .ok (.ishl, 1) := by decide +kernel
theorem dJ2_getChar_3b067_46 : decode cJ2_getChar_3b067 46 = .ok (.aload_n 0, 1) := by decide +kernel
theorem dJ2_getChar_3b067_47 : decode cJ2_getChar_3b067 47 = .ok (.iload_n 1, 1) := by decide +kernel
theorem dJ2_getChar_3b067_48 : decode cJ2_getChar_3b067 48 = .ok (.baload, 1) := by decide +kernel
theorem dJ2_getChar_3b067_49 : decode cJ2_getChar_3b067 49 = .ok (.sipush 255, 3) := by decide +kernel
theorem dJ2_getChar_3b067_52 : decode cJ2_getChar_3b067 52 = .ok (.iand, 1) := by decide +kernel
theorem dJ2_getChar_3b067_53 : decode cJ2_getChar_3b067 53 = .ok (.getstatic 63, 3) := by decide +kernel
theorem dJ2_getChar_3b067_56 : decode cJ2_getChar_3b067 56 = .ok (.ishl, 1) := by decide +kernel
theorem dJ2_getChar_3b067_57 : decode cJ2_getChar_3b067 57 = .ok (.ior, 1) := by decide +kernel
theorem dJ2_getChar_3b067_58 : decode cJ2_getChar_3b067 58 = .ok (.i2c, 1) := by decide +kernel
theorem dJ2_getChar_3b067_59 : decode cJ2_getChar_3b067 59 = .ok (.ireturn, 1) := by decide +kernel
theorem dJ2_length_9d52b_0 : decode cJ2_length_9d52b 0 = .ok (.aload_n 0, 1) := by decide +kernel
theorem dJ2_length_9d52b_1 : decode cJ2_length_9d52b 1 = .ok (.arraylength, 1) := by decide +kernel
theorem dJ2_length_9d52b_2 : decode cJ2_length_9d52b 2 = .ok (.iconst 1, 1) := by decide +kernel
theorem dJ2_length_9d52b_3 : decode cJ2_length_9d52b 3 = .ok (.ishr, 1) := by decide +kernel
theorem dJ2_length_9d52b_4 : decode cJ2_length_9d52b 4 = .ok (.ireturn, 1) := by decide +kernel
theorem dJ2_charAt_3b067_0 : decode cJ2_charAt_3b067 0 = .ok (.iload_n 1, 1) := by decide +kernel
theorem dJ2_charAt_3b067_1 : decode cJ2_charAt_3b067 1 = .ok (.aload_n 0, 1) := by decide +kernel
theorem dJ2_charAt_3b067_2 : decode cJ2_charAt_3b067 2 = .ok (.invokestatic 67, 3) := by decide +kernel
theorem dJ2_charAt_3b067_5 : decode cJ2_charAt_3b067 5 = .ok (.aload_n 0, 1) := by decide +kernel
theorem dJ2_charAt_3b067_6 : decode cJ2_charAt_3b067 6 = .ok (.iload_n 1, 1) := by decide +kernel
theorem dJ2_charAt_3b067_7 : decode cJ2_charAt_3b067 7 = .ok (.invokestatic 71, 3) := by decide +kernel
theorem dJ2_charAt_3b067_10 : decode cJ2_charAt_3b067 10 = .ok (.ireturn, 1) := by decide +kernel
theorem dJ2_checkIndex_2214a_0 : decode cJ2_checkIndex_2214a 0 = .ok (.iload_n 0, 1) := by decide +kernel
theorem dJ2_checkIndex_2214a_1 : decode cJ2_checkIndex_2214a 1 = .ok (.aload_n 1, 1) := by decide +kernel
theorem dJ2_checkIndex_2214a_2 : decode cJ2_checkIndex_2214a 2 = .ok (.invokestatic 48, 3) := by decide +kernel
theorem dJ2_checkIndex_2214a_5 : decode cJ2_checkIndex_2214a 5 = .ok (.invokestatic 414, 3) := by decide +kernel
theorem dJ2_checkIndex_2214a_8 : decode cJ2_checkIndex_2214a 8 = .ok (.return_, 1) := by decide +kernel
theorem dJ3_checkIndex_8e157_0 : decode cJ3_checkIndex_8e157 0 = .ok (.iload_n 0, 1) := by decide +kernel
theorem dJ3_checkIndex_8e157_1 : decode cJ3_checkIndex_8e157 1 = .ok (.ifCond .lt 8, 3) := by decide +kernel
theorem dJ3_checkIndex_8e157_4 : decode cJ3_checkIndex_8e157 4 = .ok (.iload_n 0, 1) := by decide +kernel
theorem dJ3_checkIndex_8e157_5 : decode cJ3_checkIndex_8e157 5 = .ok (.iload_n 1, 1) := by decide +kernel
theorem dJ3_checkIndex_8e157_6 : decode cJ3_checkIndex_8e157 6 = .ok (.if_icmp .lt 10, 3) := by decide +kernel
theorem dJ3_checkIndex_8e157_9 : decode cJ3_checkIndex_8e157 9 = .ok (.aload_n 2, 1) := by decide +kernel
theorem dJ3_checkIndex_8e157_10 : decode cJ3_checkIndex_8e157 10 = .ok (.iload_n 0, 1) := by decide +kernel
theorem dJ3_checkIndex_8e157_11 : decode cJ3_checkIndex_8e157 11 = .ok (.iload_n 1, 1) := by decide +kernel
theorem dJ3_checkIndex_8e157_12 : decode cJ3_checkIndex_8e157 12 = .ok (.invokestatic 95, 3) := by decide +kernel
theorem dJ3_checkIndex_8e157_15 : decode cJ3_checkIndex_8e157 15 = .ok (.athrow, 1) := by decide +kernel
theorem dJ3_checkIndex_8e157_16 : decode cJ3_checkIndex_8e157 16 = .ok (.iload_n 0, 1) := by decide +kernel
theorem dJ3_checkIndex_8e157_17 : decode cJ3_checkIndex_8e157 17 = .ok (.ireturn, 1) := by decide +kernel
theorem dJ6_bitCount_0f7a4_0 : decode cJ6_bitCount_0f7a4 0 = .ok (.iload_n 0, 1) := by decide +kernel
theorem dJ6_bitCount_0f7a4_1 : decode cJ6_bitCount_0f7a4 1 = .ok (.iload_n 0, 1) := by decide +kernel
theorem dJ6_bitCount_0f7a4_2 : decode cJ6_bitCount_0f7a4 2 = .ok (.iconst 1, 1) := by decide +kernel
theorem dJ6_bitCount_0f7a4_3 : decode cJ6_bitCount_0f7a4 3 = .ok (.iushr, 1) := by decide +kernel
theorem dJ6_bitCount_0f7a4_4 : decode cJ6_bitCount_0f7a4 4 = .ok (.ldc_w 265, 3) := by decide +kernel
theorem dJ6_bitCount_0f7a4_7 : decode cJ6_bitCount_0f7a4 7 = .ok (.iand, 1) := by decide +kernel
theorem dJ6_bitCount_0f7a4_8 : decode cJ6_bitCount_0f7a4 8 = .ok (.isub, 1) := by decide +kernel
theorem dJ6_bitCount_0f7a4_9 : decode cJ6_bitCount_0f7a4 9 = .ok (.istore_n 0, 1) := by decide +kernel
theorem dJ6_bitCount_0f7a4_10 : decode cJ6_bitCount_0f7a4 10 = .ok (.iload_n 0, 1) := by decide +kernel
theorem dJ6_bitCount_0f7a4_11 : decode cJ6_bitCount_0f7a4 11 = .ok (.ldc_w 266, 3) := by decide +kernel
theorem dJ6_bitCount_0f7a4_14 : decode cJ6_bitCount_0f7a4 14 = .ok (.iand, 1) := by decide +kernel
theorem dJ6_bitCount_0f7a4_15 : decode cJ6_bitCount_0f7a4 15 = .ok (.iload_n 0, 1) := by decide +kernel
theorem dJ6_bitCount_0f7a4_16 : decode cJ6_bitCount_0f7a4 16 = .ok (.iconst 2, 1) := by decide +kernel
theorem dJ6_bitCount_0f7a4_17 : decode cJ6_bitCount_0f7a4 17 = .ok (.iushr, 1) := by decide +kernel
theorem dJ6_bitCount_0f7a4_18 : decode cJ6_bitCount_0f7a4 18 = .ok (.ldc_w 266, 3) := by decide +kernel
theorem dJ6_bitCount_0f7a4_21 : decode cJ6_bitCount_0f7a4 21 = .ok (.iand, 1) := by decide +kernel
theorem dJ6_bitCount_0f7a4_22 : decode cJ6_bitCount_0f7a4 22 = .ok (.iadd, 1) := by decide +kernel
theorem dJ6_bitCount_0f7a4_23 : decode cJ6_bitCount_0f7a4 23 = .ok (.istore_n 0, 1) := by decide +kernel
theorem dJ6_bitCount_0f7a4_24 : decode cJ6_bitCount_0f7a4 24 = .ok (.iload_n 0, 1) := by decide +kernel
theorem dJ6_bitCount_0f7a4_25 : decode cJ6_bitCount_0f7a4 25 = .ok (.iload_n 0, 1) := by decide +kernel
theorem dJ6_bitCount_0f7a4_26 : decode cJ6_bitCount_0f7a4 26 = .ok (.iconst 4, 1) := by decide +kernel
theorem dJ6_bitCount_0f7a4_27 : decode cJ6_bitCount_0f7a4 27 = .ok (.iushr, 1) := by decide +kernel
theorem dJ6_bitCount_0f7a4_28 : decode cJ6_bitCount_0f7a4 28 = .ok (.iadd, 1) := by decide +kernel
theorem dJ6_bitCount_0f7a4_29 : decode cJ6_bitCount_0f7a4 29 = .ok (.ldc_w 267, 3) := by decide +kernel
theorem dJ6_bitCount_0f7a4_32 : decode cJ6_bitCount_0f7a4 32 = .ok (.iand, 1) := by decide +kernel
theorem dJ6_bitCount_0f7a4_33 : decode cJ6_bitCount_0f7a4 33 = .ok (.istore_n 0, 1) := by decide +kernel
theorem dJ6_bitCount_0f7a4_34 : decode cJ6_bitCount_0f7a4 34 = .ok (.iload_n 0, 1) := by decide +kernel
theorem dJ6_bitCount_0f7a4_35 : decode cJ6_bitCount_0f7a4 35 = .ok (.iload_n 0, 1) := by decide +kernel
theorem dJ6_bitCount_0f7a4_36 : decode cJ6_bitCount_0f7a4 36 = .ok (.bipush 8, 2) := by decide +kernel
theorem dJ6_bitCount_0f7a4_38 : decode cJ6_bitCount_0f7a4 38 = .ok (.iushr, 1) := by decide +kernel
theorem dJ6_bitCount_0f7a4_39 : decode cJ6_bitCount_0f7a4 39 = .ok (.iadd, 1) := by decide +kernel
theorem dJ6_bitCount_0f7a4_40 : decode cJ6_bitCount_0f7a4 40 = .ok (.istore_n 0, 1) := by decide +kernel
theorem dJ6_bitCount_0f7a4_41 : decode cJ6_bitCount_0f7a4 41 = .ok (.iload_n 0, 1) := by decide +kernel
theorem dJ6_bitCount_0f7a4_42 : decode cJ6_bitCount_0f7a4 42 = .ok (.iload_n 0, 1) := by decide +kernel
theorem dJ6_bitCount_0f7a4_43 : decode cJ6_bitCount_0f7a4 43 = .ok (.bipush 16, 2) := by decide +kernel
theorem dJ6_bitCount_0f7a4_45 : decode cJ6_bitCount_0f7a4 45 = .ok (.iushr, 1) := by decide +kernel
theorem dJ6_bitCount_0f7a4_46 : decode cJ6_bitCount_0f7a4 46 = .ok (.iadd, 1) := by decide +kernel
theorem dJ6_bitCount_0f7a4_47 : decode cJ6_bitCount_0f7a4 47 = .ok (.istore_n 0, 1) := by decide +kernel
theorem dJ6_bitCount_0f7a4_48 : decode cJ6_bitCount_0f7a4 48 = .ok (.iload_n 0, 1) := by decide +kernel
theorem dJ6_bitCount_0f7a4_49 : decode cJ6_bitCount_0f7a4 49 = .ok (.bipush 63, 2) := by decide +kernel
theorem dJ6_bitCount_0f7a4_51 : decode cJ6_bitCount_0f7a4 51 = .ok (.iand, 1) := by decide +kernel
theorem dJ6_bitCount_0f7a4_52 : decode cJ6_bitCount_0f7a4 52 = .ok (.ireturn, 1) := by decide +kernel
theorem dJ9_max_7cf53_0 : decode cJ9_max_7cf53 0 = .ok (.iload_n 0, 1) := by decide +kernel
theorem dJ9_max_7cf53_1 : decode cJ9_max_7cf53 1 = .ok (.iload_n 1, 1) := by decide +kernel
theorem dJ9_max_7cf53_2 : decode cJ9_max_7cf53 2 = .ok (.if_icmp .lt 7, 3) := by decide +kernel
theorem dJ9_max_7cf53_5 : decode cJ9_max_7cf53 5 = .ok (.iload_n 0, 1) := by decide +kernel
theorem dJ9_max_7cf53_6 : decode cJ9_max_7cf53 6 = .ok (.goto 4, 3) := by decide +kernel
theorem dJ9_max_7cf53_9 : decode cJ9_max_7cf53 9 = .ok (.iload_n 1, 1) := by decide +kernel
theorem dJ9_max_7cf53_10 : decode cJ9_max_7cf53 10 = .ok (.ireturn, 1) := by decide +kernel
theorem dJ9_min_7cf53_0 : decode cJ9_min_7cf53 0 = .ok (.iload_n 0, 1) := by decide +kernel
theorem dJ9_min_7cf53_1 : decode cJ9_min_7cf53 1 = .ok (.iload_n 1, 1) := by decide +kernel
theorem dJ9_min_7cf53_2 : decode cJ9_min_7cf53 2 = .ok (.if_icmp .gt 7, 3) := by decide +kernel
theorem dJ9_min_7cf53_5 : decode cJ9_min_7cf53 5 = .ok (.iload_n 0, 1) := by decide +kernel
theorem dJ9_min_7cf53_6 : decode cJ9_min_7cf53 6 = .ok (.goto 4, 3) := by decide +kernel
theorem dJ9_min_7cf53_9 : decode cJ9_min_7cf53 9 = .ok (.iload_n 1, 1) := by decide +kernel
theorem dJ9_min_7cf53_10 : decode cJ9_min_7cf53 10 = .ok (.ireturn, 1) := by decide +kernel
theorem dX0_init_0 : decode cX0_init 0 = .ok (.aload_n 0, 1) := by decide +kernel
theorem dX0_init_1 : decode cX0_init 1 = .ok (.invokespecial 3, 3) := by decide +kernel
theorem dX0_init_4 : decode cX0_init 4 = .ok (.aload_n 0, 1) := by decide +kernel
theorem dX0_init_5 : decode cX0_init 5 = .ok (.bipush 16, 2) := by decide +kernel
theorem dX0_init_7 : decode cX0_init 7 = .ok (.newarray .int, 2) := by decide +kernel
theorem dX0_init_9 : decode cX0_init 9 = .ok (.putfield 11, 3) := by decide +kernel
theorem dX0_init_12 : decode cX0_init 12 = .ok (.aload_n 0, 1) := by decide +kernel
theorem dX0_init_13 : decode cX0_init 13 = .ok (.bipush 16, 2) := by decide +kernel
theorem dX0_init_15 : decode cX0_init 15 = .ok (.newarray .int, 2) := by decide +kernel
theorem dX0_init_17 : decode cX0_init 17 = .ok (.putfield 15, 3) := by decide +kernel
theorem dX0_init_20 : decode cX0_init 20 = .ok (.aload_n 0, 1) := by decide +kernel
theorem dX0_init_21 : decode cX0_init 21 = .ok (.bipush 16, 2) := by decide +kernel
theorem dX0_init_23 : decode cX0_init 23 = .ok (.newarray .int, 2) := by decide +kernel
theorem dX0_init_25 : decode cX0_init 25 = .ok (.putfield 18, 3) := by decide +kernel
theorem dX0_init_28 : decode cX0_init 28 = .ok (.aload_n 0, 1) := by decide +kernel
theorem dX0_init_29 : decode cX0_init 29 = .ok (.bipush 16, 2) := by decide +kernel
theorem dX0_init_31 : decode cX0_init 31 = .ok (.newarray .int, 2) := by decide +kernel
theorem dX0_init_33 : decode cX0_init 33 = .ok (.putfield 21, 3) := by decide +kernel
theorem dX0_init_36 : decode cX0_init 36 = .ok (.aload_n 0, 1) := by decide +kernel
theorem dX0_init_37 : decode cX0_init 37 = .ok (.bipush 16, 2) := by decide +kernel
theorem dX0_init_39 : decode cX0_init 39 = .ok (.newarray .int, 2) := by decide +kernel
theorem dX0_init_41 : decode cX0_init 41 = .ok (.putfield 24, 3) := by decide +kernel
theorem dX0_init_44 : decode cX0_init 44 = .ok (.aload_n 0, 1) := by decide +kernel
theorem dX0_init_45 : decode cX0_init 45 = .ok (.bipush 112, 2) := by decide +kernel
theorem dX0_init_47 : decode cX0_init 47 = .ok (.newarray .int, 2) := by decide +kernel
theorem dX0_init_49 : decode cX0_init 49 = .ok (.putfield 27, 3) := by decide +kernel
theorem dX0_init_52 : decode cX0_init 52 = .ok (.aload_n 0, 1) := by decide +kernel
theorem dX0_init_53 : decode cX0_init 53 = .ok (.bipush 16, 2) := by decide +kernel
theorem dX0_init_55 : decode cX0_init 55 = .ok (.newarray .int, 2) := by decide +kernel
theorem dX0_init_57 : decode cX0_init 57 = .ok (.putfield 30, 3) := by decide +kernel
theorem dX0_init_60 : decode cX0_init 60 = .ok (.aload_n 0, 1) := by decide +kernel
theorem dX0_init_61 : decode cX0_init 61 = .ok (.bipush 16, 2) := by decide +kernel
theorem dX0_init_63 : decode cX0_init 63 = .ok (.newarray .int, 2) := by decide +kernel
theorem dX0_init_65 : decode cX0_init 65 = .ok (.putfield 33, 3) := by decide +kernel
theorem dX0_init_68 : decode cX0_init 68 = .ok (.aload_n 0, 1) := by decide +kernel
theorem dX0_init_69 : decode cX0_init 69 = .ok (.sipush 900, 3) := by decide +kernel
theorem dX0_init_72 : decode cX0_init 72 = .ok (.newarray .int, 2) := by decide +kernel
theorem dX0_init_74 : decode cX0_init 74 = .ok (.putfield 36, 3) := by decide +kernel
theorem dX0_init_77 : decode cX0_init 77 = .ok (.aload_n 0, 1) := by decide +kernel
theorem dX0_init_78 : decode cX0_init 78 = .ok (.bipush 64, 2) := by decide +kernel
theorem dX0_init_80 : decode cX0_init 80 = .ok (.newarray .int, 2) := by decide +kernel
theorem dX0_init_82 : decode cX0_init 82 = .ok (.putfield 39, 3) := by decide +kernel
theorem dX0_init_85 : decode cX0_init 85 = .ok (.aload_n 0, 1) := by decide +kernel
theorem dX0_init_86 : decode cX0_init 86 = .ok (.bipush 16, 2) := by decide +kernel
theorem dX0_init_88 : decode cX0_init 88 = .ok (.newarray .int, 2) := by decide +kernel
theorem dX0_init_90 : decode cX0_init 90 = .ok (.putfield 42, 3) := by decide +kernel
theorem dX0_init_93 : decode cX0_init 93 = .ok (.aload_n 0, 1) := by decide +kernel
theorem dX0_init_94 : decode cX0_init 94 = .ok (.aload_n 1, 1) := by decide +kernel
theorem dX0_init_95 : decode cX0_init 95 = .ok (.putfield 45, 3) := by decide +kernel
theorem dX0_init_98 : decode cX0_init 98 = .ok (.aload_n 0, 1) := by decide +kernel
theorem dX0_init_99 : decode cX0_init 99 = .ok (.aload_n 2, 1) := by decide +kernel
theorem dX0_init_100 : decode cX0_init 100 = .ok (.putfield 49, 3) := by decide +kernel
theorem dX0_init_103 : decode cX0_init 103 = .ok (.return_, 1) := by decide +kernel
theorem dX0_knows_0 : decode cX0_knows 0 = .ok (.iload_n 1, 1) := by decide +kernel
theorem dX0_knows_1 : decode cX0_knows 1 = .ok (.ifCond .lt 15, 3) := by decide +kernel
theorem dX0_knows_4 : decode cX0_knows 4 = .ok (.iload_n 1, 1) := by decide +kernel
theorem dX0_knows_5 : decode cX0_knows 5 = .ok (.aload_n 0, 1) := by decide +kernel
theorem dX0_knows_6 : decode cX0_knows 6 = .ok (.getfield 53, 3) := by decide +kernel
theorem dX0_knows_9 : decode cX0_knows 9 = .ok (.if_icmp .ge 7, 3) := by decide +kernel
theorem dX0_knows_12 : decode cX0_knows 12 = .ok (.iconst 1, 1) := by decide +kernel
theorem dX0_knows_13 : decode cX0_knows 13 = .ok (.goto 4, 3) := by decide +kernel
theorem dX0_knows_16 : decode cX0_knows 16 = .ok (.iconst 0, 1) := by decide +kernel
theorem dX0_knows_17 : decode cX0_knows 17 = .ok (.ireturn, 1) := by decide +kernel
theorem dX0_forget_0 : decode cX0_forget 0 = .ok (.aload_n 0, 1) := by decide +kernel
theorem dX0_forget_1 : decode cX0_forget 1 = .ok (.iconst 0, 1) := by decide +kernel
theorem dX0_forget_2 : decode cX0_forget 2 = .ok (.putfield 53, 3) := by decide +kernel
theorem dX0_forget_5 : decode cX0_forget 5 = .ok (.aload_n 0, 1) := by decide +kernel
theorem dX0_forget_6 : decode cX0_forget 6 = .ok (.iconst 0, 1) := by decide +kernel
theorem dX0_forget_7 : decode cX0_forget 7 = .ok (.putfield 57, 3) := by decide +kernel
theorem dX0_forget_10 : decode cX0_forget 10 = .ok (.return_, 1) := by decide +kernel
theorem dX0_find_0 : decode cX0_find 0 = .ok (.iconst 0, 1) := by decide +kernel
theorem dX0_find_1 : decode cX0_find 1 = .ok (.istore_n 2, 1) := by decide +kernel
theorem dX0_find_2 : decode cX0_find 2 = .ok (.iload_n 2, 1) := by decide +kernel
theorem dX0_find_3 : decode cX0_find 3 = .ok (.aload_n 0, 1) := by decide +kernel
theorem dX0_find_4 : decode cX0_find 4 = .ok (.getfield 53, 3) := by decide +kernel
theorem dX0_find_7 : decode cX0_find 7 = .ok (.if_icmp .ge 21, 3) := by decide +kernel
theorem dX0_find_10 : decode cX0_find 10 = .ok (.aload_n 0, 1) := by decide +kernel
theorem dX0_find_11 : decode cX0_find 11 = .ok (.getfield 11, 3) := by decide +kernel
theorem dX0_find_14 : decode cX0_find 14 = .ok (.iload_n 2, 1) := by decide +kernel
theorem dX0_find_15 : decode cX0_find 15 = .ok (.iaload, 1) := by decide +kernel
theorem dX0_find_16 : decode cX0_find 16 = .ok (.iload_n 1, 1) := by decide +kernel
theorem dX0_find_17 : decode cX0_find 17 = .ok (.if_icmp .ne 5, 3) := by decide +kernel
theorem dX0_find_20 : decode cX0_find 20 = .ok (.iload_n 2, 1) := by decide +kernel
theorem dX0_find_21 : decode cX0_find 21 = .ok (.ireturn, 1) := by decide +kernel
theorem dX0_find_22 : decode cX0_find 22 = .ok (.iinc 2 1, 3) := by decide +kernel
theorem dX0_find_25 : decode cX0_find 25 = .ok (.goto (-23), 3) := by decide +kernel
theorem dX0_find_28 : decode cX0_find 28 = .ok (.bipush (-9), 2) := by decide +kernel
theorem dX0_find_30 : decode cX0_find 30 = .ok (.ireturn, 1) := by decide +kernel
theorem dX0_add_0 : decode cX0_add 0 = .ok (.aload_n 0, 1) := by decide +kernel
theorem dX0_add_1 : decode cX0_add 1 = .ok (.getfield 53, 3) := by decide +kernel
theorem dX0_add_4 : decode cX0_add 4 = .ok (.bipush 16, 2) := by decide +kernel
theorem dX0_add_6 : decode cX0_add 6 = .ok (.if_icmp .ne 4, 3) := by decide +kernel
theorem dX0_add_9 : decode cX0_add 9 = .ok (.return_, 1) := by decide +kernel
theorem dX0_add_10 : decode cX0_add 10 = .ok (.aload_n 0, 1) := by decide +kernel
theorem dX0_add_11 : decode cX0_add 11 = .ok (.getfield 11, 3) := by decide +kernel
theorem dX0_add_14 : decode cX0_add 14 = .ok (.aload_n 0, 1) := by decide +kernel
theorem dX0_add_15 : decode cX0_add 15 = .ok (.getfield 53, 3) := by decide +kernel
theorem dX0_add_18 : decode cX0_add 18 = .ok (.iload_n 1, 1) := by decide +kernel
theorem dX0_add_19 : decode cX0_add 19 = .ok (.iastore, 1) := by decide +kernel
theorem dX0_add_20 : decode cX0_add 20 = .ok (.aload_n 0, 1) := by decide +kernel
theorem dX0_add_21 : decode cX0_add 21 = .ok (.getfield 15, 3) := by decide +kernel
theorem dX0_add_24 : decode cX0_add 24 = .ok (.aload_n 0, 1) := by decide +kernel
theorem dX0_add_25 : decode cX0_add 25 = .ok (.getfield 53, 3) := by decide +kernel
theorem dX0_add_28 : decode cX0_add 28 = .ok (.iload_n 2, 1) := by decide +kernel
theorem dX0_add_29 : decode cX0_add 29 = .ok (.iastore, 1) := by decide +kernel
theorem dX0_add_30 : decode cX0_add 30 = .ok (.aload_n 0, 1) := by decide +kernel
theorem dX0_add_31 : decode cX0_add 31 = .ok (.getfield 18, 3) := by decide +kernel
theorem dX0_add_34 : decode cX0_add 34 = .ok (.aload_n 0, 1) := by decide +kernel
theorem dX0_add_35 : decode cX0_add 35 = .ok (.getfield 53, 3) := by decide +kernel
theorem dX0_add_38 : decode cX0_add 38 = .ok (.iload_n 3, 1) := by decide +kernel
theorem dX0_add_39 : decode cX0_add 39 = .ok (.iastore, 1) := by decide +kernel
theorem dX0_add_40 : decode cX0_add 40 = .ok (.aload_n 0, 1) := by decide +kernel
theorem dX0_add_41 : decode cX0_add 41 = .ok (.getfield 21, 3) := by decide +kernel
theorem dX0_add_44 : decode cX0_add 44 = .ok (.aload_n 0, 1) := by decide +kernel
theorem dX0_add_45 : decode cX0_add 45 = .ok (.getfield 53, 3) := by decide +kernel
theorem dX0_add_48 : decode cX0_add 48 = .ok (.bipush (-9), 2) := by decide +kernel
theorem dX0_add_50 : decode cX0_add 50 = .ok (.iastore, 1) := by decide +kernel
theorem dX0_add_51 : decode cX0_add 51 = .ok (.aload_n 0, 1) := by decide +kernel
theorem dX0_add_52 : decode cX0_add 52 = .ok (.getfield 24, 3) := by decide +kernel
theorem dX0_add_55 : decode cX0_add 55 = .ok (.aload_n 0, 1) := by decide +kernel
theorem dX0_add_56 : decode cX0_add 56 = .ok (.getfield 53, 3) := by decide +kernel
theorem dX0_add_59 : decode cX0_add 59 = .ok (.iconst 0, 1) := by decide +kernel
theorem dX0_add_60 : decode cX0_add 60 = .ok (.iastore, 1) := by decide +kernel
theorem dX0_add_61 : decode cX0_add 61 = .ok (.aload_n 0, 1) := by decide +kernel
theorem dX0_add_62 : decode cX0_add 62 = .ok (.getfield 30, 3) := by decide +kernel
theorem dX0_add_65 : decode cX0_add 65 = .ok (.aload_n 0, 1) := by decide +kernel
theorem dX0_add_66 : decode cX0_add 66 = .ok (.getfield 53, 3) := by decide +kernel
theorem dX0_add_69 : decode cX0_add 69 = .ok (.aload_n 0, 1) := by decide +kernel
theorem dX0_add_70 : decode cX0_add 70 = .ok (.getfield 57, 3) := by decide +kernel
theorem dX0_add_73 : decode cX0_add 73 = .ok (.iastore, 1) := by decide +kernel
theorem dX0_add_74 : decode cX0_add 74 = .ok (.aload_n 0, 1) := by decide +kernel
theorem dX0_add_75 : decode cX0_add 75 = .ok (.getfield 33, 3) := by decide +kernel
theorem dX0_add_78 : decode cX0_add 78 = .ok (.aload_n 0, 1) := by decide +kernel
theorem dX0_add_79 : decode cX0_add 79 = .ok (.getfield 53, 3) := by decide +kernel
theorem dX0_add_82 : decode cX0_add 82 = .ok (.aload_n 0, 1) := by decide +kernel
theorem dX0_add_83 : decode cX0_add 83 = .ok (.getfield 57, 3) := by decide +kernel
theorem dX0_add_86 : decode cX0_add 86 = .ok (.iastore, 1) := by decide +kernel
theorem dX0_add_87 : decode cX0_add 87 = .ok (.iconst 0, 1) := by decide +kernel
theorem dX0_add_88 : decode cX0_add 88 = .ok (.istore 4, 2) := by decide +kernel
theorem dX0_add_90 : decode cX0_add 90 = .ok (.iload 4, 2) := by decide +kernel
theorem dX0_add_92 : decode cX0_add 92 = .ok (.bipush 7, 2) := by decide +kernel
theorem dX0_add_94 : decode cX0_add 94 = .ok (.if_icmp .ge 25, 3) := by decide +kernel
theorem dX0_add_97 : decode cX0_add 97 = .ok (.aload_n 0, 1) := by decide +kernel
theorem dX0_add_98 : decode cX0_add 98 = .ok (.getfield 27, 3) := by decide +kernel
theorem dX0_add_101 : decode cX0_add 101 = .ok (.aload_n 0, 1) := by decide +kernel
theorem dX0_add_102 : decode cX0_add 102 = .ok (.getfield 53, 3) := by decide +kernel
theorem dX0_add_105 : decode cX0_add 105 = .ok (.bipush 7, 2) := by decide +kernel
theorem dX0_add_107 : decode cX0_add 107 = .ok (.imul, 1) := by decide +kernel
theorem dX0_add_108 : decode cX0_add 108 = .ok (.iload 4, 2) := by decide +kernel
theorem dX0_add_110 : decode cX0_add 110 = .ok (.iadd, 1) := by decide +kernel
theorem dX0_add_111 : decode cX0_add 111 = .ok (.iconst (-1), 1) := by decide +kernel
theorem dX0_add_112 : decode cX0_add 112 = .ok (.iastore, 1) := by decide +kernel
theorem dX0_add_113 : decode cX0_add 113 = .ok (.iinc 4 1, 3) := by decide +kernel
theorem dX0_add_116 : decode cX0_add 116 = .ok (.goto (-26), 3) := by decide +kernel
theorem dX0_add_119 : decode cX0_add 119 = .ok (.aload_n 0, 1) := by decide +kernel
theorem dX0_add_120 : decode cX0_add 120 = .ok (.dup, 1) := by decide +kernel
theorem dX0_add_121 : decode cX0_add 121 = .ok (.getfield 53, 3) := by decide +kernel
theorem dX0_add_124 : decode cX0_add 124 = .ok (.iconst 1, 1) := by decide +kernel
theorem dX0_add_125 : decode cX0_add 125 = .ok (.iadd, 1) := by decide +kernel
theorem dX0_add_126 : decode cX0_add 126 = .ok (.putfield 53, 3) := by decide +kernel
theorem dX0_add_129 : decode cX0_add 129 = .ok (.return_, 1) := by decide +kernel
theorem dX0_strike_0 : decode cX0_strike 0 = .ok (.aload_n 0, 1) := by decide +kernel
theorem dX0_strike_1 : decode cX0_strike 1 = .ok (.getfield 21, 3) := by decide +kernel
theorem dX0_strike_4 : decode cX0_strike 4 = .ok (.iload_n 1, 1) := by decide +kernel
theorem dX0_strike_5 : decode cX0_strike 5 = .ok (.iaload, 1) := by decide +kernel
theorem dX0_strike_6 : decode cX0_strike 6 = .ok (.bipush (-9), 2) := by decide +kernel
theorem dX0_strike_8 : decode cX0_strike 8 = .ok (.if_icmp .eq 13, 3) := by decide +kernel
theorem dX0_strike_11 : decode cX0_strike 11 = .ok (.iload_n 2, 1) := by decide +kernel
theorem dX0_strike_12 : decode cX0_strike 12 = .ok (.aload_n 0, 1) := by decide +kernel
theorem dX0_strike_13 : decode cX0_strike 13 = .ok (.getfield 21, 3) := by decide +kernel
theorem dX0_strike_16 : decode cX0_strike 16 = .ok (.iload_n 1, 1) := by decide +kernel
theorem dX0_strike_17 : decode cX0_strike 17 = .ok (.iaload, 1) := by decide +kernel
theorem dX0_strike_18 : decode cX0_strike 18 = .ok (.if_icmp .ge 10, 3) := by decide +kernel
theorem dX0_strike_21 : decode cX0_strike 21 = .ok (.aload_n 0, 1) := by decide +kernel
theorem dX0_strike_22 : decode cX0_strike 22 = .ok (.getfield 21, 3) := by decide +kernel
theorem dX0_strike_25 : decode cX0_strike 25 = .ok (.iload_n 1, 1) := by decide +kernel
theorem dX0_strike_26 : decode cX0_strike 26 = .ok (.iload_n 2, 1) := by decide +kernel
theorem dX0_strike_27 : decode cX0_strike 27 = .ok (.iastore, 1) := by decide +kernel
theorem dX0_strike_28 : decode cX0_strike 28 = .ok (.return_, 1) := by decide +kernel
theorem dX0_addStep_0 : decode cX0_addStep 0 = .ok (.aload_n 0, 1) := by decide +kernel
theorem dX0_addStep_1 : decode cX0_addStep 1 = .ok (.getfield 53, 3) := by decide +kernel
theorem dX0_addStep_4 : decode cX0_addStep 4 = .ok (.ifCond .eq 13, 3) := by decide +kernel
theorem dX0_addStep_7 : decode cX0_addStep 7 = .ok (.aload_n 0, 1) := by decide +kernel
theorem dX0_addStep_8 : decode cX0_addStep 8 = .ok (.getfield 57, 3) := by decide +kernel
theorem dX0_addStep_11 : decode cX0_addStep 11 = .ok (.sipush 900, 3) := by decide +kernel
theorem dX0_addStep_14 : decode cX0_addStep 14 = .ok (.if_icmp .ne 4, 3) := by decide +kernel
theorem dX0_addStep_17 : decode cX0_addStep 17 = .ok (.return_, 1) := by decide +kernel
theorem dX0_addStep_18 : decode cX0_addStep 18 = .ok (.aload_n 0, 1) := by decide +kernel
theorem dX0_addStep_19 : decode cX0_addStep 19 = .ok (.getfield 36, 3) := by decide +kernel
theorem dX0_addStep_22 : decode cX0_addStep 22 = .ok (.aload_n 0, 1) := by decide +kernel
theorem dX0_addStep_23 : decode cX0_addStep 23 = .ok (.getfield 57, 3) := by decide +kernel
theorem dX0_addStep_26 : decode cX0_addStep 26 = .ok (.iload_n 1, 1) := by decide +kernel
theorem dX0_addStep_27 : decode cX0_addStep 27 = .ok (.sipush 10000, 3) := by decide +kernel
theorem dX0_addStep_30 : decode cX0_addStep 30 = .ok (.imul, 1) := by decide +kernel
theorem dX0_addStep_31 : decode cX0_addStep 31 = .ok (.iload_n 2, 1) := by decide +kernel
theorem dX0_addStep_32 : decode cX0_addStep 32 = .ok (.iadd, 1) := by decide +kernel
theorem dX0_addStep_33 : decode cX0_addStep 33 = .ok (.iastore, 1) := by decide +kernel
theorem dX0_addStep_34 : decode cX0_addStep 34 = .ok (.aload_n 0, 1) := by decide +kernel
theorem dX0_addStep_35 : decode cX0_addStep 35 = .ok (.dup, 1) := by decide +kernel
theorem dX0_addStep_36 : decode cX0_addStep 36 = .ok (.getfield 57, 3) := by decide +kernel
theorem dX0_addStep_39 : decode cX0_addStep 39 = .ok (.iconst 1, 1) := by decide +kernel
theorem dX0_addStep_40 : decode cX0_addStep 40 = .ok (.iadd, 1) := by decide +kernel
theorem dX0_addStep_41 : decode cX0_addStep 41 = .ok (.putfield 57, 3) := by decide +kernel
theorem dX0_addStep_44 : decode cX0_addStep 44 = .ok (.aload_n 0, 1) := by decide +kernel
theorem dX0_addStep_45 : decode cX0_addStep 45 = .ok (.getfield 33, 3) := by decide +kernel
theorem dX0_addStep_48 : decode cX0_addStep 48 = .ok (.aload_n 0, 1) := by decide +kernel
theorem dX0_addStep_49 : decode cX0_addStep 49 = .ok (.getfield 53, 3) := by decide +kernel
theorem dX0_addStep_52 : decode cX0_addStep 52 = .ok (.iconst 1, 1) := by decide +kernel
theorem dX0_addStep_53 : decode cX0_addStep 53 = .ok (.isub, 1) := by decide +kernel
theorem dX0_addStep_54 : decode cX0_addStep 54 = .ok (.aload_n 0, 1) := by decide +kernel
theorem dX0_addStep_55 : decode cX0_addStep 55 = .ok (.getfield 57, 3) := by decide +kernel
theorem dX0_addStep_58 : decode cX0_addStep 58 = .ok (.iastore, 1) := by decide +kernel
theorem dX0_addStep_59 : decode cX0_addStep 59 = .ok (.return_, 1) := by decide +kernel
theorem dX0_tellsLast_0 : decode cX0_tellsLast 0 = .ok (.aload_n 0, 1) := by decide +kernel
theorem dX0_tellsLast_1 : decode cX0_tellsLast 1 = .ok (.getfield 53, 3) := by decide +kernel
theorem dX0_tellsLast_4 : decode cX0_tellsLast 4 = .ok (.ifCond .le 27, 3) := by decide +kernel
theorem dX0_tellsLast_7 : decode cX0_tellsLast 7 = .ok (.aload_n 0, 1) := by decide +kernel
theorem dX0_tellsLast_8 : decode cX0_tellsLast 8 = .ok (.getfield 27, 3) := by decide +kernel
theorem dX0_tellsLast_11 : decode cX0_tellsLast 11 = .ok (.aload_n 0, 1) := by decide +kernel
theorem dX0_tellsLast_12 : decode cX0_tellsLast 12 = .ok (.getfield 53, 3) := by decide +kernel
theorem dX0_tellsLast_15 : decode cX0_tellsLast 15 = .ok (.iconst 1, 1) := by decide +kernel
theorem dX0_tellsLast_16 : decode cX0_tellsLast 16 = .ok (.isub, 1) := by decide +kernel
theorem dX0_tellsLast_17 : decode cX0_tellsLast 17 = .ok (.bipush 7, 2) := by decide +kernel
theorem dX0_tellsLast_19 : decode cX0_tellsLast 19 = .ok (.imul, 1) := by decide +kernel
theorem dX0_tellsLast_20 : decode cX0_tellsLast 20 = .ok (.iload_n 1, 1) := by decide +kernel
theorem dX0_tellsLast_21 : decode cX0_tellsLast 21 = .ok (.iadd, 1) := by decide +kernel
theorem dX0_tellsLast_22 : decode cX0_tellsLast 22 = .ok (.iaload, 1) := by decide +kernel
theorem dX0_tellsLast_23 : decode cX0_tellsLast 23 = .ok (.iconst (-1), 1) := by decide +kernel
theorem dX0_tellsLast_24 : decode cX0_tellsLast 24 = .ok (.if_icmp .eq 7, 3) := by decide +kernel
theorem dX0_tellsLast_27 : decode cX0_tellsLast 27 = .ok (.iconst 1, 1) := by decide +kernel
theorem dX0_tellsLast_28 : decode cX0_tellsLast 28 = .ok (.goto 4, 3) := by decide +kernel
theorem dX0_tellsLast_31 : decode cX0_tellsLast 31 = .ok (.iconst 0, 1) := by decide +kernel
theorem dX0_tellsLast_32 : decode cX0_tellsLast 32 = .ok (.ireturn, 1) := by decide +kernel
theorem dX0_tell_0 : decode cX0_tell 0 = .ok (.aload_n 0, 1) := by decide +kernel
theorem dX0_tell_1 : decode cX0_tell 1 = .ok (.getfield 53, 3) := by decide +kernel
theorem dX0_tell_4 : decode cX0_tell 4 = .ok (.ifCond .le 20, 3) := by decide +kernel
theorem dX0_tell_7 : decode cX0_tell 7 = .ok (.aload_n 0, 1) := by decide +kernel
theorem dX0_tell_8 : decode cX0_tell 8 = .ok (.getfield 27, 3) := by decide +kernel
theorem dX0_tell_11 : decode cX0_tell 11 = .ok (.aload_n 0, 1) := by decide +kernel
theorem dX0_tell_12 : decode cX0_tell 12 = .ok (.getfield 53, 3) := by decide +kernel
theorem dX0_tell_15 : decode cX0_tell 15 = .ok (.iconst 1, 1) := by decide +kernel
theorem dX0_tell_16 : decode cX0_tell 16 = .ok (.isub, 1) := by decide +kernel
theorem dX0_tell_17 : decode cX0_tell 17 = .ok (.bipush 7, 2) := by decide +kernel
theorem dX0_tell_19 : decode cX0_tell 19 = .ok (.imul, 1) := by decide +kernel
theorem dX0_tell_20 : decode cX0_tell 20 = .ok (.iload_n 1, 1) := by decide +kernel
theorem dX0_tell_21 : decode cX0_tell 21 = .ok (.iadd, 1) := by decide +kernel
theorem dX0_tell_22 : decode cX0_tell 22 = .ok (.iload_n 2, 1) := by decide +kernel
theorem dX0_tell_23 : decode cX0_tell 23 = .ok (.iastore, 1) := by decide +kernel
theorem dX0_tell_24 : decode cX0_tell 24 = .ok (.return_, 1) := by decide +kernel
theorem dX0_countDuty_0 : decode cX0_countDuty 0 = .ok (.aload_n 0, 1) := by decide +kernel
theorem dX0_countDuty_1 : decode cX0_countDuty 1 = .ok (.getfield 53, 3) := by decide +kernel
theorem dX0_countDuty_4 : decode cX0_countDuty 4 = .ok (.ifCond .le 18, 3) := by decide +kernel
theorem dX0_countDuty_7 : decode cX0_countDuty 7 = .ok (.aload_n 0, 1) := by decide +kernel
theorem dX0_countDuty_8 : decode cX0_countDuty 8 = .ok (.getfield 24, 3) := by decide +kernel
theorem dX0_countDuty_11 : decode cX0_countDuty 11 = .ok (.aload_n 0, 1) := by decide +kernel
theorem dX0_countDuty_12 : decode cX0_countDuty 12 = .ok (.getfield 53, 3) := by decide +kernel
theorem dX0_countDuty_15 : decode cX0_countDuty 15 = .ok (.iconst 1, 1) := by decide +kernel
theorem dX0_countDuty_16 : decode cX0_countDuty 16 = .ok (.isub, 1) := by decide +kernel
theorem dX0_countDuty_17 : decode cX0_countDuty 17 = .ok (.dup2, 1) := by decide +kernel
theorem dX0_countDuty_18 : decode cX0_countDuty 18 = .ok (.iaload, 1) := by decide +kernel
theorem dX0_countDuty_19 : decode cX0_countDuty 19 = .ok (.iconst 1, 1) := by decide +kernel
theorem dX0_countDuty_20 : decode cX0_countDuty 20 = .ok (.iadd, 1) := by decide +kernel
theorem dX0_countDuty_21 : decode cX0_countDuty 21 = .ok (.iastore, 1) := by decide +kernel
theorem dX0_countDuty_22 : decode cX0_countDuty 22 = .ok (.return_, 1) := by decide +kernel
theorem dX0_binding_0 : decode cX0_binding 0 = .ok (.iload 4, 2) := by decide +kernel
theorem dX0_binding_2 : decode cX0_binding 2 = .ok (.aload_n 0, 1) := by decide +kernel
theorem dX0_binding_3 : decode cX0_binding 3 = .ok (.getfield 15, 3) := by decide +kernel
theorem dX0_binding_6 : decode cX0_binding 6 = .ok (.iload_n 1, 1) := by decide +kernel
theorem dX0_binding_7 : decode cX0_binding 7 = .ok (.iaload, 1) := by decide +kernel
theorem dX0_binding_8 : decode cX0_binding 8 = .ok (.if_icmp .lt 36, 3) := by decide +kernel
theorem dX0_binding_11 : decode cX0_binding 11 = .ok (.iload 4, 2) := by decide +kernel
theorem dX0_binding_13 : decode cX0_binding 13 = .ok (.aload_n 0, 1) := by decide +kernel
theorem dX0_binding_14 : decode cX0_binding 14 = .ok (.getfield 18, 3) := by decide +kernel
theorem dX0_binding_17 : decode cX0_binding 17 = .ok (.iload_n 1, 1) := by decide +kernel
theorem dX0_binding_18 : decode cX0_binding 18 = .ok (.iaload, 1) := by decide +kernel
theorem dX0_binding_19 : decode cX0_binding 19 = .ok (.if_icmp .gt 25, 3) := by decide +kernel
theorem dX0_binding_22 : decode cX0_binding 22 = .ok (.aload_n 0, 1) := by decide +kernel
theorem dX0_binding_23 : decode cX0_binding 23 = .ok (.getfield 21, 3) := by decide +kernel
theorem dX0_binding_26 : decode cX0_binding 26 = .ok (.iload_n 1, 1) := by decide +kernel
theorem dX0_binding_27 : decode cX0_binding 27 = .ok (.iaload, 1) := by decide +kernel
theorem dX0_binding_28 : decode cX0_binding 28 = .ok (.bipush (-9), 2) := by decide +kernel
theorem dX0_binding_30 : decode cX0_binding 30 = .ok (.if_icmp .eq 16, 3) := by decide +kernel
theorem dX0_binding_33 : decode cX0_binding 33 = .ok (.iload 4, 2) := by decide +kernel
theorem dX0_binding_35 : decode cX0_binding 35 = .ok (.aload_n 0, 1) := by decide +kernel
theorem dX0_binding_36 : decode cX0_binding 36 = .ok (.getfield 21, 3) := by decide +kernel
theorem dX0_binding_39 : decode cX0_binding 39 = .ok (.iload_n 1, 1) := by decide +kernel
theorem dX0_binding_40 : decode cX0_binding 40 = .ok (.iaload, 1) := by decide +kernel
theorem dX0_binding_41 : decode cX0_binding 41 = .ok (.if_icmp .lt 5, 3) := by decide +kernel
theorem dX0_binding_44 : decode cX0_binding 44 = .ok (.iconst 0, 1) := by decide +kernel
theorem dX0_binding_45 : decode cX0_binding 45 = .ok (.ireturn, 1) := by decide +kernel
theorem dX0_binding_46 : decode cX0_binding 46 = .ok (.iconst 0, 1) := by decide +kernel
theorem dX0_binding_47 : decode cX0_binding 47 = .ok (.istore 5, 2) := by decide +kernel
theorem dX0_binding_49 : decode cX0_binding 49 = .ok (.aload_n 0, 1) := by decide +kernel
theorem dX0_binding_50 : decode cX0_binding 50 = .ok (.getfield 30, 3) := by decide +kernel
theorem dX0_binding_53 : decode cX0_binding 53 = .ok (.iload_n 1, 1) := by decide +kernel
theorem dX0_binding_54 : decode cX0_binding 54 = .ok (.iaload, 1) := by decide +kernel
theorem dX0_binding_55 : decode cX0_binding 55 = .ok (.istore 6, 2) := by decide +kernel
theorem dX0_binding_57 : decode cX0_binding 57 = .ok (.iload 6, 2) := by decide +kernel
theorem dX0_binding_59 : decode cX0_binding 59 = .ok (.aload_n 0, 1) := by decide +kernel
theorem dX0_binding_60 : decode cX0_binding 60 = .ok (.getfield 33, 3) := by decide +kernel
theorem dX0_binding_63 : decode cX0_binding 63 = .ok (.iload_n 1, 1) := by decide +kernel
theorem dX0_binding_64 : decode cX0_binding 64 = .ok (.iaload, 1) := by decide +kernel
theorem dX0_binding_65 : decode cX0_binding 65 = .ok (.if_icmp .ge 189, 3) := by decide +kernel
theorem dX0_binding_68 : decode cX0_binding 68 = .ok (.aload_n 0, 1) := by decide +kernel
theorem dX0_binding_69 : decode cX0_binding 69 = .ok (.getfield 36, 3) := by decide +kernel
theorem dX0_binding_72 : decode cX0_binding 72 = .ok (.iload 6, 2) := by decide +kernel
theorem dX0_binding_74 : decode cX0_binding 74 = .ok (.iaload, 1) := by decide +kernel
theorem dX0_binding_75 : decode cX0_binding 75 = .ok (.sipush 10000, 3) := by decide +kernel
theorem dX0_binding_78 : decode cX0_binding 78 = .ok (.idiv, 1) := by decide +kernel
theorem dX0_binding_79 : decode cX0_binding 79 = .ok (.istore 7, 2) := by decide +kernel
theorem dX0_binding_81 : decode cX0_binding 81 = .ok (.iload 7, 2) := by decide +kernel
theorem dX0_binding_83 : decode cX0_binding 83 = .ok (.iconst 3, 1) := by decide +kernel
theorem dX0_binding_84 : decode cX0_binding 84 = .ok (.if_icmp .ne 31, 3) := by decide +kernel
theorem dX0_binding_87 : decode cX0_binding 87 = .ok (.iload 5, 2) := by decide +kernel
theorem dX0_binding_89 : decode cX0_binding 89 = .ok (.ifCond .le 26, 3) := by decide +kernel
theorem dX0_binding_92 : decode cX0_binding 92 = .ok (.aload_n 0, 1) := by decide +kernel
theorem dX0_binding_93 : decode cX0_binding 93 = .ok (.getfield 39, 3) := by decide +kernel
theorem dX0_binding_96 : decode cX0_binding 96 = .ok (.iload 5, 2) := by decide +kernel
theorem dX0_binding_98 : decode cX0_binding 98 = .ok (.iconst 1, 1) := by decide +kernel
theorem dX0_binding_99 : decode cX0_binding 99 = .ok (.isub, 1) := by decide +kernel
theorem dX0_binding_100 : decode cX0_binding 100 = .ok (.iconst 2, 1) := by decide +kernel
theorem dX0_binding_101 : decode cX0_binding 101 = .ok (.aload_n 0, 1) := by decide +kernel
theorem dX0_binding_102 : decode cX0_binding 102 = .ok (.getfield 39, 3) := by decide +kernel
theorem dX0_binding_105 : decode cX0_binding 105 = .ok (.iload 5, 2) := by decide +kernel
theorem dX0_binding_107 : decode cX0_binding 107 = .ok (.iconst 1, 1) := by decide +kernel
theorem dX0_binding_108 : decode cX0_binding 108 = .ok (.isub, 1) := by decide +kernel
theorem dX0_binding_109 : decode cX0_binding 109 = .ok (.iaload, 1) := by decide +kernel
theorem dX0_binding_110 : decode cX0_binding 110 = .ok (.isub, 1) := by decide +kernel
theorem dX0_binding_111 : decode cX0_binding 111 = .ok (.iastore, 1) := by decide +kernel
theorem dX0_binding_112 : decode cX0_binding 112 = .ok (.goto 136, 3) := by decide +kernel
theorem dX0_binding_115 : decode cX0_binding 115 = .ok (.iload 7, 2) := by decide +kernel
theorem dX0_binding_117 : decode cX0_binding 117 = .ok (.iconst 2, 1) := by decide +kernel
theorem dX0_binding_118 : decode cX0_binding 118 = .ok (.if_icmp .ne 43, 3) := by decide +kernel
theorem dX0_binding_121 : decode cX0_binding 121 = .ok (.iload 5, 2) := by decide +kernel
theorem dX0_binding_123 : decode cX0_binding 123 = .ok (.iconst 1, 1) := by decide +kernel
theorem dX0_binding_124 : decode cX0_binding 124 = .ok (.if_icmp .le 37, 3) := by decide +kernel
theorem dX0_binding_127 : decode cX0_binding 127 = .ok (.iinc 5 (-1), 3) := by decide +kernel
theorem dX0_binding_130 : decode cX0_binding 130 = .ok (.aload_n 0, 1) := by decide +kernel
theorem dX0_binding_131 : decode cX0_binding 131 = .ok (.getfield 39, 3) := by decide +kernel
theorem dX0_binding_134 : decode cX0_binding 134 = .ok (.iload 5, 2) := by decide +kernel
theorem dX0_binding_136 : decode cX0_binding 136 = .ok (.iconst 1, 1) := by decide +kernel
theorem dX0_binding_137 : decode cX0_binding 137 = .ok (.isub, 1) := by decide +kernel
theorem dX0_binding_138 : decode cX0_binding 138 = .ok (.aload_n 0, 1) := by decide +kernel
theorem dX0_binding_139 : decode cX0_binding 139 = .ok (.getfield 39, 3) := by decide +kernel
theorem dX0_binding_142 : decode cX0_binding 142 = .ok (.iload 5, 2) := by decide +kernel
theorem dX0_binding_144 : decode cX0_binding 144 = .ok (.iconst 1, 1) := by decide +kernel
theorem dX0_binding_145 : decode cX0_binding 145 = .ok (.isub, 1) := by decide +kernel
theorem dX0_binding_146 : decode cX0_binding 146 = .ok (.iaload, 1) := by decide +kernel
theorem dX0_binding_147 : decode cX0_binding 147 = .ok (.aload_n 0, 1) := by decide +kernel
theorem dX0_binding_148 : decode cX0_binding 148 = .ok (.getfield 39, 3) := by decide +kernel
theorem dX0_binding_151 : decode cX0_binding 151 = .ok (.iload 5, 2) := by decide +kernel
theorem dX0_binding_153 : decode cX0_binding 153 = .ok (.iaload, 1) := by decide +kernel
theorem dX0_binding_154 : decode cX0_binding 154 = .ok (.invokestatic 60, 3) := by decide +kernel
theorem dX0_binding_157 : decode cX0_binding 157 = .ok (.iastore, 1) := by decide +kernel
theorem dX0_binding_158 : decode cX0_binding 158 = .ok (.goto 90, 3) := by decide +kernel
theorem dX0_binding_161 : decode cX0_binding 161 = .ok (.iload 7, 2) := by decide +kernel
theorem dX0_binding_163 : decode cX0_binding 163 = .ok (.iconst 1, 1) := by decide +kernel
theorem dX0_binding_164 : decode cX0_binding 164 = .ok (.if_icmp .ne 43, 3) := by decide +kernel
theorem dX0_binding_167 : decode cX0_binding 167 = .ok (.iload 5, 2) := by decide +kernel
theorem dX0_binding_169 : decode cX0_binding 169 = .ok (.iconst 1, 1) := by decide +kernel
theorem dX0_binding_170 : decode cX0_binding 170 = .ok (.if_icmp .le 37, 3) := by decide +kernel
theorem dX0_binding_173 : decode cX0_binding 173 = .ok (.iinc 5 (-1), 3) := by decide +kernel
theorem dX0_binding_176 : decode cX0_binding 176 = .ok (.aload_n 0, 1) := by decide +kernel
theorem dX0_binding_177 : decode cX0_binding 177 = .ok (.getfield 39, 3) := by decide +kernel
theorem dX0_binding_180 : decode cX0_binding 180 = .ok (.iload 5, 2) := by decide +kernel
theorem dX0_binding_182 : decode cX0_binding 182 = .ok (.iconst 1, 1) := by decide +kernel
theorem dX0_binding_183 : decode cX0_binding 183 = .ok (.isub, 1) := by decide +kernel
theorem dX0_binding_184 : decode cX0_binding 184 = .ok (.aload_n 0, 1) := by decide +kernel
theorem dX0_binding_185 : decode cX0_binding 185 = .ok (.getfield 39, 3) := by decide +kernel
theorem dX0_binding_188 : decode cX0_binding 188 = .ok (.iload 5, 2) := by decide +kernel
theorem dX0_binding_190 : decode cX0_binding 190 = .ok (.iconst 1, 1) := by decide +kernel
theorem dX0_binding_191 : decode cX0_binding 191 = .ok (.isub, 1) := by decide +kernel
theorem dX0_binding_192 : decode cX0_binding 192 = .ok (.iaload, 1) := by decide +kernel
theorem dX0_binding_193 : decode cX0_binding 193 = .ok (.aload_n 0, 1) := by decide +kernel
theorem dX0_binding_194 : decode cX0_binding 194 = .ok (.getfield 39, 3) := by decide +kernel
theorem dX0_binding_197 : decode cX0_binding 197 = .ok (.iload 5, 2) := by decide +kernel
theorem dX0_binding_199 : decode cX0_binding 199 = .ok (.iaload, 1) := by decide +kernel
theorem dX0_binding_200 : decode cX0_binding 200 = .ok (.invokestatic 66, 3) := by decide +kernel
theorem dX0_binding_203 : decode cX0_binding 203 = .ok (.iastore, 1) := by decide +kernel
theorem dX0_binding_204 : decode cX0_binding 204 = .ok (.goto 44, 3) := by decide +kernel
theorem dX0_binding_207 : decode cX0_binding 207 = .ok (.iload 7, 2) := by decide +kernel
theorem dX0_binding_209 : decode cX0_binding 209 = .ok (.iconst 3, 1) := by decide +kernel
theorem dX0_binding_210 : decode cX0_binding 210 = .ok (.if_icmp .le 38, 3) := by decide +kernel
theorem dX0_binding_213 : decode cX0_binding 213 = .ok (.iload 5, 2) := by decide +kernel
theorem dX0_binding_215 : decode cX0_binding 215 = .ok (.aload_n 0, 1) := by decide +kernel
theorem dX0_binding_216 : decode cX0_binding 216 = .ok (.getfield 39, 3) := by decide +kernel
theorem dX0_binding_219 : decode cX0_binding 219 = .ok (.arraylength, 1) := by decide +kernel
theorem dX0_binding_220 : decode cX0_binding 220 = .ok (.if_icmp .ge 28, 3) := by decide +kernel
theorem dX0_binding_223 : decode cX0_binding 223 = .ok (.aload_n 0, 1) := by decide +kernel
theorem dX0_binding_224 : decode cX0_binding 224 = .ok (.getfield 39, 3) := by decide +kernel
theorem dX0_binding_227 : decode cX0_binding 227 = .ok (.iload 5, 2) := by decide +kernel
theorem dX0_binding_229 : decode cX0_binding 229 = .ok (.aload_n 0, 1) := by decide +kernel
theorem dX0_binding_230 : decode cX0_binding 230 = .ok (.aload_n 0, 1) := by decide +kernel
theorem dX0_binding_231 : decode cX0_binding 231 = .ok (.getfield 36, 3) := by decide +kernel
theorem dX0_binding_234 : decode cX0_binding 234 = .ok (.iload 6, 2) := by decide +kernel
theorem dX0_binding_236 : decode cX0_binding 236 = .ok (.iaload, 1) := by decide +kernel
theorem dX0_binding_237 : decode cX0_binding 237 = .ok (.iload_n 2, 1) := by decide +kernel
theorem dX0_binding_238 : decode cX0_binding 238 = .ok (.iload_n 3, 1) := by decide +kernel
theorem dX0_binding_239 : decode cX0_binding 239 = .ok (.iload 4, 2) := by decide +kernel
theorem dX0_binding_241 : decode cX0_binding 241 = .ok (.invokevirtual 69, 3) := by decide +kernel
theorem dX0_binding_244 : decode cX0_binding 244 = .ok (.iastore, 1) := by decide +kernel
theorem dX0_binding_245 : decode cX0_binding 245 = .ok (.iinc 5 1, 3) := by decide +kernel
theorem dX0_binding_248 : decode cX0_binding 248 = .ok (.iinc 6 1, 3) := by decide +kernel
theorem dX0_binding_251 : decode cX0_binding 251 = .ok (.goto (-194), 3) := by decide +kernel
theorem dX0_binding_254 : decode cX0_binding 254 = .ok (.iload 5, 2) := by decide +kernel
theorem dX0_binding_256 : decode cX0_binding 256 = .ok (.ifCond .ne 7, 3) := by decide +kernel
theorem dX0_binding_259 : decode cX0_binding 259 = .ok (.iconst 2, 1) := by decide +kernel
theorem dX0_binding_260 : decode cX0_binding 260 = .ok (.goto 9, 3) := by decide +kernel
theorem dX0_binding_263 : decode cX0_binding 263 = .ok (.aload_n 0, 1) := by decide +kernel
theorem dX0_binding_264 : decode cX0_binding 264 = .ok (.getfield 39, 3) := by decide +kernel
theorem dX0_binding_267 : decode cX0_binding 267 = .ok (.iconst 0, 1) := by decide +kernel
theorem dX0_binding_268 : decode cX0_binding 268 = .ok (.iaload, 1) := by decide +kernel
theorem dX0_binding_269 : decode cX0_binding 269 = .ok (.ireturn, 1) := by decide +kernel
theorem dX0_test_0 : decode cX0_test 0 = .ok (.iload_n 1, 1) := by decide +kernel
theorem dX0_test_1 : decode cX0_test 1 = .ok (.sipush 10000, 3) := by decide +kernel
theorem dX0_test_4 : decode cX0_test 4 = .ok (.irem, 1) := by decide +kernel
theorem dX0_test_5 : decode cX0_test 5 = .ok (.istore 5, 2) := by decide +kernel
theorem dX0_test_7 : decode cX0_test 7 = .ok (.aload_n 0, 1) := by decide +kernel
theorem dX0_test_8 : decode cX0_test 8 = .ok (.getfield 45, 3) := by decide +kernel
theorem dX0_test_11 : decode cX0_test 11 = .ok (.iload_n 2, 1) := by decide +kernel
theorem dX0_test_12 : decode cX0_test 12 = .ok (.iload 4, 2) := by decide +kernel
theorem dX0_test_14 : decode cX0_test 14 = .ok (.invokevirtual 73, 3) := by decide +kernel
theorem dX0_test_17 : decode cX0_test 17 = .ok (.istore 6, 2) := by decide +kernel
theorem dX0_test_19 : decode cX0_test 19 = .ok (.aload_n 0, 1) := by decide +kernel
theorem dX0_test_20 : decode cX0_test 20 = .ok (.getfield 45, 3) := by decide +kernel
theorem dX0_test_23 : decode cX0_test 23 = .ok (.iload_n 2, 1) := by decide +kernel
theorem dX0_test_24 : decode cX0_test 24 = .ok (.iload 4, 2) := by decide +kernel
theorem dX0_test_26 : decode cX0_test 26 = .ok (.invokevirtual 78, 3) := by decide +kernel
theorem dX0_test_29 : decode cX0_test 29 = .ok (.istore 7, 2) := by decide +kernel
theorem dX0_test_31 : decode cX0_test 31 = .ok (.iload_n 1, 1) := by decide +kernel
theorem dX0_test_32 : decode cX0_test 32 = .ok (.sipush 10000, 3) := by decide +kernel
theorem dX0_test_35 : decode cX0_test 35 = .ok (.idiv, 1) := by decide +kernel
theorem dX0_test_36 : decode cX0_test 36 = .ok (.tableswitch 202 4 9 #[40, 68, 96, 138, 162, 186], 40) := by decide +kernel
theorem dX0_test_76 : decode cX0_test 76 = .ok (.iload 7, 2) := by decide +kernel
theorem dX0_test_78 : decode cX0_test 78 = .ok (.iload 5, 2) := by decide +kernel
theorem dX0_test_80 : decode cX0_test 80 = .ok (.if_icmp .ge 7, 3) := by decide +kernel
theorem dX0_test_83 : decode cX0_test 83 = .ok (.iconst 1, 1) := by decide +kernel
theorem dX0_test_84 : decode cX0_test 84 = .ok (.goto 4, 3) := by decide +kernel
theorem dX0_test_87 : decode cX0_test 87 = .ok (.iconst 0, 1) := by decide +kernel
theorem dX0_test_88 : decode cX0_test 88 = .ok (.iload 6, 2) := by decide +kernel
theorem dX0_test_90 : decode cX0_test 90 = .ok (.iload 5, 2) := by decide +kernel
theorem dX0_test_92 : decode cX0_test 92 = .ok (.if_icmp .ge 7, 3) := by decide +kernel
theorem dX0_test_95 : decode cX0_test 95 = .ok (.iconst 1, 1) := by decide +kernel
theorem dX0_test_96 : decode cX0_test 96 = .ok (.goto 4, 3) := by decide +kernel
theorem dX0_test_99 : decode cX0_test 99 = .ok (.iconst 0, 1) := by decide +kernel
theorem dX0_test_100 : decode cX0_test 100 = .ok (.invokestatic 81, 3) := by decide +kernel
theorem dX0_test_103 : decode cX0_test 103 = .ok (.ireturn, 1) := by decide +kernel
theorem dX0_test_104 : decode cX0_test 104 = .ok (.iload 6, 2) := by decide +kernel
theorem dX0_test_106 : decode cX0_test 106 = .ok (.iload 5, 2) := by decide +kernel
theorem dX0_test_108 : decode cX0_test 108 = .ok (.if_icmp .le 7, 3) := by decide +kernel
theorem dX0_test_111 : decode cX0_test 111 = .ok (.iconst 1, 1) := by decide +kernel
theorem dX0_test_112 : decode cX0_test 112 = .ok (.goto 4, 3) := by decide +kernel
theorem dX0_test_115 : decode cX0_test 115 = .ok (.iconst 0, 1) := by decide +kernel
theorem dX0_test_116 : decode cX0_test 116 = .ok (.iload 7, 2) := by decide +kernel
theorem dX0_test_118 : decode cX0_test 118 = .ok (.iload 5, 2) := by decide +kernel
theorem dX0_test_120 : decode cX0_test 120 = .ok (.if_icmp .le 7, 3) := by decide +kernel
theorem dX0_test_123 : decode cX0_test 123 = .ok (.iconst 1, 1) := by decide +kernel
theorem dX0_test_124 : decode cX0_test 124 = .ok (.goto 4, 3) := by decide +kernel
theorem dX0_test_127 : decode cX0_test 127 = .ok (.iconst 0, 1) := by decide +kernel
theorem dX0_test_128 : decode cX0_test 128 = .ok (.invokestatic 81, 3) := by decide +kernel
theorem dX0_test_131 : decode cX0_test 131 = .ok (.ireturn, 1) := by decide +kernel
theorem dX0_test_132 : decode cX0_test 132 = .ok (.iload 6, 2) := by decide +kernel
theorem dX0_test_134 : decode cX0_test 134 = .ok (.iload 5, 2) := by decide +kernel
theorem dX0_test_136 : decode cX0_test 136 = .ok (.if_icmp .ne 14, 3) := by decide +kernel
theorem dX0_test_139 : decode cX0_test 139 = .ok (.iload 7, 2) := by decide +kernel
theorem dX0_test_141 : decode cX0_test 141 = .ok (.iload 5, 2) := by decide +kernel
theorem dX0_test_143 : decode cX0_test 143 = .ok (.if_icmp .ne 7, 3) := by decide +kernel
theorem dX0_test_146 : decode cX0_test 146 = .ok (.iconst 1, 1) := by decide +kernel
theorem dX0_test_147 : decode cX0_test 147 = .ok (.goto 4, 3) := by decide +kernel
theorem dX0_test_150 : decode cX0_test 150 = .ok (.iconst 0, 1) := by decide +kernel
theorem dX0_test_151 : decode cX0_test 151 = .ok (.iload 6, 2) := by decide +kernel
theorem dX0_test_153 : decode cX0_test 153 = .ok (.iload 5, 2) := by decide +kernel
theorem dX0_test_155 : decode cX0_test 155 = .ok (.if_icmp .gt 14, 3) := by decide +kernel
theorem dX0_test_158 : decode cX0_test 158 = .ok (.iload 5, 2) := by decide +kernel
theorem dX0_test_160 : decode cX0_test 160 = .ok (.iload 7, 2) := by decide +kernel
theorem dX0_test_162 : decode cX0_test 162 = .ok (.if_icmp .gt 7, 3) := by decide +kernel
theorem dX0_test_165 : decode cX0_test 165 = .ok (.iconst 1, 1) := by decide +kernel
theorem dX0_test_166 : decode cX0_test 166 = .ok (.goto 4, 3) := by decide +kernel
theorem dX0_test_169 : decode cX0_test 169 = .ok (.iconst 0, 1) := by decide +kernel
theorem dX0_test_170 : decode cX0_test 170 = .ok (.invokestatic 81, 3) := by decide +kernel
theorem dX0_test_173 : decode cX0_test 173 = .ok (.ireturn, 1) := by decide +kernel
theorem dX0_test_174 : decode cX0_test 174 = .ok (.aload_n 0, 1) := by decide +kernel
theorem dX0_test_175 : decode cX0_test 175 = .ok (.getfield 45, 3) := by decide +kernel
theorem dX0_test_178 : decode cX0_test 178 = .ok (.getfield 85, 3) := by decide +kernel
theorem dX0_test_181 : decode cX0_test 181 = .ok (.iload_n 2, 1) := by decide +kernel
theorem dX0_test_182 : decode cX0_test 182 = .ok (.iaload, 1) := by decide +kernel
theorem dX0_test_183 : decode cX0_test 183 = .ok (.iload 5, 2) := by decide +kernel
theorem dX0_test_185 : decode cX0_test 185 = .ok (.if_icmp .ne 7, 3) := by decide +kernel
theorem dX0_test_188 : decode cX0_test 188 = .ok (.iconst 1, 1) := by decide +kernel
theorem dX0_test_189 : decode cX0_test 189 = .ok (.goto 4, 3) := by decide +kernel
theorem dX0_test_192 : decode cX0_test 192 = .ok (.iconst 0, 1) := by decide +kernel
theorem dX0_test_193 : decode cX0_test 193 = .ok (.iconst 0, 1) := by decide +kernel
theorem dX0_test_194 : decode cX0_test 194 = .ok (.invokestatic 81, 3) := by decide +kernel
theorem dX0_test_197 : decode cX0_test 197 = .ok (.ireturn, 1) := by decide +kernel
theorem dX0_test_198 : decode cX0_test 198 = .ok (.aload_n 0, 1) := by decide +kernel
theorem dX0_test_199 : decode cX0_test 199 = .ok (.getfield 49, 3) := by decide +kernel
theorem dX0_test_202 : decode cX0_test 202 = .ok (.getfield 88, 3) := by decide +kernel
theorem dX0_test_205 : decode cX0_test 205 = .ok (.iload_n 3, 1) := by decide +kernel
theorem dX0_test_206 : decode cX0_test 206 = .ok (.iaload, 1) := by decide +kernel
theorem dX0_test_207 : decode cX0_test 207 = .ok (.iload 5, 2) := by decide +kernel
theorem dX0_test_209 : decode cX0_test 209 = .ok (.if_icmp .ne 7, 3) := by decide +kernel
theorem dX0_test_212 : decode cX0_test 212 = .ok (.iconst 1, 1) := by decide +kernel
theorem dX0_test_213 : decode cX0_test 213 = .ok (.goto 4, 3) := by decide +kernel
theorem dX0_test_216 : decode cX0_test 216 = .ok (.iconst 0, 1) := by decide +kernel
theorem dX0_test_217 : decode cX0_test 217 = .ok (.iconst 0, 1) := by decide +kernel
theorem dX0_test_218 : decode cX0_test 218 = .ok (.invokestatic 81, 3) := by decide +kernel
theorem dX0_test_221 : decode cX0_test 221 = .ok (.ireturn, 1) := by decide +kernel
theorem dX0_test_222 : decode cX0_test 222 = .ok (.iload_n 3, 1) := by decide +kernel
theorem dX0_test_223 : decode cX0_test 223 = .ok (.iload 5, 2) := by decide +kernel
theorem dX0_test_225 : decode cX0_test 225 = .ok (.if_icmp .ne 7, 3) := by decide +kernel
theorem dX0_test_228 : decode cX0_test 228 = .ok (.iconst 1, 1) := by decide +kernel
theorem dX0_test_229 : decode cX0_test 229 = .ok (.goto 4, 3) := by decide +kernel
theorem dX0_test_232 : decode cX0_test 232 = .ok (.iconst 0, 1) := by decide +kernel
theorem dX0_test_233 : decode cX0_test 233 = .ok (.iconst 0, 1) := by decide +kernel
theorem dX0_test_234 : decode cX0_test 234 = .ok (.invokestatic 81, 3) := by decide +kernel
theorem dX0_test_237 : decode cX0_test 237 = .ok (.ireturn, 1) := by decide +kernel
theorem dX0_test_238 : decode cX0_test 238 = .ok (.aload_n 0, 1) := by decide +kernel
theorem dX0_test_239 : decode cX0_test 239 = .ok (.getfield 45, 3) := by decide +kernel
theorem dX0_test_242 : decode cX0_test 242 = .ok (.getfield 93, 3) := by decide +kernel
theorem dX0_test_245 : decode cX0_test 245 = .ok (.iload_n 2, 1) := by decide +kernel
theorem dX0_test_246 : decode cX0_test 246 = .ok (.iaload, 1) := by decide +kernel
theorem dX0_test_247 : decode cX0_test 247 = .ok (.ifCond .le 7, 3) := by decide +kernel
theorem dX0_test_250 : decode cX0_test 250 = .ok (.iconst 1, 1) := by decide +kernel
theorem dX0_test_251 : decode cX0_test 251 = .ok (.goto 4, 3) := by decide +kernel
theorem dX0_test_254 : decode cX0_test 254 = .ok (.iconst 0, 1) := by decide +kernel
theorem dX0_test_255 : decode cX0_test 255 = .ok (.iconst 0, 1) := by decide +kernel
theorem dX0_test_256 : decode cX0_test 256 = .ok (.invokestatic 81, 3) := by decide +kernel
theorem dX0_test_259 : decode cX0_test 259 = .ok (.ireturn, 1) := by decide +kernel
theorem dX0_value_0 : decode cX0_value 0 = .ok (.iload_n 0, 1) := by decide +kernel
theorem dX0_value_1 : decode cX0_value 1 = .ok (.ifCond .eq 7, 3) := by decide +kernel
theorem dX0_value_4 : decode cX0_value 4 = .ok (.iconst 2, 1) := by decide +kernel
theorem dX0_value_5 : decode cX0_value 5 = .ok (.goto 12, 3) := by decide +kernel
theorem dX0_value_8 : decode cX0_value 8 = .ok (.iload_n 1, 1) := by decide +kernel
theorem dX0_value_9 : decode cX0_value 9 = .ok (.ifCond .eq 7, 3) := by decide +kernel
theorem dX0_value_12 : decode cX0_value 12 = .ok (.iconst 1, 1) := by decide +kernel
theorem dX0_value_13 : decode cX0_value 13 = .ok (.goto 4, 3) := by decide +kernel
theorem dX0_value_16 : decode cX0_value 16 = .ok (.iconst 0, 1) := by decide +kernel
theorem dX0_value_17 : decode cX0_value 17 = .ok (.ireturn, 1) := by decide +kernel
theorem dX0_ask_0 : decode cX0_ask 0 = .ok (.aload_n 0, 1) := by decide +kernel
theorem dX0_ask_1 : decode cX0_ask 1 = .ok (.aload_n 0, 1) := by decide +kernel
theorem dX0_ask_2 : decode cX0_ask 2 = .ok (.getfield 45, 3) := by decide +kernel
theorem dX0_ask_5 : decode cX0_ask 5 = .ok (.aload_n 0, 1) := by decide +kernel
theorem dX0_ask_6 : decode cX0_ask 6 = .ok (.getfield 45, 3) := by decide +kernel
theorem dX0_ask_9 : decode cX0_ask 9 = .ok (.getfield 85, 3) := by decide +kernel
theorem dX0_ask_12 : decode cX0_ask 12 = .ok (.iload_n 1, 1) := by decide +kernel
theorem dX0_ask_13 : decode cX0_ask 13 = .ok (.iaload, 1) := by decide +kernel
theorem dX0_ask_14 : decode cX0_ask 14 = .ok (.iload_n 1, 1) := by decide +kernel
theorem dX0_ask_15 : decode cX0_ask 15 = .ok (.invokevirtual 96, 3) := by decide +kernel
theorem dX0_ask_18 : decode cX0_ask 18 = .ok (.putfield 99, 3) := by decide +kernel
theorem dX0_ask_21 : decode cX0_ask 21 = .ok (.iconst 0, 1) := by decide +kernel
theorem dX0_ask_22 : decode cX0_ask 22 = .ok (.istore 4, 2) := by decide +kernel
theorem dX0_ask_24 : decode cX0_ask 24 = .ok (.iload 4, 2) := by decide +kernel
theorem dX0_ask_26 : decode cX0_ask 26 = .ok (.aload_n 0, 1) := by decide +kernel
theorem dX0_ask_27 : decode cX0_ask 27 = .ok (.getfield 53, 3) := by decide +kernel
theorem dX0_ask_30 : decode cX0_ask 30 = .ok (.if_icmp .ge 25, 3) := by decide +kernel
theorem dX0_ask_33 : decode cX0_ask 33 = .ok (.aload_n 0, 1) := by decide +kernel
theorem dX0_ask_34 : decode cX0_ask 34 = .ok (.getfield 42, 3) := by decide +kernel
theorem dX0_ask_37 : decode cX0_ask 37 = .ok (.iload 4, 2) := by decide +kernel
theorem dX0_ask_39 : decode cX0_ask 39 = .ok (.aload_n 0, 1) := by decide +kernel
theorem dX0_ask_40 : decode cX0_ask 40 = .ok (.iload 4, 2) := by decide +kernel
theorem dX0_ask_42 : decode cX0_ask 42 = .ok (.iload_n 1, 1) := by decide +kernel
theorem dX0_ask_43 : decode cX0_ask 43 = .ok (.iload_n 2, 1) := by decide +kernel
theorem dX0_ask_44 : decode cX0_ask 44 = .ok (.iload_n 3, 1) := by decide +kernel
theorem dX0_ask_45 : decode cX0_ask 45 = .ok (.invokevirtual 102, 3) := by decide +kernel
theorem dX0_ask_48 : decode cX0_ask 48 = .ok (.iastore, 1) := by decide +kernel
theorem dX0_ask_49 : decode cX0_ask 49 = .ok (.iinc 4 1, 3) := by decide +kernel
theorem dX0_ask_52 : decode cX0_ask 52 = .ok (.goto (-28), 3) := by decide +kernel
theorem dX0_ask_55 : decode cX0_ask 55 = .ok (.return_, 1) := by decide +kernel
theorem dX0_speaks_0 : decode cX0_speaks 0 = .ok (.aload_n 0, 1) := by decide +kernel
theorem dX0_speaks_1 : decode cX0_speaks 1 = .ok (.getfield 42, 3) := by decide +kernel
theorem dX0_speaks_4 : decode cX0_speaks 4 = .ok (.iload_n 1, 1) := by decide +kernel
theorem dX0_speaks_5 : decode cX0_speaks 5 = .ok (.iaload, 1) := by decide +kernel
theorem dX0_speaks_6 : decode cX0_speaks 6 = .ok (.iload_n 3, 1) := by decide +kernel
theorem dX0_speaks_7 : decode cX0_speaks 7 = .ok (.if_icmp .lt 22, 3) := by decide +kernel
theorem dX0_speaks_10 : decode cX0_speaks 10 = .ok (.aload_n 0, 1) := by decide +kernel
theorem dX0_speaks_11 : decode cX0_speaks 11 = .ok (.getfield 27, 3) := by decide +kernel
theorem dX0_speaks_14 : decode cX0_speaks 14 = .ok (.iload_n 1, 1) := by decide +kernel
theorem dX0_speaks_15 : decode cX0_speaks 15 = .ok (.bipush 7, 2) := by decide +kernel
theorem dX0_speaks_17 : decode cX0_speaks 17 = .ok (.imul, 1) := by decide +kernel
theorem dX0_speaks_18 : decode cX0_speaks 18 = .ok (.iload_n 2, 1) := by decide +kernel
theorem dX0_speaks_19 : decode cX0_speaks 19 = .ok (.iadd, 1) := by decide +kernel
theorem dX0_speaks_20 : decode cX0_speaks 20 = .ok (.iaload, 1) := by decide +kernel
theorem dX0_speaks_21 : decode cX0_speaks 21 = .ok (.iconst (-1), 1) := by decide +kernel
theorem dX0_speaks_22 : decode cX0_speaks 22 = .ok (.if_icmp .eq 7, 3) := by decide +kernel
theorem dX0_speaks_25 : decode cX0_speaks 25 = .ok (.iconst 1, 1) := by decide +kernel
theorem dX0_speaks_26 : decode cX0_speaks 26 = .ok (.goto 4, 3) := by decide +kernel
theorem dX0_speaks_29 : decode cX0_speaks 29 = .ok (.iconst 0, 1) := by decide +kernel
theorem dX0_speaks_30 : decode cX0_speaks 30 = .ok (.ireturn, 1) := by decide +kernel
theorem dX0_asked_0 : decode cX0_asked 0 = .ok (.iload_n 1, 1) := by decide +kernel
theorem dX0_asked_1 : decode cX0_asked 1 = .ok (.ifCond .eq 13, 3) := by decide +kernel
theorem dX0_asked_4 : decode cX0_asked 4 = .ok (.iload_n 1, 1) := by decide +kernel
theorem dX0_asked_5 : decode cX0_asked 5 = .ok (.iconst 2, 1) := by decide +kernel
theorem dX0_asked_6 : decode cX0_asked 6 = .ok (.if_icmp .eq 8, 3) := by decide +kernel
theorem dX0_asked_9 : decode cX0_asked 9 = .ok (.iload_n 1, 1) := by decide +kernel
theorem dX0_asked_10 : decode cX0_asked 10 = .ok (.iconst 4, 1) := by decide +kernel
theorem dX0_asked_11 : decode cX0_asked 11 = .ok (.if_icmp .ne 7, 3) := by decide +kernel
theorem dX0_asked_14 : decode cX0_asked 14 = .ok (.iconst 1, 1) := by decide +kernel
theorem dX0_asked_15 : decode cX0_asked 15 = .ok (.goto 4, 3) := by decide +kernel
theorem dX0_asked_18 : decode cX0_asked 18 = .ok (.iconst 0, 1) := by decide +kernel
theorem dX0_asked_19 : decode cX0_asked 19 = .ok (.istore_n 3, 1) := by decide +kernel
theorem dX0_asked_20 : decode cX0_asked 20 = .ok (.iload_n 1, 1) := by decide +kernel
theorem dX0_asked_21 : decode cX0_asked 21 = .ok (.ifCond .ne 10, 3) := by decide +kernel
theorem dX0_asked_24 : decode cX0_asked 24 = .ok (.aload_n 0, 1) := by decide +kernel
theorem dX0_asked_25 : decode cX0_asked 25 = .ok (.getfield 99, 3) := by decide +kernel
theorem dX0_asked_28 : decode cX0_asked 28 = .ok (.goto 14, 3) := by decide +kernel
theorem dX0_asked_31 : decode cX0_asked 31 = .ok (.iload_n 3, 1) := by decide +kernel
theorem dX0_asked_32 : decode cX0_asked 32 = .ok (.ifCond .eq 9, 3) := by decide +kernel
theorem dX0_asked_35 : decode cX0_asked 35 = .ok (.sipush 1440, 3) := by decide +kernel
theorem dX0_asked_38 : decode cX0_asked 38 = .ok (.goto 4, 3) := by decide +kernel
theorem dX0_asked_41 : decode cX0_asked 41 = .ok (.iconst 0, 1) := by decide +kernel
theorem dX0_asked_42 : decode cX0_asked 42 = .ok (.istore 4, 2) := by decide +kernel
theorem dX0_asked_44 : decode cX0_asked 44 = .ok (.iconst 0, 1) := by decide +kernel
theorem dX0_asked_45 : decode cX0_asked 45 = .ok (.istore 5, 2) := by decide +kernel
theorem dX0_asked_47 : decode cX0_asked 47 = .ok (.iload 5, 2) := by decide +kernel
theorem dX0_asked_49 : decode cX0_asked 49 = .ok (.aload_n 0, 1) := by decide +kernel
theorem dX0_asked_50 : decode cX0_asked 50 = .ok (.getfield 53, 3) := by decide +kernel
theorem dX0_asked_53 : decode cX0_asked 53 = .ok (.if_icmp .ge 57, 3) := by decide +kernel
theorem dX0_asked_56 : decode cX0_asked 56 = .ok (.aload_n 0, 1) := by decide +kernel
theorem dX0_asked_57 : decode cX0_asked 57 = .ok (.iload 5, 2) := by decide +kernel
theorem dX0_asked_59 : decode cX0_asked 59 = .ok (.iload_n 1, 1) := by decide +kernel
theorem dX0_asked_60 : decode cX0_asked 60 = .ok (.iload_n 2, 1) := by decide +kernel
theorem dX0_asked_61 : decode cX0_asked 61 = .ok (.invokevirtual 105, 3) := by decide +kernel
theorem dX0_asked_64 : decode cX0_asked 64 = .ok (.ifCond .eq 40, 3) := by decide +kernel
theorem dX0_asked_67 : decode cX0_asked 67 = .ok (.aload_n 0, 1) := by decide +kernel
theorem dX0_asked_68 : decode cX0_asked 68 = .ok (.getfield 27, 3) := by decide +kernel
theorem dX0_asked_71 : decode cX0_asked 71 = .ok (.iload 5, 2) := by decide +kernel
theorem dX0_asked_73 : decode cX0_asked 73 = .ok (.bipush 7, 2) := by decide +kernel
theorem dX0_asked_75 : decode cX0_asked 75 = .ok (.imul, 1) := by decide +kernel
theorem dX0_asked_76 : decode cX0_asked 76 = .ok (.iload_n 1, 1) := by decide +kernel
theorem dX0_asked_77 : decode cX0_asked 77 = .ok (.iadd, 1) := by decide +kernel
theorem dX0_asked_78 : decode cX0_asked 78 = .ok (.iaload, 1) := by decide +kernel
theorem dX0_asked_79 : decode cX0_asked 79 = .ok (.istore 6, 2) := by decide +kernel
theorem dX0_asked_81 : decode cX0_asked 81 = .ok (.iload_n 3, 1) := by decide +kernel
theorem dX0_asked_82 : decode cX0_asked 82 = .ok (.ifCond .eq 13, 3) := by decide +kernel
theorem dX0_asked_85 : decode cX0_asked 85 = .ok (.iload 4, 2) := by decide +kernel
theorem dX0_asked_87 : decode cX0_asked 87 = .ok (.iload 6, 2) := by decide +kernel
theorem dX0_asked_89 : decode cX0_asked 89 = .ok (.invokestatic 60, 3) := by decide +kernel
theorem dX0_asked_92 : decode cX0_asked 92 = .ok (.goto 10, 3) := by decide +kernel
theorem dX0_asked_95 : decode cX0_asked 95 = .ok (.iload 4, 2) := by decide +kernel
theorem dX0_asked_97 : decode cX0_asked 97 = .ok (.iload 6, 2) := by decide +kernel
theorem dX0_asked_99 : decode cX0_asked 99 = .ok (.invokestatic 66, 3) := by decide +kernel
theorem dX0_asked_102 : decode cX0_asked 102 = .ok (.istore 4, 2) := by decide +kernel
theorem dX0_asked_104 : decode cX0_asked 104 = .ok (.iinc 5 1, 3) := by decide +kernel
theorem dX0_asked_107 : decode cX0_asked 107 = .ok (.goto (-60), 3) := by decide +kernel
theorem dX0_asked_110 : decode cX0_asked 110 = .ok (.iload 4, 2) := by decide +kernel
theorem dX0_asked_112 : decode cX0_asked 112 = .ok (.ireturn, 1) := by decide +kernel
theorem dX0_reason_0 : decode cX0_reason 0 = .ok (.aload_n 0, 1) := by decide +kernel
theorem dX0_reason_1 : decode cX0_reason 1 = .ok (.iload_n 1, 1) := by decide +kernel
theorem dX0_reason_2 : decode cX0_reason 2 = .ok (.iload_n 2, 1) := by decide +kernel
theorem dX0_reason_3 : decode cX0_reason 3 = .ok (.invokevirtual 109, 3) := by decide +kernel
theorem dX0_reason_6 : decode cX0_reason 6 = .ok (.istore_n 3, 1) := by decide +kernel
theorem dX0_reason_7 : decode cX0_reason 7 = .ok (.bipush (-9), 2) := by decide +kernel
theorem dX0_reason_9 : decode cX0_reason 9 = .ok (.istore 4, 2) := by decide +kernel
theorem dX0_reason_11 : decode cX0_reason 11 = .ok (.iconst 0, 1) := by decide +kernel
theorem dX0_reason_12 : decode cX0_reason 12 = .ok (.istore 5, 2) := by decide +kernel
theorem dX0_reason_14 : decode cX0_reason 14 = .ok (.iload 5, 2) := by decide +kernel
theorem dX0_reason_16 : decode cX0_reason 16 = .ok (.aload_n 0, 1) := by decide +kernel
theorem dX0_reason_17 : decode cX0_reason 17 = .ok (.getfield 53, 3) := by decide +kernel
theorem dX0_reason_20 : decode cX0_reason 20 = .ok (.if_icmp .ge 76, 3) := by decide +kernel
theorem dX0_reason_23 : decode cX0_reason 23 = .ok (.aload_n 0, 1) := by decide +kernel
theorem dX0_reason_24 : decode cX0_reason 24 = .ok (.iload 5, 2) := by decide +kernel
theorem dX0_reason_26 : decode cX0_reason 26 = .ok (.iload_n 1, 1) := by decide +kernel
theorem dX0_reason_27 : decode cX0_reason 27 = .ok (.iload_n 2, 1) := by decide +kernel
theorem dX0_reason_28 : decode cX0_reason 28 = .ok (.invokevirtual 105, 3) := by decide +kernel
theorem dX0_reason_31 : decode cX0_reason 31 = .ok (.ifCond .eq 23, 3) := by decide +kernel
theorem dX0_reason_34 : decode cX0_reason 34 = .ok (.aload_n 0, 1) := by decide +kernel
theorem dX0_reason_35 : decode cX0_reason 35 = .ok (.getfield 27, 3) := by decide +kernel
theorem dX0_reason_38 : decode cX0_reason 38 = .ok (.iload 5, 2) := by decide +kernel
theorem dX0_reason_40 : decode cX0_reason 40 = .ok (.bipush 7, 2) := by decide +kernel
theorem dX0_reason_42 : decode cX0_reason 42 = .ok (.imul, 1) := by decide +kernel
theorem dX0_reason_43 : decode cX0_reason 43 = .ok (.iload_n 1, 1) := by decide +kernel
theorem dX0_reason_44 : decode cX0_reason 44 = .ok (.iadd, 1) := by decide +kernel
theorem dX0_reason_45 : decode cX0_reason 45 = .ok (.iaload, 1) := by decide +kernel
theorem dX0_reason_46 : decode cX0_reason 46 = .ok (.iload_n 3, 1) := by decide +kernel
theorem dX0_reason_47 : decode cX0_reason 47 = .ok (.if_icmp .ne 7, 3) := by decide +kernel
theorem dX0_reason_50 : decode cX0_reason 50 = .ok (.iconst 1, 1) := by decide +kernel
theorem dX0_reason_51 : decode cX0_reason 51 = .ok (.goto 4, 3) := by decide +kernel
theorem dX0_reason_54 : decode cX0_reason 54 = .ok (.iconst 0, 1) := by decide +kernel
theorem dX0_reason_55 : decode cX0_reason 55 = .ok (.istore 6, 2) := by decide +kernel
theorem dX0_reason_57 : decode cX0_reason 57 = .ok (.iload 6, 2) := by decide +kernel
theorem dX0_reason_59 : decode cX0_reason 59 = .ok (.ifCond .eq 31, 3) := by decide +kernel
theorem dX0_reason_62 : decode cX0_reason 62 = .ok (.iload 4, 2) := by decide +kernel
theorem dX0_reason_64 : decode cX0_reason 64 = .ok (.bipush (-9), 2) := by decide +kernel
theorem dX0_reason_66 : decode cX0_reason 66 = .ok (.if_icmp .eq 15, 3) := by decide +kernel
theorem dX0_reason_69 : decode cX0_reason 69 = .ok (.aload_n 0, 1) := by decide +kernel
theorem dX0_reason_70 : decode cX0_reason 70 = .ok (.getfield 11, 3) := by decide +kernel
theorem dX0_reason_73 : decode cX0_reason 73 = .ok (.iload 5, 2) := by decide +kernel
theorem dX0_reason_75 : decode cX0_reason 75 = .ok (.iaload, 1) := by decide +kernel
theorem dX0_reason_76 : decode cX0_reason 76 = .ok (.iload 4, 2) := by decide +kernel
theorem dX0_reason_78 : decode cX0_reason 78 = .ok (.if_icmp .ge 12, 3) := by decide +kernel
theorem dX0_reason_81 : decode cX0_reason 81 = .ok (.aload_n 0, 1) := by decide +kernel
theorem dX0_reason_82 : decode cX0_reason 82 = .ok (.getfield 11, 3) := by decide +kernel
theorem dX0_reason_85 : decode cX0_reason 85 = .ok (.iload 5, 2) := by decide +kernel
theorem dX0_reason_87 : decode cX0_reason 87 = .ok (.iaload, 1) := by decide +kernel
theorem dX0_reason_88 : decode cX0_reason 88 = .ok (.istore 4, 2) := by decide +kernel
theorem dX0_reason_90 : decode cX0_reason 90 = .ok (.iinc 5 1, 3) := by decide +kernel
theorem dX0_reason_93 : decode cX0_reason 93 = .ok (.goto (-79), 3) := by decide +kernel
theorem dX0_reason_96 : decode cX0_reason 96 = .ok (.iload 4, 2) := by decide +kernel
theorem dX0_reason_98 : decode cX0_reason 98 = .ok (.ireturn, 1) := by decide +kernel
theorem dX0_firstQuarrel_0 : decode cX0_firstQuarrel 0 = .ok (.iconst 0, 1) := by decide +kernel
theorem dX0_firstQuarrel_1 : decode cX0_firstQuarrel 1 = .ok (.istore_n 1, 1) := by decide +kernel
theorem dX0_firstQuarrel_2 : decode cX0_firstQuarrel 2 = .ok (.iload_n 1, 1) := by decide +kernel
theorem dX0_firstQuarrel_3 : decode cX0_firstQuarrel 3 = .ok (.aload_n 0, 1) := by decide +kernel
theorem dX0_firstQuarrel_4 : decode cX0_firstQuarrel 4 = .ok (.getfield 53, 3) := by decide +kernel
theorem dX0_firstQuarrel_7 : decode cX0_firstQuarrel 7 = .ok (.if_icmp .ge 62, 3) := by decide +kernel
theorem dX0_firstQuarrel_10 : decode cX0_firstQuarrel 10 = .ok (.iload_n 1, 1) := by decide +kernel
theorem dX0_firstQuarrel_11 : decode cX0_firstQuarrel 11 = .ok (.iconst 1, 1) := by decide +kernel
theorem dX0_firstQuarrel_12 : decode cX0_firstQuarrel 12 = .ok (.iadd, 1) := by decide +kernel
theorem dX0_firstQuarrel_13 : decode cX0_firstQuarrel 13 = .ok (.istore_n 2, 1) := by decide +kernel
theorem dX0_firstQuarrel_14 : decode cX0_firstQuarrel 14 = .ok (.iload_n 2, 1) := by decide +kernel
theorem dX0_firstQuarrel_15 : decode cX0_firstQuarrel 15 = .ok (.aload_n 0, 1) := by decide +kernel
theorem dX0_firstQuarrel_16 : decode cX0_firstQuarrel 16 = .ok (.getfield 53, 3) := by decide +kernel
theorem dX0_firstQuarrel_19 : decode cX0_firstQuarrel 19 = .ok (.if_icmp .ge 44, 3) := by decide +kernel
theorem dX0_firstQuarrel_22 : decode cX0_firstQuarrel 22 = .ok (.aload_n 0, 1) := by decide +kernel
theorem dX0_firstQuarrel_23 : decode cX0_firstQuarrel 23 = .ok (.iload_n 1, 1) := by decide +kernel
theorem dX0_firstQuarrel_24 : decode cX0_firstQuarrel 24 = .ok (.iload_n 2, 1) := by decide +kernel
theorem dX0_firstQuarrel_25 : decode cX0_firstQuarrel 25 = .ok (.invokevirtual 112, 3) := by decide +kernel
theorem dX0_firstQuarrel_28 : decode cX0_firstQuarrel 28 = .ok (.ifCond .ne 12, 3) := by decide +kernel
theorem dX0_firstQuarrel_31 : decode cX0_firstQuarrel 31 = .ok (.aload_n 0, 1) := by decide +kernel
theorem dX0_firstQuarrel_32 : decode cX0_firstQuarrel 32 = .ok (.iload_n 2, 1) := by decide +kernel
theorem dX0_firstQuarrel_33 : decode cX0_firstQuarrel 33 = .ok (.iload_n 1, 1) := by decide +kernel
theorem dX0_firstQuarrel_34 : decode cX0_firstQuarrel 34 = .ok (.invokevirtual 112, 3) := by decide +kernel
theorem dX0_firstQuarrel_37 : decode cX0_firstQuarrel 37 = .ok (.ifCond .eq 20, 3) := by decide +kernel
theorem dX0_firstQuarrel_40 : decode cX0_firstQuarrel 40 = .ok (.bipush 100, 2) := by decide +kernel
theorem dX0_firstQuarrel_42 : decode cX0_firstQuarrel 42 = .ok (.aload_n 0, 1) := by decide +kernel
theorem dX0_firstQuarrel_43 : decode cX0_firstQuarrel 43 = .ok (.getfield 11, 3) := by decide +kernel
theorem dX0_firstQuarrel_46 : decode cX0_firstQuarrel 46 = .ok (.iload_n 1, 1) := by decide +kernel
theorem dX0_firstQuarrel_47 : decode cX0_firstQuarrel 47 = .ok (.iaload, 1) := by decide +kernel
theorem dX0_firstQuarrel_48 : decode cX0_firstQuarrel 48 = .ok (.imul, 1) := by decide +kernel
theorem dX0_firstQuarrel_49 : decode cX0_firstQuarrel 49 = .ok (.aload_n 0, 1) := by decide +kernel
theorem dX0_firstQuarrel_50 : decode cX0_firstQuarrel 50 = .ok (.getfield 11, 3) := by decide +kernel
theorem dX0_firstQuarrel_53 : decode cX0_firstQuarrel 53 = .ok (.iload_n 2, 1) := by decide +kernel
theorem dX0_firstQuarrel_54 : decode cX0_firstQuarrel 54 = .ok (.iaload, 1) := by decide +kernel
theorem dX0_firstQuarrel_55 : decode cX0_firstQuarrel 55 = .ok (.iadd, 1) := by decide +kernel
theorem dX0_firstQuarrel_56 : decode cX0_firstQuarrel 56 = .ok (.ireturn, 1) := by decide +kernel
theorem dX0_firstQuarrel_57 : decode cX0_firstQuarrel 57 = .ok (.iinc 2 1, 3) := by decide +kernel
theorem dX0_firstQuarrel_60 : decode cX0_firstQuarrel 60 = .ok (.goto (-46), 3) := by decide +kernel
theorem dX0_firstQuarrel_63 : decode cX0_firstQuarrel 63 = .ok (.iinc 1 1, 3) := by decide +kernel
theorem dX0_firstQuarrel_66 : decode cX0_firstQuarrel 66 = .ok (.goto (-64), 3) := by decide +kernel
theorem dX0_firstQuarrel_69 : decode cX0_firstQuarrel 69 = .ok (.bipush (-9), 2) := by decide +kernel
theorem dX0_firstQuarrel_71 : decode cX0_firstQuarrel 71 = .ok (.ireturn, 1) := by decide +kernel
theorem dX0_startsTooLate_0 : decode cX0_startsTooLate 0 = .ok (.aload_n 0, 1) := by decide +kernel
theorem dX0_startsTooLate_1 : decode cX0_startsTooLate 1 = .ok (.iload_n 1, 1) := by decide +kernel
theorem dX0_startsTooLate_2 : decode cX0_startsTooLate 2 = .ok (.iconst 1, 1) := by decide +kernel
theorem dX0_startsTooLate_3 : decode cX0_startsTooLate 3 = .ok (.iconst 2, 1) := by decide +kernel
theorem dX0_startsTooLate_4 : decode cX0_startsTooLate 4 = .ok (.invokevirtual 105, 3) := by decide +kernel
theorem dX0_startsTooLate_7 : decode cX0_startsTooLate 7 = .ok (.ifCond .eq 42, 3) := by decide +kernel
theorem dX0_startsTooLate_10 : decode cX0_startsTooLate 10 = .ok (.aload_n 0, 1) := by decide +kernel
theorem dX0_startsTooLate_11 : decode cX0_startsTooLate 11 = .ok (.iload_n 2, 1) := by decide +kernel
theorem dX0_startsTooLate_12 : decode cX0_startsTooLate 12 = .ok (.iconst 2, 1) := by decide +kernel
theorem dX0_startsTooLate_13 : decode cX0_startsTooLate 13 = .ok (.iconst 2, 1) := by decide +kernel
theorem dX0_startsTooLate_14 : decode cX0_startsTooLate 14 = .ok (.invokevirtual 105, 3) := by decide +kernel
theorem dX0_startsTooLate_17 : decode cX0_startsTooLate 17 = .ok (.ifCond .eq 32, 3) := by decide +kernel
theorem dX0_startsTooLate_20 : decode cX0_startsTooLate 20 = .ok (.aload_n 0, 1) := by decide +kernel
theorem dX0_startsTooLate_21 : decode cX0_startsTooLate 21 = .ok (.getfield 27, 3) := by decide +kernel
theorem dX0_startsTooLate_24 : decode cX0_startsTooLate 24 = .ok (.iload_n 1, 1) := by decide +kernel
theorem dX0_startsTooLate_25 : decode cX0_startsTooLate 25 = .ok (.bipush 7, 2) := by decide +kernel
theorem dX0_startsTooLate_27 : decode cX0_startsTooLate 27 = .ok (.imul, 1) := by decide +kernel
theorem dX0_startsTooLate_28 : decode cX0_startsTooLate 28 = .ok (.iconst 1, 1) := by decide +kernel
theorem dX0_startsTooLate_29 : decode cX0_startsTooLate 29 = .ok (.iadd, 1) := by decide +kernel
theorem dX0_startsTooLate_30 : decode cX0_startsTooLate 30 = .ok (.iaload, 1) := by decide +kernel
theorem dX0_startsTooLate_31 : decode cX0_startsTooLate 31 = .ok (.aload_n 0, 1) := by decide +kernel
theorem dX0_startsTooLate_32 : decode cX0_startsTooLate 32 = .ok (.getfield 27, 3) := by decide +kernel
theorem dX0_startsTooLate_35 : decode cX0_startsTooLate 35 = .ok (.iload_n 2, 1) := by decide +kernel
theorem dX0_startsTooLate_36 : decode cX0_startsTooLate 36 = .ok (.bipush 7, 2) := by decide +kernel
theorem dX0_startsTooLate_38 : decode cX0_startsTooLate 38 = .ok (.imul, 1) := by decide +kernel
theorem dX0_startsTooLate_39 : decode cX0_startsTooLate 39 = .ok (.iconst 2, 1) := by decide +kernel
theorem dX0_startsTooLate_40 : decode cX0_startsTooLate 40 = .ok (.iadd, 1) := by decide +kernel
theorem dX0_startsTooLate_41 : decode cX0_startsTooLate 41 = .ok (.iaload, 1) := by decide +kernel
theorem dX0_startsTooLate_42 : decode cX0_startsTooLate 42 = .ok (.if_icmp .lt 7, 3) := by decide +kernel
theorem dX0_startsTooLate_45 : decode cX0_startsTooLate 45 = .ok (.iconst 1, 1) := by decide +kernel
theorem dX0_startsTooLate_46 : decode cX0_startsTooLate 46 = .ok (.goto 4, 3) := by decide +kernel
theorem dX0_startsTooLate_49 : decode cX0_startsTooLate 49 = .ok (.iconst 0, 1) := by decide +kernel
theorem dX0_startsTooLate_50 : decode cX0_startsTooLate 50 = .ok (.ireturn, 1) := by decide +kernel
theorem dX1_init_0 : decode cX1_init 0 = .ok (.aload_n 0, 1) := by decide +kernel
theorem dX1_init_1 : decode cX1_init 1 = .ok (.invokespecial 3, 3) := by decide +kernel
theorem dX1_init_4 : decode cX1_init 4 = .ok (.aload_n 0, 1) := by decide +kernel
theorem dX1_init_5 : decode cX1_init 5 = .ok (.bipush 60, 2) := by decide +kernel
theorem dX1_init_7 : decode cX1_init 7 = .ok (.newarray .int, 2) := by decide +kernel
theorem dX1_init_9 : decode cX1_init 9 = .ok (.putfield 11, 3) := by decide +kernel
theorem dX1_init_12 : decode cX1_init 12 = .ok (.aload_n 0, 1) := by decide +kernel
theorem dX1_init_13 : decode cX1_init 13 = .ok (.bipush 60, 2) := by decide +kernel
theorem dX1_init_15 : decode cX1_init 15 = .ok (.newarray .int, 2) := by decide +kernel
theorem dX1_init_17 : decode cX1_init 17 = .ok (.putfield 15, 3) := by decide +kernel
theorem dX1_init_20 : decode cX1_init 20 = .ok (.aload_n 0, 1) := by decide +kernel
theorem dX1_init_21 : decode cX1_init 21 = .ok (.bipush 60, 2) := by decide +kernel
theorem dX1_init_23 : decode cX1_init 23 = .ok (.newarray .int, 2) := by decide +kernel
theorem dX1_init_25 : decode cX1_init 25 = .ok (.putfield 18, 3) := by decide +kernel
theorem dX1_init_28 : decode cX1_init 28 = .ok (.aload_n 0, 1) := by decide +kernel
theorem dX1_init_29 : decode cX1_init 29 = .ok (.bipush 60, 2) := by decide +kernel
theorem dX1_init_31 : decode cX1_init 31 = .ok (.newarray .int, 2) := by decide +kernel
theorem dX1_init_33 : decode cX1_init 33 = .ok (.putfield 21, 3) := by decide +kernel
theorem dX1_init_36 : decode cX1_init 36 = .ok (.aload_n 0, 1) := by decide +kernel
theorem dX1_init_37 : decode cX1_init 37 = .ok (.bipush 60, 2) := by decide +kernel
theorem dX1_init_39 : decode cX1_init 39 = .ok (.newarray .int, 2) := by decide +kernel
theorem dX1_init_41 : decode cX1_init 41 = .ok (.putfield 24, 3) := by decide +kernel
theorem dX1_init_44 : decode cX1_init 44 = .ok (.aload_n 0, 1) := by decide +kernel
theorem dX1_init_45 : decode cX1_init 45 = .ok (.bipush 60, 2) := by decide +kernel
theorem dX1_init_47 : decode cX1_init 47 = .ok (.newarray .int, 2) := by decide +kernel
theorem dX1_init_49 : decode cX1_init 49 = .ok (.putfield 27, 3) := by decide +kernel
theorem dX1_init_52 : decode cX1_init 52 = .ok (.aload_n 0, 1) := by decide +kernel
theorem dX1_init_53 : decode cX1_init 53 = .ok (.bipush 60, 2) := by decide +kernel
theorem dX1_init_55 : decode cX1_init 55 = .ok (.newarray .int, 2) := by decide +kernel
theorem dX1_init_57 : decode cX1_init 57 = .ok (.putfield 30, 3) := by decide +kernel
theorem dX1_init_60 : decode cX1_init 60 = .ok (.aload_n 0, 1) := by decide +kernel
theorem dX1_init_61 : decode cX1_init 61 = .ok (.bipush 60, 2) := by decide +kernel
theorem dX1_init_63 : decode cX1_init 63 = .ok (.newarray .int, 2) := by decide +kernel
theorem dX1_init_65 : decode cX1_init 65 = .ok (.putfield 33, 3) := by decide +kernel
theorem dX1_init_68 : decode cX1_init 68 = .ok (.aload_n 0, 1) := by decide +kernel
theorem dX1_init_69 : decode cX1_init 69 = .ok (.bipush 60, 2) := by decide +kernel
theorem dX1_init_71 : decode cX1_init 71 = .ok (.newarray .int, 2) := by decide +kernel
theorem dX1_init_73 : decode cX1_init 73 = .ok (.putfield 36, 3) := by decide +kernel
theorem dX1_init_76 : decode cX1_init 76 = .ok (.aload_n 0, 1) := by decide +kernel
theorem dX1_init_77 : decode cX1_init 77 = .ok (.bipush 60, 2) := by decide +kernel
theorem dX1_init_79 : decode cX1_init 79 = .ok (.newarray .int, 2) := by decide +kernel
theorem dX1_init_81 : decode cX1_init 81 = .ok (.putfield 39, 3) := by decide +kernel
theorem dX1_init_84 : decode cX1_init 84 = .ok (.aload_n 0, 1) := by decide +kernel
theorem dX1_init_85 : decode cX1_init 85 = .ok (.bipush 12, 2) := by decide +kernel
theorem dX1_init_87 : decode cX1_init 87 = .ok (.newarray .int, 2) := by decide +kernel
theorem dX1_init_89 : decode cX1_init 89 = .ok (.putfield 42, 3) := by decide +kernel
theorem dX1_init_92 : decode cX1_init 92 = .ok (.aload_n 0, 1) := by decide +kernel
theorem dX1_init_93 : decode cX1_init 93 = .ok (.aload_n 1, 1) := by decide +kernel
theorem dX1_init_94 : decode cX1_init 94 = .ok (.putfield 45, 3) := by decide +kernel
theorem dX1_init_97 : decode cX1_init 97 = .ok (.return_, 1) := by decide +kernel
theorem dX1_add_0 : decode cX1_add 0 = .ok (.aload_n 0, 1) := by decide +kernel
theorem dX1_add_1 : decode cX1_add 1 = .ok (.getfield 49, 3) := by decide +kernel
theorem dX1_add_4 : decode cX1_add 4 = .ok (.bipush 60, 2) := by decide +kernel
theorem dX1_add_6 : decode cX1_add 6 = .ok (.if_icmp .ne 6, 3) := by decide +kernel
theorem dX1_add_9 : decode cX1_add 9 = .ok (.bipush (-3), 2) := by decide +kernel
theorem dX1_add_11 : decode cX1_add 11 = .ok (.ireturn, 1) := by decide +kernel
theorem dX1_add_12 : decode cX1_add 12 = .ok (.aload_n 0, 1) := by decide +kernel
theorem dX1_add_13 : decode cX1_add 13 = .ok (.getfield 11, 3) := by decide +kernel
theorem dX1_add_16 : decode cX1_add 16 = .ok (.aload_n 0, 1) := by decide +kernel
theorem dX1_add_17 : decode cX1_add 17 = .ok (.getfield 49, 3) := by decide +kernel
theorem dX1_add_20 : decode cX1_add 20 = .ok (.iload_n 1, 1) := by decide +kernel
theorem dX1_add_21 : decode cX1_add 21 = .ok (.iastore, 1) := by decide +kernel
theorem dX1_add_22 : decode cX1_add 22 = .ok (.aload_n 0, 1) := by decide +kernel
theorem dX1_add_23 : decode cX1_add 23 = .ok (.getfield 15, 3) := by decide +kernel
theorem dX1_add_26 : decode cX1_add 26 = .ok (.aload_n 0, 1) := by decide +kernel
theorem dX1_add_27 : decode cX1_add 27 = .ok (.getfield 49, 3) := by decide +kernel
theorem dX1_add_30 : decode cX1_add 30 = .ok (.iload_n 2, 1) := by decide +kernel
theorem dX1_add_31 : decode cX1_add 31 = .ok (.iastore, 1) := by decide +kernel
theorem dX1_add_32 : decode cX1_add 32 = .ok (.aload_n 0, 1) := by decide +kernel
theorem dX1_add_33 : decode cX1_add 33 = .ok (.getfield 18, 3) := by decide +kernel
theorem dX1_add_36 : decode cX1_add 36 = .ok (.aload_n 0, 1) := by decide +kernel
theorem dX1_add_37 : decode cX1_add 37 = .ok (.getfield 49, 3) := by decide +kernel
theorem dX1_add_40 : decode cX1_add 40 = .ok (.iload_n 3, 1) := by decide +kernel
theorem dX1_add_41 : decode cX1_add 41 = .ok (.iastore, 1) := by decide +kernel
theorem dX1_add_42 : decode cX1_add 42 = .ok (.aload_n 0, 1) := by decide +kernel
theorem dX1_add_43 : decode cX1_add 43 = .ok (.getfield 21, 3) := by decide +kernel
theorem dX1_add_46 : decode cX1_add 46 = .ok (.aload_n 0, 1) := by decide +kernel
theorem dX1_add_47 : decode cX1_add 47 = .ok (.getfield 49, 3) := by decide +kernel
theorem dX1_add_50 : decode cX1_add 50 = .ok (.iload 4, 2) := by decide +kernel
theorem dX1_add_52 : decode cX1_add 52 = .ok (.iastore, 1) := by decide +kernel
theorem dX1_add_53 : decode cX1_add 53 = .ok (.aload_n 0, 1) := by decide +kernel
theorem dX1_add_54 : decode cX1_add 54 = .ok (.getfield 24, 3) := by decide +kernel
theorem dX1_add_57 : decode cX1_add 57 = .ok (.aload_n 0, 1) := by decide +kernel
theorem dX1_add_58 : decode cX1_add 58 = .ok (.getfield 49, 3) := by decide +kernel
theorem dX1_add_61 : decode cX1_add 61 = .ok (.iload 5, 2) := by decide +kernel
theorem dX1_add_63 : decode cX1_add 63 = .ok (.iastore, 1) := by decide +kernel
theorem dX1_add_64 : decode cX1_add 64 = .ok (.aload_n 0, 1) := by decide +kernel
theorem dX1_add_65 : decode cX1_add 65 = .ok (.dup, 1) := by decide +kernel
theorem dX1_add_66 : decode cX1_add 66 = .ok (.getfield 49, 3) := by decide +kernel
theorem dX1_add_69 : decode cX1_add 69 = .ok (.iconst 1, 1) := by decide +kernel
theorem dX1_add_70 : decode cX1_add 70 = .ok (.iadd, 1) := by decide +kernel
theorem dX1_add_71 : decode cX1_add 71 = .ok (.putfield 49, 3) := by decide +kernel
theorem dX1_add_74 : decode cX1_add 74 = .ok (.aload_n 0, 1) := by decide +kernel
theorem dX1_add_75 : decode cX1_add 75 = .ok (.getfield 49, 3) := by decide +kernel
theorem dX1_add_78 : decode cX1_add 78 = .ok (.ireturn, 1) := by decide +kernel
theorem dX1_pick_0 : decode cX1_pick 0 = .ok (.aload_n 0, 1) := by decide +kernel
theorem dX1_pick_1 : decode cX1_pick 1 = .ok (.iconst 0, 1) := by decide +kernel
theorem dX1_pick_2 : decode cX1_pick 2 = .ok (.putfield 53, 3) := by decide +kernel
theorem dX1_pick_5 : decode cX1_pick 5 = .ok (.iconst 0, 1) := by decide +kernel
theorem dX1_pick_6 : decode cX1_pick 6 = .ok (.istore_n 3, 1) := by decide +kernel
theorem dX1_pick_7 : decode cX1_pick 7 = .ok (.iload_n 3, 1) := by decide +kernel
theorem dX1_pick_8 : decode cX1_pick 8 = .ok (.aload_n 0, 1) := by decide +kernel
theorem dX1_pick_9 : decode cX1_pick 9 = .ok (.getfield 49, 3) := by decide +kernel
theorem dX1_pick_12 : decode cX1_pick 12 = .ok (.if_icmp .ge 170, 3) := by decide +kernel
theorem dX1_pick_15 : decode cX1_pick 15 = .ok (.aload_n 0, 1) := by decide +kernel
theorem dX1_pick_16 : decode cX1_pick 16 = .ok (.getfield 11, 3) := by decide +kernel
theorem dX1_pick_19 : decode cX1_pick 19 = .ok (.iload_n 3, 1) := by decide +kernel
theorem dX1_pick_20 : decode cX1_pick 20 = .ok (.iaload, 1) := by decide +kernel
theorem dX1_pick_21 : decode cX1_pick 21 = .ok (.iload_n 1, 1) := by decide +kernel
theorem dX1_pick_22 : decode cX1_pick 22 = .ok (.if_icmp .ne 154, 3) := by decide +kernel
theorem dX1_pick_25 : decode cX1_pick 25 = .ok (.aload_n 0, 1) := by decide +kernel
theorem dX1_pick_26 : decode cX1_pick 26 = .ok (.getfield 15, 3) := by decide +kernel
theorem dX1_pick_29 : decode cX1_pick 29 = .ok (.iload_n 3, 1) := by decide +kernel
theorem dX1_pick_30 : decode cX1_pick 30 = .ok (.iaload, 1) := by decide +kernel
theorem dX1_pick_31 : decode cX1_pick 31 = .ok (.iload_n 2, 1) := by decide +kernel
theorem dX1_pick_32 : decode cX1_pick 32 = .ok (.if_icmp .ne 144, 3) := by decide +kernel
theorem dX1_pick_35 : decode cX1_pick 35 = .ok (.aload_n 0, 1) := by decide +kernel
theorem dX1_pick_36 : decode cX1_pick 36 = .ok (.getfield 27, 3) := by decide +kernel
theorem dX1_pick_39 : decode cX1_pick 39 = .ok (.aload_n 0, 1) := by decide +kernel
theorem dX1_pick_40 : decode cX1_pick 40 = .ok (.getfield 53, 3) := by decide +kernel
theorem dX1_pick_43 : decode cX1_pick 43 = .ok (.aload_n 0, 1) := by decide +kernel
theorem dX1_pick_44 : decode cX1_pick 44 = .ok (.getfield 18, 3) := by decide +kernel
theorem dX1_pick_47 : decode cX1_pick 47 = .ok (.iload_n 3, 1) := by decide +kernel
theorem dX1_pick_48 : decode cX1_pick 48 = .ok (.iaload, 1) := by decide +kernel
theorem dX1_pick_49 : decode cX1_pick 49 = .ok (.iastore, 1) := by decide +kernel
theorem dX1_pick_50 : decode cX1_pick 50 = .ok (.aload_n 0, 1) := by decide +kernel
theorem dX1_pick_51 : decode cX1_pick 51 = .ok (.getfield 30, 3) := by decide +kernel
theorem dX1_pick_54 : decode cX1_pick 54 = .ok (.aload_n 0, 1) := by decide +kernel
theorem dX1_pick_55 : decode cX1_pick 55 = .ok (.getfield 53, 3) := by decide +kernel
theorem dX1_pick_58 : decode cX1_pick 58 = .ok (.aload_n 0, 1) := by decide +kernel
theorem dX1_pick_59 : decode cX1_pick 59 = .ok (.getfield 45, 3) := by decide +kernel
theorem dX1_pick_62 : decode cX1_pick 62 = .ok (.aload_n 0, 1) := by decide +kernel
theorem dX1_pick_63 : decode cX1_pick 63 = .ok (.getfield 18, 3) := by decide +kernel
theorem dX1_pick_66 : decode cX1_pick 66 = .ok (.iload_n 3, 1) := by decide +kernel
theorem dX1_pick_67 : decode cX1_pick 67 = .ok (.iaload, 1) := by decide +kernel
theorem dX1_pick_68 : decode cX1_pick 68 = .ok (.aload_n 0, 1) := by decide +kernel
theorem dX1_pick_69 : decode cX1_pick 69 = .ok (.getfield 21, 3) := by decide +kernel
theorem dX1_pick_72 : decode cX1_pick 72 = .ok (.iload_n 3, 1) := by decide +kernel
theorem dX1_pick_73 : decode cX1_pick 73 = .ok (.iaload, 1) := by decide +kernel
theorem dX1_pick_74 : decode cX1_pick 74 = .ok (.iconst 0, 1) := by decide +kernel
theorem dX1_pick_75 : decode cX1_pick 75 = .ok (.invokevirtual 56, 3) := by decide +kernel
theorem dX1_pick_78 : decode cX1_pick 78 = .ok (.iastore, 1) := by decide +kernel
theorem dX1_pick_79 : decode cX1_pick 79 = .ok (.aload_n 0, 1) := by decide +kernel
theorem dX1_pick_80 : decode cX1_pick 80 = .ok (.getfield 33, 3) := by decide +kernel
theorem dX1_pick_83 : decode cX1_pick 83 = .ok (.aload_n 0, 1) := by decide +kernel
theorem dX1_pick_84 : decode cX1_pick 84 = .ok (.getfield 53, 3) := by decide +kernel
theorem dX1_pick_87 : decode cX1_pick 87 = .ok (.aload_n 0, 1) := by decide +kernel
theorem dX1_pick_88 : decode cX1_pick 88 = .ok (.getfield 45, 3) := by decide +kernel
theorem dX1_pick_91 : decode cX1_pick 91 = .ok (.aload_n 0, 1) := by decide +kernel
theorem dX1_pick_92 : decode cX1_pick 92 = .ok (.getfield 18, 3) := by decide +kernel
theorem dX1_pick_95 : decode cX1_pick 95 = .ok (.iload_n 3, 1) := by decide +kernel
theorem dX1_pick_96 : decode cX1_pick 96 = .ok (.iaload, 1) := by decide +kernel
theorem dX1_pick_97 : decode cX1_pick 97 = .ok (.aload_n 0, 1) := by decide +kernel
theorem dX1_pick_98 : decode cX1_pick 98 = .ok (.getfield 21, 3) := by decide +kernel
theorem dX1_pick_101 : decode cX1_pick 101 = .ok (.iload_n 3, 1) := by decide +kernel
theorem dX1_pick_102 : decode cX1_pick 102 = .ok (.iaload, 1) := by decide +kernel
theorem dX1_pick_103 : decode cX1_pick 103 = .ok (.iconst 1, 1) := by decide +kernel
theorem dX1_pick_104 : decode cX1_pick 104 = .ok (.invokevirtual 56, 3) := by decide +kernel
theorem dX1_pick_107 : decode cX1_pick 107 = .ok (.iastore, 1) := by decide +kernel
theorem dX1_pick_108 : decode cX1_pick 108 = .ok (.aload_n 0, 1) := by decide +kernel
theorem dX1_pick_109 : decode cX1_pick 109 = .ok (.getfield 36, 3) := by decide +kernel
theorem dX1_pick_112 : decode cX1_pick 112 = .ok (.aload_n 0, 1) := by decide +kernel
theorem dX1_pick_113 : decode cX1_pick 113 = .ok (.getfield 53, 3) := by decide +kernel
theorem dX1_pick_116 : decode cX1_pick 116 = .ok (.aload_n 0, 1) := by decide +kernel
theorem dX1_pick_117 : decode cX1_pick 117 = .ok (.getfield 45, 3) := by decide +kernel
theorem dX1_pick_120 : decode cX1_pick 120 = .ok (.aload_n 0, 1) := by decide +kernel
theorem dX1_pick_121 : decode cX1_pick 121 = .ok (.getfield 18, 3) := by decide +kernel
theorem dX1_pick_124 : decode cX1_pick 124 = .ok (.iload_n 3, 1) := by decide +kernel
theorem dX1_pick_125 : decode cX1_pick 125 = .ok (.iaload, 1) := by decide +kernel
theorem dX1_pick_126 : decode cX1_pick 126 = .ok (.aload_n 0, 1) := by decide +kernel
theorem dX1_pick_127 : decode cX1_pick 127 = .ok (.getfield 24, 3) := by decide +kernel
theorem dX1_pick_130 : decode cX1_pick 130 = .ok (.iload_n 3, 1) := by decide +kernel
theorem dX1_pick_131 : decode cX1_pick 131 = .ok (.iaload, 1) := by decide +kernel
theorem dX1_pick_132 : decode cX1_pick 132 = .ok (.iconst 0, 1) := by decide +kernel
theorem dX1_pick_133 : decode cX1_pick 133 = .ok (.invokevirtual 56, 3) := by decide +kernel
theorem dX1_pick_136 : decode cX1_pick 136 = .ok (.iastore, 1) := by decide +kernel
theorem dX1_pick_137 : decode cX1_pick 137 = .ok (.aload_n 0, 1) := by decide +kernel
theorem dX1_pick_138 : decode cX1_pick 138 = .ok (.getfield 39, 3) := by decide +kernel
theorem dX1_pick_141 : decode cX1_pick 141 = .ok (.aload_n 0, 1) := by decide +kernel
theorem dX1_pick_142 : decode cX1_pick 142 = .ok (.getfield 53, 3) := by decide +kernel
theorem dX1_pick_145 : decode cX1_pick 145 = .ok (.aload_n 0, 1) := by decide +kernel
theorem dX1_pick_146 : decode cX1_pick 146 = .ok (.getfield 45, 3) := by decide +kernel
theorem dX1_pick_149 : decode cX1_pick 149 = .ok (.aload_n 0, 1) := by decide +kernel
theorem dX1_pick_150 : decode cX1_pick 150 = .ok (.getfield 18, 3) := by decide +kernel
theorem dX1_pick_153 : decode cX1_pick 153 = .ok (.iload_n 3, 1) := by decide +kernel
theorem dX1_pick_154 : decode cX1_pick 154 = .ok (.iaload, 1) := by decide +kernel
theorem dX1_pick_155 : decode cX1_pick 155 = .ok (.aload_n 0, 1) := by decide +kernel
theorem dX1_pick_156 : decode cX1_pick 156 = .ok (.getfield 24, 3) := by decide +kernel
theorem dX1_pick_159 : decode cX1_pick 159 = .ok (.iload_n 3, 1) := by decide +kernel
theorem dX1_pick_160 : decode cX1_pick 160 = .ok (.iaload, 1) := by decide +kernel
theorem dX1_pick_161 : decode cX1_pick 161 = .ok (.iconst 1, 1) := by decide +kernel
theorem dX1_pick_162 : decode cX1_pick 162 = .ok (.invokevirtual 56, 3) := by decide +kernel
theorem dX1_pick_165 : decode cX1_pick 165 = .ok (.iastore, 1) := by decide +kernel
theorem dX1_pick_166 : decode cX1_pick 166 = .ok (.aload_n 0, 1) := by decide +kernel
theorem dX1_pick_167 : decode cX1_pick 167 = .ok (.dup, 1) := by decide +kernel
theorem dX1_pick_168 : decode cX1_pick 168 = .ok (.getfield 53, 3) := by decide +kernel
theorem dX1_pick_171 : decode cX1_pick 171 = .ok (.iconst 1, 1) := by decide +kernel
theorem dX1_pick_172 : decode cX1_pick 172 = .ok (.iadd, 1) := by decide +kernel
theorem dX1_pick_173 : decode cX1_pick 173 = .ok (.putfield 53, 3) := by decide +kernel
theorem dX1_pick_176 : decode cX1_pick 176 = .ok (.iinc 3 1, 3) := by decide +kernel
theorem dX1_pick_179 : decode cX1_pick 179 = .ok (.goto (-172), 3) := by decide +kernel
theorem dX1_pick_182 : decode cX1_pick 182 = .ok (.return_, 1) := by decide +kernel
theorem dX1_pickedAt_0 : decode cX1_pickedAt 0 = .ok (.iconst 0, 1) := by decide +kernel
theorem dX1_pickedAt_1 : decode cX1_pickedAt 1 = .ok (.istore_n 2, 1) := by decide +kernel
theorem dX1_pickedAt_2 : decode cX1_pickedAt 2 = .ok (.iload_n 2, 1) := by decide +kernel
theorem dX1_pickedAt_3 : decode cX1_pickedAt 3 = .ok (.aload_n 0, 1) := by decide +kernel
theorem dX1_pickedAt_4 : decode cX1_pickedAt 4 = .ok (.getfield 53, 3) := by decide +kernel
theorem dX1_pickedAt_7 : decode cX1_pickedAt 7 = .ok (.if_icmp .ge 21, 3) := by decide +kernel
theorem dX1_pickedAt_10 : decode cX1_pickedAt 10 = .ok (.aload_n 0, 1) := by decide +kernel
theorem dX1_pickedAt_11 : decode cX1_pickedAt 11 = .ok (.getfield 27, 3) := by decide +kernel
theorem dX1_pickedAt_14 : decode cX1_pickedAt 14 = .ok (.iload_n 2, 1) := by decide +kernel
theorem dX1_pickedAt_15 : decode cX1_pickedAt 15 = .ok (.iaload, 1) := by decide +kernel
theorem dX1_pickedAt_16 : decode cX1_pickedAt 16 = .ok (.iload_n 1, 1) := by decide +kernel
theorem dX1_pickedAt_17 : decode cX1_pickedAt 17 = .ok (.if_icmp .ne 5, 3) := by decide +kernel
theorem dX1_pickedAt_20 : decode cX1_pickedAt 20 = .ok (.iconst 1, 1) := by decide +kernel
theorem dX1_pickedAt_21 : decode cX1_pickedAt 21 = .ok (.ireturn, 1) := by decide +kernel
theorem dX1_pickedAt_22 : decode cX1_pickedAt 22 = .ok (.iinc 2 1, 3) := by decide +kernel
theorem dX1_pickedAt_25 : decode cX1_pickedAt 25 = .ok (.goto (-23), 3) := by decide +kernel
theorem dX1_pickedAt_28 : decode cX1_pickedAt 28 = .ok (.iconst 0, 1) := by decide +kernel
theorem dX1_pickedAt_29 : decode cX1_pickedAt 29 = .ok (.ireturn, 1) := by decide +kernel
theorem dX1_lasts_0 : decode cX1_lasts 0 = .ok (.iload_n 2, 1) := by decide +kernel
theorem dX1_lasts_1 : decode cX1_lasts 1 = .ok (.iconst 2, 1) := by decide +kernel
theorem dX1_lasts_2 : decode cX1_lasts 2 = .ok (.if_icmp .ne 19, 3) := by decide +kernel
theorem dX1_lasts_5 : decode cX1_lasts 5 = .ok (.aload_n 0, 1) := by decide +kernel
theorem dX1_lasts_6 : decode cX1_lasts 6 = .ok (.getfield 36, 3) := by decide +kernel
theorem dX1_lasts_9 : decode cX1_lasts 9 = .ok (.iload_n 1, 1) := by decide +kernel
theorem dX1_lasts_10 : decode cX1_lasts 10 = .ok (.iaload, 1) := by decide +kernel
theorem dX1_lasts_11 : decode cX1_lasts 11 = .ok (.aload_n 0, 1) := by decide +kernel
theorem dX1_lasts_12 : decode cX1_lasts 12 = .ok (.getfield 33, 3) := by decide +kernel
theorem dX1_lasts_15 : decode cX1_lasts 15 = .ok (.iload_n 1, 1) := by decide +kernel
theorem dX1_lasts_16 : decode cX1_lasts 16 = .ok (.iaload, 1) := by decide +kernel
theorem dX1_lasts_17 : decode cX1_lasts 17 = .ok (.isub, 1) := by decide +kernel
theorem dX1_lasts_18 : decode cX1_lasts 18 = .ok (.goto 16, 3) := by decide +kernel
theorem dX1_lasts_21 : decode cX1_lasts 21 = .ok (.aload_n 0, 1) := by decide +kernel
theorem dX1_lasts_22 : decode cX1_lasts 22 = .ok (.getfield 39, 3) := by decide +kernel
theorem dX1_lasts_25 : decode cX1_lasts 25 = .ok (.iload_n 1, 1) := by decide +kernel
theorem dX1_lasts_26 : decode cX1_lasts 26 = .ok (.iaload, 1) := by decide +kernel
theorem dX1_lasts_27 : decode cX1_lasts 27 = .ok (.aload_n 0, 1) := by decide +kernel
theorem dX1_lasts_28 : decode cX1_lasts 28 = .ok (.getfield 30, 3) := by decide +kernel
theorem dX1_lasts_31 : decode cX1_lasts 31 = .ok (.iload_n 1, 1) := by decide +kernel
theorem dX1_lasts_32 : decode cX1_lasts 32 = .ok (.iaload, 1) := by decide +kernel
theorem dX1_lasts_33 : decode cX1_lasts 33 = .ok (.isub, 1) := by decide +kernel
theorem dX1_lasts_34 : decode cX1_lasts 34 = .ok (.istore_n 3, 1) := by decide +kernel
theorem dX1_lasts_35 : decode cX1_lasts 35 = .ok (.iconst 0, 1) := by decide +kernel
theorem dX1_lasts_36 : decode cX1_lasts 36 = .ok (.iload_n 3, 1) := by decide +kernel
theorem dX1_lasts_37 : decode cX1_lasts 37 = .ok (.invokestatic 62, 3) := by decide +kernel
theorem dX1_lasts_40 : decode cX1_lasts 40 = .ok (.ireturn, 1) := by decide +kernel
theorem dX1_worked_0 : decode cX1_worked 0 = .ok (.iconst 0, 1) := by decide +kernel
theorem dX1_worked_1 : decode cX1_worked 1 = .ok (.istore_n 2, 1) := by decide +kernel
theorem dX1_worked_2 : decode cX1_worked 2 = .ok (.iconst 0, 1) := by decide +kernel
theorem dX1_worked_3 : decode cX1_worked 3 = .ok (.istore_n 3, 1) := by decide +kernel
theorem dX1_worked_4 : decode cX1_worked 4 = .ok (.iload_n 3, 1) := by decide +kernel
theorem dX1_worked_5 : decode cX1_worked 5 = .ok (.aload_n 0, 1) := by decide +kernel
theorem dX1_worked_6 : decode cX1_worked 6 = .ok (.getfield 53, 3) := by decide +kernel
theorem dX1_worked_9 : decode cX1_worked 9 = .ok (.if_icmp .ge 29, 3) := by decide +kernel
theorem dX1_worked_12 : decode cX1_worked 12 = .ok (.aload_n 0, 1) := by decide +kernel
theorem dX1_worked_13 : decode cX1_worked 13 = .ok (.getfield 27, 3) := by decide +kernel
theorem dX1_worked_16 : decode cX1_worked 16 = .ok (.iload_n 3, 1) := by decide +kernel
theorem dX1_worked_17 : decode cX1_worked 17 = .ok (.iaload, 1) := by decide +kernel
theorem dX1_worked_18 : decode cX1_worked 18 = .ok (.bipush (-9), 2) := by decide +kernel
theorem dX1_worked_20 : decode cX1_worked 20 = .ok (.if_icmp .eq 12, 3) := by decide +kernel
theorem dX1_worked_23 : decode cX1_worked 23 = .ok (.iload_n 2, 1) := by decide +kernel
theorem dX1_worked_24 : decode cX1_worked 24 = .ok (.aload_n 0, 1) := by decide +kernel
theorem dX1_worked_25 : decode cX1_worked 25 = .ok (.iload_n 3, 1) := by decide +kernel
theorem dX1_worked_26 : decode cX1_worked 26 = .ok (.iload_n 1, 1) := by decide +kernel
theorem dX1_worked_27 : decode cX1_worked 27 = .ok (.invokevirtual 68, 3) := by decide +kernel
theorem dX1_worked_30 : decode cX1_worked 30 = .ok (.iadd, 1) := by decide +kernel
theorem dX1_worked_31 : decode cX1_worked 31 = .ok (.istore_n 2, 1) := by decide +kernel
theorem dX1_worked_32 : decode cX1_worked 32 = .ok (.iinc 3 1, 3) := by decide +kernel
theorem dX1_worked_35 : decode cX1_worked 35 = .ok (.goto (-31), 3) := by decide +kernel
theorem dX1_worked_38 : decode cX1_worked 38 = .ok (.iload_n 2, 1) := by decide +kernel
theorem dX1_worked_39 : decode cX1_worked 39 = .ok (.ireturn, 1) := by decide +kernel
theorem dX1_schooled_0 : decode cX1_schooled 0 = .ok (.iconst 0, 1) := by decide +kernel
theorem dX1_schooled_1 : decode cX1_schooled 1 = .ok (.istore_n 1, 1) := by decide +kernel
theorem dX1_schooled_2 : decode cX1_schooled 2 = .ok (.iconst 0, 1) := by decide +kernel
theorem dX1_schooled_3 : decode cX1_schooled 3 = .ok (.istore_n 2, 1) := by decide +kernel
theorem dX1_schooled_4 : decode cX1_schooled 4 = .ok (.iload_n 2, 1) := by decide +kernel
theorem dX1_schooled_5 : decode cX1_schooled 5 = .ok (.aload_n 0, 1) := by decide +kernel
theorem dX1_schooled_6 : decode cX1_schooled 6 = .ok (.getfield 53, 3) := by decide +kernel
theorem dX1_schooled_9 : decode cX1_schooled 9 = .ok (.if_icmp .ge 29, 3) := by decide +kernel
theorem dX1_schooled_12 : decode cX1_schooled 12 = .ok (.aload_n 0, 1) := by decide +kernel
theorem dX1_schooled_13 : decode cX1_schooled 13 = .ok (.getfield 27, 3) := by decide +kernel
theorem dX1_schooled_16 : decode cX1_schooled 16 = .ok (.iload_n 2, 1) := by decide +kernel
theorem dX1_schooled_17 : decode cX1_schooled 17 = .ok (.iaload, 1) := by decide +kernel
theorem dX1_schooled_18 : decode cX1_schooled 18 = .ok (.bipush (-9), 2) := by decide +kernel
theorem dX1_schooled_20 : decode cX1_schooled 20 = .ok (.if_icmp .ne 12, 3) := by decide +kernel
theorem dX1_schooled_23 : decode cX1_schooled 23 = .ok (.iload_n 1, 1) := by decide +kernel
theorem dX1_schooled_24 : decode cX1_schooled 24 = .ok (.aload_n 0, 1) := by decide +kernel
theorem dX1_schooled_25 : decode cX1_schooled 25 = .ok (.iload_n 2, 1) := by decide +kernel
theorem dX1_schooled_26 : decode cX1_schooled 26 = .ok (.iconst 2, 1) := by decide +kernel
theorem dX1_schooled_27 : decode cX1_schooled 27 = .ok (.invokevirtual 68, 3) := by decide +kernel
theorem dX1_schooled_30 : decode cX1_schooled 30 = .ok (.iadd, 1) := by decide +kernel
theorem dX1_schooled_31 : decode cX1_schooled 31 = .ok (.istore_n 1, 1) := by decide +kernel
theorem dX1_schooled_32 : decode cX1_schooled 32 = .ok (.iinc 2 1, 3) := by decide +kernel
theorem dX1_schooled_35 : decode cX1_schooled 35 = .ok (.goto (-31), 3) := by decide +kernel
theorem dX1_schooled_38 : decode cX1_schooled 38 = .ok (.iload_n 1, 1) := by decide +kernel
theorem dX1_schooled_39 : decode cX1_schooled 39 = .ok (.ireturn, 1) := by decide +kernel
theorem dX1_longestAt_0 : decode cX1_longestAt 0 = .ok (.iconst 0, 1) := by decide +kernel
theorem dX1_longestAt_1 : decode cX1_longestAt 1 = .ok (.istore_n 3, 1) := by decide +kernel
theorem dX1_longestAt_2 : decode cX1_longestAt 2 = .ok (.iconst 0, 1) := by decide +kernel
theorem dX1_longestAt_3 : decode cX1_longestAt 3 = .ok (.istore 4, 2) := by decide +kernel
theorem dX1_longestAt_5 : decode cX1_longestAt 5 = .ok (.iload 4, 2) := by decide +kernel
theorem dX1_longestAt_7 : decode cX1_longestAt 7 = .ok (.aload_n 0, 1) := by decide +kernel
theorem dX1_longestAt_8 : decode cX1_longestAt 8 = .ok (.getfield 53, 3) := by decide +kernel
theorem dX1_longestAt_11 : decode cX1_longestAt 11 = .ok (.if_icmp .ge 32, 3) := by decide +kernel
theorem dX1_longestAt_14 : decode cX1_longestAt 14 = .ok (.aload_n 0, 1) := by decide +kernel
theorem dX1_longestAt_15 : decode cX1_longestAt 15 = .ok (.getfield 27, 3) := by decide +kernel
theorem dX1_longestAt_18 : decode cX1_longestAt 18 = .ok (.iload 4, 2) := by decide +kernel
theorem dX1_longestAt_20 : decode cX1_longestAt 20 = .ok (.iaload, 1) := by decide +kernel
theorem dX1_longestAt_21 : decode cX1_longestAt 21 = .ok (.iload_n 1, 1) := by decide +kernel
theorem dX1_longestAt_22 : decode cX1_longestAt 22 = .ok (.if_icmp .ne 15, 3) := by decide +kernel
theorem dX1_longestAt_25 : decode cX1_longestAt 25 = .ok (.iload_n 3, 1) := by decide +kernel
theorem dX1_longestAt_26 : decode cX1_longestAt 26 = .ok (.aload_n 0, 1) := by decide +kernel
theorem dX1_longestAt_27 : decode cX1_longestAt 27 = .ok (.iload 4, 2) := by decide +kernel
theorem dX1_longestAt_29 : decode cX1_longestAt 29 = .ok (.iload_n 2, 1) := by decide +kernel
theorem dX1_longestAt_30 : decode cX1_longestAt 30 = .ok (.invokevirtual 68, 3) := by decide +kernel
theorem dX1_longestAt_33 : decode cX1_longestAt 33 = .ok (.invokestatic 62, 3) := by decide +kernel
theorem dX1_longestAt_36 : decode cX1_longestAt 36 = .ok (.istore_n 3, 1) := by decide +kernel
theorem dX1_longestAt_37 : decode cX1_longestAt 37 = .ok (.iinc 4 1, 3) := by decide +kernel
theorem dX1_longestAt_40 : decode cX1_longestAt 40 = .ok (.goto (-35), 3) := by decide +kernel
theorem dX1_longestAt_43 : decode cX1_longestAt 43 = .ok (.iload_n 3, 1) := by decide +kernel
theorem dX1_longestAt_44 : decode cX1_longestAt 44 = .ok (.ireturn, 1) := by decide +kernel
theorem dX1_leaves_0 : decode cX1_leaves 0 = .ok (.iconst 0, 1) := by decide +kernel
theorem dX1_leaves_1 : decode cX1_leaves 1 = .ok (.istore 5, 2) := by decide +kernel
theorem dX1_leaves_3 : decode cX1_leaves 3 = .ok (.iload 5, 2) := by decide +kernel
theorem dX1_leaves_5 : decode cX1_leaves 5 = .ok (.aload_n 0, 1) := by decide +kernel
theorem dX1_leaves_6 : decode cX1_leaves 6 = .ok (.getfield 53, 3) := by decide +kernel
theorem dX1_leaves_9 : decode cX1_leaves 9 = .ok (.if_icmp .ge 84, 3) := by decide +kernel
theorem dX1_leaves_12 : decode cX1_leaves 12 = .ok (.iload 4, 2) := by decide +kernel
theorem dX1_leaves_14 : decode cX1_leaves 14 = .ok (.iconst 2, 1) := by decide +kernel
theorem dX1_leaves_15 : decode cX1_leaves 15 = .ok (.if_icmp .ne 13, 3) := by decide +kernel
theorem dX1_leaves_18 : decode cX1_leaves 18 = .ok (.aload_n 0, 1) := by decide +kernel
theorem dX1_leaves_19 : decode cX1_leaves 19 = .ok (.getfield 33, 3) := by decide +kernel
theorem dX1_leaves_22 : decode cX1_leaves 22 = .ok (.iload 5, 2) := by decide +kernel
theorem dX1_leaves_24 : decode cX1_leaves 24 = .ok (.iaload, 1) := by decide +kernel
theorem dX1_leaves_25 : decode cX1_leaves 25 = .ok (.goto 10, 3) := by decide +kernel
theorem dX1_leaves_28 : decode cX1_leaves 28 = .ok (.aload_n 0, 1) := by decide +kernel
theorem dX1_leaves_29 : decode cX1_leaves 29 = .ok (.getfield 30, 3) := by decide +kernel
theorem dX1_leaves_32 : decode cX1_leaves 32 = .ok (.iload 5, 2) := by decide +kernel
theorem dX1_leaves_34 : decode cX1_leaves 34 = .ok (.iaload, 1) := by decide +kernel
theorem dX1_leaves_35 : decode cX1_leaves 35 = .ok (.istore 6, 2) := by decide +kernel
theorem dX1_leaves_37 : decode cX1_leaves 37 = .ok (.iload 4, 2) := by decide +kernel
theorem dX1_leaves_39 : decode cX1_leaves 39 = .ok (.iconst 2, 1) := by decide +kernel
theorem dX1_leaves_40 : decode cX1_leaves 40 = .ok (.if_icmp .ne 13, 3) := by decide +kernel
theorem dX1_leaves_43 : decode cX1_leaves 43 = .ok (.aload_n 0, 1) := by decide +kernel
theorem dX1_leaves_44 : decode cX1_leaves 44 = .ok (.getfield 36, 3) := by decide +kernel
theorem dX1_leaves_47 : decode cX1_leaves 47 = .ok (.iload 5, 2) := by decide +kernel
theorem dX1_leaves_49 : decode cX1_leaves 49 = .ok (.iaload, 1) := by decide +kernel
theorem dX1_leaves_50 : decode cX1_leaves 50 = .ok (.goto 10, 3) := by decide +kernel
theorem dX1_leaves_53 : decode cX1_leaves 53 = .ok (.aload_n 0, 1) := by decide +kernel
theorem dX1_leaves_54 : decode cX1_leaves 54 = .ok (.getfield 39, 3) := by decide +kernel
theorem dX1_leaves_57 : decode cX1_leaves 57 = .ok (.iload 5, 2) := by decide +kernel
theorem dX1_leaves_59 : decode cX1_leaves 59 = .ok (.iaload, 1) := by decide +kernel
theorem dX1_leaves_60 : decode cX1_leaves 60 = .ok (.istore 7, 2) := by decide +kernel
theorem dX1_leaves_62 : decode cX1_leaves 62 = .ok (.aload_n 0, 1) := by decide +kernel
theorem dX1_leaves_63 : decode cX1_leaves 63 = .ok (.getfield 27, 3) := by decide +kernel
theorem dX1_leaves_66 : decode cX1_leaves 66 = .ok (.iload 5, 2) := by decide +kernel
theorem dX1_leaves_68 : decode cX1_leaves 68 = .ok (.iaload, 1) := by decide +kernel
theorem dX1_leaves_69 : decode cX1_leaves 69 = .ok (.iload_n 1, 1) := by decide +kernel
theorem dX1_leaves_70 : decode cX1_leaves 70 = .ok (.if_icmp .ne 17, 3) := by decide +kernel
theorem dX1_leaves_73 : decode cX1_leaves 73 = .ok (.iload 6, 2) := by decide +kernel
theorem dX1_leaves_75 : decode cX1_leaves 75 = .ok (.iload_n 2, 1) := by decide +kernel
theorem dX1_leaves_76 : decode cX1_leaves 76 = .ok (.if_icmp .lt 9, 3) := by decide +kernel
theorem dX1_leaves_79 : decode cX1_leaves 79 = .ok (.iload 7, 2) := by decide +kernel
theorem dX1_leaves_81 : decode cX1_leaves 81 = .ok (.iload_n 3, 1) := by decide +kernel
theorem dX1_leaves_82 : decode cX1_leaves 82 = .ok (.if_icmp .le 5, 3) := by decide +kernel
theorem dX1_leaves_85 : decode cX1_leaves 85 = .ok (.iconst 1, 1) := by decide +kernel
theorem dX1_leaves_86 : decode cX1_leaves 86 = .ok (.ireturn, 1) := by decide +kernel
theorem dX1_leaves_87 : decode cX1_leaves 87 = .ok (.iinc 5 1, 3) := by decide +kernel
theorem dX1_leaves_90 : decode cX1_leaves 90 = .ok (.goto (-87), 3) := by decide +kernel
theorem dX1_leaves_93 : decode cX1_leaves 93 = .ok (.iconst 0, 1) := by decide +kernel
theorem dX1_leaves_94 : decode cX1_leaves 94 = .ok (.ireturn, 1) := by decide +kernel
theorem dX1_bothIn_0 : decode cX1_bothIn 0 = .ok (.aload_n 0, 1) := by decide +kernel
theorem dX1_bothIn_1 : decode cX1_bothIn 1 = .ok (.getfield 33, 3) := by decide +kernel
theorem dX1_bothIn_4 : decode cX1_bothIn 4 = .ok (.iload_n 1, 1) := by decide +kernel
theorem dX1_bothIn_5 : decode cX1_bothIn 5 = .ok (.iaload, 1) := by decide +kernel
theorem dX1_bothIn_6 : decode cX1_bothIn 6 = .ok (.aload_n 0, 1) := by decide +kernel
theorem dX1_bothIn_7 : decode cX1_bothIn 7 = .ok (.getfield 33, 3) := by decide +kernel
theorem dX1_bothIn_10 : decode cX1_bothIn 10 = .ok (.iload_n 2, 1) := by decide +kernel
theorem dX1_bothIn_11 : decode cX1_bothIn 11 = .ok (.iaload, 1) := by decide +kernel
theorem dX1_bothIn_12 : decode cX1_bothIn 12 = .ok (.invokestatic 62, 3) := by decide +kernel
theorem dX1_bothIn_15 : decode cX1_bothIn 15 = .ok (.aload_n 0, 1) := by decide +kernel
theorem dX1_bothIn_16 : decode cX1_bothIn 16 = .ok (.getfield 36, 3) := by decide +kernel
theorem dX1_bothIn_19 : decode cX1_bothIn 19 = .ok (.iload_n 1, 1) := by decide +kernel
theorem dX1_bothIn_20 : decode cX1_bothIn 20 = .ok (.iaload, 1) := by decide +kernel
theorem dX1_bothIn_21 : decode cX1_bothIn 21 = .ok (.aload_n 0, 1) := by decide +kernel
theorem dX1_bothIn_22 : decode cX1_bothIn 22 = .ok (.getfield 36, 3) := by decide +kernel
theorem dX1_bothIn_25 : decode cX1_bothIn 25 = .ok (.iload_n 2, 1) := by decide +kernel
theorem dX1_bothIn_26 : decode cX1_bothIn 26 = .ok (.iaload, 1) := by decide +kernel
theorem dX1_bothIn_27 : decode cX1_bothIn 27 = .ok (.invokestatic 71, 3) := by decide +kernel
theorem dX1_bothIn_30 : decode cX1_bothIn 30 = .ok (.if_icmp .ge 7, 3) := by decide +kernel
theorem dX1_bothIn_33 : decode cX1_bothIn 33 = .ok (.iconst 1, 1) := by decide +kernel
theorem dX1_bothIn_34 : decode cX1_bothIn 34 = .ok (.goto 4, 3) := by decide +kernel
theorem dX1_bothIn_37 : decode cX1_bothIn 37 = .ok (.iconst 0, 1) := by decide +kernel
theorem dX1_bothIn_38 : decode cX1_bothIn 38 = .ok (.ireturn, 1) := by decide +kernel
theorem dX1_clashes_0 : decode cX1_clashes 0 = .ok (.iconst 0, 1) := by decide +kernel
theorem dX1_clashes_1 : decode cX1_clashes 1 = .ok (.istore_n 1, 1) := by decide +kernel
theorem dX1_clashes_2 : decode cX1_clashes 2 = .ok (.iconst 0, 1) := by decide +kernel
theorem dX1_clashes_3 : decode cX1_clashes 3 = .ok (.istore_n 2, 1) := by decide +kernel
theorem dX1_clashes_4 : decode cX1_clashes 4 = .ok (.iload_n 2, 1) := by decide +kernel
theorem dX1_clashes_5 : decode cX1_clashes 5 = .ok (.aload_n 0, 1) := by decide +kernel
theorem dX1_clashes_6 : decode cX1_clashes 6 = .ok (.getfield 53, 3) := by decide +kernel
theorem dX1_clashes_9 : decode cX1_clashes 9 = .ok (.if_icmp .ge 39, 3) := by decide +kernel
theorem dX1_clashes_12 : decode cX1_clashes 12 = .ok (.iload_n 2, 1) := by decide +kernel
theorem dX1_clashes_13 : decode cX1_clashes 13 = .ok (.iconst 1, 1) := by decide +kernel
theorem dX1_clashes_14 : decode cX1_clashes 14 = .ok (.iadd, 1) := by decide +kernel
theorem dX1_clashes_15 : decode cX1_clashes 15 = .ok (.istore_n 3, 1) := by decide +kernel
theorem dX1_clashes_16 : decode cX1_clashes 16 = .ok (.iload_n 3, 1) := by decide +kernel
theorem dX1_clashes_17 : decode cX1_clashes 17 = .ok (.aload_n 0, 1) := by decide +kernel
theorem dX1_clashes_18 : decode cX1_clashes 18 = .ok (.getfield 53, 3) := by decide +kernel
theorem dX1_clashes_21 : decode cX1_clashes 21 = .ok (.if_icmp .ge 21, 3) := by decide +kernel
theorem dX1_clashes_24 : decode cX1_clashes 24 = .ok (.aload_n 0, 1) := by decide +kernel
theorem dX1_clashes_25 : decode cX1_clashes 25 = .ok (.iload_n 2, 1) := by decide +kernel
theorem dX1_clashes_26 : decode cX1_clashes 26 = .ok (.iload_n 3, 1) := by decide +kernel
theorem dX1_clashes_27 : decode cX1_clashes 27 = .ok (.invokevirtual 74, 3) := by decide +kernel
theorem dX1_clashes_30 : decode cX1_clashes 30 = .ok (.ifCond .eq 6, 3) := by decide +kernel
theorem dX1_clashes_33 : decode cX1_clashes 33 = .ok (.iinc 1 1, 3) := by decide +kernel
theorem dX1_clashes_36 : decode cX1_clashes 36 = .ok (.iinc 3 1, 3) := by decide +kernel
theorem dX1_clashes_39 : decode cX1_clashes 39 = .ok (.goto (-23), 3) := by decide +kernel
theorem dX1_clashes_42 : decode cX1_clashes 42 = .ok (.iinc 2 1, 3) := by decide +kernel
theorem dX1_clashes_45 : decode cX1_clashes 45 = .ok (.goto (-41), 3) := by decide +kernel
theorem dX1_clashes_48 : decode cX1_clashes 48 = .ok (.iload_n 1, 1) := by decide +kernel
theorem dX1_clashes_49 : decode cX1_clashes 49 = .ok (.ireturn, 1) := by decide +kernel
theorem dX1_leastDoubted_0 : decode cX1_leastDoubted 0 = .ok (.aload_n 0, 1) := by decide +kernel
theorem dX1_leastDoubted_1 : decode cX1_leastDoubted 1 = .ok (.getfield 53, 3) := by decide +kernel
theorem dX1_leastDoubted_4 : decode cX1_leastDoubted 4 = .ok (.bipush 12, 2) := by decide +kernel
theorem dX1_leastDoubted_6 : decode cX1_leastDoubted 6 = .ok (.invokestatic 71, 3) := by decide +kernel
theorem dX1_leastDoubted_9 : decode cX1_leastDoubted 9 = .ok (.istore_n 1, 1) := by decide +kernel
theorem dX1_leastDoubted_10 : decode cX1_leastDoubted 10 = .ok (.iconst 0, 1) := by decide +kernel
theorem dX1_leastDoubted_11 : decode cX1_leastDoubted 11 = .ok (.istore_n 2, 1) := by decide +kernel
theorem dX1_leastDoubted_12 : decode cX1_leastDoubted 12 = .ok (.iload_n 2, 1) := by decide +kernel
theorem dX1_leastDoubted_13 : decode cX1_leastDoubted 13 = .ok (.iload_n 1, 1) := by decide +kernel
theorem dX1_leastDoubted_14 : decode cX1_leastDoubted 14 = .ok (.if_icmp .ge 55, 3) := by decide +kernel
theorem dX1_leastDoubted_17 : decode cX1_leastDoubted 17 = .ok (.aload_n 0, 1) := by decide +kernel
theorem dX1_leastDoubted_18 : decode cX1_leastDoubted 18 = .ok (.getfield 42, 3) := by decide +kernel
theorem dX1_leastDoubted_21 : decode cX1_leastDoubted 21 = .ok (.iload_n 2, 1) := by decide +kernel
theorem dX1_leastDoubted_22 : decode cX1_leastDoubted 22 = .ok (.iconst 0, 1) := by decide +kernel
theorem dX1_leastDoubted_23 : decode cX1_leastDoubted 23 = .ok (.iastore, 1) := by decide +kernel
theorem dX1_leastDoubted_24 : decode cX1_leastDoubted 24 = .ok (.iconst 0, 1) := by decide +kernel
theorem dX1_leastDoubted_25 : decode cX1_leastDoubted 25 = .ok (.istore_n 3, 1) := by decide +kernel
theorem dX1_leastDoubted_26 : decode cX1_leastDoubted 26 = .ok (.iload_n 3, 1) := by decide +kernel
theorem dX1_leastDoubted_27 : decode cX1_leastDoubted 27 = .ok (.iload_n 1, 1) := by decide +kernel
theorem dX1_leastDoubted_28 : decode cX1_leastDoubted 28 = .ok (.if_icmp .ge 35, 3) := by decide +kernel
theorem dX1_leastDoubted_31 : decode cX1_leastDoubted 31 = .ok (.iload_n 3, 1) := by decide +kernel
theorem dX1_leastDoubted_32 : decode cX1_leastDoubted 32 = .ok (.iload_n 2, 1) := by decide +kernel
theorem dX1_leastDoubted_33 : decode cX1_leastDoubted 33 = .ok (.if_icmp .eq 24, 3) := by decide +kernel
theorem dX1_leastDoubted_36 : decode cX1_leastDoubted 36 = .ok (.aload_n 0, 1) := by decide +kernel
theorem dX1_leastDoubted_37 : decode cX1_leastDoubted 37 = .ok (.iload_n 2, 1) := by decide +kernel
theorem dX1_leastDoubted_38 : decode cX1_leastDoubted 38 = .ok (.iload_n 3, 1) := by decide +kernel
theorem dX1_leastDoubted_39 : decode cX1_leastDoubted 39 = .ok (.invokevirtual 74, 3) := by decide +kernel
theorem dX1_leastDoubted_42 : decode cX1_leastDoubted 42 = .ok (.ifCond .eq 15, 3) := by decide +kernel
theorem dX1_leastDoubted_45 : decode cX1_leastDoubted 45 = .ok (.aload_n 0, 1) := by decide +kernel
theorem dX1_leastDoubted_46 : decode cX1_leastDoubted 46 = .ok (.getfield 42, 3) := by decide +kernel
theorem dX1_leastDoubted_49 : decode cX1_leastDoubted 49 = .ok (.iload_n 2, 1) := by decide +kernel
theorem dX1_leastDoubted_50 : decode cX1_leastDoubted 50 = .ok (.dup2, 1) := by decide +kernel
theorem dX1_leastDoubted_51 : decode cX1_leastDoubted 51 = .ok (.iaload, 1) := by decide +kernel
theorem dX1_leastDoubted_52 : decode cX1_leastDoubted 52 = .ok (.iconst 1, 1) := by decide +kernel
theorem dX1_leastDoubted_53 : decode cX1_leastDoubted 53 = .ok (.iload_n 3, 1) := by decide +kernel
theorem dX1_leastDoubted_54 : decode cX1_leastDoubted 54 = .ok (.ishl, 1) := by decide +kernel
theorem dX1_leastDoubted_55 : decode cX1_leastDoubted 55 = .ok (.ior, 1) := by decide +kernel
theorem dX1_leastDoubted_56 : decode cX1_leastDoubted 56 = .ok (.iastore, 1) := by decide +kernel
theorem dX1_leastDoubted_57 : decode cX1_leastDoubted 57 = .ok (.iinc 3 1, 3) := by decide +kernel
theorem dX1_leastDoubted_60 : decode cX1_leastDoubted 60 = .ok (.goto (-34), 3) := by decide +kernel
theorem dX1_leastDoubted_63 : decode cX1_leastDoubted 63 = .ok (.iinc 2 1, 3) := by decide +kernel
theorem dX1_leastDoubted_66 : decode cX1_leastDoubted 66 = .ok (.goto (-54), 3) := by decide +kernel
theorem dX1_leastDoubted_69 : decode cX1_leastDoubted 69 = .ok (.iconst 1, 1) := by decide +kernel
theorem dX1_leastDoubted_70 : decode cX1_leastDoubted 70 = .ok (.iload_n 1, 1) := by decide +kernel
theorem dX1_leastDoubted_71 : decode cX1_leastDoubted 71 = .ok (.ishl, 1) := by decide +kernel
theorem dX1_leastDoubted_72 : decode cX1_leastDoubted 72 = .ok (.iconst 1, 1) := by decide +kernel
theorem dX1_leastDoubted_73 : decode cX1_leastDoubted 73 = .ok (.isub, 1) := by decide +kernel
theorem dX1_leastDoubted_74 : decode cX1_leastDoubted 74 = .ok (.istore_n 2, 1) := by decide +kernel
theorem dX1_leastDoubted_75 : decode cX1_leastDoubted 75 = .ok (.iload_n 2, 1) := by decide +kernel
theorem dX1_leastDoubted_76 : decode cX1_leastDoubted 76 = .ok (.istore_n 3, 1) := by decide +kernel
theorem dX1_leastDoubted_77 : decode cX1_leastDoubted 77 = .ok (.iconst 0, 1) := by decide +kernel
theorem dX1_leastDoubted_78 : decode cX1_leastDoubted 78 = .ok (.istore 4, 2) := by decide +kernel
theorem dX1_leastDoubted_80 : decode cX1_leastDoubted 80 = .ok (.iload 4, 2) := by decide +kernel
theorem dX1_leastDoubted_82 : decode cX1_leastDoubted 82 = .ok (.iload_n 2, 1) := by decide +kernel
theorem dX1_leastDoubted_83 : decode cX1_leastDoubted 83 = .ok (.if_icmp .ge 38, 3) := by decide +kernel
theorem dX1_leastDoubted_86 : decode cX1_leastDoubted 86 = .ok (.iload 4, 2) := by decide +kernel
theorem dX1_leastDoubted_88 : decode cX1_leastDoubted 88 = .ok (.invokestatic 78, 3) := by decide +kernel
theorem dX1_leastDoubted_91 : decode cX1_leastDoubted 91 = .ok (.iload_n 3, 1) := by decide +kernel
theorem dX1_leastDoubted_92 : decode cX1_leastDoubted 92 = .ok (.invokestatic 78, 3) := by decide +kernel
theorem dX1_leastDoubted_95 : decode cX1_leastDoubted 95 = .ok (.if_icmp .ge 20, 3) := by decide +kernel
theorem dX1_leastDoubted_98 : decode cX1_leastDoubted 98 = .ok (.aload_n 0, 1) := by decide +kernel
theorem dX1_leastDoubted_99 : decode cX1_leastDoubted 99 = .ok (.iload_n 2, 1) := by decide +kernel
theorem dX1_leastDoubted_100 : decode cX1_leastDoubted 100 = .ok (.iload 4, 2) := by decide +kernel
theorem dX1_leastDoubted_102 : decode cX1_leastDoubted 102 = .ok (.iconst (-1), 1) := by decide +kernel
theorem dX1_leastDoubted_103 : decode cX1_leastDoubted 103 = .ok (.ixor, 1) := by decide +kernel
theorem dX1_leastDoubted_104 : decode cX1_leastDoubted 104 = .ok (.iand, 1) := by decide +kernel
theorem dX1_leastDoubted_105 : decode cX1_leastDoubted 105 = .ok (.iload_n 1, 1) := by decide +kernel
theorem dX1_leastDoubted_106 : decode cX1_leastDoubted 106 = .ok (.invokevirtual 84, 3) := by decide +kernel
theorem dX1_leastDoubted_109 : decode cX1_leastDoubted 109 = .ok (.ifCond .eq 6, 3) := by decide +kernel
theorem dX1_leastDoubted_112 : decode cX1_leastDoubted 112 = .ok (.iload 4, 2) := by decide +kernel
theorem dX1_leastDoubted_114 : decode cX1_leastDoubted 114 = .ok (.istore_n 3, 1) := by decide +kernel
theorem dX1_leastDoubted_115 : decode cX1_leastDoubted 115 = .ok (.iinc 4 1, 3) := by decide +kernel
theorem dX1_leastDoubted_118 : decode cX1_leastDoubted 118 = .ok (.goto (-38), 3) := by decide +kernel
theorem dX1_leastDoubted_121 : decode cX1_leastDoubted 121 = .ok (.iload_n 3, 1) := by decide +kernel
theorem dX1_leastDoubted_122 : decode cX1_leastDoubted 122 = .ok (.ireturn, 1) := by decide +kernel
theorem dX1_isPeaceful_0 : decode cX1_isPeaceful 0 = .ok (.iconst 0, 1) := by decide +kernel
theorem dX1_isPeaceful_1 : decode cX1_isPeaceful 1 = .ok (.istore_n 3, 1) := by decide +kernel
theorem dX1_isPeaceful_2 : decode cX1_isPeaceful 2 = .ok (.iload_n 3, 1) := by decide +kernel
theorem dX1_isPeaceful_3 : decode cX1_isPeaceful 3 = .ok (.iload_n 2, 1) := by decide +kernel
theorem dX1_isPeaceful_4 : decode cX1_isPeaceful 4 = .ok (.if_icmp .ge 31, 3) := by decide +kernel
theorem dX1_isPeaceful_7 : decode cX1_isPeaceful 7 = .ok (.iload_n 1, 1) := by decide +kernel
theorem dX1_isPeaceful_8 : decode cX1_isPeaceful 8 = .ok (.iload_n 3, 1) := by decide +kernel
theorem dX1_isPeaceful_9 : decode cX1_isPeaceful 9 = .ok (.ishr, 1) := by decide +kernel
theorem dX1_isPeaceful_10 : decode cX1_isPeaceful 10 = .ok (.iconst 1, 1) := by decide +kernel
theorem dX1_isPeaceful_11 : decode cX1_isPeaceful 11 = .ok (.iand, 1) := by decide +kernel
theorem dX1_isPeaceful_12 : decode cX1_isPeaceful 12 = .ok (.iconst 1, 1) := by decide +kernel
theorem dX1_isPeaceful_13 : decode cX1_isPeaceful 13 = .ok (.if_icmp .ne 16, 3) := by decide +kernel
theorem dX1_isPeaceful_16 : decode cX1_isPeaceful 16 = .ok (.aload_n 0, 1) := by decide +kernel
theorem dX1_isPeaceful_17 : decode cX1_isPeaceful 17 = .ok (.getfield 42, 3) := by decide +kernel
theorem dX1_isPeaceful_20 : decode cX1_isPeaceful 20 = .ok (.iload_n 3, 1) := by decide +kernel
theorem dX1_isPeaceful_21 : decode cX1_isPeaceful 21 = .ok (.iaload, 1) := by decide +kernel
theorem dX1_isPeaceful_22 : decode cX1_isPeaceful 22 = .ok (.iload_n 1, 1) := by decide +kernel
theorem dX1_isPeaceful_23 : decode cX1_isPeaceful 23 = .ok (.iand, 1) := by decide +kernel
theorem dX1_isPeaceful_24 : decode cX1_isPeaceful 24 = .ok (.ifCond .eq 5, 3) := by decide +kernel
theorem dX1_isPeaceful_27 : decode cX1_isPeaceful 27 = .ok (.iconst 0, 1) := by decide +kernel
theorem dX1_isPeaceful_28 : decode cX1_isPeaceful 28 = .ok (.ireturn, 1) := by decide +kernel
theorem dX1_isPeaceful_29 : decode cX1_isPeaceful 29 = .ok (.iinc 3 1, 3) := by decide +kernel
theorem dX1_isPeaceful_32 : decode cX1_isPeaceful 32 = .ok (.goto (-30), 3) := by decide +kernel
theorem dX1_isPeaceful_35 : decode cX1_isPeaceful 35 = .ok (.iconst 1, 1) := by decide +kernel
theorem dX1_isPeaceful_36 : decode cX1_isPeaceful 36 = .ok (.ireturn, 1) := by decide +kernel
theorem dX2_init_0 : decode cX2_init 0 = .ok (.aload_n 0, 1) := by decide +kernel
theorem dX2_init_1 : decode cX2_init 1 = .ok (.invokespecial 3, 3) := by decide +kernel
theorem dX2_init_4 : decode cX2_init 4 = .ok (.aload_n 0, 1) := by decide +kernel
theorem dX2_init_5 : decode cX2_init 5 = .ok (.iconst 5, 1) := by decide +kernel
theorem dX2_init_6 : decode cX2_init 6 = .ok (.newarray .int, 2) := by decide +kernel
theorem dX2_init_8 : decode cX2_init 8 = .ok (.putfield 11, 3) := by decide +kernel
theorem dX2_init_11 : decode cX2_init 11 = .ok (.aload_n 0, 1) := by decide +kernel
theorem dX2_init_12 : decode cX2_init 12 = .ok (.bipush 6, 2) := by decide +kernel
theorem dX2_init_14 : decode cX2_init 14 = .ok (.newarray .int, 2) := by decide +kernel
theorem dX2_init_16 : decode cX2_init 16 = .ok (.putfield 15, 3) := by decide +kernel
theorem dX2_init_19 : decode cX2_init 19 = .ok (.aload_n 0, 1) := by decide +kernel
theorem dX2_init_20 : decode cX2_init 20 = .ok (.bipush 20, 2) := by decide +kernel
theorem dX2_init_22 : decode cX2_init 22 = .ok (.newarray .int, 2) := by decide +kernel
theorem dX2_init_24 : decode cX2_init 24 = .ok (.putfield 18, 3) := by decide +kernel
theorem dX2_init_27 : decode cX2_init 27 = .ok (.aload_n 0, 1) := by decide +kernel
theorem dX2_init_28 : decode cX2_init 28 = .ok (.bipush 20, 2) := by decide +kernel
theorem dX2_init_30 : decode cX2_init 30 = .ok (.newarray .int, 2) := by decide +kernel
theorem dX2_init_32 : decode cX2_init 32 = .ok (.putfield 21, 3) := by decide +kernel
theorem dX2_init_35 : decode cX2_init 35 = .ok (.aload_n 0, 1) := by decide +kernel
theorem dX2_init_36 : decode cX2_init 36 = .ok (.bipush 20, 2) := by decide +kernel
theorem dX2_init_38 : decode cX2_init 38 = .ok (.newarray .int, 2) := by decide +kernel
theorem dX2_init_40 : decode cX2_init 40 = .ok (.putfield 24, 3) := by decide +kernel
theorem dX2_init_43 : decode cX2_init 43 = .ok (.aload_n 0, 1) := by decide +kernel
theorem dX2_init_44 : decode cX2_init 44 = .ok (.bipush 20, 2) := by decide +kernel
theorem dX2_init_46 : decode cX2_init 46 = .ok (.newarray .boolean, 2) := by decide +kernel
theorem dX2_init_48 : decode cX2_init 48 = .ok (.putfield 27, 3) := by decide +kernel
theorem dX2_init_51 : decode cX2_init 51 = .ok (.aload_n 0, 1) := by decide +kernel
theorem dX2_init_52 : decode cX2_init 52 = .ok (.bipush 20, 2) := by decide +kernel
theorem dX2_init_54 : decode cX2_init 54 = .ok (.newarray .int, 2) := by decide +kernel
theorem dX2_init_56 : decode cX2_init 56 = .ok (.putfield 31, 3) := by decide +kernel
theorem dX2_init_59 : decode cX2_init 59 = .ok (.iconst 0, 1) := by decide +kernel
theorem dX2_init_60 : decode cX2_init 60 = .ok (.istore_n 1, 1) := by decide +kernel
theorem dX2_init_61 : decode cX2_init 61 = .ok (.iload_n 1, 1) := by decide +kernel
theorem dX2_init_62 : decode cX2_init 62 = .ok (.bipush 6, 2) := by decide +kernel
theorem dX2_init_64 : decode cX2_init 64 = .ok (.if_icmp .ge 22, 3) := by decide +kernel
theorem dX2_init_67 : decode cX2_init 67 = .ok (.aload_n 0, 1) := by decide +kernel
theorem dX2_init_68 : decode cX2_init 68 = .ok (.getfield 15, 3) := by decide +kernel
theorem dX2_init_71 : decode cX2_init 71 = .ok (.iload_n 1, 1) := by decide +kernel
theorem dX2_init_72 : decode cX2_init 72 = .ok (.bipush 20, 2) := by decide +kernel
theorem dX2_init_74 : decode cX2_init 74 = .ok (.iload_n 1, 1) := by decide +kernel
theorem dX2_init_75 : decode cX2_init 75 = .ok (.imul, 1) := by decide +kernel
theorem dX2_init_76 : decode cX2_init 76 = .ok (.bipush 20, 2) := by decide +kernel
theorem dX2_init_78 : decode cX2_init 78 = .ok (.iadd, 1) := by decide +kernel
theorem dX2_init_79 : decode cX2_init 79 = .ok (.iastore, 1) := by decide +kernel
theorem dX2_init_80 : decode cX2_init 80 = .ok (.iinc 1 1, 3) := by decide +kernel
theorem dX2_init_83 : decode cX2_init 83 = .ok (.goto (-22), 3) := by decide +kernel
theorem dX2_init_86 : decode cX2_init 86 = .ok (.return_, 1) := by decide +kernel
theorem dX2_knows_0 : decode cX2_knows 0 = .ok (.iload_n 1, 1) := by decide +kernel
theorem dX2_knows_1 : decode cX2_knows 1 = .ok (.ifCond .lt 15, 3) := by decide +kernel
theorem dX2_knows_4 : decode cX2_knows 4 = .ok (.iload_n 1, 1) := by decide +kernel
theorem dX2_knows_5 : decode cX2_knows 5 = .ok (.aload_n 0, 1) := by decide +kernel
theorem dX2_knows_6 : decode cX2_knows 6 = .ok (.getfield 34, 3) := by decide +kernel
theorem dX2_knows_9 : decode cX2_knows 9 = .ok (.if_icmp .ge 7, 3) := by decide +kernel
theorem dX2_knows_12 : decode cX2_knows 12 = .ok (.iconst 1, 1) := by decide +kernel
theorem dX2_knows_13 : decode cX2_knows 13 = .ok (.goto 4, 3) := by decide +kernel
theorem dX2_knows_16 : decode cX2_knows 16 = .ok (.iconst 0, 1) := by decide +kernel
theorem dX2_knows_17 : decode cX2_knows 17 = .ok (.ireturn, 1) := by decide +kernel
theorem dX2_addBench_0 : decode cX2_addBench 0 = .ok (.aload_n 0, 1) := by decide +kernel
theorem dX2_addBench_1 : decode cX2_addBench 1 = .ok (.getfield 38, 3) := by decide +kernel
theorem dX2_addBench_4 : decode cX2_addBench 4 = .ok (.iconst 5, 1) := by decide +kernel
theorem dX2_addBench_5 : decode cX2_addBench 5 = .ok (.if_icmp .ne 6, 3) := by decide +kernel
theorem dX2_addBench_8 : decode cX2_addBench 8 = .ok (.bipush (-3), 2) := by decide +kernel
theorem dX2_addBench_10 : decode cX2_addBench 10 = .ok (.ireturn, 1) := by decide +kernel
theorem dX2_addBench_11 : decode cX2_addBench 11 = .ok (.aload_n 0, 1) := by decide +kernel
theorem dX2_addBench_12 : decode cX2_addBench 12 = .ok (.getfield 11, 3) := by decide +kernel
theorem dX2_addBench_15 : decode cX2_addBench 15 = .ok (.aload_n 0, 1) := by decide +kernel
theorem dX2_addBench_16 : decode cX2_addBench 16 = .ok (.getfield 38, 3) := by decide +kernel
theorem dX2_addBench_19 : decode cX2_addBench 19 = .ok (.iload_n 1, 1) := by decide +kernel
theorem dX2_addBench_20 : decode cX2_addBench 20 = .ok (.iastore, 1) := by decide +kernel
theorem dX2_addBench_21 : decode cX2_addBench 21 = .ok (.aload_n 0, 1) := by decide +kernel
theorem dX2_addBench_22 : decode cX2_addBench 22 = .ok (.dup, 1) := by decide +kernel
theorem dX2_addBench_23 : decode cX2_addBench 23 = .ok (.getfield 38, 3) := by decide +kernel
theorem dX2_addBench_26 : decode cX2_addBench 26 = .ok (.dup_x1, 1) := by decide +kernel
theorem dX2_addBench_27 : decode cX2_addBench 27 = .ok (.iconst 1, 1) := by decide +kernel
theorem dX2_addBench_28 : decode cX2_addBench 28 = .ok (.iadd, 1) := by decide +kernel
theorem dX2_addBench_29 : decode cX2_addBench 29 = .ok (.putfield 38, 3) := by decide +kernel
theorem dX2_addBench_32 : decode cX2_addBench 32 = .ok (.ireturn, 1) := by decide +kernel
theorem dX2_setBase_0 : decode cX2_setBase 0 = .ok (.aload_n 0, 1) := by decide +kernel
theorem dX2_setBase_1 : decode cX2_setBase 1 = .ok (.getfield 15, 3) := by decide +kernel
theorem dX2_setBase_4 : decode cX2_setBase 4 = .ok (.iload_n 1, 1) := by decide +kernel
theorem dX2_setBase_5 : decode cX2_setBase 5 = .ok (.iaload, 1) := by decide +kernel
theorem dX2_setBase_6 : decode cX2_setBase 6 = .ok (.istore_n 3, 1) := by decide +kernel
theorem dX2_setBase_7 : decode cX2_setBase 7 = .ok (.aload_n 0, 1) := by decide +kernel
theorem dX2_setBase_8 : decode cX2_setBase 8 = .ok (.getfield 15, 3) := by decide +kernel
theorem dX2_setBase_11 : decode cX2_setBase 11 = .ok (.iload_n 1, 1) := by decide +kernel
theorem dX2_setBase_12 : decode cX2_setBase 12 = .ok (.iload_n 2, 1) := by decide +kernel
theorem dX2_setBase_13 : decode cX2_setBase 13 = .ok (.iastore, 1) := by decide +kernel
theorem dX2_setBase_14 : decode cX2_setBase 14 = .ok (.iload_n 3, 1) := by decide +kernel
theorem dX2_setBase_15 : decode cX2_setBase 15 = .ok (.ireturn, 1) := by decide +kernel
theorem dX2_benchFor_0 : decode cX2_benchFor 0 = .ok (.iconst 0, 1) := by decide +kernel
theorem dX2_benchFor_1 : decode cX2_benchFor 1 = .ok (.istore_n 2, 1) := by decide +kernel
theorem dX2_benchFor_2 : decode cX2_benchFor 2 = .ok (.iload_n 2, 1) := by decide +kernel
theorem dX2_benchFor_3 : decode cX2_benchFor 3 = .ok (.aload_n 0, 1) := by decide +kernel
theorem dX2_benchFor_4 : decode cX2_benchFor 4 = .ok (.getfield 38, 3) := by decide +kernel
theorem dX2_benchFor_7 : decode cX2_benchFor 7 = .ok (.if_icmp .ge 24, 3) := by decide +kernel
theorem dX2_benchFor_10 : decode cX2_benchFor 10 = .ok (.aload_n 0, 1) := by decide +kernel
theorem dX2_benchFor_11 : decode cX2_benchFor 11 = .ok (.getfield 11, 3) := by decide +kernel
theorem dX2_benchFor_14 : decode cX2_benchFor 14 = .ok (.iload_n 2, 1) := by decide +kernel
theorem dX2_benchFor_15 : decode cX2_benchFor 15 = .ok (.iaload, 1) := by decide +kernel
theorem dX2_benchFor_16 : decode cX2_benchFor 16 = .ok (.iload_n 1, 1) := by decide +kernel
theorem dX2_benchFor_17 : decode cX2_benchFor 17 = .ok (.ishr, 1) := by decide +kernel
theorem dX2_benchFor_18 : decode cX2_benchFor 18 = .ok (.iconst 1, 1) := by decide +kernel
theorem dX2_benchFor_19 : decode cX2_benchFor 19 = .ok (.iand, 1) := by decide +kernel
theorem dX2_benchFor_20 : decode cX2_benchFor 20 = .ok (.ifCond .ne 5, 3) := by decide +kernel
theorem dX2_benchFor_23 : decode cX2_benchFor 23 = .ok (.iload_n 2, 1) := by decide +kernel
theorem dX2_benchFor_24 : decode cX2_benchFor 24 = .ok (.ireturn, 1) := by decide +kernel
theorem dX2_benchFor_25 : decode cX2_benchFor 25 = .ok (.iinc 2 1, 3) := by decide +kernel
theorem dX2_benchFor_28 : decode cX2_benchFor 28 = .ok (.goto (-26), 3) := by decide +kernel
theorem dX2_benchFor_31 : decode cX2_benchFor 31 = .ok (.bipush (-9), 2) := by decide +kernel
theorem dX2_benchFor_33 : decode cX2_benchFor 33 = .ok (.ireturn, 1) := by decide +kernel
theorem dX2_addCase_0 : decode cX2_addCase 0 = .ok (.aload_n 0, 1) := by decide +kernel
theorem dX2_addCase_1 : decode cX2_addCase 1 = .ok (.getfield 34, 3) := by decide +kernel
theorem dX2_addCase_4 : decode cX2_addCase 4 = .ok (.bipush 20, 2) := by decide +kernel
theorem dX2_addCase_6 : decode cX2_addCase 6 = .ok (.if_icmp .ne 6, 3) := by decide +kernel
theorem dX2_addCase_9 : decode cX2_addCase 9 = .ok (.bipush (-3), 2) := by decide +kernel
theorem dX2_addCase_11 : decode cX2_addCase 11 = .ok (.ireturn, 1) := by decide +kernel
theorem dX2_addCase_12 : decode cX2_addCase 12 = .ok (.aload_n 0, 1) := by decide +kernel
theorem dX2_addCase_13 : decode cX2_addCase 13 = .ok (.getfield 21, 3) := by decide +kernel
theorem dX2_addCase_16 : decode cX2_addCase 16 = .ok (.aload_n 0, 1) := by decide +kernel
theorem dX2_addCase_17 : decode cX2_addCase 17 = .ok (.getfield 34, 3) := by decide +kernel
theorem dX2_addCase_20 : decode cX2_addCase 20 = .ok (.iload_n 1, 1) := by decide +kernel
theorem dX2_addCase_21 : decode cX2_addCase 21 = .ok (.iastore, 1) := by decide +kernel
theorem dX2_addCase_22 : decode cX2_addCase 22 = .ok (.aload_n 0, 1) := by decide +kernel
theorem dX2_addCase_23 : decode cX2_addCase 23 = .ok (.getfield 31, 3) := by decide +kernel
theorem dX2_addCase_26 : decode cX2_addCase 26 = .ok (.aload_n 0, 1) := by decide +kernel
theorem dX2_addCase_27 : decode cX2_addCase 27 = .ok (.getfield 34, 3) := by decide +kernel
theorem dX2_addCase_30 : decode cX2_addCase 30 = .ok (.iload_n 2, 1) := by decide +kernel
theorem dX2_addCase_31 : decode cX2_addCase 31 = .ok (.iastore, 1) := by decide +kernel
theorem dX2_addCase_32 : decode cX2_addCase 32 = .ok (.aload_n 0, 1) := by decide +kernel
theorem dX2_addCase_33 : decode cX2_addCase 33 = .ok (.getfield 24, 3) := by decide +kernel
