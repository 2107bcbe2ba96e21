theorem dJ6_bitCount_0f7a4_0 : decode cJ6_bitCount_0f7a4 0 = .ok (.iload_n 0, 1) := by decide +kernel
theorem dJ6_bitCount_0f7a4_1 : decode cJ6_bitCount_0f7a4 1 = .ok (.iload_n 0, 1) := by decide +kernel
theorem dJ6_bitCount_0f7a4_2 : decode cJ6_bitCount_0f7a4 2 = .ok (.iconst 1, 1) := by decide +kernel
theorem dJ6_bitCount_0f7a4_3 : decode cJ6_bitCount_0f7a4 3 = .ok (.iushr, 1) := by decide +kernel
theorem dJ6_bitCount_0f7a4_4 : decode cJ6_bitCount_0f7a4 4 = .ok (.ldc_w 265, 3) := by decide +kernel
theorem dJ6_bitCount_0f7a4_7 : decode cJ6_bitCount_0f7a4 7 = .ok (.iand, 1) := by decide +kernel
theorem dJ6_bitCount_0f7a4_8 : decode cJ6_bitCount_0f7a4 8 = .ok (.isub, 1) := by decide +kernel
theorem dJ6_bitCount_0f7a4_9 : decode cJ6_bitCount_0f7a4 9 = .ok (.istore_n 0, 1) := by decide +kernel
theorem dJ6_bitCount_0f7a4_10 : decode cJ6_bitCount_0f7a4 10 = .ok (.iload_n 0, 1) := by decide +kernel
theorem dJ6_bitCount_0f7a4_11 : decode cJ6_bitCount_0f7a4 11 = .ok (.ldc_w 266, 3) := by decide +kernel
theorem dJ6_bitCount_0f7a4_14 : decode cJ6_bitCount_0f7a4 14 = .ok (.iand, 1) := by decide +kernel
theorem dJ6_bitCount_0f7a4_15 : decode cJ6_bitCount_0f7a4 15 = .ok (.iload_n 0, 1) := by decide +kernel
theorem dJ6_bitCount_0f7a4_16 : decode cJ6_bitCount_0f7a4 16 = .ok (.iconst 2, 1) := by decide +kernel
theorem dJ6_bitCount_0f7a4_17 : decode cJ6_bitCount_0f7a4 17 = .ok (.iushr, 1) := by decide +kernel
theorem dJ6_bitCount_0f7a4_18 : decode cJ6_bitCount_0f7a4 18 = .ok (.ldc_w 266, 3) := by decide +kernel
theorem dJ6_bitCount_0f7a4_21 : decode cJ6_bitCount_0f7a4 21 = .ok (.iand, 1) := by decide +kernel
theorem dJ6_bitCount_0f7a4_22 : decode cJ6_bitCount_0f7a4 22 = .ok (.iadd, 1) := by decide +kernel
theorem dJ6_bitCount_0f7a4_23 : decode cJ6_bitCount_0f7a4 23 = .ok (.istore_n 0, 1) := by decide +kernel
theorem dJ6_bitCount_0f7a4_24 : decode cJ6_bitCount_0f7a4 24 = .ok (.iload_n 0, 1) := by decide +kernel
theorem dJ6_bitCount_0f7a4_25 : decode cJ6_bitCount_0f7a4 25 = .ok (.iload_n 0, 1) := by decide +kernel
theorem dJ6_bitCount_0f7a4_26 : decode cJ6_bitCount_0f7a4 26 = .ok (.iconst 4, 1) := by decide +kernel
theorem dJ6_bitCount_0f7a4_27 : decode cJ6_bitCount_0f7a4 27 = .ok (.iushr, 1) := by decide +kernel
theorem dJ6_bitCount_0f7a4_28 : decode cJ6_bitCount_0f7a4 28 = .ok (.iadd, 1) := by decide +kernel
theorem dJ6_bitCount_0f7a4_29 : decode cJ6_bitCount_0f7a4 29 = .ok (.ldc_w 267, 3) := by decide +kernel
theorem dJ6_bitCount_0f7a4_32 : decode cJ6_bitCount_0f7a4 32 = .ok (.iand, 1) := by decide +kernel
theorem dJ6_bitCount_0f7a4_33 : decode cJ6_bitCount_0f7a4 33 = .ok (.istore_n 0, 1) := by decide +kernel
theorem dJ6_bitCount_0f7a4_34 : decode cJ6_bitCount_0f7a4 34 = .ok (.iload_n 0, 1) := by decide +kernel
theorem dJ6_bitCount_0f7a4_35 : decode cJ6_bitCount_0f7a4 35 = .ok (.iload_n 0, 1) := by decide +kernel
theorem dJ6_bitCount_0f7a4_36 : decode cJ6_bitCount_0f7a4 36 = .ok (.bipush 8, 2) := by decide +kernel
theorem dJ6_bitCount_0f7a4_38 : decode cJ6_bitCount_0f7a4 38 = .ok (.iushr, 1) := by decide +kernel
theorem dJ6_bitCount_0f7a4_39 : decode cJ6_bitCount_0f7a4 39 = .ok (.iadd, 1) := by decide +kernel
theorem dJ6_bitCount_0f7a4_40 : decode cJ6_bitCount_0f7a4 40 = .ok (.istore_n 0, 1) := by decide +kernel
theorem dJ6_bitCount_0f7a4_41 : decode cJ6_bitCount_0f7a4 41 = .ok (.iload_n 0, 1) := by decide +kernel
theorem dJ6_bitCount_0f7a4_42 : decode cJ6_bitCount_0f7a4 42 = .ok (.iload_n 0, 1) := by decide +kernel
theorem dJ6_bitCount_0f7a4_43 : decode cJ6_bitCount_0f7a4 43 = .ok (.bipush 16, 2) := by decide +kernel
theorem dJ6_bitCount_0f7a4_45 : decode cJ6_bitCount_0f7a4 45 = .ok (.iushr, 1) := by decide +kernel
theorem dJ6_bitCount_0f7a4_46 : decode cJ6_bitCount_0f7a4 46 = .ok (.iadd, 1) := by decide +kernel
theorem dJ6_bitCount_0f7a4_47 : decode cJ6_bitCount_0f7a4 47 = .ok (.istore_n 0, 1) := by decide +kernel
theorem dJ6_bitCount_0f7a4_48 : decode cJ6_bitCount_0f7a4 48 = .ok (.iload_n 0, 1) := by decide +kernel
theorem dJ6_bitCount_0f7a4_49 : decode cJ6_bitCount_0f7a4 49 = .ok (.bipush 63, 2) := by decide +kernel
theorem dJ6_bitCount_0f7a4_51 : decode cJ6_bitCount_0f7a4 51 = .ok (.iand, 1) := by decide +kernel
theorem dJ6_bitCount_0f7a4_52 : decode cJ6_bitCount_0f7a4 52 = .ok (.ireturn, 1) := by decide +kernel
theorem dJ9_abs_067f4_0 : decode cJ9_abs_067f4 0 = .ok (.lload_n 0, 1) := by decide +kernel
theorem dJ9_abs_067f4_1 : decode cJ9_abs_067f4 1 = .ok (.lconst 0, 1) := by decide +kernel
theorem dJ9_abs_067f4_2 : decode cJ9_abs_067f4 2 = .ok (.lcmp, 1) := by decide +kernel
theorem dJ9_abs_067f4_3 : decode cJ9_abs_067f4 3 = .ok (.ifCond .ge 8, 3) := by decide +kernel
theorem dJ9_abs_067f4_6 : decode cJ9_abs_067f4 6 = .ok (.lload_n 0, 1) := by decide +kernel
theorem dJ9_abs_067f4_7 : decode cJ9_abs_067f4 7 = .ok (.lneg, 1) := by decide +kernel
theorem dJ9_abs_067f4_8 : decode cJ9_abs_067f4 8 = .ok (.goto 4, 3) := by decide +kernel
theorem dJ9_abs_067f4_11 : decode cJ9_abs_067f4 11 = .ok (.lload_n 0, 1) := by decide +kernel
theorem dJ9_abs_067f4_12 : decode cJ9_abs_067f4 12 = .ok (.lreturn, 1) := by decide +kernel
theorem dJ9_max_7cf53_0 : decode cJ9_max_7cf53 0 = .ok (.iload_n 0, 1) := by decide +kernel
theorem dJ9_max_7cf53_1 : decode cJ9_max_7cf53 1 = .ok (.iload_n 1, 1) := by decide +kernel
theorem dJ9_max_7cf53_2 : decode cJ9_max_7cf53 2 = .ok (.if_icmp .lt 7, 3) := by decide +kernel
theorem dJ9_max_7cf53_5 : decode cJ9_max_7cf53 5 = .ok (.iload_n 0, 1) := by decide +kernel
theorem dJ9_max_7cf53_6 : decode cJ9_max_7cf53 6 = .ok (.goto 4, 3) := by decide +kernel
theorem dJ9_max_7cf53_9 : decode cJ9_max_7cf53 9 = .ok (.iload_n 1, 1) := by decide +kernel
theorem dJ9_max_7cf53_10 : decode cJ9_max_7cf53 10 = .ok (.ireturn, 1) := by decide +kernel
theorem dJ9_max_f86c9_0 : decode cJ9_max_f86c9 0 = .ok (.lload_n 0, 1) := by decide +kernel
theorem dJ9_max_f86c9_1 : decode cJ9_max_f86c9 1 = .ok (.lload_n 2, 1) := by decide +kernel
theorem dJ9_max_f86c9_2 : decode cJ9_max_f86c9 2 = .ok (.lcmp, 1) := by decide +kernel
theorem dJ9_max_f86c9_3 : decode cJ9_max_f86c9 3 = .ok (.ifCond .lt 7, 3) := by decide +kernel
theorem dJ9_max_f86c9_6 : decode cJ9_max_f86c9 6 = .ok (.lload_n 0, 1) := by decide +kernel
theorem dJ9_max_f86c9_7 : decode cJ9_max_f86c9 7 = .ok (.goto 4, 3) := by decide +kernel
theorem dJ9_max_f86c9_10 : decode cJ9_max_f86c9 10 = .ok (.lload_n 2, 1) := by decide +kernel
theorem dJ9_max_f86c9_11 : decode cJ9_max_f86c9 11 = .ok (.lreturn, 1) := by decide +kernel
theorem dJ9_min_7cf53_0 : decode cJ9_min_7cf53 0 = .ok (.iload_n 0, 1) := by decide +kernel
theorem dJ9_min_7cf53_1 : decode cJ9_min_7cf53 1 = .ok (.iload_n 1, 1) := by decide +kernel
theorem dJ9_min_7cf53_2 : decode cJ9_min_7cf53 2 = .ok (.if_icmp .gt 7, 3) := by decide +kernel
theorem dJ9_min_7cf53_5 : decode cJ9_min_7cf53 5 = .ok (.iload_n 0, 1) := by decide +kernel
theorem dJ9_min_7cf53_6 : decode cJ9_min_7cf53 6 = .ok (.goto 4, 3) := by decide +kernel
theorem dJ9_min_7cf53_9 : decode cJ9_min_7cf53 9 = .ok (.iload_n 1, 1) := by decide +kernel
theorem dJ9_min_7cf53_10 : decode cJ9_min_7cf53 10 = .ok (.ireturn, 1) := by decide +kernel
theorem dJ9_min_f86c9_0 : decode cJ9_min_f86c9 0 = .ok (.lload_n 0, 1) := by decide +kernel
theorem dJ9_min_f86c9_1 : decode cJ9_min_f86c9 1 = .ok (.lload_n 2, 1) := by decide +kernel
theorem dJ9_min_f86c9_2 : decode cJ9_min_f86c9 2 = .ok (.lcmp, 1) := by decide +kernel
theorem dJ9_min_f86c9_3 : decode cJ9_min_f86c9 3 = .ok (.ifCond .gt 7, 3) := by decide +kernel
theorem dJ9_min_f86c9_6 : decode cJ9_min_f86c9 6 = .ok (.lload_n 0, 1) := by decide +kernel
theorem dJ9_min_f86c9_7 : decode cJ9_min_f86c9 7 = .ok (.goto 4, 3) := by decide +kernel
theorem dJ9_min_f86c9_10 : decode cJ9_min_f86c9 10 = .ok (.lload_n 2, 1) := by decide +kernel
theorem dJ9_min_f86c9_11 : decode cJ9_min_f86c9 11 = .ok (.lreturn, 1) := by decide +kernel
theorem dJ0_length_8abf5_0 : decode cJ0_length_8abf5 0 = .ok (.aload_n 0, 1) := by decide +kernel
theorem dJ0_length_8abf5_1 : decode cJ0_length_8abf5 1 = .ok (.getfield 9, 3) := by decide +kernel
theorem dJ0_length_8abf5_4 : decode cJ0_length_8abf5 4 = .ok (.arraylength, 1) := by decide +kernel
theorem dJ0_length_8abf5_5 : decode cJ0_length_8abf5 5 = .ok (.aload_n 0, 1) := by decide +kernel
theorem dJ0_length_8abf5_6 : decode cJ0_length_8abf5 6 = .ok (.invokevirtual 335, 3) := by decide +kernel
theorem dJ0_length_8abf5_9 : decode cJ0_length_8abf5 9 = .ok (.ishr, 1) := by decide +kernel
theorem dJ0_length_8abf5_10 : decode cJ0_length_8abf5 10 = .ok (.ireturn, 1) := by decide +kernel
theorem dJ0_charAt_5068e_0 : decode cJ0_charAt_5068e 0 = .ok (.aload_n 0, 1) := by decide +kernel
theorem dJ0_charAt_5068e_1 : decode cJ0_charAt_5068e 1 = .ok (.invokevirtual 492, 3) := by decide +kernel
theorem dJ0_charAt_5068e_4 : decode cJ0_charAt_5068e 4 = .ok (.ifCond .eq 12, 3) := by decide +kernel
theorem dJ0_charAt_5068e_7 : decode cJ0_charAt_5068e 7 = .ok (.aload_n 0, 1) := by decide +kernel
theorem dJ0_charAt_5068e_8 : decode cJ0_charAt_5068e 8 = .ok (.getfield 9, 3) := by decide +kernel
theorem dJ0_charAt_5068e_11 : decode cJ0_charAt_5068e 11 = .ok (.iload_n 1, 1) := by decide +kernel
theorem dJ0_charAt_5068e_12 : decode cJ0_charAt_5068e 12 = .ok (.invokestatic 495, 3) := by decide +kernel
theorem dJ0_charAt_5068e_15 : decode cJ0_charAt_5068e 15 = .ok (.ireturn, 1) := by decide +kernel
theorem dJ0_charAt_5068e_16 : decode cJ0_charAt_5068e 16 = .ok (.aload_n 0, 1) := by decide +kernel
theorem dJ0_charAt_5068e_17 : decode cJ0_charAt_5068e 17 = .ok (.getfield 9, 3) := by decide +kernel
theorem dJ0_charAt_5068e_20 : decode cJ0_charAt_5068e 20 = .ok (.iload_n 1, 1) := by decide +kernel
theorem dJ0_charAt_5068e_21 : decode cJ0_charAt_5068e 21 = .ok (.invokestatic 498, 3) := by decide +kernel
theorem dJ0_charAt_5068e_24 : decode cJ0_charAt_5068e 24 = .ok (.ireturn, 1) := by decide +kernel
theorem dJ0_coder_7d493_0 : decode cJ0_coder_7d493 0 = .ok (.getstatic 38, 3) := by decide +kernel
theorem dJ0_coder_7d493_3 : decode cJ0_coder_7d493 3 = .ok (.ifCond .eq 10, 3) := by decide +kernel
theorem dJ0_coder_7d493_6 : decode cJ0_coder_7d493 6 = .ok (.aload_n 0, 1) := by decide +kernel
theorem dJ0_coder_7d493_7 : decode cJ0_coder_7d493 7 = .ok (.getfield 15, 3) := by decide +kernel
theorem dJ0_coder_7d493_10 : decode cJ0_coder_7d493 10 = .ok (.goto 4, 3) := by decide +kernel
theorem dJ0_coder_7d493_13 : decode cJ0_coder_7d493 13 = .ok (.iconst 1, 1) := by decide +kernel
theorem dJ0_coder_7d493_14 : decode cJ0_coder_7d493 14 = .ok (.ireturn, 1) := by decide +kernel
theorem dJ0_isLatin1_aae02_0 : decode cJ0_isLatin1_aae02 0 = .ok (.getstatic 38, 3) := by decide +kernel
theorem dJ0_isLatin1_aae02_3 : decode cJ0_isLatin1_aae02 3 = .ok (.ifCond .eq 14, 3) := by decide +kernel
theorem dJ0_isLatin1_aae02_6 : decode cJ0_isLatin1_aae02 6 = .ok (.aload_n 0, 1) := by decide +kernel
theorem dJ0_isLatin1_aae02_7 : decode cJ0_isLatin1_aae02 7 = .ok (.getfield 15, 3) := by decide +kernel
theorem dJ0_isLatin1_aae02_10 : decode cJ0_isLatin1_aae02 10 = .ok (.ifCond .ne 7, 3) := by decide +kernel
theorem dJ0_isLatin1_aae02_13 : decode cJ0_isLatin1_aae02 13 = .ok (.iconst 1, 1) := by decide +kernel
theorem dJ0_isLatin1_aae02_14 : decode cJ0_isLatin1_aae02 14 = .ok (.goto 4, 3) := by decide +kernel
theorem dJ0_isLatin1_aae02_17 : decode cJ0_isLatin1_aae02 17 = .ok (.iconst 0, 1) := by decide +kernel
theorem dJ0_isLatin1_aae02_18 : decode cJ0_isLatin1_aae02 18 = .ok (.ireturn, 1) := by decide +kernel
theorem dJ0_checkIndex_df160_0 : decode cJ0_checkIndex_df160 0 = .ok (.iload_n 0, 1) := by decide +kernel
theorem dJ0_checkIndex_df160_1 : decode cJ0_checkIndex_df160 1 = .ok (.iload_n 1, 1) := by decide +kernel
theorem dJ0_checkIndex_df160_2 : decode cJ0_checkIndex_df160 2 = .ok (.getstatic 1053, 3) := by decide +kernel
theorem dJ0_checkIndex_df160_5 : decode cJ0_checkIndex_df160 5 = .ok (.invokestatic 1059, 3) := by decide +kernel
theorem dJ0_checkIndex_df160_8 : decode cJ0_checkIndex_df160 8 = .ok (.pop, 1) := by decide +kernel
theorem dJ0_checkIndex_df160_9 : decode cJ0_checkIndex_df160 9 = .ok (.return_, 1) := by decide +kernel
theorem dJ1_charAt_3b067_0 : decode cJ1_charAt_3b067 0 = .ok (.iload_n 1, 1) := by decide +kernel
theorem dJ1_charAt_3b067_1 : decode cJ1_charAt_3b067 1 = .ok (.aload_n 0, 1) := by decide +kernel
theorem dJ1_charAt_3b067_2 : decode cJ1_charAt_3b067 2 = .ok (.arraylength, 1) := by decide +kernel
theorem dJ1_charAt_3b067_3 : decode cJ1_charAt_3b067 3 = .ok (.invokestatic 9, 3) := by decide +kernel
theorem dJ1_charAt_3b067_6 : decode cJ1_charAt_3b067 6 = .ok (.aload_n 0, 1) := by decide +kernel
theorem dJ1_charAt_3b067_7 : decode cJ1_charAt_3b067 7 = .ok (.iload_n 1, 1) := by decide +kernel
theorem dJ1_charAt_3b067_8 : decode cJ1_charAt_3b067 8 = .ok (.baload, 1) := by decide +kernel
theorem dJ1_charAt_3b067_9 : decode cJ1_charAt_3b067 9 = .ok (.sipush 255, 3) := by decide +kernel
theorem dJ1_charAt_3b067_12 : decode cJ1_charAt_3b067 12 = .ok (.iand, 1) := by decide +kernel
theorem dJ1_charAt_3b067_13 : decode cJ1_charAt_3b067 13 = .ok (.i2c, 1) := by decide +kernel
theorem dJ1_charAt_3b067_14 : decode cJ1_charAt_3b067 14 = .ok (.ireturn, 1) := by decide +kernel
theorem dJ2_getChar_3b067_0 : decode cJ2_getChar_3b067 0 = .ok (.getstatic 44, 3) := by decide +kernel
theorem dJ2_getChar_3b067_3 : decode cJ2_getChar_3b067 3 = .ok (.ifCond .ne 25, 3) := by decide +kernel
theorem dJ2_getChar_3b067_6 : decode cJ2_getChar_3b067 6 = .ok (.iload_n 1, 1) := by decide +kernel
theorem dJ2_getChar_3b067_7 : decode cJ2_getChar_3b067 7 = .ok (.ifCond .lt 11, 3) := by decide +kernel
theorem dJ2_getChar_3b067_10 : decode cJ2_getChar_3b067 10 = .ok (.iload_n 1, 1) := by decide +kernel
theorem dJ2_getChar_3b067_11 : decode cJ2_getChar_3b067 11 = .ok (.aload_n 0, 1) := by decide +kernel
theorem dJ2_getChar_3b067_12 : decode cJ2_getChar_3b067 12 = .ok (.invokestatic 48, 3) := by decide +kernel
theorem dJ2_getChar_3b067_15 : decode cJ2_getChar_3b067 15 = .ok (.if_icmp .lt 13, 3) := by decide +kernel
theorem dJ2_getChar_3b067_18 : decode cJ2_getChar_3b067 18 = .ok (.new 52, 3) := by decide +kernel
theorem dJ2_getChar_3b067_21 : decode cJ2_getChar_3b067 21 = .ok (.dup, 1) := by decide +kernel
theorem dJ2_getChar_3b067_22 : decode cJ2_getChar_3b067 22 = .ok (.ldc 54, 2) := by decide +kernel
theorem dJ2_getChar_3b067_24 : decode cJ2_getChar_3b067 24 = .ok (.invokespecial 56, 3) := by decide +kernel
theorem dJ2_getChar_3b067_27 : decode cJ2_getChar_3b067 27 = .ok (.athrow, 1) := by decide +kernel
theorem dJ2_getChar_3b067_28 : decode cJ2_getChar_3b067 28 = .ok (.iload_n 1, 1) := by decide +kernel
theorem dJ2_getChar_3b067_29 : decode cJ2_getChar_3b067 29 = .ok (.iconst 1, 1) := by decide +kernel
theorem dJ2_getChar_3b067_30 : decode cJ2_getChar_3b067 30 = .ok (.ishl, 1) := by decide +kernel
theorem dJ2_getChar_3b067_31 : decode cJ2_getChar_3b067 31 = .ok (.istore_n 1, 1) := by decide +kernel
theorem dJ2_getChar_3b067_32 : decode cJ2_getChar_3b067 32 = .ok (.aload_n 0, 1) := by decide +kernel
theorem dJ2_getChar_3b067_33 : decode cJ2_getChar_3b067 33 = .ok (.iload_n 1, 1) := by decide +kernel
theorem dJ2_getChar_3b067_34 : decode cJ2_getChar_3b067 34 = .ok (.iinc 1 1, 3) := by decide +kernel
theorem dJ2_getChar_3b067_37 : decode cJ2_getChar_3b067 37 = .ok (.baload, 1) := by decide +kernel
theorem dJ2_getChar_3b067_38 : decode cJ2_getChar_3b067 38 = .ok (.sipush 255, 3) := by decide +kernel
theorem dJ2_getChar_3b067_41 : decode cJ2_getChar_3b067 41 = .ok (.iand, 1) := by decide +kernel
theorem dJ2_getChar_3b067_42 : decode cJ2_getChar_3b067 42 = .ok (.getstatic 59, 3) := by decide +kernel
theorem dJ2_getChar_3b067_45 : decode cJ2_getChar_3b067 45 = .ok (.ishl, 1) := by decide +kernel
theorem dJ2_getChar_3b067_46 : decode cJ2_getChar_3b067 46 = .ok (.aload_n 0, 1) := by decide +kernel
theorem dJ2_getChar_3b067_47 : decode cJ2_getChar_3b067 47 = .ok (.iload_n 1, 1) := by decide +kernel
theorem dJ2_getChar_3b067_48 : decode cJ2_getChar_3b067 48 = .ok (.baload, 1) := by decide +kernel
theorem dJ2_getChar_3b067_49 : decode cJ2_getChar_3b067 49 = .ok (.sipush 255, 3) := by decide +kernel
theorem dJ2_getChar_3b067_52 : decode cJ2_getChar_3b067 52 = .ok (.iand, 1) := by decide +kernel
theorem dJ2_getChar_3b067_53 : decode cJ2_getChar_3b067 53 = .ok (.getstatic 63, 3) := by decide +kernel
theorem dJ2_getChar_3b067_56 : decode cJ2_getChar_3b067 56 = .ok (.ishl, 1) := by decide +kernel
theorem dJ2_getChar_3b067_57 : decode cJ2_getChar_3b067 57 = .ok (.ior, 1) := by decide +kernel
theorem dJ2_getChar_3b067_58 : decode cJ2_getChar_3b067 58 = .ok (.i2c, 1) := by decide +kernel
theorem dJ2_getChar_3b067_59 : decode cJ2_getChar_3b067 59 = .ok (.ireturn, 1) := by decide +kernel
theorem dJ2_length_9d52b_0 : decode cJ2_length_9d52b 0 = .ok (.aload_n 0, 1) := by decide +kernel
theorem dJ2_length_9d52b_1 : decode cJ2_length_9d52b 1 = .ok (.arraylength, 1) := by decide +kernel
theorem dJ2_length_9d52b_2 : decode cJ2_length_9d52b 2 = .ok (.iconst 1, 1) := by decide +kernel
theorem dJ2_length_9d52b_3 : decode cJ2_length_9d52b 3 = .ok (.ishr, 1) := by decide +kernel
theorem dJ2_length_9d52b_4 : decode cJ2_length_9d52b 4 = .ok (.ireturn, 1) := by decide +kernel
theorem dJ2_charAt_3b067_0 : decode cJ2_charAt_3b067 0 = .ok (.iload_n 1, 1) := by decide +kernel
theorem dJ2_charAt_3b067_1 : decode cJ2_charAt_3b067 1 = .ok (.aload_n 0, 1) := by decide +kernel
theorem dJ2_charAt_3b067_2 : decode cJ2_charAt_3b067 2 = .ok (.invokestatic 67, 3) := by decide +kernel
theorem dJ2_charAt_3b067_5 : decode cJ2_charAt_3b067 5 = .ok (.aload_n 0, 1) := by decide +kernel
theorem dJ2_charAt_3b067_6 : decode cJ2_charAt_3b067 6 = .ok (.iload_n 1, 1) := by decide +kernel
theorem dJ2_charAt_3b067_7 : decode cJ2_charAt_3b067 7 = .ok (.invokestatic 71, 3) := by decide +kernel
theorem dJ2_charAt_3b067_10 : decode cJ2_charAt_3b067 10 = .ok (.ireturn, 1) := by decide +kernel
theorem dJ2_checkIndex_2214a_0 : decode cJ2_checkIndex_2214a 0 = .ok (.iload_n 0, 1) := by decide +kernel
theorem dJ2_checkIndex_2214a_1 : decode cJ2_checkIndex_2214a 1 = .ok (.aload_n 1, 1) := by decide +kernel
theorem dJ2_checkIndex_2214a_2 : decode cJ2_checkIndex_2214a 2 = .ok (.invokestatic 48, 3) := by decide +kernel
theorem dJ2_checkIndex_2214a_5 : decode cJ2_checkIndex_2214a 5 = .ok (.invokestatic 414, 3) := by decide +kernel
theorem dJ2_checkIndex_2214a_8 : decode cJ2_checkIndex_2214a 8 = .ok (.return_, 1) := by decide +kernel
theorem dJxa1e45_init_da8c8_0 : decode cJxa1e45_init_da8c8 0 = .ok (.aload_n 0, 1) := by decide +kernel
theorem dJxa1e45_init_da8c8_1 : decode cJxa1e45_init_da8c8 1 = .ok (.invokespecial 1, 3) := by decide +kernel
theorem dJxa1e45_init_da8c8_4 : decode cJxa1e45_init_da8c8 4 = .ok (.return_, 1) := by decide +kernel
theorem dJxc12de_init_da8c8_0 : decode cJxc12de_init_da8c8 0 = .ok (.aload_n 0, 1) := by decide +kernel
theorem dJxc12de_init_da8c8_1 : decode cJxc12de_init_da8c8 1 = .ok (.invokespecial 1, 3) := by decide +kernel
theorem dJxc12de_init_da8c8_4 : decode cJxc12de_init_da8c8 4 = .ok (.aload_n 0, 1) := by decide +kernel
theorem dJxc12de_init_da8c8_5 : decode cJxc12de_init_da8c8 5 = .ok (.iconst 0, 1) := by decide +kernel
theorem dJxc12de_init_da8c8_6 : decode cJxc12de_init_da8c8 6 = .ok (.putfield 7, 3) := by decide +kernel
theorem dJxc12de_init_da8c8_9 : decode cJxc12de_init_da8c8 9 = .ok (.return_, 1) := by decide +kernel
theorem dJx4a65c_init_da8c8_0 : decode cJx4a65c_init_da8c8 0 = .ok (.aload_n 0, 1) := by decide +kernel
theorem dJx4a65c_init_da8c8_1 : decode cJx4a65c_init_da8c8 1 = .ok (.invokespecial 1, 3) := by decide +kernel
theorem dJx4a65c_init_da8c8_4 : decode cJx4a65c_init_da8c8 4 = .ok (.aload_n 0, 1) := by decide +kernel
theorem dJx4a65c_init_da8c8_5 : decode cJx4a65c_init_da8c8 5 = .ok (.getstatic 39, 3) := by decide +kernel
theorem dJx4a65c_init_da8c8_8 : decode cJx4a65c_init_da8c8 8 = .ok (.putfield 9, 3) := by decide +kernel
theorem dJx4a65c_init_da8c8_11 : decode cJx4a65c_init_da8c8 11 = .ok (.return_, 1) := by decide +kernel
theorem dJx4a65c_grow_92f84_0 : decode cJx4a65c_grow_92f84 0 = .ok (.aload_n 0, 1) := by decide +kernel
theorem dJx4a65c_grow_92f84_1 : decode cJx4a65c_grow_92f84 1 = .ok (.getfield 9, 3) := by decide +kernel
theorem dJx4a65c_grow_92f84_4 : decode cJx4a65c_grow_92f84 4 = .ok (.arraylength, 1) := by decide +kernel
theorem dJx4a65c_grow_92f84_5 : decode cJx4a65c_grow_92f84 5 = .ok (.istore_n 2, 1) := by decide +kernel
theorem dJx4a65c_grow_92f84_6 : decode cJx4a65c_grow_92f84 6 = .ok (.iload_n 2, 1) := by decide +kernel
theorem dJx4a65c_grow_92f84_7 : decode cJx4a65c_grow_92f84 7 = .ok (.ifCond .gt 13, 3) := by decide +kernel
theorem dJx4a65c_grow_92f84_10 : decode cJx4a65c_grow_92f84 10 = .ok (.aload_n 0, 1) := by decide +kernel
theorem dJx4a65c_grow_92f84_11 : decode cJx4a65c_grow_92f84 11 = .ok (.getfield 9, 3) := by decide +kernel
theorem dJx4a65c_grow_92f84_14 : decode cJx4a65c_grow_92f84 14 = .ok (.getstatic 39, 3) := by decide +kernel
theorem dJx4a65c_grow_92f84_17 : decode cJx4a65c_grow_92f84 17 = .ok (.if_acmp .eq 28, 3) := by decide +kernel
theorem dJx4a65c_grow_92f84_20 : decode cJx4a65c_grow_92f84 20 = .ok (.iload_n 2, 1) := by decide +kernel
theorem dJx4a65c_grow_92f84_21 : decode cJx4a65c_grow_92f84 21 = .ok (.iload_n 1, 1) := by decide +kernel
theorem dJx4a65c_grow_92f84_22 : decode cJx4a65c_grow_92f84 22 = .ok (.iload_n 2, 1) := by decide +kernel
theorem dJx4a65c_grow_92f84_23 : decode cJx4a65c_grow_92f84 23 = .ok (.isub, 1) := by decide +kernel
theorem dJx4a65c_grow_92f84_24 : decode cJx4a65c_grow_92f84 24 = .ok (.iload_n 2, 1) := by decide +kernel
theorem dJx4a65c_grow_92f84_25 : decode cJx4a65c_grow_92f84 25 = .ok (.iconst 1, 1) := by decide +kernel
theorem dJx4a65c_grow_92f84_26 : decode cJx4a65c_grow_92f84 26 = .ok (.ishr, 1) := by decide +kernel
theorem dJx4a65c_grow_92f84_27 : decode cJx4a65c_grow_92f84 27 = .ok (.invokestatic 73, 3) := by decide +kernel
theorem dJx4a65c_grow_92f84_30 : decode cJx4a65c_grow_92f84 30 = .ok (.istore_n 3, 1) := by decide +kernel
theorem dJx4a65c_grow_92f84_31 : decode cJx4a65c_grow_92f84 31 = .ok (.aload_n 0, 1) := by decide +kernel
theorem dJx4a65c_grow_92f84_32 : decode cJx4a65c_grow_92f84 32 = .ok (.aload_n 0, 1) := by decide +kernel
theorem dJx4a65c_grow_92f84_33 : decode cJx4a65c_grow_92f84 33 = .ok (.getfield 9, 3) := by decide +kernel
theorem dJx4a65c_grow_92f84_36 : decode cJx4a65c_grow_92f84 36 = .ok (.iload_n 3, 1) := by decide +kernel
theorem dJx4a65c_grow_92f84_37 : decode cJx4a65c_grow_92f84 37 = .ok (.invokestatic 66, 3) := by decide +kernel
theorem dJx4a65c_grow_92f84_40 : decode cJx4a65c_grow_92f84 40 = .ok (.dup_x1, 1) := by decide +kernel
theorem dJx4a65c_grow_92f84_41 : decode cJx4a65c_grow_92f84 41 = .ok (.putfield 9, 3) := by decide +kernel
theorem dJx4a65c_grow_92f84_44 : decode cJx4a65c_grow_92f84 44 = .ok (.areturn, 1) := by decide +kernel
theorem dJx4a65c_grow_92f84_45 : decode cJx4a65c_grow_92f84 45 = .ok (.aload_n 0, 1) := by decide +kernel
theorem dJx4a65c_grow_92f84_46 : decode cJx4a65c_grow_92f84 46 = .ok (.bipush 10, 2) := by decide +kernel
theorem dJx4a65c_grow_92f84_48 : decode cJx4a65c_grow_92f84 48 = .ok (.iload_n 1, 1) := by decide +kernel
theorem dJx4a65c_grow_92f84_49 : decode cJx4a65c_grow_92f84 49 = .ok (.invokestatic 79, 3) := by decide +kernel
theorem dJx4a65c_grow_92f84_52 : decode cJx4a65c_grow_92f84 52 = .ok (.anewarray 7, 3) := by decide +kernel
theorem dJx4a65c_grow_92f84_55 : decode cJx4a65c_grow_92f84 55 = .ok (.dup_x1, 1) := by decide +kernel
theorem dJx4a65c_grow_92f84_56 : decode cJx4a65c_grow_92f84 56 = .ok (.putfield 9, 3) := by decide +kernel
theorem dJx4a65c_grow_92f84_59 : decode cJx4a65c_grow_92f84 59 = .ok (.areturn, 1) := by decide +kernel
theorem dJx4a65c_grow_d5877_0 : decode cJx4a65c_grow_d5877 0 = .ok (.aload_n 0, 1) := by decide +kernel
theorem dJx4a65c_grow_d5877_1 : decode cJx4a65c_grow_d5877 1 = .ok (.aload_n 0, 1) := by decide +kernel
theorem dJx4a65c_grow_d5877_2 : decode cJx4a65c_grow_d5877 2 = .ok (.getfield 48, 3) := by decide +kernel
theorem dJx4a65c_grow_d5877_5 : decode cJx4a65c_grow_d5877 5 = .ok (.iconst 1, 1) := by decide +kernel
theorem dJx4a65c_grow_d5877_6 : decode cJx4a65c_grow_d5877 6 = .ok (.iadd, 1) := by decide +kernel
theorem dJx4a65c_grow_d5877_7 : decode cJx4a65c_grow_d5877 7 = .ok (.invokevirtual 69, 3) := by decide +kernel
theorem dJx4a65c_grow_d5877_10 : decode cJx4a65c_grow_d5877 10 = .ok (.areturn, 1) := by decide +kernel
theorem dJx4a65c_size_8abf5_0 : decode cJx4a65c_size_8abf5 0 = .ok (.aload_n 0, 1) := by decide +kernel
theorem dJx4a65c_size_8abf5_1 : decode cJx4a65c_size_8abf5 1 = .ok (.getfield 48, 3) := by decide +kernel
theorem dJx4a65c_size_8abf5_4 : decode cJx4a65c_size_8abf5 4 = .ok (.ireturn, 1) := by decide +kernel
theorem dJx4a65c_elementData_915e3_0 : decode cJx4a65c_elementData_915e3 0 = .ok (.aload_n 0, 1) := by decide +kernel
theorem dJx4a65c_elementData_915e3_1 : decode cJx4a65c_elementData_915e3 1 = .ok (.getfield 9, 3) := by decide +kernel
theorem dJx4a65c_elementData_915e3_4 : decode cJx4a65c_elementData_915e3 4 = .ok (.iload_n 1, 1) := by decide +kernel
theorem dJx4a65c_elementData_915e3_5 : decode cJx4a65c_elementData_915e3 5 = .ok (.aaload, 1) := by decide +kernel
theorem dJx4a65c_elementData_915e3_6 : decode cJx4a65c_elementData_915e3 6 = .ok (.areturn, 1) := by decide +kernel
theorem dJx4a65c_get_915e3_0 : decode cJx4a65c_get_915e3 0 = .ok (.iload_n 1, 1) := by decide +kernel
theorem dJx4a65c_get_915e3_1 : decode cJx4a65c_get_915e3 1 = .ok (.aload_n 0, 1) := by decide +kernel
theorem dJx4a65c_get_915e3_2 : decode cJx4a65c_get_915e3 2 = .ok (.getfield 48, 3) := by decide +kernel
theorem dJx4a65c_get_915e3_5 : decode cJx4a65c_get_915e3 5 = .ok (.invokestatic 118, 3) := by decide +kernel
theorem dJx4a65c_get_915e3_8 : decode cJx4a65c_get_915e3 8 = .ok (.pop, 1) := by decide +kernel
theorem dJx4a65c_get_915e3_9 : decode cJx4a65c_get_915e3 9 = .ok (.aload_n 0, 1) := by decide +kernel
theorem dJx4a65c_get_915e3_10 : decode cJx4a65c_get_915e3 10 = .ok (.iload_n 1, 1) := by decide +kernel
theorem dJx4a65c_get_915e3_11 : decode cJx4a65c_get_915e3 11 = .ok (.invokevirtual 123, 3) := by decide +kernel
theorem dJx4a65c_get_915e3_14 : decode cJx4a65c_get_915e3 14 = .ok (.areturn, 1) := by decide +kernel
theorem dJx4a65c_add_72be8_0 : decode cJx4a65c_add_72be8 0 = .ok (.iload_n 3, 1) := by decide +kernel
theorem dJx4a65c_add_72be8_1 : decode cJx4a65c_add_72be8 1 = .ok (.aload_n 2, 1) := by decide +kernel
theorem dJx4a65c_add_72be8_2 : decode cJx4a65c_add_72be8 2 = .ok (.arraylength, 1) := by decide +kernel
theorem dJx4a65c_add_72be8_3 : decode cJx4a65c_add_72be8 3 = .ok (.if_icmp .ne 8, 3) := by decide +kernel
theorem dJx4a65c_add_72be8_6 : decode cJx4a65c_add_72be8 6 = .ok (.aload_n 0, 1) := by decide +kernel
theorem dJx4a65c_add_72be8_7 : decode cJx4a65c_add_72be8 7 = .ok (.invokevirtual 129, 3) := by decide +kernel
theorem dJx4a65c_add_72be8_10 : decode cJx4a65c_add_72be8 10 = .ok (.astore_n 2, 1) := by decide +kernel
theorem dJx4a65c_add_72be8_11 : decode cJx4a65c_add_72be8 11 = .ok (.aload_n 2, 1) := by decide +kernel
theorem dJx4a65c_add_72be8_12 : decode cJx4a65c_add_72be8 12 = .ok (.iload_n 3, 1) := by decide +kernel
theorem dJx4a65c_add_72be8_13 : decode cJx4a65c_add_72be8 13 = .ok (.aload_n 1, 1) := by decide +kernel
theorem dJx4a65c_add_72be8_14 : decode cJx4a65c_add_72be8 14 = .ok (.aastore, 1) := by decide +kernel
theorem dJx4a65c_add_72be8_15 : decode cJx4a65c_add_72be8 15 = .ok (.aload_n 0, 1) := by decide +kernel
theorem dJx4a65c_add_72be8_16 : decode cJx4a65c_add_72be8 16 = .ok (.iload_n 3, 1) := by decide +kernel
theorem dJx4a65c_add_72be8_17 : decode cJx4a65c_add_72be8 17 = .ok (.iconst 1, 1) := by decide +kernel
theorem dJx4a65c_add_72be8_18 : decode cJx4a65c_add_72be8 18 = .ok (.iadd, 1) := by decide +kernel
theorem dJx4a65c_add_72be8_19 : decode cJx4a65c_add_72be8 19 = .ok (.putfield 48, 3) := by decide +kernel
theorem dJx4a65c_add_72be8_22 : decode cJx4a65c_add_72be8 22 = .ok (.return_, 1) := by decide +kernel
theorem dJx4a65c_add_9ea2d_0 : decode cJx4a65c_add_9ea2d 0 = .ok (.aload_n 0, 1) := by decide +kernel
theorem dJx4a65c_add_9ea2d_1 : decode cJx4a65c_add_9ea2d 1 = .ok (.dup, 1) := by decide +kernel
theorem dJx4a65c_add_9ea2d_2 : decode cJx4a65c_add_9ea2d 2 = .ok (.getfield 63, 3) := by decide +kernel
theorem dJx4a65c_add_9ea2d_5 : decode cJx4a65c_add_9ea2d 5 = .ok (.iconst 1, 1) := by decide +kernel
theorem dJx4a65c_add_9ea2d_6 : decode cJx4a65c_add_9ea2d 6 = .ok (.iadd, 1) := by decide +kernel
theorem dJx4a65c_add_9ea2d_7 : decode cJx4a65c_add_9ea2d 7 = .ok (.putfield 63, 3) := by decide +kernel
theorem dJx4a65c_add_9ea2d_10 : decode cJx4a65c_add_9ea2d 10 = .ok (.aload_n 0, 1) := by decide +kernel
theorem dJx4a65c_add_9ea2d_11 : decode cJx4a65c_add_9ea2d 11 = .ok (.aload_n 1, 1) := by decide +kernel
theorem dJx4a65c_add_9ea2d_12 : decode cJx4a65c_add_9ea2d 12 = .ok (.aload_n 0, 1) := by decide +kernel
theorem dJx4a65c_add_9ea2d_13 : decode cJx4a65c_add_9ea2d 13 = .ok (.getfield 9, 3) := by decide +kernel
theorem dJx4a65c_add_9ea2d_16 : decode cJx4a65c_add_9ea2d 16 = .ok (.aload_n 0, 1) := by decide +kernel
theorem dJx4a65c_add_9ea2d_17 : decode cJx4a65c_add_9ea2d 17 = .ok (.getfield 48, 3) := by decide +kernel
theorem dJx4a65c_add_9ea2d_20 : decode cJx4a65c_add_9ea2d 20 = .ok (.invokevirtual 131, 3) := by decide +kernel
theorem dJx4a65c_add_9ea2d_23 : decode cJx4a65c_add_9ea2d 23 = .ok (.iconst 1, 1) := by decide +kernel
theorem dJx4a65c_add_9ea2d_24 : decode cJx4a65c_add_9ea2d 24 = .ok (.ireturn, 1) := by decide +kernel
theorem dJ7_fill_53178_0 : decode cJ7_fill_53178 0 = .ok (.iconst 0, 1) := by decide +kernel
theorem dJ7_fill_53178_1 : decode cJ7_fill_53178 1 = .ok (.istore_n 2, 1) := by decide +kernel
theorem dJ7_fill_53178_2 : decode cJ7_fill_53178 2 = .ok (.aload_n 0, 1) := by decide +kernel
theorem dJ7_fill_53178_3 : decode cJ7_fill_53178 3 = .ok (.arraylength, 1) := by decide +kernel
theorem dJ7_fill_53178_4 : decode cJ7_fill_53178 4 = .ok (.istore_n 3, 1) := by decide +kernel
theorem dJ7_fill_53178_5 : decode cJ7_fill_53178 5 = .ok (.iload_n 2, 1) := by decide +kernel
theorem dJ7_fill_53178_6 : decode cJ7_fill_53178 6 = .ok (.iload_n 3, 1) := by decide +kernel
theorem dJ7_fill_53178_7 : decode cJ7_fill_53178 7 = .ok (.if_icmp .ge 13, 3) := by decide +kernel
theorem dJ7_fill_53178_10 : decode cJ7_fill_53178 10 = .ok (.aload_n 0, 1) := by decide +kernel
theorem dJ7_fill_53178_11 : decode cJ7_fill_53178 11 = .ok (.iload_n 2, 1) := by decide +kernel
theorem dJ7_fill_53178_12 : decode cJ7_fill_53178 12 = .ok (.iload_n 1, 1) := by decide +kernel
theorem dJ7_fill_53178_13 : decode cJ7_fill_53178 13 = .ok (.iastore, 1) := by decide +kernel
theorem dJ7_fill_53178_14 : decode cJ7_fill_53178 14 = .ok (.iinc 2 1, 3) := by decide +kernel
theorem dJ7_fill_53178_17 : decode cJ7_fill_53178 17 = .ok (.goto (-12), 3) := by decide +kernel
theorem dJ7_fill_53178_20 : decode cJ7_fill_53178 20 = .ok (.return_, 1) := by decide +kernel
theorem dJ7_copyOf_1904c_0 : decode cJ7_copyOf_1904c 0 = .ok (.aload_n 0, 1) := by decide +kernel
theorem dJ7_copyOf_1904c_1 : decode cJ7_copyOf_1904c 1 = .ok (.iload_n 1, 1) := by decide +kernel
theorem dJ7_copyOf_1904c_2 : decode cJ7_copyOf_1904c 2 = .ok (.aload_n 0, 1) := by decide +kernel
theorem dJ7_copyOf_1904c_3 : decode cJ7_copyOf_1904c 3 = .ok (.invokevirtual 86, 3) := by decide +kernel
theorem dJ7_copyOf_1904c_6 : decode cJ7_copyOf_1904c 6 = .ok (.invokestatic 300, 3) := by decide +kernel
theorem dJ7_copyOf_1904c_9 : decode cJ7_copyOf_1904c 9 = .ok (.areturn, 1) := by decide +kernel
theorem dJ7_copyOf_6403c_0 : decode cJ7_copyOf_6403c 0 = .ok (.aload_n 2, 1) := by decide +kernel
theorem dJ7_copyOf_6403c_1 : decode cJ7_copyOf_6403c 1 = .ok (.ldc 110, 2) := by decide +kernel
theorem dJ7_copyOf_6403c_3 : decode cJ7_copyOf_6403c 3 = .ok (.if_acmp .ne 10, 3) := by decide +kernel
theorem dJ7_copyOf_6403c_6 : decode cJ7_copyOf_6403c 6 = .ok (.iload_n 1, 1) := by decide +kernel
theorem dJ7_copyOf_6403c_7 : decode cJ7_copyOf_6403c 7 = .ok (.anewarray 2, 3) := by decide +kernel
theorem dJ7_copyOf_6403c_10 : decode cJ7_copyOf_6403c 10 = .ok (.goto 14, 3) := by decide +kernel
theorem dJ7_copyOf_6403c_13 : decode cJ7_copyOf_6403c 13 = .ok (.aload_n 2, 1) := by decide +kernel
theorem dJ7_copyOf_6403c_14 : decode cJ7_copyOf_6403c 14 = .ok (.invokevirtual 90, 3) := by decide +kernel
theorem dJ7_copyOf_6403c_17 : decode cJ7_copyOf_6403c 17 = .ok (.iload_n 1, 1) := by decide +kernel
theorem dJ7_copyOf_6403c_18 : decode cJ7_copyOf_6403c 18 = .ok (.invokestatic 95, 3) := by decide +kernel
theorem dJ7_copyOf_6403c_21 : decode cJ7_copyOf_6403c 21 = .ok (.checkcast 110, 3) := by decide +kernel
theorem dJ7_copyOf_6403c_24 : decode cJ7_copyOf_6403c 24 = .ok (.astore_n 3, 1) := by decide +kernel
theorem dJ7_copyOf_6403c_25 : decode cJ7_copyOf_6403c 25 = .ok (.aload_n 0, 1) := by decide +kernel
theorem dJ7_copyOf_6403c_26 : decode cJ7_copyOf_6403c 26 = .ok (.iconst 0, 1) := by decide +kernel
theorem dJ7_copyOf_6403c_27 : decode cJ7_copyOf_6403c 27 = .ok (.aload_n 3, 1) := by decide +kernel
theorem dJ7_copyOf_6403c_28 : decode cJ7_copyOf_6403c 28 = .ok (.iconst 0, 1) := by decide +kernel
theorem dJ7_copyOf_6403c_29 : decode cJ7_copyOf_6403c 29 = .ok (.aload_n 0, 1) := by decide +kernel
theorem dJ7_copyOf_6403c_30 : decode cJ7_copyOf_6403c 30 = .ok (.arraylength, 1) := by decide +kernel
theorem dJ7_copyOf_6403c_31 : decode cJ7_copyOf_6403c 31 = .ok (.iload_n 1, 1) := by decide +kernel
theorem dJ7_copyOf_6403c_32 : decode cJ7_copyOf_6403c 32 = .ok (.invokestatic 304, 3) := by decide +kernel
theorem dJ7_copyOf_6403c_35 : decode cJ7_copyOf_6403c 35 = .ok (.invokestatic 150, 3) := by decide +kernel
theorem dJ7_copyOf_6403c_38 : decode cJ7_copyOf_6403c 38 = .ok (.aload_n 3, 1) := by decide +kernel
theorem dJ7_copyOf_6403c_39 : decode cJ7_copyOf_6403c 39 = .ok (.areturn, 1) := by decide +kernel
theorem dJ15_checkIndex_7cf53_0 : decode cJ15_checkIndex_7cf53 0 = .ok (.iload_n 0, 1) := by decide +kernel
theorem dJ15_checkIndex_7cf53_1 : decode cJ15_checkIndex_7cf53 1 = .ok (.iload_n 1, 1) := by decide +kernel
theorem dJ15_checkIndex_7cf53_2 : decode cJ15_checkIndex_7cf53 2 = .ok (.aconst_null, 1) := by decide +kernel
theorem dJ15_checkIndex_7cf53_3 : decode cJ15_checkIndex_7cf53 3 = .ok (.invokestatic 105, 3) := by decide +kernel
theorem dJ15_checkIndex_7cf53_6 : decode cJ15_checkIndex_7cf53 6 = .ok (.ireturn, 1) := by decide +kernel
theorem dJ8_newLength_cabcc_0 : decode cJ8_newLength_cabcc 0 = .ok (.iload_n 0, 1) := by decide +kernel
theorem dJ8_newLength_cabcc_1 : decode cJ8_newLength_cabcc 1 = .ok (.iload_n 1, 1) := by decide +kernel
theorem dJ8_newLength_cabcc_2 : decode cJ8_newLength_cabcc 2 = .ok (.iload_n 2, 1) := by decide +kernel
theorem dJ8_newLength_cabcc_3 : decode cJ8_newLength_cabcc 3 = .ok (.invokestatic 194, 3) := by decide +kernel
theorem dJ8_newLength_cabcc_6 : decode cJ8_newLength_cabcc 6 = .ok (.iadd, 1) := by decide +kernel
theorem dJ8_newLength_cabcc_7 : decode cJ8_newLength_cabcc 7 = .ok (.istore_n 3, 1) := by decide +kernel
theorem dJ8_newLength_cabcc_8 : decode cJ8_newLength_cabcc 8 = .ok (.iconst 0, 1) := by decide +kernel
theorem dJ8_newLength_cabcc_9 : decode cJ8_newLength_cabcc 9 = .ok (.iload_n 3, 1) := by decide +kernel
theorem dJ8_newLength_cabcc_10 : decode cJ8_newLength_cabcc 10 = .ok (.if_icmp .ge 11, 3) := by decide +kernel
theorem dJ8_newLength_cabcc_13 : decode cJ8_newLength_cabcc 13 = .ok (.iload_n 3, 1) := by decide +kernel
theorem dJ8_newLength_cabcc_14 : decode cJ8_newLength_cabcc 14 = .ok (.ldc 200, 2) := by decide +kernel
theorem dJ8_newLength_cabcc_16 : decode cJ8_newLength_cabcc 16 = .ok (.if_icmp .gt 5, 3) := by decide +kernel
theorem dJ8_newLength_cabcc_19 : decode cJ8_newLength_cabcc 19 = .ok (.iload_n 3, 1) := by decide +kernel
theorem dJ8_newLength_cabcc_20 : decode cJ8_newLength_cabcc 20 = .ok (.ireturn, 1) := by decide +kernel
theorem dJ8_newLength_cabcc_21 : decode cJ8_newLength_cabcc 21 = .ok (.iload_n 0, 1) := by decide +kernel
theorem dJ8_newLength_cabcc_22 : decode cJ8_newLength_cabcc 22 = .ok (.iload_n 1, 1) := by decide +kernel
theorem dJ8_newLength_cabcc_23 : decode cJ8_newLength_cabcc 23 = .ok (.invokestatic 201, 3) := by decide +kernel
theorem dJ8_newLength_cabcc_26 : decode cJ8_newLength_cabcc 26 = .ok (.ireturn, 1) := by decide +kernel
theorem dJ8_hugeLength_7cf53_0 : decode cJ8_hugeLength_7cf53 0 = .ok (.iload_n 0, 1) := by decide +kernel
theorem dJ8_hugeLength_7cf53_1 : decode cJ8_hugeLength_7cf53 1 = .ok (.iload_n 1, 1) := by decide +kernel
theorem dJ8_hugeLength_7cf53_2 : decode cJ8_hugeLength_7cf53 2 = .ok (.iadd, 1) := by decide +kernel
theorem dJ8_hugeLength_7cf53_3 : decode cJ8_hugeLength_7cf53 3 = .ok (.istore_n 2, 1) := by decide +kernel
theorem dJ8_hugeLength_7cf53_4 : decode cJ8_hugeLength_7cf53 4 = .ok (.iload_n 2, 1) := by decide +kernel
theorem dJ8_hugeLength_7cf53_5 : decode cJ8_hugeLength_7cf53 5 = .ok (.ifCond .ge 44, 3) := by decide +kernel
theorem dJ8_hugeLength_7cf53_8 : decode cJ8_hugeLength_7cf53 8 = .ok (.new 204, 3) := by decide +kernel
theorem dJ8_hugeLength_7cf53_11 : decode cJ8_hugeLength_7cf53 11 = .ok (.dup, 1) := by decide +kernel
theorem dJ8_hugeLength_7cf53_12 : decode cJ8_hugeLength_7cf53 12 = .ok (.new 89, 3) := by decide +kernel
theorem dJ8_hugeLength_7cf53_15 : decode cJ8_hugeLength_7cf53 15 = .ok (.dup, 1) := by decide +kernel
theorem dJ8_hugeLength_7cf53_16 : decode cJ8_hugeLength_7cf53 16 = .ok (.invokespecial 91, 3) := by decide +kernel
theorem dJ8_hugeLength_7cf53_19 : decode cJ8_hugeLength_7cf53 19 = .ok (.ldc 206, 2) := by decide +kernel
theorem dJ8_hugeLength_7cf53_21 : decode cJ8_hugeLength_7cf53 21 = .ok (.invokevirtual 94, 3) := by decide +kernel
theorem dJ8_hugeLength_7cf53_24 : decode cJ8_hugeLength_7cf53 24 = .ok (.iload_n 0, 1) := by decide +kernel
theorem dJ8_hugeLength_7cf53_25 : decode cJ8_hugeLength_7cf53 25 = .ok (.invokevirtual 98, 3) := by decide +kernel
theorem dJ8_hugeLength_7cf53_28 : decode cJ8_hugeLength_7cf53 28 = .ok (.ldc 208, 2) := by decide +kernel
theorem dJ8_hugeLength_7cf53_30 : decode cJ8_hugeLength_7cf53 30 = .ok (.invokevirtual 94, 3) := by decide +kernel
theorem dJ8_hugeLength_7cf53_33 : decode cJ8_hugeLength_7cf53 33 = .ok (.iload_n 1, 1) := by decide +kernel
theorem dJ8_hugeLength_7cf53_34 : decode cJ8_hugeLength_7cf53 34 = .ok (.invokevirtual 98, 3) := by decide +kernel
theorem dJ8_hugeLength_7cf53_37 : decode cJ8_hugeLength_7cf53 37 = .ok (.ldc 210, 2) := by decide +kernel
theorem dJ8_hugeLength_7cf53_39 : decode cJ8_hugeLength_7cf53 39 = .ok (.invokevirtual 94, 3) := by decide +kernel
theorem dJ8_hugeLength_7cf53_42 : decode cJ8_hugeLength_7cf53 42 = .ok (.invokevirtual 101, 3) := by decide +kernel
theorem dJ8_hugeLength_7cf53_45 : decode cJ8_hugeLength_7cf53 45 = .ok (.invokespecial 212, 3) := by decide +kernel
theorem dJ8_hugeLength_7cf53_48 : decode cJ8_hugeLength_7cf53 48 = .ok (.athrow, 1) := by decide +kernel
theorem dJ8_hugeLength_7cf53_49 : decode cJ8_hugeLength_7cf53 49 = .ok (.iload_n 2, 1) := by decide +kernel
theorem dJ8_hugeLength_7cf53_50 : decode cJ8_hugeLength_7cf53 50 = .ok (.ldc 200, 2) := by decide +kernel
theorem dJ8_hugeLength_7cf53_52 : decode cJ8_hugeLength_7cf53 52 = .ok (.if_icmp .gt 6, 3) := by decide +kernel
theorem dJ8_hugeLength_7cf53_55 : decode cJ8_hugeLength_7cf53 55 = .ok (.ldc 200, 2) := by decide +kernel
theorem dJ8_hugeLength_7cf53_57 : decode cJ8_hugeLength_7cf53 57 = .ok (.ireturn, 1) := by decide +kernel
theorem dJ8_hugeLength_7cf53_58 : decode cJ8_hugeLength_7cf53 58 = .ok (.iload_n 2, 1) := by decide +kernel
theorem dJ8_hugeLength_7cf53_59 : decode cJ8_hugeLength_7cf53 59 = .ok (.ireturn, 1) := by decide +kernel
theorem dJ3_checkIndex_8e157_0 : decode cJ3_checkIndex_8e157 0 = .ok (.iload_n 0, 1) := by decide +kernel
theorem dJ3_checkIndex_8e157_1 : decode cJ3_checkIndex_8e157 1 = .ok (.ifCond .lt 8, 3) := by decide +kernel
theorem dJ3_checkIndex_8e157_4 : decode cJ3_checkIndex_8e157 4 = .ok (.iload_n 0, 1) := by decide +kernel
theorem dJ3_checkIndex_8e157_5 : decode cJ3_checkIndex_8e157 5 = .ok (.iload_n 1, 1) := by decide +kernel
theorem dJ3_checkIndex_8e157_6 : decode cJ3_checkIndex_8e157 6 = .ok (.if_icmp .lt 10, 3) := by decide +kernel
theorem dJ3_checkIndex_8e157_9 : decode cJ3_checkIndex_8e157 9 = .ok (.aload_n 2, 1) := by decide +kernel
theorem dJ3_checkIndex_8e157_10 : decode cJ3_checkIndex_8e157 10 = .ok (.iload_n 0, 1) := by decide +kernel
theorem dJ3_checkIndex_8e157_11 : decode cJ3_checkIndex_8e157 11 = .ok (.iload_n 1, 1) := by decide +kernel
theorem dJ3_checkIndex_8e157_12 : decode cJ3_checkIndex_8e157 12 = .ok (.invokestatic 95, 3) := by decide +kernel
theorem dJ3_checkIndex_8e157_15 : decode cJ3_checkIndex_8e157 15 = .ok (.athrow, 1) := by decide +kernel
theorem dJ3_checkIndex_8e157_16 : decode cJ3_checkIndex_8e157 16 = .ok (.iload_n 0, 1) := by decide +kernel
theorem dJ3_checkIndex_8e157_17 : decode cJ3_checkIndex_8e157 17 = .ok (.ireturn, 1) := by decide +kernel
theorem dX0_init_0 : decode cX0_init 0 = .ok (.aload_n 0, 1) := by decide +kernel
theorem dX0_init_1 : decode cX0_init 1 = .ok (.invokespecial 3, 3) := by decide +kernel
theorem dX0_init_4 : decode cX0_init 4 = .ok (.aload_n 0, 1) := by decide +kernel
theorem dX0_init_5 : decode cX0_init 5 = .ok (.iconst 1, 1) := by decide +kernel
theorem dX0_init_6 : decode cX0_init 6 = .ok (.putfield 9, 3) := by decide +kernel
theorem dX0_init_9 : decode cX0_init 9 = .ok (.aload_n 0, 1) := by decide +kernel
theorem dX0_init_10 : decode cX0_init 10 = .ok (.iconst (-1), 1) := by decide +kernel
theorem dX0_init_11 : decode cX0_init 11 = .ok (.putfield 15, 3) := by decide +kernel
theorem dX0_init_14 : decode cX0_init 14 = .ok (.aload_n 0, 1) := by decide +kernel
theorem dX0_init_15 : decode cX0_init 15 = .ok (.bipush 11, 2) := by decide +kernel
theorem dX0_init_17 : decode cX0_init 17 = .ok (.newarray .int, 2) := by decide +kernel
theorem dX0_init_19 : decode cX0_init 19 = .ok (.putfield 19, 3) := by decide +kernel
theorem dX0_init_22 : decode cX0_init 22 = .ok (.aload_n 0, 1) := by decide +kernel
theorem dX0_init_23 : decode cX0_init 23 = .ok (.iload_n 1, 1) := by decide +kernel
theorem dX0_init_24 : decode cX0_init 24 = .ok (.putfield 23, 3) := by decide +kernel
theorem dX0_init_27 : decode cX0_init 27 = .ok (.aload_n 0, 1) := by decide +kernel
theorem dX0_init_28 : decode cX0_init 28 = .ok (.iload_n 2, 1) := by decide +kernel
theorem dX0_init_29 : decode cX0_init 29 = .ok (.putfield 26, 3) := by decide +kernel
theorem dX0_init_32 : decode cX0_init 32 = .ok (.aload_n 0, 1) := by decide +kernel
theorem dX0_init_33 : decode cX0_init 33 = .ok (.iload_n 3, 1) := by decide +kernel
theorem dX0_init_34 : decode cX0_init 34 = .ok (.putfield 29, 3) := by decide +kernel
theorem dX0_init_37 : decode cX0_init 37 = .ok (.aload_n 0, 1) := by decide +kernel
theorem dX0_init_38 : decode cX0_init 38 = .ok (.iload 4, 2) := by decide +kernel
theorem dX0_init_40 : decode cX0_init 40 = .ok (.putfield 32, 3) := by decide +kernel
theorem dX0_init_43 : decode cX0_init 43 = .ok (.aload_n 0, 1) := by decide +kernel
theorem dX0_init_44 : decode cX0_init 44 = .ok (.getfield 19, 3) := by decide +kernel
theorem dX0_init_47 : decode cX0_init 47 = .ok (.iconst (-1), 1) := by decide +kernel
theorem dX0_init_48 : decode cX0_init 48 = .ok (.invokestatic 35, 3) := by decide +kernel
theorem dX0_init_51 : decode cX0_init 51 = .ok (.return_, 1) := by decide +kernel
theorem dX0_fullDrink_0 : decode cX0_fullDrink 0 = .ok (.aload_n 0, 1) := by decide +kernel
theorem dX0_fullDrink_1 : decode cX0_fullDrink 1 = .ok (.getfield 23, 3) := by decide +kernel
theorem dX0_fullDrink_4 : decode cX0_fullDrink 4 = .ok (.ifCond .lt 21, 3) := by decide +kernel
theorem dX0_fullDrink_7 : decode cX0_fullDrink 7 = .ok (.aload_n 0, 1) := by decide +kernel
theorem dX0_fullDrink_8 : decode cX0_fullDrink 8 = .ok (.getfield 23, 3) := by decide +kernel
theorem dX0_fullDrink_11 : decode cX0_fullDrink 11 = .ok (.aload_n 1, 1) := by decide +kernel
theorem dX0_fullDrink_12 : decode cX0_fullDrink 12 = .ok (.arraylength, 1) := by decide +kernel
theorem dX0_fullDrink_13 : decode cX0_fullDrink 13 = .ok (.if_icmp .ge 12, 3) := by decide +kernel
theorem dX0_fullDrink_16 : decode cX0_fullDrink 16 = .ok (.aload_n 1, 1) := by decide +kernel
theorem dX0_fullDrink_17 : decode cX0_fullDrink 17 = .ok (.aload_n 0, 1) := by decide +kernel
theorem dX0_fullDrink_18 : decode cX0_fullDrink 18 = .ok (.getfield 23, 3) := by decide +kernel
theorem dX0_fullDrink_21 : decode cX0_fullDrink 21 = .ok (.iaload, 1) := by decide +kernel
theorem dX0_fullDrink_22 : decode cX0_fullDrink 22 = .ok (.goto 4, 3) := by decide +kernel
theorem dX0_fullDrink_25 : decode cX0_fullDrink 25 = .ok (.iconst 0, 1) := by decide +kernel
theorem dX0_fullDrink_26 : decode cX0_fullDrink 26 = .ok (.ireturn, 1) := by decide +kernel
theorem dX0_drink_0 : decode cX0_drink 0 = .ok (.aload_n 0, 1) := by decide +kernel
theorem dX0_drink_1 : decode cX0_drink 1 = .ok (.aload_n 1, 1) := by decide +kernel
theorem dX0_drink_2 : decode cX0_drink 2 = .ok (.invokevirtual 41, 3) := by decide +kernel
theorem dX0_drink_5 : decode cX0_drink 5 = .ok (.bipush 100, 2) := by decide +kernel
theorem dX0_drink_7 : decode cX0_drink 7 = .ok (.aload_n 0, 1) := by decide +kernel
theorem dX0_drink_8 : decode cX0_drink 8 = .ok (.getfield 45, 3) := by decide +kernel
theorem dX0_drink_11 : decode cX0_drink 11 = .ok (.isub, 1) := by decide +kernel
theorem dX0_drink_12 : decode cX0_drink 12 = .ok (.imul, 1) := by decide +kernel
theorem dX0_drink_13 : decode cX0_drink 13 = .ok (.bipush 100, 2) := by decide +kernel
theorem dX0_drink_15 : decode cX0_drink 15 = .ok (.idiv, 1) := by decide +kernel
theorem dX0_drink_16 : decode cX0_drink 16 = .ok (.ireturn, 1) := by decide +kernel
theorem dX0_gainByCare_0 : decode cX0_gainByCare 0 = .ok (.aload_n 0, 1) := by decide +kernel
theorem dX0_gainByCare_1 : decode cX0_gainByCare 1 = .ok (.aload_n 1, 1) := by decide +kernel
theorem dX0_gainByCare_2 : decode cX0_gainByCare 2 = .ok (.invokevirtual 41, 3) := by decide +kernel
theorem dX0_gainByCare_5 : decode cX0_gainByCare 5 = .ok (.bipush 100, 2) := by decide +kernel
theorem dX0_gainByCare_7 : decode cX0_gainByCare 7 = .ok (.aload_n 0, 1) := by decide +kernel
theorem dX0_gainByCare_8 : decode cX0_gainByCare 8 = .ok (.invokevirtual 48, 3) := by decide +kernel
theorem dX0_gainByCare_11 : decode cX0_gainByCare 11 = .ok (.isub, 1) := by decide +kernel
theorem dX0_gainByCare_12 : decode cX0_gainByCare 12 = .ok (.imul, 1) := by decide +kernel
theorem dX0_gainByCare_13 : decode cX0_gainByCare 13 = .ok (.bipush 100, 2) := by decide +kernel
theorem dX0_gainByCare_15 : decode cX0_gainByCare 15 = .ok (.idiv, 1) := by decide +kernel
theorem dX0_gainByCare_16 : decode cX0_gainByCare 16 = .ok (.aload_n 0, 1) := by decide +kernel
theorem dX0_gainByCare_17 : decode cX0_gainByCare 17 = .ok (.aload_n 1, 1) := by decide +kernel
theorem dX0_gainByCare_18 : decode cX0_gainByCare 18 = .ok (.invokevirtual 52, 3) := by decide +kernel
theorem dX0_gainByCare_21 : decode cX0_gainByCare 21 = .ok (.isub, 1) := by decide +kernel
theorem dX0_gainByCare_22 : decode cX0_gainByCare 22 = .ok (.ireturn, 1) := by decide +kernel
theorem dX0_clogCaredFor_0 : decode cX0_clogCaredFor 0 = .ok (.iconst 0, 1) := by decide +kernel
theorem dX0_clogCaredFor_1 : decode cX0_clogCaredFor 1 = .ok (.aload_n 0, 1) := by decide +kernel
theorem dX0_clogCaredFor_2 : decode cX0_clogCaredFor 2 = .ok (.getfield 45, 3) := by decide +kernel
theorem dX0_clogCaredFor_5 : decode cX0_clogCaredFor 5 = .ok (.bipush 30, 2) := by decide +kernel
theorem dX0_clogCaredFor_7 : decode cX0_clogCaredFor 7 = .ok (.isub, 1) := by decide +kernel
theorem dX0_clogCaredFor_8 : decode cX0_clogCaredFor 8 = .ok (.invokestatic 55, 3) := by decide +kernel
theorem dX0_clogCaredFor_11 : decode cX0_clogCaredFor 11 = .ok (.ireturn, 1) := by decide +kernel
theorem dX0_caredBy_0 : decode cX0_caredBy 0 = .ok (.iload_n 1, 1) := by decide +kernel
theorem dX0_caredBy_1 : decode cX0_caredBy 1 = .ok (.iconst 0, 1) := by decide +kernel
theorem dX0_caredBy_2 : decode cX0_caredBy 2 = .ok (.bipush 10, 2) := by decide +kernel
theorem dX0_caredBy_4 : decode cX0_caredBy 4 = .ok (.invokestatic 61, 3) := by decide +kernel
theorem dX0_caredBy_7 : decode cX0_caredBy 7 = .ok (.ifCond .eq 12, 3) := by decide +kernel
theorem dX0_caredBy_10 : decode cX0_caredBy 10 = .ok (.aload_n 0, 1) := by decide +kernel
theorem dX0_caredBy_11 : decode cX0_caredBy 11 = .ok (.iload_n 1, 1) := by decide +kernel
theorem dX0_caredBy_12 : decode cX0_caredBy 12 = .ok (.iload_n 2, 1) := by decide +kernel
theorem dX0_caredBy_13 : decode cX0_caredBy 13 = .ok (.invokevirtual 65, 3) := by decide +kernel
theorem dX0_caredBy_16 : decode cX0_caredBy 16 = .ok (.ifCond .eq 5, 3) := by decide +kernel
theorem dX0_caredBy_19 : decode cX0_caredBy 19 = .ok (.iconst 0, 1) := by decide +kernel
theorem dX0_caredBy_20 : decode cX0_caredBy 20 = .ok (.ireturn, 1) := by decide +kernel
theorem dX0_caredBy_21 : decode cX0_caredBy 21 = .ok (.aload_n 0, 1) := by decide +kernel
theorem dX0_caredBy_22 : decode cX0_caredBy 22 = .ok (.getfield 19, 3) := by decide +kernel
theorem dX0_caredBy_25 : decode cX0_caredBy 25 = .ok (.iload_n 1, 1) := by decide +kernel
theorem dX0_caredBy_26 : decode cX0_caredBy 26 = .ok (.iload_n 2, 1) := by decide +kernel
theorem dX0_caredBy_27 : decode cX0_caredBy 27 = .ok (.iastore, 1) := by decide +kernel
theorem dX0_caredBy_28 : decode cX0_caredBy 28 = .ok (.aload_n 0, 1) := by decide +kernel
theorem dX0_caredBy_29 : decode cX0_caredBy 29 = .ok (.aload_n 0, 1) := by decide +kernel
theorem dX0_caredBy_30 : decode cX0_caredBy 30 = .ok (.invokevirtual 48, 3) := by decide +kernel
theorem dX0_caredBy_33 : decode cX0_caredBy 33 = .ok (.putfield 45, 3) := by decide +kernel
theorem dX0_caredBy_36 : decode cX0_caredBy 36 = .ok (.aload_n 0, 1) := by decide +kernel
theorem dX0_caredBy_37 : decode cX0_caredBy 37 = .ok (.iconst 0, 1) := by decide +kernel
theorem dX0_caredBy_38 : decode cX0_caredBy 38 = .ok (.putfield 69, 3) := by decide +kernel
theorem dX0_caredBy_41 : decode cX0_caredBy 41 = .ok (.iconst 1, 1) := by decide +kernel
theorem dX0_caredBy_42 : decode cX0_caredBy 42 = .ok (.ireturn, 1) := by decide +kernel
theorem dX0_wasCaredBy_0 : decode cX0_wasCaredBy 0 = .ok (.iload_n 1, 1) := by decide +kernel
theorem dX0_wasCaredBy_1 : decode cX0_wasCaredBy 1 = .ok (.iconst 0, 1) := by decide +kernel
theorem dX0_wasCaredBy_2 : decode cX0_wasCaredBy 2 = .ok (.bipush 10, 2) := by decide +kernel
theorem dX0_wasCaredBy_4 : decode cX0_wasCaredBy 4 = .ok (.invokestatic 61, 3) := by decide +kernel
theorem dX0_wasCaredBy_7 : decode cX0_wasCaredBy 7 = .ok (.ifCond .eq 17, 3) := by decide +kernel
theorem dX0_wasCaredBy_10 : decode cX0_wasCaredBy 10 = .ok (.aload_n 0, 1) := by decide +kernel
theorem dX0_wasCaredBy_11 : decode cX0_wasCaredBy 11 = .ok (.getfield 19, 3) := by decide +kernel
theorem dX0_wasCaredBy_14 : decode cX0_wasCaredBy 14 = .ok (.iload_n 1, 1) := by decide +kernel
theorem dX0_wasCaredBy_15 : decode cX0_wasCaredBy 15 = .ok (.iaload, 1) := by decide +kernel
theorem dX0_wasCaredBy_16 : decode cX0_wasCaredBy 16 = .ok (.iload_n 2, 1) := by decide +kernel
theorem dX0_wasCaredBy_17 : decode cX0_wasCaredBy 17 = .ok (.if_icmp .ne 7, 3) := by decide +kernel
theorem dX0_wasCaredBy_20 : decode cX0_wasCaredBy 20 = .ok (.iconst 1, 1) := by decide +kernel
theorem dX0_wasCaredBy_21 : decode cX0_wasCaredBy 21 = .ok (.goto 4, 3) := by decide +kernel
theorem dX0_wasCaredBy_24 : decode cX0_wasCaredBy 24 = .ok (.iconst 0, 1) := by decide +kernel
theorem dX0_wasCaredBy_25 : decode cX0_wasCaredBy 25 = .ok (.ireturn, 1) := by decide +kernel
theorem dX0_clogUp_0 : decode cX0_clogUp 0 = .ok (.aload_n 0, 1) := by decide +kernel
theorem dX0_clogUp_1 : decode cX0_clogUp 1 = .ok (.getfield 29, 3) := by decide +kernel
theorem dX0_clogUp_4 : decode cX0_clogUp 4 = .ok (.ifCond .eq 13, 3) := by decide +kernel
theorem dX0_clogUp_7 : decode cX0_clogUp 7 = .ok (.aload_n 1, 1) := by decide +kernel
theorem dX0_clogUp_8 : decode cX0_clogUp 8 = .ok (.iconst 0, 1) := by decide +kernel
theorem dX0_clogUp_9 : decode cX0_clogUp 9 = .ok (.invokevirtual 72, 3) := by decide +kernel
theorem dX0_clogUp_12 : decode cX0_clogUp 12 = .ok (.iconst 2, 1) := by decide +kernel
theorem dX0_clogUp_13 : decode cX0_clogUp 13 = .ok (.idiv, 1) := by decide +kernel
theorem dX0_clogUp_14 : decode cX0_clogUp 14 = .ok (.goto 8, 3) := by decide +kernel
theorem dX0_clogUp_17 : decode cX0_clogUp 17 = .ok (.aload_n 1, 1) := by decide +kernel
theorem dX0_clogUp_18 : decode cX0_clogUp 18 = .ok (.iconst 0, 1) := by decide +kernel
theorem dX0_clogUp_19 : decode cX0_clogUp 19 = .ok (.invokevirtual 72, 3) := by decide +kernel
theorem dX0_clogUp_22 : decode cX0_clogUp 22 = .ok (.istore_n 2, 1) := by decide +kernel
theorem dX0_clogUp_23 : decode cX0_clogUp 23 = .ok (.aload_n 0, 1) := by decide +kernel
theorem dX0_clogUp_24 : decode cX0_clogUp 24 = .ok (.bipush 100, 2) := by decide +kernel
theorem dX0_clogUp_26 : decode cX0_clogUp 26 = .ok (.aload_n 0, 1) := by decide +kernel
theorem dX0_clogUp_27 : decode cX0_clogUp 27 = .ok (.getfield 45, 3) := by decide +kernel
theorem dX0_clogUp_30 : decode cX0_clogUp 30 = .ok (.aload_n 0, 1) := by decide +kernel
theorem dX0_clogUp_31 : decode cX0_clogUp 31 = .ok (.getfield 9, 3) := by decide +kernel
theorem dX0_clogUp_34 : decode cX0_clogUp 34 = .ok (.ifCond .eq 7, 3) := by decide +kernel
theorem dX0_clogUp_37 : decode cX0_clogUp 37 = .ok (.iload_n 2, 1) := by decide +kernel
theorem dX0_clogUp_38 : decode cX0_clogUp 38 = .ok (.goto 6, 3) := by decide +kernel
theorem dX0_clogUp_41 : decode cX0_clogUp 41 = .ok (.iconst 2, 1) := by decide +kernel
theorem dX0_clogUp_42 : decode cX0_clogUp 42 = .ok (.iload_n 2, 1) := by decide +kernel
theorem dX0_clogUp_43 : decode cX0_clogUp 43 = .ok (.imul, 1) := by decide +kernel
theorem dX0_clogUp_44 : decode cX0_clogUp 44 = .ok (.iadd, 1) := by decide +kernel
theorem dX0_clogUp_45 : decode cX0_clogUp 45 = .ok (.invokestatic 78, 3) := by decide +kernel
theorem dX0_clogUp_48 : decode cX0_clogUp 48 = .ok (.putfield 45, 3) := by decide +kernel
theorem dX0_clogUp_51 : decode cX0_clogUp 51 = .ok (.return_, 1) := by decide +kernel
theorem dX0_shedLeaves_0 : decode cX0_shedLeaves 0 = .ok (.aload_n 1, 1) := by decide +kernel
theorem dX0_shedLeaves_1 : decode cX0_shedLeaves 1 = .ok (.iload_n 2, 1) := by decide +kernel
theorem dX0_shedLeaves_2 : decode cX0_shedLeaves 2 = .ok (.invokevirtual 81, 3) := by decide +kernel
theorem dX0_shedLeaves_5 : decode cX0_shedLeaves 5 = .ok (.ifCond .eq 29, 3) := by decide +kernel
theorem dX0_shedLeaves_8 : decode cX0_shedLeaves 8 = .ok (.aload_n 0, 1) := by decide +kernel
theorem dX0_shedLeaves_9 : decode cX0_shedLeaves 9 = .ok (.bipush 10, 2) := by decide +kernel
theorem dX0_shedLeaves_11 : decode cX0_shedLeaves 11 = .ok (.aload_n 0, 1) := by decide +kernel
theorem dX0_shedLeaves_12 : decode cX0_shedLeaves 12 = .ok (.getfield 69, 3) := by decide +kernel
theorem dX0_shedLeaves_15 : decode cX0_shedLeaves 15 = .ok (.aload_n 0, 1) := by decide +kernel
theorem dX0_shedLeaves_16 : decode cX0_shedLeaves 16 = .ok (.getfield 29, 3) := by decide +kernel
theorem dX0_shedLeaves_19 : decode cX0_shedLeaves 19 = .ok (.ifCond .eq 7, 3) := by decide +kernel
theorem dX0_shedLeaves_22 : decode cX0_shedLeaves 22 = .ok (.iconst 2, 1) := by decide +kernel
theorem dX0_shedLeaves_23 : decode cX0_shedLeaves 23 = .ok (.goto 4, 3) := by decide +kernel
theorem dX0_shedLeaves_26 : decode cX0_shedLeaves 26 = .ok (.iconst 1, 1) := by decide +kernel
theorem dX0_shedLeaves_27 : decode cX0_shedLeaves 27 = .ok (.iadd, 1) := by decide +kernel
theorem dX0_shedLeaves_28 : decode cX0_shedLeaves 28 = .ok (.invokestatic 78, 3) := by decide +kernel
theorem dX0_shedLeaves_31 : decode cX0_shedLeaves 31 = .ok (.putfield 69, 3) := by decide +kernel
theorem dX0_shedLeaves_34 : decode cX0_shedLeaves 34 = .ok (.return_, 1) := by decide +kernel
theorem dX0_drinkForADay_0 : decode cX0_drinkForADay 0 = .ok (.aload_n 0, 1) := by decide +kernel
theorem dX0_drinkForADay_1 : decode cX0_drinkForADay 1 = .ok (.getfield 85, 3) := by decide +kernel
theorem dX0_drinkForADay_4 : decode cX0_drinkForADay 4 = .ok (.bipush 20, 2) := by decide +kernel
theorem dX0_drinkForADay_6 : decode cX0_drinkForADay 6 = .ok (.aload_n 0, 1) := by decide +kernel
theorem dX0_drinkForADay_7 : decode cX0_drinkForADay 7 = .ok (.aload_n 1, 1) := by decide +kernel
theorem dX0_drinkForADay_8 : decode cX0_drinkForADay 8 = .ok (.invokevirtual 52, 3) := by decide +kernel
theorem dX0_drinkForADay_11 : decode cX0_drinkForADay 11 = .ok (.imul, 1) := by decide +kernel
theorem dX0_drinkForADay_12 : decode cX0_drinkForADay 12 = .ok (.invokestatic 78, 3) := by decide +kernel
theorem dX0_drinkForADay_15 : decode cX0_drinkForADay 15 = .ok (.istore_n 2, 1) := by decide +kernel
theorem dX0_drinkForADay_16 : decode cX0_drinkForADay 16 = .ok (.aload_n 0, 1) := by decide +kernel
theorem dX0_drinkForADay_17 : decode cX0_drinkForADay 17 = .ok (.dup, 1) := by decide +kernel
theorem dX0_drinkForADay_18 : decode cX0_drinkForADay 18 = .ok (.getfield 85, 3) := by decide +kernel
theorem dX0_drinkForADay_21 : decode cX0_drinkForADay 21 = .ok (.iload_n 2, 1) := by decide +kernel
theorem dX0_drinkForADay_22 : decode cX0_drinkForADay 22 = .ok (.isub, 1) := by decide +kernel
theorem dX0_drinkForADay_23 : decode cX0_drinkForADay 23 = .ok (.putfield 85, 3) := by decide +kernel
theorem dX0_drinkForADay_26 : decode cX0_drinkForADay 26 = .ok (.aload_n 0, 1) := by decide +kernel
theorem dX0_drinkForADay_27 : decode cX0_drinkForADay 27 = .ok (.aload_n 0, 1) := by decide +kernel
theorem dX0_drinkForADay_28 : decode cX0_drinkForADay 28 = .ok (.getfield 85, 3) := by decide +kernel
theorem dX0_drinkForADay_31 : decode cX0_drinkForADay 31 = .ok (.ifCond .le 12, 3) := by decide +kernel
theorem dX0_drinkForADay_34 : decode cX0_drinkForADay 34 = .ok (.aload_n 0, 1) := by decide +kernel
theorem dX0_drinkForADay_35 : decode cX0_drinkForADay 35 = .ok (.getfield 88, 3) := by decide +kernel
theorem dX0_drinkForADay_38 : decode cX0_drinkForADay 38 = .ok (.iconst 1, 1) := by decide +kernel
theorem dX0_drinkForADay_39 : decode cX0_drinkForADay 39 = .ok (.iadd, 1) := by decide +kernel
theorem dX0_drinkForADay_40 : decode cX0_drinkForADay 40 = .ok (.goto 4, 3) := by decide +kernel
theorem dX0_drinkForADay_43 : decode cX0_drinkForADay 43 = .ok (.iconst 0, 1) := by decide +kernel
theorem dX0_drinkForADay_44 : decode cX0_drinkForADay 44 = .ok (.putfield 88, 3) := by decide +kernel
theorem dX0_drinkForADay_47 : decode cX0_drinkForADay 47 = .ok (.iload_n 2, 1) := by decide +kernel
theorem dX0_drinkForADay_48 : decode cX0_drinkForADay 48 = .ok (.ireturn, 1) := by decide +kernel
theorem dX0_standsTooLong_0 : decode cX0_standsTooLong 0 = .ok (.aload_n 0, 1) := by decide +kernel
theorem dX0_standsTooLong_1 : decode cX0_standsTooLong 1 = .ok (.getfield 88, 3) := by decide +kernel
theorem dX0_standsTooLong_4 : decode cX0_standsTooLong 4 = .ok (.aload_n 1, 1) := by decide +kernel
theorem dX0_standsTooLong_5 : decode cX0_standsTooLong 5 = .ok (.bipush 6, 2) := by decide +kernel
theorem dX0_standsTooLong_7 : decode cX0_standsTooLong 7 = .ok (.invokevirtual 72, 3) := by decide +kernel
theorem dX0_standsTooLong_10 : decode cX0_standsTooLong 10 = .ok (.iconst 1, 1) := by decide +kernel
theorem dX0_standsTooLong_11 : decode cX0_standsTooLong 11 = .ok (.iadd, 1) := by decide +kernel
theorem dX0_standsTooLong_12 : decode cX0_standsTooLong 12 = .ok (.if_icmp .ne 7, 3) := by decide +kernel
theorem dX0_standsTooLong_15 : decode cX0_standsTooLong 15 = .ok (.iconst 1, 1) := by decide +kernel
theorem dX0_standsTooLong_16 : decode cX0_standsTooLong 16 = .ok (.goto 4, 3) := by decide +kernel
theorem dX0_standsTooLong_19 : decode cX0_standsTooLong 19 = .ok (.iconst 0, 1) := by decide +kernel
theorem dX0_standsTooLong_20 : decode cX0_standsTooLong 20 = .ok (.ireturn, 1) := by decide +kernel
theorem dX0_meetThaw_0 : decode cX0_meetThaw 0 = .ok (.iload_n 2, 1) := by decide +kernel
theorem dX0_meetThaw_1 : decode cX0_meetThaw 1 = .ok (.bipush 60, 2) := by decide +kernel
theorem dX0_meetThaw_3 : decode cX0_meetThaw 3 = .ok (.if_icmp .ne 36, 3) := by decide +kernel
theorem dX0_meetThaw_6 : decode cX0_meetThaw 6 = .ok (.aload_n 0, 1) := by decide +kernel
theorem dX0_meetThaw_7 : decode cX0_meetThaw 7 = .ok (.aload_n 0, 1) := by decide +kernel
theorem dX0_meetThaw_8 : decode cX0_meetThaw 8 = .ok (.getfield 9, 3) := by decide +kernel
theorem dX0_meetThaw_11 : decode cX0_meetThaw 11 = .ok (.ifCond .eq 19, 3) := by decide +kernel
theorem dX0_meetThaw_14 : decode cX0_meetThaw 14 = .ok (.aload_n 0, 1) := by decide +kernel
theorem dX0_meetThaw_15 : decode cX0_meetThaw 15 = .ok (.getfield 91, 3) := by decide +kernel
theorem dX0_meetThaw_18 : decode cX0_meetThaw 18 = .ok (.aload_n 1, 1) := by decide +kernel
theorem dX0_meetThaw_19 : decode cX0_meetThaw 19 = .ok (.iconst 5, 1) := by decide +kernel
theorem dX0_meetThaw_20 : decode cX0_meetThaw 20 = .ok (.invokevirtual 72, 3) := by decide +kernel
theorem dX0_meetThaw_23 : decode cX0_meetThaw 23 = .ok (.if_icmp .gt 7, 3) := by decide +kernel
theorem dX0_meetThaw_26 : decode cX0_meetThaw 26 = .ok (.iconst 1, 1) := by decide +kernel
theorem dX0_meetThaw_27 : decode cX0_meetThaw 27 = .ok (.goto 4, 3) := by decide +kernel
theorem dX0_meetThaw_30 : decode cX0_meetThaw 30 = .ok (.iconst 0, 1) := by decide +kernel
theorem dX0_meetThaw_31 : decode cX0_meetThaw 31 = .ok (.putfield 9, 3) := by decide +kernel
theorem dX0_meetThaw_34 : decode cX0_meetThaw 34 = .ok (.aload_n 0, 1) := by decide +kernel
theorem dX0_meetThaw_35 : decode cX0_meetThaw 35 = .ok (.iconst 0, 1) := by decide +kernel
theorem dX0_meetThaw_36 : decode cX0_meetThaw 36 = .ok (.putfield 91, 3) := by decide +kernel
theorem dX0_meetThaw_39 : decode cX0_meetThaw 39 = .ok (.return_, 1) := by decide +kernel
theorem dX1_init_0 : decode cX1_init 0 = .ok (.aload_n 0, 1) := by decide +kernel
theorem dX1_init_1 : decode cX1_init 1 = .ok (.invokespecial 1, 3) := by decide +kernel
theorem dX1_init_4 : decode cX1_init 4 = .ok (.aload_n 0, 1) := by decide +kernel
theorem dX1_init_5 : decode cX1_init 5 = .ok (.iconst 1, 1) := by decide +kernel
theorem dX1_init_6 : decode cX1_init 6 = .ok (.putfield 7, 3) := by decide +kernel
theorem dX1_init_9 : decode cX1_init 9 = .ok (.aload_n 0, 1) := by decide +kernel
theorem dX1_init_10 : decode cX1_init 10 = .ok (.iconst 1, 1) := by decide +kernel
theorem dX1_init_11 : decode cX1_init 11 = .ok (.putfield 13, 3) := by decide +kernel
theorem dX1_init_14 : decode cX1_init 14 = .ok (.aload_n 0, 1) := by decide +kernel
theorem dX1_init_15 : decode cX1_init 15 = .ok (.iload_n 1, 1) := by decide +kernel
theorem dX1_init_16 : decode cX1_init 16 = .ok (.putfield 17, 3) := by decide +kernel
theorem dX1_init_19 : decode cX1_init 19 = .ok (.aload_n 0, 1) := by decide +kernel
theorem dX1_init_20 : decode cX1_init 20 = .ok (.iload_n 2, 1) := by decide +kernel
theorem dX1_init_21 : decode cX1_init 21 = .ok (.putfield 20, 3) := by decide +kernel
theorem dX1_init_24 : decode cX1_init 24 = .ok (.aload_n 0, 1) := by decide +kernel
theorem dX1_init_25 : decode cX1_init 25 = .ok (.iload_n 3, 1) := by decide +kernel
theorem dX1_init_26 : decode cX1_init 26 = .ok (.putfield 23, 3) := by decide +kernel
theorem dX1_init_29 : decode cX1_init 29 = .ok (.aload_n 0, 1) := by decide +kernel
theorem dX1_init_30 : decode cX1_init 30 = .ok (.iload_n 3, 1) := by decide +kernel
theorem dX1_init_31 : decode cX1_init 31 = .ok (.putfield 26, 3) := by decide +kernel
theorem dX1_init_34 : decode cX1_init 34 = .ok (.return_, 1) := by decide +kernel
theorem dX1_joins_0 : decode cX1_joins 0 = .ok (.aload_n 0, 1) := by decide +kernel
theorem dX1_joins_1 : decode cX1_joins 1 = .ok (.getfield 13, 3) := by decide +kernel
theorem dX1_joins_4 : decode cX1_joins 4 = .ok (.ifCond .eq 30, 3) := by decide +kernel
theorem dX1_joins_7 : decode cX1_joins 7 = .ok (.aload_n 0, 1) := by decide +kernel
theorem dX1_joins_8 : decode cX1_joins 8 = .ok (.getfield 17, 3) := by decide +kernel
theorem dX1_joins_11 : decode cX1_joins 11 = .ok (.iload_n 1, 1) := by decide +kernel
theorem dX1_joins_12 : decode cX1_joins 12 = .ok (.if_icmp .ne 22, 3) := by decide +kernel
theorem dX1_joins_15 : decode cX1_joins 15 = .ok (.aload_n 0, 1) := by decide +kernel
theorem dX1_joins_16 : decode cX1_joins 16 = .ok (.getfield 20, 3) := by decide +kernel
theorem dX1_joins_19 : decode cX1_joins 19 = .ok (.iload_n 2, 1) := by decide +kernel
theorem dX1_joins_20 : decode cX1_joins 20 = .ok (.if_icmp .ne 14, 3) := by decide +kernel
theorem dX1_joins_23 : decode cX1_joins 23 = .ok (.iload_n 3, 1) := by decide +kernel
theorem dX1_joins_24 : decode cX1_joins 24 = .ok (.aload_n 0, 1) := by decide +kernel
theorem dX1_joins_25 : decode cX1_joins 25 = .ok (.getfield 26, 3) := by decide +kernel
theorem dX1_joins_28 : decode cX1_joins 28 = .ok (.isub, 1) := by decide +kernel
theorem dX1_joins_29 : decode cX1_joins 29 = .ok (.bipush 7, 2) := by decide +kernel
theorem dX1_joins_31 : decode cX1_joins 31 = .ok (.if_icmp .le 5, 3) := by decide +kernel
theorem dX1_joins_34 : decode cX1_joins 34 = .ok (.iconst 0, 1) := by decide +kernel
theorem dX1_joins_35 : decode cX1_joins 35 = .ok (.ireturn, 1) := by decide +kernel
theorem dX1_joins_36 : decode cX1_joins 36 = .ok (.aload_n 0, 1) := by decide +kernel
theorem dX1_joins_37 : decode cX1_joins 37 = .ok (.iload_n 3, 1) := by decide +kernel
theorem dX1_joins_38 : decode cX1_joins 38 = .ok (.putfield 26, 3) := by decide +kernel
theorem dX1_joins_41 : decode cX1_joins 41 = .ok (.aload_n 0, 1) := by decide +kernel
theorem dX1_joins_42 : decode cX1_joins 42 = .ok (.dup, 1) := by decide +kernel
theorem dX1_joins_43 : decode cX1_joins 43 = .ok (.getfield 7, 3) := by decide +kernel
theorem dX1_joins_46 : decode cX1_joins 46 = .ok (.iconst 1, 1) := by decide +kernel
theorem dX1_joins_47 : decode cX1_joins 47 = .ok (.iadd, 1) := by decide +kernel
theorem dX1_joins_48 : decode cX1_joins 48 = .ok (.putfield 7, 3) := by decide +kernel
theorem dX1_joins_51 : decode cX1_joins 51 = .ok (.iconst 1, 1) := by decide +kernel
theorem dX1_joins_52 : decode cX1_joins 52 = .ok (.ireturn, 1) := by decide +kernel
theorem dX2_init_0 : decode cX2_init 0 = .ok (.aload_n 0, 1) := by decide +kernel
theorem dX2_init_1 : decode cX2_init 1 = .ok (.invokespecial 3, 3) := by decide +kernel
theorem dX2_init_4 : decode cX2_init 4 = .ok (.aload_n 0, 1) := by decide +kernel
theorem dX2_init_5 : decode cX2_init 5 = .ok (.iconst (-1), 1) := by decide +kernel
theorem dX2_init_6 : decode cX2_init 6 = .ok (.putfield 9, 3) := by decide +kernel
theorem dX2_init_9 : decode cX2_init 9 = .ok (.aload_n 0, 1) := by decide +kernel
theorem dX2_init_10 : decode cX2_init 10 = .ok (.iload_n 1, 1) := by decide +kernel
theorem dX2_init_11 : decode cX2_init 11 = .ok (.putfield 15, 3) := by decide +kernel
theorem dX2_init_14 : decode cX2_init 14 = .ok (.aload_n 0, 1) := by decide +kernel
theorem dX2_init_15 : decode cX2_init 15 = .ok (.iload_n 2, 1) := by decide +kernel
theorem dX2_init_16 : decode cX2_init 16 = .ok (.putfield 18, 3) := by decide +kernel
theorem dX2_init_19 : decode cX2_init 19 = .ok (.aload_n 0, 1) := by decide +kernel
theorem dX2_init_20 : decode cX2_init 20 = .ok (.iload_n 3, 1) := by decide +kernel
theorem dX2_init_21 : decode cX2_init 21 = .ok (.putfield 21, 3) := by decide +kernel
theorem dX2_init_24 : decode cX2_init 24 = .ok (.aload_n 0, 1) := by decide +kernel
theorem dX2_init_25 : decode cX2_init 25 = .ok (.iload 4, 2) := by decide +kernel
theorem dX2_init_27 : decode cX2_init 27 = .ok (.putfield 24, 3) := by decide +kernel
theorem dX2_init_30 : decode cX2_init 30 = .ok (.return_, 1) := by decide +kernel
theorem dX2_takeOver_0 : decode cX2_takeOver 0 = .ok (.aload_n 0, 1) := by decide +kernel
theorem dX2_takeOver_1 : decode cX2_takeOver 1 = .ok (.aload_n 1, 1) := by decide +kernel
theorem dX2_takeOver_2 : decode cX2_takeOver 2 = .ok (.getfield 27, 3) := by decide +kernel
theorem dX2_takeOver_5 : decode cX2_takeOver 5 = .ok (.putfield 32, 3) := by decide +kernel
theorem dX2_takeOver_8 : decode cX2_takeOver 8 = .ok (.aload_n 0, 1) := by decide +kernel
theorem dX2_takeOver_9 : decode cX2_takeOver 9 = .ok (.aload_n 1, 1) := by decide +kernel
theorem dX2_takeOver_10 : decode cX2_takeOver 10 = .ok (.getfield 33, 3) := by decide +kernel
theorem dX2_takeOver_13 : decode cX2_takeOver 13 = .ok (.putfield 36, 3) := by decide +kernel
theorem dX2_takeOver_16 : decode cX2_takeOver 16 = .ok (.aload_n 0, 1) := by decide +kernel
theorem dX2_takeOver_17 : decode cX2_takeOver 17 = .ok (.aload_n 1, 1) := by decide +kernel
theorem dX2_takeOver_18 : decode cX2_takeOver 18 = .ok (.getfield 37, 3) := by decide +kernel
theorem dX2_takeOver_21 : decode cX2_takeOver 21 = .ok (.putfield 40, 3) := by decide +kernel
theorem dX2_takeOver_24 : decode cX2_takeOver 24 = .ok (.aload_n 0, 1) := by decide +kernel
theorem dX2_takeOver_25 : decode cX2_takeOver 25 = .ok (.getfield 41, 3) := by decide +kernel
theorem dX2_takeOver_28 : decode cX2_takeOver 28 = .ok (.ifnonnull 5, 3) := by decide +kernel
theorem dX2_takeOver_31 : decode cX2_takeOver 31 = .ok (.iconst 0, 1) := by decide +kernel
theorem dX2_takeOver_32 : decode cX2_takeOver 32 = .ok (.ireturn, 1) := by decide +kernel
theorem dX2_takeOver_33 : decode cX2_takeOver 33 = .ok (.aload_n 0, 1) := by decide +kernel
theorem dX2_takeOver_34 : decode cX2_takeOver 34 = .ok (.getfield 41, 3) := by decide +kernel
theorem dX2_takeOver_37 : decode cX2_takeOver 37 = .ok (.getfield 45, 3) := by decide +kernel
theorem dX2_takeOver_40 : decode cX2_takeOver 40 = .ok (.aload_n 1, 1) := by decide +kernel
theorem dX2_takeOver_41 : decode cX2_takeOver 41 = .ok (.getfield 50, 3) := by decide +kernel
theorem dX2_takeOver_44 : decode cX2_takeOver 44 = .ok (.iadd, 1) := by decide +kernel
theorem dX2_takeOver_45 : decode cX2_takeOver 45 = .ok (.istore_n 2, 1) := by decide +kernel
theorem dX2_takeOver_46 : decode cX2_takeOver 46 = .ok (.aload_n 0, 1) := by decide +kernel
theorem dX2_takeOver_47 : decode cX2_takeOver 47 = .ok (.getfield 41, 3) := by decide +kernel
theorem dX2_takeOver_50 : decode cX2_takeOver 50 = .ok (.aload_n 1, 1) := by decide +kernel
theorem dX2_takeOver_51 : decode cX2_takeOver 51 = .ok (.getfield 53, 3) := by decide +kernel
theorem dX2_takeOver_54 : decode cX2_takeOver 54 = .ok (.putfield 45, 3) := by decide +kernel
theorem dX2_takeOver_57 : decode cX2_takeOver 57 = .ok (.iload_n 2, 1) := by decide +kernel
theorem dX2_takeOver_58 : decode cX2_takeOver 58 = .ok (.ireturn, 1) := by decide +kernel
theorem dX3_init_0 : decode cX3_init 0 = .ok (.aload_n 0, 1) := by decide +kernel
theorem dX3_init_1 : decode cX3_init 1 = .ok (.invokespecial 3, 3) := by decide +kernel
theorem dX3_init_4 : decode cX3_init 4 = .ok (.aload_n 0, 1) := by decide +kernel
theorem dX3_init_5 : decode cX3_init 5 = .ok (.new 9, 3) := by decide +kernel
theorem dX3_init_8 : decode cX3_init 8 = .ok (.dup, 1) := by decide +kernel
theorem dX3_init_9 : decode cX3_init 9 = .ok (.invokespecial 11, 3) := by decide +kernel
theorem dX3_init_12 : decode cX3_init 12 = .ok (.putfield 12, 3) := by decide +kernel
theorem dX3_init_15 : decode cX3_init 15 = .ok (.aload_n 0, 1) := by decide +kernel
theorem dX3_init_16 : decode cX3_init 16 = .ok (.sipush 360, 3) := by decide +kernel
theorem dX3_init_19 : decode cX3_init 19 = .ok (.newarray .int, 2) := by decide +kernel
theorem dX3_init_21 : decode cX3_init 21 = .ok (.putfield 18, 3) := by decide +kernel
theorem dX3_init_24 : decode cX3_init 24 = .ok (.aload_n 0, 1) := by decide +kernel
theorem dX3_init_25 : decode cX3_init 25 = .ok (.bipush 30, 2) := by decide +kernel
theorem dX3_init_27 : decode cX3_init 27 = .ok (.newarray .int, 2) := by decide +kernel
theorem dX3_init_29 : decode cX3_init 29 = .ok (.putfield 22, 3) := by decide +kernel
theorem dX3_init_32 : decode cX3_init 32 = .ok (.aload_n 0, 1) := by decide +kernel
theorem dX3_init_33 : decode cX3_init 33 = .ok (.bipush 12, 2) := by decide +kernel
theorem dX3_init_35 : decode cX3_init 35 = .ok (.newarray .int, 2) := by decide +kernel
theorem dX3_init_37 : decode cX3_init 37 = .ok (.putfield 25, 3) := by decide +kernel
theorem dX3_init_40 : decode cX3_init 40 = .ok (.iconst 0, 1) := by decide +kernel
theorem dX3_init_41 : decode cX3_init 41 = .ok (.istore_n 1, 1) := by decide +kernel
theorem dX3_init_42 : decode cX3_init 42 = .ok (.iload_n 1, 1) := by decide +kernel
theorem dX3_init_43 : decode cX3_init 43 = .ok (.bipush 12, 2) := by decide +kernel
theorem dX3_init_45 : decode cX3_init 45 = .ok (.if_icmp .ge 24, 3) := by decide +kernel
theorem dX3_init_48 : decode cX3_init 48 = .ok (.aload_n 0, 1) := by decide +kernel
theorem dX3_init_49 : decode cX3_init 49 = .ok (.getfield 12, 3) := by decide +kernel
theorem dX3_init_52 : decode cX3_init 52 = .ok (.new 28, 3) := by decide +kernel
theorem dX3_init_55 : decode cX3_init 55 = .ok (.dup, 1) := by decide +kernel
theorem dX3_init_56 : decode cX3_init 56 = .ok (.invokespecial 30, 3) := by decide +kernel
theorem dX3_init_59 : decode cX3_init 59 = .ok (.invokevirtual 31, 3) := by decide +kernel
theorem dX3_init_62 : decode cX3_init 62 = .ok (.pop, 1) := by decide +kernel
theorem dX3_init_63 : decode cX3_init 63 = .ok (.iinc 1 1, 3) := by decide +kernel
theorem dX3_init_66 : decode cX3_init 66 = .ok (.goto (-24), 3) := by decide +kernel
theorem dX3_init_69 : decode cX3_init 69 = .ok (.return_, 1) := by decide +kernel
theorem dX3_lieOver_0 : decode cX3_lieOver 0 = .ok (.aload_n 0, 1) := by decide +kernel
theorem dX3_lieOver_1 : decode cX3_lieOver 1 = .ok (.aload_n 1, 1) := by decide +kernel
theorem dX3_lieOver_2 : decode cX3_lieOver 2 = .ok (.invokevirtual 35, 3) := by decide +kernel
theorem dX3_lieOver_5 : decode cX3_lieOver 5 = .ok (.bipush 12, 2) := by decide +kernel
theorem dX3_lieOver_7 : decode cX3_lieOver 7 = .ok (.invokestatic 39, 3) := by decide +kernel
theorem dX3_lieOver_10 : decode cX3_lieOver 10 = .ok (.putfield 45, 3) := by decide +kernel
theorem dX3_lieOver_13 : decode cX3_lieOver 13 = .ok (.aload_n 0, 1) := by decide +kernel
theorem dX3_lieOver_14 : decode cX3_lieOver 14 = .ok (.aload_n 2, 1) := by decide +kernel
theorem dX3_lieOver_15 : decode cX3_lieOver 15 = .ok (.arraylength, 1) := by decide +kernel
theorem dX3_lieOver_16 : decode cX3_lieOver 16 = .ok (.ifCond .ne 7, 3) := by decide +kernel
theorem dX3_lieOver_19 : decode cX3_lieOver 19 = .ok (.iconst 0, 1) := by decide +kernel
theorem dX3_lieOver_20 : decode cX3_lieOver 20 = .ok (.goto 6, 3) := by decide +kernel
theorem dX3_lieOver_23 : decode cX3_lieOver 23 = .ok (.aload_n 2, 1) := by decide +kernel
theorem dX3_lieOver_24 : decode cX3_lieOver 24 = .ok (.iconst 0, 1) := by decide +kernel
theorem dX3_lieOver_25 : decode cX3_lieOver 25 = .ok (.iaload, 1) := by decide +kernel
theorem dX3_lieOver_26 : decode cX3_lieOver 26 = .ok (.putfield 49, 3) := by decide +kernel
theorem dX3_lieOver_29 : decode cX3_lieOver 29 = .ok (.iconst 0, 1) := by decide +kernel
theorem dX3_lieOver_30 : decode cX3_lieOver 30 = .ok (.istore_n 3, 1) := by decide +kernel
theorem dX3_lieOver_31 : decode cX3_lieOver 31 = .ok (.iload_n 3, 1) := by decide +kernel
theorem dX3_lieOver_32 : decode cX3_lieOver 32 = .ok (.aload_n 0, 1) := by decide +kernel
theorem dX3_lieOver_33 : decode cX3_lieOver 33 = .ok (.getfield 45, 3) := by decide +kernel
theorem dX3_lieOver_36 : decode cX3_lieOver 36 = .ok (.if_icmp .ge 90, 3) := by decide +kernel
theorem dX3_lieOver_39 : decode cX3_lieOver 39 = .ok (.aload_n 1, 1) := by decide +kernel
theorem dX3_lieOver_40 : decode cX3_lieOver 40 = .ok (.iload_n 3, 1) := by decide +kernel
theorem dX3_lieOver_41 : decode cX3_lieOver 41 = .ok (.invokevirtual 52, 3) := by decide +kernel
theorem dX3_lieOver_44 : decode cX3_lieOver 44 = .ok (.checkcast 56, 3) := by decide +kernel
theorem dX3_lieOver_47 : decode cX3_lieOver 47 = .ok (.astore 4, 2) := by decide +kernel
theorem dX3_lieOver_49 : decode cX3_lieOver 49 = .ok (.aload 4, 2) := by decide +kernel
theorem dX3_lieOver_51 : decode cX3_lieOver 51 = .ok (.getfield 58, 3) := by decide +kernel
theorem dX3_lieOver_54 : decode cX3_lieOver 54 = .ok (.iload_n 3, 1) := by decide +kernel
theorem dX3_lieOver_55 : decode cX3_lieOver 55 = .ok (.iconst 1, 1) := by decide +kernel
theorem dX3_lieOver_56 : decode cX3_lieOver 56 = .ok (.iadd, 1) := by decide +kernel
theorem dX3_lieOver_57 : decode cX3_lieOver 57 = .ok (.aload_n 0, 1) := by decide +kernel
theorem dX3_lieOver_58 : decode cX3_lieOver 58 = .ok (.getfield 45, 3) := by decide +kernel
theorem dX3_lieOver_61 : decode cX3_lieOver 61 = .ok (.iconst 1, 1) := by decide +kernel
theorem dX3_lieOver_62 : decode cX3_lieOver 62 = .ok (.isub, 1) := by decide +kernel
theorem dX3_lieOver_63 : decode cX3_lieOver 63 = .ok (.invokestatic 61, 3) := by decide +kernel
theorem dX3_lieOver_66 : decode cX3_lieOver 66 = .ok (.ifCond .eq 21, 3) := by decide +kernel
theorem dX3_lieOver_69 : decode cX3_lieOver 69 = .ok (.aload_n 0, 1) := by decide +kernel
theorem dX3_lieOver_70 : decode cX3_lieOver 70 = .ok (.getfield 12, 3) := by decide +kernel
theorem dX3_lieOver_73 : decode cX3_lieOver 73 = .ok (.aload 4, 2) := by decide +kernel
theorem dX3_lieOver_75 : decode cX3_lieOver 75 = .ok (.getfield 58, 3) := by decide +kernel
theorem dX3_lieOver_78 : decode cX3_lieOver 78 = .ok (.invokevirtual 52, 3) := by decide +kernel
theorem dX3_lieOver_81 : decode cX3_lieOver 81 = .ok (.checkcast 28, 3) := by decide +kernel
theorem dX3_lieOver_84 : decode cX3_lieOver 84 = .ok (.goto 4, 3) := by decide +kernel
theorem dX3_lieOver_87 : decode cX3_lieOver 87 = .ok (.aconst_null, 1) := by decide +kernel
theorem dX3_lieOver_88 : decode cX3_lieOver 88 = .ok (.astore 5, 2) := by decide +kernel
theorem dX3_lieOver_90 : decode cX3_lieOver 90 = .ok (.aload_n 0, 1) := by decide +kernel
theorem dX3_lieOver_91 : decode cX3_lieOver 91 = .ok (.getfield 12, 3) := by decide +kernel
theorem dX3_lieOver_94 : decode cX3_lieOver 94 = .ok (.iload_n 3, 1) := by decide +kernel
theorem dX3_lieOver_95 : decode cX3_lieOver 95 = .ok (.invokevirtual 52, 3) := by decide +kernel
theorem dX3_lieOver_98 : decode cX3_lieOver 98 = .ok (.checkcast 28, 3) := by decide +kernel
theorem dX3_lieOver_101 : decode cX3_lieOver 101 = .ok (.aload 4, 2) := by decide +kernel
theorem dX3_lieOver_103 : decode cX3_lieOver 103 = .ok (.aload 5, 2) := by decide +kernel
theorem dX3_lieOver_105 : decode cX3_lieOver 105 = .ok (.aload_n 2, 1) := by decide +kernel
theorem dX3_lieOver_106 : decode cX3_lieOver 106 = .ok (.invokevirtual 65, 3) := by decide +kernel
theorem dX3_lieOver_109 : decode cX3_lieOver 109 = .ok (.aload_n 0, 1) := by decide +kernel
theorem dX3_lieOver_110 : decode cX3_lieOver 110 = .ok (.getfield 25, 3) := by decide +kernel
theorem dX3_lieOver_113 : decode cX3_lieOver 113 = .ok (.iload_n 3, 1) := by decide +kernel
theorem dX3_lieOver_114 : decode cX3_lieOver 114 = .ok (.aload 4, 2) := by decide +kernel
theorem dX3_lieOver_116 : decode cX3_lieOver 116 = .ok (.getfield 69, 3) := by decide +kernel
theorem dX3_lieOver_119 : decode cX3_lieOver 119 = .ok (.iastore, 1) := by decide +kernel
theorem dX3_lieOver_120 : decode cX3_lieOver 120 = .ok (.iinc 3 1, 3) := by decide +kernel
theorem dX3_lieOver_123 : decode cX3_lieOver 123 = .ok (.goto (-92), 3) := by decide +kernel
theorem dX3_lieOver_126 : decode cX3_lieOver 126 = .ok (.return_, 1) := by decide +kernel
theorem dX3_letIn_0 : decode cX3_letIn 0 = .ok (.aload_n 0, 1) := by decide +kernel
theorem dX3_letIn_1 : decode cX3_letIn 1 = .ok (.iload_n 3, 1) := by decide +kernel
theorem dX3_letIn_2 : decode cX3_letIn 2 = .ok (.aload_n 2, 1) := by decide +kernel
theorem dX3_letIn_3 : decode cX3_letIn 3 = .ok (.arraylength, 1) := by decide +kernel
theorem dX3_letIn_4 : decode cX3_letIn 4 = .ok (.bipush 30, 2) := by decide +kernel
theorem dX3_letIn_6 : decode cX3_letIn 6 = .ok (.invokestatic 39, 3) := by decide +kernel
theorem dX3_letIn_9 : decode cX3_letIn 9 = .ok (.invokestatic 39, 3) := by decide +kernel
theorem dX3_letIn_12 : decode cX3_letIn 12 = .ok (.putfield 72, 3) := by decide +kernel
theorem dX3_letIn_15 : decode cX3_letIn 15 = .ok (.iconst 0, 1) := by decide +kernel
theorem dX3_letIn_16 : decode cX3_letIn 16 = .ok (.istore 4, 2) := by decide +kernel
theorem dX3_letIn_18 : decode cX3_letIn 18 = .ok (.iload 4, 2) := by decide +kernel
theorem dX3_letIn_20 : decode cX3_letIn 20 = .ok (.aload_n 0, 1) := by decide +kernel
theorem dX3_letIn_21 : decode cX3_letIn 21 = .ok (.getfield 72, 3) := by decide +kernel
theorem dX3_letIn_24 : decode cX3_letIn 24 = .ok (.if_icmp .ge 52, 3) := by decide +kernel
theorem dX3_letIn_27 : decode cX3_letIn 27 = .ok (.iconst 0, 1) := by decide +kernel
theorem dX3_letIn_28 : decode cX3_letIn 28 = .ok (.istore 5, 2) := by decide +kernel
theorem dX3_letIn_30 : decode cX3_letIn 30 = .ok (.iload 5, 2) := by decide +kernel
theorem dX3_letIn_32 : decode cX3_letIn 32 = .ok (.aload_n 0, 1) := by decide +kernel
theorem dX3_letIn_33 : decode cX3_letIn 33 = .ok (.getfield 45, 3) := by decide +kernel
theorem dX3_letIn_36 : decode cX3_letIn 36 = .ok (.if_icmp .ge 34, 3) := by decide +kernel
theorem dX3_letIn_39 : decode cX3_letIn 39 = .ok (.aload_n 0, 1) := by decide +kernel
theorem dX3_letIn_40 : decode cX3_letIn 40 = .ok (.getfield 18, 3) := by decide +kernel
theorem dX3_letIn_43 : decode cX3_letIn 43 = .ok (.iload 4, 2) := by decide +kernel
theorem dX3_letIn_45 : decode cX3_letIn 45 = .ok (.bipush 12, 2) := by decide +kernel
theorem dX3_letIn_47 : decode cX3_letIn 47 = .ok (.imul, 1) := by decide +kernel
theorem dX3_letIn_48 : decode cX3_letIn 48 = .ok (.iload 5, 2) := by decide +kernel
theorem dX3_letIn_50 : decode cX3_letIn 50 = .ok (.iadd, 1) := by decide +kernel
theorem dX3_letIn_51 : decode cX3_letIn 51 = .ok (.aload_n 2, 1) := by decide +kernel
theorem dX3_letIn_52 : decode cX3_letIn 52 = .ok (.iload 4, 2) := by decide +kernel
theorem dX3_letIn_54 : decode cX3_letIn 54 = .ok (.iaload, 1) := by decide +kernel
theorem dX3_letIn_55 : decode cX3_letIn 55 = .ok (.aload_n 0, 1) := by decide +kernel
theorem dX3_letIn_56 : decode cX3_letIn 56 = .ok (.getfield 25, 3) := by decide +kernel
theorem dX3_letIn_59 : decode cX3_letIn 59 = .ok (.iload 5, 2) := by decide +kernel
theorem dX3_letIn_61 : decode cX3_letIn 61 = .ok (.iaload, 1) := by decide +kernel
theorem dX3_letIn_62 : decode cX3_letIn 62 = .ok (.imul, 1) := by decide +kernel
theorem dX3_letIn_63 : decode cX3_letIn 63 = .ok (.iastore, 1) := by decide +kernel
theorem dX3_letIn_64 : decode cX3_letIn 64 = .ok (.iinc 5 1, 3) := by decide +kernel
theorem dX3_letIn_67 : decode cX3_letIn 67 = .ok (.goto (-37), 3) := by decide +kernel
theorem dX3_letIn_70 : decode cX3_letIn 70 = .ok (.iinc 4 1, 3) := by decide +kernel
theorem dX3_letIn_73 : decode cX3_letIn 73 = .ok (.goto (-55), 3) := by decide +kernel
theorem dX3_letIn_76 : decode cX3_letIn 76 = .ok (.iconst 0, 1) := by decide +kernel
theorem dX3_letIn_77 : decode cX3_letIn 77 = .ok (.istore 4, 2) := by decide +kernel
theorem dX3_letIn_79 : decode cX3_letIn 79 = .ok (.iload 4, 2) := by decide +kernel
theorem dX3_letIn_81 : decode cX3_letIn 81 = .ok (.aload_n 1, 1) := by decide +kernel
theorem dX3_letIn_82 : decode cX3_letIn 82 = .ok (.invokevirtual 35, 3) := by decide +kernel
theorem dX3_letIn_85 : decode cX3_letIn 85 = .ok (.if_icmp .ge 37, 3) := by decide +kernel
theorem dX3_letIn_88 : decode cX3_letIn 88 = .ok (.iload 4, 2) := by decide +kernel
theorem dX3_letIn_90 : decode cX3_letIn 90 = .ok (.bipush 30, 2) := by decide +kernel
theorem dX3_letIn_92 : decode cX3_letIn 92 = .ok (.if_icmp .ge 30, 3) := by decide +kernel
theorem dX3_letIn_95 : decode cX3_letIn 95 = .ok (.aload_n 0, 1) := by decide +kernel
theorem dX3_letIn_96 : decode cX3_letIn 96 = .ok (.getfield 22, 3) := by decide +kernel
theorem dX3_letIn_99 : decode cX3_letIn 99 = .ok (.iload 4, 2) := by decide +kernel
theorem dX3_letIn_101 : decode cX3_letIn 101 = .ok (.aload_n 0, 1) := by decide +kernel
theorem dX3_letIn_102 : decode cX3_letIn 102 = .ok (.aload_n 1, 1) := by decide +kernel
theorem dX3_letIn_103 : decode cX3_letIn 103 = .ok (.iload 4, 2) := by decide +kernel
theorem dX3_letIn_105 : decode cX3_letIn 105 = .ok (.invokevirtual 52, 3) := by decide +kernel
theorem dX3_letIn_108 : decode cX3_letIn 108 = .ok (.checkcast 75, 3) := by decide +kernel
theorem dX3_letIn_111 : decode cX3_letIn 111 = .ok (.aload_n 2, 1) := by decide +kernel
theorem dX3_letIn_112 : decode cX3_letIn 112 = .ok (.invokevirtual 77, 3) := by decide +kernel
theorem dX3_letIn_115 : decode cX3_letIn 115 = .ok (.iastore, 1) := by decide +kernel
theorem dX3_letIn_116 : decode cX3_letIn 116 = .ok (.iinc 4 1, 3) := by decide +kernel
theorem dX3_letIn_119 : decode cX3_letIn 119 = .ok (.goto (-40), 3) := by decide +kernel
theorem dX3_letIn_122 : decode cX3_letIn 122 = .ok (.return_, 1) := by decide +kernel
theorem dX3_letInFrom_0 : decode cX3_letInFrom 0 = .ok (.aload_n 1, 1) := by decide +kernel
theorem dX3_letInFrom_1 : decode cX3_letInFrom 1 = .ok (.getfield 81, 3) := by decide +kernel
theorem dX3_letInFrom_4 : decode cX3_letInFrom 4 = .ok (.istore_n 3, 1) := by decide +kernel
theorem dX3_letInFrom_5 : decode cX3_letInFrom 5 = .ok (.aload_n 1, 1) := by decide +kernel
theorem dX3_letInFrom_6 : decode cX3_letInFrom 6 = .ok (.getfield 84, 3) := by decide +kernel
theorem dX3_letInFrom_9 : decode cX3_letInFrom 9 = .ok (.iconst 0, 1) := by decide +kernel
theorem dX3_letInFrom_10 : decode cX3_letInFrom 10 = .ok (.aload_n 0, 1) := by decide +kernel
theorem dX3_letInFrom_11 : decode cX3_letInFrom 11 = .ok (.getfield 45, 3) := by decide +kernel
theorem dX3_letInFrom_14 : decode cX3_letInFrom 14 = .ok (.iconst 1, 1) := by decide +kernel
theorem dX3_letInFrom_15 : decode cX3_letInFrom 15 = .ok (.isub, 1) := by decide +kernel
theorem dX3_letInFrom_16 : decode cX3_letInFrom 16 = .ok (.invokestatic 61, 3) := by decide +kernel
theorem dX3_letInFrom_19 : decode cX3_letInFrom 19 = .ok (.ifCond .ne 5, 3) := by decide +kernel
theorem dX3_letInFrom_22 : decode cX3_letInFrom 22 = .ok (.iload_n 3, 1) := by decide +kernel
theorem dX3_letInFrom_23 : decode cX3_letInFrom 23 = .ok (.ireturn, 1) := by decide +kernel
theorem dX3_letInFrom_24 : decode cX3_letInFrom 24 = .ok (.iconst 0, 1) := by decide +kernel
theorem dX3_letInFrom_25 : decode cX3_letInFrom 25 = .ok (.istore 4, 2) := by decide +kernel
theorem dX3_letInFrom_27 : decode cX3_letInFrom 27 = .ok (.iload 4, 2) := by decide +kernel
theorem dX3_letInFrom_29 : decode cX3_letInFrom 29 = .ok (.aload_n 0, 1) := by decide +kernel
theorem dX3_letInFrom_30 : decode cX3_letInFrom 30 = .ok (.getfield 72, 3) := by decide +kernel
theorem dX3_letInFrom_33 : decode cX3_letInFrom 33 = .ok (.if_icmp .ge 68, 3) := by decide +kernel
theorem dX3_letInFrom_36 : decode cX3_letInFrom 36 = .ok (.iload 4, 2) := by decide +kernel
theorem dX3_letInFrom_38 : decode cX3_letInFrom 38 = .ok (.aload_n 2, 1) := by decide +kernel
theorem dX3_letInFrom_39 : decode cX3_letInFrom 39 = .ok (.arraylength, 1) := by decide +kernel
theorem dX3_letInFrom_40 : decode cX3_letInFrom 40 = .ok (.if_icmp .ge 61, 3) := by decide +kernel
theorem dX3_letInFrom_43 : decode cX3_letInFrom 43 = .ok (.aload_n 2, 1) := by decide +kernel
theorem dX3_letInFrom_44 : decode cX3_letInFrom 44 = .ok (.iload 4, 2) := by decide +kernel
theorem dX3_letInFrom_46 : decode cX3_letInFrom 46 = .ok (.iaload, 1) := by decide +kernel
theorem dX3_letInFrom_47 : decode cX3_letInFrom 47 = .ok (.aload_n 1, 1) := by decide +kernel
theorem dX3_letInFrom_48 : decode cX3_letInFrom 48 = .ok (.getfield 87, 3) := by decide +kernel
theorem dX3_letInFrom_51 : decode cX3_letInFrom 51 = .ok (.imul, 1) := by decide +kernel
theorem dX3_letInFrom_52 : decode cX3_letInFrom 52 = .ok (.istore 5, 2) := by decide +kernel
theorem dX3_letInFrom_54 : decode cX3_letInFrom 54 = .ok (.iload 5, 2) := by decide +kernel
theorem dX3_letInFrom_56 : decode cX3_letInFrom 56 = .ok (.aload_n 1, 1) := by decide +kernel
theorem dX3_letInFrom_57 : decode cX3_letInFrom 57 = .ok (.getfield 88, 3) := by decide +kernel
theorem dX3_letInFrom_60 : decode cX3_letInFrom 60 = .ok (.iload_n 3, 1) := by decide +kernel
theorem dX3_letInFrom_61 : decode cX3_letInFrom 61 = .ok (.isub, 1) := by decide +kernel
theorem dX3_letInFrom_62 : decode cX3_letInFrom 62 = .ok (.invokestatic 39, 3) := by decide +kernel
theorem dX3_letInFrom_65 : decode cX3_letInFrom 65 = .ok (.istore 6, 2) := by decide +kernel
theorem dX3_letInFrom_67 : decode cX3_letInFrom 67 = .ok (.iload_n 3, 1) := by decide +kernel
theorem dX3_letInFrom_68 : decode cX3_letInFrom 68 = .ok (.iload 6, 2) := by decide +kernel
theorem dX3_letInFrom_70 : decode cX3_letInFrom 70 = .ok (.iadd, 1) := by decide +kernel
theorem dX3_letInFrom_71 : decode cX3_letInFrom 71 = .ok (.istore_n 3, 1) := by decide +kernel
theorem dX3_letInFrom_72 : decode cX3_letInFrom 72 = .ok (.aload_n 0, 1) := by decide +kernel
theorem dX3_letInFrom_73 : decode cX3_letInFrom 73 = .ok (.getfield 18, 3) := by decide +kernel
theorem dX3_letInFrom_76 : decode cX3_letInFrom 76 = .ok (.iload 4, 2) := by decide +kernel
theorem dX3_letInFrom_78 : decode cX3_letInFrom 78 = .ok (.bipush 12, 2) := by decide +kernel
theorem dX3_letInFrom_80 : decode cX3_letInFrom 80 = .ok (.imul, 1) := by decide +kernel
theorem dX3_letInFrom_81 : decode cX3_letInFrom 81 = .ok (.aload_n 1, 1) := by decide +kernel
theorem dX3_letInFrom_82 : decode cX3_letInFrom 82 = .ok (.getfield 84, 3) := by decide +kernel
theorem dX3_letInFrom_85 : decode cX3_letInFrom 85 = .ok (.iadd, 1) := by decide +kernel
theorem dX3_letInFrom_86 : decode cX3_letInFrom 86 = .ok (.dup2, 1) := by decide +kernel
theorem dX3_letInFrom_87 : decode cX3_letInFrom 87 = .ok (.iaload, 1) := by decide +kernel
theorem dX3_letInFrom_88 : decode cX3_letInFrom 88 = .ok (.iload 5, 2) := by decide +kernel
theorem dX3_letInFrom_90 : decode cX3_letInFrom 90 = .ok (.iload 6, 2) := by decide +kernel
theorem dX3_letInFrom_92 : decode cX3_letInFrom 92 = .ok (.isub, 1) := by decide +kernel
theorem dX3_letInFrom_93 : decode cX3_letInFrom 93 = .ok (.iadd, 1) := by decide +kernel
theorem dX3_letInFrom_94 : decode cX3_letInFrom 94 = .ok (.iastore, 1) := by decide +kernel
theorem dX3_letInFrom_95 : decode cX3_letInFrom 95 = .ok (.iinc 4 1, 3) := by decide +kernel
theorem dX3_letInFrom_98 : decode cX3_letInFrom 98 = .ok (.goto (-71), 3) := by decide +kernel
theorem dX3_letInFrom_101 : decode cX3_letInFrom 101 = .ok (.iload_n 3, 1) := by decide +kernel
theorem dX3_letInFrom_102 : decode cX3_letInFrom 102 = .ok (.ireturn, 1) := by decide +kernel
theorem dX3_run_0 : decode cX3_run 0 = .ok (.aload_n 0, 1) := by decide +kernel
theorem dX3_run_1 : decode cX3_run 1 = .ok (.iconst 0, 1) := by decide +kernel
theorem dX3_run_2 : decode cX3_run 2 = .ok (.putfield 91, 3) := by decide +kernel
theorem dX3_run_5 : decode cX3_run 5 = .ok (.aload_n 0, 1) := by decide +kernel
theorem dX3_run_6 : decode cX3_run 6 = .ok (.iconst 0, 1) := by decide +kernel
theorem dX3_run_7 : decode cX3_run 7 = .ok (.putfield 94, 3) := by decide +kernel
theorem dX3_run_10 : decode cX3_run 10 = .ok (.iconst 0, 1) := by decide +kernel
theorem dX3_run_11 : decode cX3_run 11 = .ok (.istore_n 2, 1) := by decide +kernel
theorem dX3_run_12 : decode cX3_run 12 = .ok (.iload_n 2, 1) := by decide +kernel
theorem dX3_run_13 : decode cX3_run 13 = .ok (.aload_n 0, 1) := by decide +kernel
theorem dX3_run_14 : decode cX3_run 14 = .ok (.getfield 45, 3) := by decide +kernel
theorem dX3_run_17 : decode cX3_run 17 = .ok (.if_icmp .ge 28, 3) := by decide +kernel
theorem dX3_run_20 : decode cX3_run 20 = .ok (.aload_n 0, 1) := by decide +kernel
theorem dX3_run_21 : decode cX3_run 21 = .ok (.getfield 12, 3) := by decide +kernel
theorem dX3_run_24 : decode cX3_run 24 = .ok (.iload_n 2, 1) := by decide +kernel
theorem dX3_run_25 : decode cX3_run 25 = .ok (.invokevirtual 52, 3) := by decide +kernel
theorem dX3_run_28 : decode cX3_run 28 = .ok (.checkcast 28, 3) := by decide +kernel
theorem dX3_run_31 : decode cX3_run 31 = .ok (.iload_n 1, 1) := by decide +kernel
theorem dX3_run_32 : decode cX3_run 32 = .ok (.iload_n 2, 1) := by decide +kernel
theorem dX3_run_33 : decode cX3_run 33 = .ok (.invokestatic 97, 3) := by decide +kernel
theorem dX3_run_36 : decode cX3_run 36 = .ok (.invokevirtual 101, 3) := by decide +kernel
theorem dX3_run_39 : decode cX3_run 39 = .ok (.iinc 2 1, 3) := by decide +kernel
theorem dX3_run_42 : decode cX3_run 42 = .ok (.goto (-30), 3) := by decide +kernel
theorem dX3_run_45 : decode cX3_run 45 = .ok (.iconst 0, 1) := by decide +kernel
theorem dX3_run_46 : decode cX3_run 46 = .ok (.istore_n 2, 1) := by decide +kernel
theorem dX3_run_47 : decode cX3_run 47 = .ok (.iload_n 2, 1) := by decide +kernel
theorem dX3_run_48 : decode cX3_run 48 = .ok (.aload_n 0, 1) := by decide +kernel
theorem dX3_run_49 : decode cX3_run 49 = .ok (.getfield 72, 3) := by decide +kernel
theorem dX3_run_52 : decode cX3_run 52 = .ok (.if_icmp .ge 94, 3) := by decide +kernel
theorem dX3_run_55 : decode cX3_run 55 = .ok (.iconst 0, 1) := by decide +kernel
theorem dX3_run_56 : decode cX3_run 56 = .ok (.istore_n 3, 1) := by decide +kernel
theorem dX3_run_57 : decode cX3_run 57 = .ok (.iconst 0, 1) := by decide +kernel
theorem dX3_run_58 : decode cX3_run 58 = .ok (.istore 4, 2) := by decide +kernel
theorem dX3_run_60 : decode cX3_run 60 = .ok (.iload 4, 2) := by decide +kernel
theorem dX3_run_62 : decode cX3_run 62 = .ok (.aload_n 0, 1) := by decide +kernel
theorem dX3_run_63 : decode cX3_run 63 = .ok (.getfield 45, 3) := by decide +kernel
theorem dX3_run_66 : decode cX3_run 66 = .ok (.if_icmp .ge 52, 3) := by decide +kernel
theorem dX3_run_69 : decode cX3_run 69 = .ok (.aload_n 0, 1) := by decide +kernel
theorem dX3_run_70 : decode cX3_run 70 = .ok (.getfield 12, 3) := by decide +kernel
theorem dX3_run_73 : decode cX3_run 73 = .ok (.iload 4, 2) := by decide +kernel
theorem dX3_run_75 : decode cX3_run 75 = .ok (.invokevirtual 52, 3) := by decide +kernel
theorem dX3_run_78 : decode cX3_run 78 = .ok (.checkcast 28, 3) := by decide +kernel
theorem dX3_run_81 : decode cX3_run 81 = .ok (.astore 5, 2) := by decide +kernel
theorem dX3_run_83 : decode cX3_run 83 = .ok (.aload 5, 2) := by decide +kernel
theorem dX3_run_85 : decode cX3_run 85 = .ok (.aload_n 0, 1) := by decide +kernel
theorem dX3_run_86 : decode cX3_run 86 = .ok (.getfield 18, 3) := by decide +kernel
theorem dX3_run_89 : decode cX3_run 89 = .ok (.iload_n 2, 1) := by decide +kernel
theorem dX3_run_90 : decode cX3_run 90 = .ok (.bipush 12, 2) := by decide +kernel
theorem dX3_run_92 : decode cX3_run 92 = .ok (.imul, 1) := by decide +kernel
theorem dX3_run_93 : decode cX3_run 93 = .ok (.iload 4, 2) := by decide +kernel
theorem dX3_run_95 : decode cX3_run 95 = .ok (.iadd, 1) := by decide +kernel
theorem dX3_run_96 : decode cX3_run 96 = .ok (.iaload, 1) := by decide +kernel
theorem dX3_run_97 : decode cX3_run 97 = .ok (.aload_n 0, 1) := by decide +kernel
theorem dX3_run_98 : decode cX3_run 98 = .ok (.getfield 49, 3) := by decide +kernel
theorem dX3_run_101 : decode cX3_run 101 = .ok (.invokevirtual 105, 3) := by decide +kernel
theorem dX3_run_104 : decode cX3_run 104 = .ok (.iload_n 3, 1) := by decide +kernel
theorem dX3_run_105 : decode cX3_run 105 = .ok (.aload 5, 2) := by decide +kernel
theorem dX3_run_107 : decode cX3_run 107 = .ok (.getfield 109, 3) := by decide +kernel
theorem dX3_run_110 : decode cX3_run 110 = .ok (.iadd, 1) := by decide +kernel
theorem dX3_run_111 : decode cX3_run 111 = .ok (.istore_n 3, 1) := by decide +kernel
theorem dX3_run_112 : decode cX3_run 112 = .ok (.iinc 4 1, 3) := by decide +kernel
theorem dX3_run_115 : decode cX3_run 115 = .ok (.goto (-55), 3) := by decide +kernel
theorem dX3_run_118 : decode cX3_run 118 = .ok (.aload_n 0, 1) := by decide +kernel
theorem dX3_run_119 : decode cX3_run 119 = .ok (.dup, 1) := by decide +kernel
theorem dX3_run_120 : decode cX3_run 120 = .ok (.getfield 91, 3) := by decide +kernel
theorem dX3_run_123 : decode cX3_run 123 = .ok (.iload_n 3, 1) := by decide +kernel
theorem dX3_run_124 : decode cX3_run 124 = .ok (.iadd, 1) := by decide +kernel
theorem dX3_run_125 : decode cX3_run 125 = .ok (.putfield 91, 3) := by decide +kernel
theorem dX3_run_128 : decode cX3_run 128 = .ok (.aload_n 0, 1) := by decide +kernel
theorem dX3_run_129 : decode cX3_run 129 = .ok (.aload_n 0, 1) := by decide +kernel
theorem dX3_run_130 : decode cX3_run 130 = .ok (.getfield 94, 3) := by decide +kernel
theorem dX3_run_133 : decode cX3_run 133 = .ok (.iload_n 3, 1) := by decide +kernel
theorem dX3_run_134 : decode cX3_run 134 = .ok (.invokestatic 112, 3) := by decide +kernel
theorem dX3_run_137 : decode cX3_run 137 = .ok (.putfield 94, 3) := by decide +kernel
theorem dX3_run_140 : decode cX3_run 140 = .ok (.iinc 2 1, 3) := by decide +kernel
theorem dX3_run_143 : decode cX3_run 143 = .ok (.goto (-96), 3) := by decide +kernel
theorem dX3_run_146 : decode cX3_run 146 = .ok (.return_, 1) := by decide +kernel
theorem dX3_barrelAfter_0 : decode cX3_barrelAfter 0 = .ok (.iload_n 1, 1) := by decide +kernel
theorem dX3_barrelAfter_1 : decode cX3_barrelAfter 1 = .ok (.ifCond .lt 21, 3) := by decide +kernel
theorem dX3_barrelAfter_4 : decode cX3_barrelAfter 4 = .ok (.iload_n 1, 1) := by decide +kernel
theorem dX3_barrelAfter_5 : decode cX3_barrelAfter 5 = .ok (.aload_n 0, 1) := by decide +kernel
theorem dX3_barrelAfter_6 : decode cX3_barrelAfter 6 = .ok (.getfield 22, 3) := by decide +kernel
theorem dX3_barrelAfter_9 : decode cX3_barrelAfter 9 = .ok (.arraylength, 1) := by decide +kernel
theorem dX3_barrelAfter_10 : decode cX3_barrelAfter 10 = .ok (.if_icmp .ge 12, 3) := by decide +kernel
theorem dX3_barrelAfter_13 : decode cX3_barrelAfter 13 = .ok (.aload_n 0, 1) := by decide +kernel
theorem dX3_barrelAfter_14 : decode cX3_barrelAfter 14 = .ok (.getfield 22, 3) := by decide +kernel
theorem dX3_barrelAfter_17 : decode cX3_barrelAfter 17 = .ok (.iload_n 1, 1) := by decide +kernel
theorem dX3_barrelAfter_18 : decode cX3_barrelAfter 18 = .ok (.iaload, 1) := by decide +kernel
theorem dX3_barrelAfter_19 : decode cX3_barrelAfter 19 = .ok (.goto 4, 3) := by decide +kernel
theorem dX3_barrelAfter_22 : decode cX3_barrelAfter 22 = .ok (.iconst 0, 1) := by decide +kernel
theorem dX3_barrelAfter_23 : decode cX3_barrelAfter 23 = .ok (.ireturn, 1) := by decide +kernel
theorem dX3_spiltAt_0 : decode cX3_spiltAt 0 = .ok (.iload_n 1, 1) := by decide +kernel
theorem dX3_spiltAt_1 : decode cX3_spiltAt 1 = .ok (.iconst 0, 1) := by decide +kernel
theorem dX3_spiltAt_2 : decode cX3_spiltAt 2 = .ok (.aload_n 0, 1) := by decide +kernel
theorem dX3_spiltAt_3 : decode cX3_spiltAt 3 = .ok (.getfield 45, 3) := by decide +kernel
theorem dX3_spiltAt_6 : decode cX3_spiltAt 6 = .ok (.iconst 1, 1) := by decide +kernel
theorem dX3_spiltAt_7 : decode cX3_spiltAt 7 = .ok (.isub, 1) := by decide +kernel
theorem dX3_spiltAt_8 : decode cX3_spiltAt 8 = .ok (.invokestatic 61, 3) := by decide +kernel
theorem dX3_spiltAt_11 : decode cX3_spiltAt 11 = .ok (.ifCond .eq 20, 3) := by decide +kernel
theorem dX3_spiltAt_14 : decode cX3_spiltAt 14 = .ok (.aload_n 0, 1) := by decide +kernel
theorem dX3_spiltAt_15 : decode cX3_spiltAt 15 = .ok (.getfield 12, 3) := by decide +kernel
theorem dX3_spiltAt_18 : decode cX3_spiltAt 18 = .ok (.iload_n 1, 1) := by decide +kernel
theorem dX3_spiltAt_19 : decode cX3_spiltAt 19 = .ok (.invokevirtual 52, 3) := by decide +kernel
theorem dX3_spiltAt_22 : decode cX3_spiltAt 22 = .ok (.checkcast 28, 3) := by decide +kernel
theorem dX3_spiltAt_25 : decode cX3_spiltAt 25 = .ok (.getfield 115, 3) := by decide +kernel
theorem dX3_spiltAt_28 : decode cX3_spiltAt 28 = .ok (.goto 4, 3) := by decide +kernel
theorem dX3_spiltAt_31 : decode cX3_spiltAt 31 = .ok (.iconst 0, 1) := by decide +kernel
theorem dX3_spiltAt_32 : decode cX3_spiltAt 32 = .ok (.ireturn, 1) := by decide +kernel
theorem dX3_spilt_0 : decode cX3_spilt 0 = .ok (.iconst 0, 1) := by decide +kernel
theorem dX3_spilt_1 : decode cX3_spilt 1 = .ok (.istore_n 1, 1) := by decide +kernel
theorem dX3_spilt_2 : decode cX3_spilt 2 = .ok (.iconst 0, 1) := by decide +kernel
theorem dX3_spilt_3 : decode cX3_spilt 3 = .ok (.istore_n 2, 1) := by decide +kernel
theorem dX3_spilt_4 : decode cX3_spilt 4 = .ok (.iload_n 2, 1) := by decide +kernel
theorem dX3_spilt_5 : decode cX3_spilt 5 = .ok (.aload_n 0, 1) := by decide +kernel
theorem dX3_spilt_6 : decode cX3_spilt 6 = .ok (.getfield 45, 3) := by decide +kernel
theorem dX3_spilt_9 : decode cX3_spilt 9 = .ok (.if_icmp .ge 26, 3) := by decide +kernel
theorem dX3_spilt_12 : decode cX3_spilt 12 = .ok (.iload_n 1, 1) := by decide +kernel
theorem dX3_spilt_13 : decode cX3_spilt 13 = .ok (.aload_n 0, 1) := by decide +kernel
theorem dX3_spilt_14 : decode cX3_spilt 14 = .ok (.getfield 12, 3) := by decide +kernel
theorem dX3_spilt_17 : decode cX3_spilt 17 = .ok (.iload_n 2, 1) := by decide +kernel
theorem dX3_spilt_18 : decode cX3_spilt 18 = .ok (.invokevirtual 52, 3) := by decide +kernel
theorem dX3_spilt_21 : decode cX3_spilt 21 = .ok (.checkcast 28, 3) := by decide +kernel
theorem dX3_spilt_24 : decode cX3_spilt 24 = .ok (.getfield 115, 3) := by decide +kernel
theorem dX3_spilt_27 : decode cX3_spilt 27 = .ok (.iadd, 1) := by decide +kernel
theorem dX3_spilt_28 : decode cX3_spilt 28 = .ok (.istore_n 1, 1) := by decide +kernel
theorem dX3_spilt_29 : decode cX3_spilt 29 = .ok (.iinc 2 1, 3) := by decide +kernel
theorem dX3_spilt_32 : decode cX3_spilt 32 = .ok (.goto (-28), 3) := by decide +kernel
theorem dX3_spilt_35 : decode cX3_spilt 35 = .ok (.iload_n 1, 1) := by decide +kernel
theorem dX3_spilt_36 : decode cX3_spilt 36 = .ok (.ireturn, 1) := by decide +kernel
theorem dX3_wet_0 : decode cX3_wet 0 = .ok (.iconst 0, 1) := by decide +kernel
theorem dX3_wet_1 : decode cX3_wet 1 = .ok (.istore_n 1, 1) := by decide +kernel
theorem dX3_wet_2 : decode cX3_wet 2 = .ok (.iconst 0, 1) := by decide +kernel
theorem dX3_wet_3 : decode cX3_wet 3 = .ok (.istore_n 2, 1) := by decide +kernel
theorem dX3_wet_4 : decode cX3_wet 4 = .ok (.iload_n 2, 1) := by decide +kernel
theorem dX3_wet_5 : decode cX3_wet 5 = .ok (.aload_n 0, 1) := by decide +kernel
theorem dX3_wet_6 : decode cX3_wet 6 = .ok (.getfield 45, 3) := by decide +kernel
theorem dX3_wet_9 : decode cX3_wet 9 = .ok (.if_icmp .ge 26, 3) := by decide +kernel
theorem dX3_wet_12 : decode cX3_wet 12 = .ok (.iload_n 1, 1) := by decide +kernel
theorem dX3_wet_13 : decode cX3_wet 13 = .ok (.aload_n 0, 1) := by decide +kernel
theorem dX3_wet_14 : decode cX3_wet 14 = .ok (.getfield 12, 3) := by decide +kernel
theorem dX3_wet_17 : decode cX3_wet 17 = .ok (.iload_n 2, 1) := by decide +kernel
theorem dX3_wet_18 : decode cX3_wet 18 = .ok (.invokevirtual 52, 3) := by decide +kernel
theorem dX3_wet_21 : decode cX3_wet 21 = .ok (.checkcast 28, 3) := by decide +kernel
theorem dX3_wet_24 : decode cX3_wet 24 = .ok (.getfield 118, 3) := by decide +kernel
theorem dX3_wet_27 : decode cX3_wet 27 = .ok (.iadd, 1) := by decide +kernel
theorem dX3_wet_28 : decode cX3_wet 28 = .ok (.istore_n 1, 1) := by decide +kernel
theorem dX3_wet_29 : decode cX3_wet 29 = .ok (.iinc 2 1, 3) := by decide +kernel
theorem dX3_wet_32 : decode cX3_wet 32 = .ok (.goto (-28), 3) := by decide +kernel
theorem dX3_wet_35 : decode cX3_wet 35 = .ok (.iload_n 1, 1) := by decide +kernel
theorem dX3_wet_36 : decode cX3_wet 36 = .ok (.ireturn, 1) := by decide +kernel
theorem dX3_weight_0 : decode cX3_weight 0 = .ok (.iload_n 1, 1) := by decide +kernel
theorem dX3_weight_1 : decode cX3_weight 1 = .ok (.i2l, 1) := by decide +kernel
theorem dX3_weight_2 : decode cX3_weight 2 = .ok (.aload_n 0, 1) := by decide +kernel
theorem dX3_weight_3 : decode cX3_weight 3 = .ok (.invokevirtual 121, 3) := by decide +kernel
theorem dX3_weight_6 : decode cX3_weight 6 = .ok (.i2l, 1) := by decide +kernel
theorem dX3_weight_7 : decode cX3_weight 7 = .ok (.lmul, 1) := by decide +kernel
theorem dX3_weight_8 : decode cX3_weight 8 = .ok (.aload_n 0, 1) := by decide +kernel
theorem dX3_weight_9 : decode cX3_weight 9 = .ok (.invokevirtual 123, 3) := by decide +kernel
theorem dX3_weight_12 : decode cX3_weight 12 = .ok (.i2l, 1) := by decide +kernel
theorem dX3_weight_13 : decode cX3_weight 13 = .ok (.ladd, 1) := by decide +kernel
theorem dX3_weight_14 : decode cX3_weight 14 = .ok (.lreturn, 1) := by decide +kernel
theorem dX4_init_0 : decode cX4_init 0 = .ok (.aload_n 0, 1) := by decide +kernel
theorem dX4_init_1 : decode cX4_init 1 = .ok (.invokespecial 3, 3) := by decide +kernel
theorem dX4_init_4 : decode cX4_init 4 = .ok (.aload_n 0, 1) := by decide +kernel
theorem dX4_init_5 : decode cX4_init 5 = .ok (.new 9, 3) := by decide +kernel
theorem dX4_init_8 : decode cX4_init 8 = .ok (.dup, 1) := by decide +kernel
theorem dX4_init_9 : decode cX4_init 9 = .ok (.invokespecial 11, 3) := by decide +kernel
theorem dX4_init_12 : decode cX4_init 12 = .ok (.putfield 12, 3) := by decide +kernel
theorem dX4_init_15 : decode cX4_init 15 = .ok (.aload_n 0, 1) := by decide +kernel
theorem dX4_init_16 : decode cX4_init 16 = .ok (.bipush 21, 2) := by decide +kernel
theorem dX4_init_18 : decode cX4_init 18 = .ok (.newarray .int, 2) := by decide +kernel
theorem dX4_init_20 : decode cX4_init 20 = .ok (.putfield 18, 3) := by decide +kernel
theorem dX4_init_23 : decode cX4_init 23 = .ok (.aload_n 0, 1) := by decide +kernel
theorem dX4_init_24 : decode cX4_init 24 = .ok (.iload_n 1, 1) := by decide +kernel
theorem dX4_init_25 : decode cX4_init 25 = .ok (.putfield 22, 3) := by decide +kernel
theorem dX4_init_28 : decode cX4_init 28 = .ok (.aload_n 0, 1) := by decide +kernel
theorem dX4_init_29 : decode cX4_init 29 = .ok (.iload_n 2, 1) := by decide +kernel
theorem dX4_init_30 : decode cX4_init 30 = .ok (.putfield 26, 3) := by decide +kernel
theorem dX4_init_33 : decode cX4_init 33 = .ok (.iconst 0, 1) := by decide +kernel
theorem dX4_init_34 : decode cX4_init 34 = .ok (.istore_n 3, 1) := by decide +kernel
theorem dX4_init_35 : decode cX4_init 35 = .ok (.iload_n 3, 1) := by decide +kernel
theorem dX4_init_36 : decode cX4_init 36 = .ok (.aload_n 0, 1) := by decide +kernel
theorem dX4_init_37 : decode cX4_init 37 = .ok (.getfield 18, 3) := by decide +kernel
theorem dX4_init_40 : decode cX4_init 40 = .ok (.arraylength, 1) := by decide +kernel
theorem dX4_init_41 : decode cX4_init 41 = .ok (.if_icmp .ge 28, 3) := by decide +kernel
theorem dX4_init_44 : decode cX4_init 44 = .ok (.iload_n 3, 1) := by decide +kernel
theorem dX4_init_45 : decode cX4_init 45 = .ok (.getstatic 29, 3) := by decide +kernel
theorem dX4_init_48 : decode cX4_init 48 = .ok (.arraylength, 1) := by decide +kernel
theorem dX4_init_49 : decode cX4_init 49 = .ok (.if_icmp .ge 20, 3) := by decide +kernel
theorem dX4_init_52 : decode cX4_init 52 = .ok (.aload_n 0, 1) := by decide +kernel
theorem dX4_init_53 : decode cX4_init 53 = .ok (.getfield 18, 3) := by decide +kernel
theorem dX4_init_56 : decode cX4_init 56 = .ok (.iload_n 3, 1) := by decide +kernel
theorem dX4_init_57 : decode cX4_init 57 = .ok (.getstatic 29, 3) := by decide +kernel
theorem dX4_init_60 : decode cX4_init 60 = .ok (.iload_n 3, 1) := by decide +kernel
theorem dX4_init_61 : decode cX4_init 61 = .ok (.iaload, 1) := by decide +kernel
theorem dX4_init_62 : decode cX4_init 62 = .ok (.iastore, 1) := by decide +kernel
theorem dX4_init_63 : decode cX4_init 63 = .ok (.iinc 3 1, 3) := by decide +kernel
theorem dX4_init_66 : decode cX4_init 66 = .ok (.goto (-31), 3) := by decide +kernel
theorem dX4_init_69 : decode cX4_init 69 = .ok (.return_, 1) := by decide +kernel
theorem dX4_value_0 : decode cX4_value 0 = .ok (.iload_n 1, 1) := by decide +kernel
theorem dX4_value_1 : decode cX4_value 1 = .ok (.ifCond .lt 21, 3) := by decide +kernel
theorem dX4_value_4 : decode cX4_value 4 = .ok (.iload_n 1, 1) := by decide +kernel
theorem dX4_value_5 : decode cX4_value 5 = .ok (.aload_n 0, 1) := by decide +kernel
theorem dX4_value_6 : decode cX4_value 6 = .ok (.getfield 18, 3) := by decide +kernel
theorem dX4_value_9 : decode cX4_value 9 = .ok (.arraylength, 1) := by decide +kernel
theorem dX4_value_10 : decode cX4_value 10 = .ok (.if_icmp .ge 12, 3) := by decide +kernel
theorem dX4_value_13 : decode cX4_value 13 = .ok (.aload_n 0, 1) := by decide +kernel
theorem dX4_value_14 : decode cX4_value 14 = .ok (.getfield 18, 3) := by decide +kernel
theorem dX4_value_17 : decode cX4_value 17 = .ok (.iload_n 1, 1) := by decide +kernel
theorem dX4_value_18 : decode cX4_value 18 = .ok (.iaload, 1) := by decide +kernel
theorem dX4_value_19 : decode cX4_value 19 = .ok (.goto 4, 3) := by decide +kernel
theorem dX4_value_22 : decode cX4_value 22 = .ok (.iconst 0, 1) := by decide +kernel
theorem dX4_value_23 : decode cX4_value 23 = .ok (.ireturn, 1) := by decide +kernel
theorem dX4_put_0 : decode cX4_put 0 = .ok (.iload_n 1, 1) := by decide +kernel
theorem dX4_put_1 : decode cX4_put 1 = .ok (.ifCond .lt 19, 3) := by decide +kernel
theorem dX4_put_4 : decode cX4_put 4 = .ok (.iload_n 1, 1) := by decide +kernel
theorem dX4_put_5 : decode cX4_put 5 = .ok (.aload_n 0, 1) := by decide +kernel
theorem dX4_put_6 : decode cX4_put 6 = .ok (.getfield 18, 3) := by decide +kernel
theorem dX4_put_9 : decode cX4_put 9 = .ok (.arraylength, 1) := by decide +kernel
theorem dX4_put_10 : decode cX4_put 10 = .ok (.if_icmp .ge 10, 3) := by decide +kernel
theorem dX4_put_13 : decode cX4_put 13 = .ok (.aload_n 0, 1) := by decide +kernel
theorem dX4_put_14 : decode cX4_put 14 = .ok (.getfield 18, 3) := by decide +kernel
theorem dX4_put_17 : decode cX4_put 17 = .ok (.iload_n 1, 1) := by decide +kernel
theorem dX4_put_18 : decode cX4_put 18 = .ok (.iload_n 2, 1) := by decide +kernel
theorem dX4_put_19 : decode cX4_put 19 = .ok (.iastore, 1) := by decide +kernel
theorem dX4_put_20 : decode cX4_put 20 = .ok (.return_, 1) := by decide +kernel
theorem dX4_leavesFallOn_0 : decode cX4_leavesFallOn 0 = .ok (.iload_n 1, 1) := by decide +kernel
theorem dX4_leavesFallOn_1 : decode cX4_leavesFallOn 1 = .ok (.aload_n 0, 1) := by decide +kernel
theorem dX4_leavesFallOn_2 : decode cX4_leavesFallOn 2 = .ok (.iconst 1, 1) := by decide +kernel
theorem dX4_leavesFallOn_3 : decode cX4_leavesFallOn 3 = .ok (.invokevirtual 32, 3) := by decide +kernel
theorem dX4_leavesFallOn_6 : decode cX4_leavesFallOn 6 = .ok (.if_icmp .lt 7, 3) := by decide +kernel
theorem dX4_leavesFallOn_9 : decode cX4_leavesFallOn 9 = .ok (.iconst 1, 1) := by decide +kernel
theorem dX4_leavesFallOn_10 : decode cX4_leavesFallOn 10 = .ok (.goto 4, 3) := by decide +kernel
theorem dX4_leavesFallOn_13 : decode cX4_leavesFallOn 13 = .ok (.iconst 0, 1) := by decide +kernel
theorem dX4_leavesFallOn_14 : decode cX4_leavesFallOn 14 = .ok (.istore_n 2, 1) := by decide +kernel
theorem dX4_leavesFallOn_15 : decode cX4_leavesFallOn 15 = .ok (.iload_n 1, 1) := by decide +kernel
theorem dX4_leavesFallOn_16 : decode cX4_leavesFallOn 16 = .ok (.aload_n 0, 1) := by decide +kernel
theorem dX4_leavesFallOn_17 : decode cX4_leavesFallOn 17 = .ok (.iconst 2, 1) := by decide +kernel
theorem dX4_leavesFallOn_18 : decode cX4_leavesFallOn 18 = .ok (.invokevirtual 32, 3) := by decide +kernel
theorem dX4_leavesFallOn_21 : decode cX4_leavesFallOn 21 = .ok (.if_icmp .gt 7, 3) := by decide +kernel
theorem dX4_leavesFallOn_24 : decode cX4_leavesFallOn 24 = .ok (.iconst 1, 1) := by decide +kernel
theorem dX4_leavesFallOn_25 : decode cX4_leavesFallOn 25 = .ok (.goto 4, 3) := by decide +kernel
theorem dX4_leavesFallOn_28 : decode cX4_leavesFallOn 28 = .ok (.iconst 0, 1) := by decide +kernel
theorem dX4_leavesFallOn_29 : decode cX4_leavesFallOn 29 = .ok (.istore_n 3, 1) := by decide +kernel
theorem dX4_leavesFallOn_30 : decode cX4_leavesFallOn 30 = .ok (.aload_n 0, 1) := by decide +kernel
theorem dX4_leavesFallOn_31 : decode cX4_leavesFallOn 31 = .ok (.iconst 1, 1) := by decide +kernel
theorem dX4_leavesFallOn_32 : decode cX4_leavesFallOn 32 = .ok (.invokevirtual 32, 3) := by decide +kernel
theorem dX4_leavesFallOn_35 : decode cX4_leavesFallOn 35 = .ok (.aload_n 0, 1) := by decide +kernel
theorem dX4_leavesFallOn_36 : decode cX4_leavesFallOn 36 = .ok (.iconst 2, 1) := by decide +kernel
theorem dX4_leavesFallOn_37 : decode cX4_leavesFallOn 37 = .ok (.invokevirtual 32, 3) := by decide +kernel
theorem dX4_leavesFallOn_40 : decode cX4_leavesFallOn 40 = .ok (.if_icmp .gt 19, 3) := by decide +kernel
theorem dX4_leavesFallOn_43 : decode cX4_leavesFallOn 43 = .ok (.iload_n 2, 1) := by decide +kernel
theorem dX4_leavesFallOn_44 : decode cX4_leavesFallOn 44 = .ok (.ifCond .eq 11, 3) := by decide +kernel
theorem dX4_leavesFallOn_47 : decode cX4_leavesFallOn 47 = .ok (.iload_n 3, 1) := by decide +kernel
theorem dX4_leavesFallOn_48 : decode cX4_leavesFallOn 48 = .ok (.ifCond .eq 7, 3) := by decide +kernel
theorem dX4_leavesFallOn_51 : decode cX4_leavesFallOn 51 = .ok (.iconst 1, 1) := by decide +kernel
theorem dX4_leavesFallOn_52 : decode cX4_leavesFallOn 52 = .ok (.goto 20, 3) := by decide +kernel
theorem dX4_leavesFallOn_55 : decode cX4_leavesFallOn 55 = .ok (.iconst 0, 1) := by decide +kernel
theorem dX4_leavesFallOn_56 : decode cX4_leavesFallOn 56 = .ok (.goto 16, 3) := by decide +kernel
theorem dX4_leavesFallOn_59 : decode cX4_leavesFallOn 59 = .ok (.iload_n 2, 1) := by decide +kernel
theorem dX4_leavesFallOn_60 : decode cX4_leavesFallOn 60 = .ok (.ifCond .ne 7, 3) := by decide +kernel
theorem dX4_leavesFallOn_63 : decode cX4_leavesFallOn 63 = .ok (.iload_n 3, 1) := by decide +kernel
theorem dX4_leavesFallOn_64 : decode cX4_leavesFallOn 64 = .ok (.ifCond .eq 7, 3) := by decide +kernel
theorem dX4_leavesFallOn_67 : decode cX4_leavesFallOn 67 = .ok (.iconst 1, 1) := by decide +kernel
theorem dX4_leavesFallOn_68 : decode cX4_leavesFallOn 68 = .ok (.goto 4, 3) := by decide +kernel
theorem dX4_leavesFallOn_71 : decode cX4_leavesFallOn 71 = .ok (.iconst 0, 1) := by decide +kernel
theorem dX4_leavesFallOn_72 : decode cX4_leavesFallOn 72 = .ok (.ireturn, 1) := by decide +kernel
theorem dX5_init_0 : decode cX5_init 0 = .ok (.aload_n 0, 1) := by decide +kernel
theorem dX5_init_1 : decode cX5_init 1 = .ok (.invokespecial 3, 3) := by decide +kernel
theorem dX5_init_4 : decode cX5_init 4 = .ok (.return_, 1) := by decide +kernel
theorem dX5_lieAt_0 : decode cX5_lieAt 0 = .ok (.aload_n 0, 1) := by decide +kernel
theorem dX5_lieAt_1 : decode cX5_lieAt 1 = .ok (.aload_n 1, 1) := by decide +kernel
theorem dX5_lieAt_2 : decode cX5_lieAt 2 = .ok (.getfield 9, 3) := by decide +kernel
theorem dX5_lieAt_5 : decode cX5_lieAt 5 = .ok (.putfield 15, 3) := by decide +kernel
theorem dX5_lieAt_8 : decode cX5_lieAt 8 = .ok (.aload_n 0, 1) := by decide +kernel
theorem dX5_lieAt_9 : decode cX5_lieAt 9 = .ok (.aload_n 1, 1) := by decide +kernel
theorem dX5_lieAt_10 : decode cX5_lieAt 10 = .ok (.getfield 18, 3) := by decide +kernel
theorem dX5_lieAt_13 : decode cX5_lieAt 13 = .ok (.putfield 21, 3) := by decide +kernel
theorem dX5_lieAt_16 : decode cX5_lieAt 16 = .ok (.aload_n 0, 1) := by decide +kernel
theorem dX5_lieAt_17 : decode cX5_lieAt 17 = .ok (.aload_n 2, 1) := by decide +kernel
theorem dX5_lieAt_18 : decode cX5_lieAt 18 = .ok (.putfield 22, 3) := by decide +kernel
theorem dX5_lieAt_21 : decode cX5_lieAt 21 = .ok (.aload_n 0, 1) := by decide +kernel
theorem dX5_lieAt_22 : decode cX5_lieAt 22 = .ok (.aload_n 1, 1) := by decide +kernel
theorem dX5_lieAt_23 : decode cX5_lieAt 23 = .ok (.getfield 26, 3) := by decide +kernel
theorem dX5_lieAt_26 : decode cX5_lieAt 26 = .ok (.ifnonnull 7, 3) := by decide +kernel
theorem dX5_lieAt_29 : decode cX5_lieAt 29 = .ok (.iconst 0, 1) := by decide +kernel
theorem dX5_lieAt_30 : decode cX5_lieAt 30 = .ok (.goto 10, 3) := by decide +kernel
theorem dX5_lieAt_33 : decode cX5_lieAt 33 = .ok (.aload_n 1, 1) := by decide +kernel
theorem dX5_lieAt_34 : decode cX5_lieAt 34 = .ok (.getfield 26, 3) := by decide +kernel
theorem dX5_lieAt_37 : decode cX5_lieAt 37 = .ok (.getfield 30, 3) := by decide +kernel
theorem dX5_lieAt_40 : decode cX5_lieAt 40 = .ok (.putfield 35, 3) := by decide +kernel
theorem dX5_lieAt_43 : decode cX5_lieAt 43 = .ok (.aload_n 0, 1) := by decide +kernel
theorem dX5_lieAt_44 : decode cX5_lieAt 44 = .ok (.aload_n 1, 1) := by decide +kernel
theorem dX5_lieAt_45 : decode cX5_lieAt 45 = .ok (.getfield 26, 3) := by decide +kernel
theorem dX5_lieAt_48 : decode cX5_lieAt 48 = .ok (.ifnonnull 7, 3) := by decide +kernel
theorem dX5_lieAt_51 : decode cX5_lieAt 51 = .ok (.iconst 0, 1) := by decide +kernel
theorem dX5_lieAt_52 : decode cX5_lieAt 52 = .ok (.goto 11, 3) := by decide +kernel
theorem dX5_lieAt_55 : decode cX5_lieAt 55 = .ok (.aload_n 1, 1) := by decide +kernel
theorem dX5_lieAt_56 : decode cX5_lieAt 56 = .ok (.getfield 26, 3) := by decide +kernel
theorem dX5_lieAt_59 : decode cX5_lieAt 59 = .ok (.aload_n 3, 1) := by decide +kernel
theorem dX5_lieAt_60 : decode cX5_lieAt 60 = .ok (.invokevirtual 36, 3) := by decide +kernel
theorem dX5_lieAt_63 : decode cX5_lieAt 63 = .ok (.putfield 40, 3) := by decide +kernel
theorem dX5_lieAt_66 : decode cX5_lieAt 66 = .ok (.aload_n 0, 1) := by decide +kernel
theorem dX5_lieAt_67 : decode cX5_lieAt 67 = .ok (.aload_n 1, 1) := by decide +kernel
theorem dX5_lieAt_68 : decode cX5_lieAt 68 = .ok (.getfield 26, 3) := by decide +kernel
theorem dX5_lieAt_71 : decode cX5_lieAt 71 = .ok (.ifnonnull 7, 3) := by decide +kernel
theorem dX5_lieAt_74 : decode cX5_lieAt 74 = .ok (.iconst 0, 1) := by decide +kernel
theorem dX5_lieAt_75 : decode cX5_lieAt 75 = .ok (.goto 13, 3) := by decide +kernel
theorem dX5_lieAt_78 : decode cX5_lieAt 78 = .ok (.bipush 10, 2) := by decide +kernel
theorem dX5_lieAt_80 : decode cX5_lieAt 80 = .ok (.aload_n 1, 1) := by decide +kernel
theorem dX5_lieAt_81 : decode cX5_lieAt 81 = .ok (.getfield 26, 3) := by decide +kernel
theorem dX5_lieAt_84 : decode cX5_lieAt 84 = .ok (.getfield 42, 3) := by decide +kernel
theorem dX5_lieAt_87 : decode cX5_lieAt 87 = .ok (.isub, 1) := by decide +kernel
theorem dX5_lieAt_88 : decode cX5_lieAt 88 = .ok (.putfield 45, 3) := by decide +kernel
theorem dX5_lieAt_91 : decode cX5_lieAt 91 = .ok (.return_, 1) := by decide +kernel
theorem dX5_start_0 : decode cX5_start 0 = .ok (.aload_n 0, 1) := by decide +kernel
theorem dX5_start_1 : decode cX5_start 1 = .ok (.iload_n 1, 1) := by decide +kernel
theorem dX5_start_2 : decode cX5_start 2 = .ok (.putfield 48, 3) := by decide +kernel
theorem dX5_start_5 : decode cX5_start 5 = .ok (.aload_n 0, 1) := by decide +kernel
theorem dX5_start_6 : decode cX5_start 6 = .ok (.iconst 0, 1) := by decide +kernel
theorem dX5_start_7 : decode cX5_start 7 = .ok (.putfield 52, 3) := by decide +kernel
theorem dX5_start_10 : decode cX5_start 10 = .ok (.aload_n 0, 1) := by decide +kernel
theorem dX5_start_11 : decode cX5_start 11 = .ok (.iconst 0, 1) := by decide +kernel
theorem dX5_start_12 : decode cX5_start 12 = .ok (.putfield 55, 3) := by decide +kernel
theorem dX5_start_15 : decode cX5_start 15 = .ok (.aload_n 0, 1) := by decide +kernel
theorem dX5_start_16 : decode cX5_start 16 = .ok (.iconst 0, 1) := by decide +kernel
theorem dX5_start_17 : decode cX5_start 17 = .ok (.putfield 58, 3) := by decide +kernel
theorem dX5_start_20 : decode cX5_start 20 = .ok (.aload_n 0, 1) := by decide +kernel
theorem dX5_start_21 : decode cX5_start 21 = .ok (.iconst 0, 1) := by decide +kernel
theorem dX5_start_22 : decode cX5_start 22 = .ok (.putfield 61, 3) := by decide +kernel
theorem dX5_start_25 : decode cX5_start 25 = .ok (.aload_n 0, 1) := by decide +kernel
theorem dX5_start_26 : decode cX5_start 26 = .ok (.iconst 0, 1) := by decide +kernel
theorem dX5_start_27 : decode cX5_start 27 = .ok (.putfield 64, 3) := by decide +kernel
theorem dX5_start_30 : decode cX5_start 30 = .ok (.aload_n 0, 1) := by decide +kernel
theorem dX5_start_31 : decode cX5_start 31 = .ok (.iconst 0, 1) := by decide +kernel
theorem dX5_start_32 : decode cX5_start 32 = .ok (.putfield 67, 3) := by decide +kernel
theorem dX5_start_35 : decode cX5_start 35 = .ok (.aload_n 0, 1) := by decide +kernel
theorem dX5_start_36 : decode cX5_start 36 = .ok (.iconst 0, 1) := by decide +kernel
theorem dX5_start_37 : decode cX5_start 37 = .ok (.putfield 70, 3) := by decide +kernel
theorem dX5_start_40 : decode cX5_start 40 = .ok (.return_, 1) := by decide +kernel
theorem dX5_soak_0 : decode cX5_soak 0 = .ok (.aload_n 0, 1) := by decide +kernel
theorem dX5_soak_1 : decode cX5_soak 1 = .ok (.getfield 48, 3) := by decide +kernel
theorem dX5_soak_4 : decode cX5_soak 4 = .ok (.ifCond .eq 7, 3) := by decide +kernel
theorem dX5_soak_7 : decode cX5_soak 7 = .ok (.iload_n 1, 1) := by decide +kernel
theorem dX5_soak_8 : decode cX5_soak 8 = .ok (.goto 12, 3) := by decide +kernel
theorem dX5_soak_11 : decode cX5_soak 11 = .ok (.iload_n 1, 1) := by decide +kernel
theorem dX5_soak_12 : decode cX5_soak 12 = .ok (.aload_n 0, 1) := by decide +kernel
theorem dX5_soak_13 : decode cX5_soak 13 = .ok (.getfield 45, 3) := by decide +kernel
theorem dX5_soak_16 : decode cX5_soak 16 = .ok (.imul, 1) := by decide +kernel
theorem dX5_soak_17 : decode cX5_soak 17 = .ok (.bipush 10, 2) := by decide +kernel
theorem dX5_soak_19 : decode cX5_soak 19 = .ok (.idiv, 1) := by decide +kernel
theorem dX5_soak_20 : decode cX5_soak 20 = .ok (.istore_n 3, 1) := by decide +kernel
theorem dX5_soak_21 : decode cX5_soak 21 = .ok (.iload_n 3, 1) := by decide +kernel
theorem dX5_soak_22 : decode cX5_soak 22 = .ok (.aload_n 0, 1) := by decide +kernel
theorem dX5_soak_23 : decode cX5_soak 23 = .ok (.getfield 48, 3) := by decide +kernel
theorem dX5_soak_26 : decode cX5_soak 26 = .ok (.ifCond .eq 8, 3) := by decide +kernel
theorem dX5_soak_29 : decode cX5_soak 29 = .ok (.bipush 100, 2) := by decide +kernel
theorem dX5_soak_31 : decode cX5_soak 31 = .ok (.goto 7, 3) := by decide +kernel
theorem dX5_soak_34 : decode cX5_soak 34 = .ok (.aload_n 0, 1) := by decide +kernel
theorem dX5_soak_35 : decode cX5_soak 35 = .ok (.getfield 35, 3) := by decide +kernel
theorem dX5_soak_38 : decode cX5_soak 38 = .ok (.aload_n 0, 1) := by decide +kernel
theorem dX5_soak_39 : decode cX5_soak 39 = .ok (.getfield 52, 3) := by decide +kernel
theorem dX5_soak_42 : decode cX5_soak 42 = .ok (.isub, 1) := by decide +kernel
theorem dX5_soak_43 : decode cX5_soak 43 = .ok (.invokestatic 73, 3) := by decide +kernel
theorem dX5_soak_46 : decode cX5_soak 46 = .ok (.istore 4, 2) := by decide +kernel
theorem dX5_soak_48 : decode cX5_soak 48 = .ok (.aload_n 0, 1) := by decide +kernel
theorem dX5_soak_49 : decode cX5_soak 49 = .ok (.getfield 52, 3) := by decide +kernel
theorem dX5_soak_52 : decode cX5_soak 52 = .ok (.iload 4, 2) := by decide +kernel
theorem dX5_soak_54 : decode cX5_soak 54 = .ok (.iadd, 1) := by decide +kernel
theorem dX5_soak_55 : decode cX5_soak 55 = .ok (.aload_n 0, 1) := by decide +kernel
theorem dX5_soak_56 : decode cX5_soak 56 = .ok (.getfield 48, 3) := by decide +kernel
theorem dX5_soak_59 : decode cX5_soak 59 = .ok (.ifCond .eq 7, 3) := by decide +kernel
theorem dX5_soak_62 : decode cX5_soak 62 = .ok (.iload_n 2, 1) := by decide +kernel
theorem dX5_soak_63 : decode cX5_soak 63 = .ok (.goto 7, 3) := by decide +kernel
theorem dX5_soak_66 : decode cX5_soak 66 = .ok (.aload_n 0, 1) := by decide +kernel
theorem dX5_soak_67 : decode cX5_soak 67 = .ok (.getfield 40, 3) := by decide +kernel
theorem dX5_soak_70 : decode cX5_soak 70 = .ok (.invokestatic 73, 3) := by decide +kernel
theorem dX5_soak_73 : decode cX5_soak 73 = .ok (.istore 5, 2) := by decide +kernel
theorem dX5_soak_75 : decode cX5_soak 75 = .ok (.aload_n 0, 1) := by decide +kernel
theorem dX5_soak_76 : decode cX5_soak 76 = .ok (.dup, 1) := by decide +kernel
theorem dX5_soak_77 : decode cX5_soak 77 = .ok (.getfield 52, 3) := by decide +kernel
theorem dX5_soak_80 : decode cX5_soak 80 = .ok (.iload 4, 2) := by decide +kernel
theorem dX5_soak_82 : decode cX5_soak 82 = .ok (.iload 5, 2) := by decide +kernel
theorem dX5_soak_84 : decode cX5_soak 84 = .ok (.isub, 1) := by decide +kernel
theorem dX5_soak_85 : decode cX5_soak 85 = .ok (.iadd, 1) := by decide +kernel
theorem dX5_soak_86 : decode cX5_soak 86 = .ok (.putfield 52, 3) := by decide +kernel
theorem dX5_soak_89 : decode cX5_soak 89 = .ok (.aload_n 0, 1) := by decide +kernel
theorem dX5_soak_90 : decode cX5_soak 90 = .ok (.dup, 1) := by decide +kernel
theorem dX5_soak_91 : decode cX5_soak 91 = .ok (.getfield 61, 3) := by decide +kernel
theorem dX5_soak_94 : decode cX5_soak 94 = .ok (.iload 5, 2) := by decide +kernel
theorem dX5_soak_96 : decode cX5_soak 96 = .ok (.iadd, 1) := by decide +kernel
theorem dX5_soak_97 : decode cX5_soak 97 = .ok (.putfield 61, 3) := by decide +kernel
theorem dX5_soak_100 : decode cX5_soak 100 = .ok (.iload 4, 2) := by decide +kernel
theorem dX5_soak_102 : decode cX5_soak 102 = .ok (.ireturn, 1) := by decide +kernel
theorem dX5_minute_0 : decode cX5_minute 0 = .ok (.iload_n 1, 1) := by decide +kernel
theorem dX5_minute_1 : decode cX5_minute 1 = .ok (.aload_n 0, 1) := by decide +kernel
theorem dX5_minute_2 : decode cX5_minute 2 = .ok (.getfield 55, 3) := by decide +kernel
theorem dX5_minute_5 : decode cX5_minute 5 = .ok (.iadd, 1) := by decide +kernel
theorem dX5_minute_6 : decode cX5_minute 6 = .ok (.istore_n 3, 1) := by decide +kernel
theorem dX5_minute_7 : decode cX5_minute 7 = .ok (.iload_n 3, 1) := by decide +kernel
theorem dX5_minute_8 : decode cX5_minute 8 = .ok (.aload_n 0, 1) := by decide +kernel
theorem dX5_minute_9 : decode cX5_minute 9 = .ok (.iload_n 3, 1) := by decide +kernel
theorem dX5_minute_10 : decode cX5_minute 10 = .ok (.iload_n 2, 1) := by decide +kernel
theorem dX5_minute_11 : decode cX5_minute 11 = .ok (.invokevirtual 79, 3) := by decide +kernel
theorem dX5_minute_14 : decode cX5_minute 14 = .ok (.isub, 1) := by decide +kernel
theorem dX5_minute_15 : decode cX5_minute 15 = .ok (.aload_n 0, 1) := by decide +kernel
theorem dX5_minute_16 : decode cX5_minute 16 = .ok (.getfield 58, 3) := by decide +kernel
theorem dX5_minute_19 : decode cX5_minute 19 = .ok (.iadd, 1) := by decide +kernel
theorem dX5_minute_20 : decode cX5_minute 20 = .ok (.istore 4, 2) := by decide +kernel
theorem dX5_minute_22 : decode cX5_minute 22 = .ok (.iload 4, 2) := by decide +kernel
theorem dX5_minute_24 : decode cX5_minute 24 = .ok (.aload_n 0, 1) := by decide +kernel
theorem dX5_minute_25 : decode cX5_minute 25 = .ok (.getfield 15, 3) := by decide +kernel
theorem dX5_minute_28 : decode cX5_minute 28 = .ok (.invokestatic 73, 3) := by decide +kernel
theorem dX5_minute_31 : decode cX5_minute 31 = .ok (.istore 5, 2) := by decide +kernel
theorem dX5_minute_33 : decode cX5_minute 33 = .ok (.iload 4, 2) := by decide +kernel
theorem dX5_minute_35 : decode cX5_minute 35 = .ok (.iload 5, 2) := by decide +kernel
theorem dX5_minute_37 : decode cX5_minute 37 = .ok (.isub, 1) := by decide +kernel
theorem dX5_minute_38 : decode cX5_minute 38 = .ok (.istore 6, 2) := by decide +kernel
theorem dX5_minute_40 : decode cX5_minute 40 = .ok (.aload_n 0, 1) := by decide +kernel
theorem dX5_minute_41 : decode cX5_minute 41 = .ok (.getfield 22, 3) := by decide +kernel
theorem dX5_minute_44 : decode cX5_minute 44 = .ok (.ifnonnull 7, 3) := by decide +kernel
theorem dX5_minute_47 : decode cX5_minute 47 = .ok (.iconst 0, 1) := by decide +kernel
theorem dX5_minute_48 : decode cX5_minute 48 = .ok (.goto 7, 3) := by decide +kernel
theorem dX5_minute_51 : decode cX5_minute 51 = .ok (.iload 6, 2) := by decide +kernel
theorem dX5_minute_53 : decode cX5_minute 53 = .ok (.iconst 2, 1) := by decide +kernel
theorem dX5_minute_54 : decode cX5_minute 54 = .ok (.idiv, 1) := by decide +kernel
theorem dX5_minute_55 : decode cX5_minute 55 = .ok (.istore 7, 2) := by decide +kernel
theorem dX5_minute_57 : decode cX5_minute 57 = .ok (.aload_n 0, 1) := by decide +kernel
theorem dX5_minute_58 : decode cX5_minute 58 = .ok (.getfield 22, 3) := by decide +kernel
theorem dX5_minute_61 : decode cX5_minute 61 = .ok (.ifnull 31, 3) := by decide +kernel
theorem dX5_minute_64 : decode cX5_minute 64 = .ok (.aload_n 0, 1) := by decide +kernel
theorem dX5_minute_65 : decode cX5_minute 65 = .ok (.getfield 22, 3) := by decide +kernel
theorem dX5_minute_68 : decode cX5_minute 68 = .ok (.dup, 1) := by decide +kernel
theorem dX5_minute_69 : decode cX5_minute 69 = .ok (.getfield 58, 3) := by decide +kernel
theorem dX5_minute_72 : decode cX5_minute 72 = .ok (.iload 5, 2) := by decide +kernel
theorem dX5_minute_74 : decode cX5_minute 74 = .ok (.iadd, 1) := by decide +kernel
theorem dX5_minute_75 : decode cX5_minute 75 = .ok (.putfield 58, 3) := by decide +kernel
theorem dX5_minute_78 : decode cX5_minute 78 = .ok (.aload_n 0, 1) := by decide +kernel
theorem dX5_minute_79 : decode cX5_minute 79 = .ok (.getfield 22, 3) := by decide +kernel
theorem dX5_minute_82 : decode cX5_minute 82 = .ok (.dup, 1) := by decide +kernel
theorem dX5_minute_83 : decode cX5_minute 83 = .ok (.getfield 55, 3) := by decide +kernel
theorem dX5_minute_86 : decode cX5_minute 86 = .ok (.iload 7, 2) := by decide +kernel
theorem dX5_minute_88 : decode cX5_minute 88 = .ok (.iadd, 1) := by decide +kernel
theorem dX5_minute_89 : decode cX5_minute 89 = .ok (.putfield 55, 3) := by decide +kernel
theorem dX5_minute_92 : decode cX5_minute 92 = .ok (.aload_n 0, 1) := by decide +kernel
theorem dX5_minute_93 : decode cX5_minute 93 = .ok (.aload_n 0, 1) := by decide +kernel
theorem dX5_minute_94 : decode cX5_minute 94 = .ok (.getfield 22, 3) := by decide +kernel
theorem dX5_minute_97 : decode cX5_minute 97 = .ok (.ifnonnull 8, 3) := by decide +kernel
theorem dX5_minute_100 : decode cX5_minute 100 = .ok (.iload 5, 2) := by decide +kernel
theorem dX5_minute_102 : decode cX5_minute 102 = .ok (.goto 4, 3) := by decide +kernel
theorem dX5_minute_105 : decode cX5_minute 105 = .ok (.iconst 0, 1) := by decide +kernel
theorem dX5_minute_106 : decode cX5_minute 106 = .ok (.putfield 82, 3) := by decide +kernel
theorem dX5_minute_109 : decode cX5_minute 109 = .ok (.aload_n 0, 1) := by decide +kernel
theorem dX5_minute_110 : decode cX5_minute 110 = .ok (.dup, 1) := by decide +kernel
theorem dX5_minute_111 : decode cX5_minute 111 = .ok (.getfield 64, 3) := by decide +kernel
theorem dX5_minute_114 : decode cX5_minute 114 = .ok (.iload 6, 2) := by decide +kernel
theorem dX5_minute_116 : decode cX5_minute 116 = .ok (.iload 7, 2) := by decide +kernel
theorem dX5_minute_118 : decode cX5_minute 118 = .ok (.isub, 1) := by decide +kernel
theorem dX5_minute_119 : decode cX5_minute 119 = .ok (.iadd, 1) := by decide +kernel
theorem dX5_minute_120 : decode cX5_minute 120 = .ok (.putfield 64, 3) := by decide +kernel
theorem dX5_minute_123 : decode cX5_minute 123 = .ok (.aload_n 0, 1) := by decide +kernel
theorem dX5_minute_124 : decode cX5_minute 124 = .ok (.aload_n 0, 1) := by decide +kernel
theorem dX5_minute_125 : decode cX5_minute 125 = .ok (.getfield 67, 3) := by decide +kernel
theorem dX5_minute_128 : decode cX5_minute 128 = .ok (.iload 5, 2) := by decide +kernel
theorem dX5_minute_130 : decode cX5_minute 130 = .ok (.invokestatic 85, 3) := by decide +kernel
theorem dX5_minute_133 : decode cX5_minute 133 = .ok (.putfield 67, 3) := by decide +kernel
theorem dX5_minute_136 : decode cX5_minute 136 = .ok (.aload_n 0, 1) := by decide +kernel
theorem dX5_minute_137 : decode cX5_minute 137 = .ok (.dup, 1) := by decide +kernel
theorem dX5_minute_138 : decode cX5_minute 138 = .ok (.getfield 70, 3) := by decide +kernel
theorem dX5_minute_141 : decode cX5_minute 141 = .ok (.aload_n 0, 1) := by decide +kernel
theorem dX5_minute_142 : decode cX5_minute 142 = .ok (.getfield 21, 3) := by decide +kernel
theorem dX5_minute_145 : decode cX5_minute 145 = .ok (.ifCond .le 16, 3) := by decide +kernel
theorem dX5_minute_148 : decode cX5_minute 148 = .ok (.iload 6, 2) := by decide +kernel
theorem dX5_minute_150 : decode cX5_minute 150 = .ok (.aload_n 0, 1) := by decide +kernel
theorem dX5_minute_151 : decode cX5_minute 151 = .ok (.getfield 21, 3) := by decide +kernel
theorem dX5_minute_154 : decode cX5_minute 154 = .ok (.if_icmp .le 7, 3) := by decide +kernel
theorem dX5_minute_157 : decode cX5_minute 157 = .ok (.iconst 1, 1) := by decide +kernel
theorem dX5_minute_158 : decode cX5_minute 158 = .ok (.goto 4, 3) := by decide +kernel
theorem dX5_minute_161 : decode cX5_minute 161 = .ok (.iconst 0, 1) := by decide +kernel
theorem dX5_minute_162 : decode cX5_minute 162 = .ok (.iadd, 1) := by decide +kernel
theorem dX5_minute_163 : decode cX5_minute 163 = .ok (.putfield 70, 3) := by decide +kernel
theorem dX5_minute_166 : decode cX5_minute 166 = .ok (.aload_n 0, 1) := by decide +kernel
theorem dX5_minute_167 : decode cX5_minute 167 = .ok (.iconst 0, 1) := by decide +kernel
theorem dX5_minute_168 : decode cX5_minute 168 = .ok (.putfield 55, 3) := by decide +kernel
theorem dX5_minute_171 : decode cX5_minute 171 = .ok (.aload_n 0, 1) := by decide +kernel
theorem dX5_minute_172 : decode cX5_minute 172 = .ok (.iconst 0, 1) := by decide +kernel
theorem dX5_minute_173 : decode cX5_minute 173 = .ok (.putfield 58, 3) := by decide +kernel
theorem dX5_minute_176 : decode cX5_minute 176 = .ok (.return_, 1) := by decide +kernel
theorem dX6_init_0 : decode cX6_init 0 = .ok (.aload_n 0, 1) := by decide +kernel
theorem dX6_init_1 : decode cX6_init 1 = .ok (.invokespecial 3, 3) := by decide +kernel
theorem dX6_init_4 : decode cX6_init 4 = .ok (.aload_n 0, 1) := by decide +kernel
theorem dX6_init_5 : decode cX6_init 5 = .ok (.iconst (-1), 1) := by decide +kernel
theorem dX6_init_6 : decode cX6_init 6 = .ok (.putfield 9, 3) := by decide +kernel
theorem dX6_init_9 : decode cX6_init 9 = .ok (.aload_n 0, 1) := by decide +kernel
theorem dX6_init_10 : decode cX6_init 10 = .ok (.iload_n 1, 1) := by decide +kernel
theorem dX6_init_11 : decode cX6_init 11 = .ok (.putfield 15, 3) := by decide +kernel
theorem dX6_init_14 : decode cX6_init 14 = .ok (.aload_n 0, 1) := by decide +kernel
theorem dX6_init_15 : decode cX6_init 15 = .ok (.iload_n 2, 1) := by decide +kernel
theorem dX6_init_16 : decode cX6_init 16 = .ok (.putfield 18, 3) := by decide +kernel
theorem dX6_init_19 : decode cX6_init 19 = .ok (.aload_n 0, 1) := by decide +kernel
theorem dX6_init_20 : decode cX6_init 20 = .ok (.iload_n 3, 1) := by decide +kernel
theorem dX6_init_21 : decode cX6_init 21 = .ok (.putfield 21, 3) := by decide +kernel
theorem dX6_init_24 : decode cX6_init 24 = .ok (.aload_n 0, 1) := by decide +kernel
theorem dX6_init_25 : decode cX6_init 25 = .ok (.iload 4, 2) := by decide +kernel
theorem dX6_init_27 : decode cX6_init 27 = .ok (.putfield 24, 3) := by decide +kernel
theorem dX6_init_30 : decode cX6_init 30 = .ok (.return_, 1) := by decide +kernel
theorem dX6_proveIn_0 : decode cX6_proveIn 0 = .ok (.aload_n 0, 1) := by decide +kernel
theorem dX6_proveIn_1 : decode cX6_proveIn 1 = .ok (.iload_n 1, 1) := by decide +kernel
theorem dX6_proveIn_2 : decode cX6_proveIn 2 = .ok (.putfield 9, 3) := by decide +kernel
theorem dX6_proveIn_5 : decode cX6_proveIn 5 = .ok (.aload_n 0, 1) := by decide +kernel
theorem dX6_proveIn_6 : decode cX6_proveIn 6 = .ok (.dup, 1) := by decide +kernel
theorem dX6_proveIn_7 : decode cX6_proveIn 7 = .ok (.getfield 27, 3) := by decide +kernel
theorem dX6_proveIn_10 : decode cX6_proveIn 10 = .ok (.iconst 1, 1) := by decide +kernel
theorem dX6_proveIn_11 : decode cX6_proveIn 11 = .ok (.iload_n 1, 1) := by decide +kernel
theorem dX6_proveIn_12 : decode cX6_proveIn 12 = .ok (.ishl, 1) := by decide +kernel
theorem dX6_proveIn_13 : decode cX6_proveIn 13 = .ok (.ior, 1) := by decide +kernel
theorem dX6_proveIn_14 : decode cX6_proveIn 14 = .ok (.putfield 27, 3) := by decide +kernel
theorem dX6_proveIn_17 : decode cX6_proveIn 17 = .ok (.return_, 1) := by decide +kernel
theorem dX6_wasProvedIn_0 : decode cX6_wasProvedIn 0 = .ok (.aload_n 0, 1) := by decide +kernel
theorem dX6_wasProvedIn_1 : decode cX6_wasProvedIn 1 = .ok (.getfield 27, 3) := by decide +kernel
theorem dX6_wasProvedIn_4 : decode cX6_wasProvedIn 4 = .ok (.iload_n 1, 1) := by decide +kernel
theorem dX6_wasProvedIn_5 : decode cX6_wasProvedIn 5 = .ok (.invokestatic 30, 3) := by decide +kernel
theorem dX6_wasProvedIn_8 : decode cX6_wasProvedIn 8 = .ok (.ireturn, 1) := by decide +kernel
theorem dX6_give_0 : decode cX6_give 0 = .ok (.iconst 5, 1) := by decide +kernel
theorem dX6_give_1 : decode cX6_give 1 = .ok (.aload_n 0, 1) := by decide +kernel
theorem dX6_give_2 : decode cX6_give 2 = .ok (.getfield 34, 3) := by decide +kernel
theorem dX6_give_5 : decode cX6_give 5 = .ok (.invokestatic 37, 3) := by decide +kernel
theorem dX6_give_8 : decode cX6_give 8 = .ok (.istore_n 1, 1) := by decide +kernel
theorem dX6_give_9 : decode cX6_give 9 = .ok (.aload_n 0, 1) := by decide +kernel
theorem dX6_give_10 : decode cX6_give 10 = .ok (.dup, 1) := by decide +kernel
theorem dX6_give_11 : decode cX6_give 11 = .ok (.getfield 34, 3) := by decide +kernel
theorem dX6_give_14 : decode cX6_give 14 = .ok (.iload_n 1, 1) := by decide +kernel
theorem dX6_give_15 : decode cX6_give 15 = .ok (.isub, 1) := by decide +kernel
theorem dX6_give_16 : decode cX6_give 16 = .ok (.putfield 34, 3) := by decide +kernel
theorem dX6_give_19 : decode cX6_give 19 = .ok (.iload_n 1, 1) := by decide +kernel
theorem dX6_give_20 : decode cX6_give 20 = .ok (.ireturn, 1) := by decide +kernel
theorem dX7_init_0 : decode cX7_init 0 = .ok (.aload_n 0, 1) := by decide +kernel
theorem dX7_init_1 : decode cX7_init 1 = .ok (.invokespecial 3, 3) := by decide +kernel
theorem dX7_init_4 : decode cX7_init 4 = .ok (.aload_n 0, 1) := by decide +kernel
theorem dX7_init_5 : decode cX7_init 5 = .ok (.sipush 700, 3) := by decide +kernel
theorem dX7_init_8 : decode cX7_init 8 = .ok (.newarray .int, 2) := by decide +kernel
theorem dX7_init_10 : decode cX7_init 10 = .ok (.putfield 9, 3) := by decide +kernel
theorem dX7_init_13 : decode cX7_init 13 = .ok (.return_, 1) := by decide +kernel
theorem dX7_add_0 : decode cX7_add 0 = .ok (.bipush 24, 2) := by decide +kernel
theorem dX7_add_2 : decode cX7_add 2 = .ok (.istore_n 2, 1) := by decide +kernel
theorem dX7_add_3 : decode cX7_add 3 = .ok (.iload_n 2, 1) := by decide +kernel
theorem dX7_add_4 : decode cX7_add 4 = .ok (.ifCond .lt 47, 3) := by decide +kernel
theorem dX7_add_7 : decode cX7_add 7 = .ok (.aload_n 0, 1) := by decide +kernel
theorem dX7_add_8 : decode cX7_add 8 = .ok (.getfield 15, 3) := by decide +kernel
theorem dX7_add_11 : decode cX7_add 11 = .ok (.aload_n 0, 1) := by decide +kernel
theorem dX7_add_12 : decode cX7_add 12 = .ok (.getfield 9, 3) := by decide +kernel
theorem dX7_add_15 : decode cX7_add 15 = .ok (.arraylength, 1) := by decide +kernel
theorem dX7_add_16 : decode cX7_add 16 = .ok (.if_icmp .ge 29, 3) := by decide +kernel
theorem dX7_add_19 : decode cX7_add 19 = .ok (.aload_n 0, 1) := by decide +kernel
theorem dX7_add_20 : decode cX7_add 20 = .ok (.getfield 9, 3) := by decide +kernel
theorem dX7_add_23 : decode cX7_add 23 = .ok (.aload_n 0, 1) := by decide +kernel
theorem dX7_add_24 : decode cX7_add 24 = .ok (.getfield 15, 3) := by decide +kernel
theorem dX7_add_27 : decode cX7_add 27 = .ok (.iload_n 1, 1) := by decide +kernel
theorem dX7_add_28 : decode cX7_add 28 = .ok (.iload_n 2, 1) := by decide +kernel
theorem dX7_add_29 : decode cX7_add 29 = .ok (.ishr, 1) := by decide +kernel
theorem dX7_add_30 : decode cX7_add 30 = .ok (.sipush 255, 3) := by decide +kernel
theorem dX7_add_33 : decode cX7_add 33 = .ok (.iand, 1) := by decide +kernel
theorem dX7_add_34 : decode cX7_add 34 = .ok (.iastore, 1) := by decide +kernel
theorem dX7_add_35 : decode cX7_add 35 = .ok (.aload_n 0, 1) := by decide +kernel
theorem dX7_add_36 : decode cX7_add 36 = .ok (.dup, 1) := by decide +kernel
theorem dX7_add_37 : decode cX7_add 37 = .ok (.getfield 15, 3) := by decide +kernel
theorem dX7_add_40 : decode cX7_add 40 = .ok (.iconst 1, 1) := by decide +kernel
theorem dX7_add_41 : decode cX7_add 41 = .ok (.iadd, 1) := by decide +kernel
theorem dX7_add_42 : decode cX7_add 42 = .ok (.putfield 15, 3) := by decide +kernel
theorem dX7_add_45 : decode cX7_add 45 = .ok (.iinc 2 (-8), 3) := by decide +kernel
theorem dX7_add_48 : decode cX7_add 48 = .ok (.goto (-45), 3) := by decide +kernel
theorem dX7_add_51 : decode cX7_add 51 = .ok (.return_, 1) := by decide +kernel
theorem dX7_read_0 : decode cX7_read 0 = .ok (.aload_n 0, 1) := by decide +kernel
theorem dX7_read_1 : decode cX7_read 1 = .ok (.iload_n 1, 1) := by decide +kernel
theorem dX7_read_2 : decode cX7_read 2 = .ok (.putfield 19, 3) := by decide +kernel
theorem dX7_read_5 : decode cX7_read 5 = .ok (.aload_n 0, 1) := by decide +kernel
theorem dX7_read_6 : decode cX7_read 6 = .ok (.iconst (-1), 1) := by decide +kernel
theorem dX7_read_7 : decode cX7_read 7 = .ok (.putfield 22, 3) := by decide +kernel
theorem dX7_read_10 : decode cX7_read 10 = .ok (.aload_n 0, 1) := by decide +kernel
theorem dX7_read_11 : decode cX7_read 11 = .ok (.iconst 0, 1) := by decide +kernel
theorem dX7_read_12 : decode cX7_read 12 = .ok (.putfield 25, 3) := by decide +kernel
theorem dX7_read_15 : decode cX7_read 15 = .ok (.aload_n 0, 1) := by decide +kernel
theorem dX7_read_16 : decode cX7_read 16 = .ok (.invokevirtual 28, 3) := by decide +kernel
theorem dX7_read_19 : decode cX7_read 19 = .ok (.iconst 0, 1) := by decide +kernel
theorem dX7_read_20 : decode cX7_read 20 = .ok (.istore_n 3, 1) := by decide +kernel
theorem dX7_read_21 : decode cX7_read 21 = .ok (.iload_n 3, 1) := by decide +kernel
theorem dX7_read_22 : decode cX7_read 22 = .ok (.bipush 24, 2) := by decide +kernel
theorem dX7_read_24 : decode cX7_read 24 = .ok (.if_icmp .gt 50, 3) := by decide +kernel
theorem dX7_read_27 : decode cX7_read 27 = .ok (.aload_n 0, 1) := by decide +kernel
theorem dX7_read_28 : decode cX7_read 28 = .ok (.getfield 22, 3) := by decide +kernel
theorem dX7_read_31 : decode cX7_read 31 = .ok (.iconst (-1), 1) := by decide +kernel
theorem dX7_read_32 : decode cX7_read 32 = .ok (.if_icmp .ne 42, 3) := by decide +kernel
theorem dX7_read_35 : decode cX7_read 35 = .ok (.aload_n 0, 1) := by decide +kernel
theorem dX7_read_36 : decode cX7_read 36 = .ok (.getfield 31, 3) := by decide +kernel
theorem dX7_read_39 : decode cX7_read 39 = .ok (.aload_n 0, 1) := by decide +kernel
theorem dX7_read_40 : decode cX7_read 40 = .ok (.getfield 19, 3) := by decide +kernel
theorem dX7_read_43 : decode cX7_read 43 = .ok (.if_icmp .ge 31, 3) := by decide +kernel
theorem dX7_read_46 : decode cX7_read 46 = .ok (.iload_n 3, 1) := by decide +kernel
theorem dX7_read_47 : decode cX7_read 47 = .ok (.bipush 24, 2) := by decide +kernel
theorem dX7_read_49 : decode cX7_read 49 = .ok (.if_icmp .ne 14, 3) := by decide +kernel
theorem dX7_read_52 : decode cX7_read 52 = .ok (.aload_n 0, 1) := by decide +kernel
theorem dX7_read_53 : decode cX7_read 53 = .ok (.aload_n 0, 1) := by decide +kernel
theorem dX7_read_54 : decode cX7_read 54 = .ok (.getfield 31, 3) := by decide +kernel
theorem dX7_read_57 : decode cX7_read 57 = .ok (.putfield 22, 3) := by decide +kernel
theorem dX7_read_60 : decode cX7_read 60 = .ok (.goto 8, 3) := by decide +kernel
theorem dX7_read_63 : decode cX7_read 63 = .ok (.aload_n 0, 1) := by decide +kernel
theorem dX7_read_64 : decode cX7_read 64 = .ok (.aload_n 2, 1) := by decide +kernel
theorem dX7_read_65 : decode cX7_read 65 = .ok (.invokevirtual 34, 3) := by decide +kernel
theorem dX7_read_68 : decode cX7_read 68 = .ok (.iinc 3 1, 3) := by decide +kernel
theorem dX7_read_71 : decode cX7_read 71 = .ok (.goto (-50), 3) := by decide +kernel
theorem dX7_read_74 : decode cX7_read 74 = .ok (.aload_n 0, 1) := by decide +kernel
theorem dX7_read_75 : decode cX7_read 75 = .ok (.iconst 0, 1) := by decide +kernel
theorem dX7_read_76 : decode cX7_read 76 = .ok (.putfield 15, 3) := by decide +kernel
theorem dX7_read_79 : decode cX7_read 79 = .ok (.aload_n 0, 1) := by decide +kernel
theorem dX7_read_80 : decode cX7_read 80 = .ok (.getfield 22, 3) := by decide +kernel
theorem dX7_read_83 : decode cX7_read 83 = .ok (.ireturn, 1) := by decide +kernel
theorem dX7_readStatement_0 : decode cX7_readStatement 0 = .ok (.aload_n 0, 1) := by decide +kernel
theorem dX7_readStatement_1 : decode cX7_readStatement 1 = .ok (.ldc 38, 2) := by decide +kernel
theorem dX7_readStatement_3 : decode cX7_readStatement 3 = .ok (.invokevirtual 40, 3) := by decide +kernel
theorem dX7_readStatement_6 : decode cX7_readStatement 6 = .ok (.ifCond .eq 11, 3) := by decide +kernel
theorem dX7_readStatement_9 : decode cX7_readStatement 9 = .ok (.aload_n 0, 1) := by decide +kernel
theorem dX7_readStatement_10 : decode cX7_readStatement 10 = .ok (.aload_n 1, 1) := by decide +kernel
theorem dX7_readStatement_11 : decode cX7_readStatement 11 = .ok (.invokevirtual 44, 3) := by decide +kernel
theorem dX7_readStatement_14 : decode cX7_readStatement 14 = .ok (.goto 245, 3) := by decide +kernel
theorem dX7_readStatement_17 : decode cX7_readStatement 17 = .ok (.aload_n 0, 1) := by decide +kernel
theorem dX7_readStatement_18 : decode cX7_readStatement 18 = .ok (.ldc 47, 2) := by decide +kernel
theorem dX7_readStatement_20 : decode cX7_readStatement 20 = .ok (.invokevirtual 40, 3) := by decide +kernel
theorem dX7_readStatement_23 : decode cX7_readStatement 23 = .ok (.ifCond .eq 11, 3) := by decide +kernel
theorem dX7_readStatement_26 : decode cX7_readStatement 26 = .ok (.aload_n 0, 1) := by decide +kernel
theorem dX7_readStatement_27 : decode cX7_readStatement 27 = .ok (.aload_n 1, 1) := by decide +kernel
theorem dX7_readStatement_28 : decode cX7_readStatement 28 = .ok (.invokevirtual 49, 3) := by decide +kernel
theorem dX7_readStatement_31 : decode cX7_readStatement 31 = .ok (.goto 228, 3) := by decide +kernel
theorem dX7_readStatement_34 : decode cX7_readStatement 34 = .ok (.aload_n 0, 1) := by decide +kernel
theorem dX7_readStatement_35 : decode cX7_readStatement 35 = .ok (.ldc 52, 2) := by decide +kernel
theorem dX7_readStatement_37 : decode cX7_readStatement 37 = .ok (.invokevirtual 40, 3) := by decide +kernel
theorem dX7_readStatement_40 : decode cX7_readStatement 40 = .ok (.ifCond .eq 12, 3) := by decide +kernel
theorem dX7_readStatement_43 : decode cX7_readStatement 43 = .ok (.aload_n 0, 1) := by decide +kernel
theorem dX7_readStatement_44 : decode cX7_readStatement 44 = .ok (.aload_n 1, 1) := by decide +kernel
theorem dX7_readStatement_45 : decode cX7_readStatement 45 = .ok (.iconst 0, 1) := by decide +kernel
theorem dX7_readStatement_46 : decode cX7_readStatement 46 = .ok (.invokevirtual 54, 3) := by decide +kernel
theorem dX7_readStatement_49 : decode cX7_readStatement 49 = .ok (.goto 210, 3) := by decide +kernel
theorem dX7_readStatement_52 : decode cX7_readStatement 52 = .ok (.aload_n 0, 1) := by decide +kernel
theorem dX7_readStatement_53 : decode cX7_readStatement 53 = .ok (.ldc 58, 2) := by decide +kernel
theorem dX7_readStatement_55 : decode cX7_readStatement 55 = .ok (.invokevirtual 40, 3) := by decide +kernel
theorem dX7_readStatement_58 : decode cX7_readStatement 58 = .ok (.ifCond .eq 24, 3) := by decide +kernel
theorem dX7_readStatement_61 : decode cX7_readStatement 61 = .ok (.aload_n 0, 1) := by decide +kernel
theorem dX7_readStatement_62 : decode cX7_readStatement 62 = .ok (.aload_n 1, 1) := by decide +kernel
theorem dX7_readStatement_63 : decode cX7_readStatement 63 = .ok (.iconst 1, 1) := by decide +kernel
theorem dX7_readStatement_64 : decode cX7_readStatement 64 = .ok (.invokevirtual 54, 3) := by decide +kernel
theorem dX7_readStatement_67 : decode cX7_readStatement 67 = .ok (.aload_n 0, 1) := by decide +kernel
theorem dX7_readStatement_68 : decode cX7_readStatement 68 = .ok (.ldc 60, 2) := by decide +kernel
theorem dX7_readStatement_70 : decode cX7_readStatement 70 = .ok (.invokevirtual 62, 3) := by decide +kernel
theorem dX7_readStatement_73 : decode cX7_readStatement 73 = .ok (.aload_n 0, 1) := by decide +kernel
theorem dX7_readStatement_74 : decode cX7_readStatement 74 = .ok (.aload_n 1, 1) := by decide +kernel
theorem dX7_readStatement_75 : decode cX7_readStatement 75 = .ok (.iconst 2, 1) := by decide +kernel
theorem dX7_readStatement_76 : decode cX7_readStatement 76 = .ok (.invokevirtual 54, 3) := by decide +kernel
theorem dX7_readStatement_79 : decode cX7_readStatement 79 = .ok (.goto 180, 3) := by decide +kernel
theorem dX7_readStatement_82 : decode cX7_readStatement 82 = .ok (.aload_n 0, 1) := by decide +kernel
theorem dX7_readStatement_83 : decode cX7_readStatement 83 = .ok (.ldc 66, 2) := by decide +kernel
theorem dX7_readStatement_85 : decode cX7_readStatement 85 = .ok (.invokevirtual 40, 3) := by decide +kernel
theorem dX7_readStatement_88 : decode cX7_readStatement 88 = .ok (.ifCond .eq 12, 3) := by decide +kernel
theorem dX7_readStatement_91 : decode cX7_readStatement 91 = .ok (.aload_n 0, 1) := by decide +kernel
theorem dX7_readStatement_92 : decode cX7_readStatement 92 = .ok (.aload_n 1, 1) := by decide +kernel
theorem dX7_readStatement_93 : decode cX7_readStatement 93 = .ok (.iconst 3, 1) := by decide +kernel
theorem dX7_readStatement_94 : decode cX7_readStatement 94 = .ok (.invokevirtual 54, 3) := by decide +kernel
theorem dX7_readStatement_97 : decode cX7_readStatement 97 = .ok (.goto 162, 3) := by decide +kernel
theorem dX7_readStatement_100 : decode cX7_readStatement 100 = .ok (.aload_n 0, 1) := by decide +kernel
theorem dX7_readStatement_101 : decode cX7_readStatement 101 = .ok (.ldc 68, 2) := by decide +kernel
theorem dX7_readStatement_103 : decode cX7_readStatement 103 = .ok (.invokevirtual 40, 3) := by decide +kernel
theorem dX7_readStatement_106 : decode cX7_readStatement 106 = .ok (.ifCond .eq 12, 3) := by decide +kernel
theorem dX7_readStatement_109 : decode cX7_readStatement 109 = .ok (.aload_n 0, 1) := by decide +kernel
theorem dX7_readStatement_110 : decode cX7_readStatement 110 = .ok (.aload_n 1, 1) := by decide +kernel
theorem dX7_readStatement_111 : decode cX7_readStatement 111 = .ok (.iconst 4, 1) := by decide +kernel
theorem dX7_readStatement_112 : decode cX7_readStatement 112 = .ok (.invokevirtual 54, 3) := by decide +kernel
theorem dX7_readStatement_115 : decode cX7_readStatement 115 = .ok (.goto 144, 3) := by decide +kernel
theorem dX7_readStatement_118 : decode cX7_readStatement 118 = .ok (.aload_n 0, 1) := by decide +kernel
theorem dX7_readStatement_119 : decode cX7_readStatement 119 = .ok (.ldc 70, 2) := by decide +kernel
theorem dX7_readStatement_121 : decode cX7_readStatement 121 = .ok (.invokevirtual 40, 3) := by decide +kernel
theorem dX7_readStatement_124 : decode cX7_readStatement 124 = .ok (.ifCond .eq 12, 3) := by decide +kernel
theorem dX7_readStatement_127 : decode cX7_readStatement 127 = .ok (.aload_n 0, 1) := by decide +kernel
theorem dX7_readStatement_128 : decode cX7_readStatement 128 = .ok (.aload_n 1, 1) := by decide +kernel
theorem dX7_readStatement_129 : decode cX7_readStatement 129 = .ok (.iconst 5, 1) := by decide +kernel
theorem dX7_readStatement_130 : decode cX7_readStatement 130 = .ok (.invokevirtual 54, 3) := by decide +kernel
theorem dX7_readStatement_133 : decode cX7_readStatement 133 = .ok (.goto 126, 3) := by decide +kernel
theorem dX7_readStatement_136 : decode cX7_readStatement 136 = .ok (.aload_n 0, 1) := by decide +kernel
theorem dX7_readStatement_137 : decode cX7_readStatement 137 = .ok (.ldc 72, 2) := by decide +kernel
theorem dX7_readStatement_139 : decode cX7_readStatement 139 = .ok (.invokevirtual 40, 3) := by decide +kernel
theorem dX7_readStatement_142 : decode cX7_readStatement 142 = .ok (.ifCond .eq 13, 3) := by decide +kernel
theorem dX7_readStatement_145 : decode cX7_readStatement 145 = .ok (.aload_n 0, 1) := by decide +kernel
theorem dX7_readStatement_146 : decode cX7_readStatement 146 = .ok (.aload_n 1, 1) := by decide +kernel
theorem dX7_readStatement_147 : decode cX7_readStatement 147 = .ok (.bipush 6, 2) := by decide +kernel
theorem dX7_readStatement_149 : decode cX7_readStatement 149 = .ok (.invokevirtual 54, 3) := by decide +kernel
theorem dX7_readStatement_152 : decode cX7_readStatement 152 = .ok (.goto 107, 3) := by decide +kernel
theorem dX7_readStatement_155 : decode cX7_readStatement 155 = .ok (.aload_n 0, 1) := by decide +kernel
theorem dX7_readStatement_156 : decode cX7_readStatement 156 = .ok (.ldc 74, 2) := by decide +kernel
theorem dX7_readStatement_158 : decode cX7_readStatement 158 = .ok (.invokevirtual 40, 3) := by decide +kernel
theorem dX7_readStatement_161 : decode cX7_readStatement 161 = .ok (.ifCond .eq 39, 3) := by decide +kernel
theorem dX7_readStatement_164 : decode cX7_readStatement 164 = .ok (.aload_n 0, 1) := by decide +kernel
theorem dX7_readStatement_165 : decode cX7_readStatement 165 = .ok (.aload_n 1, 1) := by decide +kernel
theorem dX7_readStatement_166 : decode cX7_readStatement 166 = .ok (.bipush 7, 2) := by decide +kernel
theorem dX7_readStatement_168 : decode cX7_readStatement 168 = .ok (.invokevirtual 54, 3) := by decide +kernel
theorem dX7_readStatement_171 : decode cX7_readStatement 171 = .ok (.aload_n 0, 1) := by decide +kernel
theorem dX7_readStatement_172 : decode cX7_readStatement 172 = .ok (.ldc 76, 2) := by decide +kernel
theorem dX7_readStatement_174 : decode cX7_readStatement 174 = .ok (.invokevirtual 62, 3) := by decide +kernel
theorem dX7_readStatement_177 : decode cX7_readStatement 177 = .ok (.aload_n 0, 1) := by decide +kernel
theorem dX7_readStatement_178 : decode cX7_readStatement 178 = .ok (.aload_n 1, 1) := by decide +kernel
theorem dX7_readStatement_179 : decode cX7_readStatement 179 = .ok (.bipush 8, 2) := by decide +kernel
theorem dX7_readStatement_181 : decode cX7_readStatement 181 = .ok (.invokevirtual 54, 3) := by decide +kernel
theorem dX7_readStatement_184 : decode cX7_readStatement 184 = .ok (.aload_n 0, 1) := by decide +kernel
theorem dX7_readStatement_185 : decode cX7_readStatement 185 = .ok (.ldc 78, 2) := by decide +kernel
theorem dX7_readStatement_187 : decode cX7_readStatement 187 = .ok (.invokevirtual 62, 3) := by decide +kernel
theorem dX7_readStatement_190 : decode cX7_readStatement 190 = .ok (.aload_n 0, 1) := by decide +kernel
theorem dX7_readStatement_191 : decode cX7_readStatement 191 = .ok (.aload_n 1, 1) := by decide +kernel
theorem dX7_readStatement_192 : decode cX7_readStatement 192 = .ok (.bipush 9, 2) := by decide +kernel
theorem dX7_readStatement_194 : decode cX7_readStatement 194 = .ok (.invokevirtual 54, 3) := by decide +kernel
theorem dX7_readStatement_197 : decode cX7_readStatement 197 = .ok (.goto 62, 3) := by decide +kernel
theorem dX7_readStatement_200 : decode cX7_readStatement 200 = .ok (.aload_n 0, 1) := by decide +kernel
theorem dX7_readStatement_201 : decode cX7_readStatement 201 = .ok (.ldc 80, 2) := by decide +kernel
theorem dX7_readStatement_203 : decode cX7_readStatement 203 = .ok (.invokevirtual 40, 3) := by decide +kernel
theorem dX7_readStatement_206 : decode cX7_readStatement 206 = .ok (.ifCond .eq 26, 3) := by decide +kernel
theorem dX7_readStatement_209 : decode cX7_readStatement 209 = .ok (.aload_n 0, 1) := by decide +kernel
theorem dX7_readStatement_210 : decode cX7_readStatement 210 = .ok (.aload_n 1, 1) := by decide +kernel
theorem dX7_readStatement_211 : decode cX7_readStatement 211 = .ok (.bipush 10, 2) := by decide +kernel
theorem dX7_readStatement_213 : decode cX7_readStatement 213 = .ok (.invokevirtual 54, 3) := by decide +kernel
theorem dX7_readStatement_216 : decode cX7_readStatement 216 = .ok (.aload_n 0, 1) := by decide +kernel
theorem dX7_readStatement_217 : decode cX7_readStatement 217 = .ok (.ldc 82, 2) := by decide +kernel
theorem dX7_readStatement_219 : decode cX7_readStatement 219 = .ok (.invokevirtual 62, 3) := by decide +kernel
theorem dX7_readStatement_222 : decode cX7_readStatement 222 = .ok (.aload_n 0, 1) := by decide +kernel
theorem dX7_readStatement_223 : decode cX7_readStatement 223 = .ok (.aload_n 1, 1) := by decide +kernel
theorem dX7_readStatement_224 : decode cX7_readStatement 224 = .ok (.bipush 11, 2) := by decide +kernel
theorem dX7_readStatement_226 : decode cX7_readStatement 226 = .ok (.invokevirtual 54, 3) := by decide +kernel
theorem dX7_readStatement_229 : decode cX7_readStatement 229 = .ok (.goto 30, 3) := by decide +kernel
theorem dX7_readStatement_232 : decode cX7_readStatement 232 = .ok (.aload_n 0, 1) := by decide +kernel
theorem dX7_readStatement_233 : decode cX7_readStatement 233 = .ok (.ldc 84, 2) := by decide +kernel
theorem dX7_readStatement_235 : decode cX7_readStatement 235 = .ok (.invokevirtual 40, 3) := by decide +kernel
theorem dX7_readStatement_238 : decode cX7_readStatement 238 = .ok (.ifCond .eq 13, 3) := by decide +kernel
theorem dX7_readStatement_241 : decode cX7_readStatement 241 = .ok (.aload_n 0, 1) := by decide +kernel
theorem dX7_readStatement_242 : decode cX7_readStatement 242 = .ok (.aload_n 1, 1) := by decide +kernel
theorem dX7_readStatement_243 : decode cX7_readStatement 243 = .ok (.bipush 12, 2) := by decide +kernel
theorem dX7_readStatement_245 : decode cX7_readStatement 245 = .ok (.invokevirtual 54, 3) := by decide +kernel
theorem dX7_readStatement_248 : decode cX7_readStatement 248 = .ok (.goto 11, 3) := by decide +kernel
theorem dX7_readStatement_251 : decode cX7_readStatement 251 = .ok (.aload_n 0, 1) := by decide +kernel
theorem dX7_readStatement_252 : decode cX7_readStatement 252 = .ok (.aload_n 0, 1) := by decide +kernel
theorem dX7_readStatement_253 : decode cX7_readStatement 253 = .ok (.getfield 31, 3) := by decide +kernel
theorem dX7_readStatement_256 : decode cX7_readStatement 256 = .ok (.putfield 22, 3) := by decide +kernel
theorem dX7_readStatement_259 : decode cX7_readStatement 259 = .ok (.aload_n 0, 1) := by decide +kernel
theorem dX7_readStatement_260 : decode cX7_readStatement 260 = .ok (.ldc 86, 2) := by decide +kernel
theorem dX7_readStatement_262 : decode cX7_readStatement 262 = .ok (.invokevirtual 62, 3) := by decide +kernel
theorem dX7_readStatement_265 : decode cX7_readStatement 265 = .ok (.return_, 1) := by decide +kernel
theorem dX7_readTurn_0 : decode cX7_readTurn 0 = .ok (.aload_n 0, 1) := by decide +kernel
theorem dX7_readTurn_1 : decode cX7_readTurn 1 = .ok (.iconst 0, 1) := by decide +kernel
theorem dX7_readTurn_2 : decode cX7_readTurn 2 = .ok (.sipush 9999, 3) := by decide +kernel
theorem dX7_readTurn_5 : decode cX7_readTurn 5 = .ok (.invokevirtual 88, 3) := by decide +kernel
theorem dX7_readTurn_8 : decode cX7_readTurn 8 = .ok (.istore_n 2, 1) := by decide +kernel
theorem dX7_readTurn_9 : decode cX7_readTurn 9 = .ok (.aload_n 0, 1) := by decide +kernel
theorem dX7_readTurn_10 : decode cX7_readTurn 10 = .ok (.ldc 92, 2) := by decide +kernel
theorem dX7_readTurn_12 : decode cX7_readTurn 12 = .ok (.invokevirtual 62, 3) := by decide +kernel
theorem dX7_readTurn_15 : decode cX7_readTurn 15 = .ok (.aload_n 0, 1) := by decide +kernel
theorem dX7_readTurn_16 : decode cX7_readTurn 16 = .ok (.iconst 0, 1) := by decide +kernel
theorem dX7_readTurn_17 : decode cX7_readTurn 17 = .ok (.sipush 9999, 3) := by decide +kernel
theorem dX7_readTurn_20 : decode cX7_readTurn 20 = .ok (.invokevirtual 88, 3) := by decide +kernel
theorem dX7_readTurn_23 : decode cX7_readTurn 23 = .ok (.istore_n 3, 1) := by decide +kernel
theorem dX7_readTurn_24 : decode cX7_readTurn 24 = .ok (.aload_n 0, 1) := by decide +kernel
theorem dX7_readTurn_25 : decode cX7_readTurn 25 = .ok (.ldc 94, 2) := by decide +kernel
theorem dX7_readTurn_27 : decode cX7_readTurn 27 = .ok (.invokevirtual 62, 3) := by decide +kernel
theorem dX7_readTurn_30 : decode cX7_readTurn 30 = .ok (.aload_n 0, 1) := by decide +kernel
theorem dX7_readTurn_31 : decode cX7_readTurn 31 = .ok (.iconst 1, 1) := by decide +kernel
theorem dX7_readTurn_32 : decode cX7_readTurn 32 = .ok (.sipush 9999, 3) := by decide +kernel
theorem dX7_readTurn_35 : decode cX7_readTurn 35 = .ok (.invokevirtual 88, 3) := by decide +kernel
theorem dX7_readTurn_38 : decode cX7_readTurn 38 = .ok (.istore 4, 2) := by decide +kernel
theorem dX7_readTurn_40 : decode cX7_readTurn 40 = .ok (.aload_n 0, 1) := by decide +kernel
theorem dX7_readTurn_41 : decode cX7_readTurn 41 = .ok (.ldc 96, 2) := by decide +kernel
theorem dX7_readTurn_43 : decode cX7_readTurn 43 = .ok (.invokevirtual 62, 3) := by decide +kernel
theorem dX7_readTurn_46 : decode cX7_readTurn 46 = .ok (.aload_n 0, 1) := by decide +kernel
theorem dX7_readTurn_47 : decode cX7_readTurn 47 = .ok (.iconst 0, 1) := by decide +kernel
theorem dX7_readTurn_48 : decode cX7_readTurn 48 = .ok (.sipush 9999, 3) := by decide +kernel
theorem dX7_readTurn_51 : decode cX7_readTurn 51 = .ok (.invokevirtual 88, 3) := by decide +kernel
theorem dX7_readTurn_54 : decode cX7_readTurn 54 = .ok (.istore 5, 2) := by decide +kernel
theorem dX7_readTurn_56 : decode cX7_readTurn 56 = .ok (.aload_n 1, 1) := by decide +kernel
theorem dX7_readTurn_57 : decode cX7_readTurn 57 = .ok (.getfield 98, 3) := by decide +kernel
theorem dX7_readTurn_60 : decode cX7_readTurn 60 = .ok (.new 104, 3) := by decide +kernel
theorem dX7_readTurn_63 : decode cX7_readTurn 63 = .ok (.dup, 1) := by decide +kernel
theorem dX7_readTurn_64 : decode cX7_readTurn 64 = .ok (.iload_n 2, 1) := by decide +kernel
theorem dX7_readTurn_65 : decode cX7_readTurn 65 = .ok (.iload_n 3, 1) := by decide +kernel
theorem dX7_readTurn_66 : decode cX7_readTurn 66 = .ok (.iload 4, 2) := by decide +kernel
theorem dX7_readTurn_68 : decode cX7_readTurn 68 = .ok (.iload 5, 2) := by decide +kernel
theorem dX7_readTurn_70 : decode cX7_readTurn 70 = .ok (.invokespecial 106, 3) := by decide +kernel
theorem dX7_readTurn_73 : decode cX7_readTurn 73 = .ok (.invokevirtual 109, 3) := by decide +kernel
theorem dX7_readTurn_76 : decode cX7_readTurn 76 = .ok (.pop, 1) := by decide +kernel
theorem dX7_readTurn_77 : decode cX7_readTurn 77 = .ok (.return_, 1) := by decide +kernel
theorem dX7_readLook_0 : decode cX7_readLook 0 = .ok (.aload_n 0, 1) := by decide +kernel
theorem dX7_readLook_1 : decode cX7_readLook 1 = .ok (.iconst 0, 1) := by decide +kernel
theorem dX7_readLook_2 : decode cX7_readLook 2 = .ok (.iconst 3, 1) := by decide +kernel
theorem dX7_readLook_3 : decode cX7_readLook 3 = .ok (.invokevirtual 88, 3) := by decide +kernel
theorem dX7_readLook_6 : decode cX7_readLook 6 = .ok (.istore_n 2, 1) := by decide +kernel
theorem dX7_readLook_7 : decode cX7_readLook 7 = .ok (.aload_n 0, 1) := by decide +kernel
theorem dX7_readLook_8 : decode cX7_readLook 8 = .ok (.ldc 96, 2) := by decide +kernel
theorem dX7_readLook_10 : decode cX7_readLook 10 = .ok (.invokevirtual 62, 3) := by decide +kernel
theorem dX7_readLook_13 : decode cX7_readLook 13 = .ok (.aload_n 1, 1) := by decide +kernel
theorem dX7_readLook_14 : decode cX7_readLook 14 = .ok (.bipush 13, 2) := by decide +kernel
theorem dX7_readLook_16 : decode cX7_readLook 16 = .ok (.iconst 2, 1) := by decide +kernel
theorem dX7_readLook_17 : decode cX7_readLook 17 = .ok (.iload_n 2, 1) := by decide +kernel
theorem dX7_readLook_18 : decode cX7_readLook 18 = .ok (.imul, 1) := by decide +kernel
theorem dX7_readLook_19 : decode cX7_readLook 19 = .ok (.iadd, 1) := by decide +kernel
theorem dX7_readLook_20 : decode cX7_readLook 20 = .ok (.aload_n 0, 1) := by decide +kernel
theorem dX7_readLook_21 : decode cX7_readLook 21 = .ok (.iconst 0, 1) := by decide +kernel
theorem dX7_readLook_22 : decode cX7_readLook 22 = .ok (.sipush 9999, 3) := by decide +kernel
theorem dX7_readLook_25 : decode cX7_readLook 25 = .ok (.invokevirtual 88, 3) := by decide +kernel
theorem dX7_readLook_28 : decode cX7_readLook 28 = .ok (.invokevirtual 115, 3) := by decide +kernel
theorem dX7_readLook_31 : decode cX7_readLook 31 = .ok (.aload_n 0, 1) := by decide +kernel
theorem dX7_readLook_32 : decode cX7_readLook 32 = .ok (.ldc 60, 2) := by decide +kernel
theorem dX7_readLook_34 : decode cX7_readLook 34 = .ok (.invokevirtual 62, 3) := by decide +kernel
theorem dX7_readLook_37 : decode cX7_readLook 37 = .ok (.aload_n 1, 1) := by decide +kernel
theorem dX7_readLook_38 : decode cX7_readLook 38 = .ok (.bipush 14, 2) := by decide +kernel
theorem dX7_readLook_40 : decode cX7_readLook 40 = .ok (.iconst 2, 1) := by decide +kernel
theorem dX7_readLook_41 : decode cX7_readLook 41 = .ok (.iload_n 2, 1) := by decide +kernel
theorem dX7_readLook_42 : decode cX7_readLook 42 = .ok (.imul, 1) := by decide +kernel
theorem dX7_readLook_43 : decode cX7_readLook 43 = .ok (.iadd, 1) := by decide +kernel
theorem dX7_readLook_44 : decode cX7_readLook 44 = .ok (.aload_n 0, 1) := by decide +kernel
theorem dX7_readLook_45 : decode cX7_readLook 45 = .ok (.iconst 0, 1) := by decide +kernel
theorem dX7_readLook_46 : decode cX7_readLook 46 = .ok (.sipush 9999, 3) := by decide +kernel
theorem dX7_readLook_49 : decode cX7_readLook 49 = .ok (.invokevirtual 88, 3) := by decide +kernel
theorem dX7_readLook_52 : decode cX7_readLook 52 = .ok (.invokevirtual 115, 3) := by decide +kernel
theorem dX7_readLook_55 : decode cX7_readLook 55 = .ok (.return_, 1) := by decide +kernel
theorem dX7_readNumber_0 : decode cX7_readNumber 0 = .ok (.aload_n 1, 1) := by decide +kernel
theorem dX7_readNumber_1 : decode cX7_readNumber 1 = .ok (.iload_n 2, 1) := by decide +kernel
theorem dX7_readNumber_2 : decode cX7_readNumber 2 = .ok (.aload_n 0, 1) := by decide +kernel
theorem dX7_readNumber_3 : decode cX7_readNumber 3 = .ok (.iconst 0, 1) := by decide +kernel
theorem dX7_readNumber_4 : decode cX7_readNumber 4 = .ok (.sipush 9999, 3) := by decide +kernel
theorem dX7_readNumber_7 : decode cX7_readNumber 7 = .ok (.invokevirtual 88, 3) := by decide +kernel
theorem dX7_readNumber_10 : decode cX7_readNumber 10 = .ok (.invokevirtual 115, 3) := by decide +kernel
theorem dX7_readNumber_13 : decode cX7_readNumber 13 = .ok (.return_, 1) := by decide +kernel
theorem dX7_number_0 : decode cX7_number 0 = .ok (.aload_n 0, 1) := by decide +kernel
theorem dX7_number_1 : decode cX7_number 1 = .ok (.getfield 22, 3) := by decide +kernel
theorem dX7_number_4 : decode cX7_number 4 = .ok (.iconst (-1), 1) := by decide +kernel
theorem dX7_number_5 : decode cX7_number 5 = .ok (.if_icmp .eq 5, 3) := by decide +kernel
theorem dX7_number_8 : decode cX7_number 8 = .ok (.iload_n 1, 1) := by decide +kernel
theorem dX7_number_9 : decode cX7_number 9 = .ok (.ireturn, 1) := by decide +kernel
theorem dX7_number_10 : decode cX7_number 10 = .ok (.aload_n 0, 1) := by decide +kernel
theorem dX7_number_11 : decode cX7_number 11 = .ok (.aload_n 0, 1) := by decide +kernel
theorem dX7_number_12 : decode cX7_number 12 = .ok (.getfield 31, 3) := by decide +kernel
theorem dX7_number_15 : decode cX7_number 15 = .ok (.invokevirtual 119, 3) := by decide +kernel
theorem dX7_number_18 : decode cX7_number 18 = .ok (.invokestatic 123, 3) := by decide +kernel
theorem dX7_number_21 : decode cX7_number 21 = .ok (.iconst 3, 1) := by decide +kernel
theorem dX7_number_22 : decode cX7_number 22 = .ok (.if_icmp .ne 20, 3) := by decide +kernel
theorem dX7_number_25 : decode cX7_number 25 = .ok (.aload_n 0, 1) := by decide +kernel
theorem dX7_number_26 : decode cX7_number 26 = .ok (.getfield 25, 3) := by decide +kernel
theorem dX7_number_29 : decode cX7_number 29 = .ok (.aload_n 0, 1) := by decide +kernel
theorem dX7_number_30 : decode cX7_number 30 = .ok (.getfield 31, 3) := by decide +kernel
theorem dX7_number_33 : decode cX7_number 33 = .ok (.isub, 1) := by decide +kernel
theorem dX7_number_34 : decode cX7_number 34 = .ok (.iconst 4, 1) := by decide +kernel
theorem dX7_number_35 : decode cX7_number 35 = .ok (.if_icmp .gt 7, 3) := by decide +kernel
theorem dX7_number_38 : decode cX7_number 38 = .ok (.iconst 1, 1) := by decide +kernel
theorem dX7_number_39 : decode cX7_number 39 = .ok (.goto 4, 3) := by decide +kernel
theorem dX7_number_42 : decode cX7_number 42 = .ok (.iconst 0, 1) := by decide +kernel
theorem dX7_number_43 : decode cX7_number 43 = .ok (.istore_n 3, 1) := by decide +kernel
theorem dX7_number_44 : decode cX7_number 44 = .ok (.iload_n 3, 1) := by decide +kernel
theorem dX7_number_45 : decode cX7_number 45 = .ok (.ifCond .eq 10, 3) := by decide +kernel
theorem dX7_number_48 : decode cX7_number 48 = .ok (.aload_n 0, 1) := by decide +kernel
theorem dX7_number_49 : decode cX7_number 49 = .ok (.invokevirtual 126, 3) := by decide +kernel
theorem dX7_number_52 : decode cX7_number 52 = .ok (.goto 4, 3) := by decide +kernel
theorem dX7_number_55 : decode cX7_number 55 = .ok (.iconst (-1), 1) := by decide +kernel
theorem dX7_number_56 : decode cX7_number 56 = .ok (.istore 4, 2) := by decide +kernel
theorem dX7_number_58 : decode cX7_number 58 = .ok (.iload 4, 2) := by decide +kernel
theorem dX7_number_60 : decode cX7_number 60 = .ok (.iload_n 1, 1) := by decide +kernel
theorem dX7_number_61 : decode cX7_number 61 = .ok (.iload_n 2, 1) := by decide +kernel
theorem dX7_number_62 : decode cX7_number 62 = .ok (.invokestatic 130, 3) := by decide +kernel
theorem dX7_number_65 : decode cX7_number 65 = .ok (.ifCond .ne 13, 3) := by decide +kernel
theorem dX7_number_68 : decode cX7_number 68 = .ok (.aload_n 0, 1) := by decide +kernel
theorem dX7_number_69 : decode cX7_number 69 = .ok (.aload_n 0, 1) := by decide +kernel
theorem dX7_number_70 : decode cX7_number 70 = .ok (.getfield 31, 3) := by decide +kernel
theorem dX7_number_73 : decode cX7_number 73 = .ok (.putfield 22, 3) := by decide +kernel
theorem dX7_number_76 : decode cX7_number 76 = .ok (.iload_n 1, 1) := by decide +kernel
theorem dX7_number_77 : decode cX7_number 77 = .ok (.ireturn, 1) := by decide +kernel
theorem dX7_number_78 : decode cX7_number 78 = .ok (.aload_n 0, 1) := by decide +kernel
theorem dX7_number_79 : decode cX7_number 79 = .ok (.invokevirtual 28, 3) := by decide +kernel
theorem dX7_number_82 : decode cX7_number 82 = .ok (.iload 4, 2) := by decide +kernel
theorem dX7_number_84 : decode cX7_number 84 = .ok (.ireturn, 1) := by decide +kernel
theorem dX7_valueOfToken_0 : decode cX7_valueOfToken 0 = .ok (.iconst 0, 1) := by decide +kernel
theorem dX7_valueOfToken_1 : decode cX7_valueOfToken 1 = .ok (.istore_n 1, 1) := by decide +kernel
theorem dX7_valueOfToken_2 : decode cX7_valueOfToken 2 = .ok (.aload_n 0, 1) := by decide +kernel
theorem dX7_valueOfToken_3 : decode cX7_valueOfToken 3 = .ok (.getfield 31, 3) := by decide +kernel
theorem dX7_valueOfToken_6 : decode cX7_valueOfToken 6 = .ok (.istore_n 2, 1) := by decide +kernel
theorem dX7_valueOfToken_7 : decode cX7_valueOfToken 7 = .ok (.iload_n 2, 1) := by decide +kernel
theorem dX7_valueOfToken_8 : decode cX7_valueOfToken 8 = .ok (.aload_n 0, 1) := by decide +kernel
theorem dX7_valueOfToken_9 : decode cX7_valueOfToken 9 = .ok (.getfield 25, 3) := by decide +kernel
theorem dX7_valueOfToken_12 : decode cX7_valueOfToken 12 = .ok (.if_icmp .ge 23, 3) := by decide +kernel
theorem dX7_valueOfToken_15 : decode cX7_valueOfToken 15 = .ok (.bipush 10, 2) := by decide +kernel
theorem dX7_valueOfToken_17 : decode cX7_valueOfToken 17 = .ok (.iload_n 1, 1) := by decide +kernel
theorem dX7_valueOfToken_18 : decode cX7_valueOfToken 18 = .ok (.imul, 1) := by decide +kernel
theorem dX7_valueOfToken_19 : decode cX7_valueOfToken 19 = .ok (.aload_n 0, 1) := by decide +kernel
theorem dX7_valueOfToken_20 : decode cX7_valueOfToken 20 = .ok (.iload_n 2, 1) := by decide +kernel
theorem dX7_valueOfToken_21 : decode cX7_valueOfToken 21 = .ok (.invokevirtual 119, 3) := by decide +kernel
theorem dX7_valueOfToken_24 : decode cX7_valueOfToken 24 = .ok (.iadd, 1) := by decide +kernel
theorem dX7_valueOfToken_25 : decode cX7_valueOfToken 25 = .ok (.bipush 48, 2) := by decide +kernel
theorem dX7_valueOfToken_27 : decode cX7_valueOfToken 27 = .ok (.isub, 1) := by decide +kernel
theorem dX7_valueOfToken_28 : decode cX7_valueOfToken 28 = .ok (.istore_n 1, 1) := by decide +kernel
theorem dX7_valueOfToken_29 : decode cX7_valueOfToken 29 = .ok (.iinc 2 1, 3) := by decide +kernel
theorem dX7_valueOfToken_32 : decode cX7_valueOfToken 32 = .ok (.goto (-25), 3) := by decide +kernel
theorem dX7_valueOfToken_35 : decode cX7_valueOfToken 35 = .ok (.iload_n 1, 1) := by decide +kernel
theorem dX7_valueOfToken_36 : decode cX7_valueOfToken 36 = .ok (.ireturn, 1) := by decide +kernel
theorem dX7_need_0 : decode cX7_need 0 = .ok (.aload_n 0, 1) := by decide +kernel
theorem dX7_need_1 : decode cX7_need 1 = .ok (.getfield 22, 3) := by decide +kernel
theorem dX7_need_4 : decode cX7_need 4 = .ok (.iconst (-1), 1) := by decide +kernel
theorem dX7_need_5 : decode cX7_need 5 = .ok (.if_icmp .eq 4, 3) := by decide +kernel
theorem dX7_need_8 : decode cX7_need 8 = .ok (.return_, 1) := by decide +kernel
theorem dX7_need_9 : decode cX7_need 9 = .ok (.aload_n 0, 1) := by decide +kernel
theorem dX7_need_10 : decode cX7_need 10 = .ok (.aload_n 1, 1) := by decide +kernel
theorem dX7_need_11 : decode cX7_need 11 = .ok (.invokevirtual 134, 3) := by decide +kernel
theorem dX7_need_14 : decode cX7_need 14 = .ok (.ifCond .eq 10, 3) := by decide +kernel
theorem dX7_need_17 : decode cX7_need 17 = .ok (.aload_n 0, 1) := by decide +kernel
theorem dX7_need_18 : decode cX7_need 18 = .ok (.invokevirtual 28, 3) := by decide +kernel
theorem dX7_need_21 : decode cX7_need 21 = .ok (.goto 11, 3) := by decide +kernel
theorem dX7_need_24 : decode cX7_need 24 = .ok (.aload_n 0, 1) := by decide +kernel
theorem dX7_need_25 : decode cX7_need 25 = .ok (.aload_n 0, 1) := by decide +kernel
theorem dX7_need_26 : decode cX7_need 26 = .ok (.getfield 31, 3) := by decide +kernel
theorem dX7_need_29 : decode cX7_need 29 = .ok (.putfield 22, 3) := by decide +kernel
theorem dX7_need_32 : decode cX7_need 32 = .ok (.return_, 1) := by decide +kernel
theorem dX7_skips_0 : decode cX7_skips 0 = .ok (.aload_n 0, 1) := by decide +kernel
theorem dX7_skips_1 : decode cX7_skips 1 = .ok (.aload_n 1, 1) := by decide +kernel
theorem dX7_skips_2 : decode cX7_skips 2 = .ok (.invokevirtual 134, 3) := by decide +kernel
theorem dX7_skips_5 : decode cX7_skips 5 = .ok (.istore_n 2, 1) := by decide +kernel
theorem dX7_skips_6 : decode cX7_skips 6 = .ok (.iload_n 2, 1) := by decide +kernel
theorem dX7_skips_7 : decode cX7_skips 7 = .ok (.ifCond .eq 7, 3) := by decide +kernel
theorem dX7_skips_10 : decode cX7_skips 10 = .ok (.aload_n 0, 1) := by decide +kernel
theorem dX7_skips_11 : decode cX7_skips 11 = .ok (.invokevirtual 28, 3) := by decide +kernel
theorem dX7_skips_14 : decode cX7_skips 14 = .ok (.iload_n 2, 1) := by decide +kernel
theorem dX7_skips_15 : decode cX7_skips 15 = .ok (.ireturn, 1) := by decide +kernel
theorem dX7_isToken_0 : decode cX7_isToken 0 = .ok (.aload_n 0, 1) := by decide +kernel
theorem dX7_isToken_1 : decode cX7_isToken 1 = .ok (.getfield 25, 3) := by decide +kernel
theorem dX7_isToken_4 : decode cX7_isToken 4 = .ok (.aload_n 0, 1) := by decide +kernel
theorem dX7_isToken_5 : decode cX7_isToken 5 = .ok (.getfield 31, 3) := by decide +kernel
theorem dX7_isToken_8 : decode cX7_isToken 8 = .ok (.isub, 1) := by decide +kernel
theorem dX7_isToken_9 : decode cX7_isToken 9 = .ok (.aload_n 1, 1) := by decide +kernel
theorem dX7_isToken_10 : decode cX7_isToken 10 = .ok (.invokevirtual 137, 3) := by decide +kernel
theorem dX7_isToken_13 : decode cX7_isToken 13 = .ok (.if_icmp .eq 5, 3) := by decide +kernel
theorem dX7_isToken_16 : decode cX7_isToken 16 = .ok (.iconst 0, 1) := by decide +kernel
theorem dX7_isToken_17 : decode cX7_isToken 17 = .ok (.ireturn, 1) := by decide +kernel
theorem dX7_isToken_18 : decode cX7_isToken 18 = .ok (.iconst 0, 1) := by decide +kernel
theorem dX7_isToken_19 : decode cX7_isToken 19 = .ok (.istore_n 2, 1) := by decide +kernel
theorem dX7_isToken_20 : decode cX7_isToken 20 = .ok (.iload_n 2, 1) := by decide +kernel
theorem dX7_isToken_21 : decode cX7_isToken 21 = .ok (.aload_n 1, 1) := by decide +kernel
theorem dX7_isToken_22 : decode cX7_isToken 22 = .ok (.invokevirtual 137, 3) := by decide +kernel
theorem dX7_isToken_25 : decode cX7_isToken 25 = .ok (.if_icmp .ge 29, 3) := by decide +kernel
theorem dX7_isToken_28 : decode cX7_isToken 28 = .ok (.aload_n 0, 1) := by decide +kernel
theorem dX7_isToken_29 : decode cX7_isToken 29 = .ok (.aload_n 0, 1) := by decide +kernel
theorem dX7_isToken_30 : decode cX7_isToken 30 = .ok (.getfield 31, 3) := by decide +kernel
theorem dX7_isToken_33 : decode cX7_isToken 33 = .ok (.iload_n 2, 1) := by decide +kernel
theorem dX7_isToken_34 : decode cX7_isToken 34 = .ok (.iadd, 1) := by decide +kernel
theorem dX7_isToken_35 : decode cX7_isToken 35 = .ok (.invokevirtual 119, 3) := by decide +kernel
theorem dX7_isToken_38 : decode cX7_isToken 38 = .ok (.aload_n 1, 1) := by decide +kernel
theorem dX7_isToken_39 : decode cX7_isToken 39 = .ok (.iload_n 2, 1) := by decide +kernel
theorem dX7_isToken_40 : decode cX7_isToken 40 = .ok (.invokevirtual 141, 3) := by decide +kernel
theorem dX7_isToken_43 : decode cX7_isToken 43 = .ok (.if_icmp .eq 5, 3) := by decide +kernel
theorem dX7_isToken_46 : decode cX7_isToken 46 = .ok (.iconst 0, 1) := by decide +kernel
theorem dX7_isToken_47 : decode cX7_isToken 47 = .ok (.ireturn, 1) := by decide +kernel
theorem dX7_isToken_48 : decode cX7_isToken 48 = .ok (.iinc 2 1, 3) := by decide +kernel
theorem dX7_isToken_51 : decode cX7_isToken 51 = .ok (.goto (-31), 3) := by decide +kernel
theorem dX7_isToken_54 : decode cX7_isToken 54 = .ok (.iconst 1, 1) := by decide +kernel
theorem dX7_isToken_55 : decode cX7_isToken 55 = .ok (.ireturn, 1) := by decide +kernel
theorem dX7_step_0 : decode cX7_step 0 = .ok (.aload_n 0, 1) := by decide +kernel
theorem dX7_step_1 : decode cX7_step 1 = .ok (.aload_n 0, 1) := by decide +kernel
theorem dX7_step_2 : decode cX7_step 2 = .ok (.getfield 25, 3) := by decide +kernel
theorem dX7_step_5 : decode cX7_step 5 = .ok (.putfield 31, 3) := by decide +kernel
theorem dX7_step_8 : decode cX7_step 8 = .ok (.aload_n 0, 1) := by decide +kernel
theorem dX7_step_9 : decode cX7_step 9 = .ok (.getfield 31, 3) := by decide +kernel
theorem dX7_step_12 : decode cX7_step 12 = .ok (.aload_n 0, 1) := by decide +kernel
theorem dX7_step_13 : decode cX7_step 13 = .ok (.getfield 19, 3) := by decide +kernel
theorem dX7_step_16 : decode cX7_step 16 = .ok (.if_icmp .ge 31, 3) := by decide +kernel
theorem dX7_step_19 : decode cX7_step 19 = .ok (.aload_n 0, 1) := by decide +kernel
theorem dX7_step_20 : decode cX7_step 20 = .ok (.aload_n 0, 1) := by decide +kernel
theorem dX7_step_21 : decode cX7_step 21 = .ok (.getfield 31, 3) := by decide +kernel
theorem dX7_step_24 : decode cX7_step 24 = .ok (.invokevirtual 119, 3) := by decide +kernel
theorem dX7_step_27 : decode cX7_step 27 = .ok (.invokestatic 123, 3) := by decide +kernel
theorem dX7_step_30 : decode cX7_step 30 = .ok (.iconst 1, 1) := by decide +kernel
theorem dX7_step_31 : decode cX7_step 31 = .ok (.if_icmp .ne 16, 3) := by decide +kernel
theorem dX7_step_34 : decode cX7_step 34 = .ok (.aload_n 0, 1) := by decide +kernel
theorem dX7_step_35 : decode cX7_step 35 = .ok (.dup, 1) := by decide +kernel
theorem dX7_step_36 : decode cX7_step 36 = .ok (.getfield 31, 3) := by decide +kernel
theorem dX7_step_39 : decode cX7_step 39 = .ok (.iconst 1, 1) := by decide +kernel
theorem dX7_step_40 : decode cX7_step 40 = .ok (.iadd, 1) := by decide +kernel
theorem dX7_step_41 : decode cX7_step 41 = .ok (.putfield 31, 3) := by decide +kernel
theorem dX7_step_44 : decode cX7_step 44 = .ok (.goto (-36), 3) := by decide +kernel
theorem dX7_step_47 : decode cX7_step 47 = .ok (.aload_n 0, 1) := by decide +kernel
theorem dX7_step_48 : decode cX7_step 48 = .ok (.aload_n 0, 1) := by decide +kernel
theorem dX7_step_49 : decode cX7_step 49 = .ok (.getfield 31, 3) := by decide +kernel
theorem dX7_step_52 : decode cX7_step 52 = .ok (.invokevirtual 119, 3) := by decide +kernel
theorem dX7_step_55 : decode cX7_step 55 = .ok (.invokestatic 123, 3) := by decide +kernel
theorem dX7_step_58 : decode cX7_step 58 = .ok (.istore_n 1, 1) := by decide +kernel
theorem dX7_step_59 : decode cX7_step 59 = .ok (.aload_n 0, 1) := by decide +kernel
theorem dX7_step_60 : decode cX7_step 60 = .ok (.aload_n 0, 1) := by decide +kernel
theorem dX7_step_61 : decode cX7_step 61 = .ok (.getfield 31, 3) := by decide +kernel
theorem dX7_step_64 : decode cX7_step 64 = .ok (.iconst 1, 1) := by decide +kernel
theorem dX7_step_65 : decode cX7_step 65 = .ok (.iadd, 1) := by decide +kernel
theorem dX7_step_66 : decode cX7_step 66 = .ok (.aload_n 0, 1) := by decide +kernel
theorem dX7_step_67 : decode cX7_step 67 = .ok (.getfield 19, 3) := by decide +kernel
theorem dX7_step_70 : decode cX7_step 70 = .ok (.invokestatic 145, 3) := by decide +kernel
theorem dX7_step_73 : decode cX7_step 73 = .ok (.putfield 25, 3) := by decide +kernel
theorem dX7_step_76 : decode cX7_step 76 = .ok (.aload_n 0, 1) := by decide +kernel
theorem dX7_step_77 : decode cX7_step 77 = .ok (.getfield 25, 3) := by decide +kernel
theorem dX7_step_80 : decode cX7_step 80 = .ok (.aload_n 0, 1) := by decide +kernel
theorem dX7_step_81 : decode cX7_step 81 = .ok (.getfield 19, 3) := by decide +kernel
theorem dX7_step_84 : decode cX7_step 84 = .ok (.if_icmp .ge 35, 3) := by decide +kernel
theorem dX7_step_87 : decode cX7_step 87 = .ok (.iload_n 1, 1) := by decide +kernel
theorem dX7_step_88 : decode cX7_step 88 = .ok (.ifCond .eq 31, 3) := by decide +kernel
theorem dX7_step_91 : decode cX7_step 91 = .ok (.aload_n 0, 1) := by decide +kernel
theorem dX7_step_92 : decode cX7_step 92 = .ok (.aload_n 0, 1) := by decide +kernel
theorem dX7_step_93 : decode cX7_step 93 = .ok (.getfield 25, 3) := by decide +kernel
theorem dX7_step_96 : decode cX7_step 96 = .ok (.invokevirtual 119, 3) := by decide +kernel
theorem dX7_step_99 : decode cX7_step 99 = .ok (.invokestatic 123, 3) := by decide +kernel
theorem dX7_step_102 : decode cX7_step 102 = .ok (.iload_n 1, 1) := by decide +kernel
theorem dX7_step_103 : decode cX7_step 103 = .ok (.if_icmp .ne 16, 3) := by decide +kernel
theorem dX7_step_106 : decode cX7_step 106 = .ok (.aload_n 0, 1) := by decide +kernel
theorem dX7_step_107 : decode cX7_step 107 = .ok (.dup, 1) := by decide +kernel
theorem dX7_step_108 : decode cX7_step 108 = .ok (.getfield 25, 3) := by decide +kernel
theorem dX7_step_111 : decode cX7_step 111 = .ok (.iconst 1, 1) := by decide +kernel
theorem dX7_step_112 : decode cX7_step 112 = .ok (.iadd, 1) := by decide +kernel
theorem dX7_step_113 : decode cX7_step 113 = .ok (.putfield 25, 3) := by decide +kernel
theorem dX7_step_116 : decode cX7_step 116 = .ok (.goto (-40), 3) := by decide +kernel
theorem dX7_step_119 : decode cX7_step 119 = .ok (.return_, 1) := by decide +kernel
theorem dX7_byteAt_0 : decode cX7_byteAt 0 = .ok (.iload_n 1, 1) := by decide +kernel
theorem dX7_byteAt_1 : decode cX7_byteAt 1 = .ok (.ifCond .lt 29, 3) := by decide +kernel
theorem dX7_byteAt_4 : decode cX7_byteAt 4 = .ok (.iload_n 1, 1) := by decide +kernel
theorem dX7_byteAt_5 : decode cX7_byteAt 5 = .ok (.aload_n 0, 1) := by decide +kernel
theorem dX7_byteAt_6 : decode cX7_byteAt 6 = .ok (.getfield 19, 3) := by decide +kernel
theorem dX7_byteAt_9 : decode cX7_byteAt 9 = .ok (.if_icmp .ge 21, 3) := by decide +kernel
theorem dX7_byteAt_12 : decode cX7_byteAt 12 = .ok (.iload_n 1, 1) := by decide +kernel
theorem dX7_byteAt_13 : decode cX7_byteAt 13 = .ok (.aload_n 0, 1) := by decide +kernel
theorem dX7_byteAt_14 : decode cX7_byteAt 14 = .ok (.getfield 9, 3) := by decide +kernel
theorem dX7_byteAt_17 : decode cX7_byteAt 17 = .ok (.arraylength, 1) := by decide +kernel
theorem dX7_byteAt_18 : decode cX7_byteAt 18 = .ok (.if_icmp .ge 12, 3) := by decide +kernel
theorem dX7_byteAt_21 : decode cX7_byteAt 21 = .ok (.aload_n 0, 1) := by decide +kernel
theorem dX7_byteAt_22 : decode cX7_byteAt 22 = .ok (.getfield 9, 3) := by decide +kernel
theorem dX7_byteAt_25 : decode cX7_byteAt 25 = .ok (.iload_n 1, 1) := by decide +kernel
theorem dX7_byteAt_26 : decode cX7_byteAt 26 = .ok (.iaload, 1) := by decide +kernel
theorem dX7_byteAt_27 : decode cX7_byteAt 27 = .ok (.goto 4, 3) := by decide +kernel
theorem dX7_byteAt_30 : decode cX7_byteAt 30 = .ok (.iconst (-1), 1) := by decide +kernel
theorem dX7_byteAt_31 : decode cX7_byteAt 31 = .ok (.ireturn, 1) := by decide +kernel
theorem dX7_kindOf_0 : decode cX7_kindOf 0 = .ok (.iload_n 0, 1) := by decide +kernel
theorem dX7_kindOf_1 : decode cX7_kindOf 1 = .ok (.bipush 97, 2) := by decide +kernel
theorem dX7_kindOf_3 : decode cX7_kindOf 3 = .ok (.if_icmp .lt 11, 3) := by decide +kernel
theorem dX7_kindOf_6 : decode cX7_kindOf 6 = .ok (.iload_n 0, 1) := by decide +kernel
theorem dX7_kindOf_7 : decode cX7_kindOf 7 = .ok (.bipush 122, 2) := by decide +kernel
theorem dX7_kindOf_9 : decode cX7_kindOf 9 = .ok (.if_icmp .gt 5, 3) := by decide +kernel
theorem dX7_kindOf_12 : decode cX7_kindOf 12 = .ok (.iconst 2, 1) := by decide +kernel
theorem dX7_kindOf_13 : decode cX7_kindOf 13 = .ok (.ireturn, 1) := by decide +kernel
theorem dX7_kindOf_14 : decode cX7_kindOf 14 = .ok (.iload_n 0, 1) := by decide +kernel
theorem dX7_kindOf_15 : decode cX7_kindOf 15 = .ok (.bipush 48, 2) := by decide +kernel
theorem dX7_kindOf_17 : decode cX7_kindOf 17 = .ok (.if_icmp .lt 11, 3) := by decide +kernel
theorem dX7_kindOf_20 : decode cX7_kindOf 20 = .ok (.iload_n 0, 1) := by decide +kernel
theorem dX7_kindOf_21 : decode cX7_kindOf 21 = .ok (.bipush 57, 2) := by decide +kernel
theorem dX7_kindOf_23 : decode cX7_kindOf 23 = .ok (.if_icmp .gt 5, 3) := by decide +kernel
theorem dX7_kindOf_26 : decode cX7_kindOf 26 = .ok (.iconst 3, 1) := by decide +kernel
theorem dX7_kindOf_27 : decode cX7_kindOf 27 = .ok (.ireturn, 1) := by decide +kernel
theorem dX7_kindOf_28 : decode cX7_kindOf 28 = .ok (.iload_n 0, 1) := by decide +kernel
theorem dX7_kindOf_29 : decode cX7_kindOf 29 = .ok (.bipush 32, 2) := by decide +kernel
theorem dX7_kindOf_31 : decode cX7_kindOf 31 = .ok (.if_icmp .eq 9, 3) := by decide +kernel
theorem dX7_kindOf_34 : decode cX7_kindOf 34 = .ok (.iload_n 0, 1) := by decide +kernel
theorem dX7_kindOf_35 : decode cX7_kindOf 35 = .ok (.bipush 10, 2) := by decide +kernel
theorem dX7_kindOf_37 : decode cX7_kindOf 37 = .ok (.if_icmp .ne 7, 3) := by decide +kernel
theorem dX7_kindOf_40 : decode cX7_kindOf 40 = .ok (.iconst 1, 1) := by decide +kernel
theorem dX7_kindOf_41 : decode cX7_kindOf 41 = .ok (.goto 4, 3) := by decide +kernel
theorem dX7_kindOf_44 : decode cX7_kindOf 44 = .ok (.iconst 0, 1) := by decide +kernel
theorem dX7_kindOf_45 : decode cX7_kindOf 45 = .ok (.ireturn, 1) := by decide +kernel
theorem dX8_init_0 : decode cX8_init 0 = .ok (.aload_n 0, 1) := by decide +kernel
theorem dX8_init_1 : decode cX8_init 1 = .ok (.invokespecial 1, 3) := by decide +kernel
theorem dX8_init_4 : decode cX8_init 4 = .ok (.aload_n 0, 1) := by decide +kernel
theorem dX8_init_5 : decode cX8_init 5 = .ok (.iload_n 1, 1) := by decide +kernel
theorem dX8_init_6 : decode cX8_init 6 = .ok (.putfield 7, 3) := by decide +kernel
theorem dX8_init_9 : decode cX8_init 9 = .ok (.aload_n 0, 1) := by decide +kernel
theorem dX8_init_10 : decode cX8_init 10 = .ok (.iload_n 2, 1) := by decide +kernel
theorem dX8_init_11 : decode cX8_init 11 = .ok (.putfield 13, 3) := by decide +kernel
theorem dX8_init_14 : decode cX8_init 14 = .ok (.aload_n 0, 1) := by decide +kernel
theorem dX8_init_15 : decode cX8_init 15 = .ok (.aload_n 3, 1) := by decide +kernel
theorem dX8_init_16 : decode cX8_init 16 = .ok (.invokevirtual 16, 3) := by decide +kernel
theorem dX8_init_19 : decode cX8_init 19 = .ok (.putfield 22, 3) := by decide +kernel
theorem dX8_init_22 : decode cX8_init 22 = .ok (.aload_n 0, 1) := by decide +kernel
theorem dX8_init_23 : decode cX8_init 23 = .ok (.aload_n 3, 1) := by decide +kernel
theorem dX8_init_24 : decode cX8_init 24 = .ok (.invokevirtual 24, 3) := by decide +kernel
theorem dX8_init_27 : decode cX8_init 27 = .ok (.putfield 27, 3) := by decide +kernel
theorem dX8_init_30 : decode cX8_init 30 = .ok (.aload_n 0, 1) := by decide +kernel
theorem dX8_init_31 : decode cX8_init 31 = .ok (.aload_n 3, 1) := by decide +kernel
theorem dX8_init_32 : decode cX8_init 32 = .ok (.getfield 29, 3) := by decide +kernel
theorem dX8_init_35 : decode cX8_init 35 = .ok (.putfield 32, 3) := by decide +kernel
theorem dX8_init_38 : decode cX8_init 38 = .ok (.return_, 1) := by decide +kernel
theorem dX9_init_0 : decode cX9_init 0 = .ok (.aload_n 0, 1) := by decide +kernel
theorem dX9_init_1 : decode cX9_init 1 = .ok (.invokespecial 1, 3) := by decide +kernel
theorem dX9_init_4 : decode cX9_init 4 = .ok (.aload_n 0, 1) := by decide +kernel
theorem dX9_init_5 : decode cX9_init 5 = .ok (.iload_n 1, 1) := by decide +kernel
theorem dX9_init_6 : decode cX9_init 6 = .ok (.putfield 7, 3) := by decide +kernel
theorem dX9_init_9 : decode cX9_init 9 = .ok (.aload_n 0, 1) := by decide +kernel
theorem dX9_init_10 : decode cX9_init 10 = .ok (.iload_n 2, 1) := by decide +kernel
theorem dX9_init_11 : decode cX9_init 11 = .ok (.putfield 13, 3) := by decide +kernel
theorem dX9_init_14 : decode cX9_init 14 = .ok (.aload_n 0, 1) := by decide +kernel
theorem dX9_init_15 : decode cX9_init 15 = .ok (.iload_n 3, 1) := by decide +kernel
theorem dX9_init_16 : decode cX9_init 16 = .ok (.putfield 16, 3) := by decide +kernel
theorem dX9_init_19 : decode cX9_init 19 = .ok (.aload_n 0, 1) := by decide +kernel
theorem dX9_init_20 : decode cX9_init 20 = .ok (.iload 4, 2) := by decide +kernel
theorem dX9_init_22 : decode cX9_init 22 = .ok (.putfield 19, 3) := by decide +kernel
theorem dX9_init_25 : decode cX9_init 25 = .ok (.return_, 1) := by decide +kernel
theorem dX9_fallsOn_0 : decode cX9_fallsOn 0 = .ok (.iload_n 1, 1) := by decide +kernel
theorem dX9_fallsOn_1 : decode cX9_fallsOn 1 = .ok (.aload_n 0, 1) := by decide +kernel
theorem dX9_fallsOn_2 : decode cX9_fallsOn 2 = .ok (.getfield 19, 3) := by decide +kernel
theorem dX9_fallsOn_5 : decode cX9_fallsOn 5 = .ok (.if_icmp .lt 28, 3) := by decide +kernel
theorem dX9_fallsOn_8 : decode cX9_fallsOn 8 = .ok (.aload_n 0, 1) := by decide +kernel
theorem dX9_fallsOn_9 : decode cX9_fallsOn 9 = .ok (.getfield 16, 3) := by decide +kernel
theorem dX9_fallsOn_12 : decode cX9_fallsOn 12 = .ok (.ifCond .le 21, 3) := by decide +kernel
theorem dX9_fallsOn_15 : decode cX9_fallsOn 15 = .ok (.iload_n 1, 1) := by decide +kernel
theorem dX9_fallsOn_16 : decode cX9_fallsOn 16 = .ok (.aload_n 0, 1) := by decide +kernel
theorem dX9_fallsOn_17 : decode cX9_fallsOn 17 = .ok (.getfield 19, 3) := by decide +kernel
theorem dX9_fallsOn_20 : decode cX9_fallsOn 20 = .ok (.isub, 1) := by decide +kernel
theorem dX9_fallsOn_21 : decode cX9_fallsOn 21 = .ok (.aload_n 0, 1) := by decide +kernel
theorem dX9_fallsOn_22 : decode cX9_fallsOn 22 = .ok (.getfield 16, 3) := by decide +kernel
theorem dX9_fallsOn_25 : decode cX9_fallsOn 25 = .ok (.irem, 1) := by decide +kernel
theorem dX9_fallsOn_26 : decode cX9_fallsOn 26 = .ok (.ifCond .ne 7, 3) := by decide +kernel
theorem dX9_fallsOn_29 : decode cX9_fallsOn 29 = .ok (.iconst 1, 1) := by decide +kernel
theorem dX9_fallsOn_30 : decode cX9_fallsOn 30 = .ok (.goto 4, 3) := by decide +kernel
theorem dX9_fallsOn_33 : decode cX9_fallsOn 33 = .ok (.iconst 0, 1) := by decide +kernel
theorem dX9_fallsOn_34 : decode cX9_fallsOn 34 = .ok (.ireturn, 1) := by decide +kernel
theorem dX10_init_0 : decode cX10_init 0 = .ok (.aload_n 0, 1) := by decide +kernel
theorem dX10_init_1 : decode cX10_init 1 = .ok (.invokespecial 1, 3) := by decide +kernel
theorem dX10_init_4 : decode cX10_init 4 = .ok (.aload_n 0, 1) := by decide +kernel
theorem dX10_init_5 : decode cX10_init 5 = .ok (.new 7, 3) := by decide +kernel
theorem dX10_init_8 : decode cX10_init 8 = .ok (.dup, 1) := by decide +kernel
theorem dX10_init_9 : decode cX10_init 9 = .ok (.invokespecial 9, 3) := by decide +kernel
theorem dX10_init_12 : decode cX10_init 12 = .ok (.putfield 10, 3) := by decide +kernel
theorem dX10_init_15 : decode cX10_init 15 = .ok (.aload_n 0, 1) := by decide +kernel
theorem dX10_init_16 : decode cX10_init 16 = .ok (.new 7, 3) := by decide +kernel
theorem dX10_init_19 : decode cX10_init 19 = .ok (.dup, 1) := by decide +kernel
theorem dX10_init_20 : decode cX10_init 20 = .ok (.invokespecial 9, 3) := by decide +kernel
theorem dX10_init_23 : decode cX10_init 23 = .ok (.putfield 16, 3) := by decide +kernel
theorem dX10_init_26 : decode cX10_init 26 = .ok (.aload_n 0, 1) := by decide +kernel
theorem dX10_init_27 : decode cX10_init 27 = .ok (.new 7, 3) := by decide +kernel
theorem dX10_init_30 : decode cX10_init 30 = .ok (.dup, 1) := by decide +kernel
theorem dX10_init_31 : decode cX10_init 31 = .ok (.invokespecial 9, 3) := by decide +kernel
theorem dX10_init_34 : decode cX10_init 34 = .ok (.putfield 19, 3) := by decide +kernel
theorem dX10_init_37 : decode cX10_init 37 = .ok (.aload_n 0, 1) := by decide +kernel
theorem dX10_init_38 : decode cX10_init 38 = .ok (.new 7, 3) := by decide +kernel
theorem dX10_init_41 : decode cX10_init 41 = .ok (.dup, 1) := by decide +kernel
theorem dX10_init_42 : decode cX10_init 42 = .ok (.invokespecial 9, 3) := by decide +kernel
theorem dX10_init_45 : decode cX10_init 45 = .ok (.putfield 22, 3) := by decide +kernel
theorem dX10_init_48 : decode cX10_init 48 = .ok (.aload_n 0, 1) := by decide +kernel
theorem dX10_init_49 : decode cX10_init 49 = .ok (.new 7, 3) := by decide +kernel
theorem dX10_init_52 : decode cX10_init 52 = .ok (.dup, 1) := by decide +kernel
theorem dX10_init_53 : decode cX10_init 53 = .ok (.invokespecial 9, 3) := by decide +kernel
theorem dX10_init_56 : decode cX10_init 56 = .ok (.putfield 25, 3) := by decide +kernel
theorem dX10_init_59 : decode cX10_init 59 = .ok (.aload_n 0, 1) := by decide +kernel
theorem dX10_init_60 : decode cX10_init 60 = .ok (.new 28, 3) := by decide +kernel
theorem dX10_init_63 : decode cX10_init 63 = .ok (.dup, 1) := by decide +kernel
theorem dX10_init_64 : decode cX10_init 64 = .ok (.iconst 0, 1) := by decide +kernel
theorem dX10_init_65 : decode cX10_init 65 = .ok (.iconst (-1), 1) := by decide +kernel
theorem dX10_init_66 : decode cX10_init 66 = .ok (.invokespecial 30, 3) := by decide +kernel
theorem dX10_init_69 : decode cX10_init 69 = .ok (.putfield 33, 3) := by decide +kernel
theorem dX10_init_72 : decode cX10_init 72 = .ok (.aload_n 0, 1) := by decide +kernel
theorem dX10_init_73 : decode cX10_init 73 = .ok (.new 37, 3) := by decide +kernel
theorem dX10_init_76 : decode cX10_init 76 = .ok (.dup, 1) := by decide +kernel
theorem dX10_init_77 : decode cX10_init 77 = .ok (.invokespecial 39, 3) := by decide +kernel
theorem dX10_init_80 : decode cX10_init 80 = .ok (.putfield 40, 3) := by decide +kernel
theorem dX10_init_83 : decode cX10_init 83 = .ok (.aload_n 0, 1) := by decide +kernel
theorem dX10_init_84 : decode cX10_init 84 = .ok (.new 44, 3) := by decide +kernel
theorem dX10_init_87 : decode cX10_init 87 = .ok (.dup, 1) := by decide +kernel
theorem dX10_init_88 : decode cX10_init 88 = .ok (.invokespecial 46, 3) := by decide +kernel
theorem dX10_init_91 : decode cX10_init 91 = .ok (.putfield 47, 3) := by decide +kernel
theorem dX10_init_94 : decode cX10_init 94 = .ok (.aload_n 0, 1) := by decide +kernel
theorem dX10_init_95 : decode cX10_init 95 = .ok (.bipush 10, 2) := by decide +kernel
theorem dX10_init_97 : decode cX10_init 97 = .ok (.newarray .int, 2) := by decide +kernel
theorem dX10_init_99 : decode cX10_init 99 = .ok (.putfield 51, 3) := by decide +kernel
theorem dX10_init_102 : decode cX10_init 102 = .ok (.aload_n 0, 1) := by decide +kernel
theorem dX10_init_103 : decode cX10_init 103 = .ok (.bipush 30, 2) := by decide +kernel
theorem dX10_init_105 : decode cX10_init 105 = .ok (.newarray .int, 2) := by decide +kernel
theorem dX10_init_107 : decode cX10_init 107 = .ok (.putfield 55, 3) := by decide +kernel
theorem dX10_init_110 : decode cX10_init 110 = .ok (.aload_n 0, 1) := by decide +kernel
theorem dX10_init_111 : decode cX10_init 111 = .ok (.bipush 10, 2) := by decide +kernel
theorem dX10_init_113 : decode cX10_init 113 = .ok (.newarray .int, 2) := by decide +kernel
theorem dX10_init_115 : decode cX10_init 115 = .ok (.putfield 58, 3) := by decide +kernel
theorem dX10_init_118 : decode cX10_init 118 = .ok (.aload_n 0, 1) := by decide +kernel
theorem dX10_init_119 : decode cX10_init 119 = .ok (.bipush 10, 2) := by decide +kernel
theorem dX10_init_121 : decode cX10_init 121 = .ok (.bipush 10, 2) := by decide +kernel
theorem dX10_init_123 : decode cX10_init 123 = .ok (.multianewarray 61 2, 4) := by decide +kernel
theorem dX10_init_127 : decode cX10_init 127 = .ok (.putfield 63, 3) := by decide +kernel
theorem dX10_init_130 : decode cX10_init 130 = .ok (.aload_n 0, 1) := by decide +kernel
theorem dX10_init_131 : decode cX10_init 131 = .ok (.bipush 12, 2) := by decide +kernel
theorem dX10_init_133 : decode cX10_init 133 = .ok (.newarray .int, 2) := by decide +kernel
theorem dX10_init_135 : decode cX10_init 135 = .ok (.putfield 66, 3) := by decide +kernel
theorem dX10_init_138 : decode cX10_init 138 = .ok (.aload_n 0, 1) := by decide +kernel
theorem dX10_init_139 : decode cX10_init 139 = .ok (.bipush 7, 2) := by decide +kernel
theorem dX10_init_141 : decode cX10_init 141 = .ok (.newarray .long, 2) := by decide +kernel
theorem dX10_init_143 : decode cX10_init 143 = .ok (.putfield 69, 3) := by decide +kernel
theorem dX10_init_146 : decode cX10_init 146 = .ok (.aload_n 0, 1) := by decide +kernel
theorem dX10_init_147 : decode cX10_init 147 = .ok (.iconst (-1), 1) := by decide +kernel
theorem dX10_init_148 : decode cX10_init 148 = .ok (.putfield 73, 3) := by decide +kernel
theorem dX10_init_151 : decode cX10_init 151 = .ok (.aload_n 0, 1) := by decide +kernel
theorem dX10_init_152 : decode cX10_init 152 = .ok (.getfield 51, 3) := by decide +kernel
theorem dX10_init_155 : decode cX10_init 155 = .ok (.bipush 20, 2) := by decide +kernel
theorem dX10_init_157 : decode cX10_init 157 = .ok (.invokestatic 77, 3) := by decide +kernel
theorem dX10_init_160 : decode cX10_init 160 = .ok (.return_, 1) := by decide +kernel
theorem dX10_corner_0 : decode cX10_corner 0 = .ok (.iload_n 1, 1) := by decide +kernel
theorem dX10_corner_1 : decode cX10_corner 1 = .ok (.iconst 1, 1) := by decide +kernel
theorem dX10_corner_2 : decode cX10_corner 2 = .ok (.bipush 100, 2) := by decide +kernel
theorem dX10_corner_4 : decode cX10_corner 4 = .ok (.invokestatic 83, 3) := by decide +kernel
theorem dX10_corner_7 : decode cX10_corner 7 = .ok (.ifCond .eq 40, 3) := by decide +kernel
theorem dX10_corner_10 : decode cX10_corner 10 = .ok (.iload_n 2, 1) := by decide +kernel
theorem dX10_corner_11 : decode cX10_corner 11 = .ok (.iconst 1, 1) := by decide +kernel
theorem dX10_corner_12 : decode cX10_corner 12 = .ok (.sipush 500, 3) := by decide +kernel
theorem dX10_corner_15 : decode cX10_corner 15 = .ok (.invokestatic 83, 3) := by decide +kernel
theorem dX10_corner_18 : decode cX10_corner 18 = .ok (.ifCond .eq 29, 3) := by decide +kernel
theorem dX10_corner_21 : decode cX10_corner 21 = .ok (.iload_n 3, 1) := by decide +kernel
theorem dX10_corner_22 : decode cX10_corner 22 = .ok (.iconst 0, 1) := by decide +kernel
theorem dX10_corner_23 : decode cX10_corner 23 = .ok (.bipush 9, 2) := by decide +kernel
theorem dX10_corner_25 : decode cX10_corner 25 = .ok (.invokestatic 83, 3) := by decide +kernel
theorem dX10_corner_28 : decode cX10_corner 28 = .ok (.ifCond .eq 19, 3) := by decide +kernel
theorem dX10_corner_31 : decode cX10_corner 31 = .ok (.iload 4, 2) := by decide +kernel
theorem dX10_corner_33 : decode cX10_corner 33 = .ok (.iconst 0, 1) := by decide +kernel
theorem dX10_corner_34 : decode cX10_corner 34 = .ok (.sipush 500, 3) := by decide +kernel
theorem dX10_corner_37 : decode cX10_corner 37 = .ok (.invokestatic 83, 3) := by decide +kernel
theorem dX10_corner_40 : decode cX10_corner 40 = .ok (.ifCond .eq 7, 3) := by decide +kernel
theorem dX10_corner_43 : decode cX10_corner 43 = .ok (.iconst 1, 1) := by decide +kernel
theorem dX10_corner_44 : decode cX10_corner 44 = .ok (.goto 4, 3) := by decide +kernel
theorem dX10_corner_47 : decode cX10_corner 47 = .ok (.iconst 0, 1) := by decide +kernel
theorem dX10_corner_48 : decode cX10_corner 48 = .ok (.istore 5, 2) := by decide +kernel
theorem dX10_corner_50 : decode cX10_corner 50 = .ok (.iload 5, 2) := by decide +kernel
theorem dX10_corner_52 : decode cX10_corner 52 = .ok (.ifCond .eq 15, 3) := by decide +kernel
theorem dX10_corner_55 : decode cX10_corner 55 = .ok (.aload_n 0, 1) := by decide +kernel
theorem dX10_corner_56 : decode cX10_corner 56 = .ok (.getfield 10, 3) := by decide +kernel
theorem dX10_corner_59 : decode cX10_corner 59 = .ok (.invokevirtual 87, 3) := by decide +kernel
theorem dX10_corner_62 : decode cX10_corner 62 = .ok (.bipush 12, 2) := by decide +kernel
theorem dX10_corner_64 : decode cX10_corner 64 = .ok (.if_icmp .lt 5, 3) := by decide +kernel
theorem dX10_corner_67 : decode cX10_corner 67 = .ok (.iconst (-1), 1) := by decide +kernel
theorem dX10_corner_68 : decode cX10_corner 68 = .ok (.ireturn, 1) := by decide +kernel
theorem dX10_corner_69 : decode cX10_corner 69 = .ok (.aload_n 0, 1) := by decide +kernel
theorem dX10_corner_70 : decode cX10_corner 70 = .ok (.getfield 10, 3) := by decide +kernel
theorem dX10_corner_73 : decode cX10_corner 73 = .ok (.new 91, 3) := by decide +kernel
theorem dX10_corner_76 : decode cX10_corner 76 = .ok (.dup, 1) := by decide +kernel
theorem dX10_corner_77 : decode cX10_corner 77 = .ok (.iload_n 1, 1) := by decide +kernel
theorem dX10_corner_78 : decode cX10_corner 78 = .ok (.iload_n 2, 1) := by decide +kernel
theorem dX10_corner_79 : decode cX10_corner 79 = .ok (.iload_n 3, 1) := by decide +kernel
theorem dX10_corner_80 : decode cX10_corner 80 = .ok (.iload 4, 2) := by decide +kernel
theorem dX10_corner_82 : decode cX10_corner 82 = .ok (.invokespecial 93, 3) := by decide +kernel
theorem dX10_corner_85 : decode cX10_corner 85 = .ok (.invokevirtual 96, 3) := by decide +kernel
theorem dX10_corner_88 : decode cX10_corner 88 = .ok (.pop, 1) := by decide +kernel
theorem dX10_corner_89 : decode cX10_corner 89 = .ok (.aload_n 0, 1) := by decide +kernel
theorem dX10_corner_90 : decode cX10_corner 90 = .ok (.getfield 10, 3) := by decide +kernel
theorem dX10_corner_93 : decode cX10_corner 93 = .ok (.invokevirtual 87, 3) := by decide +kernel
theorem dX10_corner_96 : decode cX10_corner 96 = .ok (.iconst 1, 1) := by decide +kernel
theorem dX10_corner_97 : decode cX10_corner 97 = .ok (.isub, 1) := by decide +kernel
theorem dX10_corner_98 : decode cX10_corner 98 = .ok (.ireturn, 1) := by decide +kernel
theorem dX10_below_0 : decode cX10_below 0 = .ok (.aload_n 0, 1) := by decide +kernel
theorem dX10_below_1 : decode cX10_below 1 = .ok (.iload_n 1, 1) := by decide +kernel
theorem dX10_below_2 : decode cX10_below 2 = .ok (.invokevirtual 100, 3) := by decide +kernel
theorem dX10_below_5 : decode cX10_below 5 = .ok (.astore_n 3, 1) := by decide +kernel
theorem dX10_below_6 : decode cX10_below 6 = .ok (.aload_n 3, 1) := by decide +kernel
theorem dX10_below_7 : decode cX10_below 7 = .ok (.ifnull 27, 3) := by decide +kernel
theorem dX10_below_10 : decode cX10_below 10 = .ok (.iload_n 2, 1) := by decide +kernel
theorem dX10_below_11 : decode cX10_below 11 = .ok (.iconst (-1), 1) := by decide +kernel
theorem dX10_below_12 : decode cX10_below 12 = .ok (.if_icmp .eq 24, 3) := by decide +kernel
theorem dX10_below_15 : decode cX10_below 15 = .ok (.iload_n 2, 1) := by decide +kernel
theorem dX10_below_16 : decode cX10_below 16 = .ok (.iload_n 1, 1) := by decide +kernel
theorem dX10_below_17 : decode cX10_below 17 = .ok (.iconst 1, 1) := by decide +kernel
theorem dX10_below_18 : decode cX10_below 18 = .ok (.iadd, 1) := by decide +kernel
theorem dX10_below_19 : decode cX10_below 19 = .ok (.aload_n 0, 1) := by decide +kernel
theorem dX10_below_20 : decode cX10_below 20 = .ok (.getfield 10, 3) := by decide +kernel
theorem dX10_below_23 : decode cX10_below 23 = .ok (.invokevirtual 87, 3) := by decide +kernel
theorem dX10_below_26 : decode cX10_below 26 = .ok (.iconst 1, 1) := by decide +kernel
theorem dX10_below_27 : decode cX10_below 27 = .ok (.isub, 1) := by decide +kernel
theorem dX10_below_28 : decode cX10_below 28 = .ok (.invokestatic 83, 3) := by decide +kernel
theorem dX10_below_31 : decode cX10_below 31 = .ok (.ifCond .ne 5, 3) := by decide +kernel
theorem dX10_below_34 : decode cX10_below 34 = .ok (.iconst 0, 1) := by decide +kernel
theorem dX10_below_35 : decode cX10_below 35 = .ok (.ireturn, 1) := by decide +kernel
theorem dX10_below_36 : decode cX10_below 36 = .ok (.aload_n 3, 1) := by decide +kernel
theorem dX10_below_37 : decode cX10_below 37 = .ok (.iload_n 2, 1) := by decide +kernel
theorem dX10_below_38 : decode cX10_below 38 = .ok (.putfield 104, 3) := by decide +kernel
theorem dX10_below_41 : decode cX10_below 41 = .ok (.iconst 1, 1) := by decide +kernel
theorem dX10_below_42 : decode cX10_below 42 = .ok (.ireturn, 1) := by decide +kernel
theorem dX10_roof_0 : decode cX10_roof 0 = .ok (.aload_n 0, 1) := by decide +kernel
theorem dX10_roof_1 : decode cX10_roof 1 = .ok (.iload_n 1, 1) := by decide +kernel
theorem dX10_roof_2 : decode cX10_roof 2 = .ok (.invokevirtual 100, 3) := by decide +kernel
theorem dX10_roof_5 : decode cX10_roof 5 = .ok (.ifnull 39, 3) := by decide +kernel
theorem dX10_roof_8 : decode cX10_roof 8 = .ok (.iload_n 2, 1) := by decide +kernel
theorem dX10_roof_9 : decode cX10_roof 9 = .ok (.iconst 0, 1) := by decide +kernel
theorem dX10_roof_10 : decode cX10_roof 10 = .ok (.bipush 19, 2) := by decide +kernel
theorem dX10_roof_12 : decode cX10_roof 12 = .ok (.invokestatic 83, 3) := by decide +kernel
theorem dX10_roof_15 : decode cX10_roof 15 = .ok (.ifCond .eq 29, 3) := by decide +kernel
theorem dX10_roof_18 : decode cX10_roof 18 = .ok (.iload_n 3, 1) := by decide +kernel
theorem dX10_roof_19 : decode cX10_roof 19 = .ok (.iconst 1, 1) := by decide +kernel
theorem dX10_roof_20 : decode cX10_roof 20 = .ok (.bipush 50, 2) := by decide +kernel
theorem dX10_roof_22 : decode cX10_roof 22 = .ok (.invokestatic 83, 3) := by decide +kernel
theorem dX10_roof_25 : decode cX10_roof 25 = .ok (.ifCond .eq 19, 3) := by decide +kernel
theorem dX10_roof_28 : decode cX10_roof 28 = .ok (.iload 4, 2) := by decide +kernel
theorem dX10_roof_30 : decode cX10_roof 30 = .ok (.iconst 0, 1) := by decide +kernel
theorem dX10_roof_31 : decode cX10_roof 31 = .ok (.sipush 200, 3) := by decide +kernel
theorem dX10_roof_34 : decode cX10_roof 34 = .ok (.invokestatic 83, 3) := by decide +kernel
theorem dX10_roof_37 : decode cX10_roof 37 = .ok (.ifCond .eq 7, 3) := by decide +kernel
theorem dX10_roof_40 : decode cX10_roof 40 = .ok (.iconst 1, 1) := by decide +kernel
theorem dX10_roof_41 : decode cX10_roof 41 = .ok (.goto 4, 3) := by decide +kernel
theorem dX10_roof_44 : decode cX10_roof 44 = .ok (.iconst 0, 1) := by decide +kernel
theorem dX10_roof_45 : decode cX10_roof 45 = .ok (.istore 5, 2) := by decide +kernel
theorem dX10_roof_47 : decode cX10_roof 47 = .ok (.iload 5, 2) := by decide +kernel
theorem dX10_roof_49 : decode cX10_roof 49 = .ok (.ifCond .eq 15, 3) := by decide +kernel
theorem dX10_roof_52 : decode cX10_roof 52 = .ok (.aload_n 0, 1) := by decide +kernel
theorem dX10_roof_53 : decode cX10_roof 53 = .ok (.getfield 16, 3) := by decide +kernel
theorem dX10_roof_56 : decode cX10_roof 56 = .ok (.invokevirtual 87, 3) := by decide +kernel
theorem dX10_roof_59 : decode cX10_roof 59 = .ok (.bipush 30, 2) := by decide +kernel
theorem dX10_roof_61 : decode cX10_roof 61 = .ok (.if_icmp .lt 5, 3) := by decide +kernel
theorem dX10_roof_64 : decode cX10_roof 64 = .ok (.iconst (-1), 1) := by decide +kernel
theorem dX10_roof_65 : decode cX10_roof 65 = .ok (.ireturn, 1) := by decide +kernel
theorem dX10_roof_66 : decode cX10_roof 66 = .ok (.aload_n 0, 1) := by decide +kernel
theorem dX10_roof_67 : decode cX10_roof 67 = .ok (.getfield 16, 3) := by decide +kernel
theorem dX10_roof_70 : decode cX10_roof 70 = .ok (.new 107, 3) := by decide +kernel
theorem dX10_roof_73 : decode cX10_roof 73 = .ok (.dup, 1) := by decide +kernel
theorem dX10_roof_74 : decode cX10_roof 74 = .ok (.iload_n 1, 1) := by decide +kernel
theorem dX10_roof_75 : decode cX10_roof 75 = .ok (.iload_n 2, 1) := by decide +kernel
theorem dX10_roof_76 : decode cX10_roof 76 = .ok (.iload_n 3, 1) := by decide +kernel
theorem dX10_roof_77 : decode cX10_roof 77 = .ok (.iload 4, 2) := by decide +kernel
theorem dX10_roof_79 : decode cX10_roof 79 = .ok (.invokespecial 109, 3) := by decide +kernel
theorem dX10_roof_82 : decode cX10_roof 82 = .ok (.invokevirtual 96, 3) := by decide +kernel
theorem dX10_roof_85 : decode cX10_roof 85 = .ok (.pop, 1) := by decide +kernel
theorem dX10_roof_86 : decode cX10_roof 86 = .ok (.aload_n 0, 1) := by decide +kernel
theorem dX10_roof_87 : decode cX10_roof 87 = .ok (.getfield 16, 3) := by decide +kernel
theorem dX10_roof_90 : decode cX10_roof 90 = .ok (.invokevirtual 87, 3) := by decide +kernel
theorem dX10_roof_93 : decode cX10_roof 93 = .ok (.iconst 1, 1) := by decide +kernel
theorem dX10_roof_94 : decode cX10_roof 94 = .ok (.isub, 1) := by decide +kernel
theorem dX10_roof_95 : decode cX10_roof 95 = .ok (.ireturn, 1) := by decide +kernel
theorem dX10_lot_0 : decode cX10_lot 0 = .ok (.iload_n 1, 1) := by decide +kernel
theorem dX10_lot_1 : decode cX10_lot 1 = .ok (.iconst 0, 1) := by decide +kernel
theorem dX10_lot_2 : decode cX10_lot 2 = .ok (.bipush 9, 2) := by decide +kernel
theorem dX10_lot_4 : decode cX10_lot 4 = .ok (.invokestatic 83, 3) := by decide +kernel
theorem dX10_lot_7 : decode cX10_lot 7 = .ok (.ifCond .eq 13, 3) := by decide +kernel
theorem dX10_lot_10 : decode cX10_lot 10 = .ok (.iload_n 2, 1) := by decide +kernel
theorem dX10_lot_11 : decode cX10_lot 11 = .ok (.iconst 1, 1) := by decide +kernel
theorem dX10_lot_12 : decode cX10_lot 12 = .ok (.bipush 100, 2) := by decide +kernel
theorem dX10_lot_14 : decode cX10_lot 14 = .ok (.invokestatic 83, 3) := by decide +kernel
theorem dX10_lot_17 : decode cX10_lot 17 = .ok (.ifCond .ne 5, 3) := by decide +kernel
theorem dX10_lot_20 : decode cX10_lot 20 = .ok (.iconst 0, 1) := by decide +kernel
theorem dX10_lot_21 : decode cX10_lot 21 = .ok (.ireturn, 1) := by decide +kernel
theorem dX10_lot_22 : decode cX10_lot 22 = .ok (.aload_n 0, 1) := by decide +kernel
theorem dX10_lot_23 : decode cX10_lot 23 = .ok (.getfield 51, 3) := by decide +kernel
theorem dX10_lot_26 : decode cX10_lot 26 = .ok (.iload_n 1, 1) := by decide +kernel
theorem dX10_lot_27 : decode cX10_lot 27 = .ok (.iload_n 2, 1) := by decide +kernel
theorem dX10_lot_28 : decode cX10_lot 28 = .ok (.iastore, 1) := by decide +kernel
theorem dX10_lot_29 : decode cX10_lot 29 = .ok (.iconst 1, 1) := by decide +kernel
theorem dX10_lot_30 : decode cX10_lot 30 = .ok (.ireturn, 1) := by decide +kernel
theorem dX10_bed_0 : decode cX10_bed 0 = .ok (.aload_n 0, 1) := by decide +kernel
theorem dX10_bed_1 : decode cX10_bed 1 = .ok (.iload_n 1, 1) := by decide +kernel
theorem dX10_bed_2 : decode cX10_bed 2 = .ok (.invokevirtual 100, 3) := by decide +kernel
theorem dX10_bed_5 : decode cX10_bed 5 = .ok (.astore 5, 2) := by decide +kernel
theorem dX10_bed_7 : decode cX10_bed 7 = .ok (.aload 5, 2) := by decide +kernel
theorem dX10_bed_9 : decode cX10_bed 9 = .ok (.ifnull 32, 3) := by decide +kernel
theorem dX10_bed_12 : decode cX10_bed 12 = .ok (.aload 5, 2) := by decide +kernel
theorem dX10_bed_14 : decode cX10_bed 14 = .ok (.getfield 110, 3) := by decide +kernel
theorem dX10_bed_17 : decode cX10_bed 17 = .ok (.ifnonnull 24, 3) := by decide +kernel
theorem dX10_bed_20 : decode cX10_bed 20 = .ok (.iload_n 2, 1) := by decide +kernel
theorem dX10_bed_21 : decode cX10_bed 21 = .ok (.iconst 0, 1) := by decide +kernel
theorem dX10_bed_22 : decode cX10_bed 22 = .ok (.bipush 9, 2) := by decide +kernel
theorem dX10_bed_24 : decode cX10_bed 24 = .ok (.invokestatic 83, 3) := by decide +kernel
theorem dX10_bed_27 : decode cX10_bed 27 = .ok (.ifCond .eq 14, 3) := by decide +kernel
theorem dX10_bed_30 : decode cX10_bed 30 = .ok (.iload_n 3, 1) := by decide +kernel
theorem dX10_bed_31 : decode cX10_bed 31 = .ok (.iconst 1, 1) := by decide +kernel
theorem dX10_bed_32 : decode cX10_bed 32 = .ok (.sipush 500, 3) := by decide +kernel
theorem dX10_bed_35 : decode cX10_bed 35 = .ok (.invokestatic 83, 3) := by decide +kernel
theorem dX10_bed_38 : decode cX10_bed 38 = .ok (.ifCond .ne 5, 3) := by decide +kernel
theorem dX10_bed_41 : decode cX10_bed 41 = .ok (.iconst 0, 1) := by decide +kernel
theorem dX10_bed_42 : decode cX10_bed 42 = .ok (.ireturn, 1) := by decide +kernel
theorem dX10_bed_43 : decode cX10_bed 43 = .ok (.aload_n 0, 1) := by decide +kernel
theorem dX10_bed_44 : decode cX10_bed 44 = .ok (.invokevirtual 114, 3) := by decide +kernel
theorem dX10_bed_47 : decode cX10_bed 47 = .ok (.aload 5, 2) := by decide +kernel
theorem dX10_bed_49 : decode cX10_bed 49 = .ok (.getfield 117, 3) := by decide +kernel
theorem dX10_bed_52 : decode cX10_bed 52 = .ok (.iadd, 1) := by decide +kernel
theorem dX10_bed_53 : decode cX10_bed 53 = .ok (.aload_n 0, 1) := by decide +kernel
theorem dX10_bed_54 : decode cX10_bed 54 = .ok (.aload_n 0, 1) := by decide +kernel
theorem dX10_bed_55 : decode cX10_bed 55 = .ok (.getfield 120, 3) := by decide +kernel
theorem dX10_bed_58 : decode cX10_bed 58 = .ok (.invokevirtual 123, 3) := by decide +kernel
theorem dX10_bed_61 : decode cX10_bed 61 = .ok (.iconst 4, 1) := by decide +kernel
theorem dX10_bed_62 : decode cX10_bed 62 = .ok (.invokevirtual 127, 3) := by decide +kernel
theorem dX10_bed_65 : decode cX10_bed 65 = .ok (.if_icmp .le 5, 3) := by decide +kernel
theorem dX10_bed_68 : decode cX10_bed 68 = .ok (.iconst 0, 1) := by decide +kernel
theorem dX10_bed_69 : decode cX10_bed 69 = .ok (.ireturn, 1) := by decide +kernel
theorem dX10_bed_70 : decode cX10_bed 70 = .ok (.aload 5, 2) := by decide +kernel
theorem dX10_bed_72 : decode cX10_bed 72 = .ok (.new 131, 3) := by decide +kernel
theorem dX10_bed_75 : decode cX10_bed 75 = .ok (.dup, 1) := by decide +kernel
theorem dX10_bed_76 : decode cX10_bed 76 = .ok (.iload_n 2, 1) := by decide +kernel
theorem dX10_bed_77 : decode cX10_bed 77 = .ok (.iload_n 3, 1) := by decide +kernel
theorem dX10_bed_78 : decode cX10_bed 78 = .ok (.iload 4, 2) := by decide +kernel
theorem dX10_bed_80 : decode cX10_bed 80 = .ok (.aload_n 0, 1) := by decide +kernel
theorem dX10_bed_81 : decode cX10_bed 81 = .ok (.getfield 120, 3) := by decide +kernel
theorem dX10_bed_84 : decode cX10_bed 84 = .ok (.invokespecial 133, 3) := by decide +kernel
theorem dX10_bed_87 : decode cX10_bed 87 = .ok (.putfield 110, 3) := by decide +kernel
theorem dX10_bed_90 : decode cX10_bed 90 = .ok (.iconst 1, 1) := by decide +kernel
theorem dX10_bed_91 : decode cX10_bed 91 = .ok (.ireturn, 1) := by decide +kernel
theorem dX10_care_0 : decode cX10_care 0 = .ok (.aload_n 0, 1) := by decide +kernel
theorem dX10_care_1 : decode cX10_care 1 = .ok (.iload_n 1, 1) := by decide +kernel
theorem dX10_care_2 : decode cX10_care 2 = .ok (.invokevirtual 136, 3) := by decide +kernel
theorem dX10_care_5 : decode cX10_care 5 = .ok (.astore_n 3, 1) := by decide +kernel
theorem dX10_care_6 : decode cX10_care 6 = .ok (.aload_n 3, 1) := by decide +kernel
theorem dX10_care_7 : decode cX10_care 7 = .ok (.ifnull 19, 3) := by decide +kernel
theorem dX10_care_10 : decode cX10_care 10 = .ok (.aload_n 3, 1) := by decide +kernel
theorem dX10_care_11 : decode cX10_care 11 = .ok (.iload_n 2, 1) := by decide +kernel
theorem dX10_care_12 : decode cX10_care 12 = .ok (.aload_n 0, 1) := by decide +kernel
theorem dX10_care_13 : decode cX10_care 13 = .ok (.getfield 120, 3) := by decide +kernel
theorem dX10_care_16 : decode cX10_care 16 = .ok (.invokevirtual 140, 3) := by decide +kernel
theorem dX10_care_19 : decode cX10_care 19 = .ok (.ifCond .eq 7, 3) := by decide +kernel
theorem dX10_care_22 : decode cX10_care 22 = .ok (.iconst 1, 1) := by decide +kernel
theorem dX10_care_23 : decode cX10_care 23 = .ok (.goto 4, 3) := by decide +kernel
theorem dX10_care_26 : decode cX10_care 26 = .ok (.iconst 0, 1) := by decide +kernel
theorem dX10_care_27 : decode cX10_care 27 = .ok (.ireturn, 1) := by decide +kernel
theorem dX10_treat_0 : decode cX10_treat 0 = .ok (.aload_n 0, 1) := by decide +kernel
theorem dX10_treat_1 : decode cX10_treat 1 = .ok (.iload_n 1, 1) := by decide +kernel
theorem dX10_treat_2 : decode cX10_treat 2 = .ok (.invokevirtual 136, 3) := by decide +kernel
theorem dX10_treat_5 : decode cX10_treat 5 = .ok (.astore_n 3, 1) := by decide +kernel
theorem dX10_treat_6 : decode cX10_treat 6 = .ok (.aload_n 3, 1) := by decide +kernel
theorem dX10_treat_7 : decode cX10_treat 7 = .ok (.ifnull 12, 3) := by decide +kernel
theorem dX10_treat_10 : decode cX10_treat 10 = .ok (.iload_n 2, 1) := by decide +kernel
theorem dX10_treat_11 : decode cX10_treat 11 = .ok (.iconst 0, 1) := by decide +kernel
theorem dX10_treat_12 : decode cX10_treat 12 = .ok (.iconst 1, 1) := by decide +kernel
theorem dX10_treat_13 : decode cX10_treat 13 = .ok (.invokestatic 83, 3) := by decide +kernel
theorem dX10_treat_16 : decode cX10_treat 16 = .ok (.ifCond .ne 5, 3) := by decide +kernel
theorem dX10_treat_19 : decode cX10_treat 19 = .ok (.iconst 0, 1) := by decide +kernel
theorem dX10_treat_20 : decode cX10_treat 20 = .ok (.ireturn, 1) := by decide +kernel
theorem dX10_treat_21 : decode cX10_treat 21 = .ok (.iload_n 2, 1) := by decide +kernel
theorem dX10_treat_22 : decode cX10_treat 22 = .ok (.ifCond .ne 21, 3) := by decide +kernel
theorem dX10_treat_25 : decode cX10_treat 25 = .ok (.aload_n 3, 1) := by decide +kernel
theorem dX10_treat_26 : decode cX10_treat 26 = .ok (.bipush 100, 2) := by decide +kernel
theorem dX10_treat_28 : decode cX10_treat 28 = .ok (.aload_n 3, 1) := by decide +kernel
theorem dX10_treat_29 : decode cX10_treat 29 = .ok (.getfield 144, 3) := by decide +kernel
theorem dX10_treat_32 : decode cX10_treat 32 = .ok (.bipush 10, 2) := by decide +kernel
theorem dX10_treat_34 : decode cX10_treat 34 = .ok (.iadd, 1) := by decide +kernel
theorem dX10_treat_35 : decode cX10_treat 35 = .ok (.invokestatic 147, 3) := by decide +kernel
theorem dX10_treat_38 : decode cX10_treat 38 = .ok (.putfield 144, 3) := by decide +kernel
theorem dX10_treat_41 : decode cX10_treat 41 = .ok (.iconst 1, 1) := by decide +kernel
theorem dX10_treat_42 : decode cX10_treat 42 = .ok (.ireturn, 1) := by decide +kernel
theorem dX10_treat_43 : decode cX10_treat 43 = .ok (.aload_n 3, 1) := by decide +kernel
theorem dX10_treat_44 : decode cX10_treat 44 = .ok (.getfield 153, 3) := by decide +kernel
theorem dX10_treat_47 : decode cX10_treat 47 = .ok (.ifCond .eq 5, 3) := by decide +kernel
theorem dX10_treat_50 : decode cX10_treat 50 = .ok (.iconst 0, 1) := by decide +kernel
theorem dX10_treat_51 : decode cX10_treat 51 = .ok (.ireturn, 1) := by decide +kernel
theorem dX10_treat_52 : decode cX10_treat 52 = .ok (.aload_n 3, 1) := by decide +kernel
theorem dX10_treat_53 : decode cX10_treat 53 = .ok (.iconst 1, 1) := by decide +kernel
theorem dX10_treat_54 : decode cX10_treat 54 = .ok (.putfield 153, 3) := by decide +kernel
theorem dX10_treat_57 : decode cX10_treat 57 = .ok (.iconst 1, 1) := by decide +kernel
theorem dX10_treat_58 : decode cX10_treat 58 = .ok (.ireturn, 1) := by decide +kernel
theorem dX10_prove_0 : decode cX10_prove 0 = .ok (.aload_n 0, 1) := by decide +kernel
theorem dX10_prove_1 : decode cX10_prove 1 = .ok (.iload_n 1, 1) := by decide +kernel
theorem dX10_prove_2 : decode cX10_prove 2 = .ok (.invokevirtual 157, 3) := by decide +kernel
theorem dX10_prove_5 : decode cX10_prove 5 = .ok (.astore_n 2, 1) := by decide +kernel
theorem dX10_prove_6 : decode cX10_prove 6 = .ok (.aload_n 2, 1) := by decide +kernel
theorem dX10_prove_7 : decode cX10_prove 7 = .ok (.ifnull 10, 3) := by decide +kernel
theorem dX10_prove_10 : decode cX10_prove 10 = .ok (.aload_n 2, 1) := by decide +kernel
theorem dX10_prove_11 : decode cX10_prove 11 = .ok (.getfield 161, 3) := by decide +kernel
theorem dX10_prove_14 : decode cX10_prove 14 = .ok (.ifCond .ne 5, 3) := by decide +kernel
theorem dX10_prove_17 : decode cX10_prove 17 = .ok (.iconst 0, 1) := by decide +kernel
theorem dX10_prove_18 : decode cX10_prove 18 = .ok (.ireturn, 1) := by decide +kernel
theorem dX10_prove_19 : decode cX10_prove 19 = .ok (.aload_n 2, 1) := by decide +kernel
theorem dX10_prove_20 : decode cX10_prove 20 = .ok (.aload_n 0, 1) := by decide +kernel
theorem dX10_prove_21 : decode cX10_prove 21 = .ok (.getfield 120, 3) := by decide +kernel
theorem dX10_prove_24 : decode cX10_prove 24 = .ok (.sipush 365, 3) := by decide +kernel
theorem dX10_prove_27 : decode cX10_prove 27 = .ok (.idiv, 1) := by decide +kernel
theorem dX10_prove_28 : decode cX10_prove 28 = .ok (.invokevirtual 164, 3) := by decide +kernel
theorem dX10_prove_31 : decode cX10_prove 31 = .ok (.iconst 1, 1) := by decide +kernel
theorem dX10_prove_32 : decode cX10_prove 32 = .ok (.ireturn, 1) := by decide +kernel
theorem dX10_told_0 : decode cX10_told 0 = .ok (.aload_n 0, 1) := by decide +kernel
theorem dX10_told_1 : decode cX10_told 1 = .ok (.iload_n 1, 1) := by decide +kernel
theorem dX10_told_2 : decode cX10_told 2 = .ok (.invokevirtual 100, 3) := by decide +kernel
theorem dX10_told_5 : decode cX10_told 5 = .ok (.astore_n 3, 1) := by decide +kernel
theorem dX10_told_6 : decode cX10_told 6 = .ok (.aload_n 3, 1) := by decide +kernel
theorem dX10_told_7 : decode cX10_told 7 = .ok (.ifnonnull 5, 3) := by decide +kernel
theorem dX10_told_10 : decode cX10_told 10 = .ok (.iconst (-1), 1) := by decide +kernel
theorem dX10_told_11 : decode cX10_told 11 = .ok (.ireturn, 1) := by decide +kernel
theorem dX10_told_12 : decode cX10_told 12 = .ok (.iload_n 2, 1) := by decide +kernel
theorem dX10_told_13 : decode cX10_told 13 = .ok (.tableswitch 104 0 8 #[51, 56, 61, 66, 71, 76, 89, 94, 99], 51) := by decide +kernel
theorem dX10_told_64 : decode cX10_told 64 = .ok (.aload_n 3, 1) := by decide +kernel
theorem dX10_told_65 : decode cX10_told 65 = .ok (.getfield 168, 3) := by decide +kernel
theorem dX10_told_68 : decode cX10_told 68 = .ok (.ireturn, 1) := by decide +kernel
theorem dX10_told_69 : decode cX10_told 69 = .ok (.aload_n 3, 1) := by decide +kernel
theorem dX10_told_70 : decode cX10_told 70 = .ok (.getfield 171, 3) := by decide +kernel
theorem dX10_told_73 : decode cX10_told 73 = .ok (.ireturn, 1) := by decide +kernel
theorem dX10_told_74 : decode cX10_told 74 = .ok (.aload_n 3, 1) := by decide +kernel
theorem dX10_told_75 : decode cX10_told 75 = .ok (.getfield 117, 3) := by decide +kernel
theorem dX10_told_78 : decode cX10_told 78 = .ok (.ireturn, 1) := by decide +kernel
theorem dX10_told_79 : decode cX10_told 79 = .ok (.aload_n 3, 1) := by decide +kernel
theorem dX10_told_80 : decode cX10_told 80 = .ok (.getfield 174, 3) := by decide +kernel
theorem dX10_told_83 : decode cX10_told 83 = .ok (.ireturn, 1) := by decide +kernel
theorem dX10_told_84 : decode cX10_told 84 = .ok (.aload_n 3, 1) := by decide +kernel
theorem dX10_told_85 : decode cX10_told 85 = .ok (.getfield 104, 3) := by decide +kernel
theorem dX10_told_88 : decode cX10_told 88 = .ok (.ireturn, 1) := by decide +kernel
theorem dX10_told_89 : decode cX10_told 89 = .ok (.aload_n 3, 1) := by decide +kernel
theorem dX10_told_90 : decode cX10_told 90 = .ok (.getfield 110, 3) := by decide +kernel
theorem dX10_told_93 : decode cX10_told 93 = .ok (.ifnonnull 7, 3) := by decide +kernel
theorem dX10_told_96 : decode cX10_told 96 = .ok (.iconst 0, 1) := by decide +kernel
theorem dX10_told_97 : decode cX10_told 97 = .ok (.goto 4, 3) := by decide +kernel
theorem dX10_told_100 : decode cX10_told 100 = .ok (.iconst 1, 1) := by decide +kernel
theorem dX10_told_101 : decode cX10_told 101 = .ok (.ireturn, 1) := by decide +kernel
theorem dX10_told_102 : decode cX10_told 102 = .ok (.aload_n 3, 1) := by decide +kernel
theorem dX10_told_103 : decode cX10_told 103 = .ok (.getfield 177, 3) := by decide +kernel
theorem dX10_told_106 : decode cX10_told 106 = .ok (.ireturn, 1) := by decide +kernel
theorem dX10_told_107 : decode cX10_told 107 = .ok (.aload_n 3, 1) := by decide +kernel
theorem dX10_told_108 : decode cX10_told 108 = .ok (.getfield 180, 3) := by decide +kernel
theorem dX10_told_111 : decode cX10_told 111 = .ok (.ireturn, 1) := by decide +kernel
theorem dX10_told_112 : decode cX10_told 112 = .ok (.aload_n 3, 1) := by decide +kernel
theorem dX10_told_113 : decode cX10_told 113 = .ok (.getfield 183, 3) := by decide +kernel
theorem dX10_told_116 : decode cX10_told 116 = .ok (.ireturn, 1) := by decide +kernel
theorem dX10_told_117 : decode cX10_told 117 = .ok (.iconst (-1), 1) := by decide +kernel
theorem dX10_told_118 : decode cX10_told 118 = .ok (.ireturn, 1) := by decide +kernel
theorem dX10_bedOf_0 : decode cX10_bedOf 0 = .ok (.aload_n 0, 1) := by decide +kernel
theorem dX10_bedOf_1 : decode cX10_bedOf 1 = .ok (.iload_n 1, 1) := by decide +kernel
theorem dX10_bedOf_2 : decode cX10_bedOf 2 = .ok (.invokevirtual 136, 3) := by decide +kernel
theorem dX10_bedOf_5 : decode cX10_bedOf 5 = .ok (.astore_n 3, 1) := by decide +kernel
theorem dX10_bedOf_6 : decode cX10_bedOf 6 = .ok (.aload_n 3, 1) := by decide +kernel
theorem dX10_bedOf_7 : decode cX10_bedOf 7 = .ok (.ifnonnull 5, 3) := by decide +kernel
theorem dX10_bedOf_10 : decode cX10_bedOf 10 = .ok (.iconst (-1), 1) := by decide +kernel
theorem dX10_bedOf_11 : decode cX10_bedOf 11 = .ok (.ireturn, 1) := by decide +kernel
theorem dX10_bedOf_12 : decode cX10_bedOf 12 = .ok (.iload_n 2, 1) := by decide +kernel
theorem dX10_bedOf_13 : decode cX10_bedOf 13 = .ok (.tableswitch 167 0 13 #[71, 76, 81, 94, 99, 104, 109, 114, 127, 132, 137, 146, 151, 159], 71) := by decide +kernel
theorem dX10_bedOf_84 : decode cX10_bedOf 84 = .ok (.aload_n 3, 1) := by decide +kernel
theorem dX10_bedOf_85 : decode cX10_bedOf 85 = .ok (.getfield 186, 3) := by decide +kernel
theorem dX10_bedOf_88 : decode cX10_bedOf 88 = .ok (.ireturn, 1) := by decide +kernel
theorem dX10_bedOf_89 : decode cX10_bedOf 89 = .ok (.aload_n 3, 1) := by decide +kernel
theorem dX10_bedOf_90 : decode cX10_bedOf 90 = .ok (.getfield 189, 3) := by decide +kernel
theorem dX10_bedOf_93 : decode cX10_bedOf 93 = .ok (.ireturn, 1) := by decide +kernel
theorem dX10_bedOf_94 : decode cX10_bedOf 94 = .ok (.aload_n 3, 1) := by decide +kernel
theorem dX10_bedOf_95 : decode cX10_bedOf 95 = .ok (.getfield 192, 3) := by decide +kernel
theorem dX10_bedOf_98 : decode cX10_bedOf 98 = .ok (.ifCond .eq 7, 3) := by decide +kernel
theorem dX10_bedOf_101 : decode cX10_bedOf 101 = .ok (.iconst 1, 1) := by decide +kernel
theorem dX10_bedOf_102 : decode cX10_bedOf 102 = .ok (.goto 4, 3) := by decide +kernel
theorem dX10_bedOf_105 : decode cX10_bedOf 105 = .ok (.iconst 0, 1) := by decide +kernel
theorem dX10_bedOf_106 : decode cX10_bedOf 106 = .ok (.ireturn, 1) := by decide +kernel
theorem dX10_bedOf_107 : decode cX10_bedOf 107 = .ok (.aload_n 3, 1) := by decide +kernel
theorem dX10_bedOf_108 : decode cX10_bedOf 108 = .ok (.getfield 195, 3) := by decide +kernel
theorem dX10_bedOf_111 : decode cX10_bedOf 111 = .ok (.ireturn, 1) := by decide +kernel
theorem dX10_bedOf_112 : decode cX10_bedOf 112 = .ok (.aload_n 3, 1) := by decide +kernel
theorem dX10_bedOf_113 : decode cX10_bedOf 113 = .ok (.getfield 198, 3) := by decide +kernel
theorem dX10_bedOf_116 : decode cX10_bedOf 116 = .ok (.ireturn, 1) := by decide +kernel
theorem dX10_bedOf_117 : decode cX10_bedOf 117 = .ok (.aload_n 3, 1) := by decide +kernel
theorem dX10_bedOf_118 : decode cX10_bedOf 118 = .ok (.getfield 201, 3) := by decide +kernel
theorem dX10_bedOf_121 : decode cX10_bedOf 121 = .ok (.ireturn, 1) := by decide +kernel
theorem dX10_bedOf_122 : decode cX10_bedOf 122 = .ok (.aload_n 3, 1) := by decide +kernel
theorem dX10_bedOf_123 : decode cX10_bedOf 123 = .ok (.getfield 144, 3) := by decide +kernel
theorem dX10_bedOf_126 : decode cX10_bedOf 126 = .ok (.ireturn, 1) := by decide +kernel
theorem dX10_bedOf_127 : decode cX10_bedOf 127 = .ok (.aload_n 3, 1) := by decide +kernel
theorem dX10_bedOf_128 : decode cX10_bedOf 128 = .ok (.getfield 153, 3) := by decide +kernel
theorem dX10_bedOf_131 : decode cX10_bedOf 131 = .ok (.ifCond .eq 7, 3) := by decide +kernel
theorem dX10_bedOf_134 : decode cX10_bedOf 134 = .ok (.iconst 1, 1) := by decide +kernel
theorem dX10_bedOf_135 : decode cX10_bedOf 135 = .ok (.goto 4, 3) := by decide +kernel
theorem dX10_bedOf_138 : decode cX10_bedOf 138 = .ok (.iconst 0, 1) := by decide +kernel
theorem dX10_bedOf_139 : decode cX10_bedOf 139 = .ok (.ireturn, 1) := by decide +kernel
theorem dX10_bedOf_140 : decode cX10_bedOf 140 = .ok (.aload_n 3, 1) := by decide +kernel
theorem dX10_bedOf_141 : decode cX10_bedOf 141 = .ok (.getfield 204, 3) := by decide +kernel
theorem dX10_bedOf_144 : decode cX10_bedOf 144 = .ok (.ireturn, 1) := by decide +kernel
theorem dX10_bedOf_145 : decode cX10_bedOf 145 = .ok (.aload_n 3, 1) := by decide +kernel
theorem dX10_bedOf_146 : decode cX10_bedOf 146 = .ok (.getfield 207, 3) := by decide +kernel
theorem dX10_bedOf_149 : decode cX10_bedOf 149 = .ok (.ireturn, 1) := by decide +kernel
theorem dX10_bedOf_150 : decode cX10_bedOf 150 = .ok (.aload_n 3, 1) := by decide +kernel
theorem dX10_bedOf_151 : decode cX10_bedOf 151 = .ok (.aload_n 0, 1) := by decide +kernel
theorem dX10_bedOf_152 : decode cX10_bedOf 152 = .ok (.getfield 51, 3) := by decide +kernel
theorem dX10_bedOf_155 : decode cX10_bedOf 155 = .ok (.invokevirtual 210, 3) := by decide +kernel
theorem dX10_bedOf_158 : decode cX10_bedOf 158 = .ok (.ireturn, 1) := by decide +kernel
theorem dX10_bedOf_159 : decode cX10_bedOf 159 = .ok (.aload_n 3, 1) := by decide +kernel
theorem dX10_bedOf_160 : decode cX10_bedOf 160 = .ok (.getfield 214, 3) := by decide +kernel
theorem dX10_bedOf_163 : decode cX10_bedOf 163 = .ok (.ireturn, 1) := by decide +kernel
theorem dX10_bedOf_164 : decode cX10_bedOf 164 = .ok (.aload_n 0, 1) := by decide +kernel
theorem dX10_bedOf_165 : decode cX10_bedOf 165 = .ok (.aload_n 3, 1) := by decide +kernel
theorem dX10_bedOf_166 : decode cX10_bedOf 166 = .ok (.bipush 13, 2) := by decide +kernel
theorem dX10_bedOf_168 : decode cX10_bedOf 168 = .ok (.invokevirtual 217, 3) := by decide +kernel
theorem dX10_bedOf_171 : decode cX10_bedOf 171 = .ok (.ireturn, 1) := by decide +kernel
theorem dX10_bedOf_172 : decode cX10_bedOf 172 = .ok (.aload_n 0, 1) := by decide +kernel
theorem dX10_bedOf_173 : decode cX10_bedOf 173 = .ok (.aload_n 3, 1) := by decide +kernel
theorem dX10_bedOf_174 : decode cX10_bedOf 174 = .ok (.bipush 14, 2) := by decide +kernel
theorem dX10_bedOf_176 : decode cX10_bedOf 176 = .ok (.invokevirtual 217, 3) := by decide +kernel
theorem dX10_bedOf_179 : decode cX10_bedOf 179 = .ok (.ireturn, 1) := by decide +kernel
theorem dX10_bedOf_180 : decode cX10_bedOf 180 = .ok (.iconst (-1), 1) := by decide +kernel
theorem dX10_bedOf_181 : decode cX10_bedOf 181 = .ok (.ireturn, 1) := by decide +kernel
theorem dX10_roofOf_0 : decode cX10_roofOf 0 = .ok (.aload_n 0, 1) := by decide +kernel
theorem dX10_roofOf_1 : decode cX10_roofOf 1 = .ok (.iload_n 1, 1) := by decide +kernel
theorem dX10_roofOf_2 : decode cX10_roofOf 2 = .ok (.invokevirtual 157, 3) := by decide +kernel
theorem dX10_roofOf_5 : decode cX10_roofOf 5 = .ok (.astore_n 3, 1) := by decide +kernel
theorem dX10_roofOf_6 : decode cX10_roofOf 6 = .ok (.aload_n 3, 1) := by decide +kernel
theorem dX10_roofOf_7 : decode cX10_roofOf 7 = .ok (.ifnonnull 5, 3) := by decide +kernel
theorem dX10_roofOf_10 : decode cX10_roofOf 10 = .ok (.iconst (-1), 1) := by decide +kernel
theorem dX10_roofOf_11 : decode cX10_roofOf 11 = .ok (.ireturn, 1) := by decide +kernel
theorem dX10_roofOf_12 : decode cX10_roofOf 12 = .ok (.iload_n 2, 1) := by decide +kernel
theorem dX10_roofOf_13 : decode cX10_roofOf 13 = .ok (.tableswitch 69 0 5 #[39, 44, 49, 54, 59, 64], 39) := by decide +kernel
theorem dX10_roofOf_52 : decode cX10_roofOf 52 = .ok (.aload_n 3, 1) := by decide +kernel
theorem dX10_roofOf_53 : decode cX10_roofOf 53 = .ok (.getfield 221, 3) := by decide +kernel
theorem dX10_roofOf_56 : decode cX10_roofOf 56 = .ok (.ireturn, 1) := by decide +kernel
theorem dX10_roofOf_57 : decode cX10_roofOf 57 = .ok (.aload_n 3, 1) := by decide +kernel
theorem dX10_roofOf_58 : decode cX10_roofOf 58 = .ok (.getfield 224, 3) := by decide +kernel
theorem dX10_roofOf_61 : decode cX10_roofOf 61 = .ok (.ireturn, 1) := by decide +kernel
theorem dX10_roofOf_62 : decode cX10_roofOf 62 = .ok (.aload_n 3, 1) := by decide +kernel
theorem dX10_roofOf_63 : decode cX10_roofOf 63 = .ok (.getfield 227, 3) := by decide +kernel
theorem dX10_roofOf_66 : decode cX10_roofOf 66 = .ok (.ireturn, 1) := by decide +kernel
theorem dX10_roofOf_67 : decode cX10_roofOf 67 = .ok (.aload_n 3, 1) := by decide +kernel
theorem dX10_roofOf_68 : decode cX10_roofOf 68 = .ok (.getfield 161, 3) := by decide +kernel
theorem dX10_roofOf_71 : decode cX10_roofOf 71 = .ok (.ireturn, 1) := by decide +kernel
theorem dX10_roofOf_72 : decode cX10_roofOf 72 = .ok (.aload_n 3, 1) := by decide +kernel
theorem dX10_roofOf_73 : decode cX10_roofOf 73 = .ok (.getfield 228, 3) := by decide +kernel
theorem dX10_roofOf_76 : decode cX10_roofOf 76 = .ok (.ireturn, 1) := by decide +kernel
theorem dX10_roofOf_77 : decode cX10_roofOf 77 = .ok (.aload_n 3, 1) := by decide +kernel
theorem dX10_roofOf_78 : decode cX10_roofOf 78 = .ok (.getfield 229, 3) := by decide +kernel
theorem dX10_roofOf_81 : decode cX10_roofOf 81 = .ok (.ireturn, 1) := by decide +kernel
theorem dX10_roofOf_82 : decode cX10_roofOf 82 = .ok (.iconst (-1), 1) := by decide +kernel
theorem dX10_roofOf_83 : decode cX10_roofOf 83 = .ok (.ireturn, 1) := by decide +kernel
theorem dX10_cornerAt_0 : decode cX10_cornerAt 0 = .ok (.iload_n 1, 1) := by decide +kernel
theorem dX10_cornerAt_1 : decode cX10_cornerAt 1 = .ok (.iconst 0, 1) := by decide +kernel
theorem dX10_cornerAt_2 : decode cX10_cornerAt 2 = .ok (.aload_n 0, 1) := by decide +kernel
theorem dX10_cornerAt_3 : decode cX10_cornerAt 3 = .ok (.getfield 10, 3) := by decide +kernel
theorem dX10_cornerAt_6 : decode cX10_cornerAt 6 = .ok (.invokevirtual 87, 3) := by decide +kernel
theorem dX10_cornerAt_9 : decode cX10_cornerAt 9 = .ok (.iconst 1, 1) := by decide +kernel
theorem dX10_cornerAt_10 : decode cX10_cornerAt 10 = .ok (.isub, 1) := by decide +kernel
theorem dX10_cornerAt_11 : decode cX10_cornerAt 11 = .ok (.invokestatic 83, 3) := by decide +kernel
theorem dX10_cornerAt_14 : decode cX10_cornerAt 14 = .ok (.ifCond .eq 17, 3) := by decide +kernel
theorem dX10_cornerAt_17 : decode cX10_cornerAt 17 = .ok (.aload_n 0, 1) := by decide +kernel
theorem dX10_cornerAt_18 : decode cX10_cornerAt 18 = .ok (.getfield 10, 3) := by decide +kernel
theorem dX10_cornerAt_21 : decode cX10_cornerAt 21 = .ok (.iload_n 1, 1) := by decide +kernel
theorem dX10_cornerAt_22 : decode cX10_cornerAt 22 = .ok (.invokevirtual 232, 3) := by decide +kernel
theorem dX10_cornerAt_25 : decode cX10_cornerAt 25 = .ok (.checkcast 91, 3) := by decide +kernel
theorem dX10_cornerAt_28 : decode cX10_cornerAt 28 = .ok (.goto 4, 3) := by decide +kernel
theorem dX10_cornerAt_31 : decode cX10_cornerAt 31 = .ok (.aconst_null, 1) := by decide +kernel
theorem dX10_cornerAt_32 : decode cX10_cornerAt 32 = .ok (.areturn, 1) := by decide +kernel
theorem dX10_bedAt_0 : decode cX10_bedAt 0 = .ok (.aload_n 0, 1) := by decide +kernel
theorem dX10_bedAt_1 : decode cX10_bedAt 1 = .ok (.iload_n 1, 1) := by decide +kernel
theorem dX10_bedAt_2 : decode cX10_bedAt 2 = .ok (.invokevirtual 100, 3) := by decide +kernel
theorem dX10_bedAt_5 : decode cX10_bedAt 5 = .ok (.astore_n 2, 1) := by decide +kernel
theorem dX10_bedAt_6 : decode cX10_bedAt 6 = .ok (.aload_n 2, 1) := by decide +kernel
theorem dX10_bedAt_7 : decode cX10_bedAt 7 = .ok (.ifnonnull 7, 3) := by decide +kernel
theorem dX10_bedAt_10 : decode cX10_bedAt 10 = .ok (.aconst_null, 1) := by decide +kernel
theorem dX10_bedAt_11 : decode cX10_bedAt 11 = .ok (.goto 7, 3) := by decide +kernel
theorem dX10_bedAt_14 : decode cX10_bedAt 14 = .ok (.aload_n 2, 1) := by decide +kernel
theorem dX10_bedAt_15 : decode cX10_bedAt 15 = .ok (.getfield 110, 3) := by decide +kernel
theorem dX10_bedAt_18 : decode cX10_bedAt 18 = .ok (.areturn, 1) := by decide +kernel
theorem dX10_roofAt_0 : decode cX10_roofAt 0 = .ok (.iload_n 1, 1) := by decide +kernel
theorem dX10_roofAt_1 : decode cX10_roofAt 1 = .ok (.iconst 0, 1) := by decide +kernel
theorem dX10_roofAt_2 : decode cX10_roofAt 2 = .ok (.aload_n 0, 1) := by decide +kernel
theorem dX10_roofAt_3 : decode cX10_roofAt 3 = .ok (.getfield 16, 3) := by decide +kernel
theorem dX10_roofAt_6 : decode cX10_roofAt 6 = .ok (.invokevirtual 87, 3) := by decide +kernel
theorem dX10_roofAt_9 : decode cX10_roofAt 9 = .ok (.iconst 1, 1) := by decide +kernel
theorem dX10_roofAt_10 : decode cX10_roofAt 10 = .ok (.isub, 1) := by decide +kernel
theorem dX10_roofAt_11 : decode cX10_roofAt 11 = .ok (.invokestatic 83, 3) := by decide +kernel
theorem dX10_roofAt_14 : decode cX10_roofAt 14 = .ok (.ifCond .eq 17, 3) := by decide +kernel
theorem dX10_roofAt_17 : decode cX10_roofAt 17 = .ok (.aload_n 0, 1) := by decide +kernel
theorem dX10_roofAt_18 : decode cX10_roofAt 18 = .ok (.getfield 16, 3) := by decide +kernel
theorem dX10_roofAt_21 : decode cX10_roofAt 21 = .ok (.iload_n 1, 1) := by decide +kernel
theorem dX10_roofAt_22 : decode cX10_roofAt 22 = .ok (.invokevirtual 232, 3) := by decide +kernel
theorem dX10_roofAt_25 : decode cX10_roofAt 25 = .ok (.checkcast 107, 3) := by decide +kernel
theorem dX10_roofAt_28 : decode cX10_roofAt 28 = .ok (.goto 4, 3) := by decide +kernel
theorem dX10_roofAt_31 : decode cX10_roofAt 31 = .ok (.aconst_null, 1) := by decide +kernel
theorem dX10_roofAt_32 : decode cX10_roofAt 32 = .ok (.areturn, 1) := by decide +kernel
theorem dX10_parkingOfBeds_0 : decode cX10_parkingOfBeds 0 = .ok (.aload_n 0, 1) := by decide +kernel
theorem dX10_parkingOfBeds_1 : decode cX10_parkingOfBeds 1 = .ok (.iconst 0, 1) := by decide +kernel
theorem dX10_parkingOfBeds_2 : decode cX10_parkingOfBeds 2 = .ok (.invokevirtual 236, 3) := by decide +kernel
theorem dX10_parkingOfBeds_5 : decode cX10_parkingOfBeds 5 = .ok (.ireturn, 1) := by decide +kernel
theorem dX10_parkingWith_0 : decode cX10_parkingWith 0 = .ok (.iconst 0, 1) := by decide +kernel
theorem dX10_parkingWith_1 : decode cX10_parkingWith 1 = .ok (.istore_n 2, 1) := by decide +kernel
theorem dX10_parkingWith_2 : decode cX10_parkingWith 2 = .ok (.iconst 0, 1) := by decide +kernel
theorem dX10_parkingWith_3 : decode cX10_parkingWith 3 = .ok (.istore_n 3, 1) := by decide +kernel
theorem dX10_parkingWith_4 : decode cX10_parkingWith 4 = .ok (.iload_n 3, 1) := by decide +kernel
theorem dX10_parkingWith_5 : decode cX10_parkingWith 5 = .ok (.aload_n 0, 1) := by decide +kernel
theorem dX10_parkingWith_6 : decode cX10_parkingWith 6 = .ok (.getfield 10, 3) := by decide +kernel
theorem dX10_parkingWith_9 : decode cX10_parkingWith 9 = .ok (.invokevirtual 87, 3) := by decide +kernel
theorem dX10_parkingWith_12 : decode cX10_parkingWith 12 = .ok (.if_icmp .ge 46, 3) := by decide +kernel
theorem dX10_parkingWith_15 : decode cX10_parkingWith 15 = .ok (.aload_n 0, 1) := by decide +kernel
theorem dX10_parkingWith_16 : decode cX10_parkingWith 16 = .ok (.getfield 10, 3) := by decide +kernel
theorem dX10_parkingWith_19 : decode cX10_parkingWith 19 = .ok (.iload_n 3, 1) := by decide +kernel
theorem dX10_parkingWith_20 : decode cX10_parkingWith 20 = .ok (.invokevirtual 232, 3) := by decide +kernel
theorem dX10_parkingWith_23 : decode cX10_parkingWith 23 = .ok (.checkcast 91, 3) := by decide +kernel
theorem dX10_parkingWith_26 : decode cX10_parkingWith 26 = .ok (.astore 4, 2) := by decide +kernel
theorem dX10_parkingWith_28 : decode cX10_parkingWith 28 = .ok (.aload 4, 2) := by decide +kernel
theorem dX10_parkingWith_30 : decode cX10_parkingWith 30 = .ok (.getfield 110, 3) := by decide +kernel
theorem dX10_parkingWith_33 : decode cX10_parkingWith 33 = .ok (.ifnonnull 11, 3) := by decide +kernel
theorem dX10_parkingWith_36 : decode cX10_parkingWith 36 = .ok (.iload_n 1, 1) := by decide +kernel
theorem dX10_parkingWith_37 : decode cX10_parkingWith 37 = .ok (.iload_n 3, 1) := by decide +kernel
theorem dX10_parkingWith_38 : decode cX10_parkingWith 38 = .ok (.invokestatic 239, 3) := by decide +kernel
theorem dX10_parkingWith_41 : decode cX10_parkingWith 41 = .ok (.ifCond .eq 11, 3) := by decide +kernel
theorem dX10_parkingWith_44 : decode cX10_parkingWith 44 = .ok (.iload_n 2, 1) := by decide +kernel
theorem dX10_parkingWith_45 : decode cX10_parkingWith 45 = .ok (.aload 4, 2) := by decide +kernel
theorem dX10_parkingWith_47 : decode cX10_parkingWith 47 = .ok (.getfield 117, 3) := by decide +kernel
theorem dX10_parkingWith_50 : decode cX10_parkingWith 50 = .ok (.iadd, 1) := by decide +kernel
theorem dX10_parkingWith_51 : decode cX10_parkingWith 51 = .ok (.istore_n 2, 1) := by decide +kernel
theorem dX10_parkingWith_52 : decode cX10_parkingWith 52 = .ok (.iinc 3 1, 3) := by decide +kernel
theorem dX10_parkingWith_55 : decode cX10_parkingWith 55 = .ok (.goto (-51), 3) := by decide +kernel
theorem dX10_parkingWith_58 : decode cX10_parkingWith 58 = .ok (.iload_n 2, 1) := by decide +kernel
theorem dX10_parkingWith_59 : decode cX10_parkingWith 59 = .ok (.ireturn, 1) := by decide +kernel
theorem dX10_drinkByLook_0 : decode cX10_drinkByLook 0 = .ok (.aload_n 1, 1) := by decide +kernel
theorem dX10_drinkByLook_1 : decode cX10_drinkByLook 1 = .ok (.getfield 214, 3) := by decide +kernel
theorem dX10_drinkByLook_4 : decode cX10_drinkByLook 4 = .ok (.iconst (-1), 1) := by decide +kernel
theorem dX10_drinkByLook_5 : decode cX10_drinkByLook 5 = .ok (.if_icmp .ne 5, 3) := by decide +kernel
theorem dX10_drinkByLook_8 : decode cX10_drinkByLook 8 = .ok (.iconst (-1), 1) := by decide +kernel
theorem dX10_drinkByLook_9 : decode cX10_drinkByLook 9 = .ok (.ireturn, 1) := by decide +kernel
theorem dX10_drinkByLook_10 : decode cX10_drinkByLook 10 = .ok (.aload_n 1, 1) := by decide +kernel
theorem dX10_drinkByLook_11 : decode cX10_drinkByLook 11 = .ok (.aload_n 0, 1) := by decide +kernel
theorem dX10_drinkByLook_12 : decode cX10_drinkByLook 12 = .ok (.getfield 51, 3) := by decide +kernel
theorem dX10_drinkByLook_15 : decode cX10_drinkByLook 15 = .ok (.invokevirtual 242, 3) := by decide +kernel
theorem dX10_drinkByLook_18 : decode cX10_drinkByLook 18 = .ok (.aload_n 0, 1) := by decide +kernel
theorem dX10_drinkByLook_19 : decode cX10_drinkByLook 19 = .ok (.aload_n 0, 1) := by decide +kernel
theorem dX10_drinkByLook_20 : decode cX10_drinkByLook 20 = .ok (.getfield 120, 3) := by decide +kernel
theorem dX10_drinkByLook_23 : decode cX10_drinkByLook 23 = .ok (.invokevirtual 123, 3) := by decide +kernel
theorem dX10_drinkByLook_26 : decode cX10_drinkByLook 26 = .ok (.iload_n 2, 1) := by decide +kernel
theorem dX10_drinkByLook_27 : decode cX10_drinkByLook 27 = .ok (.iconst 2, 1) := by decide +kernel
theorem dX10_drinkByLook_28 : decode cX10_drinkByLook 28 = .ok (.aload_n 1, 1) := by decide +kernel
theorem dX10_drinkByLook_29 : decode cX10_drinkByLook 29 = .ok (.getfield 214, 3) := by decide +kernel
theorem dX10_drinkByLook_32 : decode cX10_drinkByLook 32 = .ok (.imul, 1) := by decide +kernel
theorem dX10_drinkByLook_33 : decode cX10_drinkByLook 33 = .ok (.iadd, 1) := by decide +kernel
theorem dX10_drinkByLook_34 : decode cX10_drinkByLook 34 = .ok (.invokevirtual 127, 3) := by decide +kernel
theorem dX10_drinkByLook_37 : decode cX10_drinkByLook 37 = .ok (.imul, 1) := by decide +kernel
theorem dX10_drinkByLook_38 : decode cX10_drinkByLook 38 = .ok (.bipush 100, 2) := by decide +kernel
theorem dX10_drinkByLook_40 : decode cX10_drinkByLook 40 = .ok (.idiv, 1) := by decide +kernel
theorem dX10_drinkByLook_41 : decode cX10_drinkByLook 41 = .ok (.ireturn, 1) := by decide +kernel
theorem dX10_pass_0 : decode cX10_pass 0 = .ok (.iload_n 1, 1) := by decide +kernel
theorem dX10_pass_1 : decode cX10_pass 1 = .ok (.iconst 1, 1) := by decide +kernel
theorem dX10_pass_2 : decode cX10_pass 2 = .ok (.bipush 100, 2) := by decide +kernel
theorem dX10_pass_4 : decode cX10_pass 4 = .ok (.invokestatic 83, 3) := by decide +kernel
theorem dX10_pass_7 : decode cX10_pass 7 = .ok (.ifCond .eq 15, 3) := by decide +kernel
theorem dX10_pass_10 : decode cX10_pass 10 = .ok (.aload_n 0, 1) := by decide +kernel
theorem dX10_pass_11 : decode cX10_pass 11 = .ok (.getfield 120, 3) := by decide +kernel
theorem dX10_pass_14 : decode cX10_pass 14 = .ok (.iload_n 1, 1) := by decide +kernel
theorem dX10_pass_15 : decode cX10_pass 15 = .ok (.iadd, 1) := by decide +kernel
theorem dX10_pass_16 : decode cX10_pass 16 = .ok (.sipush 3649, 3) := by decide +kernel
theorem dX10_pass_19 : decode cX10_pass 19 = .ok (.if_icmp .le 5, 3) := by decide +kernel
theorem dX10_pass_22 : decode cX10_pass 22 = .ok (.iconst (-1), 1) := by decide +kernel
theorem dX10_pass_23 : decode cX10_pass 23 = .ok (.ireturn, 1) := by decide +kernel
theorem dX10_pass_24 : decode cX10_pass 24 = .ok (.iconst 0, 1) := by decide +kernel
theorem dX10_pass_25 : decode cX10_pass 25 = .ok (.istore_n 2, 1) := by decide +kernel
theorem dX10_pass_26 : decode cX10_pass 26 = .ok (.iload_n 2, 1) := by decide +kernel
theorem dX10_pass_27 : decode cX10_pass 27 = .ok (.iload_n 1, 1) := by decide +kernel
theorem dX10_pass_28 : decode cX10_pass 28 = .ok (.if_icmp .ge 31, 3) := by decide +kernel
theorem dX10_pass_31 : decode cX10_pass 31 = .ok (.aload_n 0, 1) := by decide +kernel
theorem dX10_pass_32 : decode cX10_pass 32 = .ok (.aload_n 0, 1) := by decide +kernel
theorem dX10_pass_33 : decode cX10_pass 33 = .ok (.aload_n 0, 1) := by decide +kernel
theorem dX10_pass_34 : decode cX10_pass 34 = .ok (.getfield 120, 3) := by decide +kernel
theorem dX10_pass_37 : decode cX10_pass 37 = .ok (.invokevirtual 123, 3) := by decide +kernel
theorem dX10_pass_40 : decode cX10_pass 40 = .ok (.invokevirtual 245, 3) := by decide +kernel
theorem dX10_pass_43 : decode cX10_pass 43 = .ok (.aload_n 0, 1) := by decide +kernel
theorem dX10_pass_44 : decode cX10_pass 44 = .ok (.dup, 1) := by decide +kernel
theorem dX10_pass_45 : decode cX10_pass 45 = .ok (.getfield 120, 3) := by decide +kernel
theorem dX10_pass_48 : decode cX10_pass 48 = .ok (.iconst 1, 1) := by decide +kernel
theorem dX10_pass_49 : decode cX10_pass 49 = .ok (.iadd, 1) := by decide +kernel
theorem dX10_pass_50 : decode cX10_pass 50 = .ok (.putfield 120, 3) := by decide +kernel
theorem dX10_pass_53 : decode cX10_pass 53 = .ok (.iinc 2 1, 3) := by decide +kernel
theorem dX10_pass_56 : decode cX10_pass 56 = .ok (.goto (-30), 3) := by decide +kernel
theorem dX10_pass_59 : decode cX10_pass 59 = .ok (.aload_n 0, 1) := by decide +kernel
theorem dX10_pass_60 : decode cX10_pass 60 = .ok (.getfield 120, 3) := by decide +kernel
theorem dX10_pass_63 : decode cX10_pass 63 = .ok (.ireturn, 1) := by decide +kernel
theorem dX10_goBy_0 : decode cX10_goBy 0 = .ok (.aload_n 0, 1) := by decide +kernel
theorem dX10_goBy_1 : decode cX10_goBy 1 = .ok (.getfield 120, 3) := by decide +kernel
theorem dX10_goBy_4 : decode cX10_goBy 4 = .ok (.sipush 365, 3) := by decide +kernel
theorem dX10_goBy_7 : decode cX10_goBy 7 = .ok (.irem, 1) := by decide +kernel
theorem dX10_goBy_8 : decode cX10_goBy 8 = .ok (.istore_n 2, 1) := by decide +kernel
theorem dX10_goBy_9 : decode cX10_goBy 9 = .ok (.iconst 0, 1) := by decide +kernel
theorem dX10_goBy_10 : decode cX10_goBy 10 = .ok (.istore_n 3, 1) := by decide +kernel
theorem dX10_goBy_11 : decode cX10_goBy 11 = .ok (.iload_n 3, 1) := by decide +kernel
theorem dX10_goBy_12 : decode cX10_goBy 12 = .ok (.aload_n 0, 1) := by decide +kernel
theorem dX10_goBy_13 : decode cX10_goBy 13 = .ok (.getfield 10, 3) := by decide +kernel
theorem dX10_goBy_16 : decode cX10_goBy 16 = .ok (.invokevirtual 87, 3) := by decide +kernel
theorem dX10_goBy_19 : decode cX10_goBy 19 = .ok (.if_icmp .ge 85, 3) := by decide +kernel
theorem dX10_goBy_22 : decode cX10_goBy 22 = .ok (.aload_n 0, 1) := by decide +kernel
theorem dX10_goBy_23 : decode cX10_goBy 23 = .ok (.getfield 10, 3) := by decide +kernel
theorem dX10_goBy_26 : decode cX10_goBy 26 = .ok (.iload_n 3, 1) := by decide +kernel
theorem dX10_goBy_27 : decode cX10_goBy 27 = .ok (.invokevirtual 232, 3) := by decide +kernel
theorem dX10_goBy_30 : decode cX10_goBy 30 = .ok (.checkcast 91, 3) := by decide +kernel
theorem dX10_goBy_33 : decode cX10_goBy 33 = .ok (.getfield 110, 3) := by decide +kernel
theorem dX10_goBy_36 : decode cX10_goBy 36 = .ok (.astore 4, 2) := by decide +kernel
theorem dX10_goBy_38 : decode cX10_goBy 38 = .ok (.aload 4, 2) := by decide +kernel
theorem dX10_goBy_40 : decode cX10_goBy 40 = .ok (.ifnull 58, 3) := by decide +kernel
theorem dX10_goBy_43 : decode cX10_goBy 43 = .ok (.aload 4, 2) := by decide +kernel
theorem dX10_goBy_45 : decode cX10_goBy 45 = .ok (.aload_n 1, 1) := by decide +kernel
theorem dX10_goBy_46 : decode cX10_goBy 46 = .ok (.invokevirtual 249, 3) := by decide +kernel
theorem dX10_goBy_49 : decode cX10_goBy 49 = .ok (.aload 4, 2) := by decide +kernel
theorem dX10_goBy_51 : decode cX10_goBy 51 = .ok (.aload_n 1, 1) := by decide +kernel
theorem dX10_goBy_52 : decode cX10_goBy 52 = .ok (.iload_n 2, 1) := by decide +kernel
theorem dX10_goBy_53 : decode cX10_goBy 53 = .ok (.invokevirtual 252, 3) := by decide +kernel
theorem dX10_goBy_56 : decode cX10_goBy 56 = .ok (.aload_n 0, 1) := by decide +kernel
theorem dX10_goBy_57 : decode cX10_goBy 57 = .ok (.getfield 69, 3) := by decide +kernel
theorem dX10_goBy_60 : decode cX10_goBy 60 = .ok (.iconst 1, 1) := by decide +kernel
theorem dX10_goBy_61 : decode cX10_goBy 61 = .ok (.dup2, 1) := by decide +kernel
theorem dX10_goBy_62 : decode cX10_goBy 62 = .ok (.laload, 1) := by decide +kernel
theorem dX10_goBy_63 : decode cX10_goBy 63 = .ok (.aload 4, 2) := by decide +kernel
theorem dX10_goBy_65 : decode cX10_goBy 65 = .ok (.aload_n 0, 1) := by decide +kernel
theorem dX10_goBy_66 : decode cX10_goBy 66 = .ok (.getfield 51, 3) := by decide +kernel
theorem dX10_goBy_69 : decode cX10_goBy 69 = .ok (.invokevirtual 256, 3) := by decide +kernel
theorem dX10_goBy_72 : decode cX10_goBy 72 = .ok (.i2l, 1) := by decide +kernel
theorem dX10_goBy_73 : decode cX10_goBy 73 = .ok (.ladd, 1) := by decide +kernel
theorem dX10_goBy_74 : decode cX10_goBy 74 = .ok (.lastore, 1) := by decide +kernel
theorem dX10_goBy_75 : decode cX10_goBy 75 = .ok (.aload 4, 2) := by decide +kernel
theorem dX10_goBy_77 : decode cX10_goBy 77 = .ok (.aload_n 1, 1) := by decide +kernel
theorem dX10_goBy_78 : decode cX10_goBy 78 = .ok (.invokevirtual 259, 3) := by decide +kernel
theorem dX10_goBy_81 : decode cX10_goBy 81 = .ok (.ifCond .eq 10, 3) := by decide +kernel
theorem dX10_goBy_84 : decode cX10_goBy 84 = .ok (.aload_n 0, 1) := by decide +kernel
theorem dX10_goBy_85 : decode cX10_goBy 85 = .ok (.iload_n 3, 1) := by decide +kernel
theorem dX10_goBy_86 : decode cX10_goBy 86 = .ok (.iconst 2, 1) := by decide +kernel
theorem dX10_goBy_87 : decode cX10_goBy 87 = .ok (.invokevirtual 263, 3) := by decide +kernel
theorem dX10_goBy_90 : decode cX10_goBy 90 = .ok (.pop, 1) := by decide +kernel
theorem dX10_goBy_91 : decode cX10_goBy 91 = .ok (.aload 4, 2) := by decide +kernel
theorem dX10_goBy_93 : decode cX10_goBy 93 = .ok (.aload_n 1, 1) := by decide +kernel
theorem dX10_goBy_94 : decode cX10_goBy 94 = .ok (.iload_n 2, 1) := by decide +kernel
theorem dX10_goBy_95 : decode cX10_goBy 95 = .ok (.invokevirtual 266, 3) := by decide +kernel
theorem dX10_goBy_98 : decode cX10_goBy 98 = .ok (.iinc 3 1, 3) := by decide +kernel
theorem dX10_goBy_101 : decode cX10_goBy 101 = .ok (.goto (-90), 3) := by decide +kernel
theorem dX10_goBy_104 : decode cX10_goBy 104 = .ok (.iconst 0, 1) := by decide +kernel
theorem dX10_goBy_105 : decode cX10_goBy 105 = .ok (.istore_n 3, 1) := by decide +kernel
theorem dX10_goBy_106 : decode cX10_goBy 106 = .ok (.iload_n 3, 1) := by decide +kernel
theorem dX10_goBy_107 : decode cX10_goBy 107 = .ok (.aload_n 0, 1) := by decide +kernel
theorem dX10_goBy_108 : decode cX10_goBy 108 = .ok (.getfield 16, 3) := by decide +kernel
theorem dX10_goBy_111 : decode cX10_goBy 111 = .ok (.invokevirtual 87, 3) := by decide +kernel
theorem dX10_goBy_114 : decode cX10_goBy 114 = .ok (.if_icmp .ge 33, 3) := by decide +kernel
theorem dX10_goBy_117 : decode cX10_goBy 117 = .ok (.aload_n 0, 1) := by decide +kernel
theorem dX10_goBy_118 : decode cX10_goBy 118 = .ok (.getfield 69, 3) := by decide +kernel
theorem dX10_goBy_121 : decode cX10_goBy 121 = .ok (.iconst 5, 1) := by decide +kernel
theorem dX10_goBy_122 : decode cX10_goBy 122 = .ok (.dup2, 1) := by decide +kernel
theorem dX10_goBy_123 : decode cX10_goBy 123 = .ok (.laload, 1) := by decide +kernel
theorem dX10_goBy_124 : decode cX10_goBy 124 = .ok (.aload_n 0, 1) := by decide +kernel
theorem dX10_goBy_125 : decode cX10_goBy 125 = .ok (.getfield 16, 3) := by decide +kernel
theorem dX10_goBy_128 : decode cX10_goBy 128 = .ok (.iload_n 3, 1) := by decide +kernel
theorem dX10_goBy_129 : decode cX10_goBy 129 = .ok (.invokevirtual 232, 3) := by decide +kernel
theorem dX10_goBy_132 : decode cX10_goBy 132 = .ok (.checkcast 107, 3) := by decide +kernel
theorem dX10_goBy_135 : decode cX10_goBy 135 = .ok (.invokevirtual 269, 3) := by decide +kernel
theorem dX10_goBy_138 : decode cX10_goBy 138 = .ok (.i2l, 1) := by decide +kernel
theorem dX10_goBy_139 : decode cX10_goBy 139 = .ok (.ladd, 1) := by decide +kernel
theorem dX10_goBy_140 : decode cX10_goBy 140 = .ok (.lastore, 1) := by decide +kernel
theorem dX10_goBy_141 : decode cX10_goBy 141 = .ok (.iinc 3 1, 3) := by decide +kernel
theorem dX10_goBy_144 : decode cX10_goBy 144 = .ok (.goto (-38), 3) := by decide +kernel
theorem dX10_goBy_147 : decode cX10_goBy 147 = .ok (.iconst 0, 1) := by decide +kernel
theorem dX10_goBy_148 : decode cX10_goBy 148 = .ok (.istore_n 3, 1) := by decide +kernel
theorem dX10_goBy_149 : decode cX10_goBy 149 = .ok (.iload_n 3, 1) := by decide +kernel
theorem dX10_goBy_150 : decode cX10_goBy 150 = .ok (.aload_n 1, 1) := by decide +kernel
theorem dX10_goBy_151 : decode cX10_goBy 151 = .ok (.getfield 272, 3) := by decide +kernel
theorem dX10_goBy_154 : decode cX10_goBy 154 = .ok (.invokevirtual 87, 3) := by decide +kernel
theorem dX10_goBy_157 : decode cX10_goBy 157 = .ok (.if_icmp .ge 29, 3) := by decide +kernel
theorem dX10_goBy_160 : decode cX10_goBy 160 = .ok (.aload_n 0, 1) := by decide +kernel
theorem dX10_goBy_161 : decode cX10_goBy 161 = .ok (.aload_n 1, 1) := by decide +kernel
theorem dX10_goBy_162 : decode cX10_goBy 162 = .ok (.getfield 272, 3) := by decide +kernel
theorem dX10_goBy_165 : decode cX10_goBy 165 = .ok (.iload_n 3, 1) := by decide +kernel
theorem dX10_goBy_166 : decode cX10_goBy 166 = .ok (.invokevirtual 232, 3) := by decide +kernel
theorem dX10_goBy_169 : decode cX10_goBy 169 = .ok (.checkcast 275, 3) := by decide +kernel
theorem dX10_goBy_172 : decode cX10_goBy 172 = .ok (.aload_n 1, 1) := by decide +kernel
theorem dX10_goBy_173 : decode cX10_goBy 173 = .ok (.iconst 3, 1) := by decide +kernel
theorem dX10_goBy_174 : decode cX10_goBy 174 = .ok (.invokevirtual 127, 3) := by decide +kernel
theorem dX10_goBy_177 : decode cX10_goBy 177 = .ok (.invokevirtual 277, 3) := by decide +kernel
theorem dX10_goBy_180 : decode cX10_goBy 180 = .ok (.iinc 3 1, 3) := by decide +kernel
theorem dX10_goBy_183 : decode cX10_goBy 183 = .ok (.goto (-34), 3) := by decide +kernel
theorem dX10_goBy_186 : decode cX10_goBy 186 = .ok (.return_, 1) := by decide +kernel
theorem dX10_settle_0 : decode cX10_settle 0 = .ok (.aload_n 0, 1) := by decide +kernel
theorem dX10_settle_1 : decode cX10_settle 1 = .ok (.aload_n 1, 1) := by decide +kernel
theorem dX10_settle_2 : decode cX10_settle 2 = .ok (.getfield 281, 3) := by decide +kernel
theorem dX10_settle_5 : decode cX10_settle 5 = .ok (.invokevirtual 136, 3) := by decide +kernel
theorem dX10_settle_8 : decode cX10_settle 8 = .ok (.astore_n 3, 1) := by decide +kernel
theorem dX10_settle_9 : decode cX10_settle 9 = .ok (.aload_n 0, 1) := by decide +kernel
theorem dX10_settle_10 : decode cX10_settle 10 = .ok (.getfield 120, 3) := by decide +kernel
theorem dX10_settle_13 : decode cX10_settle 13 = .ok (.sipush 365, 3) := by decide +kernel
theorem dX10_settle_16 : decode cX10_settle 16 = .ok (.idiv, 1) := by decide +kernel
theorem dX10_settle_17 : decode cX10_settle 17 = .ok (.istore 4, 2) := by decide +kernel
theorem dX10_settle_19 : decode cX10_settle 19 = .ok (.aload_n 3, 1) := by decide +kernel
theorem dX10_settle_20 : decode cX10_settle 20 = .ok (.ifnull 14, 3) := by decide +kernel
theorem dX10_settle_23 : decode cX10_settle 23 = .ok (.aload_n 1, 1) := by decide +kernel
theorem dX10_settle_24 : decode cX10_settle 24 = .ok (.aload_n 0, 1) := by decide +kernel
theorem dX10_settle_25 : decode cX10_settle 25 = .ok (.getfield 120, 3) := by decide +kernel
theorem dX10_settle_28 : decode cX10_settle 28 = .ok (.invokevirtual 282, 3) := by decide +kernel
theorem dX10_settle_31 : decode cX10_settle 31 = .ok (.ifCond .ne 4, 3) := by decide +kernel
theorem dX10_settle_34 : decode cX10_settle 34 = .ok (.return_, 1) := by decide +kernel
theorem dX10_settle_35 : decode cX10_settle 35 = .ok (.aload_n 1, 1) := by decide +kernel
theorem dX10_settle_36 : decode cX10_settle 36 = .ok (.getfield 286, 3) := by decide +kernel
theorem dX10_settle_39 : decode cX10_settle 39 = .ok (.iconst 0, 1) := by decide +kernel
theorem dX10_settle_40 : decode cX10_settle 40 = .ok (.bipush 9, 2) := by decide +kernel
theorem dX10_settle_42 : decode cX10_settle 42 = .ok (.invokestatic 83, 3) := by decide +kernel
theorem dX10_settle_45 : decode cX10_settle 45 = .ok (.ifCond .eq 14, 3) := by decide +kernel
theorem dX10_settle_48 : decode cX10_settle 48 = .ok (.iload 4, 2) := by decide +kernel
theorem dX10_settle_50 : decode cX10_settle 50 = .ok (.iconst 0, 1) := by decide +kernel
theorem dX10_settle_51 : decode cX10_settle 51 = .ok (.bipush 9, 2) := by decide +kernel
theorem dX10_settle_53 : decode cX10_settle 53 = .ok (.invokestatic 83, 3) := by decide +kernel
theorem dX10_settle_56 : decode cX10_settle 56 = .ok (.ifCond .ne 4, 3) := by decide +kernel
theorem dX10_settle_59 : decode cX10_settle 59 = .ok (.return_, 1) := by decide +kernel
theorem dX10_settle_60 : decode cX10_settle 60 = .ok (.aload_n 3, 1) := by decide +kernel
theorem dX10_settle_61 : decode cX10_settle 61 = .ok (.aload_n 1, 1) := by decide +kernel
theorem dX10_settle_62 : decode cX10_settle 62 = .ok (.getfield 286, 3) := by decide +kernel
theorem dX10_settle_65 : decode cX10_settle 65 = .ok (.aload_n 0, 1) := by decide +kernel
theorem dX10_settle_66 : decode cX10_settle 66 = .ok (.getfield 120, 3) := by decide +kernel
theorem dX10_settle_69 : decode cX10_settle 69 = .ok (.invokevirtual 289, 3) := by decide +kernel
theorem dX10_settle_72 : decode cX10_settle 72 = .ok (.ifCond .eq 22, 3) := by decide +kernel
theorem dX10_settle_75 : decode cX10_settle 75 = .ok (.aload_n 0, 1) := by decide +kernel
theorem dX10_settle_76 : decode cX10_settle 76 = .ok (.getfield 63, 3) := by decide +kernel
theorem dX10_settle_79 : decode cX10_settle 79 = .ok (.aload_n 1, 1) := by decide +kernel
theorem dX10_settle_80 : decode cX10_settle 80 = .ok (.getfield 286, 3) := by decide +kernel
theorem dX10_settle_83 : decode cX10_settle 83 = .ok (.aaload, 1) := by decide +kernel
theorem dX10_settle_84 : decode cX10_settle 84 = .ok (.iload 4, 2) := by decide +kernel
theorem dX10_settle_86 : decode cX10_settle 86 = .ok (.dup2, 1) := by decide +kernel
theorem dX10_settle_87 : decode cX10_settle 87 = .ok (.iaload, 1) := by decide +kernel
theorem dX10_settle_88 : decode cX10_settle 88 = .ok (.iconst 1, 1) := by decide +kernel
theorem dX10_settle_89 : decode cX10_settle 89 = .ok (.iadd, 1) := by decide +kernel
theorem dX10_settle_90 : decode cX10_settle 90 = .ok (.iastore, 1) := by decide +kernel
theorem dX10_settle_91 : decode cX10_settle 91 = .ok (.goto 16, 3) := by decide +kernel
theorem dX10_settle_94 : decode cX10_settle 94 = .ok (.aload_n 0, 1) := by decide +kernel
theorem dX10_settle_95 : decode cX10_settle 95 = .ok (.getfield 58, 3) := by decide +kernel
theorem dX10_settle_98 : decode cX10_settle 98 = .ok (.aload_n 1, 1) := by decide +kernel
theorem dX10_settle_99 : decode cX10_settle 99 = .ok (.getfield 286, 3) := by decide +kernel
theorem dX10_settle_102 : decode cX10_settle 102 = .ok (.dup2, 1) := by decide +kernel
theorem dX10_settle_103 : decode cX10_settle 103 = .ok (.iaload, 1) := by decide +kernel
theorem dX10_settle_104 : decode cX10_settle 104 = .ok (.iload_n 2, 1) := by decide +kernel
theorem dX10_settle_105 : decode cX10_settle 105 = .ok (.iadd, 1) := by decide +kernel
theorem dX10_settle_106 : decode cX10_settle 106 = .ok (.iastore, 1) := by decide +kernel
theorem dX10_settle_107 : decode cX10_settle 107 = .ok (.return_, 1) := by decide +kernel
theorem dX10_neighbour_0 : decode cX10_neighbour 0 = .ok (.iload_n 1, 1) := by decide +kernel
theorem dX10_neighbour_1 : decode cX10_neighbour 1 = .ok (.iconst 0, 1) := by decide +kernel
theorem dX10_neighbour_2 : decode cX10_neighbour 2 = .ok (.bipush 9, 2) := by decide +kernel
theorem dX10_neighbour_4 : decode cX10_neighbour 4 = .ok (.invokestatic 83, 3) := by decide +kernel
theorem dX10_neighbour_7 : decode cX10_neighbour 7 = .ok (.ifCond .eq 12, 3) := by decide +kernel
theorem dX10_neighbour_10 : decode cX10_neighbour 10 = .ok (.iload_n 2, 1) := by decide +kernel
theorem dX10_neighbour_11 : decode cX10_neighbour 11 = .ok (.iconst 0, 1) := by decide +kernel
theorem dX10_neighbour_12 : decode cX10_neighbour 12 = .ok (.iconst 1, 1) := by decide +kernel
theorem dX10_neighbour_13 : decode cX10_neighbour 13 = .ok (.invokestatic 83, 3) := by decide +kernel
theorem dX10_neighbour_16 : decode cX10_neighbour 16 = .ok (.ifCond .ne 5, 3) := by decide +kernel
theorem dX10_neighbour_19 : decode cX10_neighbour 19 = .ok (.iconst (-1), 1) := by decide +kernel
theorem dX10_neighbour_20 : decode cX10_neighbour 20 = .ok (.ireturn, 1) := by decide +kernel
theorem dX10_neighbour_21 : decode cX10_neighbour 21 = .ok (.iload_n 2, 1) := by decide +kernel
theorem dX10_neighbour_22 : decode cX10_neighbour 22 = .ok (.ifCond .ne 10, 3) := by decide +kernel
theorem dX10_neighbour_25 : decode cX10_neighbour 25 = .ok (.aload_n 0, 1) := by decide +kernel
theorem dX10_neighbour_26 : decode cX10_neighbour 26 = .ok (.getfield 58, 3) := by decide +kernel
theorem dX10_neighbour_29 : decode cX10_neighbour 29 = .ok (.iload_n 1, 1) := by decide +kernel
theorem dX10_neighbour_30 : decode cX10_neighbour 30 = .ok (.iaload, 1) := by decide +kernel
theorem dX10_neighbour_31 : decode cX10_neighbour 31 = .ok (.ireturn, 1) := by decide +kernel
theorem dX10_neighbour_32 : decode cX10_neighbour 32 = .ok (.iconst 0, 1) := by decide +kernel
theorem dX10_neighbour_33 : decode cX10_neighbour 33 = .ok (.istore_n 3, 1) := by decide +kernel
theorem dX10_neighbour_34 : decode cX10_neighbour 34 = .ok (.iconst 0, 1) := by decide +kernel
theorem dX10_neighbour_35 : decode cX10_neighbour 35 = .ok (.istore 4, 2) := by decide +kernel
theorem dX10_neighbour_37 : decode cX10_neighbour 37 = .ok (.iload 4, 2) := by decide +kernel
theorem dX10_neighbour_39 : decode cX10_neighbour 39 = .ok (.bipush 10, 2) := by decide +kernel
theorem dX10_neighbour_41 : decode cX10_neighbour 41 = .ok (.if_icmp .ge 21, 3) := by decide +kernel
theorem dX10_neighbour_44 : decode cX10_neighbour 44 = .ok (.iload_n 3, 1) := by decide +kernel
theorem dX10_neighbour_45 : decode cX10_neighbour 45 = .ok (.aload_n 0, 1) := by decide +kernel
theorem dX10_neighbour_46 : decode cX10_neighbour 46 = .ok (.getfield 63, 3) := by decide +kernel
theorem dX10_neighbour_49 : decode cX10_neighbour 49 = .ok (.iload_n 1, 1) := by decide +kernel
theorem dX10_neighbour_50 : decode cX10_neighbour 50 = .ok (.aaload, 1) := by decide +kernel
theorem dX10_neighbour_51 : decode cX10_neighbour 51 = .ok (.iload 4, 2) := by decide +kernel
theorem dX10_neighbour_53 : decode cX10_neighbour 53 = .ok (.iaload, 1) := by decide +kernel
theorem dX10_neighbour_54 : decode cX10_neighbour 54 = .ok (.iadd, 1) := by decide +kernel
theorem dX10_neighbour_55 : decode cX10_neighbour 55 = .ok (.istore_n 3, 1) := by decide +kernel
theorem dX10_neighbour_56 : decode cX10_neighbour 56 = .ok (.iinc 4 1, 3) := by decide +kernel
theorem dX10_neighbour_59 : decode cX10_neighbour 59 = .ok (.goto (-22), 3) := by decide +kernel
theorem dX10_neighbour_62 : decode cX10_neighbour 62 = .ok (.iload_n 3, 1) := by decide +kernel
theorem dX10_neighbour_63 : decode cX10_neighbour 63 = .ok (.ireturn, 1) := by decide +kernel
theorem dX10_turn_0 : decode cX10_turn 0 = .ok (.iload_n 1, 1) := by decide +kernel
theorem dX10_turn_1 : decode cX10_turn 1 = .ok (.iconst 0, 1) := by decide +kernel
theorem dX10_turn_2 : decode cX10_turn 2 = .ok (.bipush 9, 2) := by decide +kernel
theorem dX10_turn_4 : decode cX10_turn 4 = .ok (.invokestatic 83, 3) := by decide +kernel
theorem dX10_turn_7 : decode cX10_turn 7 = .ok (.ifCond .eq 22, 3) := by decide +kernel
theorem dX10_turn_10 : decode cX10_turn 10 = .ok (.aload_n 0, 1) := by decide +kernel
theorem dX10_turn_11 : decode cX10_turn 11 = .ok (.iload_n 2, 1) := by decide +kernel
theorem dX10_turn_12 : decode cX10_turn 12 = .ok (.invokevirtual 100, 3) := by decide +kernel
theorem dX10_turn_15 : decode cX10_turn 15 = .ok (.ifnull 14, 3) := by decide +kernel
theorem dX10_turn_18 : decode cX10_turn 18 = .ok (.iload_n 3, 1) := by decide +kernel
theorem dX10_turn_19 : decode cX10_turn 19 = .ok (.iconst 0, 1) := by decide +kernel
theorem dX10_turn_20 : decode cX10_turn 20 = .ok (.sipush 3649, 3) := by decide +kernel
theorem dX10_turn_23 : decode cX10_turn 23 = .ok (.invokestatic 83, 3) := by decide +kernel
theorem dX10_turn_26 : decode cX10_turn 26 = .ok (.ifCond .ne 5, 3) := by decide +kernel
theorem dX10_turn_29 : decode cX10_turn 29 = .ok (.iconst (-1), 1) := by decide +kernel
theorem dX10_turn_30 : decode cX10_turn 30 = .ok (.ireturn, 1) := by decide +kernel
theorem dX10_turn_31 : decode cX10_turn 31 = .ok (.aload_n 0, 1) := by decide +kernel
theorem dX10_turn_32 : decode cX10_turn 32 = .ok (.iload_n 3, 1) := by decide +kernel
theorem dX10_turn_33 : decode cX10_turn 33 = .ok (.invokevirtual 123, 3) := by decide +kernel
theorem dX10_turn_36 : decode cX10_turn 36 = .ok (.astore 4, 2) := by decide +kernel
theorem dX10_turn_38 : decode cX10_turn 38 = .ok (.iconst 0, 1) := by decide +kernel
theorem dX10_turn_39 : decode cX10_turn 39 = .ok (.istore 5, 2) := by decide +kernel
theorem dX10_turn_41 : decode cX10_turn 41 = .ok (.iload 5, 2) := by decide +kernel
theorem dX10_turn_43 : decode cX10_turn 43 = .ok (.aload 4, 2) := by decide +kernel
theorem dX10_turn_45 : decode cX10_turn 45 = .ok (.getfield 272, 3) := by decide +kernel
theorem dX10_turn_48 : decode cX10_turn 48 = .ok (.invokevirtual 87, 3) := by decide +kernel
theorem dX10_turn_51 : decode cX10_turn 51 = .ok (.if_icmp .ge 53, 3) := by decide +kernel
theorem dX10_turn_54 : decode cX10_turn 54 = .ok (.aload 4, 2) := by decide +kernel
theorem dX10_turn_56 : decode cX10_turn 56 = .ok (.getfield 272, 3) := by decide +kernel
theorem dX10_turn_59 : decode cX10_turn 59 = .ok (.iload 5, 2) := by decide +kernel
theorem dX10_turn_61 : decode cX10_turn 61 = .ok (.invokevirtual 232, 3) := by decide +kernel
theorem dX10_turn_64 : decode cX10_turn 64 = .ok (.checkcast 275, 3) := by decide +kernel
theorem dX10_turn_67 : decode cX10_turn 67 = .ok (.astore 6, 2) := by decide +kernel
theorem dX10_turn_69 : decode cX10_turn 69 = .ok (.aload 6, 2) := by decide +kernel
theorem dX10_turn_71 : decode cX10_turn 71 = .ok (.getfield 286, 3) := by decide +kernel
theorem dX10_turn_74 : decode cX10_turn 74 = .ok (.iload_n 1, 1) := by decide +kernel
theorem dX10_turn_75 : decode cX10_turn 75 = .ok (.if_icmp .ne 23, 3) := by decide +kernel
theorem dX10_turn_78 : decode cX10_turn 78 = .ok (.aload 6, 2) := by decide +kernel
theorem dX10_turn_80 : decode cX10_turn 80 = .ok (.getfield 281, 3) := by decide +kernel
theorem dX10_turn_83 : decode cX10_turn 83 = .ok (.iload_n 2, 1) := by decide +kernel
theorem dX10_turn_84 : decode cX10_turn 84 = .ok (.if_icmp .ne 14, 3) := by decide +kernel
theorem dX10_turn_87 : decode cX10_turn 87 = .ok (.aload 6, 2) := by decide +kernel
theorem dX10_turn_89 : decode cX10_turn 89 = .ok (.iload_n 3, 1) := by decide +kernel
theorem dX10_turn_90 : decode cX10_turn 90 = .ok (.invokevirtual 282, 3) := by decide +kernel
theorem dX10_turn_93 : decode cX10_turn 93 = .ok (.ifCond .eq 5, 3) := by decide +kernel
theorem dX10_turn_96 : decode cX10_turn 96 = .ok (.iconst 1, 1) := by decide +kernel
theorem dX10_turn_97 : decode cX10_turn 97 = .ok (.ireturn, 1) := by decide +kernel
theorem dX10_turn_98 : decode cX10_turn 98 = .ok (.iinc 5 1, 3) := by decide +kernel
theorem dX10_turn_101 : decode cX10_turn 101 = .ok (.goto (-60), 3) := by decide +kernel
theorem dX10_turn_104 : decode cX10_turn 104 = .ok (.iconst 0, 1) := by decide +kernel
theorem dX10_turn_105 : decode cX10_turn 105 = .ok (.ireturn, 1) := by decide +kernel
theorem dX10_fee_0 : decode cX10_fee 0 = .ok (.iload_n 1, 1) := by decide +kernel
theorem dX10_fee_1 : decode cX10_fee 1 = .ok (.iconst 0, 1) := by decide +kernel
theorem dX10_fee_2 : decode cX10_fee 2 = .ok (.bipush 19, 2) := by decide +kernel
theorem dX10_fee_4 : decode cX10_fee 4 = .ok (.invokestatic 83, 3) := by decide +kernel
theorem dX10_fee_7 : decode cX10_fee 7 = .ok (.ifCond .eq 13, 3) := by decide +kernel
theorem dX10_fee_10 : decode cX10_fee 10 = .ok (.iload_n 2, 1) := by decide +kernel
theorem dX10_fee_11 : decode cX10_fee 11 = .ok (.iconst 0, 1) := by decide +kernel
theorem dX10_fee_12 : decode cX10_fee 12 = .ok (.bipush 9, 2) := by decide +kernel
theorem dX10_fee_14 : decode cX10_fee 14 = .ok (.invokestatic 83, 3) := by decide +kernel
theorem dX10_fee_17 : decode cX10_fee 17 = .ok (.ifCond .ne 5, 3) := by decide +kernel
theorem dX10_fee_20 : decode cX10_fee 20 = .ok (.iconst (-1), 1) := by decide +kernel
theorem dX10_fee_21 : decode cX10_fee 21 = .ok (.ireturn, 1) := by decide +kernel
theorem dX10_fee_22 : decode cX10_fee 22 = .ok (.aload_n 0, 1) := by decide +kernel
theorem dX10_fee_23 : decode cX10_fee 23 = .ok (.iload_n 2, 1) := by decide +kernel
theorem dX10_fee_24 : decode cX10_fee 24 = .ok (.sipush 365, 3) := by decide +kernel
theorem dX10_fee_27 : decode cX10_fee 27 = .ok (.imul, 1) := by decide +kernel
theorem dX10_fee_28 : decode cX10_fee 28 = .ok (.sipush 365, 3) := by decide +kernel
theorem dX10_fee_31 : decode cX10_fee 31 = .ok (.iadd, 1) := by decide +kernel
theorem dX10_fee_32 : decode cX10_fee 32 = .ok (.iconst 1, 1) := by decide +kernel
theorem dX10_fee_33 : decode cX10_fee 33 = .ok (.isub, 1) := by decide +kernel
theorem dX10_fee_34 : decode cX10_fee 34 = .ok (.invokevirtual 123, 3) := by decide +kernel
theorem dX10_fee_37 : decode cX10_fee 37 = .ok (.astore_n 3, 1) := by decide +kernel
theorem dX10_fee_38 : decode cX10_fee 38 = .ok (.iconst 0, 1) := by decide +kernel
theorem dX10_fee_39 : decode cX10_fee 39 = .ok (.istore 4, 2) := by decide +kernel
theorem dX10_fee_41 : decode cX10_fee 41 = .ok (.iconst 0, 1) := by decide +kernel
theorem dX10_fee_42 : decode cX10_fee 42 = .ok (.istore 5, 2) := by decide +kernel
theorem dX10_fee_44 : decode cX10_fee 44 = .ok (.iload 5, 2) := by decide +kernel
theorem dX10_fee_46 : decode cX10_fee 46 = .ok (.aload_n 0, 1) := by decide +kernel
theorem dX10_fee_47 : decode cX10_fee 47 = .ok (.getfield 16, 3) := by decide +kernel
theorem dX10_fee_50 : decode cX10_fee 50 = .ok (.invokevirtual 87, 3) := by decide +kernel
theorem dX10_fee_53 : decode cX10_fee 53 = .ok (.if_icmp .ge 79, 3) := by decide +kernel
theorem dX10_fee_56 : decode cX10_fee 56 = .ok (.aload_n 0, 1) := by decide +kernel
theorem dX10_fee_57 : decode cX10_fee 57 = .ok (.getfield 16, 3) := by decide +kernel
theorem dX10_fee_60 : decode cX10_fee 60 = .ok (.iload 5, 2) := by decide +kernel
theorem dX10_fee_62 : decode cX10_fee 62 = .ok (.invokevirtual 232, 3) := by decide +kernel
theorem dX10_fee_65 : decode cX10_fee 65 = .ok (.checkcast 107, 3) := by decide +kernel
theorem dX10_fee_68 : decode cX10_fee 68 = .ok (.astore 6, 2) := by decide +kernel
theorem dX10_fee_70 : decode cX10_fee 70 = .ok (.aload 6, 2) := by decide +kernel
theorem dX10_fee_72 : decode cX10_fee 72 = .ok (.getfield 224, 3) := by decide +kernel
theorem dX10_fee_75 : decode cX10_fee 75 = .ok (.iload_n 1, 1) := by decide +kernel
theorem dX10_fee_76 : decode cX10_fee 76 = .ok (.if_icmp .ne 50, 3) := by decide +kernel
theorem dX10_fee_79 : decode cX10_fee 79 = .ok (.iload 4, 2) := by decide +kernel
theorem dX10_fee_81 : decode cX10_fee 81 = .ok (.aload_n 3, 1) := by decide +kernel
theorem dX10_fee_82 : decode cX10_fee 82 = .ok (.bipush 7, 2) := by decide +kernel
theorem dX10_fee_84 : decode cX10_fee 84 = .ok (.invokevirtual 127, 3) := by decide +kernel
theorem dX10_fee_87 : decode cX10_fee 87 = .ok (.aload 6, 2) := by decide +kernel
theorem dX10_fee_89 : decode cX10_fee 89 = .ok (.getfield 227, 3) := by decide +kernel
theorem dX10_fee_92 : decode cX10_fee 92 = .ok (.imul, 1) := by decide +kernel
theorem dX10_fee_93 : decode cX10_fee 93 = .ok (.iadd, 1) := by decide +kernel
theorem dX10_fee_94 : decode cX10_fee 94 = .ok (.istore 4, 2) := by decide +kernel
theorem dX10_fee_96 : decode cX10_fee 96 = .ok (.iload 4, 2) := by decide +kernel
theorem dX10_fee_98 : decode cX10_fee 98 = .ok (.aload 6, 2) := by decide +kernel
theorem dX10_fee_100 : decode cX10_fee 100 = .ok (.iload_n 2, 1) := by decide +kernel
theorem dX10_fee_101 : decode cX10_fee 101 = .ok (.invokevirtual 292, 3) := by decide +kernel
theorem dX10_fee_104 : decode cX10_fee 104 = .ok (.ifCond .eq 18, 3) := by decide +kernel
theorem dX10_fee_107 : decode cX10_fee 107 = .ok (.aload_n 3, 1) := by decide +kernel
theorem dX10_fee_108 : decode cX10_fee 108 = .ok (.bipush 8, 2) := by decide +kernel
theorem dX10_fee_110 : decode cX10_fee 110 = .ok (.invokevirtual 127, 3) := by decide +kernel
theorem dX10_fee_113 : decode cX10_fee 113 = .ok (.aload 6, 2) := by decide +kernel
theorem dX10_fee_115 : decode cX10_fee 115 = .ok (.getfield 161, 3) := by decide +kernel
theorem dX10_fee_118 : decode cX10_fee 118 = .ok (.imul, 1) := by decide +kernel
theorem dX10_fee_119 : decode cX10_fee 119 = .ok (.goto 4, 3) := by decide +kernel
theorem dX10_fee_122 : decode cX10_fee 122 = .ok (.iconst 0, 1) := by decide +kernel
theorem dX10_fee_123 : decode cX10_fee 123 = .ok (.isub, 1) := by decide +kernel
theorem dX10_fee_124 : decode cX10_fee 124 = .ok (.istore 4, 2) := by decide +kernel
theorem dX10_fee_126 : decode cX10_fee 126 = .ok (.iinc 5 1, 3) := by decide +kernel
theorem dX10_fee_129 : decode cX10_fee 129 = .ok (.goto (-85), 3) := by decide +kernel
theorem dX10_fee_132 : decode cX10_fee 132 = .ok (.iload_n 1, 1) := by decide +kernel
theorem dX10_fee_133 : decode cX10_fee 133 = .ok (.bipush 10, 2) := by decide +kernel
theorem dX10_fee_135 : decode cX10_fee 135 = .ok (.if_icmp .ge 23, 3) := by decide +kernel
theorem dX10_fee_138 : decode cX10_fee 138 = .ok (.iload 4, 2) := by decide +kernel
theorem dX10_fee_140 : decode cX10_fee 140 = .ok (.aload_n 3, 1) := by decide +kernel
theorem dX10_fee_141 : decode cX10_fee 141 = .ok (.bipush 9, 2) := by decide +kernel
theorem dX10_fee_143 : decode cX10_fee 143 = .ok (.invokevirtual 127, 3) := by decide +kernel
theorem dX10_fee_146 : decode cX10_fee 146 = .ok (.aload_n 0, 1) := by decide +kernel
theorem dX10_fee_147 : decode cX10_fee 147 = .ok (.getfield 63, 3) := by decide +kernel
theorem dX10_fee_150 : decode cX10_fee 150 = .ok (.iload_n 1, 1) := by decide +kernel
theorem dX10_fee_151 : decode cX10_fee 151 = .ok (.aaload, 1) := by decide +kernel
theorem dX10_fee_152 : decode cX10_fee 152 = .ok (.iload_n 2, 1) := by decide +kernel
theorem dX10_fee_153 : decode cX10_fee 153 = .ok (.iaload, 1) := by decide +kernel
theorem dX10_fee_154 : decode cX10_fee 154 = .ok (.imul, 1) := by decide +kernel
theorem dX10_fee_155 : decode cX10_fee 155 = .ok (.isub, 1) := by decide +kernel
theorem dX10_fee_156 : decode cX10_fee 156 = .ok (.istore 4, 2) := by decide +kernel
theorem dX10_fee_158 : decode cX10_fee 158 = .ok (.iconst 0, 1) := by decide +kernel
theorem dX10_fee_159 : decode cX10_fee 159 = .ok (.iload 4, 2) := by decide +kernel
theorem dX10_fee_161 : decode cX10_fee 161 = .ok (.invokestatic 295, 3) := by decide +kernel
theorem dX10_fee_164 : decode cX10_fee 164 = .ok (.ireturn, 1) := by decide +kernel
theorem dX10_crew_0 : decode cX10_crew 0 = .ok (.iload_n 1, 1) := by decide +kernel
theorem dX10_crew_1 : decode cX10_crew 1 = .ok (.iconst 0, 1) := by decide +kernel
theorem dX10_crew_2 : decode cX10_crew 2 = .ok (.bipush 60, 2) := by decide +kernel
theorem dX10_crew_4 : decode cX10_crew 4 = .ok (.invokestatic 83, 3) := by decide +kernel
theorem dX10_crew_7 : decode cX10_crew 7 = .ok (.ifCond .eq 12, 3) := by decide +kernel
theorem dX10_crew_10 : decode cX10_crew 10 = .ok (.iload_n 2, 1) := by decide +kernel
theorem dX10_crew_11 : decode cX10_crew 11 = .ok (.iconst 0, 1) := by decide +kernel
theorem dX10_crew_12 : decode cX10_crew 12 = .ok (.iconst 2, 1) := by decide +kernel
theorem dX10_crew_13 : decode cX10_crew 13 = .ok (.invokestatic 83, 3) := by decide +kernel
theorem dX10_crew_16 : decode cX10_crew 16 = .ok (.ifCond .ne 5, 3) := by decide +kernel
theorem dX10_crew_19 : decode cX10_crew 19 = .ok (.iconst (-1), 1) := by decide +kernel
theorem dX10_crew_20 : decode cX10_crew 20 = .ok (.ireturn, 1) := by decide +kernel
theorem dX10_crew_21 : decode cX10_crew 21 = .ok (.aload_n 0, 1) := by decide +kernel
theorem dX10_crew_22 : decode cX10_crew 22 = .ok (.invokevirtual 298, 3) := by decide +kernel
theorem dX10_crew_25 : decode cX10_crew 25 = .ok (.iconst 0, 1) := by decide +kernel
theorem dX10_crew_26 : decode cX10_crew 26 = .ok (.istore_n 3, 1) := by decide +kernel
theorem dX10_crew_27 : decode cX10_crew 27 = .ok (.iconst 0, 1) := by decide +kernel
theorem dX10_crew_28 : decode cX10_crew 28 = .ok (.istore 4, 2) := by decide +kernel
theorem dX10_crew_30 : decode cX10_crew 30 = .ok (.iconst 1, 1) := by decide +kernel
theorem dX10_crew_31 : decode cX10_crew 31 = .ok (.istore 5, 2) := by decide +kernel
theorem dX10_crew_33 : decode cX10_crew 33 = .ok (.iload 5, 2) := by decide +kernel
theorem dX10_crew_35 : decode cX10_crew 35 = .ok (.iconst 1, 1) := by decide +kernel
theorem dX10_crew_36 : decode cX10_crew 36 = .ok (.aload_n 0, 1) := by decide +kernel
theorem dX10_crew_37 : decode cX10_crew 37 = .ok (.getfield 10, 3) := by decide +kernel
theorem dX10_crew_40 : decode cX10_crew 40 = .ok (.invokevirtual 87, 3) := by decide +kernel
theorem dX10_crew_43 : decode cX10_crew 43 = .ok (.ishl, 1) := by decide +kernel
theorem dX10_crew_44 : decode cX10_crew 44 = .ok (.if_icmp .ge 41, 3) := by decide +kernel
theorem dX10_crew_47 : decode cX10_crew 47 = .ok (.aload_n 0, 1) := by decide +kernel
theorem dX10_crew_48 : decode cX10_crew 48 = .ok (.iload 5, 2) := by decide +kernel
theorem dX10_crew_50 : decode cX10_crew 50 = .ok (.invokevirtual 301, 3) := by decide +kernel
theorem dX10_crew_53 : decode cX10_crew 53 = .ok (.istore 6, 2) := by decide +kernel
theorem dX10_crew_55 : decode cX10_crew 55 = .ok (.iload 6, 2) := by decide +kernel
theorem dX10_crew_57 : decode cX10_crew 57 = .ok (.iload 4, 2) := by decide +kernel
theorem dX10_crew_59 : decode cX10_crew 59 = .ok (.if_icmp .le 20, 3) := by decide +kernel
theorem dX10_crew_62 : decode cX10_crew 62 = .ok (.aload_n 0, 1) := by decide +kernel
theorem dX10_crew_63 : decode cX10_crew 63 = .ok (.iload 5, 2) := by decide +kernel
theorem dX10_crew_65 : decode cX10_crew 65 = .ok (.invokevirtual 304, 3) := by decide +kernel
theorem dX10_crew_68 : decode cX10_crew 68 = .ok (.iload_n 1, 1) := by decide +kernel
theorem dX10_crew_69 : decode cX10_crew 69 = .ok (.if_icmp .gt 10, 3) := by decide +kernel
theorem dX10_crew_72 : decode cX10_crew 72 = .ok (.iload 6, 2) := by decide +kernel
theorem dX10_crew_74 : decode cX10_crew 74 = .ok (.istore 4, 2) := by decide +kernel
theorem dX10_crew_76 : decode cX10_crew 76 = .ok (.iload 5, 2) := by decide +kernel
theorem dX10_crew_78 : decode cX10_crew 78 = .ok (.istore_n 3, 1) := by decide +kernel
theorem dX10_crew_79 : decode cX10_crew 79 = .ok (.iinc 5 1, 3) := by decide +kernel
theorem dX10_crew_82 : decode cX10_crew 82 = .ok (.goto (-49), 3) := by decide +kernel
theorem dX10_crew_85 : decode cX10_crew 85 = .ok (.iload_n 2, 1) := by decide +kernel
theorem dX10_crew_86 : decode cX10_crew 86 = .ok (.ifCond .ne 6, 3) := by decide +kernel
theorem dX10_crew_89 : decode cX10_crew 89 = .ok (.iload 4, 2) := by decide +kernel
theorem dX10_crew_91 : decode cX10_crew 91 = .ok (.ireturn, 1) := by decide +kernel
theorem dX10_crew_92 : decode cX10_crew 92 = .ok (.iload_n 2, 1) := by decide +kernel
theorem dX10_crew_93 : decode cX10_crew 93 = .ok (.iconst 1, 1) := by decide +kernel
theorem dX10_crew_94 : decode cX10_crew 94 = .ok (.if_icmp .ne 7, 3) := by decide +kernel
theorem dX10_crew_97 : decode cX10_crew 97 = .ok (.iload_n 3, 1) := by decide +kernel
theorem dX10_crew_98 : decode cX10_crew 98 = .ok (.goto 8, 3) := by decide +kernel
theorem dX10_crew_101 : decode cX10_crew 101 = .ok (.aload_n 0, 1) := by decide +kernel
theorem dX10_crew_102 : decode cX10_crew 102 = .ok (.iload_n 3, 1) := by decide +kernel
theorem dX10_crew_103 : decode cX10_crew 103 = .ok (.invokevirtual 304, 3) := by decide +kernel
theorem dX10_crew_106 : decode cX10_crew 106 = .ok (.ireturn, 1) := by decide +kernel
theorem dX10_weighGains_0 : decode cX10_weighGains 0 = .ok (.iconst 0, 1) := by decide +kernel
theorem dX10_weighGains_1 : decode cX10_weighGains 1 = .ok (.istore_n 1, 1) := by decide +kernel
theorem dX10_weighGains_2 : decode cX10_weighGains 2 = .ok (.iload_n 1, 1) := by decide +kernel
theorem dX10_weighGains_3 : decode cX10_weighGains 3 = .ok (.aload_n 0, 1) := by decide +kernel
theorem dX10_weighGains_4 : decode cX10_weighGains 4 = .ok (.getfield 10, 3) := by decide +kernel
theorem dX10_weighGains_7 : decode cX10_weighGains 7 = .ok (.invokevirtual 87, 3) := by decide +kernel
theorem dX10_weighGains_10 : decode cX10_weighGains 10 = .ok (.if_icmp .ge 55, 3) := by decide +kernel
theorem dX10_weighGains_13 : decode cX10_weighGains 13 = .ok (.iload_n 1, 1) := by decide +kernel
theorem dX10_weighGains_14 : decode cX10_weighGains 14 = .ok (.aload_n 0, 1) := by decide +kernel
theorem dX10_weighGains_15 : decode cX10_weighGains 15 = .ok (.getfield 66, 3) := by decide +kernel
theorem dX10_weighGains_18 : decode cX10_weighGains 18 = .ok (.arraylength, 1) := by decide +kernel
theorem dX10_weighGains_19 : decode cX10_weighGains 19 = .ok (.if_icmp .ge 46, 3) := by decide +kernel
theorem dX10_weighGains_22 : decode cX10_weighGains 22 = .ok (.aload_n 0, 1) := by decide +kernel
theorem dX10_weighGains_23 : decode cX10_weighGains 23 = .ok (.getfield 10, 3) := by decide +kernel
theorem dX10_weighGains_26 : decode cX10_weighGains 26 = .ok (.iload_n 1, 1) := by decide +kernel
theorem dX10_weighGains_27 : decode cX10_weighGains 27 = .ok (.invokevirtual 232, 3) := by decide +kernel
theorem dX10_weighGains_30 : decode cX10_weighGains 30 = .ok (.checkcast 91, 3) := by decide +kernel
theorem dX10_weighGains_33 : decode cX10_weighGains 33 = .ok (.getfield 110, 3) := by decide +kernel
theorem dX10_weighGains_36 : decode cX10_weighGains 36 = .ok (.astore_n 2, 1) := by decide +kernel
theorem dX10_weighGains_37 : decode cX10_weighGains 37 = .ok (.aload_n 0, 1) := by decide +kernel
theorem dX10_weighGains_38 : decode cX10_weighGains 38 = .ok (.getfield 66, 3) := by decide +kernel
theorem dX10_weighGains_41 : decode cX10_weighGains 41 = .ok (.iload_n 1, 1) := by decide +kernel
theorem dX10_weighGains_42 : decode cX10_weighGains 42 = .ok (.aload_n 2, 1) := by decide +kernel
theorem dX10_weighGains_43 : decode cX10_weighGains 43 = .ok (.ifnonnull 7, 3) := by decide +kernel
theorem dX10_weighGains_46 : decode cX10_weighGains 46 = .ok (.iconst 0, 1) := by decide +kernel
theorem dX10_weighGains_47 : decode cX10_weighGains 47 = .ok (.goto 11, 3) := by decide +kernel
theorem dX10_weighGains_50 : decode cX10_weighGains 50 = .ok (.aload_n 2, 1) := by decide +kernel
theorem dX10_weighGains_51 : decode cX10_weighGains 51 = .ok (.aload_n 0, 1) := by decide +kernel
theorem dX10_weighGains_52 : decode cX10_weighGains 52 = .ok (.getfield 51, 3) := by decide +kernel
theorem dX10_weighGains_55 : decode cX10_weighGains 55 = .ok (.invokevirtual 307, 3) := by decide +kernel
theorem dX10_weighGains_58 : decode cX10_weighGains 58 = .ok (.iastore, 1) := by decide +kernel
theorem dX10_weighGains_59 : decode cX10_weighGains 59 = .ok (.iinc 1 1, 3) := by decide +kernel
theorem dX10_weighGains_62 : decode cX10_weighGains 62 = .ok (.goto (-60), 3) := by decide +kernel
theorem dX10_weighGains_65 : decode cX10_weighGains 65 = .ok (.return_, 1) := by decide +kernel
theorem dX10_gainOf_0 : decode cX10_gainOf 0 = .ok (.iconst 0, 1) := by decide +kernel
theorem dX10_gainOf_1 : decode cX10_gainOf 1 = .ok (.istore_n 2, 1) := by decide +kernel
theorem dX10_gainOf_2 : decode cX10_gainOf 2 = .ok (.iconst 0, 1) := by decide +kernel
theorem dX10_gainOf_3 : decode cX10_gainOf 3 = .ok (.istore_n 3, 1) := by decide +kernel
theorem dX10_gainOf_4 : decode cX10_gainOf 4 = .ok (.iload_n 3, 1) := by decide +kernel
theorem dX10_gainOf_5 : decode cX10_gainOf 5 = .ok (.aload_n 0, 1) := by decide +kernel
theorem dX10_gainOf_6 : decode cX10_gainOf 6 = .ok (.getfield 10, 3) := by decide +kernel
theorem dX10_gainOf_9 : decode cX10_gainOf 9 = .ok (.invokevirtual 87, 3) := by decide +kernel
theorem dX10_gainOf_12 : decode cX10_gainOf 12 = .ok (.if_icmp .ge 39, 3) := by decide +kernel
theorem dX10_gainOf_15 : decode cX10_gainOf 15 = .ok (.iload_n 3, 1) := by decide +kernel
theorem dX10_gainOf_16 : decode cX10_gainOf 16 = .ok (.aload_n 0, 1) := by decide +kernel
theorem dX10_gainOf_17 : decode cX10_gainOf 17 = .ok (.getfield 66, 3) := by decide +kernel
theorem dX10_gainOf_20 : decode cX10_gainOf 20 = .ok (.arraylength, 1) := by decide +kernel
theorem dX10_gainOf_21 : decode cX10_gainOf 21 = .ok (.if_icmp .ge 30, 3) := by decide +kernel
theorem dX10_gainOf_24 : decode cX10_gainOf 24 = .ok (.iload_n 2, 1) := by decide +kernel
theorem dX10_gainOf_25 : decode cX10_gainOf 25 = .ok (.iload_n 1, 1) := by decide +kernel
theorem dX10_gainOf_26 : decode cX10_gainOf 26 = .ok (.iload_n 3, 1) := by decide +kernel
theorem dX10_gainOf_27 : decode cX10_gainOf 27 = .ok (.invokestatic 239, 3) := by decide +kernel
theorem dX10_gainOf_30 : decode cX10_gainOf 30 = .ok (.ifCond .eq 12, 3) := by decide +kernel
theorem dX10_gainOf_33 : decode cX10_gainOf 33 = .ok (.aload_n 0, 1) := by decide +kernel
theorem dX10_gainOf_34 : decode cX10_gainOf 34 = .ok (.getfield 66, 3) := by decide +kernel
theorem dX10_gainOf_37 : decode cX10_gainOf 37 = .ok (.iload_n 3, 1) := by decide +kernel
theorem dX10_gainOf_38 : decode cX10_gainOf 38 = .ok (.iaload, 1) := by decide +kernel
theorem dX10_gainOf_39 : decode cX10_gainOf 39 = .ok (.goto 4, 3) := by decide +kernel
theorem dX10_gainOf_42 : decode cX10_gainOf 42 = .ok (.iconst 0, 1) := by decide +kernel
theorem dX10_gainOf_43 : decode cX10_gainOf 43 = .ok (.iadd, 1) := by decide +kernel
theorem dX10_gainOf_44 : decode cX10_gainOf 44 = .ok (.istore_n 2, 1) := by decide +kernel
theorem dX10_gainOf_45 : decode cX10_gainOf 45 = .ok (.iinc 3 1, 3) := by decide +kernel
theorem dX10_gainOf_48 : decode cX10_gainOf 48 = .ok (.goto (-44), 3) := by decide +kernel
theorem dX10_gainOf_51 : decode cX10_gainOf 51 = .ok (.iload_n 2, 1) := by decide +kernel
theorem dX10_gainOf_52 : decode cX10_gainOf 52 = .ok (.ireturn, 1) := by decide +kernel
theorem dX10_hoursFor_0 : decode cX10_hoursFor 0 = .ok (.iconst 0, 1) := by decide +kernel
theorem dX10_hoursFor_1 : decode cX10_hoursFor 1 = .ok (.istore_n 2, 1) := by decide +kernel
theorem dX10_hoursFor_2 : decode cX10_hoursFor 2 = .ok (.iconst 0, 1) := by decide +kernel
theorem dX10_hoursFor_3 : decode cX10_hoursFor 3 = .ok (.istore_n 3, 1) := by decide +kernel
theorem dX10_hoursFor_4 : decode cX10_hoursFor 4 = .ok (.iload_n 3, 1) := by decide +kernel
theorem dX10_hoursFor_5 : decode cX10_hoursFor 5 = .ok (.aload_n 0, 1) := by decide +kernel
theorem dX10_hoursFor_6 : decode cX10_hoursFor 6 = .ok (.getfield 10, 3) := by decide +kernel
theorem dX10_hoursFor_9 : decode cX10_hoursFor 9 = .ok (.invokevirtual 87, 3) := by decide +kernel
theorem dX10_hoursFor_12 : decode cX10_hoursFor 12 = .ok (.if_icmp .ge 23, 3) := by decide +kernel
theorem dX10_hoursFor_15 : decode cX10_hoursFor 15 = .ok (.iload_n 1, 1) := by decide +kernel
theorem dX10_hoursFor_16 : decode cX10_hoursFor 16 = .ok (.iload_n 3, 1) := by decide +kernel
theorem dX10_hoursFor_17 : decode cX10_hoursFor 17 = .ok (.invokestatic 239, 3) := by decide +kernel
theorem dX10_hoursFor_20 : decode cX10_hoursFor 20 = .ok (.ifCond .eq 7, 3) := by decide +kernel
theorem dX10_hoursFor_23 : decode cX10_hoursFor 23 = .ok (.iload_n 3, 1) := by decide +kernel
theorem dX10_hoursFor_24 : decode cX10_hoursFor 24 = .ok (.goto 4, 3) := by decide +kernel
theorem dX10_hoursFor_27 : decode cX10_hoursFor 27 = .ok (.iload_n 2, 1) := by decide +kernel
theorem dX10_hoursFor_28 : decode cX10_hoursFor 28 = .ok (.istore_n 2, 1) := by decide +kernel
theorem dX10_hoursFor_29 : decode cX10_hoursFor 29 = .ok (.iinc 3 1, 3) := by decide +kernel
theorem dX10_hoursFor_32 : decode cX10_hoursFor 32 = .ok (.goto (-28), 3) := by decide +kernel
theorem dX10_hoursFor_35 : decode cX10_hoursFor 35 = .ok (.iload_n 2, 1) := by decide +kernel
theorem dX10_hoursFor_36 : decode cX10_hoursFor 36 = .ok (.iconst 2, 1) := by decide +kernel
theorem dX10_hoursFor_37 : decode cX10_hoursFor 37 = .ok (.iload_n 1, 1) := by decide +kernel
theorem dX10_hoursFor_38 : decode cX10_hoursFor 38 = .ok (.invokestatic 310, 3) := by decide +kernel
theorem dX10_hoursFor_41 : decode cX10_hoursFor 41 = .ok (.imul, 1) := by decide +kernel
theorem dX10_hoursFor_42 : decode cX10_hoursFor 42 = .ok (.iadd, 1) := by decide +kernel
theorem dX10_hoursFor_43 : decode cX10_hoursFor 43 = .ok (.ireturn, 1) := by decide +kernel
theorem dX10_rain_0 : decode cX10_rain 0 = .ok (.iload_n 1, 1) := by decide +kernel
theorem dX10_rain_1 : decode cX10_rain 1 = .ok (.iconst 0, 1) := by decide +kernel
theorem dX10_rain_2 : decode cX10_rain 2 = .ok (.bipush 50, 2) := by decide +kernel
theorem dX10_rain_4 : decode cX10_rain 4 = .ok (.invokestatic 83, 3) := by decide +kernel
theorem dX10_rain_7 : decode cX10_rain 7 = .ok (.ifCond .eq 12, 3) := by decide +kernel
theorem dX10_rain_10 : decode cX10_rain 10 = .ok (.aload_n 0, 1) := by decide +kernel
theorem dX10_rain_11 : decode cX10_rain 11 = .ok (.getfield 315, 3) := by decide +kernel
theorem dX10_rain_14 : decode cX10_rain 14 = .ok (.bipush 30, 2) := by decide +kernel
theorem dX10_rain_16 : decode cX10_rain 16 = .ok (.if_icmp .lt 5, 3) := by decide +kernel
theorem dX10_rain_19 : decode cX10_rain 19 = .ok (.iconst (-1), 1) := by decide +kernel
theorem dX10_rain_20 : decode cX10_rain 20 = .ok (.ireturn, 1) := by decide +kernel
theorem dX10_rain_21 : decode cX10_rain 21 = .ok (.aload_n 0, 1) := by decide +kernel
theorem dX10_rain_22 : decode cX10_rain 22 = .ok (.getfield 55, 3) := by decide +kernel
theorem dX10_rain_25 : decode cX10_rain 25 = .ok (.aload_n 0, 1) := by decide +kernel
theorem dX10_rain_26 : decode cX10_rain 26 = .ok (.getfield 315, 3) := by decide +kernel
theorem dX10_rain_29 : decode cX10_rain 29 = .ok (.iload_n 1, 1) := by decide +kernel
theorem dX10_rain_30 : decode cX10_rain 30 = .ok (.iastore, 1) := by decide +kernel
theorem dX10_rain_31 : decode cX10_rain 31 = .ok (.aload_n 0, 1) := by decide +kernel
theorem dX10_rain_32 : decode cX10_rain 32 = .ok (.dup, 1) := by decide +kernel
theorem dX10_rain_33 : decode cX10_rain 33 = .ok (.getfield 315, 3) := by decide +kernel
theorem dX10_rain_36 : decode cX10_rain 36 = .ok (.iconst 1, 1) := by decide +kernel
theorem dX10_rain_37 : decode cX10_rain 37 = .ok (.iadd, 1) := by decide +kernel
theorem dX10_rain_38 : decode cX10_rain 38 = .ok (.putfield 315, 3) := by decide +kernel
theorem dX10_rain_41 : decode cX10_rain 41 = .ok (.aload_n 0, 1) := by decide +kernel
theorem dX10_rain_42 : decode cX10_rain 42 = .ok (.getfield 315, 3) := by decide +kernel
theorem dX10_rain_45 : decode cX10_rain 45 = .ok (.ireturn, 1) := by decide +kernel
theorem dX10_clear_0 : decode cX10_clear 0 = .ok (.aload_n 0, 1) := by decide +kernel
theorem dX10_clear_1 : decode cX10_clear 1 = .ok (.getfield 315, 3) := by decide +kernel
theorem dX10_clear_4 : decode cX10_clear 4 = .ok (.istore_n 1, 1) := by decide +kernel
theorem dX10_clear_5 : decode cX10_clear 5 = .ok (.aload_n 0, 1) := by decide +kernel
theorem dX10_clear_6 : decode cX10_clear 6 = .ok (.iconst 0, 1) := by decide +kernel
theorem dX10_clear_7 : decode cX10_clear 7 = .ok (.putfield 315, 3) := by decide +kernel
theorem dX10_clear_10 : decode cX10_clear 10 = .ok (.iload_n 1, 1) := by decide +kernel
theorem dX10_clear_11 : decode cX10_clear 11 = .ok (.ireturn, 1) := by decide +kernel
theorem dX10_storm_0 : decode cX10_storm 0 = .ok (.aload_n 0, 1) := by decide +kernel
theorem dX10_storm_1 : decode cX10_storm 1 = .ok (.getfield 19, 3) := by decide +kernel
theorem dX10_storm_4 : decode cX10_storm 4 = .ok (.invokevirtual 87, 3) := by decide +kernel
theorem dX10_storm_7 : decode cX10_storm 7 = .ok (.bipush 40, 2) := by decide +kernel
theorem dX10_storm_9 : decode cX10_storm 9 = .ok (.if_icmp .lt 5, 3) := by decide +kernel
theorem dX10_storm_12 : decode cX10_storm 12 = .ok (.iconst (-1), 1) := by decide +kernel
theorem dX10_storm_13 : decode cX10_storm 13 = .ok (.ireturn, 1) := by decide +kernel
theorem dX10_storm_14 : decode cX10_storm 14 = .ok (.aload_n 0, 1) := by decide +kernel
theorem dX10_storm_15 : decode cX10_storm 15 = .ok (.invokevirtual 318, 3) := by decide +kernel
theorem dX10_storm_18 : decode cX10_storm 18 = .ok (.aload_n 0, 1) := by decide +kernel
theorem dX10_storm_19 : decode cX10_storm 19 = .ok (.getfield 47, 3) := by decide +kernel
theorem dX10_storm_22 : decode cX10_storm 22 = .ok (.iconst 0, 1) := by decide +kernel
theorem dX10_storm_23 : decode cX10_storm 23 = .ok (.invokevirtual 321, 3) := by decide +kernel
theorem dX10_storm_26 : decode cX10_storm 26 = .ok (.iconst 0, 1) := by decide +kernel
theorem dX10_storm_27 : decode cX10_storm 27 = .ok (.istore_n 1, 1) := by decide +kernel
theorem dX10_storm_28 : decode cX10_storm 28 = .ok (.iload_n 1, 1) := by decide +kernel
theorem dX10_storm_29 : decode cX10_storm 29 = .ok (.aload_n 0, 1) := by decide +kernel
theorem dX10_storm_30 : decode cX10_storm 30 = .ok (.getfield 10, 3) := by decide +kernel
theorem dX10_storm_33 : decode cX10_storm 33 = .ok (.invokevirtual 87, 3) := by decide +kernel
theorem dX10_storm_36 : decode cX10_storm 36 = .ok (.if_icmp .ge 61, 3) := by decide +kernel
theorem dX10_storm_39 : decode cX10_storm 39 = .ok (.iload_n 1, 1) := by decide +kernel
theorem dX10_storm_40 : decode cX10_storm 40 = .ok (.aload_n 0, 1) := by decide +kernel
theorem dX10_storm_41 : decode cX10_storm 41 = .ok (.getfield 47, 3) := by decide +kernel
theorem dX10_storm_44 : decode cX10_storm 44 = .ok (.getfield 324, 3) := by decide +kernel
theorem dX10_storm_47 : decode cX10_storm 47 = .ok (.invokevirtual 87, 3) := by decide +kernel
theorem dX10_storm_50 : decode cX10_storm 50 = .ok (.if_icmp .ge 47, 3) := by decide +kernel
theorem dX10_storm_53 : decode cX10_storm 53 = .ok (.aload_n 0, 1) := by decide +kernel
theorem dX10_storm_54 : decode cX10_storm 54 = .ok (.getfield 69, 3) := by decide +kernel
theorem dX10_storm_57 : decode cX10_storm 57 = .ok (.iconst 1, 1) := by decide +kernel
theorem dX10_storm_58 : decode cX10_storm 58 = .ok (.dup2, 1) := by decide +kernel
theorem dX10_storm_59 : decode cX10_storm 59 = .ok (.laload, 1) := by decide +kernel
theorem dX10_storm_60 : decode cX10_storm 60 = .ok (.aload_n 0, 1) := by decide +kernel
theorem dX10_storm_61 : decode cX10_storm 61 = .ok (.getfield 10, 3) := by decide +kernel
theorem dX10_storm_64 : decode cX10_storm 64 = .ok (.iload_n 1, 1) := by decide +kernel
theorem dX10_storm_65 : decode cX10_storm 65 = .ok (.invokevirtual 232, 3) := by decide +kernel
theorem dX10_storm_68 : decode cX10_storm 68 = .ok (.checkcast 91, 3) := by decide +kernel
theorem dX10_storm_71 : decode cX10_storm 71 = .ok (.aload_n 0, 1) := by decide +kernel
theorem dX10_storm_72 : decode cX10_storm 72 = .ok (.getfield 47, 3) := by decide +kernel
theorem dX10_storm_75 : decode cX10_storm 75 = .ok (.getfield 324, 3) := by decide +kernel
theorem dX10_storm_78 : decode cX10_storm 78 = .ok (.iload_n 1, 1) := by decide +kernel
theorem dX10_storm_79 : decode cX10_storm 79 = .ok (.invokevirtual 232, 3) := by decide +kernel
theorem dX10_storm_82 : decode cX10_storm 82 = .ok (.checkcast 327, 3) := by decide +kernel
theorem dX10_storm_85 : decode cX10_storm 85 = .ok (.invokevirtual 329, 3) := by decide +kernel
theorem dX10_storm_88 : decode cX10_storm 88 = .ok (.i2l, 1) := by decide +kernel
theorem dX10_storm_89 : decode cX10_storm 89 = .ok (.ladd, 1) := by decide +kernel
theorem dX10_storm_90 : decode cX10_storm 90 = .ok (.lastore, 1) := by decide +kernel
theorem dX10_storm_91 : decode cX10_storm 91 = .ok (.iinc 1 1, 3) := by decide +kernel
theorem dX10_storm_94 : decode cX10_storm 94 = .ok (.goto (-66), 3) := by decide +kernel
theorem dX10_storm_97 : decode cX10_storm 97 = .ok (.iconst 0, 1) := by decide +kernel
theorem dX10_storm_98 : decode cX10_storm 98 = .ok (.istore_n 1, 1) := by decide +kernel
theorem dX10_storm_99 : decode cX10_storm 99 = .ok (.iload_n 1, 1) := by decide +kernel
theorem dX10_storm_100 : decode cX10_storm 100 = .ok (.aload_n 0, 1) := by decide +kernel
theorem dX10_storm_101 : decode cX10_storm 101 = .ok (.getfield 16, 3) := by decide +kernel
theorem dX10_storm_104 : decode cX10_storm 104 = .ok (.invokevirtual 87, 3) := by decide +kernel
theorem dX10_storm_107 : decode cX10_storm 107 = .ok (.if_icmp .ge 31, 3) := by decide +kernel
theorem dX10_storm_110 : decode cX10_storm 110 = .ok (.aload_n 0, 1) := by decide +kernel
theorem dX10_storm_111 : decode cX10_storm 111 = .ok (.getfield 16, 3) := by decide +kernel
theorem dX10_storm_114 : decode cX10_storm 114 = .ok (.iload_n 1, 1) := by decide +kernel
theorem dX10_storm_115 : decode cX10_storm 115 = .ok (.invokevirtual 232, 3) := by decide +kernel
theorem dX10_storm_118 : decode cX10_storm 118 = .ok (.checkcast 107, 3) := by decide +kernel
theorem dX10_storm_121 : decode cX10_storm 121 = .ok (.aload_n 0, 1) := by decide +kernel
theorem dX10_storm_122 : decode cX10_storm 122 = .ok (.getfield 47, 3) := by decide +kernel
theorem dX10_storm_125 : decode cX10_storm 125 = .ok (.iload_n 1, 1) := by decide +kernel
theorem dX10_storm_126 : decode cX10_storm 126 = .ok (.invokevirtual 333, 3) := by decide +kernel
theorem dX10_storm_129 : decode cX10_storm 129 = .ok (.putfield 228, 3) := by decide +kernel
theorem dX10_storm_132 : decode cX10_storm 132 = .ok (.iinc 1 1, 3) := by decide +kernel
theorem dX10_storm_135 : decode cX10_storm 135 = .ok (.goto (-36), 3) := by decide +kernel
theorem dX10_storm_138 : decode cX10_storm 138 = .ok (.new 336, 3) := by decide +kernel
theorem dX10_storm_141 : decode cX10_storm 141 = .ok (.dup, 1) := by decide +kernel
theorem dX10_storm_142 : decode cX10_storm 142 = .ok (.aload_n 0, 1) := by decide +kernel
theorem dX10_storm_143 : decode cX10_storm 143 = .ok (.getfield 120, 3) := by decide +kernel
theorem dX10_storm_146 : decode cX10_storm 146 = .ok (.aload_n 0, 1) := by decide +kernel
theorem dX10_storm_147 : decode cX10_storm 147 = .ok (.invokevirtual 338, 3) := by decide +kernel
theorem dX10_storm_150 : decode cX10_storm 150 = .ok (.aload_n 0, 1) := by decide +kernel
theorem dX10_storm_151 : decode cX10_storm 151 = .ok (.getfield 47, 3) := by decide +kernel
theorem dX10_storm_154 : decode cX10_storm 154 = .ok (.invokespecial 341, 3) := by decide +kernel
theorem dX10_storm_157 : decode cX10_storm 157 = .ok (.astore_n 1, 1) := by decide +kernel
theorem dX10_storm_158 : decode cX10_storm 158 = .ok (.aload_n 0, 1) := by decide +kernel
theorem dX10_storm_159 : decode cX10_storm 159 = .ok (.getfield 69, 3) := by decide +kernel
theorem dX10_storm_162 : decode cX10_storm 162 = .ok (.iconst 0, 1) := by decide +kernel
theorem dX10_storm_163 : decode cX10_storm 163 = .ok (.dup2, 1) := by decide +kernel
theorem dX10_storm_164 : decode cX10_storm 164 = .ok (.laload, 1) := by decide +kernel
theorem dX10_storm_165 : decode cX10_storm 165 = .ok (.aload_n 1, 1) := by decide +kernel
theorem dX10_storm_166 : decode cX10_storm 166 = .ok (.getfield 344, 3) := by decide +kernel
theorem dX10_storm_169 : decode cX10_storm 169 = .ok (.i2l, 1) := by decide +kernel
theorem dX10_storm_170 : decode cX10_storm 170 = .ok (.ladd, 1) := by decide +kernel
theorem dX10_storm_171 : decode cX10_storm 171 = .ok (.lastore, 1) := by decide +kernel
theorem dX10_storm_172 : decode cX10_storm 172 = .ok (.aload_n 0, 1) := by decide +kernel
theorem dX10_storm_173 : decode cX10_storm 173 = .ok (.getfield 69, 3) := by decide +kernel
theorem dX10_storm_176 : decode cX10_storm 176 = .ok (.iconst 2, 1) := by decide +kernel
theorem dX10_storm_177 : decode cX10_storm 177 = .ok (.dup2, 1) := by decide +kernel
theorem dX10_storm_178 : decode cX10_storm 178 = .ok (.laload, 1) := by decide +kernel
theorem dX10_storm_179 : decode cX10_storm 179 = .ok (.aload_n 1, 1) := by decide +kernel
theorem dX10_storm_180 : decode cX10_storm 180 = .ok (.getfield 347, 3) := by decide +kernel
theorem dX10_storm_183 : decode cX10_storm 183 = .ok (.i2l, 1) := by decide +kernel
theorem dX10_storm_184 : decode cX10_storm 184 = .ok (.ladd, 1) := by decide +kernel
theorem dX10_storm_185 : decode cX10_storm 185 = .ok (.lastore, 1) := by decide +kernel
theorem dX10_storm_186 : decode cX10_storm 186 = .ok (.aload_n 0, 1) := by decide +kernel
theorem dX10_storm_187 : decode cX10_storm 187 = .ok (.getfield 69, 3) := by decide +kernel
theorem dX10_storm_190 : decode cX10_storm 190 = .ok (.iconst 3, 1) := by decide +kernel
theorem dX10_storm_191 : decode cX10_storm 191 = .ok (.dup2, 1) := by decide +kernel
theorem dX10_storm_192 : decode cX10_storm 192 = .ok (.laload, 1) := by decide +kernel
theorem dX10_storm_193 : decode cX10_storm 193 = .ok (.aload_n 0, 1) := by decide +kernel
theorem dX10_storm_194 : decode cX10_storm 194 = .ok (.getfield 47, 3) := by decide +kernel
theorem dX10_storm_197 : decode cX10_storm 197 = .ok (.getfield 348, 3) := by decide +kernel
theorem dX10_storm_200 : decode cX10_storm 200 = .ok (.i2l, 1) := by decide +kernel
theorem dX10_storm_201 : decode cX10_storm 201 = .ok (.ladd, 1) := by decide +kernel
theorem dX10_storm_202 : decode cX10_storm 202 = .ok (.lastore, 1) := by decide +kernel
theorem dX10_storm_203 : decode cX10_storm 203 = .ok (.aload_n 0, 1) := by decide +kernel
theorem dX10_storm_204 : decode cX10_storm 204 = .ok (.getfield 19, 3) := by decide +kernel
theorem dX10_storm_207 : decode cX10_storm 207 = .ok (.aload_n 1, 1) := by decide +kernel
theorem dX10_storm_208 : decode cX10_storm 208 = .ok (.invokevirtual 96, 3) := by decide +kernel
theorem dX10_storm_211 : decode cX10_storm 211 = .ok (.pop, 1) := by decide +kernel
theorem dX10_storm_212 : decode cX10_storm 212 = .ok (.aload_n 0, 1) := by decide +kernel
theorem dX10_storm_213 : decode cX10_storm 213 = .ok (.getfield 19, 3) := by decide +kernel
theorem dX10_storm_216 : decode cX10_storm 216 = .ok (.invokevirtual 87, 3) := by decide +kernel
theorem dX10_storm_219 : decode cX10_storm 219 = .ok (.iconst 1, 1) := by decide +kernel
theorem dX10_storm_220 : decode cX10_storm 220 = .ok (.isub, 1) := by decide +kernel
theorem dX10_storm_221 : decode cX10_storm 221 = .ok (.ireturn, 1) := by decide +kernel
theorem dX10_prepareFlow_0 : decode cX10_prepareFlow 0 = .ok (.aload_n 0, 1) := by decide +kernel
theorem dX10_prepareFlow_1 : decode cX10_prepareFlow 1 = .ok (.getfield 47, 3) := by decide +kernel
theorem dX10_prepareFlow_4 : decode cX10_prepareFlow 4 = .ok (.aload_n 0, 1) := by decide +kernel
theorem dX10_prepareFlow_5 : decode cX10_prepareFlow 5 = .ok (.getfield 10, 3) := by decide +kernel
theorem dX10_prepareFlow_8 : decode cX10_prepareFlow 8 = .ok (.aload_n 0, 1) := by decide +kernel
theorem dX10_prepareFlow_9 : decode cX10_prepareFlow 9 = .ok (.getfield 51, 3) := by decide +kernel
theorem dX10_prepareFlow_12 : decode cX10_prepareFlow 12 = .ok (.invokevirtual 351, 3) := by decide +kernel
theorem dX10_prepareFlow_15 : decode cX10_prepareFlow 15 = .ok (.aload_n 0, 1) := by decide +kernel
theorem dX10_prepareFlow_16 : decode cX10_prepareFlow 16 = .ok (.getfield 47, 3) := by decide +kernel
theorem dX10_prepareFlow_19 : decode cX10_prepareFlow 19 = .ok (.aload_n 0, 1) := by decide +kernel
theorem dX10_prepareFlow_20 : decode cX10_prepareFlow 20 = .ok (.getfield 16, 3) := by decide +kernel
theorem dX10_prepareFlow_23 : decode cX10_prepareFlow 23 = .ok (.aload_n 0, 1) := by decide +kernel
theorem dX10_prepareFlow_24 : decode cX10_prepareFlow 24 = .ok (.getfield 55, 3) := by decide +kernel
theorem dX10_prepareFlow_27 : decode cX10_prepareFlow 27 = .ok (.aload_n 0, 1) := by decide +kernel
theorem dX10_prepareFlow_28 : decode cX10_prepareFlow 28 = .ok (.getfield 315, 3) := by decide +kernel
theorem dX10_prepareFlow_31 : decode cX10_prepareFlow 31 = .ok (.invokevirtual 355, 3) := by decide +kernel
theorem dX10_prepareFlow_34 : decode cX10_prepareFlow 34 = .ok (.return_, 1) := by decide +kernel
theorem dX10_whatRains_0 : decode cX10_whatRains 0 = .ok (.iconst 0, 1) := by decide +kernel
theorem dX10_whatRains_1 : decode cX10_whatRains 1 = .ok (.istore_n 1, 1) := by decide +kernel
theorem dX10_whatRains_2 : decode cX10_whatRains 2 = .ok (.iconst 0, 1) := by decide +kernel
theorem dX10_whatRains_3 : decode cX10_whatRains 3 = .ok (.istore_n 2, 1) := by decide +kernel
theorem dX10_whatRains_4 : decode cX10_whatRains 4 = .ok (.iload_n 2, 1) := by decide +kernel
theorem dX10_whatRains_5 : decode cX10_whatRains 5 = .ok (.aload_n 0, 1) := by decide +kernel
theorem dX10_whatRains_6 : decode cX10_whatRains 6 = .ok (.getfield 10, 3) := by decide +kernel
theorem dX10_whatRains_9 : decode cX10_whatRains 9 = .ok (.invokevirtual 87, 3) := by decide +kernel
theorem dX10_whatRains_12 : decode cX10_whatRains 12 = .ok (.if_icmp .ge 26, 3) := by decide +kernel
theorem dX10_whatRains_15 : decode cX10_whatRains 15 = .ok (.iload_n 1, 1) := by decide +kernel
theorem dX10_whatRains_16 : decode cX10_whatRains 16 = .ok (.aload_n 0, 1) := by decide +kernel
theorem dX10_whatRains_17 : decode cX10_whatRains 17 = .ok (.getfield 10, 3) := by decide +kernel
theorem dX10_whatRains_20 : decode cX10_whatRains 20 = .ok (.iload_n 2, 1) := by decide +kernel
theorem dX10_whatRains_21 : decode cX10_whatRains 21 = .ok (.invokevirtual 232, 3) := by decide +kernel
theorem dX10_whatRains_24 : decode cX10_whatRains 24 = .ok (.checkcast 91, 3) := by decide +kernel
theorem dX10_whatRains_27 : decode cX10_whatRains 27 = .ok (.getfield 168, 3) := by decide +kernel
theorem dX10_whatRains_30 : decode cX10_whatRains 30 = .ok (.iadd, 1) := by decide +kernel
theorem dX10_whatRains_31 : decode cX10_whatRains 31 = .ok (.istore_n 1, 1) := by decide +kernel
theorem dX10_whatRains_32 : decode cX10_whatRains 32 = .ok (.iinc 2 1, 3) := by decide +kernel
theorem dX10_whatRains_35 : decode cX10_whatRains 35 = .ok (.goto (-31), 3) := by decide +kernel
theorem dX10_whatRains_38 : decode cX10_whatRains 38 = .ok (.iconst 0, 1) := by decide +kernel
theorem dX10_whatRains_39 : decode cX10_whatRains 39 = .ok (.istore_n 2, 1) := by decide +kernel
theorem dX10_whatRains_40 : decode cX10_whatRains 40 = .ok (.iload_n 2, 1) := by decide +kernel
theorem dX10_whatRains_41 : decode cX10_whatRains 41 = .ok (.aload_n 0, 1) := by decide +kernel
theorem dX10_whatRains_42 : decode cX10_whatRains 42 = .ok (.getfield 16, 3) := by decide +kernel
theorem dX10_whatRains_45 : decode cX10_whatRains 45 = .ok (.invokevirtual 87, 3) := by decide +kernel
theorem dX10_whatRains_48 : decode cX10_whatRains 48 = .ok (.if_icmp .ge 26, 3) := by decide +kernel
theorem dX10_whatRains_51 : decode cX10_whatRains 51 = .ok (.iload_n 1, 1) := by decide +kernel
theorem dX10_whatRains_52 : decode cX10_whatRains 52 = .ok (.aload_n 0, 1) := by decide +kernel
theorem dX10_whatRains_53 : decode cX10_whatRains 53 = .ok (.getfield 16, 3) := by decide +kernel
theorem dX10_whatRains_56 : decode cX10_whatRains 56 = .ok (.iload_n 2, 1) := by decide +kernel
theorem dX10_whatRains_57 : decode cX10_whatRains 57 = .ok (.invokevirtual 232, 3) := by decide +kernel
theorem dX10_whatRains_60 : decode cX10_whatRains 60 = .ok (.checkcast 107, 3) := by decide +kernel
theorem dX10_whatRains_63 : decode cX10_whatRains 63 = .ok (.getfield 227, 3) := by decide +kernel
theorem dX10_whatRains_66 : decode cX10_whatRains 66 = .ok (.iadd, 1) := by decide +kernel
theorem dX10_whatRains_67 : decode cX10_whatRains 67 = .ok (.istore_n 1, 1) := by decide +kernel
theorem dX10_whatRains_68 : decode cX10_whatRains 68 = .ok (.iinc 2 1, 3) := by decide +kernel
theorem dX10_whatRains_71 : decode cX10_whatRains 71 = .ok (.goto (-31), 3) := by decide +kernel
theorem dX10_whatRains_74 : decode cX10_whatRains 74 = .ok (.iconst 0, 1) := by decide +kernel
theorem dX10_whatRains_75 : decode cX10_whatRains 75 = .ok (.istore_n 2, 1) := by decide +kernel
theorem dX10_whatRains_76 : decode cX10_whatRains 76 = .ok (.iconst 0, 1) := by decide +kernel
theorem dX10_whatRains_77 : decode cX10_whatRains 77 = .ok (.istore_n 3, 1) := by decide +kernel
theorem dX10_whatRains_78 : decode cX10_whatRains 78 = .ok (.iload_n 3, 1) := by decide +kernel
theorem dX10_whatRains_79 : decode cX10_whatRains 79 = .ok (.aload_n 0, 1) := by decide +kernel
theorem dX10_whatRains_80 : decode cX10_whatRains 80 = .ok (.getfield 315, 3) := by decide +kernel
theorem dX10_whatRains_83 : decode cX10_whatRains 83 = .ok (.if_icmp .ge 18, 3) := by decide +kernel
theorem dX10_whatRains_86 : decode cX10_whatRains 86 = .ok (.iload_n 2, 1) := by decide +kernel
theorem dX10_whatRains_87 : decode cX10_whatRains 87 = .ok (.aload_n 0, 1) := by decide +kernel
theorem dX10_whatRains_88 : decode cX10_whatRains 88 = .ok (.getfield 55, 3) := by decide +kernel
theorem dX10_whatRains_91 : decode cX10_whatRains 91 = .ok (.iload_n 3, 1) := by decide +kernel
theorem dX10_whatRains_92 : decode cX10_whatRains 92 = .ok (.iaload, 1) := by decide +kernel
theorem dX10_whatRains_93 : decode cX10_whatRains 93 = .ok (.iadd, 1) := by decide +kernel
theorem dX10_whatRains_94 : decode cX10_whatRains 94 = .ok (.istore_n 2, 1) := by decide +kernel
theorem dX10_whatRains_95 : decode cX10_whatRains 95 = .ok (.iinc 3 1, 3) := by decide +kernel
theorem dX10_whatRains_98 : decode cX10_whatRains 98 = .ok (.goto (-20), 3) := by decide +kernel
theorem dX10_whatRains_101 : decode cX10_whatRains 101 = .ok (.iload_n 2, 1) := by decide +kernel
theorem dX10_whatRains_102 : decode cX10_whatRains 102 = .ok (.iload_n 1, 1) := by decide +kernel
theorem dX10_whatRains_103 : decode cX10_whatRains 103 = .ok (.imul, 1) := by decide +kernel
theorem dX10_whatRains_104 : decode cX10_whatRains 104 = .ok (.ireturn, 1) := by decide +kernel
theorem dX10_tried_0 : decode cX10_tried 0 = .ok (.iload_n 2, 1) := by decide +kernel
theorem dX10_tried_1 : decode cX10_tried 1 = .ok (.iconst 0, 1) := by decide +kernel
theorem dX10_tried_2 : decode cX10_tried 2 = .ok (.iconst 1, 1) := by decide +kernel
theorem dX10_tried_3 : decode cX10_tried 3 = .ok (.invokestatic 83, 3) := by decide +kernel
theorem dX10_tried_6 : decode cX10_tried 6 = .ok (.ifCond .eq 11, 3) := by decide +kernel
theorem dX10_tried_9 : decode cX10_tried 9 = .ok (.aload_n 0, 1) := by decide +kernel
theorem dX10_tried_10 : decode cX10_tried 10 = .ok (.iload_n 1, 1) := by decide +kernel
theorem dX10_tried_11 : decode cX10_tried 11 = .ok (.invokevirtual 359, 3) := by decide +kernel
theorem dX10_tried_14 : decode cX10_tried 14 = .ok (.ifCond .ne 7, 3) := by decide +kernel
theorem dX10_tried_17 : decode cX10_tried 17 = .ok (.ldc2_w 362, 3) := by decide +kernel
theorem dX10_tried_20 : decode cX10_tried 20 = .ok (.lreturn, 1) := by decide +kernel
theorem dX10_tried_21 : decode cX10_tried 21 = .ok (.aload_n 0, 1) := by decide +kernel
theorem dX10_tried_22 : decode cX10_tried 22 = .ok (.invokevirtual 318, 3) := by decide +kernel
theorem dX10_tried_25 : decode cX10_tried 25 = .ok (.aload_n 0, 1) := by decide +kernel
theorem dX10_tried_26 : decode cX10_tried 26 = .ok (.getfield 47, 3) := by decide +kernel
theorem dX10_tried_29 : decode cX10_tried 29 = .ok (.iload_n 1, 1) := by decide +kernel
theorem dX10_tried_30 : decode cX10_tried 30 = .ok (.invokevirtual 321, 3) := by decide +kernel
theorem dX10_tried_33 : decode cX10_tried 33 = .ok (.iload_n 2, 1) := by decide +kernel
theorem dX10_tried_34 : decode cX10_tried 34 = .ok (.ifCond .ne 14, 3) := by decide +kernel
theorem dX10_tried_37 : decode cX10_tried 37 = .ok (.aload_n 0, 1) := by decide +kernel
theorem dX10_tried_38 : decode cX10_tried 38 = .ok (.getfield 47, 3) := by decide +kernel
theorem dX10_tried_41 : decode cX10_tried 41 = .ok (.invokevirtual 364, 3) := by decide +kernel
theorem dX10_tried_44 : decode cX10_tried 44 = .ok (.i2l, 1) := by decide +kernel
theorem dX10_tried_45 : decode cX10_tried 45 = .ok (.goto 11, 3) := by decide +kernel
theorem dX10_tried_48 : decode cX10_tried 48 = .ok (.aload_n 0, 1) := by decide +kernel
theorem dX10_tried_49 : decode cX10_tried 49 = .ok (.getfield 47, 3) := by decide +kernel
theorem dX10_tried_52 : decode cX10_tried 52 = .ok (.invokevirtual 366, 3) := by decide +kernel
theorem dX10_tried_55 : decode cX10_tried 55 = .ok (.i2l, 1) := by decide +kernel
theorem dX10_tried_56 : decode cX10_tried 56 = .ok (.lreturn, 1) := by decide +kernel
theorem dX10_best_0 : decode cX10_best 0 = .ok (.iload_n 1, 1) := by decide +kernel
theorem dX10_best_1 : decode cX10_best 1 = .ok (.iconst 0, 1) := by decide +kernel
theorem dX10_best_2 : decode cX10_best 2 = .ok (.iconst 4, 1) := by decide +kernel
theorem dX10_best_3 : decode cX10_best 3 = .ok (.invokestatic 83, 3) := by decide +kernel
theorem dX10_best_6 : decode cX10_best 6 = .ok (.ifCond .eq 39, 3) := by decide +kernel
theorem dX10_best_9 : decode cX10_best 9 = .ok (.iload_n 2, 1) := by decide +kernel
theorem dX10_best_10 : decode cX10_best 10 = .ok (.iconst 0, 1) := by decide +kernel
theorem dX10_best_11 : decode cX10_best 11 = .ok (.ldc_w 368, 3) := by decide +kernel
theorem dX10_best_14 : decode cX10_best 14 = .ok (.invokestatic 83, 3) := by decide +kernel
theorem dX10_best_17 : decode cX10_best 17 = .ok (.ifCond .eq 28, 3) := by decide +kernel
theorem dX10_best_20 : decode cX10_best 20 = .ok (.iload_n 3, 1) := by decide +kernel
theorem dX10_best_21 : decode cX10_best 21 = .ok (.iconst 0, 1) := by decide +kernel
theorem dX10_best_22 : decode cX10_best 22 = .ok (.sipush 10000, 3) := by decide +kernel
theorem dX10_best_25 : decode cX10_best 25 = .ok (.invokestatic 83, 3) := by decide +kernel
theorem dX10_best_28 : decode cX10_best 28 = .ok (.ifCond .eq 17, 3) := by decide +kernel
theorem dX10_best_31 : decode cX10_best 31 = .ok (.iload 4, 2) := by decide +kernel
theorem dX10_best_33 : decode cX10_best 33 = .ok (.iconst 0, 1) := by decide +kernel
theorem dX10_best_34 : decode cX10_best 34 = .ok (.iconst 4, 1) := by decide +kernel
theorem dX10_best_35 : decode cX10_best 35 = .ok (.invokestatic 83, 3) := by decide +kernel
theorem dX10_best_38 : decode cX10_best 38 = .ok (.ifCond .eq 7, 3) := by decide +kernel
theorem dX10_best_41 : decode cX10_best 41 = .ok (.iconst 1, 1) := by decide +kernel
theorem dX10_best_42 : decode cX10_best 42 = .ok (.goto 4, 3) := by decide +kernel
theorem dX10_best_45 : decode cX10_best 45 = .ok (.iconst 0, 1) := by decide +kernel
theorem dX10_best_46 : decode cX10_best 46 = .ok (.istore 5, 2) := by decide +kernel
theorem dX10_best_48 : decode cX10_best 48 = .ok (.iload 5, 2) := by decide +kernel
theorem dX10_best_50 : decode cX10_best 50 = .ok (.ifCond .ne 7, 3) := by decide +kernel
theorem dX10_best_53 : decode cX10_best 53 = .ok (.ldc2_w 362, 3) := by decide +kernel
theorem dX10_best_56 : decode cX10_best 56 = .ok (.lreturn, 1) := by decide +kernel
theorem dX10_best_57 : decode cX10_best 57 = .ok (.aload_n 0, 1) := by decide +kernel
theorem dX10_best_58 : decode cX10_best 58 = .ok (.iload_n 1, 1) := by decide +kernel
theorem dX10_best_59 : decode cX10_best 59 = .ok (.iload_n 2, 1) := by decide +kernel
theorem dX10_best_60 : decode cX10_best 60 = .ok (.iload_n 3, 1) := by decide +kernel
theorem dX10_best_61 : decode cX10_best 61 = .ok (.invokevirtual 369, 3) := by decide +kernel
theorem dX10_best_64 : decode cX10_best 64 = .ok (.istore 6, 2) := by decide +kernel
theorem dX10_best_66 : decode cX10_best 66 = .ok (.iload 6, 2) := by decide +kernel
theorem dX10_best_68 : decode cX10_best 68 = .ok (.iconst (-1), 1) := by decide +kernel
theorem dX10_best_69 : decode cX10_best 69 = .ok (.if_icmp .ne 7, 3) := by decide +kernel
theorem dX10_best_72 : decode cX10_best 72 = .ok (.ldc2_w 362, 3) := by decide +kernel
theorem dX10_best_75 : decode cX10_best 75 = .ok (.lreturn, 1) := by decide +kernel
theorem dX10_best_76 : decode cX10_best 76 = .ok (.aload_n 0, 1) := by decide +kernel
theorem dX10_best_77 : decode cX10_best 77 = .ok (.getfield 47, 3) := by decide +kernel
theorem dX10_best_80 : decode cX10_best 80 = .ok (.iload 6, 2) := by decide +kernel
theorem dX10_best_82 : decode cX10_best 82 = .ok (.invokevirtual 321, 3) := by decide +kernel
theorem dX10_best_85 : decode cX10_best 85 = .ok (.iload 4, 2) := by decide +kernel
theorem dX10_best_87 : decode cX10_best 87 = .ok (.tableswitch 59 0 3 #[29, 38, 42, 50], 29) := by decide +kernel
theorem dX10_best_116 : decode cX10_best 116 = .ok (.aload_n 0, 1) := by decide +kernel
theorem dX10_best_117 : decode cX10_best 117 = .ok (.getfield 47, 3) := by decide +kernel
theorem dX10_best_120 : decode cX10_best 120 = .ok (.iload_n 3, 1) := by decide +kernel
theorem dX10_best_121 : decode cX10_best 121 = .ok (.invokevirtual 373, 3) := by decide +kernel
theorem dX10_best_124 : decode cX10_best 124 = .ok (.lreturn, 1) := by decide +kernel
theorem dX10_best_125 : decode cX10_best 125 = .ok (.iload 6, 2) := by decide +kernel
theorem dX10_best_127 : decode cX10_best 127 = .ok (.i2l, 1) := by decide +kernel
theorem dX10_best_128 : decode cX10_best 128 = .ok (.lreturn, 1) := by decide +kernel
theorem dX10_best_129 : decode cX10_best 129 = .ok (.aload_n 0, 1) := by decide +kernel
theorem dX10_best_130 : decode cX10_best 130 = .ok (.iload 6, 2) := by decide +kernel
theorem dX10_best_132 : decode cX10_best 132 = .ok (.invokevirtual 377, 3) := by decide +kernel
theorem dX10_best_135 : decode cX10_best 135 = .ok (.i2l, 1) := by decide +kernel
theorem dX10_best_136 : decode cX10_best 136 = .ok (.lreturn, 1) := by decide +kernel
theorem dX10_best_137 : decode cX10_best 137 = .ok (.aload_n 0, 1) := by decide +kernel
theorem dX10_best_138 : decode cX10_best 138 = .ok (.getfield 47, 3) := by decide +kernel
theorem dX10_best_141 : decode cX10_best 141 = .ok (.invokevirtual 364, 3) := by decide +kernel
theorem dX10_best_144 : decode cX10_best 144 = .ok (.i2l, 1) := by decide +kernel
theorem dX10_best_145 : decode cX10_best 145 = .ok (.lreturn, 1) := by decide +kernel
theorem dX10_best_146 : decode cX10_best 146 = .ok (.aload_n 0, 1) := by decide +kernel
theorem dX10_best_147 : decode cX10_best 147 = .ok (.getfield 47, 3) := by decide +kernel
theorem dX10_best_150 : decode cX10_best 150 = .ok (.invokevirtual 366, 3) := by decide +kernel
theorem dX10_best_153 : decode cX10_best 153 = .ok (.i2l, 1) := by decide +kernel
theorem dX10_best_154 : decode cX10_best 154 = .ok (.lreturn, 1) := by decide +kernel
theorem dX10_bestSet_0 : decode cX10_bestSet 0 = .ok (.aload_n 0, 1) := by decide +kernel
theorem dX10_bestSet_1 : decode cX10_bestSet 1 = .ok (.invokevirtual 318, 3) := by decide +kernel
theorem dX10_bestSet_4 : decode cX10_bestSet 4 = .ok (.aload_n 0, 1) := by decide +kernel
theorem dX10_bestSet_5 : decode cX10_bestSet 5 = .ok (.aload_n 0, 1) := by decide +kernel
theorem dX10_bestSet_6 : decode cX10_bestSet 6 = .ok (.getfield 120, 3) := by decide +kernel
theorem dX10_bestSet_9 : decode cX10_bestSet 9 = .ok (.invokevirtual 123, 3) := by decide +kernel
theorem dX10_bestSet_12 : decode cX10_bestSet 12 = .ok (.iconst 4, 1) := by decide +kernel
theorem dX10_bestSet_13 : decode cX10_bestSet 13 = .ok (.invokevirtual 127, 3) := by decide +kernel
theorem dX10_bestSet_16 : decode cX10_bestSet 16 = .ok (.istore 4, 2) := by decide +kernel
theorem dX10_bestSet_18 : decode cX10_bestSet 18 = .ok (.iconst (-1), 1) := by decide +kernel
theorem dX10_bestSet_19 : decode cX10_bestSet 19 = .ok (.istore 5, 2) := by decide +kernel
theorem dX10_bestSet_21 : decode cX10_bestSet 21 = .ok (.lconst 0, 1) := by decide +kernel
theorem dX10_bestSet_22 : decode cX10_bestSet 22 = .ok (.lstore 6, 2) := by decide +kernel
theorem dX10_bestSet_24 : decode cX10_bestSet 24 = .ok (.iconst 0, 1) := by decide +kernel
theorem dX10_bestSet_25 : decode cX10_bestSet 25 = .ok (.istore 8, 2) := by decide +kernel
theorem dX10_bestSet_27 : decode cX10_bestSet 27 = .ok (.iload 8, 2) := by decide +kernel
theorem dX10_bestSet_29 : decode cX10_bestSet 29 = .ok (.iconst 1, 1) := by decide +kernel
theorem dX10_bestSet_30 : decode cX10_bestSet 30 = .ok (.aload_n 0, 1) := by decide +kernel
theorem dX10_bestSet_31 : decode cX10_bestSet 31 = .ok (.getfield 10, 3) := by decide +kernel
theorem dX10_bestSet_34 : decode cX10_bestSet 34 = .ok (.invokevirtual 87, 3) := by decide +kernel
theorem dX10_bestSet_37 : decode cX10_bestSet 37 = .ok (.ishl, 1) := by decide +kernel
theorem dX10_bestSet_38 : decode cX10_bestSet 38 = .ok (.if_icmp .ge 125, 3) := by decide +kernel
theorem dX10_bestSet_41 : decode cX10_bestSet 41 = .ok (.iload 8, 2) := by decide +kernel
theorem dX10_bestSet_43 : decode cX10_bestSet 43 = .ok (.invokestatic 310, 3) := by decide +kernel
theorem dX10_bestSet_46 : decode cX10_bestSet 46 = .ok (.iload_n 1, 1) := by decide +kernel
theorem dX10_bestSet_47 : decode cX10_bestSet 47 = .ok (.if_icmp .gt 110, 3) := by decide +kernel
theorem dX10_bestSet_50 : decode cX10_bestSet 50 = .ok (.aload_n 0, 1) := by decide +kernel
theorem dX10_bestSet_51 : decode cX10_bestSet 51 = .ok (.iload 8, 2) := by decide +kernel
theorem dX10_bestSet_53 : decode cX10_bestSet 53 = .ok (.invokevirtual 377, 3) := by decide +kernel
theorem dX10_bestSet_56 : decode cX10_bestSet 56 = .ok (.iload_n 2, 1) := by decide +kernel
theorem dX10_bestSet_57 : decode cX10_bestSet 57 = .ok (.if_icmp .gt 100, 3) := by decide +kernel
theorem dX10_bestSet_60 : decode cX10_bestSet 60 = .ok (.aload_n 0, 1) := by decide +kernel
theorem dX10_bestSet_61 : decode cX10_bestSet 61 = .ok (.iload 8, 2) := by decide +kernel
theorem dX10_bestSet_63 : decode cX10_bestSet 63 = .ok (.invokevirtual 359, 3) := by decide +kernel
theorem dX10_bestSet_66 : decode cX10_bestSet 66 = .ok (.ifCond .eq 91, 3) := by decide +kernel
theorem dX10_bestSet_69 : decode cX10_bestSet 69 = .ok (.aload_n 0, 1) := by decide +kernel
theorem dX10_bestSet_70 : decode cX10_bestSet 70 = .ok (.iload 8, 2) := by decide +kernel
theorem dX10_bestSet_72 : decode cX10_bestSet 72 = .ok (.invokevirtual 236, 3) := by decide +kernel
theorem dX10_bestSet_75 : decode cX10_bestSet 75 = .ok (.iload 4, 2) := by decide +kernel
theorem dX10_bestSet_77 : decode cX10_bestSet 77 = .ok (.if_icmp .le 6, 3) := by decide +kernel
theorem dX10_bestSet_80 : decode cX10_bestSet 80 = .ok (.goto 77, 3) := by decide +kernel
theorem dX10_bestSet_83 : decode cX10_bestSet 83 = .ok (.aload_n 0, 1) := by decide +kernel
theorem dX10_bestSet_84 : decode cX10_bestSet 84 = .ok (.getfield 47, 3) := by decide +kernel
theorem dX10_bestSet_87 : decode cX10_bestSet 87 = .ok (.iload 8, 2) := by decide +kernel
theorem dX10_bestSet_89 : decode cX10_bestSet 89 = .ok (.invokevirtual 321, 3) := by decide +kernel
theorem dX10_bestSet_92 : decode cX10_bestSet 92 = .ok (.aload_n 0, 1) := by decide +kernel
theorem dX10_bestSet_93 : decode cX10_bestSet 93 = .ok (.getfield 47, 3) := by decide +kernel
theorem dX10_bestSet_96 : decode cX10_bestSet 96 = .ok (.iload_n 3, 1) := by decide +kernel
theorem dX10_bestSet_97 : decode cX10_bestSet 97 = .ok (.invokevirtual 373, 3) := by decide +kernel
theorem dX10_bestSet_100 : decode cX10_bestSet 100 = .ok (.lstore 9, 2) := by decide +kernel
theorem dX10_bestSet_102 : decode cX10_bestSet 102 = .ok (.iload 8, 2) := by decide +kernel
theorem dX10_bestSet_104 : decode cX10_bestSet 104 = .ok (.invokestatic 310, 3) := by decide +kernel
theorem dX10_bestSet_107 : decode cX10_bestSet 107 = .ok (.iload 5, 2) := by decide +kernel
theorem dX10_bestSet_109 : decode cX10_bestSet 109 = .ok (.invokestatic 310, 3) := by decide +kernel
theorem dX10_bestSet_112 : decode cX10_bestSet 112 = .ok (.if_icmp .ge 7, 3) := by decide +kernel
theorem dX10_bestSet_115 : decode cX10_bestSet 115 = .ok (.iconst 1, 1) := by decide +kernel
theorem dX10_bestSet_116 : decode cX10_bestSet 116 = .ok (.goto 4, 3) := by decide +kernel
theorem dX10_bestSet_119 : decode cX10_bestSet 119 = .ok (.iconst 0, 1) := by decide +kernel
theorem dX10_bestSet_120 : decode cX10_bestSet 120 = .ok (.istore 11, 2) := by decide +kernel
theorem dX10_bestSet_122 : decode cX10_bestSet 122 = .ok (.iload 5, 2) := by decide +kernel
theorem dX10_bestSet_124 : decode cX10_bestSet 124 = .ok (.iconst (-1), 1) := by decide +kernel
theorem dX10_bestSet_125 : decode cX10_bestSet 125 = .ok (.if_icmp .eq 24, 3) := by decide +kernel
theorem dX10_bestSet_128 : decode cX10_bestSet 128 = .ok (.lload 9, 2) := by decide +kernel
theorem dX10_bestSet_130 : decode cX10_bestSet 130 = .ok (.lload 6, 2) := by decide +kernel
theorem dX10_bestSet_132 : decode cX10_bestSet 132 = .ok (.lcmp, 1) := by decide +kernel
theorem dX10_bestSet_133 : decode cX10_bestSet 133 = .ok (.ifCond .lt 16, 3) := by decide +kernel
theorem dX10_bestSet_136 : decode cX10_bestSet 136 = .ok (.lload 9, 2) := by decide +kernel
theorem dX10_bestSet_138 : decode cX10_bestSet 138 = .ok (.lload 6, 2) := by decide +kernel
theorem dX10_bestSet_140 : decode cX10_bestSet 140 = .ok (.lcmp, 1) := by decide +kernel
theorem dX10_bestSet_141 : decode cX10_bestSet 141 = .ok (.ifCond .ne 16, 3) := by decide +kernel
theorem dX10_bestSet_144 : decode cX10_bestSet 144 = .ok (.iload 11, 2) := by decide +kernel
theorem dX10_bestSet_146 : decode cX10_bestSet 146 = .ok (.ifCond .eq 11, 3) := by decide +kernel
theorem dX10_bestSet_149 : decode cX10_bestSet 149 = .ok (.iload 8, 2) := by decide +kernel
theorem dX10_bestSet_151 : decode cX10_bestSet 151 = .ok (.istore 5, 2) := by decide +kernel
theorem dX10_bestSet_153 : decode cX10_bestSet 153 = .ok (.lload 9, 2) := by decide +kernel
theorem dX10_bestSet_155 : decode cX10_bestSet 155 = .ok (.lstore 6, 2) := by decide +kernel
theorem dX10_bestSet_157 : decode cX10_bestSet 157 = .ok (.iinc 8 1, 3) := by decide +kernel
theorem dX10_bestSet_160 : decode cX10_bestSet 160 = .ok (.goto (-133), 3) := by decide +kernel
theorem dX10_bestSet_163 : decode cX10_bestSet 163 = .ok (.iload 5, 2) := by decide +kernel
theorem dX10_bestSet_165 : decode cX10_bestSet 165 = .ok (.ireturn, 1) := by decide +kernel
theorem dX10_costOf_0 : decode cX10_costOf 0 = .ok (.aload_n 0, 1) := by decide +kernel
theorem dX10_costOf_1 : decode cX10_costOf 1 = .ok (.aload_n 0, 1) := by decide +kernel
theorem dX10_costOf_2 : decode cX10_costOf 2 = .ok (.getfield 120, 3) := by decide +kernel
theorem dX10_costOf_5 : decode cX10_costOf 5 = .ok (.invokevirtual 123, 3) := by decide +kernel
theorem dX10_costOf_8 : decode cX10_costOf 8 = .ok (.astore_n 2, 1) := by decide +kernel
theorem dX10_costOf_9 : decode cX10_costOf 9 = .ok (.iload_n 1, 1) := by decide +kernel
theorem dX10_costOf_10 : decode cX10_costOf 10 = .ok (.invokestatic 310, 3) := by decide +kernel
theorem dX10_costOf_13 : decode cX10_costOf 13 = .ok (.aload_n 2, 1) := by decide +kernel
theorem dX10_costOf_14 : decode cX10_costOf 14 = .ok (.bipush 10, 2) := by decide +kernel
theorem dX10_costOf_16 : decode cX10_costOf 16 = .ok (.invokevirtual 127, 3) := by decide +kernel
theorem dX10_costOf_19 : decode cX10_costOf 19 = .ok (.aload_n 2, 1) := by decide +kernel
theorem dX10_costOf_20 : decode cX10_costOf 20 = .ok (.bipush 11, 2) := by decide +kernel
theorem dX10_costOf_22 : decode cX10_costOf 22 = .ok (.invokevirtual 127, 3) := by decide +kernel
theorem dX10_costOf_25 : decode cX10_costOf 25 = .ok (.bipush 100, 2) := by decide +kernel
theorem dX10_costOf_27 : decode cX10_costOf 27 = .ok (.imul, 1) := by decide +kernel
theorem dX10_costOf_28 : decode cX10_costOf 28 = .ok (.iadd, 1) := by decide +kernel
theorem dX10_costOf_29 : decode cX10_costOf 29 = .ok (.imul, 1) := by decide +kernel
theorem dX10_costOf_30 : decode cX10_costOf 30 = .ok (.ireturn, 1) := by decide +kernel
theorem dX10_isFree_0 : decode cX10_isFree 0 = .ok (.iload_n 1, 1) := by decide +kernel
theorem dX10_isFree_1 : decode cX10_isFree 1 = .ok (.iconst 0, 1) := by decide +kernel
theorem dX10_isFree_2 : decode cX10_isFree 2 = .ok (.iconst 1, 1) := by decide +kernel
theorem dX10_isFree_3 : decode cX10_isFree 3 = .ok (.aload_n 0, 1) := by decide +kernel
theorem dX10_isFree_4 : decode cX10_isFree 4 = .ok (.getfield 10, 3) := by decide +kernel
theorem dX10_isFree_7 : decode cX10_isFree 7 = .ok (.invokevirtual 87, 3) := by decide +kernel
theorem dX10_isFree_10 : decode cX10_isFree 10 = .ok (.ishl, 1) := by decide +kernel
theorem dX10_isFree_11 : decode cX10_isFree 11 = .ok (.iconst 1, 1) := by decide +kernel
theorem dX10_isFree_12 : decode cX10_isFree 12 = .ok (.isub, 1) := by decide +kernel
theorem dX10_isFree_13 : decode cX10_isFree 13 = .ok (.invokestatic 83, 3) := by decide +kernel
theorem dX10_isFree_16 : decode cX10_isFree 16 = .ok (.ifCond .ne 5, 3) := by decide +kernel
theorem dX10_isFree_19 : decode cX10_isFree 19 = .ok (.iconst 0, 1) := by decide +kernel
theorem dX10_isFree_20 : decode cX10_isFree 20 = .ok (.ireturn, 1) := by decide +kernel
theorem dX10_isFree_21 : decode cX10_isFree 21 = .ok (.iconst 0, 1) := by decide +kernel
theorem dX10_isFree_22 : decode cX10_isFree 22 = .ok (.istore_n 2, 1) := by decide +kernel
theorem dX10_isFree_23 : decode cX10_isFree 23 = .ok (.iload_n 2, 1) := by decide +kernel
theorem dX10_isFree_24 : decode cX10_isFree 24 = .ok (.aload_n 0, 1) := by decide +kernel
theorem dX10_isFree_25 : decode cX10_isFree 25 = .ok (.getfield 10, 3) := by decide +kernel
theorem dX10_isFree_28 : decode cX10_isFree 28 = .ok (.invokevirtual 87, 3) := by decide +kernel
theorem dX10_isFree_31 : decode cX10_isFree 31 = .ok (.if_icmp .ge 36, 3) := by decide +kernel
theorem dX10_isFree_34 : decode cX10_isFree 34 = .ok (.iload_n 1, 1) := by decide +kernel
theorem dX10_isFree_35 : decode cX10_isFree 35 = .ok (.iload_n 2, 1) := by decide +kernel
theorem dX10_isFree_36 : decode cX10_isFree 36 = .ok (.invokestatic 239, 3) := by decide +kernel
theorem dX10_isFree_39 : decode cX10_isFree 39 = .ok (.ifCond .eq 22, 3) := by decide +kernel
theorem dX10_isFree_42 : decode cX10_isFree 42 = .ok (.aload_n 0, 1) := by decide +kernel
theorem dX10_isFree_43 : decode cX10_isFree 43 = .ok (.getfield 10, 3) := by decide +kernel
theorem dX10_isFree_46 : decode cX10_isFree 46 = .ok (.iload_n 2, 1) := by decide +kernel
theorem dX10_isFree_47 : decode cX10_isFree 47 = .ok (.invokevirtual 232, 3) := by decide +kernel
theorem dX10_isFree_50 : decode cX10_isFree 50 = .ok (.checkcast 91, 3) := by decide +kernel
theorem dX10_isFree_53 : decode cX10_isFree 53 = .ok (.getfield 110, 3) := by decide +kernel
theorem dX10_isFree_56 : decode cX10_isFree 56 = .ok (.ifnull 5, 3) := by decide +kernel
theorem dX10_isFree_59 : decode cX10_isFree 59 = .ok (.iconst 0, 1) := by decide +kernel
theorem dX10_isFree_60 : decode cX10_isFree 60 = .ok (.ireturn, 1) := by decide +kernel
theorem dX10_isFree_61 : decode cX10_isFree 61 = .ok (.iinc 2 1, 3) := by decide +kernel
theorem dX10_isFree_64 : decode cX10_isFree 64 = .ok (.goto (-41), 3) := by decide +kernel
theorem dX10_isFree_67 : decode cX10_isFree 67 = .ok (.iconst 1, 1) := by decide +kernel
theorem dX10_isFree_68 : decode cX10_isFree 68 = .ok (.ireturn, 1) := by decide +kernel
theorem dX10_helps_0 : decode cX10_helps 0 = .ok (.aload_n 0, 1) := by decide +kernel
theorem dX10_helps_1 : decode cX10_helps 1 = .ok (.iload_n 1, 1) := by decide +kernel
theorem dX10_helps_2 : decode cX10_helps 2 = .ok (.invokevirtual 100, 3) := by decide +kernel
theorem dX10_helps_5 : decode cX10_helps 5 = .ok (.astore_n 3, 1) := by decide +kernel
theorem dX10_helps_6 : decode cX10_helps 6 = .ok (.aload_n 3, 1) := by decide +kernel
theorem dX10_helps_7 : decode cX10_helps 7 = .ok (.ifnull 18, 3) := by decide +kernel
theorem dX10_helps_10 : decode cX10_helps 10 = .ok (.aload_n 3, 1) := by decide +kernel
theorem dX10_helps_11 : decode cX10_helps 11 = .ok (.getfield 110, 3) := by decide +kernel
theorem dX10_helps_14 : decode cX10_helps 14 = .ok (.ifnonnull 11, 3) := by decide +kernel
theorem dX10_helps_17 : decode cX10_helps 17 = .ok (.aload_n 0, 1) := by decide +kernel
theorem dX10_helps_18 : decode cX10_helps 18 = .ok (.iload_n 2, 1) := by decide +kernel
theorem dX10_helps_19 : decode cX10_helps 19 = .ok (.invokevirtual 100, 3) := by decide +kernel
theorem dX10_helps_22 : decode cX10_helps 22 = .ok (.ifnonnull 7, 3) := by decide +kernel
theorem dX10_helps_25 : decode cX10_helps 25 = .ok (.ldc2_w 362, 3) := by decide +kernel
theorem dX10_helps_28 : decode cX10_helps 28 = .ok (.lreturn, 1) := by decide +kernel
theorem dX10_helps_29 : decode cX10_helps 29 = .ok (.aload_n 0, 1) := by decide +kernel
theorem dX10_helps_30 : decode cX10_helps 30 = .ok (.invokevirtual 318, 3) := by decide +kernel
theorem dX10_helps_33 : decode cX10_helps 33 = .ok (.aload_n 0, 1) := by decide +kernel
theorem dX10_helps_34 : decode cX10_helps 34 = .ok (.getfield 47, 3) := by decide +kernel
theorem dX10_helps_37 : decode cX10_helps 37 = .ok (.iconst 0, 1) := by decide +kernel
theorem dX10_helps_38 : decode cX10_helps 38 = .ok (.invokevirtual 321, 3) := by decide +kernel
theorem dX10_helps_41 : decode cX10_helps 41 = .ok (.aload_n 0, 1) := by decide +kernel
theorem dX10_helps_42 : decode cX10_helps 42 = .ok (.getfield 47, 3) := by decide +kernel
theorem dX10_helps_45 : decode cX10_helps 45 = .ok (.iload_n 2, 1) := by decide +kernel
theorem dX10_helps_46 : decode cX10_helps 46 = .ok (.invokevirtual 380, 3) := by decide +kernel
theorem dX10_helps_49 : decode cX10_helps 49 = .ok (.istore 4, 2) := by decide +kernel
theorem dX10_helps_51 : decode cX10_helps 51 = .ok (.aload_n 0, 1) := by decide +kernel
theorem dX10_helps_52 : decode cX10_helps 52 = .ok (.getfield 47, 3) := by decide +kernel
theorem dX10_helps_55 : decode cX10_helps 55 = .ok (.iconst 1, 1) := by decide +kernel
theorem dX10_helps_56 : decode cX10_helps 56 = .ok (.iload_n 1, 1) := by decide +kernel
theorem dX10_helps_57 : decode cX10_helps 57 = .ok (.ishl, 1) := by decide +kernel
theorem dX10_helps_58 : decode cX10_helps 58 = .ok (.invokevirtual 321, 3) := by decide +kernel
theorem dX10_helps_61 : decode cX10_helps 61 = .ok (.iload 4, 2) := by decide +kernel
theorem dX10_helps_63 : decode cX10_helps 63 = .ok (.aload_n 0, 1) := by decide +kernel
theorem dX10_helps_64 : decode cX10_helps 64 = .ok (.getfield 47, 3) := by decide +kernel
theorem dX10_helps_67 : decode cX10_helps 67 = .ok (.iload_n 2, 1) := by decide +kernel
theorem dX10_helps_68 : decode cX10_helps 68 = .ok (.invokevirtual 380, 3) := by decide +kernel
theorem dX10_helps_71 : decode cX10_helps 71 = .ok (.isub, 1) := by decide +kernel
theorem dX10_helps_72 : decode cX10_helps 72 = .ok (.i2l, 1) := by decide +kernel
theorem dX10_helps_73 : decode cX10_helps 73 = .ok (.lreturn, 1) := by decide +kernel
theorem dX10_stormOf_0 : decode cX10_stormOf 0 = .ok (.iload_n 1, 1) := by decide +kernel
theorem dX10_stormOf_1 : decode cX10_stormOf 1 = .ok (.iconst 0, 1) := by decide +kernel
theorem dX10_stormOf_2 : decode cX10_stormOf 2 = .ok (.aload_n 0, 1) := by decide +kernel
theorem dX10_stormOf_3 : decode cX10_stormOf 3 = .ok (.getfield 19, 3) := by decide +kernel
theorem dX10_stormOf_6 : decode cX10_stormOf 6 = .ok (.invokevirtual 87, 3) := by decide +kernel
theorem dX10_stormOf_9 : decode cX10_stormOf 9 = .ok (.iconst 1, 1) := by decide +kernel
theorem dX10_stormOf_10 : decode cX10_stormOf 10 = .ok (.isub, 1) := by decide +kernel
theorem dX10_stormOf_11 : decode cX10_stormOf 11 = .ok (.invokestatic 83, 3) := by decide +kernel
theorem dX10_stormOf_14 : decode cX10_stormOf 14 = .ok (.ifCond .ne 7, 3) := by decide +kernel
theorem dX10_stormOf_17 : decode cX10_stormOf 17 = .ok (.ldc2_w 362, 3) := by decide +kernel
theorem dX10_stormOf_20 : decode cX10_stormOf 20 = .ok (.lreturn, 1) := by decide +kernel
theorem dX10_stormOf_21 : decode cX10_stormOf 21 = .ok (.aload_n 0, 1) := by decide +kernel
theorem dX10_stormOf_22 : decode cX10_stormOf 22 = .ok (.getfield 19, 3) := by decide +kernel
theorem dX10_stormOf_25 : decode cX10_stormOf 25 = .ok (.iload_n 1, 1) := by decide +kernel
theorem dX10_stormOf_26 : decode cX10_stormOf 26 = .ok (.invokevirtual 232, 3) := by decide +kernel
theorem dX10_stormOf_29 : decode cX10_stormOf 29 = .ok (.checkcast 336, 3) := by decide +kernel
theorem dX10_stormOf_32 : decode cX10_stormOf 32 = .ok (.astore_n 3, 1) := by decide +kernel
theorem dX10_stormOf_33 : decode cX10_stormOf 33 = .ok (.iload_n 2, 1) := by decide +kernel
theorem dX10_stormOf_34 : decode cX10_stormOf 34 = .ok (.tableswitch 64 0 4 #[34, 40, 46, 52, 58], 34) := by decide +kernel
theorem dX10_stormOf_68 : decode cX10_stormOf 68 = .ok (.aload_n 3, 1) := by decide +kernel
theorem dX10_stormOf_69 : decode cX10_stormOf 69 = .ok (.getfield 383, 3) := by decide +kernel
theorem dX10_stormOf_72 : decode cX10_stormOf 72 = .ok (.i2l, 1) := by decide +kernel
theorem dX10_stormOf_73 : decode cX10_stormOf 73 = .ok (.lreturn, 1) := by decide +kernel
theorem dX10_stormOf_74 : decode cX10_stormOf 74 = .ok (.aload_n 3, 1) := by decide +kernel
theorem dX10_stormOf_75 : decode cX10_stormOf 75 = .ok (.getfield 344, 3) := by decide +kernel
theorem dX10_stormOf_78 : decode cX10_stormOf 78 = .ok (.i2l, 1) := by decide +kernel
theorem dX10_stormOf_79 : decode cX10_stormOf 79 = .ok (.lreturn, 1) := by decide +kernel
theorem dX10_stormOf_80 : decode cX10_stormOf 80 = .ok (.aload_n 3, 1) := by decide +kernel
theorem dX10_stormOf_81 : decode cX10_stormOf 81 = .ok (.getfield 347, 3) := by decide +kernel
theorem dX10_stormOf_84 : decode cX10_stormOf 84 = .ok (.i2l, 1) := by decide +kernel
theorem dX10_stormOf_85 : decode cX10_stormOf 85 = .ok (.lreturn, 1) := by decide +kernel
theorem dX10_stormOf_86 : decode cX10_stormOf 86 = .ok (.aload_n 3, 1) := by decide +kernel
theorem dX10_stormOf_87 : decode cX10_stormOf 87 = .ok (.getfield 386, 3) := by decide +kernel
theorem dX10_stormOf_90 : decode cX10_stormOf 90 = .ok (.i2l, 1) := by decide +kernel
theorem dX10_stormOf_91 : decode cX10_stormOf 91 = .ok (.lreturn, 1) := by decide +kernel
theorem dX10_stormOf_92 : decode cX10_stormOf 92 = .ok (.aload_n 3, 1) := by decide +kernel
theorem dX10_stormOf_93 : decode cX10_stormOf 93 = .ok (.getfield 387, 3) := by decide +kernel
theorem dX10_stormOf_96 : decode cX10_stormOf 96 = .ok (.i2l, 1) := by decide +kernel
theorem dX10_stormOf_97 : decode cX10_stormOf 97 = .ok (.lreturn, 1) := by decide +kernel
theorem dX10_stormOf_98 : decode cX10_stormOf 98 = .ok (.ldc2_w 362, 3) := by decide +kernel
theorem dX10_stormOf_101 : decode cX10_stormOf 101 = .ok (.lreturn, 1) := by decide +kernel
theorem dX10_compare_0 : decode cX10_compare 0 = .ok (.iload_n 1, 1) := by decide +kernel
theorem dX10_compare_1 : decode cX10_compare 1 = .ok (.iconst 0, 1) := by decide +kernel
theorem dX10_compare_2 : decode cX10_compare 2 = .ok (.sipush 3649, 3) := by decide +kernel
theorem dX10_compare_5 : decode cX10_compare 5 = .ok (.invokestatic 83, 3) := by decide +kernel
theorem dX10_compare_8 : decode cX10_compare 8 = .ok (.ifCond .eq 12, 3) := by decide +kernel
theorem dX10_compare_11 : decode cX10_compare 11 = .ok (.iload_n 2, 1) := by decide +kernel
theorem dX10_compare_12 : decode cX10_compare 12 = .ok (.iconst 0, 1) := by decide +kernel
theorem dX10_compare_13 : decode cX10_compare 13 = .ok (.iconst 3, 1) := by decide +kernel
theorem dX10_compare_14 : decode cX10_compare 14 = .ok (.invokestatic 83, 3) := by decide +kernel
theorem dX10_compare_17 : decode cX10_compare 17 = .ok (.ifCond .ne 7, 3) := by decide +kernel
theorem dX10_compare_20 : decode cX10_compare 20 = .ok (.ldc2_w 362, 3) := by decide +kernel
theorem dX10_compare_23 : decode cX10_compare 23 = .ok (.lreturn, 1) := by decide +kernel
theorem dX10_compare_24 : decode cX10_compare 24 = .ok (.aload_n 0, 1) := by decide +kernel
theorem dX10_compare_25 : decode cX10_compare 25 = .ok (.aload_n 0, 1) := by decide +kernel
theorem dX10_compare_26 : decode cX10_compare 26 = .ok (.getfield 120, 3) := by decide +kernel
theorem dX10_compare_29 : decode cX10_compare 29 = .ok (.invokevirtual 123, 3) := by decide +kernel
theorem dX10_compare_32 : decode cX10_compare 32 = .ok (.bipush 12, 2) := by decide +kernel
theorem dX10_compare_34 : decode cX10_compare 34 = .ok (.invokevirtual 127, 3) := by decide +kernel
theorem dX10_compare_37 : decode cX10_compare 37 = .ok (.i2l, 1) := by decide +kernel
theorem dX10_compare_38 : decode cX10_compare 38 = .ok (.lstore_n 3, 1) := by decide +kernel
theorem dX10_compare_39 : decode cX10_compare 39 = .ok (.iconst 0, 1) := by decide +kernel
theorem dX10_compare_40 : decode cX10_compare 40 = .ok (.istore 5, 2) := by decide +kernel
theorem dX10_compare_42 : decode cX10_compare 42 = .ok (.lconst 0, 1) := by decide +kernel
theorem dX10_compare_43 : decode cX10_compare 43 = .ok (.lstore 6, 2) := by decide +kernel
theorem dX10_compare_45 : decode cX10_compare 45 = .ok (.lconst 0, 1) := by decide +kernel
theorem dX10_compare_46 : decode cX10_compare 46 = .ok (.lstore 8, 2) := by decide +kernel
theorem dX10_compare_48 : decode cX10_compare 48 = .ok (.iconst 0, 1) := by decide +kernel
theorem dX10_compare_49 : decode cX10_compare 49 = .ok (.istore 10, 2) := by decide +kernel
theorem dX10_compare_51 : decode cX10_compare 51 = .ok (.iload 10, 2) := by decide +kernel
theorem dX10_compare_53 : decode cX10_compare 53 = .ok (.aload_n 0, 1) := by decide +kernel
theorem dX10_compare_54 : decode cX10_compare 54 = .ok (.getfield 19, 3) := by decide +kernel
theorem dX10_compare_57 : decode cX10_compare 57 = .ok (.invokevirtual 87, 3) := by decide +kernel
theorem dX10_compare_60 : decode cX10_compare 60 = .ok (.if_icmp .ge 76, 3) := by decide +kernel
theorem dX10_compare_63 : decode cX10_compare 63 = .ok (.aload_n 0, 1) := by decide +kernel
theorem dX10_compare_64 : decode cX10_compare 64 = .ok (.getfield 19, 3) := by decide +kernel
theorem dX10_compare_67 : decode cX10_compare 67 = .ok (.iload 10, 2) := by decide +kernel
theorem dX10_compare_69 : decode cX10_compare 69 = .ok (.invokevirtual 232, 3) := by decide +kernel
theorem dX10_compare_72 : decode cX10_compare 72 = .ok (.checkcast 336, 3) := by decide +kernel
theorem dX10_compare_75 : decode cX10_compare 75 = .ok (.astore 11, 2) := by decide +kernel
theorem dX10_compare_77 : decode cX10_compare 77 = .ok (.aload 11, 2) := by decide +kernel
theorem dX10_compare_79 : decode cX10_compare 79 = .ok (.getfield 383, 3) := by decide +kernel
theorem dX10_compare_82 : decode cX10_compare 82 = .ok (.iload_n 1, 1) := by decide +kernel
theorem dX10_compare_83 : decode cX10_compare 83 = .ok (.if_icmp .ge 7, 3) := by decide +kernel
theorem dX10_compare_86 : decode cX10_compare 86 = .ok (.aconst_null, 1) := by decide +kernel
theorem dX10_compare_87 : decode cX10_compare 87 = .ok (.goto 11, 3) := by decide +kernel
theorem dX10_compare_90 : decode cX10_compare 90 = .ok (.aload_n 0, 1) := by decide +kernel
theorem dX10_compare_91 : decode cX10_compare 91 = .ok (.aload 11, 2) := by decide +kernel
theorem dX10_compare_93 : decode cX10_compare 93 = .ok (.iload_n 1, 1) := by decide +kernel
theorem dX10_compare_94 : decode cX10_compare 94 = .ok (.lload_n 3, 1) := by decide +kernel
theorem dX10_compare_95 : decode cX10_compare 95 = .ok (.invokevirtual 388, 3) := by decide +kernel
theorem dX10_compare_98 : decode cX10_compare 98 = .ok (.astore 12, 2) := by decide +kernel
theorem dX10_compare_100 : decode cX10_compare 100 = .ok (.aload 12, 2) := by decide +kernel
theorem dX10_compare_102 : decode cX10_compare 102 = .ok (.ifnull 28, 3) := by decide +kernel
theorem dX10_compare_105 : decode cX10_compare 105 = .ok (.iinc 5 1, 3) := by decide +kernel
theorem dX10_compare_108 : decode cX10_compare 108 = .ok (.lload 6, 2) := by decide +kernel
theorem dX10_compare_110 : decode cX10_compare 110 = .ok (.aload 12, 2) := by decide +kernel
theorem dX10_compare_112 : decode cX10_compare 112 = .ok (.getfield 347, 3) := by decide +kernel
theorem dX10_compare_115 : decode cX10_compare 115 = .ok (.i2l, 1) := by decide +kernel
theorem dX10_compare_116 : decode cX10_compare 116 = .ok (.ladd, 1) := by decide +kernel
theorem dX10_compare_117 : decode cX10_compare 117 = .ok (.lstore 6, 2) := by decide +kernel
theorem dX10_compare_119 : decode cX10_compare 119 = .ok (.lload 8, 2) := by decide +kernel
theorem dX10_compare_121 : decode cX10_compare 121 = .ok (.aload 11, 2) := by decide +kernel
theorem dX10_compare_123 : decode cX10_compare 123 = .ok (.getfield 347, 3) := by decide +kernel
theorem dX10_compare_126 : decode cX10_compare 126 = .ok (.i2l, 1) := by decide +kernel
theorem dX10_compare_127 : decode cX10_compare 127 = .ok (.ladd, 1) := by decide +kernel
theorem dX10_compare_128 : decode cX10_compare 128 = .ok (.lstore 8, 2) := by decide +kernel
theorem dX10_compare_130 : decode cX10_compare 130 = .ok (.iinc 10 1, 3) := by decide +kernel
theorem dX10_compare_133 : decode cX10_compare 133 = .ok (.goto (-82), 3) := by decide +kernel
theorem dX10_compare_136 : decode cX10_compare 136 = .ok (.iload_n 2, 1) := by decide +kernel
theorem dX10_compare_137 : decode cX10_compare 137 = .ok (.tableswitch 37 0 2 #[27, 31, 34], 27) := by decide +kernel
theorem dX10_compare_164 : decode cX10_compare 164 = .ok (.iload 5, 2) := by decide +kernel
theorem dX10_compare_166 : decode cX10_compare 166 = .ok (.i2l, 1) := by decide +kernel
theorem dX10_compare_167 : decode cX10_compare 167 = .ok (.lreturn, 1) := by decide +kernel
theorem dX10_compare_168 : decode cX10_compare 168 = .ok (.lload 6, 2) := by decide +kernel
theorem dX10_compare_170 : decode cX10_compare 170 = .ok (.lreturn, 1) := by decide +kernel
theorem dX10_compare_171 : decode cX10_compare 171 = .ok (.lload 8, 2) := by decide +kernel
theorem dX10_compare_173 : decode cX10_compare 173 = .ok (.lreturn, 1) := by decide +kernel
theorem dX10_compare_174 : decode cX10_compare 174 = .ok (.lload 6, 2) := by decide +kernel
theorem dX10_compare_176 : decode cX10_compare 176 = .ok (.lload 8, 2) := by decide +kernel
theorem dX10_compare_178 : decode cX10_compare 178 = .ok (.lsub, 1) := by decide +kernel
theorem dX10_compare_179 : decode cX10_compare 179 = .ok (.ldc2_w 392, 3) := by decide +kernel
theorem dX10_compare_182 : decode cX10_compare 182 = .ok (.lmul, 1) := by decide +kernel
theorem dX10_compare_183 : decode cX10_compare 183 = .ok (.lload_n 3, 1) := by decide +kernel
theorem dX10_compare_184 : decode cX10_compare 184 = .ok (.lload 6, 2) := by decide +kernel
theorem dX10_compare_186 : decode cX10_compare 186 = .ok (.lmul, 1) := by decide +kernel
theorem dX10_compare_187 : decode cX10_compare 187 = .ok (.lcmp, 1) := by decide +kernel
theorem dX10_compare_188 : decode cX10_compare 188 = .ok (.ifCond .le 7, 3) := by decide +kernel
theorem dX10_compare_191 : decode cX10_compare 191 = .ok (.lconst 1, 1) := by decide +kernel
theorem dX10_compare_192 : decode cX10_compare 192 = .ok (.goto 4, 3) := by decide +kernel
theorem dX10_compare_195 : decode cX10_compare 195 = .ok (.lconst 0, 1) := by decide +kernel
theorem dX10_compare_196 : decode cX10_compare 196 = .ok (.lreturn, 1) := by decide +kernel
theorem dX10_likeAhead_0 : decode cX10_likeAhead 0 = .ok (.aconst_null, 1) := by decide +kernel
theorem dX10_likeAhead_1 : decode cX10_likeAhead 1 = .ok (.astore 5, 2) := by decide +kernel
theorem dX10_likeAhead_3 : decode cX10_likeAhead 3 = .ok (.lconst 0, 1) := by decide +kernel
theorem dX10_likeAhead_4 : decode cX10_likeAhead 4 = .ok (.lstore 6, 2) := by decide +kernel
theorem dX10_likeAhead_6 : decode cX10_likeAhead 6 = .ok (.iconst 0, 1) := by decide +kernel
theorem dX10_likeAhead_7 : decode cX10_likeAhead 7 = .ok (.istore 8, 2) := by decide +kernel
theorem dX10_likeAhead_9 : decode cX10_likeAhead 9 = .ok (.iload 8, 2) := by decide +kernel
theorem dX10_likeAhead_11 : decode cX10_likeAhead 11 = .ok (.aload_n 0, 1) := by decide +kernel
theorem dX10_likeAhead_12 : decode cX10_likeAhead 12 = .ok (.getfield 19, 3) := by decide +kernel
theorem dX10_likeAhead_15 : decode cX10_likeAhead 15 = .ok (.invokevirtual 87, 3) := by decide +kernel
theorem dX10_likeAhead_18 : decode cX10_likeAhead 18 = .ok (.if_icmp .ge 99, 3) := by decide +kernel
theorem dX10_likeAhead_21 : decode cX10_likeAhead 21 = .ok (.aload_n 0, 1) := by decide +kernel
theorem dX10_likeAhead_22 : decode cX10_likeAhead 22 = .ok (.getfield 19, 3) := by decide +kernel
theorem dX10_likeAhead_25 : decode cX10_likeAhead 25 = .ok (.iload 8, 2) := by decide +kernel
theorem dX10_likeAhead_27 : decode cX10_likeAhead 27 = .ok (.invokevirtual 232, 3) := by decide +kernel
theorem dX10_likeAhead_30 : decode cX10_likeAhead 30 = .ok (.checkcast 336, 3) := by decide +kernel
theorem dX10_likeAhead_33 : decode cX10_likeAhead 33 = .ok (.astore 9, 2) := by decide +kernel
theorem dX10_likeAhead_35 : decode cX10_likeAhead 35 = .ok (.aload 9, 2) := by decide +kernel
theorem dX10_likeAhead_37 : decode cX10_likeAhead 37 = .ok (.getfield 344, 3) := by decide +kernel
theorem dX10_likeAhead_40 : decode cX10_likeAhead 40 = .ok (.i2l, 1) := by decide +kernel
theorem dX10_likeAhead_41 : decode cX10_likeAhead 41 = .ok (.aload_n 1, 1) := by decide +kernel
theorem dX10_likeAhead_42 : decode cX10_likeAhead 42 = .ok (.getfield 344, 3) := by decide +kernel
theorem dX10_likeAhead_45 : decode cX10_likeAhead 45 = .ok (.i2l, 1) := by decide +kernel
theorem dX10_likeAhead_46 : decode cX10_likeAhead 46 = .ok (.lsub, 1) := by decide +kernel
theorem dX10_likeAhead_47 : decode cX10_likeAhead 47 = .ok (.invokestatic 394, 3) := by decide +kernel
theorem dX10_likeAhead_50 : decode cX10_likeAhead 50 = .ok (.lstore 10, 2) := by decide +kernel
theorem dX10_likeAhead_52 : decode cX10_likeAhead 52 = .ok (.aload 9, 2) := by decide +kernel
theorem dX10_likeAhead_54 : decode cX10_likeAhead 54 = .ok (.getfield 383, 3) := by decide +kernel
theorem dX10_likeAhead_57 : decode cX10_likeAhead 57 = .ok (.iload_n 2, 1) := by decide +kernel
theorem dX10_likeAhead_58 : decode cX10_likeAhead 58 = .ok (.if_icmp .ge 24, 3) := by decide +kernel
theorem dX10_likeAhead_61 : decode cX10_likeAhead 61 = .ok (.lload 10, 2) := by decide +kernel
theorem dX10_likeAhead_63 : decode cX10_likeAhead 63 = .ok (.ldc2_w 392, 3) := by decide +kernel
theorem dX10_likeAhead_66 : decode cX10_likeAhead 66 = .ok (.lmul, 1) := by decide +kernel
theorem dX10_likeAhead_67 : decode cX10_likeAhead 67 = .ok (.lload_n 3, 1) := by decide +kernel
theorem dX10_likeAhead_68 : decode cX10_likeAhead 68 = .ok (.aload_n 1, 1) := by decide +kernel
theorem dX10_likeAhead_69 : decode cX10_likeAhead 69 = .ok (.getfield 344, 3) := by decide +kernel
theorem dX10_likeAhead_72 : decode cX10_likeAhead 72 = .ok (.i2l, 1) := by decide +kernel
theorem dX10_likeAhead_73 : decode cX10_likeAhead 73 = .ok (.lmul, 1) := by decide +kernel
theorem dX10_likeAhead_74 : decode cX10_likeAhead 74 = .ok (.lcmp, 1) := by decide +kernel
theorem dX10_likeAhead_75 : decode cX10_likeAhead 75 = .ok (.ifCond .gt 7, 3) := by decide +kernel
theorem dX10_likeAhead_78 : decode cX10_likeAhead 78 = .ok (.iconst 1, 1) := by decide +kernel
theorem dX10_likeAhead_79 : decode cX10_likeAhead 79 = .ok (.goto 4, 3) := by decide +kernel
theorem dX10_likeAhead_82 : decode cX10_likeAhead 82 = .ok (.iconst 0, 1) := by decide +kernel
theorem dX10_likeAhead_83 : decode cX10_likeAhead 83 = .ok (.istore 12, 2) := by decide +kernel
theorem dX10_likeAhead_85 : decode cX10_likeAhead 85 = .ok (.iload 12, 2) := by decide +kernel
theorem dX10_likeAhead_87 : decode cX10_likeAhead 87 = .ok (.ifCond .eq 24, 3) := by decide +kernel
theorem dX10_likeAhead_90 : decode cX10_likeAhead 90 = .ok (.aload 5, 2) := by decide +kernel
theorem dX10_likeAhead_92 : decode cX10_likeAhead 92 = .ok (.ifnull 11, 3) := by decide +kernel
theorem dX10_likeAhead_95 : decode cX10_likeAhead 95 = .ok (.lload 10, 2) := by decide +kernel
theorem dX10_likeAhead_97 : decode cX10_likeAhead 97 = .ok (.lload 6, 2) := by decide +kernel
theorem dX10_likeAhead_99 : decode cX10_likeAhead 99 = .ok (.lcmp, 1) := by decide +kernel
theorem dX10_likeAhead_100 : decode cX10_likeAhead 100 = .ok (.ifCond .gt 11, 3) := by decide +kernel
theorem dX10_likeAhead_103 : decode cX10_likeAhead 103 = .ok (.aload 9, 2) := by decide +kernel
theorem dX10_likeAhead_105 : decode cX10_likeAhead 105 = .ok (.astore 5, 2) := by decide +kernel
theorem dX10_likeAhead_107 : decode cX10_likeAhead 107 = .ok (.lload 10, 2) := by decide +kernel
theorem dX10_likeAhead_109 : decode cX10_likeAhead 109 = .ok (.lstore 6, 2) := by decide +kernel
theorem dX10_likeAhead_111 : decode cX10_likeAhead 111 = .ok (.iinc 8 1, 3) := by decide +kernel
theorem dX10_likeAhead_114 : decode cX10_likeAhead 114 = .ok (.goto (-105), 3) := by decide +kernel
theorem dX10_likeAhead_117 : decode cX10_likeAhead 117 = .ok (.aload 5, 2) := by decide +kernel
theorem dX10_likeAhead_119 : decode cX10_likeAhead 119 = .ok (.areturn, 1) := by decide +kernel
theorem dX10_look_0 : decode cX10_look 0 = .ok (.aload_n 0, 1) := by decide +kernel
theorem dX10_look_1 : decode cX10_look 1 = .ok (.iload_n 1, 1) := by decide +kernel
theorem dX10_look_2 : decode cX10_look 2 = .ok (.invokevirtual 136, 3) := by decide +kernel
theorem dX10_look_5 : decode cX10_look 5 = .ok (.astore_n 3, 1) := by decide +kernel
theorem dX10_look_6 : decode cX10_look 6 = .ok (.aload_n 3, 1) := by decide +kernel
theorem dX10_look_7 : decode cX10_look 7 = .ok (.ifnull 12, 3) := by decide +kernel
theorem dX10_look_10 : decode cX10_look 10 = .ok (.iload_n 2, 1) := by decide +kernel
theorem dX10_look_11 : decode cX10_look 11 = .ok (.iconst 0, 1) := by decide +kernel
theorem dX10_look_12 : decode cX10_look 12 = .ok (.iconst 3, 1) := by decide +kernel
theorem dX10_look_13 : decode cX10_look 13 = .ok (.invokestatic 83, 3) := by decide +kernel
theorem dX10_look_16 : decode cX10_look 16 = .ok (.ifCond .ne 5, 3) := by decide +kernel
theorem dX10_look_19 : decode cX10_look 19 = .ok (.iconst (-1), 1) := by decide +kernel
theorem dX10_look_20 : decode cX10_look 20 = .ok (.ireturn, 1) := by decide +kernel
theorem dX10_look_21 : decode cX10_look 21 = .ok (.aload_n 3, 1) := by decide +kernel
theorem dX10_look_22 : decode cX10_look 22 = .ok (.iload_n 2, 1) := by decide +kernel
theorem dX10_look_23 : decode cX10_look 23 = .ok (.putfield 214, 3) := by decide +kernel
theorem dX10_look_26 : decode cX10_look 26 = .ok (.aload_n 0, 1) := by decide +kernel
theorem dX10_look_27 : decode cX10_look 27 = .ok (.dup, 1) := by decide +kernel
theorem dX10_look_28 : decode cX10_look 28 = .ok (.getfield 398, 3) := by decide +kernel
theorem dX10_look_31 : decode cX10_look 31 = .ok (.iconst 1, 1) := by decide +kernel
theorem dX10_look_32 : decode cX10_look 32 = .ok (.iadd, 1) := by decide +kernel
theorem dX10_look_33 : decode cX10_look 33 = .ok (.putfield 398, 3) := by decide +kernel
theorem dX10_look_36 : decode cX10_look 36 = .ok (.aload_n 0, 1) := by decide +kernel
theorem dX10_look_37 : decode cX10_look 37 = .ok (.getfield 398, 3) := by decide +kernel
theorem dX10_look_40 : decode cX10_look 40 = .ok (.ireturn, 1) := by decide +kernel
theorem dX10_worst_0 : decode cX10_worst 0 = .ok (.aload_n 0, 1) := by decide +kernel
theorem dX10_worst_1 : decode cX10_worst 1 = .ok (.invokevirtual 401, 3) := by decide +kernel
theorem dX10_worst_4 : decode cX10_worst 4 = .ok (.istore_n 2, 1) := by decide +kernel
theorem dX10_worst_5 : decode cX10_worst 5 = .ok (.iload_n 2, 1) := by decide +kernel
theorem dX10_worst_6 : decode cX10_worst 6 = .ok (.iconst (-1), 1) := by decide +kernel
theorem dX10_worst_7 : decode cX10_worst 7 = .ok (.if_icmp .ne 5, 3) := by decide +kernel
theorem dX10_worst_10 : decode cX10_worst 10 = .ok (.iconst (-1), 1) := by decide +kernel
theorem dX10_worst_11 : decode cX10_worst 11 = .ok (.ireturn, 1) := by decide +kernel
theorem dX10_worst_12 : decode cX10_worst 12 = .ok (.iload_n 1, 1) := by decide +kernel
theorem dX10_worst_13 : decode cX10_worst 13 = .ok (.tableswitch 41 0 2 #[27, 29, 35], 27) := by decide +kernel
theorem dX10_worst_40 : decode cX10_worst 40 = .ok (.iload_n 2, 1) := by decide +kernel
theorem dX10_worst_41 : decode cX10_worst 41 = .ok (.ireturn, 1) := by decide +kernel
theorem dX10_worst_42 : decode cX10_worst 42 = .ok (.aload_n 0, 1) := by decide +kernel
theorem dX10_worst_43 : decode cX10_worst 43 = .ok (.iload_n 2, 1) := by decide +kernel
theorem dX10_worst_44 : decode cX10_worst 44 = .ok (.invokevirtual 404, 3) := by decide +kernel
theorem dX10_worst_47 : decode cX10_worst 47 = .ok (.ireturn, 1) := by decide +kernel
theorem dX10_worst_48 : decode cX10_worst 48 = .ok (.aload_n 0, 1) := by decide +kernel
theorem dX10_worst_49 : decode cX10_worst 49 = .ok (.iload_n 2, 1) := by decide +kernel
theorem dX10_worst_50 : decode cX10_worst 50 = .ok (.invokevirtual 407, 3) := by decide +kernel
theorem dX10_worst_53 : decode cX10_worst 53 = .ok (.ireturn, 1) := by decide +kernel
theorem dX10_worst_54 : decode cX10_worst 54 = .ok (.iconst (-1), 1) := by decide +kernel
theorem dX10_worst_55 : decode cX10_worst 55 = .ok (.ireturn, 1) := by decide +kernel
theorem dX10_worstLot_0 : decode cX10_worstLot 0 = .ok (.iconst (-1), 1) := by decide +kernel
theorem dX10_worstLot_1 : decode cX10_worstLot 1 = .ok (.istore_n 1, 1) := by decide +kernel
theorem dX10_worstLot_2 : decode cX10_worstLot 2 = .ok (.iconst 0, 1) := by decide +kernel
theorem dX10_worstLot_3 : decode cX10_worstLot 3 = .ok (.istore_n 2, 1) := by decide +kernel
theorem dX10_worstLot_4 : decode cX10_worstLot 4 = .ok (.iload_n 2, 1) := by decide +kernel
theorem dX10_worstLot_5 : decode cX10_worstLot 5 = .ok (.bipush 10, 2) := by decide +kernel
theorem dX10_worstLot_7 : decode cX10_worstLot 7 = .ok (.if_icmp .ge 50, 3) := by decide +kernel
theorem dX10_worstLot_10 : decode cX10_worstLot 10 = .ok (.aload_n 0, 1) := by decide +kernel
theorem dX10_worstLot_11 : decode cX10_worstLot 11 = .ok (.iload_n 2, 1) := by decide +kernel
theorem dX10_worstLot_12 : decode cX10_worstLot 12 = .ok (.invokevirtual 407, 3) := by decide +kernel
theorem dX10_worstLot_15 : decode cX10_worstLot 15 = .ok (.iconst 2, 1) := by decide +kernel
theorem dX10_worstLot_16 : decode cX10_worstLot 16 = .ok (.if_icmp .lt 35, 3) := by decide +kernel
theorem dX10_worstLot_19 : decode cX10_worstLot 19 = .ok (.iload_n 1, 1) := by decide +kernel
theorem dX10_worstLot_20 : decode cX10_worstLot 20 = .ok (.iconst (-1), 1) := by decide +kernel
theorem dX10_worstLot_21 : decode cX10_worstLot 21 = .ok (.if_icmp .eq 28, 3) := by decide +kernel
theorem dX10_worstLot_24 : decode cX10_worstLot 24 = .ok (.aload_n 0, 1) := by decide +kernel
theorem dX10_worstLot_25 : decode cX10_worstLot 25 = .ok (.iload_n 2, 1) := by decide +kernel
theorem dX10_worstLot_26 : decode cX10_worstLot 26 = .ok (.invokevirtual 404, 3) := by decide +kernel
theorem dX10_worstLot_29 : decode cX10_worstLot 29 = .ok (.aload_n 0, 1) := by decide +kernel
theorem dX10_worstLot_30 : decode cX10_worstLot 30 = .ok (.iload_n 1, 1) := by decide +kernel
theorem dX10_worstLot_31 : decode cX10_worstLot 31 = .ok (.invokevirtual 407, 3) := by decide +kernel
theorem dX10_worstLot_34 : decode cX10_worstLot 34 = .ok (.imul, 1) := by decide +kernel
theorem dX10_worstLot_35 : decode cX10_worstLot 35 = .ok (.aload_n 0, 1) := by decide +kernel
theorem dX10_worstLot_36 : decode cX10_worstLot 36 = .ok (.iload_n 1, 1) := by decide +kernel
theorem dX10_worstLot_37 : decode cX10_worstLot 37 = .ok (.invokevirtual 404, 3) := by decide +kernel
theorem dX10_worstLot_40 : decode cX10_worstLot 40 = .ok (.aload_n 0, 1) := by decide +kernel
theorem dX10_worstLot_41 : decode cX10_worstLot 41 = .ok (.iload_n 2, 1) := by decide +kernel
theorem dX10_worstLot_42 : decode cX10_worstLot 42 = .ok (.invokevirtual 407, 3) := by decide +kernel
theorem dX10_worstLot_45 : decode cX10_worstLot 45 = .ok (.imul, 1) := by decide +kernel
theorem dX10_worstLot_46 : decode cX10_worstLot 46 = .ok (.if_icmp .le 5, 3) := by decide +kernel
theorem dX10_worstLot_49 : decode cX10_worstLot 49 = .ok (.iload_n 2, 1) := by decide +kernel
theorem dX10_worstLot_50 : decode cX10_worstLot 50 = .ok (.istore_n 1, 1) := by decide +kernel
theorem dX10_worstLot_51 : decode cX10_worstLot 51 = .ok (.iinc 2 1, 3) := by decide +kernel
theorem dX10_worstLot_54 : decode cX10_worstLot 54 = .ok (.goto (-50), 3) := by decide +kernel
theorem dX10_worstLot_57 : decode cX10_worstLot 57 = .ok (.iload_n 1, 1) := by decide +kernel
theorem dX10_worstLot_58 : decode cX10_worstLot 58 = .ok (.ireturn, 1) := by decide +kernel
theorem dX10_looksOf_0 : decode cX10_looksOf 0 = .ok (.iconst 0, 1) := by decide +kernel
theorem dX10_looksOf_1 : decode cX10_looksOf 1 = .ok (.istore_n 2, 1) := by decide +kernel
theorem dX10_looksOf_2 : decode cX10_looksOf 2 = .ok (.iconst 0, 1) := by decide +kernel
theorem dX10_looksOf_3 : decode cX10_looksOf 3 = .ok (.istore_n 3, 1) := by decide +kernel
theorem dX10_looksOf_4 : decode cX10_looksOf 4 = .ok (.iload_n 3, 1) := by decide +kernel
theorem dX10_looksOf_5 : decode cX10_looksOf 5 = .ok (.aload_n 0, 1) := by decide +kernel
theorem dX10_looksOf_6 : decode cX10_looksOf 6 = .ok (.getfield 10, 3) := by decide +kernel
theorem dX10_looksOf_9 : decode cX10_looksOf 9 = .ok (.invokevirtual 87, 3) := by decide +kernel
theorem dX10_looksOf_12 : decode cX10_looksOf 12 = .ok (.if_icmp .ge 56, 3) := by decide +kernel
theorem dX10_looksOf_15 : decode cX10_looksOf 15 = .ok (.aload_n 0, 1) := by decide +kernel
theorem dX10_looksOf_16 : decode cX10_looksOf 16 = .ok (.getfield 10, 3) := by decide +kernel
theorem dX10_looksOf_19 : decode cX10_looksOf 19 = .ok (.iload_n 3, 1) := by decide +kernel
theorem dX10_looksOf_20 : decode cX10_looksOf 20 = .ok (.invokevirtual 232, 3) := by decide +kernel
theorem dX10_looksOf_23 : decode cX10_looksOf 23 = .ok (.checkcast 91, 3) := by decide +kernel
theorem dX10_looksOf_26 : decode cX10_looksOf 26 = .ok (.getfield 110, 3) := by decide +kernel
theorem dX10_looksOf_29 : decode cX10_looksOf 29 = .ok (.astore 4, 2) := by decide +kernel
theorem dX10_looksOf_31 : decode cX10_looksOf 31 = .ok (.iload_n 2, 1) := by decide +kernel
theorem dX10_looksOf_32 : decode cX10_looksOf 32 = .ok (.aload 4, 2) := by decide +kernel
theorem dX10_looksOf_34 : decode cX10_looksOf 34 = .ok (.ifnull 25, 3) := by decide +kernel
theorem dX10_looksOf_37 : decode cX10_looksOf 37 = .ok (.aload 4, 2) := by decide +kernel
theorem dX10_looksOf_39 : decode cX10_looksOf 39 = .ok (.getfield 186, 3) := by decide +kernel
theorem dX10_looksOf_42 : decode cX10_looksOf 42 = .ok (.iload_n 1, 1) := by decide +kernel
theorem dX10_looksOf_43 : decode cX10_looksOf 43 = .ok (.if_icmp .ne 16, 3) := by decide +kernel
theorem dX10_looksOf_46 : decode cX10_looksOf 46 = .ok (.aload 4, 2) := by decide +kernel
theorem dX10_looksOf_48 : decode cX10_looksOf 48 = .ok (.getfield 214, 3) := by decide +kernel
theorem dX10_looksOf_51 : decode cX10_looksOf 51 = .ok (.iconst (-1), 1) := by decide +kernel
theorem dX10_looksOf_52 : decode cX10_looksOf 52 = .ok (.if_icmp .eq 7, 3) := by decide +kernel
theorem dX10_looksOf_55 : decode cX10_looksOf 55 = .ok (.iconst 1, 1) := by decide +kernel
theorem dX10_looksOf_56 : decode cX10_looksOf 56 = .ok (.goto 4, 3) := by decide +kernel
theorem dX10_looksOf_59 : decode cX10_looksOf 59 = .ok (.iconst 0, 1) := by decide +kernel
theorem dX10_looksOf_60 : decode cX10_looksOf 60 = .ok (.iadd, 1) := by decide +kernel
theorem dX10_looksOf_61 : decode cX10_looksOf 61 = .ok (.istore_n 2, 1) := by decide +kernel
theorem dX10_looksOf_62 : decode cX10_looksOf 62 = .ok (.iinc 3 1, 3) := by decide +kernel
theorem dX10_looksOf_65 : decode cX10_looksOf 65 = .ok (.goto (-61), 3) := by decide +kernel
theorem dX10_looksOf_68 : decode cX10_looksOf 68 = .ok (.iload_n 2, 1) := by decide +kernel
theorem dX10_looksOf_69 : decode cX10_looksOf 69 = .ok (.ireturn, 1) := by decide +kernel
theorem dX10_gradesOf_0 : decode cX10_gradesOf 0 = .ok (.iconst 0, 1) := by decide +kernel
theorem dX10_gradesOf_1 : decode cX10_gradesOf 1 = .ok (.istore_n 2, 1) := by decide +kernel
theorem dX10_gradesOf_2 : decode cX10_gradesOf 2 = .ok (.iconst 0, 1) := by decide +kernel
theorem dX10_gradesOf_3 : decode cX10_gradesOf 3 = .ok (.istore_n 3, 1) := by decide +kernel
theorem dX10_gradesOf_4 : decode cX10_gradesOf 4 = .ok (.iload_n 3, 1) := by decide +kernel
theorem dX10_gradesOf_5 : decode cX10_gradesOf 5 = .ok (.aload_n 0, 1) := by decide +kernel
theorem dX10_gradesOf_6 : decode cX10_gradesOf 6 = .ok (.getfield 10, 3) := by decide +kernel
theorem dX10_gradesOf_9 : decode cX10_gradesOf 9 = .ok (.invokevirtual 87, 3) := by decide +kernel
theorem dX10_gradesOf_12 : decode cX10_gradesOf 12 = .ok (.if_icmp .ge 60, 3) := by decide +kernel
theorem dX10_gradesOf_15 : decode cX10_gradesOf 15 = .ok (.aload_n 0, 1) := by decide +kernel
theorem dX10_gradesOf_16 : decode cX10_gradesOf 16 = .ok (.getfield 10, 3) := by decide +kernel
theorem dX10_gradesOf_19 : decode cX10_gradesOf 19 = .ok (.iload_n 3, 1) := by decide +kernel
theorem dX10_gradesOf_20 : decode cX10_gradesOf 20 = .ok (.invokevirtual 232, 3) := by decide +kernel
theorem dX10_gradesOf_23 : decode cX10_gradesOf 23 = .ok (.checkcast 91, 3) := by decide +kernel
theorem dX10_gradesOf_26 : decode cX10_gradesOf 26 = .ok (.getfield 110, 3) := by decide +kernel
theorem dX10_gradesOf_29 : decode cX10_gradesOf 29 = .ok (.astore 4, 2) := by decide +kernel
theorem dX10_gradesOf_31 : decode cX10_gradesOf 31 = .ok (.iload_n 2, 1) := by decide +kernel
theorem dX10_gradesOf_32 : decode cX10_gradesOf 32 = .ok (.aload 4, 2) := by decide +kernel
theorem dX10_gradesOf_34 : decode cX10_gradesOf 34 = .ok (.ifnull 29, 3) := by decide +kernel
theorem dX10_gradesOf_37 : decode cX10_gradesOf 37 = .ok (.aload 4, 2) := by decide +kernel
theorem dX10_gradesOf_39 : decode cX10_gradesOf 39 = .ok (.getfield 186, 3) := by decide +kernel
theorem dX10_gradesOf_42 : decode cX10_gradesOf 42 = .ok (.iload_n 1, 1) := by decide +kernel
theorem dX10_gradesOf_43 : decode cX10_gradesOf 43 = .ok (.if_icmp .ne 20, 3) := by decide +kernel
theorem dX10_gradesOf_46 : decode cX10_gradesOf 46 = .ok (.aload 4, 2) := by decide +kernel
theorem dX10_gradesOf_48 : decode cX10_gradesOf 48 = .ok (.getfield 214, 3) := by decide +kernel
theorem dX10_gradesOf_51 : decode cX10_gradesOf 51 = .ok (.iconst (-1), 1) := by decide +kernel
theorem dX10_gradesOf_52 : decode cX10_gradesOf 52 = .ok (.if_icmp .eq 11, 3) := by decide +kernel
theorem dX10_gradesOf_55 : decode cX10_gradesOf 55 = .ok (.aload 4, 2) := by decide +kernel
theorem dX10_gradesOf_57 : decode cX10_gradesOf 57 = .ok (.getfield 214, 3) := by decide +kernel
theorem dX10_gradesOf_60 : decode cX10_gradesOf 60 = .ok (.goto 4, 3) := by decide +kernel
theorem dX10_gradesOf_63 : decode cX10_gradesOf 63 = .ok (.iconst 0, 1) := by decide +kernel
theorem dX10_gradesOf_64 : decode cX10_gradesOf 64 = .ok (.iadd, 1) := by decide +kernel
theorem dX10_gradesOf_65 : decode cX10_gradesOf 65 = .ok (.istore_n 2, 1) := by decide +kernel
theorem dX10_gradesOf_66 : decode cX10_gradesOf 66 = .ok (.iinc 3 1, 3) := by decide +kernel
theorem dX10_gradesOf_69 : decode cX10_gradesOf 69 = .ok (.goto (-65), 3) := by decide +kernel
theorem dX10_gradesOf_72 : decode cX10_gradesOf 72 = .ok (.iload_n 2, 1) := by decide +kernel
theorem dX10_gradesOf_73 : decode cX10_gradesOf 73 = .ok (.ireturn, 1) := by decide +kernel
theorem dX10_complain_0 : decode cX10_complain 0 = .ok (.aload_n 0, 1) := by decide +kernel
theorem dX10_complain_1 : decode cX10_complain 1 = .ok (.iload_n 1, 1) := by decide +kernel
theorem dX10_complain_2 : decode cX10_complain 2 = .ok (.invokevirtual 100, 3) := by decide +kernel
theorem dX10_complain_5 : decode cX10_complain 5 = .ok (.ifnull 12, 3) := by decide +kernel
theorem dX10_complain_8 : decode cX10_complain 8 = .ok (.iload_n 2, 1) := by decide +kernel
theorem dX10_complain_9 : decode cX10_complain 9 = .ok (.iconst 0, 1) := by decide +kernel
theorem dX10_complain_10 : decode cX10_complain 10 = .ok (.iconst 3, 1) := by decide +kernel
theorem dX10_complain_11 : decode cX10_complain 11 = .ok (.invokestatic 83, 3) := by decide +kernel
theorem dX10_complain_14 : decode cX10_complain 14 = .ok (.ifCond .ne 5, 3) := by decide +kernel
theorem dX10_complain_17 : decode cX10_complain 17 = .ok (.iconst (-1), 1) := by decide +kernel
theorem dX10_complain_18 : decode cX10_complain 18 = .ok (.ireturn, 1) := by decide +kernel
theorem dX10_complain_19 : decode cX10_complain 19 = .ok (.aload_n 0, 1) := by decide +kernel
theorem dX10_complain_20 : decode cX10_complain 20 = .ok (.iload_n 1, 1) := by decide +kernel
theorem dX10_complain_21 : decode cX10_complain 21 = .ok (.iload_n 2, 1) := by decide +kernel
theorem dX10_complain_22 : decode cX10_complain 22 = .ok (.invokevirtual 263, 3) := by decide +kernel
theorem dX10_complain_25 : decode cX10_complain 25 = .ok (.ireturn, 1) := by decide +kernel
theorem dX10_tellComplaint_0 : decode cX10_tellComplaint 0 = .ok (.iconst 0, 1) := by decide +kernel
theorem dX10_tellComplaint_1 : decode cX10_tellComplaint 1 = .ok (.istore_n 3, 1) := by decide +kernel
theorem dX10_tellComplaint_2 : decode cX10_tellComplaint 2 = .ok (.iload_n 3, 1) := by decide +kernel
theorem dX10_tellComplaint_3 : decode cX10_tellComplaint 3 = .ok (.aload_n 0, 1) := by decide +kernel
theorem dX10_tellComplaint_4 : decode cX10_tellComplaint 4 = .ok (.getfield 22, 3) := by decide +kernel
theorem dX10_tellComplaint_7 : decode cX10_tellComplaint 7 = .ok (.invokevirtual 87, 3) := by decide +kernel
theorem dX10_tellComplaint_10 : decode cX10_tellComplaint 10 = .ok (.if_icmp .ge 34, 3) := by decide +kernel
theorem dX10_tellComplaint_13 : decode cX10_tellComplaint 13 = .ok (.aload_n 0, 1) := by decide +kernel
theorem dX10_tellComplaint_14 : decode cX10_tellComplaint 14 = .ok (.getfield 22, 3) := by decide +kernel
theorem dX10_tellComplaint_17 : decode cX10_tellComplaint 17 = .ok (.iload_n 3, 1) := by decide +kernel
theorem dX10_tellComplaint_18 : decode cX10_tellComplaint 18 = .ok (.invokevirtual 232, 3) := by decide +kernel
theorem dX10_tellComplaint_21 : decode cX10_tellComplaint 21 = .ok (.checkcast 410, 3) := by decide +kernel
theorem dX10_tellComplaint_24 : decode cX10_tellComplaint 24 = .ok (.iload_n 1, 1) := by decide +kernel
theorem dX10_tellComplaint_25 : decode cX10_tellComplaint 25 = .ok (.iload_n 2, 1) := by decide +kernel
theorem dX10_tellComplaint_26 : decode cX10_tellComplaint 26 = .ok (.aload_n 0, 1) := by decide +kernel
theorem dX10_tellComplaint_27 : decode cX10_tellComplaint 27 = .ok (.getfield 120, 3) := by decide +kernel
theorem dX10_tellComplaint_30 : decode cX10_tellComplaint 30 = .ok (.invokevirtual 412, 3) := by decide +kernel
theorem dX10_tellComplaint_33 : decode cX10_tellComplaint 33 = .ok (.ifCond .eq 5, 3) := by decide +kernel
theorem dX10_tellComplaint_36 : decode cX10_tellComplaint 36 = .ok (.iload_n 3, 1) := by decide +kernel
theorem dX10_tellComplaint_37 : decode cX10_tellComplaint 37 = .ok (.ireturn, 1) := by decide +kernel
theorem dX10_tellComplaint_38 : decode cX10_tellComplaint 38 = .ok (.iinc 3 1, 3) := by decide +kernel
theorem dX10_tellComplaint_41 : decode cX10_tellComplaint 41 = .ok (.goto (-39), 3) := by decide +kernel
theorem dX10_tellComplaint_44 : decode cX10_tellComplaint 44 = .ok (.aload_n 0, 1) := by decide +kernel
theorem dX10_tellComplaint_45 : decode cX10_tellComplaint 45 = .ok (.getfield 22, 3) := by decide +kernel
theorem dX10_tellComplaint_48 : decode cX10_tellComplaint 48 = .ok (.invokevirtual 87, 3) := by decide +kernel
theorem dX10_tellComplaint_51 : decode cX10_tellComplaint 51 = .ok (.bipush 60, 2) := by decide +kernel
theorem dX10_tellComplaint_53 : decode cX10_tellComplaint 53 = .ok (.if_icmp .lt 5, 3) := by decide +kernel
theorem dX10_tellComplaint_56 : decode cX10_tellComplaint 56 = .ok (.iconst (-1), 1) := by decide +kernel
theorem dX10_tellComplaint_57 : decode cX10_tellComplaint 57 = .ok (.ireturn, 1) := by decide +kernel
theorem dX10_tellComplaint_58 : decode cX10_tellComplaint 58 = .ok (.aload_n 0, 1) := by decide +kernel
theorem dX10_tellComplaint_59 : decode cX10_tellComplaint 59 = .ok (.getfield 22, 3) := by decide +kernel
theorem dX10_tellComplaint_62 : decode cX10_tellComplaint 62 = .ok (.new 410, 3) := by decide +kernel
theorem dX10_tellComplaint_65 : decode cX10_tellComplaint 65 = .ok (.dup, 1) := by decide +kernel
theorem dX10_tellComplaint_66 : decode cX10_tellComplaint 66 = .ok (.iload_n 1, 1) := by decide +kernel
theorem dX10_tellComplaint_67 : decode cX10_tellComplaint 67 = .ok (.iload_n 2, 1) := by decide +kernel
theorem dX10_tellComplaint_68 : decode cX10_tellComplaint 68 = .ok (.aload_n 0, 1) := by decide +kernel
theorem dX10_tellComplaint_69 : decode cX10_tellComplaint 69 = .ok (.getfield 120, 3) := by decide +kernel
theorem dX10_tellComplaint_72 : decode cX10_tellComplaint 72 = .ok (.invokespecial 415, 3) := by decide +kernel
theorem dX10_tellComplaint_75 : decode cX10_tellComplaint 75 = .ok (.invokevirtual 96, 3) := by decide +kernel
theorem dX10_tellComplaint_78 : decode cX10_tellComplaint 78 = .ok (.pop, 1) := by decide +kernel
theorem dX10_tellComplaint_79 : decode cX10_tellComplaint 79 = .ok (.aload_n 0, 1) := by decide +kernel
theorem dX10_tellComplaint_80 : decode cX10_tellComplaint 80 = .ok (.getfield 22, 3) := by decide +kernel
theorem dX10_tellComplaint_83 : decode cX10_tellComplaint 83 = .ok (.invokevirtual 87, 3) := by decide +kernel
theorem dX10_tellComplaint_86 : decode cX10_tellComplaint 86 = .ok (.iconst 1, 1) := by decide +kernel
theorem dX10_tellComplaint_87 : decode cX10_tellComplaint 87 = .ok (.isub, 1) := by decide +kernel
theorem dX10_tellComplaint_88 : decode cX10_tellComplaint 88 = .ok (.ireturn, 1) := by decide +kernel
theorem dX10_close_0 : decode cX10_close 0 = .ok (.iload_n 1, 1) := by decide +kernel
theorem dX10_close_1 : decode cX10_close 1 = .ok (.iconst 0, 1) := by decide +kernel
theorem dX10_close_2 : decode cX10_close 2 = .ok (.aload_n 0, 1) := by decide +kernel
theorem dX10_close_3 : decode cX10_close 3 = .ok (.getfield 22, 3) := by decide +kernel
theorem dX10_close_6 : decode cX10_close 6 = .ok (.invokevirtual 87, 3) := by decide +kernel
theorem dX10_close_9 : decode cX10_close 9 = .ok (.iconst 1, 1) := by decide +kernel
theorem dX10_close_10 : decode cX10_close 10 = .ok (.isub, 1) := by decide +kernel
theorem dX10_close_11 : decode cX10_close 11 = .ok (.invokestatic 83, 3) := by decide +kernel
theorem dX10_close_14 : decode cX10_close 14 = .ok (.ifCond .eq 20, 3) := by decide +kernel
theorem dX10_close_17 : decode cX10_close 17 = .ok (.aload_n 0, 1) := by decide +kernel
theorem dX10_close_18 : decode cX10_close 18 = .ok (.getfield 22, 3) := by decide +kernel
theorem dX10_close_21 : decode cX10_close 21 = .ok (.iload_n 1, 1) := by decide +kernel
theorem dX10_close_22 : decode cX10_close 22 = .ok (.invokevirtual 232, 3) := by decide +kernel
theorem dX10_close_25 : decode cX10_close 25 = .ok (.checkcast 410, 3) := by decide +kernel
theorem dX10_close_28 : decode cX10_close 28 = .ok (.getfield 418, 3) := by decide +kernel
theorem dX10_close_31 : decode cX10_close 31 = .ok (.ifCond .ne 5, 3) := by decide +kernel
theorem dX10_close_34 : decode cX10_close 34 = .ok (.iconst 0, 1) := by decide +kernel
theorem dX10_close_35 : decode cX10_close 35 = .ok (.ireturn, 1) := by decide +kernel
theorem dX10_close_36 : decode cX10_close 36 = .ok (.aload_n 0, 1) := by decide +kernel
theorem dX10_close_37 : decode cX10_close 37 = .ok (.getfield 22, 3) := by decide +kernel
theorem dX10_close_40 : decode cX10_close 40 = .ok (.iload_n 1, 1) := by decide +kernel
theorem dX10_close_41 : decode cX10_close 41 = .ok (.invokevirtual 232, 3) := by decide +kernel
theorem dX10_close_44 : decode cX10_close 44 = .ok (.checkcast 410, 3) := by decide +kernel
theorem dX10_close_47 : decode cX10_close 47 = .ok (.iconst 0, 1) := by decide +kernel
theorem dX10_close_48 : decode cX10_close 48 = .ok (.putfield 418, 3) := by decide +kernel
theorem dX10_close_51 : decode cX10_close 51 = .ok (.iconst 1, 1) := by decide +kernel
theorem dX10_close_52 : decode cX10_close 52 = .ok (.ireturn, 1) := by decide +kernel
theorem dX10_complaint_0 : decode cX10_complaint 0 = .ok (.iload_n 1, 1) := by decide +kernel
theorem dX10_complaint_1 : decode cX10_complaint 1 = .ok (.iconst 0, 1) := by decide +kernel
theorem dX10_complaint_2 : decode cX10_complaint 2 = .ok (.aload_n 0, 1) := by decide +kernel
theorem dX10_complaint_3 : decode cX10_complaint 3 = .ok (.getfield 22, 3) := by decide +kernel
theorem dX10_complaint_6 : decode cX10_complaint 6 = .ok (.invokevirtual 87, 3) := by decide +kernel
theorem dX10_complaint_9 : decode cX10_complaint 9 = .ok (.iconst 1, 1) := by decide +kernel
theorem dX10_complaint_10 : decode cX10_complaint 10 = .ok (.isub, 1) := by decide +kernel
theorem dX10_complaint_11 : decode cX10_complaint 11 = .ok (.invokestatic 83, 3) := by decide +kernel
theorem dX10_complaint_14 : decode cX10_complaint 14 = .ok (.ifCond .ne 5, 3) := by decide +kernel
theorem dX10_complaint_17 : decode cX10_complaint 17 = .ok (.iconst (-1), 1) := by decide +kernel
theorem dX10_complaint_18 : decode cX10_complaint 18 = .ok (.ireturn, 1) := by decide +kernel
theorem dX10_complaint_19 : decode cX10_complaint 19 = .ok (.aload_n 0, 1) := by decide +kernel
theorem dX10_complaint_20 : decode cX10_complaint 20 = .ok (.getfield 22, 3) := by decide +kernel
theorem dX10_complaint_23 : decode cX10_complaint 23 = .ok (.iload_n 1, 1) := by decide +kernel
theorem dX10_complaint_24 : decode cX10_complaint 24 = .ok (.invokevirtual 232, 3) := by decide +kernel
theorem dX10_complaint_27 : decode cX10_complaint 27 = .ok (.checkcast 410, 3) := by decide +kernel
theorem dX10_complaint_30 : decode cX10_complaint 30 = .ok (.astore_n 3, 1) := by decide +kernel
theorem dX10_complaint_31 : decode cX10_complaint 31 = .ok (.iload_n 2, 1) := by decide +kernel
theorem dX10_complaint_32 : decode cX10_complaint 32 = .ok (.tableswitch 78 0 5 #[40, 45, 50, 55, 60, 65], 40) := by decide +kernel
theorem dX10_complaint_72 : decode cX10_complaint 72 = .ok (.aload_n 3, 1) := by decide +kernel
theorem dX10_complaint_73 : decode cX10_complaint 73 = .ok (.getfield 421, 3) := by decide +kernel
theorem dX10_complaint_76 : decode cX10_complaint 76 = .ok (.ireturn, 1) := by decide +kernel
theorem dX10_complaint_77 : decode cX10_complaint 77 = .ok (.aload_n 3, 1) := by decide +kernel
theorem dX10_complaint_78 : decode cX10_complaint 78 = .ok (.getfield 422, 3) := by decide +kernel
theorem dX10_complaint_81 : decode cX10_complaint 81 = .ok (.ireturn, 1) := by decide +kernel
theorem dX10_complaint_82 : decode cX10_complaint 82 = .ok (.aload_n 3, 1) := by decide +kernel
theorem dX10_complaint_83 : decode cX10_complaint 83 = .ok (.getfield 425, 3) := by decide +kernel
theorem dX10_complaint_86 : decode cX10_complaint 86 = .ok (.ireturn, 1) := by decide +kernel
theorem dX10_complaint_87 : decode cX10_complaint 87 = .ok (.aload_n 3, 1) := by decide +kernel
theorem dX10_complaint_88 : decode cX10_complaint 88 = .ok (.getfield 426, 3) := by decide +kernel
theorem dX10_complaint_91 : decode cX10_complaint 91 = .ok (.ireturn, 1) := by decide +kernel
theorem dX10_complaint_92 : decode cX10_complaint 92 = .ok (.aload_n 3, 1) := by decide +kernel
theorem dX10_complaint_93 : decode cX10_complaint 93 = .ok (.getfield 429, 3) := by decide +kernel
theorem dX10_complaint_96 : decode cX10_complaint 96 = .ok (.ireturn, 1) := by decide +kernel
theorem dX10_complaint_97 : decode cX10_complaint 97 = .ok (.aload_n 3, 1) := by decide +kernel
theorem dX10_complaint_98 : decode cX10_complaint 98 = .ok (.getfield 418, 3) := by decide +kernel
theorem dX10_complaint_101 : decode cX10_complaint 101 = .ok (.ifCond .eq 7, 3) := by decide +kernel
theorem dX10_complaint_104 : decode cX10_complaint 104 = .ok (.iconst 1, 1) := by decide +kernel
theorem dX10_complaint_105 : decode cX10_complaint 105 = .ok (.goto 4, 3) := by decide +kernel
theorem dX10_complaint_108 : decode cX10_complaint 108 = .ok (.iconst 0, 1) := by decide +kernel
theorem dX10_complaint_109 : decode cX10_complaint 109 = .ok (.ireturn, 1) := by decide +kernel
theorem dX10_complaint_110 : decode cX10_complaint 110 = .ok (.iconst (-1), 1) := by decide +kernel
theorem dX10_complaint_111 : decode cX10_complaint 111 = .ok (.ireturn, 1) := by decide +kernel
theorem dX10_feed_0 : decode cX10_feed 0 = .ok (.aload_n 0, 1) := by decide +kernel
theorem dX10_feed_1 : decode cX10_feed 1 = .ok (.getfield 40, 3) := by decide +kernel
theorem dX10_feed_4 : decode cX10_feed 4 = .ok (.getfield 432, 3) := by decide +kernel
theorem dX10_feed_7 : decode cX10_feed 7 = .ok (.bipush 20, 2) := by decide +kernel
theorem dX10_feed_9 : decode cX10_feed 9 = .ok (.iadd, 1) := by decide +kernel
theorem dX10_feed_10 : decode cX10_feed 10 = .ok (.sipush 700, 3) := by decide +kernel
theorem dX10_feed_13 : decode cX10_feed 13 = .ok (.if_icmp .le 5, 3) := by decide +kernel
theorem dX10_feed_16 : decode cX10_feed 16 = .ok (.iconst (-1), 1) := by decide +kernel
theorem dX10_feed_17 : decode cX10_feed 17 = .ok (.ireturn, 1) := by decide +kernel
theorem dX10_feed_18 : decode cX10_feed 18 = .ok (.aload_n 0, 1) := by decide +kernel
theorem dX10_feed_19 : decode cX10_feed 19 = .ok (.getfield 40, 3) := by decide +kernel
theorem dX10_feed_22 : decode cX10_feed 22 = .ok (.iload_n 1, 1) := by decide +kernel
theorem dX10_feed_23 : decode cX10_feed 23 = .ok (.invokevirtual 435, 3) := by decide +kernel
theorem dX10_feed_26 : decode cX10_feed 26 = .ok (.aload_n 0, 1) := by decide +kernel
theorem dX10_feed_27 : decode cX10_feed 27 = .ok (.getfield 40, 3) := by decide +kernel
theorem dX10_feed_30 : decode cX10_feed 30 = .ok (.iload_n 2, 1) := by decide +kernel
theorem dX10_feed_31 : decode cX10_feed 31 = .ok (.invokevirtual 435, 3) := by decide +kernel
theorem dX10_feed_34 : decode cX10_feed 34 = .ok (.aload_n 0, 1) := by decide +kernel
theorem dX10_feed_35 : decode cX10_feed 35 = .ok (.getfield 40, 3) := by decide +kernel
theorem dX10_feed_38 : decode cX10_feed 38 = .ok (.iload_n 3, 1) := by decide +kernel
theorem dX10_feed_39 : decode cX10_feed 39 = .ok (.invokevirtual 435, 3) := by decide +kernel
theorem dX10_feed_42 : decode cX10_feed 42 = .ok (.aload_n 0, 1) := by decide +kernel
theorem dX10_feed_43 : decode cX10_feed 43 = .ok (.getfield 40, 3) := by decide +kernel
theorem dX10_feed_46 : decode cX10_feed 46 = .ok (.iload 4, 2) := by decide +kernel
theorem dX10_feed_48 : decode cX10_feed 48 = .ok (.invokevirtual 435, 3) := by decide +kernel
theorem dX10_feed_51 : decode cX10_feed 51 = .ok (.aload_n 0, 1) := by decide +kernel
theorem dX10_feed_52 : decode cX10_feed 52 = .ok (.getfield 40, 3) := by decide +kernel
theorem dX10_feed_55 : decode cX10_feed 55 = .ok (.iload 5, 2) := by decide +kernel
theorem dX10_feed_57 : decode cX10_feed 57 = .ok (.invokevirtual 435, 3) := by decide +kernel
theorem dX10_feed_60 : decode cX10_feed 60 = .ok (.aload_n 0, 1) := by decide +kernel
theorem dX10_feed_61 : decode cX10_feed 61 = .ok (.getfield 40, 3) := by decide +kernel
theorem dX10_feed_64 : decode cX10_feed 64 = .ok (.getfield 432, 3) := by decide +kernel
theorem dX10_feed_67 : decode cX10_feed 67 = .ok (.ireturn, 1) := by decide +kernel
theorem dX10_rules_0 : decode cX10_rules 0 = .ok (.iload_n 1, 1) := by decide +kernel
theorem dX10_rules_1 : decode cX10_rules 1 = .ok (.iconst 0, 1) := by decide +kernel
theorem dX10_rules_2 : decode cX10_rules 2 = .ok (.aload_n 0, 1) := by decide +kernel
theorem dX10_rules_3 : decode cX10_rules 3 = .ok (.getfield 40, 3) := by decide +kernel
theorem dX10_rules_6 : decode cX10_rules 6 = .ok (.getfield 432, 3) := by decide +kernel
theorem dX10_rules_9 : decode cX10_rules 9 = .ok (.invokestatic 83, 3) := by decide +kernel
theorem dX10_rules_12 : decode cX10_rules 12 = .ok (.ifCond .ne 6, 3) := by decide +kernel
theorem dX10_rules_15 : decode cX10_rules 15 = .ok (.bipush (-2), 2) := by decide +kernel
theorem dX10_rules_17 : decode cX10_rules 17 = .ok (.ireturn, 1) := by decide +kernel
theorem dX10_rules_18 : decode cX10_rules 18 = .ok (.aload_n 0, 1) := by decide +kernel
theorem dX10_rules_19 : decode cX10_rules 19 = .ok (.getfield 25, 3) := by decide +kernel
theorem dX10_rules_22 : decode cX10_rules 22 = .ok (.invokevirtual 87, 3) := by decide +kernel
theorem dX10_rules_25 : decode cX10_rules 25 = .ok (.bipush 10, 2) := by decide +kernel
theorem dX10_rules_27 : decode cX10_rules 27 = .ok (.if_icmp .lt 6, 3) := by decide +kernel
theorem dX10_rules_30 : decode cX10_rules 30 = .ok (.bipush (-3), 2) := by decide +kernel
theorem dX10_rules_32 : decode cX10_rules 32 = .ok (.ireturn, 1) := by decide +kernel
theorem dX10_rules_33 : decode cX10_rules 33 = .ok (.new 28, 3) := by decide +kernel
theorem dX10_rules_36 : decode cX10_rules 36 = .ok (.dup, 1) := by decide +kernel
theorem dX10_rules_37 : decode cX10_rules 37 = .ok (.aload_n 0, 1) := by decide +kernel
theorem dX10_rules_38 : decode cX10_rules 38 = .ok (.getfield 120, 3) := by decide +kernel
theorem dX10_rules_41 : decode cX10_rules 41 = .ok (.aload_n 0, 1) := by decide +kernel
theorem dX10_rules_42 : decode cX10_rules 42 = .ok (.getfield 25, 3) := by decide +kernel
theorem dX10_rules_45 : decode cX10_rules 45 = .ok (.invokevirtual 87, 3) := by decide +kernel
theorem dX10_rules_48 : decode cX10_rules 48 = .ok (.invokespecial 30, 3) := by decide +kernel
theorem dX10_rules_51 : decode cX10_rules 51 = .ok (.astore_n 2, 1) := by decide +kernel
theorem dX10_rules_52 : decode cX10_rules 52 = .ok (.aload_n 0, 1) := by decide +kernel
theorem dX10_rules_53 : decode cX10_rules 53 = .ok (.aload_n 0, 1) := by decide +kernel
theorem dX10_rules_54 : decode cX10_rules 54 = .ok (.getfield 40, 3) := by decide +kernel
theorem dX10_rules_57 : decode cX10_rules 57 = .ok (.iload_n 1, 1) := by decide +kernel
theorem dX10_rules_58 : decode cX10_rules 58 = .ok (.aload_n 2, 1) := by decide +kernel
theorem dX10_rules_59 : decode cX10_rules 59 = .ok (.invokevirtual 437, 3) := by decide +kernel
theorem dX10_rules_62 : decode cX10_rules 62 = .ok (.putfield 73, 3) := by decide +kernel
theorem dX10_rules_65 : decode cX10_rules 65 = .ok (.aload_n 0, 1) := by decide +kernel
theorem dX10_rules_66 : decode cX10_rules 66 = .ok (.getfield 73, 3) := by decide +kernel
theorem dX10_rules_69 : decode cX10_rules 69 = .ok (.iconst (-1), 1) := by decide +kernel
theorem dX10_rules_70 : decode cX10_rules 70 = .ok (.if_icmp .eq 5, 3) := by decide +kernel
theorem dX10_rules_73 : decode cX10_rules 73 = .ok (.iconst (-1), 1) := by decide +kernel
theorem dX10_rules_74 : decode cX10_rules 74 = .ok (.ireturn, 1) := by decide +kernel
theorem dX10_rules_75 : decode cX10_rules 75 = .ok (.aload_n 0, 1) := by decide +kernel
theorem dX10_rules_76 : decode cX10_rules 76 = .ok (.getfield 25, 3) := by decide +kernel
theorem dX10_rules_79 : decode cX10_rules 79 = .ok (.aload_n 2, 1) := by decide +kernel
theorem dX10_rules_80 : decode cX10_rules 80 = .ok (.invokevirtual 96, 3) := by decide +kernel
theorem dX10_rules_83 : decode cX10_rules 83 = .ok (.pop, 1) := by decide +kernel
theorem dX10_rules_84 : decode cX10_rules 84 = .ok (.aload_n 2, 1) := by decide +kernel
theorem dX10_rules_85 : decode cX10_rules 85 = .ok (.getfield 441, 3) := by decide +kernel
theorem dX10_rules_88 : decode cX10_rules 88 = .ok (.ireturn, 1) := by decide +kernel
theorem dX10_fault_0 : decode cX10_fault 0 = .ok (.aload_n 0, 1) := by decide +kernel
theorem dX10_fault_1 : decode cX10_fault 1 = .ok (.getfield 73, 3) := by decide +kernel
theorem dX10_fault_4 : decode cX10_fault 4 = .ok (.ireturn, 1) := by decide +kernel
theorem dX10_law_0 : decode cX10_law 0 = .ok (.iload_n 1, 1) := by decide +kernel
theorem dX10_law_1 : decode cX10_law 1 = .ok (.iconst 0, 1) := by decide +kernel
theorem dX10_law_2 : decode cX10_law 2 = .ok (.sipush 3649, 3) := by decide +kernel
theorem dX10_law_5 : decode cX10_law 5 = .ok (.invokestatic 83, 3) := by decide +kernel
theorem dX10_law_8 : decode cX10_law 8 = .ok (.ifCond .eq 13, 3) := by decide +kernel
theorem dX10_law_11 : decode cX10_law 11 = .ok (.iload_n 2, 1) := by decide +kernel
theorem dX10_law_12 : decode cX10_law 12 = .ok (.iconst 0, 1) := by decide +kernel
theorem dX10_law_13 : decode cX10_law 13 = .ok (.bipush 22, 2) := by decide +kernel
theorem dX10_law_15 : decode cX10_law 15 = .ok (.invokestatic 83, 3) := by decide +kernel
theorem dX10_law_18 : decode cX10_law 18 = .ok (.ifCond .ne 5, 3) := by decide +kernel
theorem dX10_law_21 : decode cX10_law 21 = .ok (.iconst (-1), 1) := by decide +kernel
theorem dX10_law_22 : decode cX10_law 22 = .ok (.ireturn, 1) := by decide +kernel
theorem dX10_law_23 : decode cX10_law 23 = .ok (.aload_n 0, 1) := by decide +kernel
theorem dX10_law_24 : decode cX10_law 24 = .ok (.iload_n 1, 1) := by decide +kernel
theorem dX10_law_25 : decode cX10_law 25 = .ok (.invokevirtual 123, 3) := by decide +kernel
theorem dX10_law_28 : decode cX10_law 28 = .ok (.astore_n 3, 1) := by decide +kernel
theorem dX10_law_29 : decode cX10_law 29 = .ok (.iload_n 2, 1) := by decide +kernel
theorem dX10_law_30 : decode cX10_law 30 = .ok (.bipush 21, 2) := by decide +kernel
theorem dX10_law_32 : decode cX10_law 32 = .ok (.if_icmp .ge 9, 3) := by decide +kernel
theorem dX10_law_35 : decode cX10_law 35 = .ok (.aload_n 3, 1) := by decide +kernel
theorem dX10_law_36 : decode cX10_law 36 = .ok (.iload_n 2, 1) := by decide +kernel
theorem dX10_law_37 : decode cX10_law 37 = .ok (.invokevirtual 127, 3) := by decide +kernel
theorem dX10_law_40 : decode cX10_law 40 = .ok (.ireturn, 1) := by decide +kernel
theorem dX10_law_41 : decode cX10_law 41 = .ok (.iload_n 2, 1) := by decide +kernel
theorem dX10_law_42 : decode cX10_law 42 = .ok (.bipush 21, 2) := by decide +kernel
theorem dX10_law_44 : decode cX10_law 44 = .ok (.if_icmp .ne 13, 3) := by decide +kernel
theorem dX10_law_47 : decode cX10_law 47 = .ok (.aload_n 3, 1) := by decide +kernel
theorem dX10_law_48 : decode cX10_law 48 = .ok (.getfield 272, 3) := by decide +kernel
theorem dX10_law_51 : decode cX10_law 51 = .ok (.invokevirtual 87, 3) := by decide +kernel
theorem dX10_law_54 : decode cX10_law 54 = .ok (.goto 7, 3) := by decide +kernel
theorem dX10_law_57 : decode cX10_law 57 = .ok (.aload_n 3, 1) := by decide +kernel
theorem dX10_law_58 : decode cX10_law 58 = .ok (.getfield 441, 3) := by decide +kernel
theorem dX10_law_61 : decode cX10_law 61 = .ok (.ireturn, 1) := by decide +kernel
theorem dX10_lawOn_0 : decode cX10_lawOn 0 = .ok (.aload_n 0, 1) := by decide +kernel
theorem dX10_lawOn_1 : decode cX10_lawOn 1 = .ok (.getfield 25, 3) := by decide +kernel
theorem dX10_lawOn_4 : decode cX10_lawOn 4 = .ok (.invokevirtual 87, 3) := by decide +kernel
theorem dX10_lawOn_7 : decode cX10_lawOn 7 = .ok (.iconst 1, 1) := by decide +kernel
theorem dX10_lawOn_8 : decode cX10_lawOn 8 = .ok (.isub, 1) := by decide +kernel
theorem dX10_lawOn_9 : decode cX10_lawOn 9 = .ok (.istore_n 2, 1) := by decide +kernel
theorem dX10_lawOn_10 : decode cX10_lawOn 10 = .ok (.iload_n 2, 1) := by decide +kernel
theorem dX10_lawOn_11 : decode cX10_lawOn 11 = .ok (.ifCond .lt 39, 3) := by decide +kernel
theorem dX10_lawOn_14 : decode cX10_lawOn 14 = .ok (.aload_n 0, 1) := by decide +kernel
theorem dX10_lawOn_15 : decode cX10_lawOn 15 = .ok (.getfield 25, 3) := by decide +kernel
theorem dX10_lawOn_18 : decode cX10_lawOn 18 = .ok (.iload_n 2, 1) := by decide +kernel
theorem dX10_lawOn_19 : decode cX10_lawOn 19 = .ok (.invokevirtual 232, 3) := by decide +kernel
theorem dX10_lawOn_22 : decode cX10_lawOn 22 = .ok (.checkcast 28, 3) := by decide +kernel
theorem dX10_lawOn_25 : decode cX10_lawOn 25 = .ok (.getfield 444, 3) := by decide +kernel
theorem dX10_lawOn_28 : decode cX10_lawOn 28 = .ok (.iload_n 1, 1) := by decide +kernel
theorem dX10_lawOn_29 : decode cX10_lawOn 29 = .ok (.if_icmp .gt 15, 3) := by decide +kernel
theorem dX10_lawOn_32 : decode cX10_lawOn 32 = .ok (.aload_n 0, 1) := by decide +kernel
theorem dX10_lawOn_33 : decode cX10_lawOn 33 = .ok (.getfield 25, 3) := by decide +kernel
theorem dX10_lawOn_36 : decode cX10_lawOn 36 = .ok (.iload_n 2, 1) := by decide +kernel
theorem dX10_lawOn_37 : decode cX10_lawOn 37 = .ok (.invokevirtual 232, 3) := by decide +kernel
theorem dX10_lawOn_40 : decode cX10_lawOn 40 = .ok (.checkcast 28, 3) := by decide +kernel
theorem dX10_lawOn_43 : decode cX10_lawOn 43 = .ok (.areturn, 1) := by decide +kernel
theorem dX10_lawOn_44 : decode cX10_lawOn 44 = .ok (.iinc 2 (-1), 3) := by decide +kernel
theorem dX10_lawOn_47 : decode cX10_lawOn 47 = .ok (.goto (-37), 3) := by decide +kernel
theorem dX10_lawOn_50 : decode cX10_lawOn 50 = .ok (.aload_n 0, 1) := by decide +kernel
theorem dX10_lawOn_51 : decode cX10_lawOn 51 = .ok (.getfield 33, 3) := by decide +kernel
theorem dX10_lawOn_54 : decode cX10_lawOn 54 = .ok (.areturn, 1) := by decide +kernel
theorem dX10_sum_0 : decode cX10_sum 0 = .ok (.iload_n 1, 1) := by decide +kernel
theorem dX10_sum_1 : decode cX10_sum 1 = .ok (.iconst 0, 1) := by decide +kernel
theorem dX10_sum_2 : decode cX10_sum 2 = .ok (.bipush 6, 2) := by decide +kernel
theorem dX10_sum_4 : decode cX10_sum 4 = .ok (.invokestatic 83, 3) := by decide +kernel
theorem dX10_sum_7 : decode cX10_sum 7 = .ok (.ifCond .ne 7, 3) := by decide +kernel
theorem dX10_sum_10 : decode cX10_sum 10 = .ok (.ldc2_w 362, 3) := by decide +kernel
theorem dX10_sum_13 : decode cX10_sum 13 = .ok (.lreturn, 1) := by decide +kernel
theorem dX10_sum_14 : decode cX10_sum 14 = .ok (.iload_n 1, 1) := by decide +kernel
theorem dX10_sum_15 : decode cX10_sum 15 = .ok (.iconst 4, 1) := by decide +kernel
theorem dX10_sum_16 : decode cX10_sum 16 = .ok (.if_icmp .ne 8, 3) := by decide +kernel
theorem dX10_sum_19 : decode cX10_sum 19 = .ok (.aload_n 0, 1) := by decide +kernel
theorem dX10_sum_20 : decode cX10_sum 20 = .ok (.invokevirtual 447, 3) := by decide +kernel
theorem dX10_sum_23 : decode cX10_sum 23 = .ok (.lreturn, 1) := by decide +kernel
theorem dX10_sum_24 : decode cX10_sum 24 = .ok (.iload_n 1, 1) := by decide +kernel
theorem dX10_sum_25 : decode cX10_sum 25 = .ok (.bipush 6, 2) := by decide +kernel
theorem dX10_sum_27 : decode cX10_sum 27 = .ok (.if_icmp .ne 10, 3) := by decide +kernel
theorem dX10_sum_30 : decode cX10_sum 30 = .ok (.aload_n 0, 1) := by decide +kernel
theorem dX10_sum_31 : decode cX10_sum 31 = .ok (.invokevirtual 451, 3) := by decide +kernel
theorem dX10_sum_34 : decode cX10_sum 34 = .ok (.goto 9, 3) := by decide +kernel
theorem dX10_sum_37 : decode cX10_sum 37 = .ok (.aload_n 0, 1) := by decide +kernel
theorem dX10_sum_38 : decode cX10_sum 38 = .ok (.getfield 69, 3) := by decide +kernel
theorem dX10_sum_41 : decode cX10_sum 41 = .ok (.iload_n 1, 1) := by decide +kernel
theorem dX10_sum_42 : decode cX10_sum 42 = .ok (.laload, 1) := by decide +kernel
theorem dX10_sum_43 : decode cX10_sum 43 = .ok (.lreturn, 1) := by decide +kernel
theorem dX10_inBowls_0 : decode cX10_inBowls 0 = .ok (.lconst 0, 1) := by decide +kernel
theorem dX10_inBowls_1 : decode cX10_inBowls 1 = .ok (.lstore_n 1, 1) := by decide +kernel
theorem dX10_inBowls_2 : decode cX10_inBowls 2 = .ok (.iconst 0, 1) := by decide +kernel
theorem dX10_inBowls_3 : decode cX10_inBowls 3 = .ok (.istore_n 3, 1) := by decide +kernel
theorem dX10_inBowls_4 : decode cX10_inBowls 4 = .ok (.iload_n 3, 1) := by decide +kernel
theorem dX10_inBowls_5 : decode cX10_inBowls 5 = .ok (.aload_n 0, 1) := by decide +kernel
theorem dX10_inBowls_6 : decode cX10_inBowls 6 = .ok (.getfield 10, 3) := by decide +kernel
theorem dX10_inBowls_9 : decode cX10_inBowls 9 = .ok (.invokevirtual 87, 3) := by decide +kernel
theorem dX10_inBowls_12 : decode cX10_inBowls 12 = .ok (.if_icmp .ge 43, 3) := by decide +kernel
theorem dX10_inBowls_15 : decode cX10_inBowls 15 = .ok (.aload_n 0, 1) := by decide +kernel
theorem dX10_inBowls_16 : decode cX10_inBowls 16 = .ok (.getfield 10, 3) := by decide +kernel
theorem dX10_inBowls_19 : decode cX10_inBowls 19 = .ok (.iload_n 3, 1) := by decide +kernel
theorem dX10_inBowls_20 : decode cX10_inBowls 20 = .ok (.invokevirtual 232, 3) := by decide +kernel
theorem dX10_inBowls_23 : decode cX10_inBowls 23 = .ok (.checkcast 91, 3) := by decide +kernel
theorem dX10_inBowls_26 : decode cX10_inBowls 26 = .ok (.getfield 110, 3) := by decide +kernel
theorem dX10_inBowls_29 : decode cX10_inBowls 29 = .ok (.astore 4, 2) := by decide +kernel
theorem dX10_inBowls_31 : decode cX10_inBowls 31 = .ok (.lload_n 1, 1) := by decide +kernel
theorem dX10_inBowls_32 : decode cX10_inBowls 32 = .ok (.aload 4, 2) := by decide +kernel
theorem dX10_inBowls_34 : decode cX10_inBowls 34 = .ok (.ifnonnull 7, 3) := by decide +kernel
theorem dX10_inBowls_37 : decode cX10_inBowls 37 = .ok (.lconst 0, 1) := by decide +kernel
theorem dX10_inBowls_38 : decode cX10_inBowls 38 = .ok (.goto 9, 3) := by decide +kernel
theorem dX10_inBowls_41 : decode cX10_inBowls 41 = .ok (.aload 4, 2) := by decide +kernel
theorem dX10_inBowls_43 : decode cX10_inBowls 43 = .ok (.getfield 204, 3) := by decide +kernel
theorem dX10_inBowls_46 : decode cX10_inBowls 46 = .ok (.i2l, 1) := by decide +kernel
theorem dX10_inBowls_47 : decode cX10_inBowls 47 = .ok (.ladd, 1) := by decide +kernel
theorem dX10_inBowls_48 : decode cX10_inBowls 48 = .ok (.lstore_n 1, 1) := by decide +kernel
theorem dX10_inBowls_49 : decode cX10_inBowls 49 = .ok (.iinc 3 1, 3) := by decide +kernel
theorem dX10_inBowls_52 : decode cX10_inBowls 52 = .ok (.goto (-48), 3) := by decide +kernel
theorem dX10_inBowls_55 : decode cX10_inBowls 55 = .ok (.lload_n 1, 1) := by decide +kernel
theorem dX10_inBowls_56 : decode cX10_inBowls 56 = .ok (.lreturn, 1) := by decide +kernel
theorem dX10_inBarrels_0 : decode cX10_inBarrels 0 = .ok (.lconst 0, 1) := by decide +kernel
theorem dX10_inBarrels_1 : decode cX10_inBarrels 1 = .ok (.lstore_n 1, 1) := by decide +kernel
theorem dX10_inBarrels_2 : decode cX10_inBarrels 2 = .ok (.iconst 0, 1) := by decide +kernel
theorem dX10_inBarrels_3 : decode cX10_inBarrels 3 = .ok (.istore_n 3, 1) := by decide +kernel
theorem dX10_inBarrels_4 : decode cX10_inBarrels 4 = .ok (.iload_n 3, 1) := by decide +kernel
theorem dX10_inBarrels_5 : decode cX10_inBarrels 5 = .ok (.aload_n 0, 1) := by decide +kernel
theorem dX10_inBarrels_6 : decode cX10_inBarrels 6 = .ok (.getfield 16, 3) := by decide +kernel
theorem dX10_inBarrels_9 : decode cX10_inBarrels 9 = .ok (.invokevirtual 87, 3) := by decide +kernel
theorem dX10_inBarrels_12 : decode cX10_inBarrels 12 = .ok (.if_icmp .ge 27, 3) := by decide +kernel
theorem dX10_inBarrels_15 : decode cX10_inBarrels 15 = .ok (.lload_n 1, 1) := by decide +kernel
theorem dX10_inBarrels_16 : decode cX10_inBarrels 16 = .ok (.aload_n 0, 1) := by decide +kernel
theorem dX10_inBarrels_17 : decode cX10_inBarrels 17 = .ok (.getfield 16, 3) := by decide +kernel
theorem dX10_inBarrels_20 : decode cX10_inBarrels 20 = .ok (.iload_n 3, 1) := by decide +kernel
theorem dX10_inBarrels_21 : decode cX10_inBarrels 21 = .ok (.invokevirtual 232, 3) := by decide +kernel
theorem dX10_inBarrels_24 : decode cX10_inBarrels 24 = .ok (.checkcast 107, 3) := by decide +kernel
theorem dX10_inBarrels_27 : decode cX10_inBarrels 27 = .ok (.getfield 228, 3) := by decide +kernel
theorem dX10_inBarrels_30 : decode cX10_inBarrels 30 = .ok (.i2l, 1) := by decide +kernel
theorem dX10_inBarrels_31 : decode cX10_inBarrels 31 = .ok (.ladd, 1) := by decide +kernel
theorem dX10_inBarrels_32 : decode cX10_inBarrels 32 = .ok (.lstore_n 1, 1) := by decide +kernel
theorem dX10_inBarrels_33 : decode cX10_inBarrels 33 = .ok (.iinc 3 1, 3) := by decide +kernel
theorem dX10_inBarrels_36 : decode cX10_inBarrels 36 = .ok (.goto (-32), 3) := by decide +kernel
theorem dX10_inBarrels_39 : decode cX10_inBarrels 39 = .ok (.lload_n 1, 1) := by decide +kernel
theorem dX10_inBarrels_40 : decode cX10_inBarrels 40 = .ok (.lreturn, 1) := by decide +kernel
theorem dX10_count_0 : decode cX10_count 0 = .ok (.iload_n 1, 1) := by decide +kernel
theorem dX10_count_1 : decode cX10_count 1 = .ok (.tableswitch 152 0 12 #[67, 72, 80, 88, 94, 99, 104, 112, 120, 125, 133, 138, 144], 67) := by decide +kernel
theorem dX10_count_68 : decode cX10_count 68 = .ok (.aload_n 0, 1) := by decide +kernel
theorem dX10_count_69 : decode cX10_count 69 = .ok (.getfield 120, 3) := by decide +kernel
theorem dX10_count_72 : decode cX10_count 72 = .ok (.ireturn, 1) := by decide +kernel
theorem dX10_count_73 : decode cX10_count 73 = .ok (.aload_n 0, 1) := by decide +kernel
theorem dX10_count_74 : decode cX10_count 74 = .ok (.getfield 10, 3) := by decide +kernel
theorem dX10_count_77 : decode cX10_count 77 = .ok (.invokevirtual 87, 3) := by decide +kernel
theorem dX10_count_80 : decode cX10_count 80 = .ok (.ireturn, 1) := by decide +kernel
theorem dX10_count_81 : decode cX10_count 81 = .ok (.aload_n 0, 1) := by decide +kernel
theorem dX10_count_82 : decode cX10_count 82 = .ok (.getfield 16, 3) := by decide +kernel
theorem dX10_count_85 : decode cX10_count 85 = .ok (.invokevirtual 87, 3) := by decide +kernel
theorem dX10_count_88 : decode cX10_count 88 = .ok (.ireturn, 1) := by decide +kernel
theorem dX10_count_89 : decode cX10_count 89 = .ok (.aload_n 0, 1) := by decide +kernel
theorem dX10_count_90 : decode cX10_count 90 = .ok (.iconst 0, 1) := by decide +kernel
theorem dX10_count_91 : decode cX10_count 91 = .ok (.invokevirtual 454, 3) := by decide +kernel
theorem dX10_count_94 : decode cX10_count 94 = .ok (.ireturn, 1) := by decide +kernel
theorem dX10_count_95 : decode cX10_count 95 = .ok (.aload_n 0, 1) := by decide +kernel
theorem dX10_count_96 : decode cX10_count 96 = .ok (.invokevirtual 114, 3) := by decide +kernel
theorem dX10_count_99 : decode cX10_count 99 = .ok (.ireturn, 1) := by decide +kernel
theorem dX10_count_100 : decode cX10_count 100 = .ok (.aload_n 0, 1) := by decide +kernel
theorem dX10_count_101 : decode cX10_count 101 = .ok (.getfield 315, 3) := by decide +kernel
theorem dX10_count_104 : decode cX10_count 104 = .ok (.ireturn, 1) := by decide +kernel
theorem dX10_count_105 : decode cX10_count 105 = .ok (.aload_n 0, 1) := by decide +kernel
theorem dX10_count_106 : decode cX10_count 106 = .ok (.getfield 19, 3) := by decide +kernel
theorem dX10_count_109 : decode cX10_count 109 = .ok (.invokevirtual 87, 3) := by decide +kernel
theorem dX10_count_112 : decode cX10_count 112 = .ok (.ireturn, 1) := by decide +kernel
theorem dX10_count_113 : decode cX10_count 113 = .ok (.aload_n 0, 1) := by decide +kernel
theorem dX10_count_114 : decode cX10_count 114 = .ok (.getfield 25, 3) := by decide +kernel
theorem dX10_count_117 : decode cX10_count 117 = .ok (.invokevirtual 87, 3) := by decide +kernel
theorem dX10_count_120 : decode cX10_count 120 = .ok (.ireturn, 1) := by decide +kernel
theorem dX10_count_121 : decode cX10_count 121 = .ok (.aload_n 0, 1) := by decide +kernel
theorem dX10_count_122 : decode cX10_count 122 = .ok (.getfield 398, 3) := by decide +kernel
theorem dX10_count_125 : decode cX10_count 125 = .ok (.ireturn, 1) := by decide +kernel
theorem dX10_count_126 : decode cX10_count 126 = .ok (.aload_n 0, 1) := by decide +kernel
theorem dX10_count_127 : decode cX10_count 127 = .ok (.getfield 22, 3) := by decide +kernel
theorem dX10_count_130 : decode cX10_count 130 = .ok (.invokevirtual 87, 3) := by decide +kernel
theorem dX10_count_133 : decode cX10_count 133 = .ok (.ireturn, 1) := by decide +kernel
theorem dX10_count_134 : decode cX10_count 134 = .ok (.aload_n 0, 1) := by decide +kernel
theorem dX10_count_135 : decode cX10_count 135 = .ok (.invokevirtual 458, 3) := by decide +kernel
theorem dX10_count_138 : decode cX10_count 138 = .ok (.ireturn, 1) := by decide +kernel
theorem dX10_count_139 : decode cX10_count 139 = .ok (.aload_n 0, 1) := by decide +kernel
theorem dX10_count_140 : decode cX10_count 140 = .ok (.iconst 1, 1) := by decide +kernel
theorem dX10_count_141 : decode cX10_count 141 = .ok (.invokevirtual 454, 3) := by decide +kernel
theorem dX10_count_144 : decode cX10_count 144 = .ok (.ireturn, 1) := by decide +kernel
theorem dX10_count_145 : decode cX10_count 145 = .ok (.aload_n 0, 1) := by decide +kernel
theorem dX10_count_146 : decode cX10_count 146 = .ok (.getfield 40, 3) := by decide +kernel
theorem dX10_count_149 : decode cX10_count 149 = .ok (.getfield 432, 3) := by decide +kernel
theorem dX10_count_152 : decode cX10_count 152 = .ok (.ireturn, 1) := by decide +kernel
theorem dX10_count_153 : decode cX10_count 153 = .ok (.iconst (-1), 1) := by decide +kernel
theorem dX10_count_154 : decode cX10_count 154 = .ok (.ireturn, 1) := by decide +kernel
theorem dX10_countBeds_0 : decode cX10_countBeds 0 = .ok (.iconst 0, 1) := by decide +kernel
theorem dX10_countBeds_1 : decode cX10_countBeds 1 = .ok (.istore_n 2, 1) := by decide +kernel
theorem dX10_countBeds_2 : decode cX10_countBeds 2 = .ok (.iconst 0, 1) := by decide +kernel
theorem dX10_countBeds_3 : decode cX10_countBeds 3 = .ok (.istore_n 3, 1) := by decide +kernel
theorem dX10_countBeds_4 : decode cX10_countBeds 4 = .ok (.iload_n 3, 1) := by decide +kernel
theorem dX10_countBeds_5 : decode cX10_countBeds 5 = .ok (.aload_n 0, 1) := by decide +kernel
theorem dX10_countBeds_6 : decode cX10_countBeds 6 = .ok (.getfield 10, 3) := by decide +kernel
theorem dX10_countBeds_9 : decode cX10_countBeds 9 = .ok (.invokevirtual 87, 3) := by decide +kernel
theorem dX10_countBeds_12 : decode cX10_countBeds 12 = .ok (.if_icmp .ge 50, 3) := by decide +kernel
theorem dX10_countBeds_15 : decode cX10_countBeds 15 = .ok (.aload_n 0, 1) := by decide +kernel
theorem dX10_countBeds_16 : decode cX10_countBeds 16 = .ok (.getfield 10, 3) := by decide +kernel
theorem dX10_countBeds_19 : decode cX10_countBeds 19 = .ok (.iload_n 3, 1) := by decide +kernel
theorem dX10_countBeds_20 : decode cX10_countBeds 20 = .ok (.invokevirtual 232, 3) := by decide +kernel
theorem dX10_countBeds_23 : decode cX10_countBeds 23 = .ok (.checkcast 91, 3) := by decide +kernel
theorem dX10_countBeds_26 : decode cX10_countBeds 26 = .ok (.getfield 110, 3) := by decide +kernel
theorem dX10_countBeds_29 : decode cX10_countBeds 29 = .ok (.astore 4, 2) := by decide +kernel
theorem dX10_countBeds_31 : decode cX10_countBeds 31 = .ok (.iload_n 2, 1) := by decide +kernel
theorem dX10_countBeds_32 : decode cX10_countBeds 32 = .ok (.aload 4, 2) := by decide +kernel
theorem dX10_countBeds_34 : decode cX10_countBeds 34 = .ok (.ifnull 19, 3) := by decide +kernel
theorem dX10_countBeds_37 : decode cX10_countBeds 37 = .ok (.iload_n 1, 1) := by decide +kernel
theorem dX10_countBeds_38 : decode cX10_countBeds 38 = .ok (.ifCond .eq 11, 3) := by decide +kernel
theorem dX10_countBeds_41 : decode cX10_countBeds 41 = .ok (.aload 4, 2) := by decide +kernel
theorem dX10_countBeds_43 : decode cX10_countBeds 43 = .ok (.getfield 153, 3) := by decide +kernel
theorem dX10_countBeds_46 : decode cX10_countBeds 46 = .ok (.ifCond .ne 7, 3) := by decide +kernel
theorem dX10_countBeds_49 : decode cX10_countBeds 49 = .ok (.iconst 1, 1) := by decide +kernel
theorem dX10_countBeds_50 : decode cX10_countBeds 50 = .ok (.goto 4, 3) := by decide +kernel
theorem dX10_countBeds_53 : decode cX10_countBeds 53 = .ok (.iconst 0, 1) := by decide +kernel
theorem dX10_countBeds_54 : decode cX10_countBeds 54 = .ok (.iadd, 1) := by decide +kernel
theorem dX10_countBeds_55 : decode cX10_countBeds 55 = .ok (.istore_n 2, 1) := by decide +kernel
theorem dX10_countBeds_56 : decode cX10_countBeds 56 = .ok (.iinc 3 1, 3) := by decide +kernel
theorem dX10_countBeds_59 : decode cX10_countBeds 59 = .ok (.goto (-55), 3) := by decide +kernel
theorem dX10_countBeds_62 : decode cX10_countBeds 62 = .ok (.iload_n 2, 1) := by decide +kernel
theorem dX10_countBeds_63 : decode cX10_countBeds 63 = .ok (.ireturn, 1) := by decide +kernel
theorem dX10_countOpen_0 : decode cX10_countOpen 0 = .ok (.iconst 0, 1) := by decide +kernel
theorem dX10_countOpen_1 : decode cX10_countOpen 1 = .ok (.istore_n 1, 1) := by decide +kernel
theorem dX10_countOpen_2 : decode cX10_countOpen 2 = .ok (.iconst 0, 1) := by decide +kernel
theorem dX10_countOpen_3 : decode cX10_countOpen 3 = .ok (.istore_n 2, 1) := by decide +kernel
theorem dX10_countOpen_4 : decode cX10_countOpen 4 = .ok (.iload_n 2, 1) := by decide +kernel
theorem dX10_countOpen_5 : decode cX10_countOpen 5 = .ok (.aload_n 0, 1) := by decide +kernel
theorem dX10_countOpen_6 : decode cX10_countOpen 6 = .ok (.getfield 22, 3) := by decide +kernel
theorem dX10_countOpen_9 : decode cX10_countOpen 9 = .ok (.invokevirtual 87, 3) := by decide +kernel
theorem dX10_countOpen_12 : decode cX10_countOpen 12 = .ok (.if_icmp .ge 34, 3) := by decide +kernel
theorem dX10_countOpen_15 : decode cX10_countOpen 15 = .ok (.iload_n 1, 1) := by decide +kernel
theorem dX10_countOpen_16 : decode cX10_countOpen 16 = .ok (.aload_n 0, 1) := by decide +kernel
theorem dX10_countOpen_17 : decode cX10_countOpen 17 = .ok (.getfield 22, 3) := by decide +kernel
theorem dX10_countOpen_20 : decode cX10_countOpen 20 = .ok (.iload_n 2, 1) := by decide +kernel
theorem dX10_countOpen_21 : decode cX10_countOpen 21 = .ok (.invokevirtual 232, 3) := by decide +kernel
theorem dX10_countOpen_24 : decode cX10_countOpen 24 = .ok (.checkcast 410, 3) := by decide +kernel
theorem dX10_countOpen_27 : decode cX10_countOpen 27 = .ok (.getfield 418, 3) := by decide +kernel
theorem dX10_countOpen_30 : decode cX10_countOpen 30 = .ok (.ifCond .eq 7, 3) := by decide +kernel
theorem dX10_countOpen_33 : decode cX10_countOpen 33 = .ok (.iconst 1, 1) := by decide +kernel
theorem dX10_countOpen_34 : decode cX10_countOpen 34 = .ok (.goto 4, 3) := by decide +kernel
theorem dX10_countOpen_37 : decode cX10_countOpen 37 = .ok (.iconst 0, 1) := by decide +kernel
theorem dX10_countOpen_38 : decode cX10_countOpen 38 = .ok (.iadd, 1) := by decide +kernel
theorem dX10_countOpen_39 : decode cX10_countOpen 39 = .ok (.istore_n 1, 1) := by decide +kernel
theorem dX10_countOpen_40 : decode cX10_countOpen 40 = .ok (.iinc 2 1, 3) := by decide +kernel
theorem dX10_countOpen_43 : decode cX10_countOpen 43 = .ok (.goto (-39), 3) := by decide +kernel
theorem dX10_countOpen_46 : decode cX10_countOpen 46 = .ok (.iload_n 1, 1) := by decide +kernel
theorem dX10_countOpen_47 : decode cX10_countOpen 47 = .ok (.ireturn, 1) := by decide +kernel
theorem dX10_within_0 : decode cX10_within 0 = .ok (.iload_n 0, 1) := by decide +kernel
theorem dX10_within_1 : decode cX10_within 1 = .ok (.iload_n 1, 1) := by decide +kernel
theorem dX10_within_2 : decode cX10_within 2 = .ok (.if_icmp .lt 12, 3) := by decide +kernel
theorem dX10_within_5 : decode cX10_within 5 = .ok (.iload_n 0, 1) := by decide +kernel
theorem dX10_within_6 : decode cX10_within 6 = .ok (.iload_n 2, 1) := by decide +kernel
theorem dX10_within_7 : decode cX10_within 7 = .ok (.if_icmp .gt 7, 3) := by decide +kernel
theorem dX10_within_10 : decode cX10_within 10 = .ok (.iconst 1, 1) := by decide +kernel
theorem dX10_within_11 : decode cX10_within 11 = .ok (.goto 4, 3) := by decide +kernel
theorem dX10_within_14 : decode cX10_within 14 = .ok (.iconst 0, 1) := by decide +kernel
theorem dX10_within_15 : decode cX10_within 15 = .ok (.ireturn, 1) := by decide +kernel
theorem dX10_holds_0 : decode cX10_holds 0 = .ok (.iload_n 0, 1) := by decide +kernel
theorem dX10_holds_1 : decode cX10_holds 1 = .ok (.iload_n 1, 1) := by decide +kernel
theorem dX10_holds_2 : decode cX10_holds 2 = .ok (.ishr, 1) := by decide +kernel
theorem dX10_holds_3 : decode cX10_holds 3 = .ok (.iconst 1, 1) := by decide +kernel
theorem dX10_holds_4 : decode cX10_holds 4 = .ok (.iand, 1) := by decide +kernel
theorem dX10_holds_5 : decode cX10_holds 5 = .ok (.iconst 1, 1) := by decide +kernel
theorem dX10_holds_6 : decode cX10_holds 6 = .ok (.if_icmp .ne 7, 3) := by decide +kernel
theorem dX10_holds_9 : decode cX10_holds 9 = .ok (.iconst 1, 1) := by decide +kernel
theorem dX10_holds_10 : decode cX10_holds 10 = .ok (.goto 4, 3) := by decide +kernel
theorem dX10_holds_13 : decode cX10_holds 13 = .ok (.iconst 0, 1) := by decide +kernel
theorem dX10_holds_14 : decode cX10_holds 14 = .ok (.ireturn, 1) := by decide +kernel
