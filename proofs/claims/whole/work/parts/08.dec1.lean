theorem dJ0_length_8abf5_0 : decode cJ0_length_8abf5 0 = .ok (.aload_n 0, 1) := by decide +kernel
theorem dJ0_length_8abf5_1 : decode cJ0_length_8abf5 1 = .ok (.getfield 9, 3) := by decide +kernel
theorem dJ0_length_8abf5_4 : decode cJ0_length_8abf5 4 = .ok (.arraylength, 1) := by decide +kernel
theorem dJ0_length_8abf5_5 : decode cJ0_length_8abf5 5 = .ok (.aload_n 0, 1) := by decide +kernel
theorem dJ0_length_8abf5_6 : decode cJ0_length_8abf5 6 = .ok (.invokevirtual 335, 3) := by decide +kernel
theorem dJ0_length_8abf5_9 : decode cJ0_length_8abf5 9 = .ok (.ishr, 1) := by decide +kernel
theorem dJ0_length_8abf5_10 : decode cJ0_length_8abf5 10 = .ok (.ireturn, 1) := by decide +kernel
theorem dJ0_charAt_5068e_0 : decode cJ0_charAt_5068e 0 = .ok (.aload_n 0, 1) := by decide +kernel
theorem dJ0_charAt_5068e_1 : decode cJ0_charAt_5068e 1 = .ok (.invokevirtual 492, 3) := by decide +kernel
theorem dJ0_charAt_5068e_4 : decode cJ0_charAt_5068e 4 = .ok (.ifCond .eq 12, 3) := by decide +kernel
theorem dJ0_charAt_5068e_7 : decode cJ0_charAt_5068e 7 = .ok (.aload_n 0, 1) := by decide +kernel
theorem dJ0_charAt_5068e_8 : decode cJ0_charAt_5068e 8 = .ok (.getfield 9, 3) := by decide +kernel
theorem dJ0_charAt_5068e_11 : decode cJ0_charAt_5068e 11 = .ok (.iload_n 1, 1) := by decide +kernel
theorem dJ0_charAt_5068e_12 : decode cJ0_charAt_5068e 12 = .ok (.invokestatic 495, 3) := by decide +kernel
theorem dJ0_charAt_5068e_15 : decode cJ0_charAt_5068e 15 = .ok (.ireturn, 1) := by decide +kernel
theorem dJ0_charAt_5068e_16 : decode cJ0_charAt_5068e 16 = .ok (.aload_n 0, 1) := by decide +kernel
theorem dJ0_charAt_5068e_17 : decode cJ0_charAt_5068e 17 = .ok (.getfield 9, 3) := by decide +kernel
theorem dJ0_charAt_5068e_20 : decode cJ0_charAt_5068e 20 = .ok (.iload_n 1, 1) := by decide +kernel
theorem dJ0_charAt_5068e_21 : decode cJ0_charAt_5068e 21 = .ok (.invokestatic 498, 3) := by decide +kernel
theorem dJ0_charAt_5068e_24 : decode cJ0_charAt_5068e 24 = .ok (.ireturn, 1) := by decide +kernel
theorem dJ0_coder_7d493_0 : decode cJ0_coder_7d493 0 = .ok (.getstatic 38, 3) := by decide +kernel
theorem dJ0_coder_7d493_3 : decode cJ0_coder_7d493 3 = .ok (.ifCond .eq 10, 3) := by decide +kernel
theorem dJ0_coder_7d493_6 : decode cJ0_coder_7d493 6 = .ok (.aload_n 0, 1) := by decide +kernel
theorem dJ0_coder_7d493_7 : decode cJ0_coder_7d493 7 = .ok (.getfield 15, 3) := by decide +kernel
theorem dJ0_coder_7d493_10 : decode cJ0_coder_7d493 10 = .ok (.goto 4, 3) := by decide +kernel
theorem dJ0_coder_7d493_13 : decode cJ0_coder_7d493 13 = .ok (.iconst 1, 1) := by decide +kernel
theorem dJ0_coder_7d493_14 : decode cJ0_coder_7d493 14 = .ok (.ireturn, 1) := by decide +kernel
theorem dJ0_isLatin1_aae02_0 : decode cJ0_isLatin1_aae02 0 = .ok (.getstatic 38, 3) := by decide +kernel
theorem dJ0_isLatin1_aae02_3 : decode cJ0_isLatin1_aae02 3 = .ok (.ifCond .eq 14, 3) := by decide +kernel
theorem dJ0_isLatin1_aae02_6 : decode cJ0_isLatin1_aae02 6 = .ok (.aload_n 0, 1) := by decide +kernel
theorem dJ0_isLatin1_aae02_7 : decode cJ0_isLatin1_aae02 7 = .ok (.getfield 15, 3) := by decide +kernel
theorem dJ0_isLatin1_aae02_10 : decode cJ0_isLatin1_aae02 10 = .ok (.ifCond .ne 7, 3) := by decide +kernel
theorem dJ0_isLatin1_aae02_13 : decode cJ0_isLatin1_aae02 13 = .ok (.iconst 1, 1) := by decide +kernel
theorem dJ0_isLatin1_aae02_14 : decode cJ0_isLatin1_aae02 14 = .ok (.goto 4, 3) := by decide +kernel
theorem dJ0_isLatin1_aae02_17 : decode cJ0_isLatin1_aae02 17 = .ok (.iconst 0, 1) := by decide +kernel
theorem dJ0_isLatin1_aae02_18 : decode cJ0_isLatin1_aae02 18 = .ok (.ireturn, 1) := by decide +kernel
theorem dJ0_checkIndex_df160_0 : decode cJ0_checkIndex_df160 0 = .ok (.iload_n 0, 1) := by decide +kernel
theorem dJ0_checkIndex_df160_1 : decode cJ0_checkIndex_df160 1 = .ok (.iload_n 1, 1) := by decide +kernel
theorem dJ0_checkIndex_df160_2 : decode cJ0_checkIndex_df160 2 = .ok (.getstatic 1053, 3) := by decide +kernel
theorem dJ0_checkIndex_df160_5 : decode cJ0_checkIndex_df160 5 = .ok (.invokestatic 1059, 3) := by decide +kernel
theorem dJ0_checkIndex_df160_8 : decode cJ0_checkIndex_df160 8 = .ok (.pop, 1) := by decide +kernel
theorem dJ0_checkIndex_df160_9 : decode cJ0_checkIndex_df160 9 = .ok (.return_, 1) := by decide +kernel
theorem dJ1_charAt_3b067_0 : decode cJ1_charAt_3b067 0 = .ok (.iload_n 1, 1) := by decide +kernel
theorem dJ1_charAt_3b067_1 : decode cJ1_charAt_3b067 1 = .ok (.aload_n 0, 1) := by decide +kernel
theorem dJ1_charAt_3b067_2 : decode cJ1_charAt_3b067 2 = .ok (.arraylength, 1) := by decide +kernel
theorem dJ1_charAt_3b067_3 : decode cJ1_charAt_3b067 3 = .ok (.invokestatic 9, 3) := by decide +kernel
theorem dJ1_charAt_3b067_6 : decode cJ1_charAt_3b067 6 = .ok (.aload_n 0, 1) := by decide +kernel
theorem dJ1_charAt_3b067_7 : decode cJ1_charAt_3b067 7 = .ok (.iload_n 1, 1) := by decide +kernel
theorem dJ1_charAt_3b067_8 : decode cJ1_charAt_3b067 8 = .ok (.baload, 1) := by decide +kernel
theorem dJ1_charAt_3b067_9 : decode cJ1_charAt_3b067 9 = .ok (.sipush 255, 3) := by decide +kernel
theorem dJ1_charAt_3b067_12 : decode cJ1_charAt_3b067 12 = .ok (.iand, 1) := by decide +kernel
theorem dJ1_charAt_3b067_13 : decode cJ1_charAt_3b067 13 = .ok (.i2c, 1) := by decide +kernel
theorem dJ1_charAt_3b067_14 : decode cJ1_charAt_3b067 14 = .ok (.ireturn, 1) := by decide +kernel
theorem dJ2_getChar_3b067_0 : decode cJ2_getChar_3b067 0 = .ok (.getstatic 44, 3) := by decide +kernel
theorem dJ2_getChar_3b067_3 : decode cJ2_getChar_3b067 3 = .ok (.ifCond .ne 25, 3) := by decide +kernel
theorem dJ2_getChar_3b067_6 : decode cJ2_getChar_3b067 6 = .ok (.iload_n 1, 1) := by decide +kernel
theorem dJ2_getChar_3b067_7 : decode cJ2_getChar_3b067 7 = .ok (.ifCond .lt 11, 3) := by decide +kernel
theorem dJ2_getChar_3b067_10 : decode cJ2_getChar_3b067 10 = .ok (.iload_n 1, 1) := by decide +kernel
theorem dJ2_getChar_3b067_11 : decode cJ2_getChar_3b067 11 = .ok (.aload_n 0, 1) := by decide +kernel
theorem dJ2_getChar_3b067_12 : decode cJ2_getChar_3b067 12 = .ok (.invokestatic 48, 3) := by decide +kernel
theorem dJ2_getChar_3b067_15 : decode cJ2_getChar_3b067 15 = .ok (.if_icmp .lt 13, 3) := by decide +kernel
theorem dJ2_getChar_3b067_18 : decode cJ2_getChar_3b067 18 = .ok (.new 52, 3) := by decide +kernel
theorem dJ2_getChar_3b067_21 : decode cJ2_getChar_3b067 21 = .ok (.dup, 1) := by decide +kernel
theorem dJ2_getChar_3b067_22 : decode cJ2_getChar_3b067 22 = .ok (.ldc 54, 2) := by decide +kernel
theorem dJ2_getChar_3b067_24 : decode cJ2_getChar_3b067 24 = .ok (.invokespecial 56, 3) := by decide +kernel
theorem dJ2_getChar_3b067_27 : decode cJ2_getChar_3b067 27 = .ok (.athrow, 1) := by decide +kernel
theorem dJ2_getChar_3b067_28 : decode cJ2_getChar_3b067 28 = .ok (.iload_n 1, 1) := by decide +kernel
theorem dJ2_getChar_3b067_29 : decode cJ2_getChar_3b067 29 = .ok (.iconst 1, 1) := by decide +kernel
theorem dJ2_getChar_3b067_30 : decode cJ2_getChar_3b067 30 = .ok (.ishl, 1) := by decide +kernel
theorem dJ2_getChar_3b067_31 : decode cJ2_getChar_3b067 31 = .ok (.istore_n 1, 1) := by decide +kernel
theorem dJ2_getChar_3b067_32 : decode cJ2_getChar_3b067 32 = .ok (.aload_n 0, 1) := by decide +kernel
theorem dJ2_getChar_3b067_33 : decode cJ2_getChar_3b067 33 = .ok (.iload_n 1, 1) := by decide +kernel
theorem dJ2_getChar_3b067_34 : decode cJ2_getChar_3b067 34 = .ok (.iinc 1 1, 3) := by decide +kernel
theorem dJ2_getChar_3b067_37 : decode cJ2_getChar_3b067 37 = .ok (.baload, 1) := by decide +kernel
theorem dJ2_getChar_3b067_38 : decode cJ2_getChar_3b067 38 = .ok (.sipush 255, 3) := by decide +kernel
theorem dJ2_getChar_3b067_41 : decode cJ2_getChar_3b067 41 = .ok (.iand, 1) := by decide +kernel
theorem dJ2_getChar_3b067_42 : decode cJ2_getChar_3b067 42 = .ok (.getstatic 59, 3) := by decide +kernel
theorem dJ2_getChar_3b067_45 : decode cJ2_getChar_3b067 45 = .ok (.ishl, 1) := by decide +kernel
theorem dJ2_getChar_3b067_46 : decode cJ2_getChar_3b067 46 = .ok (.aload_n 0, 1) := by decide +kernel
theorem dJ2_getChar_3b067_47 : decode cJ2_getChar_3b067 47 = .ok (.iload_n 1, 1) := by decide +kernel
theorem dJ2_getChar_3b067_48 : decode cJ2_getChar_3b067 48 = .ok (.baload, 1) := by decide +kernel
theorem dJ2_getChar_3b067_49 : decode cJ2_getChar_3b067 49 = .ok (.sipush 255, 3) := by decide +kernel
theorem dJ2_getChar_3b067_52 : decode cJ2_getChar_3b067 52 = .ok (.iand, 1) := by decide +kernel
theorem dJ2_getChar_3b067_53 : decode cJ2_getChar_3b067 53 = .ok (.getstatic 63, 3) := by decide +kernel
theorem dJ2_getChar_3b067_56 : decode cJ2_getChar_3b067 56 = .ok (.ishl, 1) := by decide +kernel
theorem dJ2_getChar_3b067_57 : decode cJ2_getChar_3b067 57 = .ok (.ior, 1) := by decide +kernel
theorem dJ2_getChar_3b067_58 : decode cJ2_getChar_3b067 58 = .ok (.i2c, 1) := by decide +kernel
theorem dJ2_getChar_3b067_59 : decode cJ2_getChar_3b067 59 = .ok (.ireturn, 1) := by decide +kernel
theorem dJ2_length_9d52b_0 : decode cJ2_length_9d52b 0 = .ok (.aload_n 0, 1) := by decide +kernel
theorem dJ2_length_9d52b_1 : decode cJ2_length_9d52b 1 = .ok (.arraylength, 1) := by decide +kernel
theorem dJ2_length_9d52b_2 : decode cJ2_length_9d52b 2 = .ok (.iconst 1, 1) := by decide +kernel
theorem dJ2_length_9d52b_3 : decode cJ2_length_9d52b 3 = .ok (.ishr, 1) := by decide +kernel
theorem dJ2_length_9d52b_4 : decode cJ2_length_9d52b 4 = .ok (.ireturn, 1) := by decide +kernel
theorem dJ2_charAt_3b067_0 : decode cJ2_charAt_3b067 0 = .ok (.iload_n 1, 1) := by decide +kernel
theorem dJ2_charAt_3b067_1 : decode cJ2_charAt_3b067 1 = .ok (.aload_n 0, 1) := by decide +kernel
theorem dJ2_charAt_3b067_2 : decode cJ2_charAt_3b067 2 = .ok (.invokestatic 67, 3) := by decide +kernel
theorem dJ2_charAt_3b067_5 : decode cJ2_charAt_3b067 5 = .ok (.aload_n 0, 1) := by decide +kernel
theorem dJ2_charAt_3b067_6 : decode cJ2_charAt_3b067 6 = .ok (.iload_n 1, 1) := by decide +kernel
theorem dJ2_charAt_3b067_7 : decode cJ2_charAt_3b067 7 = .ok (.invokestatic 71, 3) := by decide +kernel
theorem dJ2_charAt_3b067_10 : decode cJ2_charAt_3b067 10 = .ok (.ireturn, 1) := by decide +kernel
theorem dJ2_checkIndex_2214a_0 : decode cJ2_checkIndex_2214a 0 = .ok (.iload_n 0, 1) := by decide +kernel
theorem dJ2_checkIndex_2214a_1 : decode cJ2_checkIndex_2214a 1 = .ok (.aload_n 1, 1) := by decide +kernel
theorem dJ2_checkIndex_2214a_2 : decode cJ2_checkIndex_2214a 2 = .ok (.invokestatic 48, 3) := by decide +kernel
theorem dJ2_checkIndex_2214a_5 : decode cJ2_checkIndex_2214a 5 = .ok (.invokestatic 414, 3) := by decide +kernel
theorem dJ2_checkIndex_2214a_8 : decode cJ2_checkIndex_2214a 8 = .ok (.return_, 1) := by decide +kernel
theorem dJ3_checkIndex_8e157_0 : decode cJ3_checkIndex_8e157 0 = .ok (.iload_n 0, 1) := by decide +kernel
theorem dJ3_checkIndex_8e157_1 : decode cJ3_checkIndex_8e157 1 = .ok (.ifCond .lt 8, 3) := by decide +kernel
theorem dJ3_checkIndex_8e157_4 : decode cJ3_checkIndex_8e157 4 = .ok (.iload_n 0, 1) := by decide +kernel
theorem dJ3_checkIndex_8e157_5 : decode cJ3_checkIndex_8e157 5 = .ok (.iload_n 1, 1) := by decide +kernel
theorem dJ3_checkIndex_8e157_6 : decode cJ3_checkIndex_8e157 6 = .ok (.if_icmp .lt 10, 3) := by decide +kernel
theorem dJ3_checkIndex_8e157_9 : decode cJ3_checkIndex_8e157 9 = .ok (.aload_n 2, 1) := by decide +kernel
theorem dJ3_checkIndex_8e157_10 : decode cJ3_checkIndex_8e157 10 = .ok (.iload_n 0, 1) := by decide +kernel
theorem dJ3_checkIndex_8e157_11 : decode cJ3_checkIndex_8e157 11 = .ok (.iload_n 1, 1) := by decide +kernel
theorem dJ3_checkIndex_8e157_12 : decode cJ3_checkIndex_8e157 12 = .ok (.invokestatic 95, 3) := by decide +kernel
theorem dJ3_checkIndex_8e157_15 : decode cJ3_checkIndex_8e157 15 = .ok (.athrow, 1) := by decide +kernel
theorem dJ3_checkIndex_8e157_16 : decode cJ3_checkIndex_8e157 16 = .ok (.iload_n 0, 1) := by decide +kernel
theorem dJ3_checkIndex_8e157_17 : decode cJ3_checkIndex_8e157 17 = .ok (.ireturn, 1) := by decide +kernel
theorem dJ6_numberOfTrailingZeros_0f7a4_0 : decode cJ6_numberOfTrailingZeros_0f7a4 0 = .ok (.iload_n 0, 1) := by decide +kernel
theorem dJ6_numberOfTrailingZeros_0f7a4_1 : decode cJ6_numberOfTrailingZeros_0f7a4 1 = .ok (.iconst (-1), 1) := by decide +kernel
theorem dJ6_numberOfTrailingZeros_0f7a4_2 : decode cJ6_numberOfTrailingZeros_0f7a4 2 = .ok (.ixor, 1) := by decide +kernel
theorem dJ6_numberOfTrailingZeros_0f7a4_3 : decode cJ6_numberOfTrailingZeros_0f7a4 3 = .ok (.iload_n 0, 1) := by decide +kernel
theorem dJ6_numberOfTrailingZeros_0f7a4_4 : decode cJ6_numberOfTrailingZeros_0f7a4 4 = .ok (.iconst 1, 1) := by decide +kernel
theorem dJ6_numberOfTrailingZeros_0f7a4_5 : decode cJ6_numberOfTrailingZeros_0f7a4 5 = .ok (.isub, 1) := by decide +kernel
theorem dJ6_numberOfTrailingZeros_0f7a4_6 : decode cJ6_numberOfTrailingZeros_0f7a4 6 = .ok (.iand, 1) := by decide +kernel
theorem dJ6_numberOfTrailingZeros_0f7a4_7 : decode cJ6_numberOfTrailingZeros_0f7a4 7 = .ok (.istore_n 0, 1) := by decide +kernel
theorem dJ6_numberOfTrailingZeros_0f7a4_8 : decode cJ6_numberOfTrailingZeros_0f7a4 8 = .ok (.iload_n 0, 1) := by decide +kernel
theorem dJ6_numberOfTrailingZeros_0f7a4_9 : decode cJ6_numberOfTrailingZeros_0f7a4 9 = .ok (.ifCond .gt 8, 3) := by decide +kernel
theorem dJ6_numberOfTrailingZeros_0f7a4_12 : decode cJ6_numberOfTrailingZeros_0f7a4 12 = .ok (.iload_n 0, 1) := by decide +kernel
theorem dJ6_numberOfTrailingZeros_0f7a4_13 : decode cJ6_numberOfTrailingZeros_0f7a4 13 = .ok (.bipush 32, 2) := by decide +kernel
theorem dJ6_numberOfTrailingZeros_0f7a4_15 : decode cJ6_numberOfTrailingZeros_0f7a4 15 = .ok (.iand, 1) := by decide +kernel
theorem dJ6_numberOfTrailingZeros_0f7a4_16 : decode cJ6_numberOfTrailingZeros_0f7a4 16 = .ok (.ireturn, 1) := by decide +kernel
theorem dJ6_numberOfTrailingZeros_0f7a4_17 : decode cJ6_numberOfTrailingZeros_0f7a4 17 = .ok (.iconst 1, 1) := by decide +kernel
theorem dJ6_numberOfTrailingZeros_0f7a4_18 : decode cJ6_numberOfTrailingZeros_0f7a4 18 = .ok (.istore_n 1, 1) := by decide +kernel
theorem dJ6_numberOfTrailingZeros_0f7a4_19 : decode cJ6_numberOfTrailingZeros_0f7a4 19 = .ok (.iload_n 0, 1) := by decide +kernel
theorem dJ6_numberOfTrailingZeros_0f7a4_20 : decode cJ6_numberOfTrailingZeros_0f7a4 20 = .ok (.ldc_w 264, 3) := by decide +kernel
theorem dJ6_numberOfTrailingZeros_0f7a4_23 : decode cJ6_numberOfTrailingZeros_0f7a4 23 = .ok (.if_icmp .le 11, 3) := by decide +kernel
theorem dJ6_numberOfTrailingZeros_0f7a4_26 : decode cJ6_numberOfTrailingZeros_0f7a4 26 = .ok (.iinc 1 16, 3) := by decide +kernel
theorem dJ6_numberOfTrailingZeros_0f7a4_29 : decode cJ6_numberOfTrailingZeros_0f7a4 29 = .ok (.iload_n 0, 1) := by decide +kernel
theorem dJ6_numberOfTrailingZeros_0f7a4_30 : decode cJ6_numberOfTrailingZeros_0f7a4 30 = .ok (.bipush 16, 2) := by decide +kernel
theorem dJ6_numberOfTrailingZeros_0f7a4_32 : decode cJ6_numberOfTrailingZeros_0f7a4 32 = .ok (.iushr, 1) := by decide +kernel
theorem dJ6_numberOfTrailingZeros_0f7a4_33 : decode cJ6_numberOfTrailingZeros_0f7a4 33 = .ok (.istore_n 0, 1) := by decide +kernel
theorem dJ6_numberOfTrailingZeros_0f7a4_34 : decode cJ6_numberOfTrailingZeros_0f7a4 34 = .ok (.iload_n 0, 1) := by decide +kernel
theorem dJ6_numberOfTrailingZeros_0f7a4_35 : decode cJ6_numberOfTrailingZeros_0f7a4 35 = .ok (.sipush 256, 3) := by decide +kernel
theorem dJ6_numberOfTrailingZeros_0f7a4_38 : decode cJ6_numberOfTrailingZeros_0f7a4 38 = .ok (.if_icmp .le 11, 3) := by decide +kernel
theorem dJ6_numberOfTrailingZeros_0f7a4_41 : decode cJ6_numberOfTrailingZeros_0f7a4 41 = .ok (.iinc 1 8, 3) := by decide +kernel
theorem dJ6_numberOfTrailingZeros_0f7a4_44 : decode cJ6_numberOfTrailingZeros_0f7a4 44 = .ok (.iload_n 0, 1) := by decide +kernel
theorem dJ6_numberOfTrailingZeros_0f7a4_45 : decode cJ6_numberOfTrailingZeros_0f7a4 45 = .ok (.bipush 8, 2) := by decide +kernel
theorem dJ6_numberOfTrailingZeros_0f7a4_47 : decode cJ6_numberOfTrailingZeros_0f7a4 47 = .ok (.iushr, 1) := by decide +kernel
theorem dJ6_numberOfTrailingZeros_0f7a4_48 : decode cJ6_numberOfTrailingZeros_0f7a4 48 = .ok (.istore_n 0, 1) := by decide +kernel
theorem dJ6_numberOfTrailingZeros_0f7a4_49 : decode cJ6_numberOfTrailingZeros_0f7a4 49 = .ok (.iload_n 0, 1) := by decide +kernel
theorem dJ6_numberOfTrailingZeros_0f7a4_50 : decode cJ6_numberOfTrailingZeros_0f7a4 50 = .ok (.bipush 16, 2) := by decide +kernel
theorem dJ6_numberOfTrailingZeros_0f7a4_52 : decode cJ6_numberOfTrailingZeros_0f7a4 52 = .ok (.if_icmp .le 10, 3) := by decide +kernel
theorem dJ6_numberOfTrailingZeros_0f7a4_55 : decode cJ6_numberOfTrailingZeros_0f7a4 55 = .ok (.iinc 1 4, 3) := by decide +kernel
theorem dJ6_numberOfTrailingZeros_0f7a4_58 : decode cJ6_numberOfTrailingZeros_0f7a4 58 = .ok (.iload_n 0, 1) := by decide +kernel
theorem dJ6_numberOfTrailingZeros_0f7a4_59 : decode cJ6_numberOfTrailingZeros_0f7a4 59 = .ok (.iconst 4, 1) := by decide +kernel
theorem dJ6_numberOfTrailingZeros_0f7a4_60 : decode cJ6_numberOfTrailingZeros_0f7a4 60 = .ok (.iushr, 1) := by decide +kernel
theorem dJ6_numberOfTrailingZeros_0f7a4_61 : decode cJ6_numberOfTrailingZeros_0f7a4 61 = .ok (.istore_n 0, 1) := by decide +kernel
theorem dJ6_numberOfTrailingZeros_0f7a4_62 : decode cJ6_numberOfTrailingZeros_0f7a4 62 = .ok (.iload_n 0, 1) := by decide +kernel
theorem dJ6_numberOfTrailingZeros_0f7a4_63 : decode cJ6_numberOfTrailingZeros_0f7a4 63 = .ok (.iconst 4, 1) := by decide +kernel
theorem dJ6_numberOfTrailingZeros_0f7a4_64 : decode cJ6_numberOfTrailingZeros_0f7a4 64 = .ok (.if_icmp .le 10, 3) := by decide +kernel
theorem dJ6_numberOfTrailingZeros_0f7a4_67 : decode cJ6_numberOfTrailingZeros_0f7a4 67 = .ok (.iinc 1 2, 3) := by decide +kernel
theorem dJ6_numberOfTrailingZeros_0f7a4_70 : decode cJ6_numberOfTrailingZeros_0f7a4 70 = .ok (.iload_n 0, 1) := by decide +kernel
theorem dJ6_numberOfTrailingZeros_0f7a4_71 : decode cJ6_numberOfTrailingZeros_0f7a4 71 = .ok (.iconst 2, 1) := by decide +kernel
theorem dJ6_numberOfTrailingZeros_0f7a4_72 : decode cJ6_numberOfTrailingZeros_0f7a4 72 = .ok (.iushr, 1) := by decide +kernel
theorem dJ6_numberOfTrailingZeros_0f7a4_73 : decode cJ6_numberOfTrailingZeros_0f7a4 73 = .ok (.istore_n 0, 1) := by decide +kernel
theorem dJ6_numberOfTrailingZeros_0f7a4_74 : decode cJ6_numberOfTrailingZeros_0f7a4 74 = .ok (.iload_n 1, 1) := by decide +kernel
theorem dJ6_numberOfTrailingZeros_0f7a4_75 : decode cJ6_numberOfTrailingZeros_0f7a4 75 = .ok (.iload_n 0, 1) := by decide +kernel
theorem dJ6_numberOfTrailingZeros_0f7a4_76 : decode cJ6_numberOfTrailingZeros_0f7a4 76 = .ok (.iconst 1, 1) := by decide +kernel
theorem dJ6_numberOfTrailingZeros_0f7a4_77 : decode cJ6_numberOfTrailingZeros_0f7a4 77 = .ok (.iushr, 1) := by decide +kernel
theorem dJ6_numberOfTrailingZeros_0f7a4_78 : decode cJ6_numberOfTrailingZeros_0f7a4 78 = .ok (.iadd, 1) := by decide +kernel
theorem dJ6_numberOfTrailingZeros_0f7a4_79 : decode cJ6_numberOfTrailingZeros_0f7a4 79 = .ok (.ireturn, 1) := by decide +kernel
theorem dJ6_bitCount_0f7a4_0 : decode cJ6_bitCount_0f7a4 0 = .ok (.iload_n 0, 1) := by decide +kernel
theorem dJ6_bitCount_0f7a4_1 : decode cJ6_bitCount_0f7a4 1 = .ok (.iload_n 0, 1) := by decide +kernel
theorem dJ6_bitCount_0f7a4_2 : decode cJ6_bitCount_0f7a4 2 = .ok (.iconst 1, 1) := by decide +kernel
theorem dJ6_bitCount_0f7a4_3 : decode cJ6_bitCount_0f7a4 3 = .ok (.iushr, 1) := by decide +kernel
theorem dJ6_bitCount_0f7a4_4 : decode cJ6_bitCount_0f7a4 4 = .ok (.ldc_w 265, 3) := by decide +kernel
theorem dJ6_bitCount_0f7a4_7 : decode cJ6_bitCount_0f7a4 7 = .ok (.iand, 1) := by decide +kernel
theorem dJ6_bitCount_0f7a4_8 : decode cJ6_bitCount_0f7a4 8 = .ok (.isub, 1) := by decide +kernel
theorem dJ6_bitCount_0f7a4_9 : decode cJ6_bitCount_0f7a4 9 = .ok (.istore_n 0, 1) := by decide +kernel
theorem dJ6_bitCount_0f7a4_10 : decode cJ6_bitCount_0f7a4 10 = .ok (.iload_n 0, 1) := by decide +kernel
theorem dJ6_bitCount_0f7a4_11 : decode cJ6_bitCount_0f7a4 11 = .ok (.ldc_w 266, 3) := by decide +kernel
theorem dJ6_bitCount_0f7a4_14 : decode cJ6_bitCount_0f7a4 14 = .ok (.iand, 1) := by decide +kernel
theorem dJ6_bitCount_0f7a4_15 : decode cJ6_bitCount_0f7a4 15 = .ok (.iload_n 0, 1) := by decide +kernel
theorem dJ6_bitCount_0f7a4_16 : decode cJ6_bitCount_0f7a4 16 = .ok (.iconst 2, 1) := by decide +kernel
theorem dJ6_bitCount_0f7a4_17 : decode cJ6_bitCount_0f7a4 17 = .ok (.iushr, 1) := by decide +kernel
theorem dJ6_bitCount_0f7a4_18 : decode cJ6_bitCount_0f7a4 18 = .ok (.ldc_w 266, 3) := by decide +kernel
theorem dJ6_bitCount_0f7a4_21 : decode cJ6_bitCount_0f7a4 21 = .ok (.iand, 1) := by decide +kernel
theorem dJ6_bitCount_0f7a4_22 : decode cJ6_bitCount_0f7a4 22 = .ok (.iadd, 1) := by decide +kernel
theorem dJ6_bitCount_0f7a4_23 : decode cJ6_bitCount_0f7a4 23 = .ok (.istore_n 0, 1) := by decide +kernel
theorem dJ6_bitCount_0f7a4_24 : decode cJ6_bitCount_0f7a4 24 = .ok (.iload_n 0, 1) := by decide +kernel
theorem dJ6_bitCount_0f7a4_25 : decode cJ6_bitCount_0f7a4 25 = .ok (.iload_n 0, 1) := by decide +kernel
theorem dJ6_bitCount_0f7a4_26 : decode cJ6_bitCount_0f7a4 26 = .ok (.iconst 4, 1) := by decide +kernel
theorem dJ6_bitCount_0f7a4_27 : decode cJ6_bitCount_0f7a4 27 = .ok (.iushr, 1) := by decide +kernel
theorem dJ6_bitCount_0f7a4_28 : decode cJ6_bitCount_0f7a4 28 = .ok (.iadd, 1) := by decide +kernel
theorem dJ6_bitCount_0f7a4_29 : decode cJ6_bitCount_0f7a4 29 = .ok (.ldc_w 267, 3) := by decide +kernel
theorem dJ6_bitCount_0f7a4_32 : decode cJ6_bitCount_0f7a4 32 = .ok (.iand, 1) := by decide +kernel
theorem dJ6_bitCount_0f7a4_33 : decode cJ6_bitCount_0f7a4 33 = .ok (.istore_n 0, 1) := by decide +kernel
theorem dJ6_bitCount_0f7a4_34 : decode cJ6_bitCount_0f7a4 34 = .ok (.iload_n 0, 1) := by decide +kernel
theorem dJ6_bitCount_0f7a4_35 : decode cJ6_bitCount_0f7a4 35 = .ok (.iload_n 0, 1) := by decide +kernel
theorem dJ6_bitCount_0f7a4_36 : decode cJ6_bitCount_0f7a4 36 = .ok (.bipush 8, 2) := by decide +kernel
theorem dJ6_bitCount_0f7a4_38 : decode cJ6_bitCount_0f7a4 38 = .ok (.iushr, 1) := by decide +kernel
theorem dJ6_bitCount_0f7a4_39 : decode cJ6_bitCount_0f7a4 39 = .ok (.iadd, 1) := by decide +kernel
theorem dJ6_bitCount_0f7a4_40 : decode cJ6_bitCount_0f7a4 40 = .ok (.istore_n 0, 1) := by decide +kernel
theorem dJ6_bitCount_0f7a4_41 : decode cJ6_bitCount_0f7a4 41 = .ok (.iload_n 0, 1) := by decide +kernel
theorem dJ6_bitCount_0f7a4_42 : decode cJ6_bitCount_0f7a4 42 = .ok (.iload_n 0, 1) := by decide +kernel
theorem dJ6_bitCount_0f7a4_43 : decode cJ6_bitCount_0f7a4 43 = .ok (.bipush 16, 2) := by decide +kernel
theorem dJ6_bitCount_0f7a4_45 : decode cJ6_bitCount_0f7a4 45 = .ok (.iushr, 1) := by decide +kernel
theorem dJ6_bitCount_0f7a4_46 : decode cJ6_bitCount_0f7a4 46 = .ok (.iadd, 1) := by decide +kernel
theorem dJ6_bitCount_0f7a4_47 : decode cJ6_bitCount_0f7a4 47 = .ok (.istore_n 0, 1) := by decide +kernel
theorem dJ6_bitCount_0f7a4_48 : decode cJ6_bitCount_0f7a4 48 = .ok (.iload_n 0, 1) := by decide +kernel
theorem dJ6_bitCount_0f7a4_49 : decode cJ6_bitCount_0f7a4 49 = .ok (.bipush 63, 2) := by decide +kernel
theorem dJ6_bitCount_0f7a4_51 : decode cJ6_bitCount_0f7a4 51 = .ok (.iand, 1) := by decide +kernel
theorem dJ6_bitCount_0f7a4_52 : decode cJ6_bitCount_0f7a4 52 = .ok (.ireturn, 1) := by decide +kernel
theorem dJ9_max_7cf53_0 : decode cJ9_max_7cf53 0 = .ok (.iload_n 0, 1) := by decide +kernel
theorem dJ9_max_7cf53_1 : decode cJ9_max_7cf53 1 = .ok (.iload_n 1, 1) := by decide +kernel
theorem dJ9_max_7cf53_2 : decode cJ9_max_7cf53 2 = .ok (.if_icmp .lt 7, 3) := by decide +kernel
theorem dJ9_max_7cf53_5 : decode cJ9_max_7cf53 5 = .ok (.iload_n 0, 1) := by decide +kernel
theorem dJ9_max_7cf53_6 : decode cJ9_max_7cf53 6 = .ok (.goto 4, 3) := by decide +kernel
theorem dJ9_max_7cf53_9 : decode cJ9_max_7cf53 9 = .ok (.iload_n 1, 1) := by decide +kernel
theorem dJ9_max_7cf53_10 : decode cJ9_max_7cf53 10 = .ok (.ireturn, 1) := by decide +kernel
theorem dJ9_min_7cf53_0 : decode cJ9_min_7cf53 0 = .ok (.iload_n 0, 1) := by decide +kernel
theorem dJ9_min_7cf53_1 : decode cJ9_min_7cf53 1 = .ok (.iload_n 1, 1) := by decide +kernel
theorem dJ9_min_7cf53_2 : decode cJ9_min_7cf53 2 = .ok (.if_icmp .gt 7, 3) := by decide +kernel
theorem dJ9_min_7cf53_5 : decode cJ9_min_7cf53 5 = .ok (.iload_n 0, 1) := by decide +kernel
theorem dJ9_min_7cf53_6 : decode cJ9_min_7cf53 6 = .ok (.goto 4, 3) := by decide +kernel
theorem dJ9_min_7cf53_9 : decode cJ9_min_7cf53 9 = .ok (.iload_n 1, 1) := by decide +kernel
theorem dJ9_min_7cf53_10 : decode cJ9_min_7cf53 10 = .ok (.ireturn, 1) := by decide +kernel
theorem dX0_init_0 : decode cX0_init 0 = .ok (.aload_n 0, 1) := by decide +kernel
theorem dX0_init_1 : decode cX0_init 1 = .ok (.invokespecial 3, 3) := by decide +kernel
theorem dX0_init_4 : decode cX0_init 4 = .ok (.aload_n 0, 1) := by decide +kernel
theorem dX0_init_5 : decode cX0_init 5 = .ok (.iconst 0, 1) := by decide +kernel
theorem dX0_init_6 : decode cX0_init 6 = .ok (.putfield 9, 3) := by decide +kernel
theorem dX0_init_9 : decode cX0_init 9 = .ok (.aload_n 0, 1) := by decide +kernel
theorem dX0_init_10 : decode cX0_init 10 = .ok (.iconst 0, 1) := by decide +kernel
theorem dX0_init_11 : decode cX0_init 11 = .ok (.putfield 15, 3) := by decide +kernel
theorem dX0_init_14 : decode cX0_init 14 = .ok (.return_, 1) := by decide +kernel
theorem dX0_run_0 : decode cX0_run 0 = .ok (.aload_n 0, 1) := by decide +kernel
theorem dX0_run_1 : decode cX0_run 1 = .ok (.iconst 0, 1) := by decide +kernel
theorem dX0_run_2 : decode cX0_run 2 = .ok (.putfield 9, 3) := by decide +kernel
theorem dX0_run_5 : decode cX0_run 5 = .ok (.aload_n 0, 1) := by decide +kernel
theorem dX0_run_6 : decode cX0_run 6 = .ok (.iconst 0, 1) := by decide +kernel
theorem dX0_run_7 : decode cX0_run 7 = .ok (.putfield 15, 3) := by decide +kernel
theorem dX0_run_10 : decode cX0_run 10 = .ok (.iconst 0, 1) := by decide +kernel
theorem dX0_run_11 : decode cX0_run 11 = .ok (.istore 5, 2) := by decide +kernel
theorem dX0_run_13 : decode cX0_run 13 = .ok (.iconst 0, 1) := by decide +kernel
theorem dX0_run_14 : decode cX0_run 14 = .ok (.istore 6, 2) := by decide +kernel
theorem dX0_run_16 : decode cX0_run 16 = .ok (.iload 6, 2) := by decide +kernel
theorem dX0_run_18 : decode cX0_run 18 = .ok (.aload_n 1, 1) := by decide +kernel
theorem dX0_run_19 : decode cX0_run 19 = .ok (.getfield 18, 3) := by decide +kernel
theorem dX0_run_22 : decode cX0_run 22 = .ok (.invokevirtual 24, 3) := by decide +kernel
theorem dX0_run_25 : decode cX0_run 25 = .ok (.if_icmp .ge 81, 3) := by decide +kernel
theorem dX0_run_28 : decode cX0_run 28 = .ok (.aload_n 1, 1) := by decide +kernel
theorem dX0_run_29 : decode cX0_run 29 = .ok (.iconst 1, 1) := by decide +kernel
theorem dX0_run_30 : decode cX0_run 30 = .ok (.aload_n 1, 1) := by decide +kernel
theorem dX0_run_31 : decode cX0_run 31 = .ok (.getfield 18, 3) := by decide +kernel
theorem dX0_run_34 : decode cX0_run 34 = .ok (.iload 6, 2) := by decide +kernel
theorem dX0_run_36 : decode cX0_run 36 = .ok (.invokevirtual 30, 3) := by decide +kernel
theorem dX0_run_39 : decode cX0_run 39 = .ok (.ishl, 1) := by decide +kernel
theorem dX0_run_40 : decode cX0_run 40 = .ok (.invokevirtual 34, 3) := by decide +kernel
theorem dX0_run_43 : decode cX0_run 43 = .ok (.iload_n 3, 1) := by decide +kernel
theorem dX0_run_44 : decode cX0_run 44 = .ok (.iload 4, 2) := by decide +kernel
theorem dX0_run_46 : decode cX0_run 46 = .ok (.invokestatic 37, 3) := by decide +kernel
theorem dX0_run_49 : decode cX0_run 49 = .ok (.istore 7, 2) := by decide +kernel
theorem dX0_run_51 : decode cX0_run 51 = .ok (.aload_n 2, 1) := by decide +kernel
theorem dX0_run_52 : decode cX0_run 52 = .ok (.invokevirtual 41, 3) := by decide +kernel
theorem dX0_run_55 : decode cX0_run 55 = .ok (.aload_n 2, 1) := by decide +kernel
theorem dX0_run_56 : decode cX0_run 56 = .ok (.iload 5, 2) := by decide +kernel
theorem dX0_run_58 : decode cX0_run 58 = .ok (.iload 7, 2) := by decide +kernel
theorem dX0_run_60 : decode cX0_run 60 = .ok (.invokevirtual 46, 3) := by decide +kernel
theorem dX0_run_63 : decode cX0_run 63 = .ok (.istore 5, 2) := by decide +kernel
theorem dX0_run_65 : decode cX0_run 65 = .ok (.iload 5, 2) := by decide +kernel
theorem dX0_run_67 : decode cX0_run 67 = .ok (.iconst (-1), 1) := by decide +kernel
theorem dX0_run_68 : decode cX0_run 68 = .ok (.if_icmp .ne 4, 3) := by decide +kernel
theorem dX0_run_71 : decode cX0_run 71 = .ok (.return_, 1) := by decide +kernel
theorem dX0_run_72 : decode cX0_run 72 = .ok (.aload_n 0, 1) := by decide +kernel
theorem dX0_run_73 : decode cX0_run 73 = .ok (.dup, 1) := by decide +kernel
theorem dX0_run_74 : decode cX0_run 74 = .ok (.getfield 9, 3) := by decide +kernel
theorem dX0_run_77 : decode cX0_run 77 = .ok (.iconst 1, 1) := by decide +kernel
theorem dX0_run_78 : decode cX0_run 78 = .ok (.iadd, 1) := by decide +kernel
theorem dX0_run_79 : decode cX0_run 79 = .ok (.putfield 9, 3) := by decide +kernel
theorem dX0_run_82 : decode cX0_run 82 = .ok (.aload_n 0, 1) := by decide +kernel
theorem dX0_run_83 : decode cX0_run 83 = .ok (.dup, 1) := by decide +kernel
theorem dX0_run_84 : decode cX0_run 84 = .ok (.getfield 15, 3) := by decide +kernel
theorem dX0_run_87 : decode cX0_run 87 = .ok (.aload_n 2, 1) := by decide +kernel
theorem dX0_run_88 : decode cX0_run 88 = .ok (.getfield 50, 3) := by decide +kernel
theorem dX0_run_91 : decode cX0_run 91 = .ok (.iload 5, 2) := by decide +kernel
theorem dX0_run_93 : decode cX0_run 93 = .ok (.invokevirtual 30, 3) := by decide +kernel
theorem dX0_run_96 : decode cX0_run 96 = .ok (.iadd, 1) := by decide +kernel
theorem dX0_run_97 : decode cX0_run 97 = .ok (.putfield 15, 3) := by decide +kernel
theorem dX0_run_100 : decode cX0_run 100 = .ok (.iinc 6 1, 3) := by decide +kernel
theorem dX0_run_103 : decode cX0_run 103 = .ok (.goto (-87), 3) := by decide +kernel
theorem dX0_run_106 : decode cX0_run 106 = .ok (.return_, 1) := by decide +kernel
theorem dX0_exchanged_0 : decode cX0_exchanged 0 = .ok (.iload_n 0, 1) := by decide +kernel
theorem dX0_exchanged_1 : decode cX0_exchanged 1 = .ok (.iload_n 1, 1) := by decide +kernel
theorem dX0_exchanged_2 : decode cX0_exchanged 2 = .ok (.ishr, 1) := by decide +kernel
theorem dX0_exchanged_3 : decode cX0_exchanged 3 = .ok (.iconst 1, 1) := by decide +kernel
theorem dX0_exchanged_4 : decode cX0_exchanged 4 = .ok (.iand, 1) := by decide +kernel
theorem dX0_exchanged_5 : decode cX0_exchanged 5 = .ok (.iload_n 0, 1) := by decide +kernel
theorem dX0_exchanged_6 : decode cX0_exchanged 6 = .ok (.iload_n 2, 1) := by decide +kernel
theorem dX0_exchanged_7 : decode cX0_exchanged 7 = .ok (.ishr, 1) := by decide +kernel
theorem dX0_exchanged_8 : decode cX0_exchanged 8 = .ok (.iconst 1, 1) := by decide +kernel
theorem dX0_exchanged_9 : decode cX0_exchanged 9 = .ok (.iand, 1) := by decide +kernel
theorem dX0_exchanged_10 : decode cX0_exchanged 10 = .ok (.if_icmp .ne 7, 3) := by decide +kernel
theorem dX0_exchanged_13 : decode cX0_exchanged 13 = .ok (.iconst 1, 1) := by decide +kernel
theorem dX0_exchanged_14 : decode cX0_exchanged 14 = .ok (.goto 4, 3) := by decide +kernel
theorem dX0_exchanged_17 : decode cX0_exchanged 17 = .ok (.iconst 0, 1) := by decide +kernel
theorem dX0_exchanged_18 : decode cX0_exchanged 18 = .ok (.istore_n 3, 1) := by decide +kernel
theorem dX0_exchanged_19 : decode cX0_exchanged 19 = .ok (.iload_n 3, 1) := by decide +kernel
theorem dX0_exchanged_20 : decode cX0_exchanged 20 = .ok (.ifCond .eq 7, 3) := by decide +kernel
theorem dX0_exchanged_23 : decode cX0_exchanged 23 = .ok (.iload_n 0, 1) := by decide +kernel
theorem dX0_exchanged_24 : decode cX0_exchanged 24 = .ok (.goto 12, 3) := by decide +kernel
theorem dX0_exchanged_27 : decode cX0_exchanged 27 = .ok (.iload_n 0, 1) := by decide +kernel
theorem dX0_exchanged_28 : decode cX0_exchanged 28 = .ok (.iconst 1, 1) := by decide +kernel
theorem dX0_exchanged_29 : decode cX0_exchanged 29 = .ok (.iload_n 1, 1) := by decide +kernel
theorem dX0_exchanged_30 : decode cX0_exchanged 30 = .ok (.ishl, 1) := by decide +kernel
theorem dX0_exchanged_31 : decode cX0_exchanged 31 = .ok (.iconst 1, 1) := by decide +kernel
theorem dX0_exchanged_32 : decode cX0_exchanged 32 = .ok (.iload_n 2, 1) := by decide +kernel
theorem dX0_exchanged_33 : decode cX0_exchanged 33 = .ok (.ishl, 1) := by decide +kernel
theorem dX0_exchanged_34 : decode cX0_exchanged 34 = .ok (.ior, 1) := by decide +kernel
theorem dX0_exchanged_35 : decode cX0_exchanged 35 = .ok (.ixor, 1) := by decide +kernel
theorem dX0_exchanged_36 : decode cX0_exchanged 36 = .ok (.ireturn, 1) := by decide +kernel
theorem dX0_isBetterThan_0 : decode cX0_isBetterThan 0 = .ok (.aload_n 0, 1) := by decide +kernel
theorem dX0_isBetterThan_1 : decode cX0_isBetterThan 1 = .ok (.getfield 9, 3) := by decide +kernel
theorem dX0_isBetterThan_4 : decode cX0_isBetterThan 4 = .ok (.aload_n 1, 1) := by decide +kernel
theorem dX0_isBetterThan_5 : decode cX0_isBetterThan 5 = .ok (.getfield 9, 3) := by decide +kernel
theorem dX0_isBetterThan_8 : decode cX0_isBetterThan 8 = .ok (.if_icmp .eq 20, 3) := by decide +kernel
theorem dX0_isBetterThan_11 : decode cX0_isBetterThan 11 = .ok (.aload_n 0, 1) := by decide +kernel
theorem dX0_isBetterThan_12 : decode cX0_isBetterThan 12 = .ok (.getfield 9, 3) := by decide +kernel
theorem dX0_isBetterThan_15 : decode cX0_isBetterThan 15 = .ok (.aload_n 1, 1) := by decide +kernel
theorem dX0_isBetterThan_16 : decode cX0_isBetterThan 16 = .ok (.getfield 9, 3) := by decide +kernel
theorem dX0_isBetterThan_19 : decode cX0_isBetterThan 19 = .ok (.if_icmp .le 7, 3) := by decide +kernel
theorem dX0_isBetterThan_22 : decode cX0_isBetterThan 22 = .ok (.iconst 1, 1) := by decide +kernel
theorem dX0_isBetterThan_23 : decode cX0_isBetterThan 23 = .ok (.goto 4, 3) := by decide +kernel
theorem dX0_isBetterThan_26 : decode cX0_isBetterThan 26 = .ok (.iconst 0, 1) := by decide +kernel
theorem dX0_isBetterThan_27 : decode cX0_isBetterThan 27 = .ok (.ireturn, 1) := by decide +kernel
theorem dX0_isBetterThan_28 : decode cX0_isBetterThan 28 = .ok (.aload_n 0, 1) := by decide +kernel
theorem dX0_isBetterThan_29 : decode cX0_isBetterThan 29 = .ok (.getfield 15, 3) := by decide +kernel
theorem dX0_isBetterThan_32 : decode cX0_isBetterThan 32 = .ok (.aload_n 1, 1) := by decide +kernel
theorem dX0_isBetterThan_33 : decode cX0_isBetterThan 33 = .ok (.getfield 15, 3) := by decide +kernel
theorem dX0_isBetterThan_36 : decode cX0_isBetterThan 36 = .ok (.if_icmp .ge 7, 3) := by decide +kernel
theorem dX0_isBetterThan_39 : decode cX0_isBetterThan 39 = .ok (.iconst 1, 1) := by decide +kernel
theorem dX0_isBetterThan_40 : decode cX0_isBetterThan 40 = .ok (.goto 4, 3) := by decide +kernel
theorem dX0_isBetterThan_43 : decode cX0_isBetterThan 43 = .ok (.iconst 0, 1) := by decide +kernel
theorem dX0_isBetterThan_44 : decode cX0_isBetterThan 44 = .ok (.ireturn, 1) := by decide +kernel
theorem dX0_copyFrom_0 : decode cX0_copyFrom 0 = .ok (.aload_n 0, 1) := by decide +kernel
theorem dX0_copyFrom_1 : decode cX0_copyFrom 1 = .ok (.aload_n 1, 1) := by decide +kernel
theorem dX0_copyFrom_2 : decode cX0_copyFrom 2 = .ok (.getfield 9, 3) := by decide +kernel
theorem dX0_copyFrom_5 : decode cX0_copyFrom 5 = .ok (.putfield 9, 3) := by decide +kernel
theorem dX0_copyFrom_8 : decode cX0_copyFrom 8 = .ok (.aload_n 0, 1) := by decide +kernel
theorem dX0_copyFrom_9 : decode cX0_copyFrom 9 = .ok (.aload_n 1, 1) := by decide +kernel
theorem dX0_copyFrom_10 : decode cX0_copyFrom 10 = .ok (.getfield 15, 3) := by decide +kernel
theorem dX0_copyFrom_13 : decode cX0_copyFrom 13 = .ok (.putfield 15, 3) := by decide +kernel
theorem dX0_copyFrom_16 : decode cX0_copyFrom 16 = .ok (.return_, 1) := by decide +kernel
theorem dX1_init_0 : decode cX1_init 0 = .ok (.aload_n 0, 1) := by decide +kernel
theorem dX1_init_1 : decode cX1_init 1 = .ok (.invokespecial 3, 3) := by decide +kernel
theorem dX1_init_4 : decode cX1_init 4 = .ok (.aload_n 0, 1) := by decide +kernel
theorem dX1_init_5 : decode cX1_init 5 = .ok (.new 9, 3) := by decide +kernel
theorem dX1_init_8 : decode cX1_init 8 = .ok (.dup, 1) := by decide +kernel
theorem dX1_init_9 : decode cX1_init 9 = .ok (.sipush 200, 3) := by decide +kernel
theorem dX1_init_12 : decode cX1_init 12 = .ok (.invokespecial 11, 3) := by decide +kernel
theorem dX1_init_15 : decode cX1_init 15 = .ok (.putfield 14, 3) := by decide +kernel
theorem dX1_init_18 : decode cX1_init 18 = .ok (.aload_n 0, 1) := by decide +kernel
theorem dX1_init_19 : decode cX1_init 19 = .ok (.new 9, 3) := by decide +kernel
theorem dX1_init_22 : decode cX1_init 22 = .ok (.dup, 1) := by decide +kernel
theorem dX1_init_23 : decode cX1_init 23 = .ok (.sipush 1000, 3) := by decide +kernel
theorem dX1_init_26 : decode cX1_init 26 = .ok (.invokespecial 11, 3) := by decide +kernel
theorem dX1_init_29 : decode cX1_init 29 = .ok (.putfield 20, 3) := by decide +kernel
theorem dX1_init_32 : decode cX1_init 32 = .ok (.aload_n 0, 1) := by decide +kernel
theorem dX1_init_33 : decode cX1_init 33 = .ok (.iconst 0, 1) := by decide +kernel
theorem dX1_init_34 : decode cX1_init 34 = .ok (.putfield 23, 3) := by decide +kernel
theorem dX1_init_37 : decode cX1_init 37 = .ok (.aload_n 0, 1) := by decide +kernel
theorem dX1_init_38 : decode cX1_init 38 = .ok (.iconst 0, 1) := by decide +kernel
theorem dX1_init_39 : decode cX1_init 39 = .ok (.putfield 27, 3) := by decide +kernel
theorem dX1_init_42 : decode cX1_init 42 = .ok (.aload_n 0, 1) := by decide +kernel
theorem dX1_init_43 : decode cX1_init 43 = .ok (.iconst 0, 1) := by decide +kernel
theorem dX1_init_44 : decode cX1_init 44 = .ok (.putfield 30, 3) := by decide +kernel
theorem dX1_init_47 : decode cX1_init 47 = .ok (.return_, 1) := by decide +kernel
theorem dX1_items_0 : decode cX1_items 0 = .ok (.aload_n 0, 1) := by decide +kernel
theorem dX1_items_1 : decode cX1_items 1 = .ok (.getfield 20, 3) := by decide +kernel
theorem dX1_items_4 : decode cX1_items 4 = .ok (.invokevirtual 33, 3) := by decide +kernel
theorem dX1_items_7 : decode cX1_items 7 = .ok (.iconst 5, 1) := by decide +kernel
theorem dX1_items_8 : decode cX1_items 8 = .ok (.idiv, 1) := by decide +kernel
theorem dX1_items_9 : decode cX1_items 9 = .ok (.ireturn, 1) := by decide +kernel
theorem dX1_faultIn_0 : decode cX1_faultIn 0 = .ok (.aload_n 0, 1) := by decide +kernel
theorem dX1_faultIn_1 : decode cX1_faultIn 1 = .ok (.getfield 14, 3) := by decide +kernel
theorem dX1_faultIn_4 : decode cX1_faultIn 4 = .ok (.aload_n 1, 1) := by decide +kernel
theorem dX1_faultIn_5 : decode cX1_faultIn 5 = .ok (.invokevirtual 37, 3) := by decide +kernel
theorem dX1_faultIn_8 : decode cX1_faultIn 8 = .ok (.aload_n 0, 1) := by decide +kernel
theorem dX1_faultIn_9 : decode cX1_faultIn 9 = .ok (.getfield 20, 3) := by decide +kernel
theorem dX1_faultIn_12 : decode cX1_faultIn 12 = .ok (.invokevirtual 41, 3) := by decide +kernel
theorem dX1_faultIn_15 : decode cX1_faultIn 15 = .ok (.aload_n 0, 1) := by decide +kernel
theorem dX1_faultIn_16 : decode cX1_faultIn 16 = .ok (.iconst 0, 1) := by decide +kernel
theorem dX1_faultIn_17 : decode cX1_faultIn 17 = .ok (.putfield 27, 3) := by decide +kernel
theorem dX1_faultIn_20 : decode cX1_faultIn 20 = .ok (.iconst 0, 1) := by decide +kernel
theorem dX1_faultIn_21 : decode cX1_faultIn 21 = .ok (.istore_n 2, 1) := by decide +kernel
theorem dX1_faultIn_22 : decode cX1_faultIn 22 = .ok (.iload_n 2, 1) := by decide +kernel
theorem dX1_faultIn_23 : decode cX1_faultIn 23 = .ok (.aload_n 0, 1) := by decide +kernel
theorem dX1_faultIn_24 : decode cX1_faultIn 24 = .ok (.getfield 14, 3) := by decide +kernel
theorem dX1_faultIn_27 : decode cX1_faultIn 27 = .ok (.invokevirtual 33, 3) := by decide +kernel
theorem dX1_faultIn_30 : decode cX1_faultIn 30 = .ok (.if_icmp .gt 86, 3) := by decide +kernel
theorem dX1_faultIn_33 : decode cX1_faultIn 33 = .ok (.aload_n 0, 1) := by decide +kernel
theorem dX1_faultIn_34 : decode cX1_faultIn 34 = .ok (.invokevirtual 44, 3) := by decide +kernel
theorem dX1_faultIn_37 : decode cX1_faultIn 37 = .ok (.aload_n 0, 1) := by decide +kernel
theorem dX1_faultIn_38 : decode cX1_faultIn 38 = .ok (.getfield 30, 3) := by decide +kernel
theorem dX1_faultIn_41 : decode cX1_faultIn 41 = .ok (.ifCond .ne 12, 3) := by decide +kernel
theorem dX1_faultIn_44 : decode cX1_faultIn 44 = .ok (.aload_n 0, 1) := by decide +kernel
theorem dX1_faultIn_45 : decode cX1_faultIn 45 = .ok (.invokevirtual 47, 3) := by decide +kernel
theorem dX1_faultIn_48 : decode cX1_faultIn 48 = .ok (.ifCond .le 5, 3) := by decide +kernel
theorem dX1_faultIn_51 : decode cX1_faultIn 51 = .ok (.iconst (-1), 1) := by decide +kernel
theorem dX1_faultIn_52 : decode cX1_faultIn 52 = .ok (.ireturn, 1) := by decide +kernel
theorem dX1_faultIn_53 : decode cX1_faultIn 53 = .ok (.aload_n 0, 1) := by decide +kernel
theorem dX1_faultIn_54 : decode cX1_faultIn 54 = .ok (.invokevirtual 47, 3) := by decide +kernel
theorem dX1_faultIn_57 : decode cX1_faultIn 57 = .ok (.ifCond .ne 19, 3) := by decide +kernel
theorem dX1_faultIn_60 : decode cX1_faultIn 60 = .ok (.aload_n 0, 1) := by decide +kernel
theorem dX1_faultIn_61 : decode cX1_faultIn 61 = .ok (.getfield 30, 3) := by decide +kernel
theorem dX1_faultIn_64 : decode cX1_faultIn 64 = .ok (.iconst 5, 1) := by decide +kernel
theorem dX1_faultIn_65 : decode cX1_faultIn 65 = .ok (.if_icmp .ne 7, 3) := by decide +kernel
theorem dX1_faultIn_68 : decode cX1_faultIn 68 = .ok (.iconst 1, 1) := by decide +kernel
theorem dX1_faultIn_69 : decode cX1_faultIn 69 = .ok (.goto 20, 3) := by decide +kernel
theorem dX1_faultIn_72 : decode cX1_faultIn 72 = .ok (.iconst 0, 1) := by decide +kernel
theorem dX1_faultIn_73 : decode cX1_faultIn 73 = .ok (.goto 16, 3) := by decide +kernel
theorem dX1_faultIn_76 : decode cX1_faultIn 76 = .ok (.aload_n 0, 1) := by decide +kernel
theorem dX1_faultIn_77 : decode cX1_faultIn 77 = .ok (.getfield 30, 3) := by decide +kernel
theorem dX1_faultIn_80 : decode cX1_faultIn 80 = .ok (.iconst 5, 1) := by decide +kernel
theorem dX1_faultIn_81 : decode cX1_faultIn 81 = .ok (.if_icmp .le 7, 3) := by decide +kernel
theorem dX1_faultIn_84 : decode cX1_faultIn 84 = .ok (.iconst 1, 1) := by decide +kernel
theorem dX1_faultIn_85 : decode cX1_faultIn 85 = .ok (.goto 4, 3) := by decide +kernel
theorem dX1_faultIn_88 : decode cX1_faultIn 88 = .ok (.iconst 0, 1) := by decide +kernel
theorem dX1_faultIn_89 : decode cX1_faultIn 89 = .ok (.istore_n 3, 1) := by decide +kernel
theorem dX1_faultIn_90 : decode cX1_faultIn 90 = .ok (.iload_n 3, 1) := by decide +kernel
theorem dX1_faultIn_91 : decode cX1_faultIn 91 = .ok (.ifCond .eq 14, 3) := by decide +kernel
theorem dX1_faultIn_94 : decode cX1_faultIn 94 = .ok (.aload_n 0, 1) := by decide +kernel
theorem dX1_faultIn_95 : decode cX1_faultIn 95 = .ok (.aload_n 0, 1) := by decide +kernel
theorem dX1_faultIn_96 : decode cX1_faultIn 96 = .ok (.getfield 30, 3) := by decide +kernel
theorem dX1_faultIn_99 : decode cX1_faultIn 99 = .ok (.invokevirtual 50, 3) := by decide +kernel
theorem dX1_faultIn_102 : decode cX1_faultIn 102 = .ok (.ifCond .ne 8, 3) := by decide +kernel
theorem dX1_faultIn_105 : decode cX1_faultIn 105 = .ok (.aload_n 0, 1) := by decide +kernel
theorem dX1_faultIn_106 : decode cX1_faultIn 106 = .ok (.getfield 23, 3) := by decide +kernel
theorem dX1_faultIn_109 : decode cX1_faultIn 109 = .ok (.ireturn, 1) := by decide +kernel
theorem dX1_faultIn_110 : decode cX1_faultIn 110 = .ok (.iinc 2 1, 3) := by decide +kernel
theorem dX1_faultIn_113 : decode cX1_faultIn 113 = .ok (.goto (-91), 3) := by decide +kernel
theorem dX1_faultIn_116 : decode cX1_faultIn 116 = .ok (.aload_n 0, 1) := by decide +kernel
theorem dX1_faultIn_117 : decode cX1_faultIn 117 = .ok (.getfield 23, 3) := by decide +kernel
theorem dX1_faultIn_120 : decode cX1_faultIn 120 = .ok (.ireturn, 1) := by decide +kernel
theorem dX1_takeItem_0 : decode cX1_takeItem 0 = .ok (.iload_n 1, 1) := by decide +kernel
theorem dX1_takeItem_1 : decode cX1_takeItem 1 = .ok (.invokestatic 54, 3) := by decide +kernel
theorem dX1_takeItem_4 : decode cX1_takeItem 4 = .ok (.istore_n 2, 1) := by decide +kernel
theorem dX1_takeItem_5 : decode cX1_takeItem 5 = .ok (.aload_n 0, 1) := by decide +kernel
theorem dX1_takeItem_6 : decode cX1_takeItem 6 = .ok (.getfield 20, 3) := by decide +kernel
theorem dX1_takeItem_9 : decode cX1_takeItem 9 = .ok (.iload_n 1, 1) := by decide +kernel
theorem dX1_takeItem_10 : decode cX1_takeItem 10 = .ok (.invokevirtual 58, 3) := by decide +kernel
theorem dX1_takeItem_13 : decode cX1_takeItem 13 = .ok (.iconst 0, 1) := by decide +kernel
theorem dX1_takeItem_14 : decode cX1_takeItem 14 = .ok (.istore_n 3, 1) := by decide +kernel
theorem dX1_takeItem_15 : decode cX1_takeItem 15 = .ok (.iload_n 3, 1) := by decide +kernel
theorem dX1_takeItem_16 : decode cX1_takeItem 16 = .ok (.iconst 4, 1) := by decide +kernel
theorem dX1_takeItem_17 : decode cX1_takeItem 17 = .ok (.if_icmp .ge 112, 3) := by decide +kernel
theorem dX1_takeItem_20 : decode cX1_takeItem 20 = .ok (.iload_n 3, 1) := by decide +kernel
theorem dX1_takeItem_21 : decode cX1_takeItem 21 = .ok (.iload_n 2, 1) := by decide +kernel
theorem dX1_takeItem_22 : decode cX1_takeItem 22 = .ok (.if_icmp .lt 14, 3) := by decide +kernel
theorem dX1_takeItem_25 : decode cX1_takeItem 25 = .ok (.aload_n 0, 1) := by decide +kernel
theorem dX1_takeItem_26 : decode cX1_takeItem 26 = .ok (.getfield 20, 3) := by decide +kernel
theorem dX1_takeItem_29 : decode cX1_takeItem 29 = .ok (.iconst 0, 1) := by decide +kernel
theorem dX1_takeItem_30 : decode cX1_takeItem 30 = .ok (.invokevirtual 58, 3) := by decide +kernel
theorem dX1_takeItem_33 : decode cX1_takeItem 33 = .ok (.goto 90, 3) := by decide +kernel
theorem dX1_takeItem_36 : decode cX1_takeItem 36 = .ok (.aload_n 0, 1) := by decide +kernel
theorem dX1_takeItem_37 : decode cX1_takeItem 37 = .ok (.invokevirtual 44, 3) := by decide +kernel
theorem dX1_takeItem_40 : decode cX1_takeItem 40 = .ok (.iload_n 1, 1) := by decide +kernel
theorem dX1_takeItem_41 : decode cX1_takeItem 41 = .ok (.bipush 6, 2) := by decide +kernel
theorem dX1_takeItem_43 : decode cX1_takeItem 43 = .ok (.if_icmp .ne 22, 3) := by decide +kernel
theorem dX1_takeItem_46 : decode cX1_takeItem 46 = .ok (.iload_n 3, 1) := by decide +kernel
theorem dX1_takeItem_47 : decode cX1_takeItem 47 = .ok (.iload_n 2, 1) := by decide +kernel
theorem dX1_takeItem_48 : decode cX1_takeItem 48 = .ok (.iconst 1, 1) := by decide +kernel
theorem dX1_takeItem_49 : decode cX1_takeItem 49 = .ok (.isub, 1) := by decide +kernel
theorem dX1_takeItem_50 : decode cX1_takeItem 50 = .ok (.if_icmp .ne 15, 3) := by decide +kernel
theorem dX1_takeItem_53 : decode cX1_takeItem 53 = .ok (.aload_n 0, 1) := by decide +kernel
theorem dX1_takeItem_54 : decode cX1_takeItem 54 = .ok (.getfield 30, 3) := by decide +kernel
theorem dX1_takeItem_57 : decode cX1_takeItem 57 = .ok (.iconst 3, 1) := by decide +kernel
theorem dX1_takeItem_58 : decode cX1_takeItem 58 = .ok (.if_icmp .ne 7, 3) := by decide +kernel
theorem dX1_takeItem_61 : decode cX1_takeItem 61 = .ok (.iconst 1, 1) := by decide +kernel
theorem dX1_takeItem_62 : decode cX1_takeItem 62 = .ok (.goto 4, 3) := by decide +kernel
theorem dX1_takeItem_65 : decode cX1_takeItem 65 = .ok (.iconst 0, 1) := by decide +kernel
theorem dX1_takeItem_66 : decode cX1_takeItem 66 = .ok (.istore 4, 2) := by decide +kernel
theorem dX1_takeItem_68 : decode cX1_takeItem 68 = .ok (.iload 4, 2) := by decide +kernel
theorem dX1_takeItem_70 : decode cX1_takeItem 70 = .ok (.ifCond .eq 7, 3) := by decide +kernel
theorem dX1_takeItem_73 : decode cX1_takeItem 73 = .ok (.aload_n 0, 1) := by decide +kernel
theorem dX1_takeItem_74 : decode cX1_takeItem 74 = .ok (.invokevirtual 44, 3) := by decide +kernel
theorem dX1_takeItem_77 : decode cX1_takeItem 77 = .ok (.aload_n 0, 1) := by decide +kernel
theorem dX1_takeItem_78 : decode cX1_takeItem 78 = .ok (.getfield 30, 3) := by decide +kernel
theorem dX1_takeItem_81 : decode cX1_takeItem 81 = .ok (.iconst 2, 1) := by decide +kernel
theorem dX1_takeItem_82 : decode cX1_takeItem 82 = .ok (.if_icmp .eq 5, 3) := by decide +kernel
theorem dX1_takeItem_85 : decode cX1_takeItem 85 = .ok (.iconst 0, 1) := by decide +kernel
theorem dX1_takeItem_86 : decode cX1_takeItem 86 = .ok (.ireturn, 1) := by decide +kernel
theorem dX1_takeItem_87 : decode cX1_takeItem 87 = .ok (.aload_n 0, 1) := by decide +kernel
theorem dX1_takeItem_88 : decode cX1_takeItem 88 = .ok (.getfield 14, 3) := by decide +kernel
theorem dX1_takeItem_91 : decode cX1_takeItem 91 = .ok (.aload_n 0, 1) := by decide +kernel
theorem dX1_takeItem_92 : decode cX1_takeItem 92 = .ok (.getfield 23, 3) := by decide +kernel
theorem dX1_takeItem_95 : decode cX1_takeItem 95 = .ok (.invokevirtual 61, 3) := by decide +kernel
theorem dX1_takeItem_98 : decode cX1_takeItem 98 = .ok (.bipush 48, 2) := by decide +kernel
theorem dX1_takeItem_100 : decode cX1_takeItem 100 = .ok (.isub, 1) := by decide +kernel
theorem dX1_takeItem_101 : decode cX1_takeItem 101 = .ok (.istore 5, 2) := by decide +kernel
theorem dX1_takeItem_103 : decode cX1_takeItem 103 = .ok (.aload_n 0, 1) := by decide +kernel
theorem dX1_takeItem_104 : decode cX1_takeItem 104 = .ok (.getfield 20, 3) := by decide +kernel
theorem dX1_takeItem_107 : decode cX1_takeItem 107 = .ok (.iload 4, 2) := by decide +kernel
theorem dX1_takeItem_109 : decode cX1_takeItem 109 = .ok (.ifCond .eq 9, 3) := by decide +kernel
theorem dX1_takeItem_112 : decode cX1_takeItem 112 = .ok (.iload 5, 2) := by decide +kernel
theorem dX1_takeItem_114 : decode cX1_takeItem 114 = .ok (.ineg, 1) := by decide +kernel
theorem dX1_takeItem_115 : decode cX1_takeItem 115 = .ok (.goto 5, 3) := by decide +kernel
theorem dX1_takeItem_118 : decode cX1_takeItem 118 = .ok (.iload 5, 2) := by decide +kernel
theorem dX1_takeItem_120 : decode cX1_takeItem 120 = .ok (.invokevirtual 58, 3) := by decide +kernel
theorem dX1_takeItem_123 : decode cX1_takeItem 123 = .ok (.iinc 3 1, 3) := by decide +kernel
theorem dX1_takeItem_126 : decode cX1_takeItem 126 = .ok (.goto (-111), 3) := by decide +kernel
theorem dX1_takeItem_129 : decode cX1_takeItem 129 = .ok (.aload_n 0, 1) := by decide +kernel
theorem dX1_takeItem_130 : decode cX1_takeItem 130 = .ok (.invokevirtual 44, 3) := by decide +kernel
theorem dX1_takeItem_133 : decode cX1_takeItem 133 = .ok (.aload_n 0, 1) := by decide +kernel
theorem dX1_takeItem_134 : decode cX1_takeItem 134 = .ok (.getfield 30, 3) := by decide +kernel
theorem dX1_takeItem_137 : decode cX1_takeItem 137 = .ok (.iconst 4, 1) := by decide +kernel
theorem dX1_takeItem_138 : decode cX1_takeItem 138 = .ok (.if_icmp .ne 7, 3) := by decide +kernel
theorem dX1_takeItem_141 : decode cX1_takeItem 141 = .ok (.iconst 1, 1) := by decide +kernel
theorem dX1_takeItem_142 : decode cX1_takeItem 142 = .ok (.goto 4, 3) := by decide +kernel
theorem dX1_takeItem_145 : decode cX1_takeItem 145 = .ok (.iconst 0, 1) := by decide +kernel
theorem dX1_takeItem_146 : decode cX1_takeItem 146 = .ok (.ireturn, 1) := by decide +kernel
theorem dX1_numbersOf_0 : decode cX1_numbersOf 0 = .ok (.iload_n 0, 1) := by decide +kernel
theorem dX1_numbersOf_1 : decode cX1_numbersOf 1 = .ok (.bipush 6, 2) := by decide +kernel
theorem dX1_numbersOf_3 : decode cX1_numbersOf 3 = .ok (.if_icmp .ne 5, 3) := by decide +kernel
theorem dX1_numbersOf_6 : decode cX1_numbersOf 6 = .ok (.iconst 4, 1) := by decide +kernel
theorem dX1_numbersOf_7 : decode cX1_numbersOf 7 = .ok (.ireturn, 1) := by decide +kernel
theorem dX1_numbersOf_8 : decode cX1_numbersOf 8 = .ok (.iload_n 0, 1) := by decide +kernel
theorem dX1_numbersOf_9 : decode cX1_numbersOf 9 = .ok (.bipush 8, 2) := by decide +kernel
theorem dX1_numbersOf_11 : decode cX1_numbersOf 11 = .ok (.if_icmp .ne 7, 3) := by decide +kernel
theorem dX1_numbersOf_14 : decode cX1_numbersOf 14 = .ok (.iconst 2, 1) := by decide +kernel
theorem dX1_numbersOf_15 : decode cX1_numbersOf 15 = .ok (.goto 4, 3) := by decide +kernel
theorem dX1_numbersOf_18 : decode cX1_numbersOf 18 = .ok (.iconst 1, 1) := by decide +kernel
theorem dX1_numbersOf_19 : decode cX1_numbersOf 19 = .ok (.ireturn, 1) := by decide +kernel
theorem dX1_scan_0 : decode cX1_scan 0 = .ok (.aload_n 0, 1) := by decide +kernel
theorem dX1_scan_1 : decode cX1_scan 1 = .ok (.getfield 27, 3) := by decide +kernel
theorem dX1_scan_4 : decode cX1_scan 4 = .ok (.istore_n 1, 1) := by decide +kernel
theorem dX1_scan_5 : decode cX1_scan 5 = .ok (.iload_n 1, 1) := by decide +kernel
theorem dX1_scan_6 : decode cX1_scan 6 = .ok (.aload_n 0, 1) := by decide +kernel
theorem dX1_scan_7 : decode cX1_scan 7 = .ok (.getfield 14, 3) := by decide +kernel
theorem dX1_scan_10 : decode cX1_scan 10 = .ok (.invokevirtual 33, 3) := by decide +kernel
theorem dX1_scan_13 : decode cX1_scan 13 = .ok (.if_icmp .ge 29, 3) := by decide +kernel
theorem dX1_scan_16 : decode cX1_scan 16 = .ok (.aload_n 0, 1) := by decide +kernel
theorem dX1_scan_17 : decode cX1_scan 17 = .ok (.getfield 14, 3) := by decide +kernel
theorem dX1_scan_20 : decode cX1_scan 20 = .ok (.iload_n 1, 1) := by decide +kernel
theorem dX1_scan_21 : decode cX1_scan 21 = .ok (.invokevirtual 61, 3) := by decide +kernel
theorem dX1_scan_24 : decode cX1_scan 24 = .ok (.bipush 32, 2) := by decide +kernel
theorem dX1_scan_26 : decode cX1_scan 26 = .ok (.if_icmp .ne 16, 3) := by decide +kernel
theorem dX1_scan_29 : decode cX1_scan 29 = .ok (.aload_n 0, 1) := by decide +kernel
theorem dX1_scan_30 : decode cX1_scan 30 = .ok (.iload_n 1, 1) := by decide +kernel
theorem dX1_scan_31 : decode cX1_scan 31 = .ok (.iconst 1, 1) := by decide +kernel
theorem dX1_scan_32 : decode cX1_scan 32 = .ok (.iadd, 1) := by decide +kernel
theorem dX1_scan_33 : decode cX1_scan 33 = .ok (.putfield 27, 3) := by decide +kernel
theorem dX1_scan_36 : decode cX1_scan 36 = .ok (.iinc 1 1, 3) := by decide +kernel
theorem dX1_scan_39 : decode cX1_scan 39 = .ok (.goto (-34), 3) := by decide +kernel
theorem dX1_scan_42 : decode cX1_scan 42 = .ok (.aload_n 0, 1) := by decide +kernel
theorem dX1_scan_43 : decode cX1_scan 43 = .ok (.aload_n 0, 1) := by decide +kernel
theorem dX1_scan_44 : decode cX1_scan 44 = .ok (.getfield 27, 3) := by decide +kernel
theorem dX1_scan_47 : decode cX1_scan 47 = .ok (.putfield 23, 3) := by decide +kernel
theorem dX1_scan_50 : decode cX1_scan 50 = .ok (.aload_n 0, 1) := by decide +kernel
theorem dX1_scan_51 : decode cX1_scan 51 = .ok (.getfield 14, 3) := by decide +kernel
theorem dX1_scan_54 : decode cX1_scan 54 = .ok (.aload_n 0, 1) := by decide +kernel
theorem dX1_scan_55 : decode cX1_scan 55 = .ok (.getfield 23, 3) := by decide +kernel
theorem dX1_scan_58 : decode cX1_scan 58 = .ok (.invokevirtual 64, 3) := by decide +kernel
theorem dX1_scan_61 : decode cX1_scan 61 = .ok (.ifCond .ne 9, 3) := by decide +kernel
theorem dX1_scan_64 : decode cX1_scan 64 = .ok (.aload_n 0, 1) := by decide +kernel
theorem dX1_scan_65 : decode cX1_scan 65 = .ok (.iconst 0, 1) := by decide +kernel
theorem dX1_scan_66 : decode cX1_scan 66 = .ok (.putfield 30, 3) := by decide +kernel
theorem dX1_scan_69 : decode cX1_scan 69 = .ok (.return_, 1) := by decide +kernel
theorem dX1_scan_70 : decode cX1_scan 70 = .ok (.aload_n 0, 1) := by decide +kernel
theorem dX1_scan_71 : decode cX1_scan 71 = .ok (.getfield 14, 3) := by decide +kernel
theorem dX1_scan_74 : decode cX1_scan 74 = .ok (.aload_n 0, 1) := by decide +kernel
theorem dX1_scan_75 : decode cX1_scan 75 = .ok (.getfield 23, 3) := by decide +kernel
theorem dX1_scan_78 : decode cX1_scan 78 = .ok (.invokevirtual 61, 3) := by decide +kernel
theorem dX1_scan_81 : decode cX1_scan 81 = .ok (.istore_n 1, 1) := by decide +kernel
theorem dX1_scan_82 : decode cX1_scan 82 = .ok (.aload_n 0, 1) := by decide +kernel
theorem dX1_scan_83 : decode cX1_scan 83 = .ok (.aload_n 0, 1) := by decide +kernel
theorem dX1_scan_84 : decode cX1_scan 84 = .ok (.getfield 23, 3) := by decide +kernel
theorem dX1_scan_87 : decode cX1_scan 87 = .ok (.iconst 1, 1) := by decide +kernel
theorem dX1_scan_88 : decode cX1_scan 88 = .ok (.iadd, 1) := by decide +kernel
theorem dX1_scan_89 : decode cX1_scan 89 = .ok (.putfield 27, 3) := by decide +kernel
theorem dX1_scan_92 : decode cX1_scan 92 = .ok (.iload_n 1, 1) := by decide +kernel
theorem dX1_scan_93 : decode cX1_scan 93 = .ok (.invokestatic 67, 3) := by decide +kernel
theorem dX1_scan_96 : decode cX1_scan 96 = .ok (.ifCond .eq 14, 3) := by decide +kernel
theorem dX1_scan_99 : decode cX1_scan 99 = .ok (.aload_n 0, 1) := by decide +kernel
theorem dX1_scan_100 : decode cX1_scan 100 = .ok (.aload_n 0, 1) := by decide +kernel
theorem dX1_scan_101 : decode cX1_scan 101 = .ok (.invokevirtual 70, 3) := by decide +kernel
theorem dX1_scan_104 : decode cX1_scan 104 = .ok (.putfield 30, 3) := by decide +kernel
theorem dX1_scan_107 : decode cX1_scan 107 = .ok (.goto 50, 3) := by decide +kernel
theorem dX1_scan_110 : decode cX1_scan 110 = .ok (.iload_n 1, 1) := by decide +kernel
theorem dX1_scan_111 : decode cX1_scan 111 = .ok (.invokestatic 73, 3) := by decide +kernel
theorem dX1_scan_114 : decode cX1_scan 114 = .ok (.ifCond .eq 14, 3) := by decide +kernel
theorem dX1_scan_117 : decode cX1_scan 117 = .ok (.aload_n 0, 1) := by decide +kernel
theorem dX1_scan_118 : decode cX1_scan 118 = .ok (.aload_n 0, 1) := by decide +kernel
theorem dX1_scan_119 : decode cX1_scan 119 = .ok (.invokevirtual 76, 3) := by decide +kernel
theorem dX1_scan_122 : decode cX1_scan 122 = .ok (.putfield 30, 3) := by decide +kernel
theorem dX1_scan_125 : decode cX1_scan 125 = .ok (.goto 32, 3) := by decide +kernel
theorem dX1_scan_128 : decode cX1_scan 128 = .ok (.iload_n 1, 1) := by decide +kernel
theorem dX1_scan_129 : decode cX1_scan 129 = .ok (.bipush 45, 2) := by decide +kernel
theorem dX1_scan_131 : decode cX1_scan 131 = .ok (.if_icmp .ne 11, 3) := by decide +kernel
theorem dX1_scan_134 : decode cX1_scan 134 = .ok (.aload_n 0, 1) := by decide +kernel
theorem dX1_scan_135 : decode cX1_scan 135 = .ok (.iconst 3, 1) := by decide +kernel
theorem dX1_scan_136 : decode cX1_scan 136 = .ok (.putfield 30, 3) := by decide +kernel
theorem dX1_scan_139 : decode cX1_scan 139 = .ok (.goto 18, 3) := by decide +kernel
theorem dX1_scan_142 : decode cX1_scan 142 = .ok (.aload_n 0, 1) := by decide +kernel
theorem dX1_scan_143 : decode cX1_scan 143 = .ok (.iload_n 1, 1) := by decide +kernel
theorem dX1_scan_144 : decode cX1_scan 144 = .ok (.bipush 59, 2) := by decide +kernel
theorem dX1_scan_146 : decode cX1_scan 146 = .ok (.if_icmp .ne 7, 3) := by decide +kernel
theorem dX1_scan_149 : decode cX1_scan 149 = .ok (.iconst 4, 1) := by decide +kernel
theorem dX1_scan_150 : decode cX1_scan 150 = .ok (.goto 4, 3) := by decide +kernel
theorem dX1_scan_153 : decode cX1_scan 153 = .ok (.iconst 1, 1) := by decide +kernel
theorem dX1_scan_154 : decode cX1_scan 154 = .ok (.putfield 30, 3) := by decide +kernel
theorem dX1_scan_157 : decode cX1_scan 157 = .ok (.return_, 1) := by decide +kernel
theorem dX1_numberHere_0 : decode cX1_numberHere 0 = .ok (.aload_n 0, 1) := by decide +kernel
theorem dX1_numberHere_1 : decode cX1_numberHere 1 = .ok (.getfield 27, 3) := by decide +kernel
theorem dX1_numberHere_4 : decode cX1_numberHere 4 = .ok (.istore_n 1, 1) := by decide +kernel
theorem dX1_numberHere_5 : decode cX1_numberHere 5 = .ok (.iload_n 1, 1) := by decide +kernel
theorem dX1_numberHere_6 : decode cX1_numberHere 6 = .ok (.aload_n 0, 1) := by decide +kernel
theorem dX1_numberHere_7 : decode cX1_numberHere 7 = .ok (.getfield 14, 3) := by decide +kernel
theorem dX1_numberHere_10 : decode cX1_numberHere 10 = .ok (.invokevirtual 33, 3) := by decide +kernel
theorem dX1_numberHere_13 : decode cX1_numberHere 13 = .ok (.if_icmp .ge 30, 3) := by decide +kernel
theorem dX1_numberHere_16 : decode cX1_numberHere 16 = .ok (.aload_n 0, 1) := by decide +kernel
theorem dX1_numberHere_17 : decode cX1_numberHere 17 = .ok (.getfield 14, 3) := by decide +kernel
theorem dX1_numberHere_20 : decode cX1_numberHere 20 = .ok (.iload_n 1, 1) := by decide +kernel
theorem dX1_numberHere_21 : decode cX1_numberHere 21 = .ok (.invokevirtual 61, 3) := by decide +kernel
theorem dX1_numberHere_24 : decode cX1_numberHere 24 = .ok (.invokestatic 73, 3) := by decide +kernel
theorem dX1_numberHere_27 : decode cX1_numberHere 27 = .ok (.ifCond .eq 16, 3) := by decide +kernel
theorem dX1_numberHere_30 : decode cX1_numberHere 30 = .ok (.aload_n 0, 1) := by decide +kernel
theorem dX1_numberHere_31 : decode cX1_numberHere 31 = .ok (.iload_n 1, 1) := by decide +kernel
theorem dX1_numberHere_32 : decode cX1_numberHere 32 = .ok (.iconst 1, 1) := by decide +kernel
theorem dX1_numberHere_33 : decode cX1_numberHere 33 = .ok (.iadd, 1) := by decide +kernel
theorem dX1_numberHere_34 : decode cX1_numberHere 34 = .ok (.putfield 27, 3) := by decide +kernel
theorem dX1_numberHere_37 : decode cX1_numberHere 37 = .ok (.iinc 1 1, 3) := by decide +kernel
theorem dX1_numberHere_40 : decode cX1_numberHere 40 = .ok (.goto (-35), 3) := by decide +kernel
theorem dX1_numberHere_43 : decode cX1_numberHere 43 = .ok (.aload_n 0, 1) := by decide +kernel
theorem dX1_numberHere_44 : decode cX1_numberHere 44 = .ok (.getfield 27, 3) := by decide +kernel
theorem dX1_numberHere_47 : decode cX1_numberHere 47 = .ok (.aload_n 0, 1) := by decide +kernel
theorem dX1_numberHere_48 : decode cX1_numberHere 48 = .ok (.getfield 23, 3) := by decide +kernel
theorem dX1_numberHere_51 : decode cX1_numberHere 51 = .ok (.iconst 1, 1) := by decide +kernel
theorem dX1_numberHere_52 : decode cX1_numberHere 52 = .ok (.iadd, 1) := by decide +kernel
theorem dX1_numberHere_53 : decode cX1_numberHere 53 = .ok (.if_icmp .ne 7, 3) := by decide +kernel
theorem dX1_numberHere_56 : decode cX1_numberHere 56 = .ok (.iconst 2, 1) := by decide +kernel
theorem dX1_numberHere_57 : decode cX1_numberHere 57 = .ok (.goto 4, 3) := by decide +kernel
theorem dX1_numberHere_60 : decode cX1_numberHere 60 = .ok (.iconst 1, 1) := by decide +kernel
theorem dX1_numberHere_61 : decode cX1_numberHere 61 = .ok (.ireturn, 1) := by decide +kernel
theorem dX1_wordHere_0 : decode cX1_wordHere 0 = .ok (.aload_n 0, 1) := by decide +kernel
theorem dX1_wordHere_1 : decode cX1_wordHere 1 = .ok (.getfield 27, 3) := by decide +kernel
theorem dX1_wordHere_4 : decode cX1_wordHere 4 = .ok (.istore_n 1, 1) := by decide +kernel
theorem dX1_wordHere_5 : decode cX1_wordHere 5 = .ok (.iload_n 1, 1) := by decide +kernel
theorem dX1_wordHere_6 : decode cX1_wordHere 6 = .ok (.aload_n 0, 1) := by decide +kernel
theorem dX1_wordHere_7 : decode cX1_wordHere 7 = .ok (.getfield 14, 3) := by decide +kernel
theorem dX1_wordHere_10 : decode cX1_wordHere 10 = .ok (.invokevirtual 33, 3) := by decide +kernel
theorem dX1_wordHere_13 : decode cX1_wordHere 13 = .ok (.if_icmp .ge 30, 3) := by decide +kernel
theorem dX1_wordHere_16 : decode cX1_wordHere 16 = .ok (.aload_n 0, 1) := by decide +kernel
theorem dX1_wordHere_17 : decode cX1_wordHere 17 = .ok (.getfield 14, 3) := by decide +kernel
theorem dX1_wordHere_20 : decode cX1_wordHere 20 = .ok (.iload_n 1, 1) := by decide +kernel
theorem dX1_wordHere_21 : decode cX1_wordHere 21 = .ok (.invokevirtual 61, 3) := by decide +kernel
theorem dX1_wordHere_24 : decode cX1_wordHere 24 = .ok (.invokestatic 67, 3) := by decide +kernel
theorem dX1_wordHere_27 : decode cX1_wordHere 27 = .ok (.ifCond .eq 16, 3) := by decide +kernel
theorem dX1_wordHere_30 : decode cX1_wordHere 30 = .ok (.aload_n 0, 1) := by decide +kernel
theorem dX1_wordHere_31 : decode cX1_wordHere 31 = .ok (.iload_n 1, 1) := by decide +kernel
theorem dX1_wordHere_32 : decode cX1_wordHere 32 = .ok (.iconst 1, 1) := by decide +kernel
theorem dX1_wordHere_33 : decode cX1_wordHere 33 = .ok (.iadd, 1) := by decide +kernel
theorem dX1_wordHere_34 : decode cX1_wordHere 34 = .ok (.putfield 27, 3) := by decide +kernel
theorem dX1_wordHere_37 : decode cX1_wordHere 37 = .ok (.iinc 1 1, 3) := by decide +kernel
theorem dX1_wordHere_40 : decode cX1_wordHere 40 = .ok (.goto (-35), 3) := by decide +kernel
theorem dX1_wordHere_43 : decode cX1_wordHere 43 = .ok (.aload_n 0, 1) := by decide +kernel
theorem dX1_wordHere_44 : decode cX1_wordHere 44 = .ok (.ldc 79, 2) := by decide +kernel
theorem dX1_wordHere_46 : decode cX1_wordHere 46 = .ok (.invokevirtual 81, 3) := by decide +kernel
theorem dX1_wordHere_49 : decode cX1_wordHere 49 = .ok (.ifCond .eq 5, 3) := by decide +kernel
theorem dX1_wordHere_52 : decode cX1_wordHere 52 = .ok (.iconst 5, 1) := by decide +kernel
theorem dX1_wordHere_53 : decode cX1_wordHere 53 = .ok (.ireturn, 1) := by decide +kernel
theorem dX1_wordHere_54 : decode cX1_wordHere 54 = .ok (.aload_n 0, 1) := by decide +kernel
theorem dX1_wordHere_55 : decode cX1_wordHere 55 = .ok (.ldc 85, 2) := by decide +kernel
theorem dX1_wordHere_57 : decode cX1_wordHere 57 = .ok (.invokevirtual 81, 3) := by decide +kernel
theorem dX1_wordHere_60 : decode cX1_wordHere 60 = .ok (.ifCond .eq 6, 3) := by decide +kernel
theorem dX1_wordHere_63 : decode cX1_wordHere 63 = .ok (.bipush 6, 2) := by decide +kernel
theorem dX1_wordHere_65 : decode cX1_wordHere 65 = .ok (.ireturn, 1) := by decide +kernel
theorem dX1_wordHere_66 : decode cX1_wordHere 66 = .ok (.aload_n 0, 1) := by decide +kernel
theorem dX1_wordHere_67 : decode cX1_wordHere 67 = .ok (.ldc 87, 2) := by decide +kernel
theorem dX1_wordHere_69 : decode cX1_wordHere 69 = .ok (.invokevirtual 81, 3) := by decide +kernel
theorem dX1_wordHere_72 : decode cX1_wordHere 72 = .ok (.ifCond .eq 6, 3) := by decide +kernel
theorem dX1_wordHere_75 : decode cX1_wordHere 75 = .ok (.bipush 7, 2) := by decide +kernel
theorem dX1_wordHere_77 : decode cX1_wordHere 77 = .ok (.ireturn, 1) := by decide +kernel
theorem dX1_wordHere_78 : decode cX1_wordHere 78 = .ok (.aload_n 0, 1) := by decide +kernel
theorem dX1_wordHere_79 : decode cX1_wordHere 79 = .ok (.ldc 89, 2) := by decide +kernel
theorem dX1_wordHere_81 : decode cX1_wordHere 81 = .ok (.invokevirtual 81, 3) := by decide +kernel
theorem dX1_wordHere_84 : decode cX1_wordHere 84 = .ok (.ifCond .eq 6, 3) := by decide +kernel
theorem dX1_wordHere_87 : decode cX1_wordHere 87 = .ok (.bipush 8, 2) := by decide +kernel
theorem dX1_wordHere_89 : decode cX1_wordHere 89 = .ok (.ireturn, 1) := by decide +kernel
theorem dX1_wordHere_90 : decode cX1_wordHere 90 = .ok (.aload_n 0, 1) := by decide +kernel
theorem dX1_wordHere_91 : decode cX1_wordHere 91 = .ok (.ldc 91, 2) := by decide +kernel
theorem dX1_wordHere_93 : decode cX1_wordHere 93 = .ok (.invokevirtual 81, 3) := by decide +kernel
theorem dX1_wordHere_96 : decode cX1_wordHere 96 = .ok (.ifCond .eq 8, 3) := by decide +kernel
theorem dX1_wordHere_99 : decode cX1_wordHere 99 = .ok (.bipush 9, 2) := by decide +kernel
theorem dX1_wordHere_101 : decode cX1_wordHere 101 = .ok (.goto 4, 3) := by decide +kernel
theorem dX1_wordHere_104 : decode cX1_wordHere 104 = .ok (.iconst 1, 1) := by decide +kernel
theorem dX1_wordHere_105 : decode cX1_wordHere 105 = .ok (.ireturn, 1) := by decide +kernel
theorem dX1_isHere_0 : decode cX1_isHere 0 = .ok (.aload_n 0, 1) := by decide +kernel
theorem dX1_isHere_1 : decode cX1_isHere 1 = .ok (.getfield 27, 3) := by decide +kernel
theorem dX1_isHere_4 : decode cX1_isHere 4 = .ok (.aload_n 0, 1) := by decide +kernel
theorem dX1_isHere_5 : decode cX1_isHere 5 = .ok (.getfield 23, 3) := by decide +kernel
theorem dX1_isHere_8 : decode cX1_isHere 8 = .ok (.isub, 1) := by decide +kernel
theorem dX1_isHere_9 : decode cX1_isHere 9 = .ok (.aload_n 1, 1) := by decide +kernel
theorem dX1_isHere_10 : decode cX1_isHere 10 = .ok (.invokevirtual 93, 3) := by decide +kernel
theorem dX1_isHere_13 : decode cX1_isHere 13 = .ok (.if_icmp .eq 5, 3) := by decide +kernel
theorem dX1_isHere_16 : decode cX1_isHere 16 = .ok (.iconst 0, 1) := by decide +kernel
theorem dX1_isHere_17 : decode cX1_isHere 17 = .ok (.ireturn, 1) := by decide +kernel
theorem dX1_isHere_18 : decode cX1_isHere 18 = .ok (.iconst 0, 1) := by decide +kernel
theorem dX1_isHere_19 : decode cX1_isHere 19 = .ok (.istore_n 2, 1) := by decide +kernel
theorem dX1_isHere_20 : decode cX1_isHere 20 = .ok (.iload_n 2, 1) := by decide +kernel
theorem dX1_isHere_21 : decode cX1_isHere 21 = .ok (.aload_n 1, 1) := by decide +kernel
theorem dX1_isHere_22 : decode cX1_isHere 22 = .ok (.invokevirtual 93, 3) := by decide +kernel
theorem dX1_isHere_25 : decode cX1_isHere 25 = .ok (.if_icmp .ge 32, 3) := by decide +kernel
theorem dX1_isHere_28 : decode cX1_isHere 28 = .ok (.aload_n 0, 1) := by decide +kernel
theorem dX1_isHere_29 : decode cX1_isHere 29 = .ok (.getfield 14, 3) := by decide +kernel
theorem dX1_isHere_32 : decode cX1_isHere 32 = .ok (.aload_n 0, 1) := by decide +kernel
theorem dX1_isHere_33 : decode cX1_isHere 33 = .ok (.getfield 23, 3) := by decide +kernel
theorem dX1_isHere_36 : decode cX1_isHere 36 = .ok (.iload_n 2, 1) := by decide +kernel
theorem dX1_isHere_37 : decode cX1_isHere 37 = .ok (.iadd, 1) := by decide +kernel
theorem dX1_isHere_38 : decode cX1_isHere 38 = .ok (.invokevirtual 61, 3) := by decide +kernel
theorem dX1_isHere_41 : decode cX1_isHere 41 = .ok (.aload_n 1, 1) := by decide +kernel
theorem dX1_isHere_42 : decode cX1_isHere 42 = .ok (.iload_n 2, 1) := by decide +kernel
theorem dX1_isHere_43 : decode cX1_isHere 43 = .ok (.invokevirtual 98, 3) := by decide +kernel
theorem dX1_isHere_46 : decode cX1_isHere 46 = .ok (.if_icmp .eq 5, 3) := by decide +kernel
theorem dX1_isHere_49 : decode cX1_isHere 49 = .ok (.iconst 0, 1) := by decide +kernel
theorem dX1_isHere_50 : decode cX1_isHere 50 = .ok (.ireturn, 1) := by decide +kernel
theorem dX1_isHere_51 : decode cX1_isHere 51 = .ok (.iinc 2 1, 3) := by decide +kernel
theorem dX1_isHere_54 : decode cX1_isHere 54 = .ok (.goto (-34), 3) := by decide +kernel
theorem dX1_isHere_57 : decode cX1_isHere 57 = .ok (.iconst 1, 1) := by decide +kernel
theorem dX1_isHere_58 : decode cX1_isHere 58 = .ok (.ireturn, 1) := by decide +kernel
theorem dX1_isLetter_0 : decode cX1_isLetter 0 = .ok (.iload_n 0, 1) := by decide +kernel
theorem dX1_isLetter_1 : decode cX1_isLetter 1 = .ok (.bipush 97, 2) := by decide +kernel
theorem dX1_isLetter_3 : decode cX1_isLetter 3 = .ok (.if_icmp .lt 13, 3) := by decide +kernel
theorem dX1_isLetter_6 : decode cX1_isLetter 6 = .ok (.iload_n 0, 1) := by decide +kernel
theorem dX1_isLetter_7 : decode cX1_isLetter 7 = .ok (.bipush 122, 2) := by decide +kernel
theorem dX1_isLetter_9 : decode cX1_isLetter 9 = .ok (.if_icmp .gt 7, 3) := by decide +kernel
theorem dX1_isLetter_12 : decode cX1_isLetter 12 = .ok (.iconst 1, 1) := by decide +kernel
theorem dX1_isLetter_13 : decode cX1_isLetter 13 = .ok (.goto 4, 3) := by decide +kernel
theorem dX1_isLetter_16 : decode cX1_isLetter 16 = .ok (.iconst 0, 1) := by decide +kernel
theorem dX1_isLetter_17 : decode cX1_isLetter 17 = .ok (.ireturn, 1) := by decide +kernel
theorem dX1_isFigure_0 : decode cX1_isFigure 0 = .ok (.iload_n 0, 1) := by decide +kernel
theorem dX1_isFigure_1 : decode cX1_isFigure 1 = .ok (.bipush 48, 2) := by decide +kernel
theorem dX1_isFigure_3 : decode cX1_isFigure 3 = .ok (.if_icmp .lt 13, 3) := by decide +kernel
theorem dX1_isFigure_6 : decode cX1_isFigure 6 = .ok (.iload_n 0, 1) := by decide +kernel
theorem dX1_isFigure_7 : decode cX1_isFigure 7 = .ok (.bipush 57, 2) := by decide +kernel
theorem dX1_isFigure_9 : decode cX1_isFigure 9 = .ok (.if_icmp .gt 7, 3) := by decide +kernel
theorem dX1_isFigure_12 : decode cX1_isFigure 12 = .ok (.iconst 1, 1) := by decide +kernel
theorem dX1_isFigure_13 : decode cX1_isFigure 13 = .ok (.goto 4, 3) := by decide +kernel
theorem dX1_isFigure_16 : decode cX1_isFigure 16 = .ok (.iconst 0, 1) := by decide +kernel
theorem dX1_isFigure_17 : decode cX1_isFigure 17 = .ok (.ireturn, 1) := by decide +kernel
theorem dX1_refusedBy_0 : decode cX1_refusedBy 0 = .ok (.iconst 0, 1) := by decide +kernel
theorem dX1_refusedBy_1 : decode cX1_refusedBy 1 = .ok (.istore_n 2, 1) := by decide +kernel
theorem dX1_refusedBy_2 : decode cX1_refusedBy 2 = .ok (.iload_n 2, 1) := by decide +kernel
theorem dX1_refusedBy_3 : decode cX1_refusedBy 3 = .ok (.aload_n 0, 1) := by decide +kernel
theorem dX1_refusedBy_4 : decode cX1_refusedBy 4 = .ok (.invokevirtual 47, 3) := by decide +kernel
theorem dX1_refusedBy_7 : decode cX1_refusedBy 7 = .ok (.if_icmp .ge 38, 3) := by decide +kernel
theorem dX1_refusedBy_10 : decode cX1_refusedBy 10 = .ok (.aload_n 0, 1) := by decide +kernel
theorem dX1_refusedBy_11 : decode cX1_refusedBy 11 = .ok (.aload_n 1, 1) := by decide +kernel
theorem dX1_refusedBy_12 : decode cX1_refusedBy 12 = .ok (.iload_n 2, 1) := by decide +kernel
theorem dX1_refusedBy_13 : decode cX1_refusedBy 13 = .ok (.iconst 5, 1) := by decide +kernel
theorem dX1_refusedBy_14 : decode cX1_refusedBy 14 = .ok (.imul, 1) := by decide +kernel
theorem dX1_refusedBy_15 : decode cX1_refusedBy 15 = .ok (.invokevirtual 102, 3) := by decide +kernel
theorem dX1_refusedBy_18 : decode cX1_refusedBy 18 = .ok (.istore_n 3, 1) := by decide +kernel
theorem dX1_refusedBy_19 : decode cX1_refusedBy 19 = .ok (.iload_n 3, 1) := by decide +kernel
theorem dX1_refusedBy_20 : decode cX1_refusedBy 20 = .ok (.bipush (-2), 2) := by decide +kernel
theorem dX1_refusedBy_22 : decode cX1_refusedBy 22 = .ok (.if_icmp .eq 15, 3) := by decide +kernel
theorem dX1_refusedBy_25 : decode cX1_refusedBy 25 = .ok (.iload_n 3, 1) := by decide +kernel
theorem dX1_refusedBy_26 : decode cX1_refusedBy 26 = .ok (.bipush (-3), 2) := by decide +kernel
theorem dX1_refusedBy_28 : decode cX1_refusedBy 28 = .ok (.if_icmp .eq 9, 3) := by decide +kernel
theorem dX1_refusedBy_31 : decode cX1_refusedBy 31 = .ok (.iload_n 3, 1) := by decide +kernel
theorem dX1_refusedBy_32 : decode cX1_refusedBy 32 = .ok (.bipush (-4), 2) := by decide +kernel
theorem dX1_refusedBy_34 : decode cX1_refusedBy 34 = .ok (.if_icmp .ne 5, 3) := by decide +kernel
theorem dX1_refusedBy_37 : decode cX1_refusedBy 37 = .ok (.iload_n 2, 1) := by decide +kernel
theorem dX1_refusedBy_38 : decode cX1_refusedBy 38 = .ok (.ireturn, 1) := by decide +kernel
theorem dX1_refusedBy_39 : decode cX1_refusedBy 39 = .ok (.iinc 2 1, 3) := by decide +kernel
theorem dX1_refusedBy_42 : decode cX1_refusedBy 42 = .ok (.goto (-40), 3) := by decide +kernel
theorem dX1_refusedBy_45 : decode cX1_refusedBy 45 = .ok (.iconst (-1), 1) := by decide +kernel
theorem dX1_refusedBy_46 : decode cX1_refusedBy 46 = .ok (.ireturn, 1) := by decide +kernel
theorem dX1_tell_0 : decode cX1_tell 0 = .ok (.aload_n 0, 1) := by decide +kernel
theorem dX1_tell_1 : decode cX1_tell 1 = .ok (.getfield 20, 3) := by decide +kernel
theorem dX1_tell_4 : decode cX1_tell 4 = .ok (.iload_n 2, 1) := by decide +kernel
theorem dX1_tell_5 : decode cX1_tell 5 = .ok (.iconst 1, 1) := by decide +kernel
theorem dX1_tell_6 : decode cX1_tell 6 = .ok (.iadd, 1) := by decide +kernel
theorem dX1_tell_7 : decode cX1_tell 7 = .ok (.invokevirtual 61, 3) := by decide +kernel
theorem dX1_tell_10 : decode cX1_tell 10 = .ok (.istore_n 3, 1) := by decide +kernel
theorem dX1_tell_11 : decode cX1_tell 11 = .ok (.aload_n 0, 1) := by decide +kernel
theorem dX1_tell_12 : decode cX1_tell 12 = .ok (.getfield 20, 3) := by decide +kernel
theorem dX1_tell_15 : decode cX1_tell 15 = .ok (.iload_n 2, 1) := by decide +kernel
theorem dX1_tell_16 : decode cX1_tell 16 = .ok (.iconst 2, 1) := by decide +kernel
theorem dX1_tell_17 : decode cX1_tell 17 = .ok (.iadd, 1) := by decide +kernel
theorem dX1_tell_18 : decode cX1_tell 18 = .ok (.invokevirtual 61, 3) := by decide +kernel
theorem dX1_tell_21 : decode cX1_tell 21 = .ok (.istore 4, 2) := by decide +kernel
theorem dX1_tell_23 : decode cX1_tell 23 = .ok (.aload_n 0, 1) := by decide +kernel
theorem dX1_tell_24 : decode cX1_tell 24 = .ok (.getfield 20, 3) := by decide +kernel
theorem dX1_tell_27 : decode cX1_tell 27 = .ok (.iload_n 2, 1) := by decide +kernel
theorem dX1_tell_28 : decode cX1_tell 28 = .ok (.invokevirtual 61, 3) := by decide +kernel
theorem dX1_tell_31 : decode cX1_tell 31 = .ok (.tableswitch 78 5 8 #[29, 35, 63, 70], 29) := by decide +kernel
theorem dX1_tell_60 : decode cX1_tell 60 = .ok (.aload_n 1, 1) := by decide +kernel
theorem dX1_tell_61 : decode cX1_tell 61 = .ok (.iload_n 3, 1) := by decide +kernel
theorem dX1_tell_62 : decode cX1_tell 62 = .ok (.invokevirtual 106, 3) := by decide +kernel
theorem dX1_tell_65 : decode cX1_tell 65 = .ok (.ireturn, 1) := by decide +kernel
theorem dX1_tell_66 : decode cX1_tell 66 = .ok (.aload_n 1, 1) := by decide +kernel
theorem dX1_tell_67 : decode cX1_tell 67 = .ok (.iload_n 3, 1) := by decide +kernel
theorem dX1_tell_68 : decode cX1_tell 68 = .ok (.iload 4, 2) := by decide +kernel
theorem dX1_tell_70 : decode cX1_tell 70 = .ok (.aload_n 0, 1) := by decide +kernel
theorem dX1_tell_71 : decode cX1_tell 71 = .ok (.getfield 20, 3) := by decide +kernel
theorem dX1_tell_74 : decode cX1_tell 74 = .ok (.iload_n 2, 1) := by decide +kernel
theorem dX1_tell_75 : decode cX1_tell 75 = .ok (.iconst 3, 1) := by decide +kernel
theorem dX1_tell_76 : decode cX1_tell 76 = .ok (.iadd, 1) := by decide +kernel
theorem dX1_tell_77 : decode cX1_tell 77 = .ok (.invokevirtual 61, 3) := by decide +kernel
theorem dX1_tell_80 : decode cX1_tell 80 = .ok (.aload_n 0, 1) := by decide +kernel
theorem dX1_tell_81 : decode cX1_tell 81 = .ok (.getfield 20, 3) := by decide +kernel
theorem dX1_tell_84 : decode cX1_tell 84 = .ok (.iload_n 2, 1) := by decide +kernel
theorem dX1_tell_85 : decode cX1_tell 85 = .ok (.iconst 4, 1) := by decide +kernel
theorem dX1_tell_86 : decode cX1_tell 86 = .ok (.iadd, 1) := by decide +kernel
theorem dX1_tell_87 : decode cX1_tell 87 = .ok (.invokevirtual 61, 3) := by decide +kernel
theorem dX1_tell_90 : decode cX1_tell 90 = .ok (.invokevirtual 111, 3) := by decide +kernel
theorem dX1_tell_93 : decode cX1_tell 93 = .ok (.ireturn, 1) := by decide +kernel
theorem dX1_tell_94 : decode cX1_tell 94 = .ok (.aload_n 1, 1) := by decide +kernel
theorem dX1_tell_95 : decode cX1_tell 95 = .ok (.iload_n 3, 1) := by decide +kernel
theorem dX1_tell_96 : decode cX1_tell 96 = .ok (.iconst 1, 1) := by decide +kernel
theorem dX1_tell_97 : decode cX1_tell 97 = .ok (.invokevirtual 115, 3) := by decide +kernel
theorem dX1_tell_100 : decode cX1_tell 100 = .ok (.ireturn, 1) := by decide +kernel
theorem dX1_tell_101 : decode cX1_tell 101 = .ok (.aload_n 1, 1) := by decide +kernel
theorem dX1_tell_102 : decode cX1_tell 102 = .ok (.iload_n 3, 1) := by decide +kernel
theorem dX1_tell_103 : decode cX1_tell 103 = .ok (.iload 4, 2) := by decide +kernel
theorem dX1_tell_105 : decode cX1_tell 105 = .ok (.invokevirtual 119, 3) := by decide +kernel
theorem dX1_tell_108 : decode cX1_tell 108 = .ok (.ireturn, 1) := by decide +kernel
theorem dX1_tell_109 : decode cX1_tell 109 = .ok (.aload_n 1, 1) := by decide +kernel
theorem dX1_tell_110 : decode cX1_tell 110 = .ok (.iload_n 3, 1) := by decide +kernel
theorem dX1_tell_111 : decode cX1_tell 111 = .ok (.invokevirtual 123, 3) := by decide +kernel
theorem dX1_tell_114 : decode cX1_tell 114 = .ok (.ireturn, 1) := by decide +kernel
theorem dX2_init_0 : decode cX2_init 0 = .ok (.aload_n 0, 1) := by decide +kernel
theorem dX2_init_1 : decode cX2_init 1 = .ok (.invokespecial 1, 3) := by decide +kernel
theorem dX2_init_4 : decode cX2_init 4 = .ok (.aload_n 0, 1) := by decide +kernel
theorem dX2_init_5 : decode cX2_init 5 = .ok (.iconst 0, 1) := by decide +kernel
theorem dX2_init_6 : decode cX2_init 6 = .ok (.putfield 7, 3) := by decide +kernel
theorem dX2_init_9 : decode cX2_init 9 = .ok (.aload_n 0, 1) := by decide +kernel
theorem dX2_init_10 : decode cX2_init 10 = .ok (.iconst 0, 1) := by decide +kernel
theorem dX2_init_11 : decode cX2_init 11 = .ok (.iload_n 1, 1) := by decide +kernel
theorem dX2_init_12 : decode cX2_init 12 = .ok (.invokestatic 13, 3) := by decide +kernel
theorem dX2_init_15 : decode cX2_init 15 = .ok (.newarray .int, 2) := by decide +kernel
theorem dX2_init_17 : decode cX2_init 17 = .ok (.putfield 19, 3) := by decide +kernel
theorem dX2_init_20 : decode cX2_init 20 = .ok (.return_, 1) := by decide +kernel
theorem dX2_size_0 : decode cX2_size 0 = .ok (.aload_n 0, 1) := by decide +kernel
theorem dX2_size_1 : decode cX2_size 1 = .ok (.getfield 7, 3) := by decide +kernel
theorem dX2_size_4 : decode cX2_size 4 = .ok (.ireturn, 1) := by decide +kernel
theorem dX2_isFull_0 : decode cX2_isFull 0 = .ok (.aload_n 0, 1) := by decide +kernel
theorem dX2_isFull_1 : decode cX2_isFull 1 = .ok (.getfield 7, 3) := by decide +kernel
theorem dX2_isFull_4 : decode cX2_isFull 4 = .ok (.aload_n 0, 1) := by decide +kernel
theorem dX2_isFull_5 : decode cX2_isFull 5 = .ok (.getfield 19, 3) := by decide +kernel
theorem dX2_isFull_8 : decode cX2_isFull 8 = .ok (.arraylength, 1) := by decide +kernel
theorem dX2_isFull_9 : decode cX2_isFull 9 = .ok (.if_icmp .lt 7, 3) := by decide +kernel
theorem dX2_isFull_12 : decode cX2_isFull 12 = .ok (.iconst 1, 1) := by decide +kernel
theorem dX2_isFull_13 : decode cX2_isFull 13 = .ok (.goto 4, 3) := by decide +kernel
theorem dX2_isFull_16 : decode cX2_isFull 16 = .ok (.iconst 0, 1) := by decide +kernel
theorem dX2_isFull_17 : decode cX2_isFull 17 = .ok (.ireturn, 1) := by decide +kernel
theorem dX2_holds_0 : decode cX2_holds 0 = .ok (.iload_n 1, 1) := by decide +kernel
theorem dX2_holds_1 : decode cX2_holds 1 = .ok (.ifCond .lt 24, 3) := by decide +kernel
theorem dX2_holds_4 : decode cX2_holds 4 = .ok (.iload_n 1, 1) := by decide +kernel
theorem dX2_holds_5 : decode cX2_holds 5 = .ok (.aload_n 0, 1) := by decide +kernel
theorem dX2_holds_6 : decode cX2_holds 6 = .ok (.getfield 7, 3) := by decide +kernel
theorem dX2_holds_9 : decode cX2_holds 9 = .ok (.if_icmp .ge 16, 3) := by decide +kernel
theorem dX2_holds_12 : decode cX2_holds 12 = .ok (.iload_n 1, 1) := by decide +kernel
theorem dX2_holds_13 : decode cX2_holds 13 = .ok (.aload_n 0, 1) := by decide +kernel
theorem dX2_holds_14 : decode cX2_holds 14 = .ok (.getfield 19, 3) := by decide +kernel
theorem dX2_holds_17 : decode cX2_holds 17 = .ok (.arraylength, 1) := by decide +kernel
theorem dX2_holds_18 : decode cX2_holds 18 = .ok (.if_icmp .ge 7, 3) := by decide +kernel
theorem dX2_holds_21 : decode cX2_holds 21 = .ok (.iconst 1, 1) := by decide +kernel
theorem dX2_holds_22 : decode cX2_holds 22 = .ok (.goto 4, 3) := by decide +kernel
theorem dX2_holds_25 : decode cX2_holds 25 = .ok (.iconst 0, 1) := by decide +kernel
theorem dX2_holds_26 : decode cX2_holds 26 = .ok (.ireturn, 1) := by decide +kernel
theorem dX2_at_0 : decode cX2_at 0 = .ok (.iload_n 1, 1) := by decide +kernel
theorem dX2_at_1 : decode cX2_at 1 = .ok (.ifCond .lt 29, 3) := by decide +kernel
theorem dX2_at_4 : decode cX2_at 4 = .ok (.iload_n 1, 1) := by decide +kernel
theorem dX2_at_5 : decode cX2_at 5 = .ok (.aload_n 0, 1) := by decide +kernel
theorem dX2_at_6 : decode cX2_at 6 = .ok (.getfield 7, 3) := by decide +kernel
theorem dX2_at_9 : decode cX2_at 9 = .ok (.if_icmp .ge 21, 3) := by decide +kernel
theorem dX2_at_12 : decode cX2_at 12 = .ok (.iload_n 1, 1) := by decide +kernel
theorem dX2_at_13 : decode cX2_at 13 = .ok (.aload_n 0, 1) := by decide +kernel
theorem dX2_at_14 : decode cX2_at 14 = .ok (.getfield 19, 3) := by decide +kernel
theorem dX2_at_17 : decode cX2_at 17 = .ok (.arraylength, 1) := by decide +kernel
theorem dX2_at_18 : decode cX2_at 18 = .ok (.if_icmp .ge 12, 3) := by decide +kernel
theorem dX2_at_21 : decode cX2_at 21 = .ok (.aload_n 0, 1) := by decide +kernel
theorem dX2_at_22 : decode cX2_at 22 = .ok (.getfield 19, 3) := by decide +kernel
theorem dX2_at_25 : decode cX2_at 25 = .ok (.iload_n 1, 1) := by decide +kernel
theorem dX2_at_26 : decode cX2_at 26 = .ok (.iaload, 1) := by decide +kernel
theorem dX2_at_27 : decode cX2_at 27 = .ok (.goto 4, 3) := by decide +kernel
theorem dX2_at_30 : decode cX2_at 30 = .ok (.iconst 0, 1) := by decide +kernel
theorem dX2_at_31 : decode cX2_at 31 = .ok (.ireturn, 1) := by decide +kernel
theorem dX2_set_0 : decode cX2_set 0 = .ok (.iload_n 1, 1) := by decide +kernel
theorem dX2_set_1 : decode cX2_set 1 = .ok (.ifCond .lt 27, 3) := by decide +kernel
theorem dX2_set_4 : decode cX2_set 4 = .ok (.iload_n 1, 1) := by decide +kernel
theorem dX2_set_5 : decode cX2_set 5 = .ok (.aload_n 0, 1) := by decide +kernel
theorem dX2_set_6 : decode cX2_set 6 = .ok (.getfield 7, 3) := by decide +kernel
theorem dX2_set_9 : decode cX2_set 9 = .ok (.if_icmp .ge 19, 3) := by decide +kernel
theorem dX2_set_12 : decode cX2_set 12 = .ok (.iload_n 1, 1) := by decide +kernel
theorem dX2_set_13 : decode cX2_set 13 = .ok (.aload_n 0, 1) := by decide +kernel
theorem dX2_set_14 : decode cX2_set 14 = .ok (.getfield 19, 3) := by decide +kernel
theorem dX2_set_17 : decode cX2_set 17 = .ok (.arraylength, 1) := by decide +kernel
theorem dX2_set_18 : decode cX2_set 18 = .ok (.if_icmp .ge 10, 3) := by decide +kernel
theorem dX2_set_21 : decode cX2_set 21 = .ok (.aload_n 0, 1) := by decide +kernel
theorem dX2_set_22 : decode cX2_set 22 = .ok (.getfield 19, 3) := by decide +kernel
theorem dX2_set_25 : decode cX2_set 25 = .ok (.iload_n 1, 1) := by decide +kernel
theorem dX2_set_26 : decode cX2_set 26 = .ok (.iload_n 2, 1) := by decide +kernel
theorem dX2_set_27 : decode cX2_set 27 = .ok (.iastore, 1) := by decide +kernel
theorem dX2_set_28 : decode cX2_set 28 = .ok (.return_, 1) := by decide +kernel
theorem dX2_add_0 : decode cX2_add 0 = .ok (.aload_n 0, 1) := by decide +kernel
theorem dX2_add_1 : decode cX2_add 1 = .ok (.getfield 7, 3) := by decide +kernel
theorem dX2_add_4 : decode cX2_add 4 = .ok (.ifCond .lt 15, 3) := by decide +kernel
theorem dX2_add_7 : decode cX2_add 7 = .ok (.aload_n 0, 1) := by decide +kernel
theorem dX2_add_8 : decode cX2_add 8 = .ok (.getfield 7, 3) := by decide +kernel
theorem dX2_add_11 : decode cX2_add 11 = .ok (.aload_n 0, 1) := by decide +kernel
theorem dX2_add_12 : decode cX2_add 12 = .ok (.getfield 19, 3) := by decide +kernel
theorem dX2_add_15 : decode cX2_add 15 = .ok (.arraylength, 1) := by decide +kernel
theorem dX2_add_16 : decode cX2_add 16 = .ok (.if_icmp .lt 4, 3) := by decide +kernel
theorem dX2_add_19 : decode cX2_add 19 = .ok (.return_, 1) := by decide +kernel
theorem dX2_add_20 : decode cX2_add 20 = .ok (.aload_n 0, 1) := by decide +kernel
theorem dX2_add_21 : decode cX2_add 21 = .ok (.getfield 19, 3) := by decide +kernel
theorem dX2_add_24 : decode cX2_add 24 = .ok (.aload_n 0, 1) := by decide +kernel
theorem dX2_add_25 : decode cX2_add 25 = .ok (.getfield 7, 3) := by decide +kernel
theorem dX2_add_28 : decode cX2_add 28 = .ok (.iload_n 1, 1) := by decide +kernel
theorem dX2_add_29 : decode cX2_add 29 = .ok (.iastore, 1) := by decide +kernel
theorem dX2_add_30 : decode cX2_add 30 = .ok (.aload_n 0, 1) := by decide +kernel
theorem dX2_add_31 : decode cX2_add 31 = .ok (.dup, 1) := by decide +kernel
theorem dX2_add_32 : decode cX2_add 32 = .ok (.getfield 7, 3) := by decide +kernel
theorem dX2_add_35 : decode cX2_add 35 = .ok (.iconst 1, 1) := by decide +kernel
theorem dX2_add_36 : decode cX2_add 36 = .ok (.iadd, 1) := by decide +kernel
theorem dX2_add_37 : decode cX2_add 37 = .ok (.putfield 7, 3) := by decide +kernel
theorem dX2_add_40 : decode cX2_add 40 = .ok (.return_, 1) := by decide +kernel
theorem dX2_takeLast_0 : decode cX2_takeLast 0 = .ok (.aload_n 0, 1) := by decide +kernel
theorem dX2_takeLast_1 : decode cX2_takeLast 1 = .ok (.aload_n 0, 1) := by decide +kernel
theorem dX2_takeLast_2 : decode cX2_takeLast 2 = .ok (.getfield 7, 3) := by decide +kernel
theorem dX2_takeLast_5 : decode cX2_takeLast 5 = .ok (.iconst 1, 1) := by decide +kernel
theorem dX2_takeLast_6 : decode cX2_takeLast 6 = .ok (.isub, 1) := by decide +kernel
theorem dX2_takeLast_7 : decode cX2_takeLast 7 = .ok (.invokevirtual 23, 3) := by decide +kernel
theorem dX2_takeLast_10 : decode cX2_takeLast 10 = .ok (.istore_n 1, 1) := by decide +kernel
theorem dX2_takeLast_11 : decode cX2_takeLast 11 = .ok (.aload_n 0, 1) := by decide +kernel
theorem dX2_takeLast_12 : decode cX2_takeLast 12 = .ok (.iconst 0, 1) := by decide +kernel
theorem dX2_takeLast_13 : decode cX2_takeLast 13 = .ok (.aload_n 0, 1) := by decide +kernel
theorem dX2_takeLast_14 : decode cX2_takeLast 14 = .ok (.getfield 7, 3) := by decide +kernel
theorem dX2_takeLast_17 : decode cX2_takeLast 17 = .ok (.iconst 1, 1) := by decide +kernel
theorem dX2_takeLast_18 : decode cX2_takeLast 18 = .ok (.isub, 1) := by decide +kernel
theorem dX2_takeLast_19 : decode cX2_takeLast 19 = .ok (.invokestatic 13, 3) := by decide +kernel
theorem dX2_takeLast_22 : decode cX2_takeLast 22 = .ok (.putfield 7, 3) := by decide +kernel
theorem dX2_takeLast_25 : decode cX2_takeLast 25 = .ok (.iload_n 1, 1) := by decide +kernel
theorem dX2_takeLast_26 : decode cX2_takeLast 26 = .ok (.ireturn, 1) := by decide +kernel
theorem dX2_dropFirst_0 : decode cX2_dropFirst 0 = .ok (.iconst 1, 1) := by decide +kernel
theorem dX2_dropFirst_1 : decode cX2_dropFirst 1 = .ok (.istore_n 1, 1) := by decide +kernel
theorem dX2_dropFirst_2 : decode cX2_dropFirst 2 = .ok (.iload_n 1, 1) := by decide +kernel
theorem dX2_dropFirst_3 : decode cX2_dropFirst 3 = .ok (.aload_n 0, 1) := by decide +kernel
theorem dX2_dropFirst_4 : decode cX2_dropFirst 4 = .ok (.getfield 7, 3) := by decide +kernel
theorem dX2_dropFirst_7 : decode cX2_dropFirst 7 = .ok (.if_icmp .ge 21, 3) := by decide +kernel
theorem dX2_dropFirst_10 : decode cX2_dropFirst 10 = .ok (.aload_n 0, 1) := by decide +kernel
theorem dX2_dropFirst_11 : decode cX2_dropFirst 11 = .ok (.iload_n 1, 1) := by decide +kernel
theorem dX2_dropFirst_12 : decode cX2_dropFirst 12 = .ok (.iconst 1, 1) := by decide +kernel
theorem dX2_dropFirst_13 : decode cX2_dropFirst 13 = .ok (.isub, 1) := by decide +kernel
theorem dX2_dropFirst_14 : decode cX2_dropFirst 14 = .ok (.aload_n 0, 1) := by decide +kernel
theorem dX2_dropFirst_15 : decode cX2_dropFirst 15 = .ok (.iload_n 1, 1) := by decide +kernel
theorem dX2_dropFirst_16 : decode cX2_dropFirst 16 = .ok (.invokevirtual 23, 3) := by decide +kernel
theorem dX2_dropFirst_19 : decode cX2_dropFirst 19 = .ok (.invokevirtual 27, 3) := by decide +kernel
theorem dX2_dropFirst_22 : decode cX2_dropFirst 22 = .ok (.iinc 1 1, 3) := by decide +kernel
theorem dX2_dropFirst_25 : decode cX2_dropFirst 25 = .ok (.goto (-23), 3) := by decide +kernel
theorem dX2_dropFirst_28 : decode cX2_dropFirst 28 = .ok (.aload_n 0, 1) := by decide +kernel
theorem dX2_dropFirst_29 : decode cX2_dropFirst 29 = .ok (.iconst 0, 1) := by decide +kernel
theorem dX2_dropFirst_30 : decode cX2_dropFirst 30 = .ok (.aload_n 0, 1) := by decide +kernel
theorem dX2_dropFirst_31 : decode cX2_dropFirst 31 = .ok (.getfield 7, 3) := by decide +kernel
theorem dX2_dropFirst_34 : decode cX2_dropFirst 34 = .ok (.iconst 1, 1) := by decide +kernel
theorem dX2_dropFirst_35 : decode cX2_dropFirst 35 = .ok (.isub, 1) := by decide +kernel
theorem dX2_dropFirst_36 : decode cX2_dropFirst 36 = .ok (.invokestatic 13, 3) := by decide +kernel
theorem dX2_dropFirst_39 : decode cX2_dropFirst 39 = .ok (.putfield 7, 3) := by decide +kernel
theorem dX2_dropFirst_42 : decode cX2_dropFirst 42 = .ok (.return_, 1) := by decide +kernel
theorem dX2_drop_0 : decode cX2_drop 0 = .ok (.aload_n 0, 1) := by decide +kernel
theorem dX2_drop_1 : decode cX2_drop 1 = .ok (.iconst 0, 1) := by decide +kernel
theorem dX2_drop_2 : decode cX2_drop 2 = .ok (.putfield 7, 3) := by decide +kernel
theorem dX2_drop_5 : decode cX2_drop 5 = .ok (.return_, 1) := by decide +kernel
theorem dX2_fill_0 : decode cX2_fill 0 = .ok (.aload_n 0, 1) := by decide +kernel
theorem dX2_fill_1 : decode cX2_fill 1 = .ok (.iconst 0, 1) := by decide +kernel
theorem dX2_fill_2 : decode cX2_fill 2 = .ok (.iload_n 1, 1) := by decide +kernel
theorem dX2_fill_3 : decode cX2_fill 3 = .ok (.aload_n 0, 1) := by decide +kernel
theorem dX2_fill_4 : decode cX2_fill 4 = .ok (.getfield 19, 3) := by decide +kernel
theorem dX2_fill_7 : decode cX2_fill 7 = .ok (.arraylength, 1) := by decide +kernel
theorem dX2_fill_8 : decode cX2_fill 8 = .ok (.invokestatic 31, 3) := by decide +kernel
theorem dX2_fill_11 : decode cX2_fill 11 = .ok (.invokestatic 13, 3) := by decide +kernel
theorem dX2_fill_14 : decode cX2_fill 14 = .ok (.putfield 7, 3) := by decide +kernel
theorem dX2_fill_17 : decode cX2_fill 17 = .ok (.iconst 0, 1) := by decide +kernel
theorem dX2_fill_18 : decode cX2_fill 18 = .ok (.istore_n 3, 1) := by decide +kernel
theorem dX2_fill_19 : decode cX2_fill 19 = .ok (.iload_n 3, 1) := by decide +kernel
theorem dX2_fill_20 : decode cX2_fill 20 = .ok (.aload_n 0, 1) := by decide +kernel
theorem dX2_fill_21 : decode cX2_fill 21 = .ok (.getfield 7, 3) := by decide +kernel
theorem dX2_fill_24 : decode cX2_fill 24 = .ok (.if_icmp .ge 25, 3) := by decide +kernel
theorem dX2_fill_27 : decode cX2_fill 27 = .ok (.iload_n 3, 1) := by decide +kernel
theorem dX2_fill_28 : decode cX2_fill 28 = .ok (.aload_n 0, 1) := by decide +kernel
theorem dX2_fill_29 : decode cX2_fill 29 = .ok (.getfield 19, 3) := by decide +kernel
theorem dX2_fill_32 : decode cX2_fill 32 = .ok (.arraylength, 1) := by decide +kernel
theorem dX2_fill_33 : decode cX2_fill 33 = .ok (.if_icmp .ge 16, 3) := by decide +kernel
theorem dX2_fill_36 : decode cX2_fill 36 = .ok (.aload_n 0, 1) := by decide +kernel
theorem dX2_fill_37 : decode cX2_fill 37 = .ok (.getfield 19, 3) := by decide +kernel
theorem dX2_fill_40 : decode cX2_fill 40 = .ok (.iload_n 3, 1) := by decide +kernel
theorem dX2_fill_41 : decode cX2_fill 41 = .ok (.iload_n 2, 1) := by decide +kernel
theorem dX2_fill_42 : decode cX2_fill 42 = .ok (.iastore, 1) := by decide +kernel
theorem dX2_fill_43 : decode cX2_fill 43 = .ok (.iinc 3 1, 3) := by decide +kernel
theorem dX2_fill_46 : decode cX2_fill 46 = .ok (.goto (-27), 3) := by decide +kernel
theorem dX2_fill_49 : decode cX2_fill 49 = .ok (.return_, 1) := by decide +kernel
theorem dX2_copyFrom_0 : decode cX2_copyFrom 0 = .ok (.aload_n 0, 1) := by decide +kernel
theorem dX2_copyFrom_1 : decode cX2_copyFrom 1 = .ok (.iconst 0, 1) := by decide +kernel
theorem dX2_copyFrom_2 : decode cX2_copyFrom 2 = .ok (.putfield 7, 3) := by decide +kernel
theorem dX2_copyFrom_5 : decode cX2_copyFrom 5 = .ok (.iconst 0, 1) := by decide +kernel
theorem dX2_copyFrom_6 : decode cX2_copyFrom 6 = .ok (.istore_n 2, 1) := by decide +kernel
theorem dX2_copyFrom_7 : decode cX2_copyFrom 7 = .ok (.iload_n 2, 1) := by decide +kernel
theorem dX2_copyFrom_8 : decode cX2_copyFrom 8 = .ok (.aload_n 1, 1) := by decide +kernel
theorem dX2_copyFrom_9 : decode cX2_copyFrom 9 = .ok (.getfield 7, 3) := by decide +kernel
theorem dX2_copyFrom_12 : decode cX2_copyFrom 12 = .ok (.if_icmp .ge 18, 3) := by decide +kernel
theorem dX2_copyFrom_15 : decode cX2_copyFrom 15 = .ok (.aload_n 0, 1) := by decide +kernel
theorem dX2_copyFrom_16 : decode cX2_copyFrom 16 = .ok (.aload_n 1, 1) := by decide +kernel
theorem dX2_copyFrom_17 : decode cX2_copyFrom 17 = .ok (.iload_n 2, 1) := by decide +kernel
theorem dX2_copyFrom_18 : decode cX2_copyFrom 18 = .ok (.invokevirtual 23, 3) := by decide +kernel
theorem dX2_copyFrom_21 : decode cX2_copyFrom 21 = .ok (.invokevirtual 34, 3) := by decide +kernel
theorem dX2_copyFrom_24 : decode cX2_copyFrom 24 = .ok (.iinc 2 1, 3) := by decide +kernel
theorem dX2_copyFrom_27 : decode cX2_copyFrom 27 = .ok (.goto (-20), 3) := by decide +kernel
theorem dX2_copyFrom_30 : decode cX2_copyFrom 30 = .ok (.return_, 1) := by decide +kernel
