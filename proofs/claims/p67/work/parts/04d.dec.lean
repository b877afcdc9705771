theorem dJ9_max_7cf53_0 : decode cJ9_max_7cf53 0 = .ok (.iload_n 0, 1) := by decide +kernel
theorem dJ9_max_7cf53_1 : decode cJ9_max_7cf53 1 = .ok (.iload_n 1, 1) := by decide +kernel
theorem dJ9_max_7cf53_2 : decode cJ9_max_7cf53 2 = .ok (.if_icmp .lt 7, 3) := by decide +kernel
theorem dJ9_max_7cf53_5 : decode cJ9_max_7cf53 5 = .ok (.iload_n 0, 1) := by decide +kernel
theorem dJ9_max_7cf53_6 : decode cJ9_max_7cf53 6 = .ok (.goto 4, 3) := by decide +kernel
theorem dJ9_max_7cf53_9 : decode cJ9_max_7cf53 9 = .ok (.iload_n 1, 1) := by decide +kernel
theorem dJ9_max_7cf53_10 : decode cJ9_max_7cf53 10 = .ok (.ireturn, 1) := by decide +kernel
theorem dJ9_max_f86c9_0 : decode cJ9_max_f86c9 0 = .ok (.lload_n 0, 1) := by decide +kernel
theorem dJ9_max_f86c9_1 : decode cJ9_max_f86c9 1 = .ok (.lload_n 2, 1) := by decide +kernel
theorem dJ9_max_f86c9_2 : decode cJ9_max_f86c9 2 = .ok (.lcmp, 1) := by decide +kernel
theorem dJ9_max_f86c9_3 : decode cJ9_max_f86c9 3 = .ok (.ifCond .lt 7, 3) := by decide +kernel
theorem dJ9_max_f86c9_6 : decode cJ9_max_f86c9 6 = .ok (.lload_n 0, 1) := by decide +kernel
theorem dJ9_max_f86c9_7 : decode cJ9_max_f86c9 7 = .ok (.goto 4, 3) := by decide +kernel
theorem dJ9_max_f86c9_10 : decode cJ9_max_f86c9 10 = .ok (.lload_n 2, 1) := by decide +kernel
theorem dJ9_max_f86c9_11 : decode cJ9_max_f86c9 11 = .ok (.lreturn, 1) := by decide +kernel
theorem dJ9_min_7cf53_0 : decode cJ9_min_7cf53 0 = .ok (.iload_n 0, 1) := by decide +kernel
theorem dJ9_min_7cf53_1 : decode cJ9_min_7cf53 1 = .ok (.iload_n 1, 1) := by decide +kernel
theorem dJ9_min_7cf53_2 : decode cJ9_min_7cf53 2 = .ok (.if_icmp .gt 7, 3) := by decide +kernel
theorem dJ9_min_7cf53_5 : decode cJ9_min_7cf53 5 = .ok (.iload_n 0, 1) := by decide +kernel
theorem dJ9_min_7cf53_6 : decode cJ9_min_7cf53 6 = .ok (.goto 4, 3) := by decide +kernel
theorem dJ9_min_7cf53_9 : decode cJ9_min_7cf53 9 = .ok (.iload_n 1, 1) := by decide +kernel
theorem dJ9_min_7cf53_10 : decode cJ9_min_7cf53 10 = .ok (.ireturn, 1) := by decide +kernel
theorem dJ0_length_8abf5_0 : decode cJ0_length_8abf5 0 = .ok (.aload_n 0, 1) := by decide +kernel
theorem dJ0_length_8abf5_1 : decode cJ0_length_8abf5 1 = .ok (.getfield 9, 3) := by decide +kernel
theorem dJ0_length_8abf5_4 : decode cJ0_length_8abf5 4 = .ok (.arraylength, 1) := by decide +kernel
theorem dJ0_length_8abf5_5 : decode cJ0_length_8abf5 5 = .ok (.aload_n 0, 1) := by decide +kernel
theorem dJ0_length_8abf5_6 : decode cJ0_length_8abf5 6 = .ok (.invokevirtual 335, 3) := by decide +kernel
theorem dJ0_length_8abf5_9 : decode cJ0_length_8abf5 9 = .ok (.ishr, 1) := by decide +kernel
theorem dJ0_length_8abf5_10 : decode cJ0_length_8abf5 10 = .ok (.ireturn, 1) := by decide +kernel
theorem dJ0_charAt_5068e_0 : decode cJ0_charAt_5068e 0 = .ok (.aload_n 0, 1) := by decide +kernel
theorem dJ0_charAt_5068e_1 : decode cJ0_charAt_5068e 1 = .ok (.invokevirtual 492, 3) := by decide +kernel
theorem dJ0_charAt_5068e_4 : decode cJ0_charAt_5068e 4 = .ok (.ifCond .eq 12, 3) := by decide +kernel
theorem dJ0_charAt_5068e_7 : decode cJ0_charAt_5068e 7 = .ok (.aload_n 0, 1) := by decide +kernel
theorem dJ0_charAt_5068e_8 : decode cJ0_charAt_5068e 8 = .ok (.getfield 9, 3) := by decide +kernel
theorem dJ0_charAt_5068e_11 : decode cJ0_charAt_5068e 11 = .ok (.iload_n 1, 1) := by decide +kernel
theorem dJ0_charAt_5068e_12 : decode cJ0_charAt_5068e 12 = .ok (.invokestatic 495, 3) := by decide +kernel
theorem dJ0_charAt_5068e_15 : decode cJ0_charAt_5068e 15 = .ok (.ireturn, 1) := by decide +kernel
theorem dJ0_charAt_5068e_16 : decode cJ0_charAt_5068e 16 = .ok (.aload_n 0, 1) := by decide +kernel
theorem dJ0_charAt_5068e_17 : decode cJ0_charAt_5068e 17 = .ok (.getfield 9, 3) := by decide +kernel
theorem dJ0_charAt_5068e_20 : decode cJ0_charAt_5068e 20 = .ok (.iload_n 1, 1) := by decide +kernel
theorem dJ0_charAt_5068e_21 : decode cJ0_charAt_5068e 21 = .ok (.invokestatic 498, 3) := by decide +kernel
theorem dJ0_charAt_5068e_24 : decode cJ0_charAt_5068e 24 = .ok (.ireturn, 1) := by decide +kernel
theorem dJ0_coder_7d493_0 : decode cJ0_coder_7d493 0 = .ok (.getstatic 38, 3) := by decide +kernel
theorem dJ0_coder_7d493_3 : decode cJ0_coder_7d493 3 = .ok (.ifCond .eq 10, 3) := by decide +kernel
theorem dJ0_coder_7d493_6 : decode cJ0_coder_7d493 6 = .ok (.aload_n 0, 1) := by decide +kernel
theorem dJ0_coder_7d493_7 : decode cJ0_coder_7d493 7 = .ok (.getfield 15, 3) := by decide +kernel
theorem dJ0_coder_7d493_10 : decode cJ0_coder_7d493 10 = .ok (.goto 4, 3) := by decide +kernel
theorem dJ0_coder_7d493_13 : decode cJ0_coder_7d493 13 = .ok (.iconst 1, 1) := by decide +kernel
theorem dJ0_coder_7d493_14 : decode cJ0_coder_7d493 14 = .ok (.ireturn, 1) := by decide +kernel
theorem dJ0_isLatin1_aae02_0 : decode cJ0_isLatin1_aae02 0 = .ok (.getstatic 38, 3) := by decide +kernel
theorem dJ0_isLatin1_aae02_3 : decode cJ0_isLatin1_aae02 3 = .ok (.ifCond .eq 14, 3) := by decide +kernel
theorem dJ0_isLatin1_aae02_6 : decode cJ0_isLatin1_aae02 6 = .ok (.aload_n 0, 1) := by decide +kernel
theorem dJ0_isLatin1_aae02_7 : decode cJ0_isLatin1_aae02 7 = .ok (.getfield 15, 3) := by decide +kernel
theorem dJ0_isLatin1_aae02_10 : decode cJ0_isLatin1_aae02 10 = .ok (.ifCond .ne 7, 3) := by decide +kernel
theorem dJ0_isLatin1_aae02_13 : decode cJ0_isLatin1_aae02 13 = .ok (.iconst 1, 1) := by decide +kernel
theorem dJ0_isLatin1_aae02_14 : decode cJ0_isLatin1_aae02 14 = .ok (.goto 4, 3) := by decide +kernel
theorem dJ0_isLatin1_aae02_17 : decode cJ0_isLatin1_aae02 17 = .ok (.iconst 0, 1) := by decide +kernel
theorem dJ0_isLatin1_aae02_18 : decode cJ0_isLatin1_aae02 18 = .ok (.ireturn, 1) := by decide +kernel
theorem dJ0_checkIndex_df160_0 : decode cJ0_checkIndex_df160 0 = .ok (.iload_n 0, 1) := by decide +kernel
theorem dJ0_checkIndex_df160_1 : decode cJ0_checkIndex_df160 1 = .ok (.iload_n 1, 1) := by decide +kernel
theorem dJ0_checkIndex_df160_2 : decode cJ0_checkIndex_df160 2 = .ok (.getstatic 1053, 3) := by decide +kernel
theorem dJ0_checkIndex_df160_5 : decode cJ0_checkIndex_df160 5 = .ok (.invokestatic 1059, 3) := by decide +kernel
theorem dJ0_checkIndex_df160_8 : decode cJ0_checkIndex_df160 8 = .ok (.pop, 1) := by decide +kernel
theorem dJ0_checkIndex_df160_9 : decode cJ0_checkIndex_df160 9 = .ok (.return_, 1) := by decide +kernel
theorem dJ1_charAt_3b067_0 : decode cJ1_charAt_3b067 0 = .ok (.iload_n 1, 1) := by decide +kernel
theorem dJ1_charAt_3b067_1 : decode cJ1_charAt_3b067 1 = .ok (.aload_n 0, 1) := by decide +kernel
theorem dJ1_charAt_3b067_2 : decode cJ1_charAt_3b067 2 = .ok (.arraylength, 1) := by decide +kernel
theorem dJ1_charAt_3b067_3 : decode cJ1_charAt_3b067 3 = .ok (.invokestatic 9, 3) := by decide +kernel
theorem dJ1_charAt_3b067_6 : decode cJ1_charAt_3b067 6 = .ok (.aload_n 0, 1) := by decide +kernel
theorem dJ1_charAt_3b067_7 : decode cJ1_charAt_3b067 7 = .ok (.iload_n 1, 1) := by decide +kernel
theorem dJ1_charAt_3b067_8 : decode cJ1_charAt_3b067 8 = .ok (.baload, 1) := by decide +kernel
theorem dJ1_charAt_3b067_9 : decode cJ1_charAt_3b067 9 = .ok (.sipush 255, 3) := by decide +kernel
theorem dJ1_charAt_3b067_12 : decode cJ1_charAt_3b067 12 = .ok (.iand, 1) := by decide +kernel
theorem dJ1_charAt_3b067_13 : decode cJ1_charAt_3b067 13 = .ok (.i2c, 1) := by decide +kernel
theorem dJ1_charAt_3b067_14 : decode cJ1_charAt_3b067 14 = .ok (.ireturn, 1) := by decide +kernel
theorem dJ2_getChar_3b067_0 : decode cJ2_getChar_3b067 0 = .ok (.getstatic 44, 3) := by decide +kernel
theorem dJ2_getChar_3b067_3 : decode cJ2_getChar_3b067 3 = .ok (.ifCond .ne 25, 3) := by decide +kernel
theorem dJ2_getChar_3b067_6 : decode cJ2_getChar_3b067 6 = .ok (.iload_n 1, 1) := by decide +kernel
theorem dJ2_getChar_3b067_7 : decode cJ2_getChar_3b067 7 = .ok (.ifCond .lt 11, 3) := by decide +kernel
theorem dJ2_getChar_3b067_10 : decode cJ2_getChar_3b067 10 = .ok (.iload_n 1, 1) := by decide +kernel
theorem dJ2_getChar_3b067_11 : decode cJ2_getChar_3b067 11 = .ok (.aload_n 0, 1) := by decide +kernel
theorem dJ2_getChar_3b067_12 : decode cJ2_getChar_3b067 12 = .ok (.invokestatic 48, 3) := by decide +kernel
theorem dJ2_getChar_3b067_15 : decode cJ2_getChar_3b067 15 = .ok (.if_icmp .lt 13, 3) := by decide +kernel
theorem dJ2_getChar_3b067_18 : decode cJ2_getChar_3b067 18 = .ok (.new 52, 3) := by decide +kernel
theorem dJ2_getChar_3b067_21 : decode cJ2_getChar_3b067 21 = .ok (.dup, 1) := by decide +kernel
theorem dJ2_getChar_3b067_22 : decode cJ2_getChar_3b067 22 = .ok (.ldc 54, 2) := by decide +kernel
theorem dJ2_getChar_3b067_24 : decode cJ2_getChar_3b067 24 = .ok (.invokespecial 56, 3) := by decide +kernel
theorem dJ2_getChar_3b067_27 : decode cJ2_getChar_3b067 27 = .ok (.athrow, 1) := by decide +kernel
theorem dJ2_getChar_3b067_28 : decode cJ2_getChar_3b067 28 = .ok (.iload_n 1, 1) := by decide +kernel
theorem dJ2_getChar_3b067_29 : decode cJ2_getChar_3b067 29 = .ok (.iconst 1, 1) := by decide +kernel
theorem dJ2_getChar_3b067_30 : decode cJ2_getChar_3b067 30 = .ok (.ishl, 1) := by decide +kernel
theorem dJ2_getChar_3b067_31 : decode cJ2_getChar_3b067 31 = .ok (.istore_n 1, 1) := by decide +kernel
theorem dJ2_getChar_3b067_32 : decode cJ2_getChar_3b067 32 = .ok (.aload_n 0, 1) := by decide +kernel
theorem dJ2_getChar_3b067_33 : decode cJ2_getChar_3b067 33 = .ok (.iload_n 1, 1) := by decide +kernel
theorem dJ2_getChar_3b067_34 : decode cJ2_getChar_3b067 34 = .ok (.iinc 1 1, 3) := by decide +kernel
theorem dJ2_getChar_3b067_37 : decode cJ2_getChar_3b067 37 = .ok (.baload, 1) := by decide +kernel
theorem dJ2_getChar_3b067_38 : decode cJ2_getChar_3b067 38 = .ok (.sipush 255, 3) := by decide +kernel
theorem dJ2_getChar_3b067_41 : decode cJ2_getChar_3b067 41 = .ok (.iand, 1) := by decide +kernel
theorem dJ2_getChar_3b067_42 : decode cJ2_getChar_3b067 42 = .ok (.getstatic 59, 3) := by decide +kernel
theorem dJ2_getChar_3b067_45 : decode cJ2_getChar_3b067 45 = .ok (.ishl, 1) := by decide +kernel
theorem dJ2_getChar_3b067_46 : decode cJ2_getChar_3b067 46 = .ok (.aload_n 0, 1) := by decide +kernel
theorem dJ2_getChar_3b067_47 : decode cJ2_getChar_3b067 47 = .ok (.iload_n 1, 1) := by decide +kernel
theorem dJ2_getChar_3b067_48 : decode cJ2_getChar_3b067 48 = .ok (.baload, 1) := by decide +kernel
theorem dJ2_getChar_3b067_49 : decode cJ2_getChar_3b067 49 = .ok (.sipush 255, 3) := by decide +kernel
theorem dJ2_getChar_3b067_52 : decode cJ2_getChar_3b067 52 = .ok (.iand, 1) := by decide +kernel
theorem dJ2_getChar_3b067_53 : decode cJ2_getChar_3b067 53 = .ok (.getstatic 63, 3) := by decide +kernel
theorem dJ2_getChar_3b067_56 : decode cJ2_getChar_3b067 56 = .ok (.ishl, 1) := by decide +kernel
theorem dJ2_getChar_3b067_57 : decode cJ2_getChar_3b067 57 = .ok (.ior, 1) := by decide +kernel
theorem dJ2_getChar_3b067_58 : decode cJ2_getChar_3b067 58 = .ok (.i2c, 1) := by decide +kernel
theorem dJ2_getChar_3b067_59 : decode cJ2_getChar_3b067 59 = .ok (.ireturn, 1) := by decide +kernel
theorem dJ2_length_9d52b_0 : decode cJ2_length_9d52b 0 = .ok (.aload_n 0, 1) := by decide +kernel
theorem dJ2_length_9d52b_1 : decode cJ2_length_9d52b 1 = .ok (.arraylength, 1) := by decide +kernel
theorem dJ2_length_9d52b_2 : decode cJ2_length_9d52b 2 = .ok (.iconst 1, 1) := by decide +kernel
theorem dJ2_length_9d52b_3 : decode cJ2_length_9d52b 3 = .ok (.ishr, 1) := by decide +kernel
theorem dJ2_length_9d52b_4 : decode cJ2_length_9d52b 4 = .ok (.ireturn, 1) := by decide +kernel
theorem dJ2_charAt_3b067_0 : decode cJ2_charAt_3b067 0 = .ok (.iload_n 1, 1) := by decide +kernel
theorem dJ2_charAt_3b067_1 : decode cJ2_charAt_3b067 1 = .ok (.aload_n 0, 1) := by decide +kernel
theorem dJ2_charAt_3b067_2 : decode cJ2_charAt_3b067 2 = .ok (.invokestatic 67, 3) := by decide +kernel
theorem dJ2_charAt_3b067_5 : decode cJ2_charAt_3b067 5 = .ok (.aload_n 0, 1) := by decide +kernel
theorem dJ2_charAt_3b067_6 : decode cJ2_charAt_3b067 6 = .ok (.iload_n 1, 1) := by decide +kernel
theorem dJ2_charAt_3b067_7 : decode cJ2_charAt_3b067 7 = .ok (.invokestatic 71, 3) := by decide +kernel
theorem dJ2_charAt_3b067_10 : decode cJ2_charAt_3b067 10 = .ok (.ireturn, 1) := by decide +kernel
theorem dJ2_checkIndex_2214a_0 : decode cJ2_checkIndex_2214a 0 = .ok (.iload_n 0, 1) := by decide +kernel
theorem dJ2_checkIndex_2214a_1 : decode cJ2_checkIndex_2214a 1 = .ok (.aload_n 1, 1) := by decide +kernel
theorem dJ2_checkIndex_2214a_2 : decode cJ2_checkIndex_2214a 2 = .ok (.invokestatic 48, 3) := by decide +kernel
theorem dJ2_checkIndex_2214a_5 : decode cJ2_checkIndex_2214a 5 = .ok (.invokestatic 414, 3) := by decide +kernel
theorem dJ2_checkIndex_2214a_8 : decode cJ2_checkIndex_2214a 8 = .ok (.return_, 1) := by decide +kernel
theorem dJ7_equals_331f6_0 : decode cJ7_equals_331f6 0 = .ok (.aload_n 0, 1) := by decide +kernel
theorem dJ7_equals_331f6_1 : decode cJ7_equals_331f6 1 = .ok (.aload_n 1, 1) := by decide +kernel
theorem dJ7_equals_331f6_2 : decode cJ7_equals_331f6 2 = .ok (.if_acmp .ne 5, 3) := by decide +kernel
theorem dJ7_equals_331f6_5 : decode cJ7_equals_331f6 5 = .ok (.iconst 1, 1) := by decide +kernel
theorem dJ7_equals_331f6_6 : decode cJ7_equals_331f6 6 = .ok (.ireturn, 1) := by decide +kernel
theorem dJ7_equals_331f6_7 : decode cJ7_equals_331f6 7 = .ok (.aload_n 0, 1) := by decide +kernel
theorem dJ7_equals_331f6_8 : decode cJ7_equals_331f6 8 = .ok (.ifnull 7, 3) := by decide +kernel
theorem dJ7_equals_331f6_11 : decode cJ7_equals_331f6 11 = .ok (.aload_n 1, 1) := by decide +kernel
theorem dJ7_equals_331f6_12 : decode cJ7_equals_331f6 12 = .ok (.ifnonnull 5, 3) := by decide +kernel
theorem dJ7_equals_331f6_15 : decode cJ7_equals_331f6 15 = .ok (.iconst 0, 1) := by decide +kernel
theorem dJ7_equals_331f6_16 : decode cJ7_equals_331f6 16 = .ok (.ireturn, 1) := by decide +kernel
theorem dJ7_equals_331f6_17 : decode cJ7_equals_331f6 17 = .ok (.aload_n 0, 1) := by decide +kernel
theorem dJ7_equals_331f6_18 : decode cJ7_equals_331f6 18 = .ok (.arraylength, 1) := by decide +kernel
theorem dJ7_equals_331f6_19 : decode cJ7_equals_331f6 19 = .ok (.istore_n 2, 1) := by decide +kernel
theorem dJ7_equals_331f6_20 : decode cJ7_equals_331f6 20 = .ok (.aload_n 1, 1) := by decide +kernel
theorem dJ7_equals_331f6_21 : decode cJ7_equals_331f6 21 = .ok (.arraylength, 1) := by decide +kernel
theorem dJ7_equals_331f6_22 : decode cJ7_equals_331f6 22 = .ok (.iload_n 2, 1) := by decide +kernel
theorem dJ7_equals_331f6_23 : decode cJ7_equals_331f6 23 = .ok (.if_icmp .eq 5, 3) := by decide +kernel
theorem dJ7_equals_331f6_26 : decode cJ7_equals_331f6 26 = .ok (.iconst 0, 1) := by decide +kernel
theorem dJ7_equals_331f6_27 : decode cJ7_equals_331f6 27 = .ok (.ireturn, 1) := by decide +kernel
theorem dJ7_equals_331f6_28 : decode cJ7_equals_331f6 28 = .ok (.aload_n 0, 1) := by decide +kernel
theorem dJ7_equals_331f6_29 : decode cJ7_equals_331f6 29 = .ok (.aload_n 1, 1) := by decide +kernel
theorem dJ7_equals_331f6_30 : decode cJ7_equals_331f6 30 = .ok (.iload_n 2, 1) := by decide +kernel
theorem dJ7_equals_331f6_31 : decode cJ7_equals_331f6 31 = .ok (.invokestatic 245, 3) := by decide +kernel
theorem dJ7_equals_331f6_34 : decode cJ7_equals_331f6 34 = .ok (.ifCond .ge 7, 3) := by decide +kernel
theorem dJ7_equals_331f6_37 : decode cJ7_equals_331f6 37 = .ok (.iconst 1, 1) := by decide +kernel
theorem dJ7_equals_331f6_38 : decode cJ7_equals_331f6 38 = .ok (.goto 4, 3) := by decide +kernel
theorem dJ7_equals_331f6_41 : decode cJ7_equals_331f6 41 = .ok (.iconst 0, 1) := by decide +kernel
theorem dJ7_equals_331f6_42 : decode cJ7_equals_331f6 42 = .ok (.ireturn, 1) := by decide +kernel
theorem dJx9a822_getLongUnaligned_f02c6_0 : decode cJx9a822_getLongUnaligned_f02c6 0 = .ok (.lload_n 2, 1) := by decide +kernel
theorem dJx9a822_getLongUnaligned_f02c6_1 : decode cJx9a822_getLongUnaligned_f02c6 1 = .ok (.ldc2_w 696, 3) := by decide +kernel
theorem dJx9a822_getLongUnaligned_f02c6_4 : decode cJx9a822_getLongUnaligned_f02c6 4 = .ok (.land, 1) := by decide +kernel
theorem dJx9a822_getLongUnaligned_f02c6_5 : decode cJx9a822_getLongUnaligned_f02c6 5 = .ok (.lconst 0, 1) := by decide +kernel
theorem dJx9a822_getLongUnaligned_f02c6_6 : decode cJx9a822_getLongUnaligned_f02c6 6 = .ok (.lcmp, 1) := by decide +kernel
theorem dJx9a822_getLongUnaligned_f02c6_7 : decode cJx9a822_getLongUnaligned_f02c6 7 = .ok (.ifCond .ne 10, 3) := by decide +kernel
theorem dJx9a822_getLongUnaligned_f02c6_10 : decode cJx9a822_getLongUnaligned_f02c6 10 = .ok (.aload_n 0, 1) := by decide +kernel
theorem dJx9a822_getLongUnaligned_f02c6_11 : decode cJx9a822_getLongUnaligned_f02c6 11 = .ok (.aload_n 1, 1) := by decide +kernel
theorem dJx9a822_getLongUnaligned_f02c6_12 : decode cJx9a822_getLongUnaligned_f02c6 12 = .ok (.lload_n 2, 1) := by decide +kernel
theorem dJx9a822_getLongUnaligned_f02c6_13 : decode cJx9a822_getLongUnaligned_f02c6 13 = .ok (.invokevirtual 27, 3) := by decide +kernel
theorem dJx9a822_getLongUnaligned_f02c6_16 : decode cJx9a822_getLongUnaligned_f02c6 16 = .ok (.lreturn, 1) := by decide +kernel
theorem dJx9a822_getLongUnaligned_f02c6_17 : decode cJx9a822_getLongUnaligned_f02c6 17 = .ok (.lload_n 2, 1) := by decide +kernel
theorem dJx9a822_getLongUnaligned_f02c6_18 : decode cJx9a822_getLongUnaligned_f02c6 18 = .ok (.ldc2_w 349, 3) := by decide +kernel
theorem dJx9a822_getLongUnaligned_f02c6_21 : decode cJx9a822_getLongUnaligned_f02c6 21 = .ok (.land, 1) := by decide +kernel
theorem dJx9a822_getLongUnaligned_f02c6_22 : decode cJx9a822_getLongUnaligned_f02c6 22 = .ok (.lconst 0, 1) := by decide +kernel
theorem dJx9a822_getLongUnaligned_f02c6_23 : decode cJx9a822_getLongUnaligned_f02c6 23 = .ok (.lcmp, 1) := by decide +kernel
theorem dJx9a822_getLongUnaligned_f02c6_24 : decode cJx9a822_getLongUnaligned_f02c6 24 = .ok (.ifCond .ne 23, 3) := by decide +kernel
theorem dJx9a822_getLongUnaligned_f02c6_27 : decode cJx9a822_getLongUnaligned_f02c6 27 = .ok (.aload_n 0, 1) := by decide +kernel
theorem dJx9a822_getLongUnaligned_f02c6_28 : decode cJx9a822_getLongUnaligned_f02c6 28 = .ok (.aload_n 1, 1) := by decide +kernel
theorem dJx9a822_getLongUnaligned_f02c6_29 : decode cJx9a822_getLongUnaligned_f02c6 29 = .ok (.lload_n 2, 1) := by decide +kernel
theorem dJx9a822_getLongUnaligned_f02c6_30 : decode cJx9a822_getLongUnaligned_f02c6 30 = .ok (.invokevirtual 17, 3) := by decide +kernel
theorem dJx9a822_getLongUnaligned_f02c6_33 : decode cJx9a822_getLongUnaligned_f02c6 33 = .ok (.aload_n 0, 1) := by decide +kernel
theorem dJx9a822_getLongUnaligned_f02c6_34 : decode cJx9a822_getLongUnaligned_f02c6 34 = .ok (.aload_n 1, 1) := by decide +kernel
theorem dJx9a822_getLongUnaligned_f02c6_35 : decode cJx9a822_getLongUnaligned_f02c6 35 = .ok (.lload_n 2, 1) := by decide +kernel
theorem dJx9a822_getLongUnaligned_f02c6_36 : decode cJx9a822_getLongUnaligned_f02c6 36 = .ok (.ldc2_w 205, 3) := by decide +kernel
theorem dJx9a822_getLongUnaligned_f02c6_39 : decode cJx9a822_getLongUnaligned_f02c6 39 = .ok (.ladd, 1) := by decide +kernel
theorem dJx9a822_getLongUnaligned_f02c6_40 : decode cJx9a822_getLongUnaligned_f02c6 40 = .ok (.invokevirtual 17, 3) := by decide +kernel
theorem dJx9a822_getLongUnaligned_f02c6_43 : decode cJx9a822_getLongUnaligned_f02c6 43 = .ok (.invokestatic 698, 3) := by decide +kernel
theorem dJx9a822_getLongUnaligned_f02c6_46 : decode cJx9a822_getLongUnaligned_f02c6 46 = .ok (.lreturn, 1) := by decide +kernel
theorem dJx9a822_getLongUnaligned_f02c6_47 : decode cJx9a822_getLongUnaligned_f02c6 47 = .ok (.lload_n 2, 1) := by decide +kernel
theorem dJx9a822_getLongUnaligned_f02c6_48 : decode cJx9a822_getLongUnaligned_f02c6 48 = .ok (.lconst 1, 1) := by decide +kernel
theorem dJx9a822_getLongUnaligned_f02c6_49 : decode cJx9a822_getLongUnaligned_f02c6 49 = .ok (.land, 1) := by decide +kernel
theorem dJx9a822_getLongUnaligned_f02c6_50 : decode cJx9a822_getLongUnaligned_f02c6 50 = .ok (.lconst 0, 1) := by decide +kernel
theorem dJx9a822_getLongUnaligned_f02c6_51 : decode cJx9a822_getLongUnaligned_f02c6 51 = .ok (.lcmp, 1) := by decide +kernel
theorem dJx9a822_getLongUnaligned_f02c6_52 : decode cJx9a822_getLongUnaligned_f02c6 52 = .ok (.ifCond .ne 43, 3) := by decide +kernel
theorem dJx9a822_getLongUnaligned_f02c6_55 : decode cJx9a822_getLongUnaligned_f02c6 55 = .ok (.aload_n 0, 1) := by decide +kernel
theorem dJx9a822_getLongUnaligned_f02c6_56 : decode cJx9a822_getLongUnaligned_f02c6 56 = .ok (.aload_n 1, 1) := by decide +kernel
theorem dJx9a822_getLongUnaligned_f02c6_57 : decode cJx9a822_getLongUnaligned_f02c6 57 = .ok (.lload_n 2, 1) := by decide +kernel
theorem dJx9a822_getLongUnaligned_f02c6_58 : decode cJx9a822_getLongUnaligned_f02c6 58 = .ok (.invokevirtual 47, 3) := by decide +kernel
theorem dJx9a822_getLongUnaligned_f02c6_61 : decode cJx9a822_getLongUnaligned_f02c6 61 = .ok (.aload_n 0, 1) := by decide +kernel
theorem dJx9a822_getLongUnaligned_f02c6_62 : decode cJx9a822_getLongUnaligned_f02c6 62 = .ok (.aload_n 1, 1) := by decide +kernel
theorem dJx9a822_getLongUnaligned_f02c6_63 : decode cJx9a822_getLongUnaligned_f02c6 63 = .ok (.lload_n 2, 1) := by decide +kernel
theorem dJx9a822_getLongUnaligned_f02c6_64 : decode cJx9a822_getLongUnaligned_f02c6 64 = .ok (.ldc2_w 203, 3) := by decide +kernel
theorem dJx9a822_getLongUnaligned_f02c6_67 : decode cJx9a822_getLongUnaligned_f02c6 67 = .ok (.ladd, 1) := by decide +kernel
theorem dJx9a822_getLongUnaligned_f02c6_68 : decode cJx9a822_getLongUnaligned_f02c6 68 = .ok (.invokevirtual 47, 3) := by decide +kernel
theorem dJx9a822_getLongUnaligned_f02c6_71 : decode cJx9a822_getLongUnaligned_f02c6 71 = .ok (.aload_n 0, 1) := by decide +kernel
theorem dJx9a822_getLongUnaligned_f02c6_72 : decode cJx9a822_getLongUnaligned_f02c6 72 = .ok (.aload_n 1, 1) := by decide +kernel
theorem dJx9a822_getLongUnaligned_f02c6_73 : decode cJx9a822_getLongUnaligned_f02c6 73 = .ok (.lload_n 2, 1) := by decide +kernel
theorem dJx9a822_getLongUnaligned_f02c6_74 : decode cJx9a822_getLongUnaligned_f02c6 74 = .ok (.ldc2_w 205, 3) := by decide +kernel
theorem dJx9a822_getLongUnaligned_f02c6_77 : decode cJx9a822_getLongUnaligned_f02c6 77 = .ok (.ladd, 1) := by decide +kernel
theorem dJx9a822_getLongUnaligned_f02c6_78 : decode cJx9a822_getLongUnaligned_f02c6 78 = .ok (.invokevirtual 47, 3) := by decide +kernel
theorem dJx9a822_getLongUnaligned_f02c6_81 : decode cJx9a822_getLongUnaligned_f02c6 81 = .ok (.aload_n 0, 1) := by decide +kernel
theorem dJx9a822_getLongUnaligned_f02c6_82 : decode cJx9a822_getLongUnaligned_f02c6 82 = .ok (.aload_n 1, 1) := by decide +kernel
theorem dJx9a822_getLongUnaligned_f02c6_83 : decode cJx9a822_getLongUnaligned_f02c6 83 = .ok (.lload_n 2, 1) := by decide +kernel
theorem dJx9a822_getLongUnaligned_f02c6_84 : decode cJx9a822_getLongUnaligned_f02c6 84 = .ok (.ldc2_w 702, 3) := by decide +kernel
theorem dJx9a822_getLongUnaligned_f02c6_87 : decode cJx9a822_getLongUnaligned_f02c6 87 = .ok (.ladd, 1) := by decide +kernel
theorem dJx9a822_getLongUnaligned_f02c6_88 : decode cJx9a822_getLongUnaligned_f02c6 88 = .ok (.invokevirtual 47, 3) := by decide +kernel
theorem dJx9a822_getLongUnaligned_f02c6_91 : decode cJx9a822_getLongUnaligned_f02c6 91 = .ok (.invokestatic 704, 3) := by decide +kernel
theorem dJx9a822_getLongUnaligned_f02c6_94 : decode cJx9a822_getLongUnaligned_f02c6 94 = .ok (.lreturn, 1) := by decide +kernel
theorem dJx9a822_getLongUnaligned_f02c6_95 : decode cJx9a822_getLongUnaligned_f02c6 95 = .ok (.aload_n 0, 1) := by decide +kernel
theorem dJx9a822_getLongUnaligned_f02c6_96 : decode cJx9a822_getLongUnaligned_f02c6 96 = .ok (.aload_n 1, 1) := by decide +kernel
theorem dJx9a822_getLongUnaligned_f02c6_97 : decode cJx9a822_getLongUnaligned_f02c6 97 = .ok (.lload_n 2, 1) := by decide +kernel
theorem dJx9a822_getLongUnaligned_f02c6_98 : decode cJx9a822_getLongUnaligned_f02c6 98 = .ok (.invokevirtual 39, 3) := by decide +kernel
theorem dJx9a822_getLongUnaligned_f02c6_101 : decode cJx9a822_getLongUnaligned_f02c6 101 = .ok (.aload_n 0, 1) := by decide +kernel
theorem dJx9a822_getLongUnaligned_f02c6_102 : decode cJx9a822_getLongUnaligned_f02c6 102 = .ok (.aload_n 1, 1) := by decide +kernel
theorem dJx9a822_getLongUnaligned_f02c6_103 : decode cJx9a822_getLongUnaligned_f02c6 103 = .ok (.lload_n 2, 1) := by decide +kernel
theorem dJx9a822_getLongUnaligned_f02c6_104 : decode cJx9a822_getLongUnaligned_f02c6 104 = .ok (.lconst 1, 1) := by decide +kernel
theorem dJx9a822_getLongUnaligned_f02c6_105 : decode cJx9a822_getLongUnaligned_f02c6 105 = .ok (.ladd, 1) := by decide +kernel
theorem dJx9a822_getLongUnaligned_f02c6_106 : decode cJx9a822_getLongUnaligned_f02c6 106 = .ok (.invokevirtual 39, 3) := by decide +kernel
theorem dJx9a822_getLongUnaligned_f02c6_109 : decode cJx9a822_getLongUnaligned_f02c6 109 = .ok (.aload_n 0, 1) := by decide +kernel
theorem dJx9a822_getLongUnaligned_f02c6_110 : decode cJx9a822_getLongUnaligned_f02c6 110 = .ok (.aload_n 1, 1) := by decide +kernel
theorem dJx9a822_getLongUnaligned_f02c6_111 : decode cJx9a822_getLongUnaligned_f02c6 111 = .ok (.lload_n 2, 1) := by decide +kernel
theorem dJx9a822_getLongUnaligned_f02c6_112 : decode cJx9a822_getLongUnaligned_f02c6 112 = .ok (.ldc2_w 203, 3) := by decide +kernel
theorem dJx9a822_getLongUnaligned_f02c6_115 : decode cJx9a822_getLongUnaligned_f02c6 115 = .ok (.ladd, 1) := by decide +kernel
theorem dJx9a822_getLongUnaligned_f02c6_116 : decode cJx9a822_getLongUnaligned_f02c6 116 = .ok (.invokevirtual 39, 3) := by decide +kernel
theorem dJx9a822_getLongUnaligned_f02c6_119 : decode cJx9a822_getLongUnaligned_f02c6 119 = .ok (.aload_n 0, 1) := by decide +kernel
theorem dJx9a822_getLongUnaligned_f02c6_120 : decode cJx9a822_getLongUnaligned_f02c6 120 = .ok (.aload_n 1, 1) := by decide +kernel
theorem dJx9a822_getLongUnaligned_f02c6_121 : decode cJx9a822_getLongUnaligned_f02c6 121 = .ok (.lload_n 2, 1) := by decide +kernel
theorem dJx9a822_getLongUnaligned_f02c6_122 : decode cJx9a822_getLongUnaligned_f02c6 122 = .ok (.ldc2_w 349, 3) := by decide +kernel
theorem dJx9a822_getLongUnaligned_f02c6_125 : decode cJx9a822_getLongUnaligned_f02c6 125 = .ok (.ladd, 1) := by decide +kernel
theorem dJx9a822_getLongUnaligned_f02c6_126 : decode cJx9a822_getLongUnaligned_f02c6 126 = .ok (.invokevirtual 39, 3) := by decide +kernel
theorem dJx9a822_getLongUnaligned_f02c6_129 : decode cJx9a822_getLongUnaligned_f02c6 129 = .ok (.aload_n 0, 1) := by decide +kernel
theorem dJx9a822_getLongUnaligned_f02c6_130 : decode cJx9a822_getLongUnaligned_f02c6 130 = .ok (.aload_n 1, 1) := by decide +kernel
theorem dJx9a822_getLongUnaligned_f02c6_131 : decode cJx9a822_getLongUnaligned_f02c6 131 = .ok (.lload_n 2, 1) := by decide +kernel
theorem dJx9a822_getLongUnaligned_f02c6_132 : decode cJx9a822_getLongUnaligned_f02c6 132 = .ok (.ldc2_w 205, 3) := by decide +kernel
theorem dJx9a822_getLongUnaligned_f02c6_135 : decode cJx9a822_getLongUnaligned_f02c6 135 = .ok (.ladd, 1) := by decide +kernel
theorem dJx9a822_getLongUnaligned_f02c6_136 : decode cJx9a822_getLongUnaligned_f02c6 136 = .ok (.invokevirtual 39, 3) := by decide +kernel
theorem dJx9a822_getLongUnaligned_f02c6_139 : decode cJx9a822_getLongUnaligned_f02c6 139 = .ok (.aload_n 0, 1) := by decide +kernel
theorem dJx9a822_getLongUnaligned_f02c6_140 : decode cJx9a822_getLongUnaligned_f02c6 140 = .ok (.aload_n 1, 1) := by decide +kernel
theorem dJx9a822_getLongUnaligned_f02c6_141 : decode cJx9a822_getLongUnaligned_f02c6 141 = .ok (.lload_n 2, 1) := by decide +kernel
theorem dJx9a822_getLongUnaligned_f02c6_142 : decode cJx9a822_getLongUnaligned_f02c6 142 = .ok (.ldc2_w 707, 3) := by decide +kernel
theorem dJx9a822_getLongUnaligned_f02c6_145 : decode cJx9a822_getLongUnaligned_f02c6 145 = .ok (.ladd, 1) := by decide +kernel
theorem dJx9a822_getLongUnaligned_f02c6_146 : decode cJx9a822_getLongUnaligned_f02c6 146 = .ok (.invokevirtual 39, 3) := by decide +kernel
theorem dJx9a822_getLongUnaligned_f02c6_149 : decode cJx9a822_getLongUnaligned_f02c6 149 = .ok (.aload_n 0, 1) := by decide +kernel
theorem dJx9a822_getLongUnaligned_f02c6_150 : decode cJx9a822_getLongUnaligned_f02c6 150 = .ok (.aload_n 1, 1) := by decide +kernel
theorem dJx9a822_getLongUnaligned_f02c6_151 : decode cJx9a822_getLongUnaligned_f02c6 151 = .ok (.lload_n 2, 1) := by decide +kernel
theorem dJx9a822_getLongUnaligned_f02c6_152 : decode cJx9a822_getLongUnaligned_f02c6 152 = .ok (.ldc2_w 702, 3) := by decide +kernel
theorem dJx9a822_getLongUnaligned_f02c6_155 : decode cJx9a822_getLongUnaligned_f02c6 155 = .ok (.ladd, 1) := by decide +kernel
theorem dJx9a822_getLongUnaligned_f02c6_156 : decode cJx9a822_getLongUnaligned_f02c6 156 = .ok (.invokevirtual 39, 3) := by decide +kernel
theorem dJx9a822_getLongUnaligned_f02c6_159 : decode cJx9a822_getLongUnaligned_f02c6 159 = .ok (.aload_n 0, 1) := by decide +kernel
theorem dJx9a822_getLongUnaligned_f02c6_160 : decode cJx9a822_getLongUnaligned_f02c6 160 = .ok (.aload_n 1, 1) := by decide +kernel
theorem dJx9a822_getLongUnaligned_f02c6_161 : decode cJx9a822_getLongUnaligned_f02c6 161 = .ok (.lload_n 2, 1) := by decide +kernel
theorem dJx9a822_getLongUnaligned_f02c6_162 : decode cJx9a822_getLongUnaligned_f02c6 162 = .ok (.ldc2_w 696, 3) := by decide +kernel
theorem dJx9a822_getLongUnaligned_f02c6_165 : decode cJx9a822_getLongUnaligned_f02c6 165 = .ok (.ladd, 1) := by decide +kernel
theorem dJx9a822_getLongUnaligned_f02c6_166 : decode cJx9a822_getLongUnaligned_f02c6 166 = .ok (.invokevirtual 39, 3) := by decide +kernel
theorem dJx9a822_getLongUnaligned_f02c6_169 : decode cJx9a822_getLongUnaligned_f02c6 169 = .ok (.invokestatic 709, 3) := by decide +kernel
theorem dJx9a822_getLongUnaligned_f02c6_172 : decode cJx9a822_getLongUnaligned_f02c6 172 = .ok (.lreturn, 1) := by decide +kernel
theorem dJx9a822_getIntUnaligned_25a47_0 : decode cJx9a822_getIntUnaligned_25a47 0 = .ok (.lload_n 2, 1) := by decide +kernel
theorem dJx9a822_getIntUnaligned_25a47_1 : decode cJx9a822_getIntUnaligned_25a47 1 = .ok (.ldc2_w 349, 3) := by decide +kernel
theorem dJx9a822_getIntUnaligned_25a47_4 : decode cJx9a822_getIntUnaligned_25a47 4 = .ok (.land, 1) := by decide +kernel
theorem dJx9a822_getIntUnaligned_25a47_5 : decode cJx9a822_getIntUnaligned_25a47 5 = .ok (.lconst 0, 1) := by decide +kernel
theorem dJx9a822_getIntUnaligned_25a47_6 : decode cJx9a822_getIntUnaligned_25a47 6 = .ok (.lcmp, 1) := by decide +kernel
theorem dJx9a822_getIntUnaligned_25a47_7 : decode cJx9a822_getIntUnaligned_25a47 7 = .ok (.ifCond .ne 10, 3) := by decide +kernel
theorem dJx9a822_getIntUnaligned_25a47_10 : decode cJx9a822_getIntUnaligned_25a47 10 = .ok (.aload_n 0, 1) := by decide +kernel
theorem dJx9a822_getIntUnaligned_25a47_11 : decode cJx9a822_getIntUnaligned_25a47 11 = .ok (.aload_n 1, 1) := by decide +kernel
theorem dJx9a822_getIntUnaligned_25a47_12 : decode cJx9a822_getIntUnaligned_25a47 12 = .ok (.lload_n 2, 1) := by decide +kernel
theorem dJx9a822_getIntUnaligned_25a47_13 : decode cJx9a822_getIntUnaligned_25a47 13 = .ok (.invokevirtual 17, 3) := by decide +kernel
theorem dJx9a822_getIntUnaligned_25a47_16 : decode cJx9a822_getIntUnaligned_25a47 16 = .ok (.ireturn, 1) := by decide +kernel
theorem dJx9a822_getIntUnaligned_25a47_17 : decode cJx9a822_getIntUnaligned_25a47 17 = .ok (.lload_n 2, 1) := by decide +kernel
theorem dJx9a822_getIntUnaligned_25a47_18 : decode cJx9a822_getIntUnaligned_25a47 18 = .ok (.lconst 1, 1) := by decide +kernel
theorem dJx9a822_getIntUnaligned_25a47_19 : decode cJx9a822_getIntUnaligned_25a47 19 = .ok (.land, 1) := by decide +kernel
theorem dJx9a822_getIntUnaligned_25a47_20 : decode cJx9a822_getIntUnaligned_25a47 20 = .ok (.lconst 0, 1) := by decide +kernel
theorem dJx9a822_getIntUnaligned_25a47_21 : decode cJx9a822_getIntUnaligned_25a47 21 = .ok (.lcmp, 1) := by decide +kernel
theorem dJx9a822_getIntUnaligned_25a47_22 : decode cJx9a822_getIntUnaligned_25a47 22 = .ok (.ifCond .ne 23, 3) := by decide +kernel
theorem dJx9a822_getIntUnaligned_25a47_25 : decode cJx9a822_getIntUnaligned_25a47 25 = .ok (.aload_n 0, 1) := by decide +kernel
theorem dJx9a822_getIntUnaligned_25a47_26 : decode cJx9a822_getIntUnaligned_25a47 26 = .ok (.aload_n 1, 1) := by decide +kernel
theorem dJx9a822_getIntUnaligned_25a47_27 : decode cJx9a822_getIntUnaligned_25a47 27 = .ok (.lload_n 2, 1) := by decide +kernel
theorem dJx9a822_getIntUnaligned_25a47_28 : decode cJx9a822_getIntUnaligned_25a47 28 = .ok (.invokevirtual 47, 3) := by decide +kernel
theorem dJx9a822_getIntUnaligned_25a47_31 : decode cJx9a822_getIntUnaligned_25a47 31 = .ok (.aload_n 0, 1) := by decide +kernel
theorem dJx9a822_getIntUnaligned_25a47_32 : decode cJx9a822_getIntUnaligned_25a47 32 = .ok (.aload_n 1, 1) := by decide +kernel
theorem dJx9a822_getIntUnaligned_25a47_33 : decode cJx9a822_getIntUnaligned_25a47 33 = .ok (.lload_n 2, 1) := by decide +kernel
theorem dJx9a822_getIntUnaligned_25a47_34 : decode cJx9a822_getIntUnaligned_25a47 34 = .ok (.ldc2_w 203, 3) := by decide +kernel
theorem dJx9a822_getIntUnaligned_25a47_37 : decode cJx9a822_getIntUnaligned_25a47 37 = .ok (.ladd, 1) := by decide +kernel
theorem dJx9a822_getIntUnaligned_25a47_38 : decode cJx9a822_getIntUnaligned_25a47 38 = .ok (.invokevirtual 47, 3) := by decide +kernel
theorem dJx9a822_getIntUnaligned_25a47_41 : decode cJx9a822_getIntUnaligned_25a47 41 = .ok (.invokestatic 719, 3) := by decide +kernel
theorem dJx9a822_getIntUnaligned_25a47_44 : decode cJx9a822_getIntUnaligned_25a47 44 = .ok (.ireturn, 1) := by decide +kernel
theorem dJx9a822_getIntUnaligned_25a47_45 : decode cJx9a822_getIntUnaligned_25a47 45 = .ok (.aload_n 0, 1) := by decide +kernel
theorem dJx9a822_getIntUnaligned_25a47_46 : decode cJx9a822_getIntUnaligned_25a47 46 = .ok (.aload_n 1, 1) := by decide +kernel
theorem dJx9a822_getIntUnaligned_25a47_47 : decode cJx9a822_getIntUnaligned_25a47 47 = .ok (.lload_n 2, 1) := by decide +kernel
theorem dJx9a822_getIntUnaligned_25a47_48 : decode cJx9a822_getIntUnaligned_25a47 48 = .ok (.invokevirtual 39, 3) := by decide +kernel
theorem dJx9a822_getIntUnaligned_25a47_51 : decode cJx9a822_getIntUnaligned_25a47 51 = .ok (.aload_n 0, 1) := by decide +kernel
theorem dJx9a822_getIntUnaligned_25a47_52 : decode cJx9a822_getIntUnaligned_25a47 52 = .ok (.aload_n 1, 1) := by decide +kernel
theorem dJx9a822_getIntUnaligned_25a47_53 : decode cJx9a822_getIntUnaligned_25a47 53 = .ok (.lload_n 2, 1) := by decide +kernel
theorem dJx9a822_getIntUnaligned_25a47_54 : decode cJx9a822_getIntUnaligned_25a47 54 = .ok (.lconst 1, 1) := by decide +kernel
theorem dJx9a822_getIntUnaligned_25a47_55 : decode cJx9a822_getIntUnaligned_25a47 55 = .ok (.ladd, 1) := by decide +kernel
theorem dJx9a822_getIntUnaligned_25a47_56 : decode cJx9a822_getIntUnaligned_25a47 56 = .ok (.invokevirtual 39, 3) := by decide +kernel
theorem dJx9a822_getIntUnaligned_25a47_59 : decode cJx9a822_getIntUnaligned_25a47 59 = .ok (.aload_n 0, 1) := by decide +kernel
theorem dJx9a822_getIntUnaligned_25a47_60 : decode cJx9a822_getIntUnaligned_25a47 60 = .ok (.aload_n 1, 1) := by decide +kernel
theorem dJx9a822_getIntUnaligned_25a47_61 : decode cJx9a822_getIntUnaligned_25a47 61 = .ok (.lload_n 2, 1) := by decide +kernel
theorem dJx9a822_getIntUnaligned_25a47_62 : decode cJx9a822_getIntUnaligned_25a47 62 = .ok (.ldc2_w 203, 3) := by decide +kernel
theorem dJx9a822_getIntUnaligned_25a47_65 : decode cJx9a822_getIntUnaligned_25a47 65 = .ok (.ladd, 1) := by decide +kernel
theorem dJx9a822_getIntUnaligned_25a47_66 : decode cJx9a822_getIntUnaligned_25a47 66 = .ok (.invokevirtual 39, 3) := by decide +kernel
theorem dJx9a822_getIntUnaligned_25a47_69 : decode cJx9a822_getIntUnaligned_25a47 69 = .ok (.aload_n 0, 1) := by decide +kernel
theorem dJx9a822_getIntUnaligned_25a47_70 : decode cJx9a822_getIntUnaligned_25a47 70 = .ok (.aload_n 1, 1) := by decide +kernel
theorem dJx9a822_getIntUnaligned_25a47_71 : decode cJx9a822_getIntUnaligned_25a47 71 = .ok (.lload_n 2, 1) := by decide +kernel
theorem dJx9a822_getIntUnaligned_25a47_72 : decode cJx9a822_getIntUnaligned_25a47 72 = .ok (.ldc2_w 349, 3) := by decide +kernel
theorem dJx9a822_getIntUnaligned_25a47_75 : decode cJx9a822_getIntUnaligned_25a47 75 = .ok (.ladd, 1) := by decide +kernel
theorem dJx9a822_getIntUnaligned_25a47_76 : decode cJx9a822_getIntUnaligned_25a47 76 = .ok (.invokevirtual 39, 3) := by decide +kernel
theorem dJx9a822_getIntUnaligned_25a47_79 : decode cJx9a822_getIntUnaligned_25a47 79 = .ok (.invokestatic 723, 3) := by decide +kernel
theorem dJx9a822_getIntUnaligned_25a47_82 : decode cJx9a822_getIntUnaligned_25a47 82 = .ok (.ireturn, 1) := by decide +kernel
theorem dJx9a822_pickPos_7cf53_0 : decode cJx9a822_pickPos_7cf53 0 = .ok (.getstatic 351, 3) := by decide +kernel
theorem dJx9a822_pickPos_7cf53_3 : decode cJx9a822_pickPos_7cf53 3 = .ok (.ifCond .eq 9, 3) := by decide +kernel
theorem dJx9a822_pickPos_7cf53_6 : decode cJx9a822_pickPos_7cf53 6 = .ok (.iload_n 0, 1) := by decide +kernel
theorem dJx9a822_pickPos_7cf53_7 : decode cJx9a822_pickPos_7cf53 7 = .ok (.iload_n 1, 1) := by decide +kernel
theorem dJx9a822_pickPos_7cf53_8 : decode cJx9a822_pickPos_7cf53 8 = .ok (.isub, 1) := by decide +kernel
theorem dJx9a822_pickPos_7cf53_9 : decode cJx9a822_pickPos_7cf53 9 = .ok (.goto 4, 3) := by decide +kernel
theorem dJx9a822_pickPos_7cf53_12 : decode cJx9a822_pickPos_7cf53 12 = .ok (.iload_n 1, 1) := by decide +kernel
theorem dJx9a822_pickPos_7cf53_13 : decode cJx9a822_pickPos_7cf53 13 = .ok (.ireturn, 1) := by decide +kernel
theorem dJx9a822_makeLong_0477f_0 : decode cJx9a822_makeLong_0477f 0 = .ok (.iload_n 0, 1) := by decide +kernel
theorem dJx9a822_makeLong_0477f_1 : decode cJx9a822_makeLong_0477f 1 = .ok (.invokestatic 781, 3) := by decide +kernel
theorem dJx9a822_makeLong_0477f_4 : decode cJx9a822_makeLong_0477f 4 = .ok (.bipush 56, 2) := by decide +kernel
theorem dJx9a822_makeLong_0477f_6 : decode cJx9a822_makeLong_0477f 6 = .ok (.iconst 0, 1) := by decide +kernel
theorem dJx9a822_makeLong_0477f_7 : decode cJx9a822_makeLong_0477f 7 = .ok (.invokestatic 784, 3) := by decide +kernel
theorem dJx9a822_makeLong_0477f_10 : decode cJx9a822_makeLong_0477f 10 = .ok (.lshl, 1) := by decide +kernel
theorem dJx9a822_makeLong_0477f_11 : decode cJx9a822_makeLong_0477f 11 = .ok (.iload_n 1, 1) := by decide +kernel
theorem dJx9a822_makeLong_0477f_12 : decode cJx9a822_makeLong_0477f 12 = .ok (.invokestatic 781, 3) := by decide +kernel
theorem dJx9a822_makeLong_0477f_15 : decode cJx9a822_makeLong_0477f 15 = .ok (.bipush 56, 2) := by decide +kernel
theorem dJx9a822_makeLong_0477f_17 : decode cJx9a822_makeLong_0477f 17 = .ok (.bipush 8, 2) := by decide +kernel
theorem dJx9a822_makeLong_0477f_19 : decode cJx9a822_makeLong_0477f 19 = .ok (.invokestatic 784, 3) := by decide +kernel
theorem dJx9a822_makeLong_0477f_22 : decode cJx9a822_makeLong_0477f 22 = .ok (.lshl, 1) := by decide +kernel
theorem dJx9a822_makeLong_0477f_23 : decode cJx9a822_makeLong_0477f 23 = .ok (.lor, 1) := by decide +kernel
theorem dJx9a822_makeLong_0477f_24 : decode cJx9a822_makeLong_0477f 24 = .ok (.iload_n 2, 1) := by decide +kernel
theorem dJx9a822_makeLong_0477f_25 : decode cJx9a822_makeLong_0477f 25 = .ok (.invokestatic 781, 3) := by decide +kernel
theorem dJx9a822_makeLong_0477f_28 : decode cJx9a822_makeLong_0477f 28 = .ok (.bipush 56, 2) := by decide +kernel
theorem dJx9a822_makeLong_0477f_30 : decode cJx9a822_makeLong_0477f 30 = .ok (.bipush 16, 2) := by decide +kernel
theorem dJx9a822_makeLong_0477f_32 : decode cJx9a822_makeLong_0477f 32 = .ok (.invokestatic 784, 3) := by decide +kernel
theorem dJx9a822_makeLong_0477f_35 : decode cJx9a822_makeLong_0477f 35 = .ok (.lshl, 1) := by decide +kernel
theorem dJx9a822_makeLong_0477f_36 : decode cJx9a822_makeLong_0477f 36 = .ok (.lor, 1) := by decide +kernel
theorem dJx9a822_makeLong_0477f_37 : decode cJx9a822_makeLong_0477f 37 = .ok (.iload_n 3, 1) := by decide +kernel
theorem dJx9a822_makeLong_0477f_38 : decode cJx9a822_makeLong_0477f 38 = .ok (.invokestatic 781, 3) := by decide +kernel
theorem dJx9a822_makeLong_0477f_41 : decode cJx9a822_makeLong_0477f 41 = .ok (.bipush 56, 2) := by decide +kernel
theorem dJx9a822_makeLong_0477f_43 : decode cJx9a822_makeLong_0477f 43 = .ok (.bipush 24, 2) := by decide +kernel
theorem dJx9a822_makeLong_0477f_45 : decode cJx9a822_makeLong_0477f 45 = .ok (.invokestatic 784, 3) := by decide +kernel
theorem dJx9a822_makeLong_0477f_48 : decode cJx9a822_makeLong_0477f 48 = .ok (.lshl, 1) := by decide +kernel
theorem dJx9a822_makeLong_0477f_49 : decode cJx9a822_makeLong_0477f 49 = .ok (.lor, 1) := by decide +kernel
theorem dJx9a822_makeLong_0477f_50 : decode cJx9a822_makeLong_0477f 50 = .ok (.iload 4, 2) := by decide +kernel
theorem dJx9a822_makeLong_0477f_52 : decode cJx9a822_makeLong_0477f 52 = .ok (.invokestatic 781, 3) := by decide +kernel
theorem dJx9a822_makeLong_0477f_55 : decode cJx9a822_makeLong_0477f 55 = .ok (.bipush 56, 2) := by decide +kernel
theorem dJx9a822_makeLong_0477f_57 : decode cJx9a822_makeLong_0477f 57 = .ok (.bipush 32, 2) := by decide +kernel
theorem dJx9a822_makeLong_0477f_59 : decode cJx9a822_makeLong_0477f 59 = .ok (.invokestatic 784, 3) := by decide +kernel
theorem dJx9a822_makeLong_0477f_62 : decode cJx9a822_makeLong_0477f 62 = .ok (.lshl, 1) := by decide +kernel
theorem dJx9a822_makeLong_0477f_63 : decode cJx9a822_makeLong_0477f 63 = .ok (.lor, 1) := by decide +kernel
theorem dJx9a822_makeLong_0477f_64 : decode cJx9a822_makeLong_0477f 64 = .ok (.iload 5, 2) := by decide +kernel
theorem dJx9a822_makeLong_0477f_66 : decode cJx9a822_makeLong_0477f 66 = .ok (.invokestatic 781, 3) := by decide +kernel
theorem dJx9a822_makeLong_0477f_69 : decode cJx9a822_makeLong_0477f 69 = .ok (.bipush 56, 2) := by decide +kernel
theorem dJx9a822_makeLong_0477f_71 : decode cJx9a822_makeLong_0477f 71 = .ok (.bipush 40, 2) := by decide +kernel
theorem dJx9a822_makeLong_0477f_73 : decode cJx9a822_makeLong_0477f 73 = .ok (.invokestatic 784, 3) := by decide +kernel
theorem dJx9a822_makeLong_0477f_76 : decode cJx9a822_makeLong_0477f 76 = .ok (.lshl, 1) := by decide +kernel
theorem dJx9a822_makeLong_0477f_77 : decode cJx9a822_makeLong_0477f 77 = .ok (.lor, 1) := by decide +kernel
theorem dJx9a822_makeLong_0477f_78 : decode cJx9a822_makeLong_0477f 78 = .ok (.iload 6, 2) := by decide +kernel
theorem dJx9a822_makeLong_0477f_80 : decode cJx9a822_makeLong_0477f 80 = .ok (.invokestatic 781, 3) := by decide +kernel
theorem dJx9a822_makeLong_0477f_83 : decode cJx9a822_makeLong_0477f 83 = .ok (.bipush 56, 2) := by decide +kernel
theorem dJx9a822_makeLong_0477f_85 : decode cJx9a822_makeLong_0477f 85 = .ok (.bipush 48, 2) := by decide +kernel
theorem dJx9a822_makeLong_0477f_87 : decode cJx9a822_makeLong_0477f 87 = .ok (.invokestatic 784, 3) := by decide +kernel
theorem dJx9a822_makeLong_0477f_90 : decode cJx9a822_makeLong_0477f 90 = .ok (.lshl, 1) := by decide +kernel
theorem dJx9a822_makeLong_0477f_91 : decode cJx9a822_makeLong_0477f 91 = .ok (.lor, 1) := by decide +kernel
theorem dJx9a822_makeLong_0477f_92 : decode cJx9a822_makeLong_0477f 92 = .ok (.iload 7, 2) := by decide +kernel
theorem dJx9a822_makeLong_0477f_94 : decode cJx9a822_makeLong_0477f 94 = .ok (.invokestatic 781, 3) := by decide +kernel
theorem dJx9a822_makeLong_0477f_97 : decode cJx9a822_makeLong_0477f 97 = .ok (.bipush 56, 2) := by decide +kernel
theorem dJx9a822_makeLong_0477f_99 : decode cJx9a822_makeLong_0477f 99 = .ok (.bipush 56, 2) := by decide +kernel
theorem dJx9a822_makeLong_0477f_101 : decode cJx9a822_makeLong_0477f 101 = .ok (.invokestatic 784, 3) := by decide +kernel
theorem dJx9a822_makeLong_0477f_104 : decode cJx9a822_makeLong_0477f 104 = .ok (.lshl, 1) := by decide +kernel
theorem dJx9a822_makeLong_0477f_105 : decode cJx9a822_makeLong_0477f 105 = .ok (.lor, 1) := by decide +kernel
theorem dJx9a822_makeLong_0477f_106 : decode cJx9a822_makeLong_0477f 106 = .ok (.lreturn, 1) := by decide +kernel
theorem dJx9a822_makeLong_4b46d_0 : decode cJx9a822_makeLong_4b46d 0 = .ok (.iload_n 0, 1) := by decide +kernel
theorem dJx9a822_makeLong_4b46d_1 : decode cJx9a822_makeLong_4b46d 1 = .ok (.invokestatic 788, 3) := by decide +kernel
theorem dJx9a822_makeLong_4b46d_4 : decode cJx9a822_makeLong_4b46d 4 = .ok (.bipush 48, 2) := by decide +kernel
theorem dJx9a822_makeLong_4b46d_6 : decode cJx9a822_makeLong_4b46d 6 = .ok (.iconst 0, 1) := by decide +kernel
theorem dJx9a822_makeLong_4b46d_7 : decode cJx9a822_makeLong_4b46d 7 = .ok (.invokestatic 784, 3) := by decide +kernel
theorem dJx9a822_makeLong_4b46d_10 : decode cJx9a822_makeLong_4b46d 10 = .ok (.lshl, 1) := by decide +kernel
theorem dJx9a822_makeLong_4b46d_11 : decode cJx9a822_makeLong_4b46d 11 = .ok (.iload_n 1, 1) := by decide +kernel
theorem dJx9a822_makeLong_4b46d_12 : decode cJx9a822_makeLong_4b46d 12 = .ok (.invokestatic 788, 3) := by decide +kernel
theorem dJx9a822_makeLong_4b46d_15 : decode cJx9a822_makeLong_4b46d 15 = .ok (.bipush 48, 2) := by decide +kernel
theorem dJx9a822_makeLong_4b46d_17 : decode cJx9a822_makeLong_4b46d 17 = .ok (.bipush 16, 2) := by decide +kernel
theorem dJx9a822_makeLong_4b46d_19 : decode cJx9a822_makeLong_4b46d 19 = .ok (.invokestatic 784, 3) := by decide +kernel
theorem dJx9a822_makeLong_4b46d_22 : decode cJx9a822_makeLong_4b46d 22 = .ok (.lshl, 1) := by decide +kernel
theorem dJx9a822_makeLong_4b46d_23 : decode cJx9a822_makeLong_4b46d 23 = .ok (.lor, 1) := by decide +kernel
theorem dJx9a822_makeLong_4b46d_24 : decode cJx9a822_makeLong_4b46d 24 = .ok (.iload_n 2, 1) := by decide +kernel
theorem dJx9a822_makeLong_4b46d_25 : decode cJx9a822_makeLong_4b46d 25 = .ok (.invokestatic 788, 3) := by decide +kernel
theorem dJx9a822_makeLong_4b46d_28 : decode cJx9a822_makeLong_4b46d 28 = .ok (.bipush 48, 2) := by decide +kernel
theorem dJx9a822_makeLong_4b46d_30 : decode cJx9a822_makeLong_4b46d 30 = .ok (.bipush 32, 2) := by decide +kernel
theorem dJx9a822_makeLong_4b46d_32 : decode cJx9a822_makeLong_4b46d 32 = .ok (.invokestatic 784, 3) := by decide +kernel
theorem dJx9a822_makeLong_4b46d_35 : decode cJx9a822_makeLong_4b46d 35 = .ok (.lshl, 1) := by decide +kernel
theorem dJx9a822_makeLong_4b46d_36 : decode cJx9a822_makeLong_4b46d 36 = .ok (.lor, 1) := by decide +kernel
theorem dJx9a822_makeLong_4b46d_37 : decode cJx9a822_makeLong_4b46d 37 = .ok (.iload_n 3, 1) := by decide +kernel
theorem dJx9a822_makeLong_4b46d_38 : decode cJx9a822_makeLong_4b46d 38 = .ok (.invokestatic 788, 3) := by decide +kernel
theorem dJx9a822_makeLong_4b46d_41 : decode cJx9a822_makeLong_4b46d 41 = .ok (.bipush 48, 2) := by decide +kernel
theorem dJx9a822_makeLong_4b46d_43 : decode cJx9a822_makeLong_4b46d 43 = .ok (.bipush 48, 2) := by decide +kernel
theorem dJx9a822_makeLong_4b46d_45 : decode cJx9a822_makeLong_4b46d 45 = .ok (.invokestatic 784, 3) := by decide +kernel
theorem dJx9a822_makeLong_4b46d_48 : decode cJx9a822_makeLong_4b46d 48 = .ok (.lshl, 1) := by decide +kernel
theorem dJx9a822_makeLong_4b46d_49 : decode cJx9a822_makeLong_4b46d 49 = .ok (.lor, 1) := by decide +kernel
theorem dJx9a822_makeLong_4b46d_50 : decode cJx9a822_makeLong_4b46d 50 = .ok (.lreturn, 1) := by decide +kernel
theorem dJx9a822_makeLong_a216e_0 : decode cJx9a822_makeLong_a216e 0 = .ok (.iload_n 0, 1) := by decide +kernel
theorem dJx9a822_makeLong_a216e_1 : decode cJx9a822_makeLong_a216e 1 = .ok (.invokestatic 791, 3) := by decide +kernel
theorem dJx9a822_makeLong_a216e_4 : decode cJx9a822_makeLong_a216e 4 = .ok (.bipush 32, 2) := by decide +kernel
theorem dJx9a822_makeLong_a216e_6 : decode cJx9a822_makeLong_a216e 6 = .ok (.iconst 0, 1) := by decide +kernel
theorem dJx9a822_makeLong_a216e_7 : decode cJx9a822_makeLong_a216e 7 = .ok (.invokestatic 784, 3) := by decide +kernel
theorem dJx9a822_makeLong_a216e_10 : decode cJx9a822_makeLong_a216e 10 = .ok (.lshl, 1) := by decide +kernel
theorem dJx9a822_makeLong_a216e_11 : decode cJx9a822_makeLong_a216e 11 = .ok (.iload_n 1, 1) := by decide +kernel
theorem dJx9a822_makeLong_a216e_12 : decode cJx9a822_makeLong_a216e 12 = .ok (.invokestatic 791, 3) := by decide +kernel
theorem dJx9a822_makeLong_a216e_15 : decode cJx9a822_makeLong_a216e 15 = .ok (.bipush 32, 2) := by decide +kernel
theorem dJx9a822_makeLong_a216e_17 : decode cJx9a822_makeLong_a216e 17 = .ok (.bipush 32, 2) := by decide +kernel
theorem dJx9a822_makeLong_a216e_19 : decode cJx9a822_makeLong_a216e 19 = .ok (.invokestatic 784, 3) := by decide +kernel
theorem dJx9a822_makeLong_a216e_22 : decode cJx9a822_makeLong_a216e 22 = .ok (.lshl, 1) := by decide +kernel
theorem dJx9a822_makeLong_a216e_23 : decode cJx9a822_makeLong_a216e 23 = .ok (.lor, 1) := by decide +kernel
theorem dJx9a822_makeLong_a216e_24 : decode cJx9a822_makeLong_a216e 24 = .ok (.lreturn, 1) := by decide +kernel
theorem dJx9a822_makeInt_4e28c_0 : decode cJx9a822_makeInt_4e28c 0 = .ok (.iload_n 0, 1) := by decide +kernel
theorem dJx9a822_makeInt_4e28c_1 : decode cJx9a822_makeInt_4e28c 1 = .ok (.invokestatic 792, 3) := by decide +kernel
theorem dJx9a822_makeInt_4e28c_4 : decode cJx9a822_makeInt_4e28c 4 = .ok (.bipush 16, 2) := by decide +kernel
theorem dJx9a822_makeInt_4e28c_6 : decode cJx9a822_makeInt_4e28c 6 = .ok (.iconst 0, 1) := by decide +kernel
theorem dJx9a822_makeInt_4e28c_7 : decode cJx9a822_makeInt_4e28c 7 = .ok (.invokestatic 784, 3) := by decide +kernel
theorem dJx9a822_makeInt_4e28c_10 : decode cJx9a822_makeInt_4e28c 10 = .ok (.ishl, 1) := by decide +kernel
theorem dJx9a822_makeInt_4e28c_11 : decode cJx9a822_makeInt_4e28c 11 = .ok (.iload_n 1, 1) := by decide +kernel
theorem dJx9a822_makeInt_4e28c_12 : decode cJx9a822_makeInt_4e28c 12 = .ok (.invokestatic 792, 3) := by decide +kernel
theorem dJx9a822_makeInt_4e28c_15 : decode cJx9a822_makeInt_4e28c 15 = .ok (.bipush 16, 2) := by decide +kernel
theorem dJx9a822_makeInt_4e28c_17 : decode cJx9a822_makeInt_4e28c 17 = .ok (.bipush 16, 2) := by decide +kernel
theorem dJx9a822_makeInt_4e28c_19 : decode cJx9a822_makeInt_4e28c 19 = .ok (.invokestatic 784, 3) := by decide +kernel
theorem dJx9a822_makeInt_4e28c_22 : decode cJx9a822_makeInt_4e28c 22 = .ok (.ishl, 1) := by decide +kernel
theorem dJx9a822_makeInt_4e28c_23 : decode cJx9a822_makeInt_4e28c 23 = .ok (.ior, 1) := by decide +kernel
theorem dJx9a822_makeInt_4e28c_24 : decode cJx9a822_makeInt_4e28c 24 = .ok (.ireturn, 1) := by decide +kernel
theorem dJx9a822_makeInt_86272_0 : decode cJx9a822_makeInt_86272 0 = .ok (.iload_n 0, 1) := by decide +kernel
theorem dJx9a822_makeInt_86272_1 : decode cJx9a822_makeInt_86272 1 = .ok (.invokestatic 796, 3) := by decide +kernel
theorem dJx9a822_makeInt_86272_4 : decode cJx9a822_makeInt_86272 4 = .ok (.bipush 24, 2) := by decide +kernel
theorem dJx9a822_makeInt_86272_6 : decode cJx9a822_makeInt_86272 6 = .ok (.iconst 0, 1) := by decide +kernel
theorem dJx9a822_makeInt_86272_7 : decode cJx9a822_makeInt_86272 7 = .ok (.invokestatic 784, 3) := by decide +kernel
theorem dJx9a822_makeInt_86272_10 : decode cJx9a822_makeInt_86272 10 = .ok (.ishl, 1) := by decide +kernel
theorem dJx9a822_makeInt_86272_11 : decode cJx9a822_makeInt_86272 11 = .ok (.iload_n 1, 1) := by decide +kernel
theorem dJx9a822_makeInt_86272_12 : decode cJx9a822_makeInt_86272 12 = .ok (.invokestatic 796, 3) := by decide +kernel
theorem dJx9a822_makeInt_86272_15 : decode cJx9a822_makeInt_86272 15 = .ok (.bipush 24, 2) := by decide +kernel
theorem dJx9a822_makeInt_86272_17 : decode cJx9a822_makeInt_86272 17 = .ok (.bipush 8, 2) := by decide +kernel
theorem dJx9a822_makeInt_86272_19 : decode cJx9a822_makeInt_86272 19 = .ok (.invokestatic 784, 3) := by decide +kernel
theorem dJx9a822_makeInt_86272_22 : decode cJx9a822_makeInt_86272 22 = .ok (.ishl, 1) := by decide +kernel
theorem dJx9a822_makeInt_86272_23 : decode cJx9a822_makeInt_86272 23 = .ok (.ior, 1) := by decide +kernel
theorem dJx9a822_makeInt_86272_24 : decode cJx9a822_makeInt_86272 24 = .ok (.iload_n 2, 1) := by decide +kernel
theorem dJx9a822_makeInt_86272_25 : decode cJx9a822_makeInt_86272 25 = .ok (.invokestatic 796, 3) := by decide +kernel
theorem dJx9a822_makeInt_86272_28 : decode cJx9a822_makeInt_86272 28 = .ok (.bipush 24, 2) := by decide +kernel
theorem dJx9a822_makeInt_86272_30 : decode cJx9a822_makeInt_86272 30 = .ok (.bipush 16, 2) := by decide +kernel
theorem dJx9a822_makeInt_86272_32 : decode cJx9a822_makeInt_86272 32 = .ok (.invokestatic 784, 3) := by decide +kernel
theorem dJx9a822_makeInt_86272_35 : decode cJx9a822_makeInt_86272 35 = .ok (.ishl, 1) := by decide +kernel
theorem dJx9a822_makeInt_86272_36 : decode cJx9a822_makeInt_86272 36 = .ok (.ior, 1) := by decide +kernel
theorem dJx9a822_makeInt_86272_37 : decode cJx9a822_makeInt_86272 37 = .ok (.iload_n 3, 1) := by decide +kernel
theorem dJx9a822_makeInt_86272_38 : decode cJx9a822_makeInt_86272 38 = .ok (.invokestatic 796, 3) := by decide +kernel
theorem dJx9a822_makeInt_86272_41 : decode cJx9a822_makeInt_86272 41 = .ok (.bipush 24, 2) := by decide +kernel
theorem dJx9a822_makeInt_86272_43 : decode cJx9a822_makeInt_86272 43 = .ok (.bipush 24, 2) := by decide +kernel
theorem dJx9a822_makeInt_86272_45 : decode cJx9a822_makeInt_86272 45 = .ok (.invokestatic 784, 3) := by decide +kernel
theorem dJx9a822_makeInt_86272_48 : decode cJx9a822_makeInt_86272 48 = .ok (.ishl, 1) := by decide +kernel
theorem dJx9a822_makeInt_86272_49 : decode cJx9a822_makeInt_86272 49 = .ok (.ior, 1) := by decide +kernel
theorem dJx9a822_makeInt_86272_50 : decode cJx9a822_makeInt_86272 50 = .ok (.ireturn, 1) := by decide +kernel
theorem dJx9a822_toUnsignedInt_4d018_0 : decode cJx9a822_toUnsignedInt_4d018 0 = .ok (.iload_n 0, 1) := by decide +kernel
theorem dJx9a822_toUnsignedInt_4d018_1 : decode cJx9a822_toUnsignedInt_4d018 1 = .ok (.sipush 255, 3) := by decide +kernel
theorem dJx9a822_toUnsignedInt_4d018_4 : decode cJx9a822_toUnsignedInt_4d018 4 = .ok (.iand, 1) := by decide +kernel
theorem dJx9a822_toUnsignedInt_4d018_5 : decode cJx9a822_toUnsignedInt_4d018 5 = .ok (.ireturn, 1) := by decide +kernel
theorem dJx9a822_toUnsignedInt_f1ed4_0 : decode cJx9a822_toUnsignedInt_f1ed4 0 = .ok (.iload_n 0, 1) := by decide +kernel
theorem dJx9a822_toUnsignedInt_f1ed4_1 : decode cJx9a822_toUnsignedInt_f1ed4 1 = .ok (.ldc_w 374, 3) := by decide +kernel
theorem dJx9a822_toUnsignedInt_f1ed4_4 : decode cJx9a822_toUnsignedInt_f1ed4 4 = .ok (.iand, 1) := by decide +kernel
theorem dJx9a822_toUnsignedInt_f1ed4_5 : decode cJx9a822_toUnsignedInt_f1ed4 5 = .ok (.ireturn, 1) := by decide +kernel
theorem dJx9a822_toUnsignedLong_c5be9_0 : decode cJx9a822_toUnsignedLong_c5be9 0 = .ok (.iload_n 0, 1) := by decide +kernel
theorem dJx9a822_toUnsignedLong_c5be9_1 : decode cJx9a822_toUnsignedLong_c5be9 1 = .ok (.i2l, 1) := by decide +kernel
theorem dJx9a822_toUnsignedLong_c5be9_2 : decode cJx9a822_toUnsignedLong_c5be9 2 = .ok (.ldc2_w 808, 3) := by decide +kernel
theorem dJx9a822_toUnsignedLong_c5be9_5 : decode cJx9a822_toUnsignedLong_c5be9 5 = .ok (.land, 1) := by decide +kernel
theorem dJx9a822_toUnsignedLong_c5be9_6 : decode cJx9a822_toUnsignedLong_c5be9 6 = .ok (.lreturn, 1) := by decide +kernel
theorem dJx9a822_toUnsignedLong_51cfc_0 : decode cJx9a822_toUnsignedLong_51cfc 0 = .ok (.iload_n 0, 1) := by decide +kernel
theorem dJx9a822_toUnsignedLong_51cfc_1 : decode cJx9a822_toUnsignedLong_51cfc 1 = .ok (.i2l, 1) := by decide +kernel
theorem dJx9a822_toUnsignedLong_51cfc_2 : decode cJx9a822_toUnsignedLong_51cfc 2 = .ok (.ldc2_w 810, 3) := by decide +kernel
theorem dJx9a822_toUnsignedLong_51cfc_5 : decode cJx9a822_toUnsignedLong_51cfc 5 = .ok (.land, 1) := by decide +kernel
theorem dJx9a822_toUnsignedLong_51cfc_6 : decode cJx9a822_toUnsignedLong_51cfc 6 = .ok (.lreturn, 1) := by decide +kernel
theorem dJx9a822_toUnsignedLong_3e8ac_0 : decode cJx9a822_toUnsignedLong_3e8ac 0 = .ok (.iload_n 0, 1) := by decide +kernel
theorem dJx9a822_toUnsignedLong_3e8ac_1 : decode cJx9a822_toUnsignedLong_3e8ac 1 = .ok (.i2l, 1) := by decide +kernel
theorem dJx9a822_toUnsignedLong_3e8ac_2 : decode cJx9a822_toUnsignedLong_3e8ac 2 = .ok (.ldc2_w 812, 3) := by decide +kernel
theorem dJx9a822_toUnsignedLong_3e8ac_5 : decode cJx9a822_toUnsignedLong_3e8ac 5 = .ok (.land, 1) := by decide +kernel
theorem dJx9a822_toUnsignedLong_3e8ac_6 : decode cJx9a822_toUnsignedLong_3e8ac 6 = .ok (.lreturn, 1) := by decide +kernel
theorem dJ8_vectorizedMismatch_456ae_0 : decode cJ8_vectorizedMismatch_456ae 0 = .ok (.getstatic 20, 3) := by decide +kernel
theorem dJ8_vectorizedMismatch_456ae_3 : decode cJ8_vectorizedMismatch_456ae 3 = .ok (.iload 7, 2) := by decide +kernel
theorem dJ8_vectorizedMismatch_456ae_5 : decode cJ8_vectorizedMismatch_456ae 5 = .ok (.isub, 1) := by decide +kernel
theorem dJ8_vectorizedMismatch_456ae_6 : decode cJ8_vectorizedMismatch_456ae 6 = .ok (.istore 8, 2) := by decide +kernel
theorem dJ8_vectorizedMismatch_456ae_8 : decode cJ8_vectorizedMismatch_456ae 8 = .ok (.iconst 0, 1) := by decide +kernel
theorem dJ8_vectorizedMismatch_456ae_9 : decode cJ8_vectorizedMismatch_456ae 9 = .ok (.istore 9, 2) := by decide +kernel
theorem dJ8_vectorizedMismatch_456ae_11 : decode cJ8_vectorizedMismatch_456ae 11 = .ok (.iload 9, 2) := by decide +kernel
theorem dJ8_vectorizedMismatch_456ae_13 : decode cJ8_vectorizedMismatch_456ae 13 = .ok (.iload 6, 2) := by decide +kernel
theorem dJ8_vectorizedMismatch_456ae_15 : decode cJ8_vectorizedMismatch_456ae 15 = .ok (.iload 8, 2) := by decide +kernel
theorem dJ8_vectorizedMismatch_456ae_17 : decode cJ8_vectorizedMismatch_456ae 17 = .ok (.ishr, 1) := by decide +kernel
theorem dJ8_vectorizedMismatch_456ae_18 : decode cJ8_vectorizedMismatch_456ae 18 = .ok (.if_icmp .ge 104, 3) := by decide +kernel
theorem dJ8_vectorizedMismatch_456ae_21 : decode cJ8_vectorizedMismatch_456ae 21 = .ok (.iload 9, 2) := by decide +kernel
theorem dJ8_vectorizedMismatch_456ae_23 : decode cJ8_vectorizedMismatch_456ae 23 = .ok (.i2l, 1) := by decide +kernel
theorem dJ8_vectorizedMismatch_456ae_24 : decode cJ8_vectorizedMismatch_456ae 24 = .ok (.getstatic 20, 3) := by decide +kernel
theorem dJ8_vectorizedMismatch_456ae_27 : decode cJ8_vectorizedMismatch_456ae 27 = .ok (.lshl, 1) := by decide +kernel
theorem dJ8_vectorizedMismatch_456ae_28 : decode cJ8_vectorizedMismatch_456ae 28 = .ok (.lstore 10, 2) := by decide +kernel
theorem dJ8_vectorizedMismatch_456ae_30 : decode cJ8_vectorizedMismatch_456ae 30 = .ok (.getstatic 26, 3) := by decide +kernel
theorem dJ8_vectorizedMismatch_456ae_33 : decode cJ8_vectorizedMismatch_456ae 33 = .ok (.aload_n 0, 1) := by decide +kernel
theorem dJ8_vectorizedMismatch_456ae_34 : decode cJ8_vectorizedMismatch_456ae 34 = .ok (.lload_n 1, 1) := by decide +kernel
theorem dJ8_vectorizedMismatch_456ae_35 : decode cJ8_vectorizedMismatch_456ae 35 = .ok (.lload 10, 2) := by decide +kernel
theorem dJ8_vectorizedMismatch_456ae_37 : decode cJ8_vectorizedMismatch_456ae 37 = .ok (.ladd, 1) := by decide +kernel
theorem dJ8_vectorizedMismatch_456ae_38 : decode cJ8_vectorizedMismatch_456ae 38 = .ok (.invokevirtual 30, 3) := by decide +kernel
theorem dJ8_vectorizedMismatch_456ae_41 : decode cJ8_vectorizedMismatch_456ae 41 = .ok (.lstore 12, 2) := by decide +kernel
theorem dJ8_vectorizedMismatch_456ae_43 : decode cJ8_vectorizedMismatch_456ae 43 = .ok (.getstatic 26, 3) := by decide +kernel
theorem dJ8_vectorizedMismatch_456ae_46 : decode cJ8_vectorizedMismatch_456ae 46 = .ok (.aload_n 3, 1) := by decide +kernel
theorem dJ8_vectorizedMismatch_456ae_47 : decode cJ8_vectorizedMismatch_456ae 47 = .ok (.lload 4, 2) := by decide +kernel
theorem dJ8_vectorizedMismatch_456ae_49 : decode cJ8_vectorizedMismatch_456ae 49 = .ok (.lload 10, 2) := by decide +kernel
theorem dJ8_vectorizedMismatch_456ae_51 : decode cJ8_vectorizedMismatch_456ae 51 = .ok (.ladd, 1) := by decide +kernel
theorem dJ8_vectorizedMismatch_456ae_52 : decode cJ8_vectorizedMismatch_456ae 52 = .ok (.invokevirtual 30, 3) := by decide +kernel
theorem dJ8_vectorizedMismatch_456ae_55 : decode cJ8_vectorizedMismatch_456ae 55 = .ok (.lstore 14, 2) := by decide +kernel
theorem dJ8_vectorizedMismatch_456ae_57 : decode cJ8_vectorizedMismatch_456ae 57 = .ok (.lload 12, 2) := by decide +kernel
theorem dJ8_vectorizedMismatch_456ae_59 : decode cJ8_vectorizedMismatch_456ae 59 = .ok (.lload 14, 2) := by decide +kernel
theorem dJ8_vectorizedMismatch_456ae_61 : decode cJ8_vectorizedMismatch_456ae 61 = .ok (.lcmp, 1) := by decide +kernel
theorem dJ8_vectorizedMismatch_456ae_62 : decode cJ8_vectorizedMismatch_456ae 62 = .ok (.ifCond .eq 54, 3) := by decide +kernel
theorem dJ8_vectorizedMismatch_456ae_65 : decode cJ8_vectorizedMismatch_456ae 65 = .ok (.lload 12, 2) := by decide +kernel
theorem dJ8_vectorizedMismatch_456ae_67 : decode cJ8_vectorizedMismatch_456ae 67 = .ok (.lload 14, 2) := by decide +kernel
theorem dJ8_vectorizedMismatch_456ae_69 : decode cJ8_vectorizedMismatch_456ae 69 = .ok (.lxor, 1) := by decide +kernel
theorem dJ8_vectorizedMismatch_456ae_70 : decode cJ8_vectorizedMismatch_456ae 70 = .ok (.lstore 16, 2) := by decide +kernel
theorem dJ8_vectorizedMismatch_456ae_72 : decode cJ8_vectorizedMismatch_456ae 72 = .ok (.getstatic 36, 3) := by decide +kernel
theorem dJ8_vectorizedMismatch_456ae_75 : decode cJ8_vectorizedMismatch_456ae 75 = .ok (.ifCond .eq 18, 3) := by decide +kernel
theorem dJ8_vectorizedMismatch_456ae_78 : decode cJ8_vectorizedMismatch_456ae 78 = .ok (.lload 16, 2) := by decide +kernel
theorem dJ8_vectorizedMismatch_456ae_80 : decode cJ8_vectorizedMismatch_456ae 80 = .ok (.invokestatic 40, 3) := by decide +kernel
theorem dJ8_vectorizedMismatch_456ae_83 : decode cJ8_vectorizedMismatch_456ae 83 = .ok (.getstatic 46, 3) := by decide +kernel
theorem dJ8_vectorizedMismatch_456ae_86 : decode cJ8_vectorizedMismatch_456ae 86 = .ok (.iload 7, 2) := by decide +kernel
theorem dJ8_vectorizedMismatch_456ae_88 : decode cJ8_vectorizedMismatch_456ae 88 = .ok (.iadd, 1) := by decide +kernel
theorem dJ8_vectorizedMismatch_456ae_89 : decode cJ8_vectorizedMismatch_456ae 89 = .ok (.ishr, 1) := by decide +kernel
theorem dJ8_vectorizedMismatch_456ae_90 : decode cJ8_vectorizedMismatch_456ae 90 = .ok (.goto 15, 3) := by decide +kernel
theorem dJ8_vectorizedMismatch_456ae_93 : decode cJ8_vectorizedMismatch_456ae 93 = .ok (.lload 16, 2) := by decide +kernel
theorem dJ8_vectorizedMismatch_456ae_95 : decode cJ8_vectorizedMismatch_456ae 95 = .ok (.invokestatic 49, 3) := by decide +kernel
theorem dJ8_vectorizedMismatch_456ae_98 : decode cJ8_vectorizedMismatch_456ae 98 = .ok (.getstatic 46, 3) := by decide +kernel
theorem dJ8_vectorizedMismatch_456ae_101 : decode cJ8_vectorizedMismatch_456ae 101 = .ok (.iload 7, 2) := by decide +kernel
theorem dJ8_vectorizedMismatch_456ae_103 : decode cJ8_vectorizedMismatch_456ae 103 = .ok (.iadd, 1) := by decide +kernel
theorem dJ8_vectorizedMismatch_456ae_104 : decode cJ8_vectorizedMismatch_456ae 104 = .ok (.ishr, 1) := by decide +kernel
theorem dJ8_vectorizedMismatch_456ae_105 : decode cJ8_vectorizedMismatch_456ae 105 = .ok (.istore 18, 2) := by decide +kernel
theorem dJ8_vectorizedMismatch_456ae_107 : decode cJ8_vectorizedMismatch_456ae 107 = .ok (.iload 9, 2) := by decide +kernel
theorem dJ8_vectorizedMismatch_456ae_109 : decode cJ8_vectorizedMismatch_456ae 109 = .ok (.iload 8, 2) := by decide +kernel
theorem dJ8_vectorizedMismatch_456ae_111 : decode cJ8_vectorizedMismatch_456ae 111 = .ok (.ishl, 1) := by decide +kernel
theorem dJ8_vectorizedMismatch_456ae_112 : decode cJ8_vectorizedMismatch_456ae 112 = .ok (.iload 18, 2) := by decide +kernel
theorem dJ8_vectorizedMismatch_456ae_114 : decode cJ8_vectorizedMismatch_456ae 114 = .ok (.iadd, 1) := by decide +kernel
theorem dJ8_vectorizedMismatch_456ae_115 : decode cJ8_vectorizedMismatch_456ae 115 = .ok (.ireturn, 1) := by decide +kernel
theorem dJ8_vectorizedMismatch_456ae_116 : decode cJ8_vectorizedMismatch_456ae 116 = .ok (.iinc 9 1, 3) := by decide +kernel
theorem dJ8_vectorizedMismatch_456ae_119 : decode cJ8_vectorizedMismatch_456ae 119 = .ok (.goto (-108), 3) := by decide +kernel
theorem dJ8_vectorizedMismatch_456ae_122 : decode cJ8_vectorizedMismatch_456ae 122 = .ok (.iload 6, 2) := by decide +kernel
theorem dJ8_vectorizedMismatch_456ae_124 : decode cJ8_vectorizedMismatch_456ae 124 = .ok (.iload 9, 2) := by decide +kernel
theorem dJ8_vectorizedMismatch_456ae_126 : decode cJ8_vectorizedMismatch_456ae 126 = .ok (.iload 8, 2) := by decide +kernel
theorem dJ8_vectorizedMismatch_456ae_128 : decode cJ8_vectorizedMismatch_456ae 128 = .ok (.ishl, 1) := by decide +kernel
theorem dJ8_vectorizedMismatch_456ae_129 : decode cJ8_vectorizedMismatch_456ae 129 = .ok (.isub, 1) := by decide +kernel
theorem dJ8_vectorizedMismatch_456ae_130 : decode cJ8_vectorizedMismatch_456ae 130 = .ok (.istore 10, 2) := by decide +kernel
theorem dJ8_vectorizedMismatch_456ae_132 : decode cJ8_vectorizedMismatch_456ae 132 = .ok (.iload 7, 2) := by decide +kernel
theorem dJ8_vectorizedMismatch_456ae_134 : decode cJ8_vectorizedMismatch_456ae 134 = .ok (.getstatic 51, 3) := by decide +kernel
theorem dJ8_vectorizedMismatch_456ae_137 : decode cJ8_vectorizedMismatch_456ae 137 = .ok (.if_icmp .ge 126, 3) := by decide +kernel
theorem dJ8_vectorizedMismatch_456ae_140 : decode cJ8_vectorizedMismatch_456ae 140 = .ok (.iconst 1, 1) := by decide +kernel
theorem dJ8_vectorizedMismatch_456ae_141 : decode cJ8_vectorizedMismatch_456ae 141 = .ok (.getstatic 51, 3) := by decide +kernel
theorem dJ8_vectorizedMismatch_456ae_144 : decode cJ8_vectorizedMismatch_456ae 144 = .ok (.iload 7, 2) := by decide +kernel
theorem dJ8_vectorizedMismatch_456ae_146 : decode cJ8_vectorizedMismatch_456ae 146 = .ok (.isub, 1) := by decide +kernel
theorem dJ8_vectorizedMismatch_456ae_147 : decode cJ8_vectorizedMismatch_456ae 147 = .ok (.ishl, 1) := by decide +kernel
theorem dJ8_vectorizedMismatch_456ae_148 : decode cJ8_vectorizedMismatch_456ae 148 = .ok (.istore 11, 2) := by decide +kernel
theorem dJ8_vectorizedMismatch_456ae_150 : decode cJ8_vectorizedMismatch_456ae 150 = .ok (.iload 10, 2) := by decide +kernel
theorem dJ8_vectorizedMismatch_456ae_152 : decode cJ8_vectorizedMismatch_456ae 152 = .ok (.iload 11, 2) := by decide +kernel
theorem dJ8_vectorizedMismatch_456ae_154 : decode cJ8_vectorizedMismatch_456ae 154 = .ok (.if_icmp .lt 104, 3) := by decide +kernel
theorem dJ8_vectorizedMismatch_456ae_157 : decode cJ8_vectorizedMismatch_456ae 157 = .ok (.iload 9, 2) := by decide +kernel
theorem dJ8_vectorizedMismatch_456ae_159 : decode cJ8_vectorizedMismatch_456ae 159 = .ok (.i2l, 1) := by decide +kernel
theorem dJ8_vectorizedMismatch_456ae_160 : decode cJ8_vectorizedMismatch_456ae 160 = .ok (.getstatic 20, 3) := by decide +kernel
theorem dJ8_vectorizedMismatch_456ae_163 : decode cJ8_vectorizedMismatch_456ae 163 = .ok (.lshl, 1) := by decide +kernel
theorem dJ8_vectorizedMismatch_456ae_164 : decode cJ8_vectorizedMismatch_456ae 164 = .ok (.lstore 12, 2) := by decide +kernel
theorem dJ8_vectorizedMismatch_456ae_166 : decode cJ8_vectorizedMismatch_456ae 166 = .ok (.getstatic 26, 3) := by decide +kernel
theorem dJ8_vectorizedMismatch_456ae_169 : decode cJ8_vectorizedMismatch_456ae 169 = .ok (.aload_n 0, 1) := by decide +kernel
theorem dJ8_vectorizedMismatch_456ae_170 : decode cJ8_vectorizedMismatch_456ae 170 = .ok (.lload_n 1, 1) := by decide +kernel
theorem dJ8_vectorizedMismatch_456ae_171 : decode cJ8_vectorizedMismatch_456ae 171 = .ok (.lload 12, 2) := by decide +kernel
theorem dJ8_vectorizedMismatch_456ae_173 : decode cJ8_vectorizedMismatch_456ae 173 = .ok (.ladd, 1) := by decide +kernel
theorem dJ8_vectorizedMismatch_456ae_174 : decode cJ8_vectorizedMismatch_456ae 174 = .ok (.invokevirtual 54, 3) := by decide +kernel
theorem dJ8_vectorizedMismatch_456ae_177 : decode cJ8_vectorizedMismatch_456ae 177 = .ok (.istore 14, 2) := by decide +kernel
theorem dJ8_vectorizedMismatch_456ae_179 : decode cJ8_vectorizedMismatch_456ae 179 = .ok (.getstatic 26, 3) := by decide +kernel
theorem dJ8_vectorizedMismatch_456ae_182 : decode cJ8_vectorizedMismatch_456ae 182 = .ok (.aload_n 3, 1) := by decide +kernel
theorem dJ8_vectorizedMismatch_456ae_183 : decode cJ8_vectorizedMismatch_456ae 183 = .ok (.lload 4, 2) := by decide +kernel
theorem dJ8_vectorizedMismatch_456ae_185 : decode cJ8_vectorizedMismatch_456ae 185 = .ok (.lload 12, 2) := by decide +kernel
theorem dJ8_vectorizedMismatch_456ae_187 : decode cJ8_vectorizedMismatch_456ae 187 = .ok (.ladd, 1) := by decide +kernel
theorem dJ8_vectorizedMismatch_456ae_188 : decode cJ8_vectorizedMismatch_456ae 188 = .ok (.invokevirtual 54, 3) := by decide +kernel
theorem dJ8_vectorizedMismatch_456ae_191 : decode cJ8_vectorizedMismatch_456ae 191 = .ok (.istore 15, 2) := by decide +kernel
theorem dJ8_vectorizedMismatch_456ae_193 : decode cJ8_vectorizedMismatch_456ae 193 = .ok (.iload 14, 2) := by decide +kernel
theorem dJ8_vectorizedMismatch_456ae_195 : decode cJ8_vectorizedMismatch_456ae 195 = .ok (.iload 15, 2) := by decide +kernel
theorem dJ8_vectorizedMismatch_456ae_197 : decode cJ8_vectorizedMismatch_456ae 197 = .ok (.if_icmp .eq 54, 3) := by decide +kernel
theorem dJ8_vectorizedMismatch_456ae_200 : decode cJ8_vectorizedMismatch_456ae 200 = .ok (.iload 14, 2) := by decide +kernel
theorem dJ8_vectorizedMismatch_456ae_202 : decode cJ8_vectorizedMismatch_456ae 202 = .ok (.iload 15, 2) := by decide +kernel
theorem dJ8_vectorizedMismatch_456ae_204 : decode cJ8_vectorizedMismatch_456ae 204 = .ok (.ixor, 1) := by decide +kernel
theorem dJ8_vectorizedMismatch_456ae_205 : decode cJ8_vectorizedMismatch_456ae 205 = .ok (.istore 16, 2) := by decide +kernel
theorem dJ8_vectorizedMismatch_456ae_207 : decode cJ8_vectorizedMismatch_456ae 207 = .ok (.getstatic 36, 3) := by decide +kernel
theorem dJ8_vectorizedMismatch_456ae_210 : decode cJ8_vectorizedMismatch_456ae 210 = .ok (.ifCond .eq 18, 3) := by decide +kernel
theorem dJ8_vectorizedMismatch_456ae_213 : decode cJ8_vectorizedMismatch_456ae 213 = .ok (.iload 16, 2) := by decide +kernel
theorem dJ8_vectorizedMismatch_456ae_215 : decode cJ8_vectorizedMismatch_456ae 215 = .ok (.invokestatic 58, 3) := by decide +kernel
theorem dJ8_vectorizedMismatch_456ae_218 : decode cJ8_vectorizedMismatch_456ae 218 = .ok (.getstatic 46, 3) := by decide +kernel
theorem dJ8_vectorizedMismatch_456ae_221 : decode cJ8_vectorizedMismatch_456ae 221 = .ok (.iload 7, 2) := by decide +kernel
theorem dJ8_vectorizedMismatch_456ae_223 : decode cJ8_vectorizedMismatch_456ae 223 = .ok (.iadd, 1) := by decide +kernel
theorem dJ8_vectorizedMismatch_456ae_224 : decode cJ8_vectorizedMismatch_456ae 224 = .ok (.ishr, 1) := by decide +kernel
theorem dJ8_vectorizedMismatch_456ae_225 : decode cJ8_vectorizedMismatch_456ae 225 = .ok (.goto 15, 3) := by decide +kernel
theorem dJ8_vectorizedMismatch_456ae_228 : decode cJ8_vectorizedMismatch_456ae 228 = .ok (.iload 16, 2) := by decide +kernel
theorem dJ8_vectorizedMismatch_456ae_230 : decode cJ8_vectorizedMismatch_456ae 230 = .ok (.invokestatic 11, 3) := by decide +kernel
theorem dJ8_vectorizedMismatch_456ae_233 : decode cJ8_vectorizedMismatch_456ae 233 = .ok (.getstatic 46, 3) := by decide +kernel
theorem dJ8_vectorizedMismatch_456ae_236 : decode cJ8_vectorizedMismatch_456ae 236 = .ok (.iload 7, 2) := by decide +kernel
theorem dJ8_vectorizedMismatch_456ae_238 : decode cJ8_vectorizedMismatch_456ae 238 = .ok (.iadd, 1) := by decide +kernel
theorem dJ8_vectorizedMismatch_456ae_239 : decode cJ8_vectorizedMismatch_456ae 239 = .ok (.ishr, 1) := by decide +kernel
theorem dJ8_vectorizedMismatch_456ae_240 : decode cJ8_vectorizedMismatch_456ae 240 = .ok (.istore 17, 2) := by decide +kernel
theorem dJ8_vectorizedMismatch_456ae_242 : decode cJ8_vectorizedMismatch_456ae 242 = .ok (.iload 9, 2) := by decide +kernel
theorem dJ8_vectorizedMismatch_456ae_244 : decode cJ8_vectorizedMismatch_456ae 244 = .ok (.iload 8, 2) := by decide +kernel
theorem dJ8_vectorizedMismatch_456ae_246 : decode cJ8_vectorizedMismatch_456ae 246 = .ok (.ishl, 1) := by decide +kernel
theorem dJ8_vectorizedMismatch_456ae_247 : decode cJ8_vectorizedMismatch_456ae 247 = .ok (.iload 17, 2) := by decide +kernel
theorem dJ8_vectorizedMismatch_456ae_249 : decode cJ8_vectorizedMismatch_456ae 249 = .ok (.iadd, 1) := by decide +kernel
theorem dJ8_vectorizedMismatch_456ae_250 : decode cJ8_vectorizedMismatch_456ae 250 = .ok (.ireturn, 1) := by decide +kernel
theorem dJ8_vectorizedMismatch_456ae_251 : decode cJ8_vectorizedMismatch_456ae 251 = .ok (.iload 10, 2) := by decide +kernel
theorem dJ8_vectorizedMismatch_456ae_253 : decode cJ8_vectorizedMismatch_456ae 253 = .ok (.iload 11, 2) := by decide +kernel
theorem dJ8_vectorizedMismatch_456ae_255 : decode cJ8_vectorizedMismatch_456ae 255 = .ok (.isub, 1) := by decide +kernel
theorem dJ8_vectorizedMismatch_456ae_256 : decode cJ8_vectorizedMismatch_456ae 256 = .ok (.istore 10, 2) := by decide +kernel
theorem dJ8_vectorizedMismatch_456ae_258 : decode cJ8_vectorizedMismatch_456ae 258 = .ok (.iload 10, 2) := by decide +kernel
theorem dJ8_vectorizedMismatch_456ae_260 : decode cJ8_vectorizedMismatch_456ae 260 = .ok (.iconst (-1), 1) := by decide +kernel
theorem dJ8_vectorizedMismatch_456ae_261 : decode cJ8_vectorizedMismatch_456ae 261 = .ok (.ixor, 1) := by decide +kernel
theorem dJ8_vectorizedMismatch_456ae_262 : decode cJ8_vectorizedMismatch_456ae 262 = .ok (.ireturn, 1) := by decide +kernel
theorem dJ8_vectorizedMismatch_456ae_263 : decode cJ8_vectorizedMismatch_456ae 263 = .ok (.iload 10, 2) := by decide +kernel
theorem dJ8_vectorizedMismatch_456ae_265 : decode cJ8_vectorizedMismatch_456ae 265 = .ok (.iconst (-1), 1) := by decide +kernel
theorem dJ8_vectorizedMismatch_456ae_266 : decode cJ8_vectorizedMismatch_456ae 266 = .ok (.ixor, 1) := by decide +kernel
theorem dJ8_vectorizedMismatch_456ae_267 : decode cJ8_vectorizedMismatch_456ae 267 = .ok (.ireturn, 1) := by decide +kernel
theorem dJ8_mismatch_974f6_0 : decode cJ8_mismatch_974f6 0 = .ok (.iload_n 2, 1) := by decide +kernel
theorem dJ8_mismatch_974f6_1 : decode cJ8_mismatch_974f6 1 = .ok (.ifCond .ne 5, 3) := by decide +kernel
theorem dJ8_mismatch_974f6_4 : decode cJ8_mismatch_974f6 4 = .ok (.iconst (-1), 1) := by decide +kernel
theorem dJ8_mismatch_974f6_5 : decode cJ8_mismatch_974f6 5 = .ok (.ireturn, 1) := by decide +kernel
theorem dJ8_mismatch_974f6_6 : decode cJ8_mismatch_974f6 6 = .ok (.aload_n 0, 1) := by decide +kernel
theorem dJ8_mismatch_974f6_7 : decode cJ8_mismatch_974f6 7 = .ok (.iconst 0, 1) := by decide +kernel
theorem dJ8_mismatch_974f6_8 : decode cJ8_mismatch_974f6 8 = .ok (.laload, 1) := by decide +kernel
theorem dJ8_mismatch_974f6_9 : decode cJ8_mismatch_974f6 9 = .ok (.aload_n 1, 1) := by decide +kernel
theorem dJ8_mismatch_974f6_10 : decode cJ8_mismatch_974f6 10 = .ok (.iconst 0, 1) := by decide +kernel
theorem dJ8_mismatch_974f6_11 : decode cJ8_mismatch_974f6 11 = .ok (.laload, 1) := by decide +kernel
theorem dJ8_mismatch_974f6_12 : decode cJ8_mismatch_974f6 12 = .ok (.lcmp, 1) := by decide +kernel
theorem dJ8_mismatch_974f6_13 : decode cJ8_mismatch_974f6 13 = .ok (.ifCond .eq 5, 3) := by decide +kernel
theorem dJ8_mismatch_974f6_16 : decode cJ8_mismatch_974f6 16 = .ok (.iconst 0, 1) := by decide +kernel
theorem dJ8_mismatch_974f6_17 : decode cJ8_mismatch_974f6 17 = .ok (.ireturn, 1) := by decide +kernel
theorem dJ8_mismatch_974f6_18 : decode cJ8_mismatch_974f6 18 = .ok (.aload_n 0, 1) := by decide +kernel
theorem dJ8_mismatch_974f6_19 : decode cJ8_mismatch_974f6 19 = .ok (.getstatic 170, 3) := by decide +kernel
theorem dJ8_mismatch_974f6_22 : decode cJ8_mismatch_974f6 22 = .ok (.i2l, 1) := by decide +kernel
theorem dJ8_mismatch_974f6_23 : decode cJ8_mismatch_974f6 23 = .ok (.aload_n 1, 1) := by decide +kernel
theorem dJ8_mismatch_974f6_24 : decode cJ8_mismatch_974f6 24 = .ok (.getstatic 170, 3) := by decide +kernel
theorem dJ8_mismatch_974f6_27 : decode cJ8_mismatch_974f6 27 = .ok (.i2l, 1) := by decide +kernel
theorem dJ8_mismatch_974f6_28 : decode cJ8_mismatch_974f6 28 = .ok (.iload_n 2, 1) := by decide +kernel
theorem dJ8_mismatch_974f6_29 : decode cJ8_mismatch_974f6 29 = .ok (.getstatic 20, 3) := by decide +kernel
theorem dJ8_mismatch_974f6_32 : decode cJ8_mismatch_974f6 32 = .ok (.invokestatic 122, 3) := by decide +kernel
theorem dJ8_mismatch_974f6_35 : decode cJ8_mismatch_974f6 35 = .ok (.istore_n 3, 1) := by decide +kernel
theorem dJ8_mismatch_974f6_36 : decode cJ8_mismatch_974f6 36 = .ok (.iload_n 3, 1) := by decide +kernel
theorem dJ8_mismatch_974f6_37 : decode cJ8_mismatch_974f6 37 = .ok (.ifCond .lt 7, 3) := by decide +kernel
theorem dJ8_mismatch_974f6_40 : decode cJ8_mismatch_974f6 40 = .ok (.iload_n 3, 1) := by decide +kernel
theorem dJ8_mismatch_974f6_41 : decode cJ8_mismatch_974f6 41 = .ok (.goto 4, 3) := by decide +kernel
theorem dJ8_mismatch_974f6_44 : decode cJ8_mismatch_974f6 44 = .ok (.iconst (-1), 1) := by decide +kernel
theorem dJ8_mismatch_974f6_45 : decode cJ8_mismatch_974f6 45 = .ok (.ireturn, 1) := by decide +kernel
theorem dJ3_checkIndex_8e157_0 : decode cJ3_checkIndex_8e157 0 = .ok (.iload_n 0, 1) := by decide +kernel
theorem dJ3_checkIndex_8e157_1 : decode cJ3_checkIndex_8e157 1 = .ok (.ifCond .lt 8, 3) := by decide +kernel
theorem dJ3_checkIndex_8e157_4 : decode cJ3_checkIndex_8e157 4 = .ok (.iload_n 0, 1) := by decide +kernel
theorem dJ3_checkIndex_8e157_5 : decode cJ3_checkIndex_8e157 5 = .ok (.iload_n 1, 1) := by decide +kernel
theorem dJ3_checkIndex_8e157_6 : decode cJ3_checkIndex_8e157 6 = .ok (.if_icmp .lt 10, 3) := by decide +kernel
theorem dJ3_checkIndex_8e157_9 : decode cJ3_checkIndex_8e157 9 = .ok (.aload_n 2, 1) := by decide +kernel
theorem dJ3_checkIndex_8e157_10 : decode cJ3_checkIndex_8e157 10 = .ok (.iload_n 0, 1) := by decide +kernel
theorem dJ3_checkIndex_8e157_11 : decode cJ3_checkIndex_8e157 11 = .ok (.iload_n 1, 1) := by decide +kernel
theorem dJ3_checkIndex_8e157_12 : decode cJ3_checkIndex_8e157 12 = .ok (.invokestatic 95, 3) := by decide +kernel
theorem dJ3_checkIndex_8e157_15 : decode cJ3_checkIndex_8e157 15 = .ok (.athrow, 1) := by decide +kernel
theorem dJ3_checkIndex_8e157_16 : decode cJ3_checkIndex_8e157 16 = .ok (.iload_n 0, 1) := by decide +kernel
theorem dJ3_checkIndex_8e157_17 : decode cJ3_checkIndex_8e157 17 = .ok (.ireturn, 1) := by decide +kernel
theorem dL_put_0 : decode cL_put 0 = .ok (.aload_n 1, 1) := by decide +kernel
theorem dL_put_1 : decode cL_put 1 = .ok (.iconst 5, 1) := by decide +kernel
theorem dL_put_2 : decode cL_put 2 = .ok (.iaload, 1) := by decide +kernel
theorem dL_put_3 : decode cL_put 3 = .ok (.istore_n 3, 1) := by decide +kernel
theorem dL_put_4 : decode cL_put 4 = .ok (.aload_n 1, 1) := by decide +kernel
theorem dL_put_5 : decode cL_put 5 = .ok (.iload_n 3, 1) := by decide +kernel
theorem dL_put_6 : decode cL_put 6 = .ok (.iconst 4, 1) := by decide +kernel
theorem dL_put_7 : decode cL_put 7 = .ok (.idiv, 1) := by decide +kernel
theorem dL_put_8 : decode cL_put 8 = .ok (.aload_n 1, 1) := by decide +kernel
theorem dL_put_9 : decode cL_put 9 = .ok (.iload_n 3, 1) := by decide +kernel
theorem dL_put_10 : decode cL_put 10 = .ok (.iconst 4, 1) := by decide +kernel
theorem dL_put_11 : decode cL_put 11 = .ok (.idiv, 1) := by decide +kernel
theorem dL_put_12 : decode cL_put 12 = .ok (.iaload, 1) := by decide +kernel
theorem dL_put_13 : decode cL_put 13 = .ok (.bipush 8, 2) := by decide +kernel
theorem dL_put_15 : decode cL_put 15 = .ok (.ishl, 1) := by decide +kernel
theorem dL_put_16 : decode cL_put 16 = .ok (.iload_n 2, 1) := by decide +kernel
theorem dL_put_17 : decode cL_put 17 = .ok (.ior, 1) := by decide +kernel
theorem dL_put_18 : decode cL_put 18 = .ok (.iastore, 1) := by decide +kernel
theorem dL_put_19 : decode cL_put 19 = .ok (.aload_n 1, 1) := by decide +kernel
theorem dL_put_20 : decode cL_put 20 = .ok (.iconst 5, 1) := by decide +kernel
theorem dL_put_21 : decode cL_put 21 = .ok (.dup2, 1) := by decide +kernel
theorem dL_put_22 : decode cL_put 22 = .ok (.iaload, 1) := by decide +kernel
theorem dL_put_23 : decode cL_put 23 = .ok (.iconst 1, 1) := by decide +kernel
theorem dL_put_24 : decode cL_put 24 = .ok (.iadd, 1) := by decide +kernel
theorem dL_put_25 : decode cL_put 25 = .ok (.iastore, 1) := by decide +kernel
theorem dL_put_26 : decode cL_put 26 = .ok (.aload_n 1, 1) := by decide +kernel
theorem dL_put_27 : decode cL_put 27 = .ok (.bipush 6, 2) := by decide +kernel
theorem dL_put_29 : decode cL_put 29 = .ok (.dup2, 1) := by decide +kernel
theorem dL_put_30 : decode cL_put 30 = .ok (.iaload, 1) := by decide +kernel
theorem dL_put_31 : decode cL_put 31 = .ok (.iconst 1, 1) := by decide +kernel
theorem dL_put_32 : decode cL_put 32 = .ok (.iadd, 1) := by decide +kernel
theorem dL_put_33 : decode cL_put 33 = .ok (.iastore, 1) := by decide +kernel
theorem dL_put_34 : decode cL_put 34 = .ok (.aload_n 1, 1) := by decide +kernel
theorem dL_put_35 : decode cL_put 35 = .ok (.iconst 5, 1) := by decide +kernel
theorem dL_put_36 : decode cL_put 36 = .ok (.iaload, 1) := by decide +kernel
theorem dL_put_37 : decode cL_put 37 = .ok (.bipush 20, 2) := by decide +kernel
theorem dL_put_39 : decode cL_put 39 = .ok (.if_icmp .ne 8, 3) := by decide +kernel
theorem dL_put_42 : decode cL_put 42 = .ok (.aload_n 0, 1) := by decide +kernel
theorem dL_put_43 : decode cL_put 43 = .ok (.aload_n 1, 1) := by decide +kernel
theorem dL_put_44 : decode cL_put 44 = .ok (.invokestatic 7, 3) := by decide +kernel
theorem dL_put_47 : decode cL_put 47 = .ok (.return_, 1) := by decide +kernel
theorem dL_flush_0 : decode cL_flush 0 = .ok (.aload_n 0, 1) := by decide +kernel
theorem dL_flush_1 : decode cL_flush 1 = .ok (.aload_n 1, 1) := by decide +kernel
theorem dL_flush_2 : decode cL_flush 2 = .ok (.iconst 0, 1) := by decide +kernel
theorem dL_flush_3 : decode cL_flush 3 = .ok (.iaload, 1) := by decide +kernel
theorem dL_flush_4 : decode cL_flush 4 = .ok (.aload_n 1, 1) := by decide +kernel
theorem dL_flush_5 : decode cL_flush 5 = .ok (.iconst 1, 1) := by decide +kernel
theorem dL_flush_6 : decode cL_flush 6 = .ok (.iaload, 1) := by decide +kernel
theorem dL_flush_7 : decode cL_flush 7 = .ok (.aload_n 1, 1) := by decide +kernel
theorem dL_flush_8 : decode cL_flush 8 = .ok (.iconst 2, 1) := by decide +kernel
theorem dL_flush_9 : decode cL_flush 9 = .ok (.iaload, 1) := by decide +kernel
theorem dL_flush_10 : decode cL_flush 10 = .ok (.aload_n 1, 1) := by decide +kernel
theorem dL_flush_11 : decode cL_flush 11 = .ok (.iconst 3, 1) := by decide +kernel
theorem dL_flush_12 : decode cL_flush 12 = .ok (.iaload, 1) := by decide +kernel
theorem dL_flush_13 : decode cL_flush 13 = .ok (.aload_n 1, 1) := by decide +kernel
theorem dL_flush_14 : decode cL_flush 14 = .ok (.iconst 4, 1) := by decide +kernel
theorem dL_flush_15 : decode cL_flush 15 = .ok (.iaload, 1) := by decide +kernel
theorem dL_flush_16 : decode cL_flush 16 = .ok (.invokevirtual 13, 3) := by decide +kernel
theorem dL_flush_19 : decode cL_flush 19 = .ok (.istore_n 2, 1) := by decide +kernel
theorem dL_flush_20 : decode cL_flush 20 = .ok (.aload_n 1, 1) := by decide +kernel
theorem dL_flush_21 : decode cL_flush 21 = .ok (.iconst 5, 1) := by decide +kernel
theorem dL_flush_22 : decode cL_flush 22 = .ok (.iconst 0, 1) := by decide +kernel
theorem dL_flush_23 : decode cL_flush 23 = .ok (.iastore, 1) := by decide +kernel
theorem dL_flush_24 : decode cL_flush 24 = .ok (.return_, 1) := by decide +kernel
theorem dL_say_0 : decode cL_say 0 = .ok (.bipush 56, 2) := by decide +kernel
theorem dL_say_2 : decode cL_say 2 = .ok (.istore 4, 2) := by decide +kernel
theorem dL_say_4 : decode cL_say 4 = .ok (.iload 4, 2) := by decide +kernel
theorem dL_say_6 : decode cL_say 6 = .ok (.ifCond .lt 36, 3) := by decide +kernel
theorem dL_say_9 : decode cL_say 9 = .ok (.lload_n 2, 1) := by decide +kernel
theorem dL_say_10 : decode cL_say 10 = .ok (.iload 4, 2) := by decide +kernel
theorem dL_say_12 : decode cL_say 12 = .ok (.lshr, 1) := by decide +kernel
theorem dL_say_13 : decode cL_say 13 = .ok (.ldc2_w 19, 3) := by decide +kernel
theorem dL_say_16 : decode cL_say 16 = .ok (.land, 1) := by decide +kernel
theorem dL_say_17 : decode cL_say 17 = .ok (.lconst 0, 1) := by decide +kernel
theorem dL_say_18 : decode cL_say 18 = .ok (.lcmp, 1) := by decide +kernel
theorem dL_say_19 : decode cL_say 19 = .ok (.ifCond .eq 17, 3) := by decide +kernel
theorem dL_say_22 : decode cL_say 22 = .ok (.aload_n 0, 1) := by decide +kernel
theorem dL_say_23 : decode cL_say 23 = .ok (.aload_n 1, 1) := by decide +kernel
theorem dL_say_24 : decode cL_say 24 = .ok (.lload_n 2, 1) := by decide +kernel
theorem dL_say_25 : decode cL_say 25 = .ok (.iload 4, 2) := by decide +kernel
theorem dL_say_27 : decode cL_say 27 = .ok (.lshr, 1) := by decide +kernel
theorem dL_say_28 : decode cL_say 28 = .ok (.ldc2_w 19, 3) := by decide +kernel
theorem dL_say_31 : decode cL_say 31 = .ok (.land, 1) := by decide +kernel
theorem dL_say_32 : decode cL_say 32 = .ok (.l2i, 1) := by decide +kernel
theorem dL_say_33 : decode cL_say 33 = .ok (.invokestatic 21, 3) := by decide +kernel
theorem dL_say_36 : decode cL_say 36 = .ok (.iinc 4 (-8), 3) := by decide +kernel
theorem dL_say_39 : decode cL_say 39 = .ok (.goto (-35), 3) := by decide +kernel
theorem dL_say_42 : decode cL_say 42 = .ok (.return_, 1) := by decide +kernel
theorem dL_said_0 : decode cL_said 0 = .ok (.aload_n 1, 1) := by decide +kernel
theorem dL_said_1 : decode cL_said 1 = .ok (.bipush 6, 2) := by decide +kernel
theorem dL_said_3 : decode cL_said 3 = .ok (.iaload, 1) := by decide +kernel
theorem dL_said_4 : decode cL_said 4 = .ok (.istore_n 2, 1) := by decide +kernel
theorem dL_said_5 : decode cL_said 5 = .ok (.aload_n 1, 1) := by decide +kernel
theorem dL_said_6 : decode cL_said 6 = .ok (.iconst 5, 1) := by decide +kernel
theorem dL_said_7 : decode cL_said 7 = .ok (.iaload, 1) := by decide +kernel
theorem dL_said_8 : decode cL_said 8 = .ok (.ifCond .le 13, 3) := by decide +kernel
theorem dL_said_11 : decode cL_said 11 = .ok (.aload_n 0, 1) := by decide +kernel
theorem dL_said_12 : decode cL_said 12 = .ok (.aload_n 1, 1) := by decide +kernel
theorem dL_said_13 : decode cL_said 13 = .ok (.bipush 32, 2) := by decide +kernel
theorem dL_said_15 : decode cL_said 15 = .ok (.invokestatic 21, 3) := by decide +kernel
theorem dL_said_18 : decode cL_said 18 = .ok (.goto (-13), 3) := by decide +kernel
theorem dL_said_21 : decode cL_said 21 = .ok (.aload_n 1, 1) := by decide +kernel
theorem dL_said_22 : decode cL_said 22 = .ok (.bipush 6, 2) := by decide +kernel
theorem dL_said_24 : decode cL_said 24 = .ok (.iconst 0, 1) := by decide +kernel
theorem dL_said_25 : decode cL_said 25 = .ok (.iastore, 1) := by decide +kernel
theorem dL_said_26 : decode cL_said 26 = .ok (.iload_n 2, 1) := by decide +kernel
theorem dL_said_27 : decode cL_said 27 = .ok (.ireturn, 1) := by decide +kernel
theorem dL_number_0 : decode cL_number 0 = .ok (.iload_n 2, 1) := by decide +kernel
theorem dL_number_1 : decode cL_number 1 = .ok (.ifCond .ge 10, 3) := by decide +kernel
theorem dL_number_4 : decode cL_number 4 = .ok (.aload_n 0, 1) := by decide +kernel
theorem dL_number_5 : decode cL_number 5 = .ok (.aload_n 1, 1) := by decide +kernel
theorem dL_number_6 : decode cL_number 6 = .ok (.bipush 45, 2) := by decide +kernel
theorem dL_number_8 : decode cL_number 8 = .ok (.invokestatic 21, 3) := by decide +kernel
theorem dL_number_11 : decode cL_number 11 = .ok (.iload_n 2, 1) := by decide +kernel
theorem dL_number_12 : decode cL_number 12 = .ok (.invokestatic 25, 3) := by decide +kernel
theorem dL_number_15 : decode cL_number 15 = .ok (.istore_n 3, 1) := by decide +kernel
theorem dL_number_16 : decode cL_number 16 = .ok (.ldc 31, 2) := by decide +kernel
theorem dL_number_18 : decode cL_number 18 = .ok (.istore 4, 2) := by decide +kernel
theorem dL_number_20 : decode cL_number 20 = .ok (.iload 4, 2) := by decide +kernel
theorem dL_number_22 : decode cL_number 22 = .ok (.iconst 1, 1) := by decide +kernel
theorem dL_number_23 : decode cL_number 23 = .ok (.if_icmp .le 19, 3) := by decide +kernel
theorem dL_number_26 : decode cL_number 26 = .ok (.iload_n 3, 1) := by decide +kernel
theorem dL_number_27 : decode cL_number 27 = .ok (.iload 4, 2) := by decide +kernel
theorem dL_number_29 : decode cL_number 29 = .ok (.if_icmp .ge 13, 3) := by decide +kernel
theorem dL_number_32 : decode cL_number 32 = .ok (.iload 4, 2) := by decide +kernel
theorem dL_number_34 : decode cL_number 34 = .ok (.bipush 10, 2) := by decide +kernel
theorem dL_number_36 : decode cL_number 36 = .ok (.idiv, 1) := by decide +kernel
theorem dL_number_37 : decode cL_number 37 = .ok (.istore 4, 2) := by decide +kernel
theorem dL_number_39 : decode cL_number 39 = .ok (.goto (-19), 3) := by decide +kernel
theorem dL_number_42 : decode cL_number 42 = .ok (.iload 4, 2) := by decide +kernel
theorem dL_number_44 : decode cL_number 44 = .ok (.ifCond .le 28, 3) := by decide +kernel
theorem dL_number_47 : decode cL_number 47 = .ok (.aload_n 0, 1) := by decide +kernel
theorem dL_number_48 : decode cL_number 48 = .ok (.aload_n 1, 1) := by decide +kernel
theorem dL_number_49 : decode cL_number 49 = .ok (.bipush 48, 2) := by decide +kernel
theorem dL_number_51 : decode cL_number 51 = .ok (.iload_n 3, 1) := by decide +kernel
theorem dL_number_52 : decode cL_number 52 = .ok (.iload 4, 2) := by decide +kernel
theorem dL_number_54 : decode cL_number 54 = .ok (.idiv, 1) := by decide +kernel
theorem dL_number_55 : decode cL_number 55 = .ok (.bipush 10, 2) := by decide +kernel
theorem dL_number_57 : decode cL_number 57 = .ok (.irem, 1) := by decide +kernel
theorem dL_number_58 : decode cL_number 58 = .ok (.iadd, 1) := by decide +kernel
theorem dL_number_59 : decode cL_number 59 = .ok (.invokestatic 21, 3) := by decide +kernel
theorem dL_number_62 : decode cL_number 62 = .ok (.iload 4, 2) := by decide +kernel
theorem dL_number_64 : decode cL_number 64 = .ok (.bipush 10, 2) := by decide +kernel
theorem dL_number_66 : decode cL_number 66 = .ok (.idiv, 1) := by decide +kernel
theorem dL_number_67 : decode cL_number 67 = .ok (.istore 4, 2) := by decide +kernel
theorem dL_number_69 : decode cL_number 69 = .ok (.goto (-27), 3) := by decide +kernel
theorem dL_number_72 : decode cL_number 72 = .ok (.return_, 1) := by decide +kernel
theorem dL_cell_0 : decode cL_cell 0 = .ok (.iload_n 1, 1) := by decide +kernel
theorem dL_cell_1 : decode cL_cell 1 = .ok (.aload_n 0, 1) := by decide +kernel
theorem dL_cell_2 : decode cL_cell 2 = .ok (.arraylength, 1) := by decide +kernel
theorem dL_cell_3 : decode cL_cell 3 = .ok (.if_icmp .ge 9, 3) := by decide +kernel
theorem dL_cell_6 : decode cL_cell 6 = .ok (.aload_n 0, 1) := by decide +kernel
theorem dL_cell_7 : decode cL_cell 7 = .ok (.iload_n 1, 1) := by decide +kernel
theorem dL_cell_8 : decode cL_cell 8 = .ok (.iaload, 1) := by decide +kernel
theorem dL_cell_9 : decode cL_cell 9 = .ok (.goto 4, 3) := by decide +kernel
theorem dL_cell_12 : decode cL_cell 12 = .ok (.iconst 0, 1) := by decide +kernel
theorem dL_cell_13 : decode cL_cell 13 = .ok (.ireturn, 1) := by decide +kernel
theorem dL_drawn_0 : decode cL_drawn 0 = .ok (.bipush 90, 2) := by decide +kernel
theorem dL_drawn_2 : decode cL_drawn 2 = .ok (.newarray .int, 2) := by decide +kernel
theorem dL_drawn_4 : decode cL_drawn 4 = .ok (.astore_n 1, 1) := by decide +kernel
theorem dL_drawn_5 : decode cL_drawn 5 = .ok (.aload_n 0, 1) := by decide +kernel
theorem dL_drawn_6 : decode cL_drawn 6 = .ok (.iconst 0, 1) := by decide +kernel
theorem dL_drawn_7 : decode cL_drawn 7 = .ok (.invokestatic 32, 3) := by decide +kernel
theorem dL_drawn_10 : decode cL_drawn 10 = .ok (.istore_n 2, 1) := by decide +kernel
theorem dL_drawn_11 : decode cL_drawn 11 = .ok (.aload_n 1, 1) := by decide +kernel
theorem dL_drawn_12 : decode cL_drawn 12 = .ok (.iconst 1, 1) := by decide +kernel
theorem dL_drawn_13 : decode cL_drawn 13 = .ok (.iconst 1, 1) := by decide +kernel
theorem dL_drawn_14 : decode cL_drawn 14 = .ok (.iload_n 2, 1) := by decide +kernel
theorem dL_drawn_15 : decode cL_drawn 15 = .ok (.bipush 7, 2) := by decide +kernel
theorem dL_drawn_17 : decode cL_drawn 17 = .ok (.iand, 1) := by decide +kernel
theorem dL_drawn_18 : decode cL_drawn 18 = .ok (.iadd, 1) := by decide +kernel
theorem dL_drawn_19 : decode cL_drawn 19 = .ok (.iastore, 1) := by decide +kernel
theorem dL_drawn_20 : decode cL_drawn 20 = .ok (.aload_n 1, 1) := by decide +kernel
theorem dL_drawn_21 : decode cL_drawn 21 = .ok (.iconst 2, 1) := by decide +kernel
theorem dL_drawn_22 : decode cL_drawn 22 = .ok (.iconst 1, 1) := by decide +kernel
theorem dL_drawn_23 : decode cL_drawn 23 = .ok (.iload_n 2, 1) := by decide +kernel
theorem dL_drawn_24 : decode cL_drawn 24 = .ok (.iconst 3, 1) := by decide +kernel
theorem dL_drawn_25 : decode cL_drawn 25 = .ok (.ishr, 1) := by decide +kernel
theorem dL_drawn_26 : decode cL_drawn 26 = .ok (.bipush 7, 2) := by decide +kernel
theorem dL_drawn_28 : decode cL_drawn 28 = .ok (.iand, 1) := by decide +kernel
theorem dL_drawn_29 : decode cL_drawn 29 = .ok (.iconst 5, 1) := by decide +kernel
theorem dL_drawn_30 : decode cL_drawn 30 = .ok (.irem, 1) := by decide +kernel
theorem dL_drawn_31 : decode cL_drawn 31 = .ok (.iadd, 1) := by decide +kernel
theorem dL_drawn_32 : decode cL_drawn 32 = .ok (.iastore, 1) := by decide +kernel
theorem dL_drawn_33 : decode cL_drawn 33 = .ok (.aload_n 1, 1) := by decide +kernel
theorem dL_drawn_34 : decode cL_drawn 34 = .ok (.iconst 3, 1) := by decide +kernel
theorem dL_drawn_35 : decode cL_drawn 35 = .ok (.iload_n 2, 1) := by decide +kernel
theorem dL_drawn_36 : decode cL_drawn 36 = .ok (.bipush 6, 2) := by decide +kernel
theorem dL_drawn_38 : decode cL_drawn 38 = .ok (.ishr, 1) := by decide +kernel
theorem dL_drawn_39 : decode cL_drawn 39 = .ok (.iconst 1, 1) := by decide +kernel
theorem dL_drawn_40 : decode cL_drawn 40 = .ok (.iand, 1) := by decide +kernel
theorem dL_drawn_41 : decode cL_drawn 41 = .ok (.iload_n 2, 1) := by decide +kernel
theorem dL_drawn_42 : decode cL_drawn 42 = .ok (.bipush 7, 2) := by decide +kernel
theorem dL_drawn_44 : decode cL_drawn 44 = .ok (.ishr, 1) := by decide +kernel
theorem dL_drawn_45 : decode cL_drawn 45 = .ok (.sipush 2047, 3) := by decide +kernel
theorem dL_drawn_48 : decode cL_drawn 48 = .ok (.iand, 1) := by decide +kernel
theorem dL_drawn_49 : decode cL_drawn 49 = .ok (.imul, 1) := by decide +kernel
theorem dL_drawn_50 : decode cL_drawn 50 = .ok (.iastore, 1) := by decide +kernel
theorem dL_drawn_51 : decode cL_drawn 51 = .ok (.aload_n 1, 1) := by decide +kernel
theorem dL_drawn_52 : decode cL_drawn 52 = .ok (.iconst 4, 1) := by decide +kernel
theorem dL_drawn_53 : decode cL_drawn 53 = .ok (.iload_n 2, 1) := by decide +kernel
theorem dL_drawn_54 : decode cL_drawn 54 = .ok (.bipush 18, 2) := by decide +kernel
theorem dL_drawn_56 : decode cL_drawn 56 = .ok (.ishr, 1) := by decide +kernel
theorem dL_drawn_57 : decode cL_drawn 57 = .ok (.iconst 3, 1) := by decide +kernel
theorem dL_drawn_58 : decode cL_drawn 58 = .ok (.iand, 1) := by decide +kernel
theorem dL_drawn_59 : decode cL_drawn 59 = .ok (.ifCond .ne 7, 3) := by decide +kernel
theorem dL_drawn_62 : decode cL_drawn 62 = .ok (.iconst (-1), 1) := by decide +kernel
theorem dL_drawn_63 : decode cL_drawn 63 = .ok (.goto 14, 3) := by decide +kernel
theorem dL_drawn_66 : decode cL_drawn 66 = .ok (.iload_n 2, 1) := by decide +kernel
theorem dL_drawn_67 : decode cL_drawn 67 = .ok (.bipush 20, 2) := by decide +kernel
theorem dL_drawn_69 : decode cL_drawn 69 = .ok (.ishr, 1) := by decide +kernel
theorem dL_drawn_70 : decode cL_drawn 70 = .ok (.bipush 7, 2) := by decide +kernel
theorem dL_drawn_72 : decode cL_drawn 72 = .ok (.iand, 1) := by decide +kernel
theorem dL_drawn_73 : decode cL_drawn 73 = .ok (.aload_n 1, 1) := by decide +kernel
theorem dL_drawn_74 : decode cL_drawn 74 = .ok (.iconst 1, 1) := by decide +kernel
theorem dL_drawn_75 : decode cL_drawn 75 = .ok (.iaload, 1) := by decide +kernel
theorem dL_drawn_76 : decode cL_drawn 76 = .ok (.irem, 1) := by decide +kernel
theorem dL_drawn_77 : decode cL_drawn 77 = .ok (.iastore, 1) := by decide +kernel
theorem dL_drawn_78 : decode cL_drawn 78 = .ok (.aload_n 1, 1) := by decide +kernel
theorem dL_drawn_79 : decode cL_drawn 79 = .ok (.iconst 5, 1) := by decide +kernel
theorem dL_drawn_80 : decode cL_drawn 80 = .ok (.aload_n 1, 1) := by decide +kernel
theorem dL_drawn_81 : decode cL_drawn 81 = .ok (.iconst 4, 1) := by decide +kernel
theorem dL_drawn_82 : decode cL_drawn 82 = .ok (.iaload, 1) := by decide +kernel
theorem dL_drawn_83 : decode cL_drawn 83 = .ok (.ifCond .ge 7, 3) := by decide +kernel
theorem dL_drawn_86 : decode cL_drawn 86 = .ok (.iconst 0, 1) := by decide +kernel
theorem dL_drawn_87 : decode cL_drawn 87 = .ok (.goto 15, 3) := by decide +kernel
theorem dL_drawn_90 : decode cL_drawn 90 = .ok (.iload_n 2, 1) := by decide +kernel
theorem dL_drawn_91 : decode cL_drawn 91 = .ok (.bipush 23, 2) := by decide +kernel
theorem dL_drawn_93 : decode cL_drawn 93 = .ok (.ishr, 1) := by decide +kernel
theorem dL_drawn_94 : decode cL_drawn 94 = .ok (.iconst 1, 1) := by decide +kernel
theorem dL_drawn_95 : decode cL_drawn 95 = .ok (.aload_n 1, 1) := by decide +kernel
theorem dL_drawn_96 : decode cL_drawn 96 = .ok (.iconst 2, 1) := by decide +kernel
theorem dL_drawn_97 : decode cL_drawn 97 = .ok (.iaload, 1) := by decide +kernel
theorem dL_drawn_98 : decode cL_drawn 98 = .ok (.ishl, 1) := by decide +kernel
theorem dL_drawn_99 : decode cL_drawn 99 = .ok (.iconst 1, 1) := by decide +kernel
theorem dL_drawn_100 : decode cL_drawn 100 = .ok (.isub, 1) := by decide +kernel
theorem dL_drawn_101 : decode cL_drawn 101 = .ok (.iand, 1) := by decide +kernel
theorem dL_drawn_102 : decode cL_drawn 102 = .ok (.iastore, 1) := by decide +kernel
theorem dL_drawn_103 : decode cL_drawn 103 = .ok (.aload_n 1, 1) := by decide +kernel
theorem dL_drawn_104 : decode cL_drawn 104 = .ok (.bipush 6, 2) := by decide +kernel
theorem dL_drawn_106 : decode cL_drawn 106 = .ok (.iconst 1, 1) := by decide +kernel
theorem dL_drawn_107 : decode cL_drawn 107 = .ok (.iload_n 2, 1) := by decide +kernel
theorem dL_drawn_108 : decode cL_drawn 108 = .ok (.bipush 28, 2) := by decide +kernel
theorem dL_drawn_110 : decode cL_drawn 110 = .ok (.ishr, 1) := by decide +kernel
theorem dL_drawn_111 : decode cL_drawn 111 = .ok (.iconst 3, 1) := by decide +kernel
theorem dL_drawn_112 : decode cL_drawn 112 = .ok (.iand, 1) := by decide +kernel
theorem dL_drawn_113 : decode cL_drawn 113 = .ok (.iconst 3, 1) := by decide +kernel
theorem dL_drawn_114 : decode cL_drawn 114 = .ok (.irem, 1) := by decide +kernel
theorem dL_drawn_115 : decode cL_drawn 115 = .ok (.iadd, 1) := by decide +kernel
theorem dL_drawn_116 : decode cL_drawn 116 = .ok (.iastore, 1) := by decide +kernel
theorem dL_drawn_117 : decode cL_drawn 117 = .ok (.iconst 0, 1) := by decide +kernel
theorem dL_drawn_118 : decode cL_drawn 118 = .ok (.istore_n 3, 1) := by decide +kernel
theorem dL_drawn_119 : decode cL_drawn 119 = .ok (.iload_n 3, 1) := by decide +kernel
theorem dL_drawn_120 : decode cL_drawn 120 = .ok (.aload_n 1, 1) := by decide +kernel
theorem dL_drawn_121 : decode cL_drawn 121 = .ok (.bipush 6, 2) := by decide +kernel
theorem dL_drawn_123 : decode cL_drawn 123 = .ok (.iaload, 1) := by decide +kernel
theorem dL_drawn_124 : decode cL_drawn 124 = .ok (.if_icmp .ge 324, 3) := by decide +kernel
theorem dL_drawn_127 : decode cL_drawn 127 = .ok (.bipush 10, 2) := by decide +kernel
theorem dL_drawn_129 : decode cL_drawn 129 = .ok (.bipush 16, 2) := by decide +kernel
theorem dL_drawn_131 : decode cL_drawn 131 = .ok (.iload_n 3, 1) := by decide +kernel
theorem dL_drawn_132 : decode cL_drawn 132 = .ok (.imul, 1) := by decide +kernel
theorem dL_drawn_133 : decode cL_drawn 133 = .ok (.iadd, 1) := by decide +kernel
theorem dL_drawn_134 : decode cL_drawn 134 = .ok (.istore 4, 2) := by decide +kernel
theorem dL_drawn_136 : decode cL_drawn 136 = .ok (.aload_n 0, 1) := by decide +kernel
theorem dL_drawn_137 : decode cL_drawn 137 = .ok (.iconst 1, 1) := by decide +kernel
theorem dL_drawn_138 : decode cL_drawn 138 = .ok (.iconst 2, 1) := by decide +kernel
theorem dL_drawn_139 : decode cL_drawn 139 = .ok (.iload_n 3, 1) := by decide +kernel
theorem dL_drawn_140 : decode cL_drawn 140 = .ok (.imul, 1) := by decide +kernel
theorem dL_drawn_141 : decode cL_drawn 141 = .ok (.iadd, 1) := by decide +kernel
theorem dL_drawn_142 : decode cL_drawn 142 = .ok (.invokestatic 32, 3) := by decide +kernel
theorem dL_drawn_145 : decode cL_drawn 145 = .ok (.istore_n 2, 1) := by decide +kernel
theorem dL_drawn_146 : decode cL_drawn 146 = .ok (.aload_n 1, 1) := by decide +kernel
theorem dL_drawn_147 : decode cL_drawn 147 = .ok (.iload 4, 2) := by decide +kernel
theorem dL_drawn_149 : decode cL_drawn 149 = .ok (.iload_n 2, 1) := by decide +kernel
theorem dL_drawn_150 : decode cL_drawn 150 = .ok (.bipush 7, 2) := by decide +kernel
theorem dL_drawn_152 : decode cL_drawn 152 = .ok (.iand, 1) := by decide +kernel
theorem dL_drawn_153 : decode cL_drawn 153 = .ok (.aload_n 1, 1) := by decide +kernel
theorem dL_drawn_154 : decode cL_drawn 154 = .ok (.iconst 1, 1) := by decide +kernel
theorem dL_drawn_155 : decode cL_drawn 155 = .ok (.iaload, 1) := by decide +kernel
theorem dL_drawn_156 : decode cL_drawn 156 = .ok (.irem, 1) := by decide +kernel
theorem dL_drawn_157 : decode cL_drawn 157 = .ok (.iastore, 1) := by decide +kernel
theorem dL_drawn_158 : decode cL_drawn 158 = .ok (.aload_n 1, 1) := by decide +kernel
theorem dL_drawn_159 : decode cL_drawn 159 = .ok (.iload 4, 2) := by decide +kernel
theorem dL_drawn_161 : decode cL_drawn 161 = .ok (.iconst 1, 1) := by decide +kernel
theorem dL_drawn_162 : decode cL_drawn 162 = .ok (.iadd, 1) := by decide +kernel
theorem dL_drawn_163 : decode cL_drawn 163 = .ok (.iload_n 2, 1) := by decide +kernel
theorem dL_drawn_164 : decode cL_drawn 164 = .ok (.iconst 3, 1) := by decide +kernel
theorem dL_drawn_165 : decode cL_drawn 165 = .ok (.ishr, 1) := by decide +kernel
theorem dL_drawn_166 : decode cL_drawn 166 = .ok (.bipush 7, 2) := by decide +kernel
theorem dL_drawn_168 : decode cL_drawn 168 = .ok (.iand, 1) := by decide +kernel
theorem dL_drawn_169 : decode cL_drawn 169 = .ok (.aload_n 1, 1) := by decide +kernel
theorem dL_drawn_170 : decode cL_drawn 170 = .ok (.iconst 2, 1) := by decide +kernel
theorem dL_drawn_171 : decode cL_drawn 171 = .ok (.iaload, 1) := by decide +kernel
theorem dL_drawn_172 : decode cL_drawn 172 = .ok (.irem, 1) := by decide +kernel
theorem dL_drawn_173 : decode cL_drawn 173 = .ok (.iastore, 1) := by decide +kernel
theorem dL_drawn_174 : decode cL_drawn 174 = .ok (.aload_n 1, 1) := by decide +kernel
theorem dL_drawn_175 : decode cL_drawn 175 = .ok (.iload 4, 2) := by decide +kernel
theorem dL_drawn_177 : decode cL_drawn 177 = .ok (.iconst 2, 1) := by decide +kernel
theorem dL_drawn_178 : decode cL_drawn 178 = .ok (.iadd, 1) := by decide +kernel
theorem dL_drawn_179 : decode cL_drawn 179 = .ok (.iconst 1, 1) := by decide +kernel
theorem dL_drawn_180 : decode cL_drawn 180 = .ok (.iload_n 2, 1) := by decide +kernel
theorem dL_drawn_181 : decode cL_drawn 181 = .ok (.bipush 6, 2) := by decide +kernel
theorem dL_drawn_183 : decode cL_drawn 183 = .ok (.ishr, 1) := by decide +kernel
theorem dL_drawn_184 : decode cL_drawn 184 = .ok (.sipush 511, 3) := by decide +kernel
theorem dL_drawn_187 : decode cL_drawn 187 = .ok (.iand, 1) := by decide +kernel
theorem dL_drawn_188 : decode cL_drawn 188 = .ok (.iadd, 1) := by decide +kernel
theorem dL_drawn_189 : decode cL_drawn 189 = .ok (.iastore, 1) := by decide +kernel
theorem dL_drawn_190 : decode cL_drawn 190 = .ok (.aload_n 1, 1) := by decide +kernel
theorem dL_drawn_191 : decode cL_drawn 191 = .ok (.iload 4, 2) := by decide +kernel
theorem dL_drawn_193 : decode cL_drawn 193 = .ok (.iconst 3, 1) := by decide +kernel
theorem dL_drawn_194 : decode cL_drawn 194 = .ok (.iadd, 1) := by decide +kernel
theorem dL_drawn_195 : decode cL_drawn 195 = .ok (.bipush 50, 2) := by decide +kernel
theorem dL_drawn_197 : decode cL_drawn 197 = .ok (.iload_n 2, 1) := by decide +kernel
theorem dL_drawn_198 : decode cL_drawn 198 = .ok (.bipush 15, 2) := by decide +kernel
theorem dL_drawn_200 : decode cL_drawn 200 = .ok (.ishr, 1) := by decide +kernel
theorem dL_drawn_201 : decode cL_drawn 201 = .ok (.sipush 511, 3) := by decide +kernel
theorem dL_drawn_204 : decode cL_drawn 204 = .ok (.iand, 1) := by decide +kernel
theorem dL_drawn_205 : decode cL_drawn 205 = .ok (.iadd, 1) := by decide +kernel
theorem dL_drawn_206 : decode cL_drawn 206 = .ok (.iastore, 1) := by decide +kernel
theorem dL_drawn_207 : decode cL_drawn 207 = .ok (.aload_n 1, 1) := by decide +kernel
theorem dL_drawn_208 : decode cL_drawn 208 = .ok (.iload 4, 2) := by decide +kernel
theorem dL_drawn_210 : decode cL_drawn 210 = .ok (.iconst 4, 1) := by decide +kernel
theorem dL_drawn_211 : decode cL_drawn 211 = .ok (.iadd, 1) := by decide +kernel
theorem dL_drawn_212 : decode cL_drawn 212 = .ok (.iconst 2, 1) := by decide +kernel
theorem dL_drawn_213 : decode cL_drawn 213 = .ok (.iload_n 2, 1) := by decide +kernel
theorem dL_drawn_214 : decode cL_drawn 214 = .ok (.bipush 24, 2) := by decide +kernel
theorem dL_drawn_216 : decode cL_drawn 216 = .ok (.ishr, 1) := by decide +kernel
theorem dL_drawn_217 : decode cL_drawn 217 = .ok (.bipush 31, 2) := by decide +kernel
theorem dL_drawn_219 : decode cL_drawn 219 = .ok (.iand, 1) := by decide +kernel
theorem dL_drawn_220 : decode cL_drawn 220 = .ok (.iadd, 1) := by decide +kernel
theorem dL_drawn_221 : decode cL_drawn 221 = .ok (.iastore, 1) := by decide +kernel
theorem dL_drawn_222 : decode cL_drawn 222 = .ok (.aload_n 1, 1) := by decide +kernel
theorem dL_drawn_223 : decode cL_drawn 223 = .ok (.iload 4, 2) := by decide +kernel
theorem dL_drawn_225 : decode cL_drawn 225 = .ok (.bipush 8, 2) := by decide +kernel
theorem dL_drawn_227 : decode cL_drawn 227 = .ok (.iadd, 1) := by decide +kernel
theorem dL_drawn_228 : decode cL_drawn 228 = .ok (.iload_n 2, 1) := by decide +kernel
theorem dL_drawn_229 : decode cL_drawn 229 = .ok (.bipush 29, 2) := by decide +kernel
theorem dL_drawn_231 : decode cL_drawn 231 = .ok (.ishr, 1) := by decide +kernel
theorem dL_drawn_232 : decode cL_drawn 232 = .ok (.iconst 3, 1) := by decide +kernel
theorem dL_drawn_233 : decode cL_drawn 233 = .ok (.iand, 1) := by decide +kernel
theorem dL_drawn_234 : decode cL_drawn 234 = .ok (.iconst 3, 1) := by decide +kernel
theorem dL_drawn_235 : decode cL_drawn 235 = .ok (.irem, 1) := by decide +kernel
theorem dL_drawn_236 : decode cL_drawn 236 = .ok (.iastore, 1) := by decide +kernel
theorem dL_drawn_237 : decode cL_drawn 237 = .ok (.aload_n 0, 1) := by decide +kernel
theorem dL_drawn_238 : decode cL_drawn 238 = .ok (.iconst 2, 1) := by decide +kernel
theorem dL_drawn_239 : decode cL_drawn 239 = .ok (.iconst 2, 1) := by decide +kernel
theorem dL_drawn_240 : decode cL_drawn 240 = .ok (.iload_n 3, 1) := by decide +kernel
theorem dL_drawn_241 : decode cL_drawn 241 = .ok (.imul, 1) := by decide +kernel
theorem dL_drawn_242 : decode cL_drawn 242 = .ok (.iadd, 1) := by decide +kernel
theorem dL_drawn_243 : decode cL_drawn 243 = .ok (.invokestatic 32, 3) := by decide +kernel
theorem dL_drawn_246 : decode cL_drawn 246 = .ok (.istore_n 2, 1) := by decide +kernel
theorem dL_drawn_247 : decode cL_drawn 247 = .ok (.aload_n 1, 1) := by decide +kernel
theorem dL_drawn_248 : decode cL_drawn 248 = .ok (.iload 4, 2) := by decide +kernel
theorem dL_drawn_250 : decode cL_drawn 250 = .ok (.iconst 5, 1) := by decide +kernel
theorem dL_drawn_251 : decode cL_drawn 251 = .ok (.iadd, 1) := by decide +kernel
theorem dL_drawn_252 : decode cL_drawn 252 = .ok (.iload_n 2, 1) := by decide +kernel
theorem dL_drawn_253 : decode cL_drawn 253 = .ok (.sipush 511, 3) := by decide +kernel
theorem dL_drawn_256 : decode cL_drawn 256 = .ok (.iand, 1) := by decide +kernel
theorem dL_drawn_257 : decode cL_drawn 257 = .ok (.sipush 360, 3) := by decide +kernel
theorem dL_drawn_260 : decode cL_drawn 260 = .ok (.irem, 1) := by decide +kernel
theorem dL_drawn_261 : decode cL_drawn 261 = .ok (.iastore, 1) := by decide +kernel
theorem dL_drawn_262 : decode cL_drawn 262 = .ok (.aload_n 1, 1) := by decide +kernel
theorem dL_drawn_263 : decode cL_drawn 263 = .ok (.iload 4, 2) := by decide +kernel
theorem dL_drawn_265 : decode cL_drawn 265 = .ok (.bipush 6, 2) := by decide +kernel
theorem dL_drawn_267 : decode cL_drawn 267 = .ok (.iadd, 1) := by decide +kernel
theorem dL_drawn_268 : decode cL_drawn 268 = .ok (.iload_n 2, 1) := by decide +kernel
theorem dL_drawn_269 : decode cL_drawn 269 = .ok (.bipush 9, 2) := by decide +kernel
theorem dL_drawn_271 : decode cL_drawn 271 = .ok (.ishr, 1) := by decide +kernel
theorem dL_drawn_272 : decode cL_drawn 272 = .ok (.bipush 7, 2) := by decide +kernel
theorem dL_drawn_274 : decode cL_drawn 274 = .ok (.iand, 1) := by decide +kernel
theorem dL_drawn_275 : decode cL_drawn 275 = .ok (.iastore, 1) := by decide +kernel
theorem dL_drawn_276 : decode cL_drawn 276 = .ok (.aload_n 1, 1) := by decide +kernel
theorem dL_drawn_277 : decode cL_drawn 277 = .ok (.iload 4, 2) := by decide +kernel
theorem dL_drawn_279 : decode cL_drawn 279 = .ok (.bipush 7, 2) := by decide +kernel
theorem dL_drawn_281 : decode cL_drawn 281 = .ok (.iadd, 1) := by decide +kernel
theorem dL_drawn_282 : decode cL_drawn 282 = .ok (.aload_n 1, 1) := by decide +kernel
theorem dL_drawn_283 : decode cL_drawn 283 = .ok (.iload 4, 2) := by decide +kernel
theorem dL_drawn_285 : decode cL_drawn 285 = .ok (.bipush 6, 2) := by decide +kernel
theorem dL_drawn_287 : decode cL_drawn 287 = .ok (.iadd, 1) := by decide +kernel
theorem dL_drawn_288 : decode cL_drawn 288 = .ok (.iaload, 1) := by decide +kernel
theorem dL_drawn_289 : decode cL_drawn 289 = .ok (.iload_n 2, 1) := by decide +kernel
theorem dL_drawn_290 : decode cL_drawn 290 = .ok (.bipush 12, 2) := by decide +kernel
theorem dL_drawn_292 : decode cL_drawn 292 = .ok (.ishr, 1) := by decide +kernel
theorem dL_drawn_293 : decode cL_drawn 293 = .ok (.bipush 127, 2) := by decide +kernel
theorem dL_drawn_295 : decode cL_drawn 295 = .ok (.iand, 1) := by decide +kernel
theorem dL_drawn_296 : decode cL_drawn 296 = .ok (.iadd, 1) := by decide +kernel
theorem dL_drawn_297 : decode cL_drawn 297 = .ok (.iastore, 1) := by decide +kernel
theorem dL_drawn_298 : decode cL_drawn 298 = .ok (.aload_n 1, 1) := by decide +kernel
theorem dL_drawn_299 : decode cL_drawn 299 = .ok (.iload 4, 2) := by decide +kernel
theorem dL_drawn_301 : decode cL_drawn 301 = .ok (.bipush 9, 2) := by decide +kernel
theorem dL_drawn_303 : decode cL_drawn 303 = .ok (.iadd, 1) := by decide +kernel
theorem dL_drawn_304 : decode cL_drawn 304 = .ok (.aload_n 1, 1) := by decide +kernel
theorem dL_drawn_305 : decode cL_drawn 305 = .ok (.iload 4, 2) := by decide +kernel
theorem dL_drawn_307 : decode cL_drawn 307 = .ok (.bipush 8, 2) := by decide +kernel
theorem dL_drawn_309 : decode cL_drawn 309 = .ok (.iadd, 1) := by decide +kernel
theorem dL_drawn_310 : decode cL_drawn 310 = .ok (.iaload, 1) := by decide +kernel
theorem dL_drawn_311 : decode cL_drawn 311 = .ok (.ifCond .ne 7, 3) := by decide +kernel
theorem dL_drawn_314 : decode cL_drawn 314 = .ok (.iconst 0, 1) := by decide +kernel
theorem dL_drawn_315 : decode cL_drawn 315 = .ok (.goto 12, 3) := by decide +kernel
theorem dL_drawn_318 : decode cL_drawn 318 = .ok (.iconst 1, 1) := by decide +kernel
theorem dL_drawn_319 : decode cL_drawn 319 = .ok (.iload_n 2, 1) := by decide +kernel
theorem dL_drawn_320 : decode cL_drawn 320 = .ok (.bipush 19, 2) := by decide +kernel
theorem dL_drawn_322 : decode cL_drawn 322 = .ok (.ishr, 1) := by decide +kernel
theorem dL_drawn_323 : decode cL_drawn 323 = .ok (.bipush 7, 2) := by decide +kernel
theorem dL_drawn_325 : decode cL_drawn 325 = .ok (.iand, 1) := by decide +kernel
theorem dL_drawn_326 : decode cL_drawn 326 = .ok (.iadd, 1) := by decide +kernel
theorem dL_drawn_327 : decode cL_drawn 327 = .ok (.iastore, 1) := by decide +kernel
theorem dL_drawn_328 : decode cL_drawn 328 = .ok (.aload_n 1, 1) := by decide +kernel
theorem dL_drawn_329 : decode cL_drawn 329 = .ok (.iload 4, 2) := by decide +kernel
theorem dL_drawn_331 : decode cL_drawn 331 = .ok (.bipush 10, 2) := by decide +kernel
theorem dL_drawn_333 : decode cL_drawn 333 = .ok (.iadd, 1) := by decide +kernel
theorem dL_drawn_334 : decode cL_drawn 334 = .ok (.aload_n 1, 1) := by decide +kernel
theorem dL_drawn_335 : decode cL_drawn 335 = .ok (.iload 4, 2) := by decide +kernel
theorem dL_drawn_337 : decode cL_drawn 337 = .ok (.bipush 8, 2) := by decide +kernel
theorem dL_drawn_339 : decode cL_drawn 339 = .ok (.iadd, 1) := by decide +kernel
theorem dL_drawn_340 : decode cL_drawn 340 = .ok (.iaload, 1) := by decide +kernel
theorem dL_drawn_341 : decode cL_drawn 341 = .ok (.iconst 1, 1) := by decide +kernel
theorem dL_drawn_342 : decode cL_drawn 342 = .ok (.if_icmp .ne 14, 3) := by decide +kernel
theorem dL_drawn_345 : decode cL_drawn 345 = .ok (.iconst 1, 1) := by decide +kernel
theorem dL_drawn_346 : decode cL_drawn 346 = .ok (.iload_n 2, 1) := by decide +kernel
theorem dL_drawn_347 : decode cL_drawn 347 = .ok (.bipush 22, 2) := by decide +kernel
theorem dL_drawn_349 : decode cL_drawn 349 = .ok (.ishr, 1) := by decide +kernel
theorem dL_drawn_350 : decode cL_drawn 350 = .ok (.iconst 3, 1) := by decide +kernel
theorem dL_drawn_351 : decode cL_drawn 351 = .ok (.iand, 1) := by decide +kernel
theorem dL_drawn_352 : decode cL_drawn 352 = .ok (.iadd, 1) := by decide +kernel
theorem dL_drawn_353 : decode cL_drawn 353 = .ok (.goto 4, 3) := by decide +kernel
theorem dL_drawn_356 : decode cL_drawn 356 = .ok (.iconst 0, 1) := by decide +kernel
theorem dL_drawn_357 : decode cL_drawn 357 = .ok (.iastore, 1) := by decide +kernel
theorem dL_drawn_358 : decode cL_drawn 358 = .ok (.aload_n 1, 1) := by decide +kernel
theorem dL_drawn_359 : decode cL_drawn 359 = .ok (.iload 4, 2) := by decide +kernel
theorem dL_drawn_361 : decode cL_drawn 361 = .ok (.bipush 11, 2) := by decide +kernel
theorem dL_drawn_363 : decode cL_drawn 363 = .ok (.iadd, 1) := by decide +kernel
theorem dL_drawn_364 : decode cL_drawn 364 = .ok (.iload_n 2, 1) := by decide +kernel
theorem dL_drawn_365 : decode cL_drawn 365 = .ok (.bipush 24, 2) := by decide +kernel
theorem dL_drawn_367 : decode cL_drawn 367 = .ok (.ishr, 1) := by decide +kernel
theorem dL_drawn_368 : decode cL_drawn 368 = .ok (.iconst 1, 1) := by decide +kernel
theorem dL_drawn_369 : decode cL_drawn 369 = .ok (.iand, 1) := by decide +kernel
theorem dL_drawn_370 : decode cL_drawn 370 = .ok (.iload_n 2, 1) := by decide +kernel
theorem dL_drawn_371 : decode cL_drawn 371 = .ok (.bipush 25, 2) := by decide +kernel
theorem dL_drawn_373 : decode cL_drawn 373 = .ok (.ishr, 1) := by decide +kernel
theorem dL_drawn_374 : decode cL_drawn 374 = .ok (.bipush 63, 2) := by decide +kernel
theorem dL_drawn_376 : decode cL_drawn 376 = .ok (.iand, 1) := by decide +kernel
theorem dL_drawn_377 : decode cL_drawn 377 = .ok (.bipush 32, 2) := by decide +kernel
theorem dL_drawn_379 : decode cL_drawn 379 = .ok (.isub, 1) := by decide +kernel
theorem dL_drawn_380 : decode cL_drawn 380 = .ok (.imul, 1) := by decide +kernel
theorem dL_drawn_381 : decode cL_drawn 381 = .ok (.iastore, 1) := by decide +kernel
theorem dL_drawn_382 : decode cL_drawn 382 = .ok (.aload_n 1, 1) := by decide +kernel
theorem dL_drawn_383 : decode cL_drawn 383 = .ok (.iload 4, 2) := by decide +kernel
theorem dL_drawn_385 : decode cL_drawn 385 = .ok (.bipush 12, 2) := by decide +kernel
theorem dL_drawn_387 : decode cL_drawn 387 = .ok (.iadd, 1) := by decide +kernel
theorem dL_drawn_388 : decode cL_drawn 388 = .ok (.iload_n 2, 1) := by decide +kernel
theorem dL_drawn_389 : decode cL_drawn 389 = .ok (.bipush 24, 2) := by decide +kernel
theorem dL_drawn_391 : decode cL_drawn 391 = .ok (.ishr, 1) := by decide +kernel
theorem dL_drawn_392 : decode cL_drawn 392 = .ok (.iconst 1, 1) := by decide +kernel
theorem dL_drawn_393 : decode cL_drawn 393 = .ok (.iand, 1) := by decide +kernel
theorem dL_drawn_394 : decode cL_drawn 394 = .ok (.iload_n 2, 1) := by decide +kernel
theorem dL_drawn_395 : decode cL_drawn 395 = .ok (.bipush 19, 2) := by decide +kernel
theorem dL_drawn_397 : decode cL_drawn 397 = .ok (.ishr, 1) := by decide +kernel
theorem dL_drawn_398 : decode cL_drawn 398 = .ok (.bipush 63, 2) := by decide +kernel
theorem dL_drawn_400 : decode cL_drawn 400 = .ok (.iand, 1) := by decide +kernel
theorem dL_drawn_401 : decode cL_drawn 401 = .ok (.bipush 32, 2) := by decide +kernel
theorem dL_drawn_403 : decode cL_drawn 403 = .ok (.isub, 1) := by decide +kernel
theorem dL_drawn_404 : decode cL_drawn 404 = .ok (.imul, 1) := by decide +kernel
theorem dL_drawn_405 : decode cL_drawn 405 = .ok (.iastore, 1) := by decide +kernel
theorem dL_drawn_406 : decode cL_drawn 406 = .ok (.aload_n 1, 1) := by decide +kernel
theorem dL_drawn_407 : decode cL_drawn 407 = .ok (.iload 4, 2) := by decide +kernel
theorem dL_drawn_409 : decode cL_drawn 409 = .ok (.bipush 13, 2) := by decide +kernel
theorem dL_drawn_411 : decode cL_drawn 411 = .ok (.iadd, 1) := by decide +kernel
theorem dL_drawn_412 : decode cL_drawn 412 = .ok (.iload_n 2, 1) := by decide +kernel
theorem dL_drawn_413 : decode cL_drawn 413 = .ok (.bipush 26, 2) := by decide +kernel
theorem dL_drawn_415 : decode cL_drawn 415 = .ok (.ishr, 1) := by decide +kernel
theorem dL_drawn_416 : decode cL_drawn 416 = .ok (.iconst 3, 1) := by decide +kernel
theorem dL_drawn_417 : decode cL_drawn 417 = .ok (.iand, 1) := by decide +kernel
theorem dL_drawn_418 : decode cL_drawn 418 = .ok (.ifCond .ne 7, 3) := by decide +kernel
theorem dL_drawn_421 : decode cL_drawn 421 = .ok (.iconst 0, 1) := by decide +kernel
theorem dL_drawn_422 : decode cL_drawn 422 = .ok (.goto 4, 3) := by decide +kernel
theorem dL_drawn_425 : decode cL_drawn 425 = .ok (.iconst 1, 1) := by decide +kernel
theorem dL_drawn_426 : decode cL_drawn 426 = .ok (.iastore, 1) := by decide +kernel
theorem dL_drawn_427 : decode cL_drawn 427 = .ok (.aload_n 1, 1) := by decide +kernel
theorem dL_drawn_428 : decode cL_drawn 428 = .ok (.iload 4, 2) := by decide +kernel
theorem dL_drawn_430 : decode cL_drawn 430 = .ok (.bipush 14, 2) := by decide +kernel
theorem dL_drawn_432 : decode cL_drawn 432 = .ok (.iadd, 1) := by decide +kernel
theorem dL_drawn_433 : decode cL_drawn 433 = .ok (.iload_n 2, 1) := by decide +kernel
theorem dL_drawn_434 : decode cL_drawn 434 = .ok (.bipush 28, 2) := by decide +kernel
theorem dL_drawn_436 : decode cL_drawn 436 = .ok (.ishr, 1) := by decide +kernel
theorem dL_drawn_437 : decode cL_drawn 437 = .ok (.iconst 3, 1) := by decide +kernel
theorem dL_drawn_438 : decode cL_drawn 438 = .ok (.iand, 1) := by decide +kernel
theorem dL_drawn_439 : decode cL_drawn 439 = .ok (.iconst 3, 1) := by decide +kernel
theorem dL_drawn_440 : decode cL_drawn 440 = .ok (.irem, 1) := by decide +kernel
theorem dL_drawn_441 : decode cL_drawn 441 = .ok (.iastore, 1) := by decide +kernel
theorem dL_drawn_442 : decode cL_drawn 442 = .ok (.iinc 3 1, 3) := by decide +kernel
theorem dL_drawn_445 : decode cL_drawn 445 = .ok (.goto (-326), 3) := by decide +kernel
theorem dL_drawn_448 : decode cL_drawn 448 = .ok (.aload_n 0, 1) := by decide +kernel
theorem dL_drawn_449 : decode cL_drawn 449 = .ok (.aload_n 1, 1) := by decide +kernel
theorem dL_drawn_450 : decode cL_drawn 450 = .ok (.invokestatic 36, 3) := by decide +kernel
theorem dL_drawn_453 : decode cL_drawn 453 = .ok (.areturn, 1) := by decide +kernel
theorem dL_furnished_0 : decode cL_furnished 0 = .ok (.aload_n 0, 1) := by decide +kernel
theorem dL_furnished_1 : decode cL_furnished 1 = .ok (.bipush 22, 2) := by decide +kernel
theorem dL_furnished_3 : decode cL_furnished 3 = .ok (.invokestatic 32, 3) := by decide +kernel
theorem dL_furnished_6 : decode cL_furnished 6 = .ok (.istore_n 2, 1) := by decide +kernel
theorem dL_furnished_7 : decode cL_furnished 7 = .ok (.iconst 0, 1) := by decide +kernel
theorem dL_furnished_8 : decode cL_furnished 8 = .ok (.istore_n 3, 1) := by decide +kernel
theorem dL_furnished_9 : decode cL_furnished 9 = .ok (.iload_n 3, 1) := by decide +kernel
theorem dL_furnished_10 : decode cL_furnished 10 = .ok (.iconst 4, 1) := by decide +kernel
theorem dL_furnished_11 : decode cL_furnished 11 = .ok (.if_icmp .ge 35, 3) := by decide +kernel
theorem dL_furnished_14 : decode cL_furnished 14 = .ok (.aload_n 1, 1) := by decide +kernel
theorem dL_furnished_15 : decode cL_furnished 15 = .ok (.bipush 60, 2) := by decide +kernel
theorem dL_furnished_17 : decode cL_furnished 17 = .ok (.iload_n 3, 1) := by decide +kernel
theorem dL_furnished_18 : decode cL_furnished 18 = .ok (.iadd, 1) := by decide +kernel
theorem dL_furnished_19 : decode cL_furnished 19 = .ok (.iload_n 2, 1) := by decide +kernel
theorem dL_furnished_20 : decode cL_furnished 20 = .ok (.iload_n 3, 1) := by decide +kernel
theorem dL_furnished_21 : decode cL_furnished 21 = .ok (.ishr, 1) := by decide +kernel
theorem dL_furnished_22 : decode cL_furnished 22 = .ok (.iconst 1, 1) := by decide +kernel
theorem dL_furnished_23 : decode cL_furnished 23 = .ok (.iand, 1) := by decide +kernel
theorem dL_furnished_24 : decode cL_furnished 24 = .ok (.iconst 1, 1) := by decide +kernel
theorem dL_furnished_25 : decode cL_furnished 25 = .ok (.iload_n 2, 1) := by decide +kernel
theorem dL_furnished_26 : decode cL_furnished 26 = .ok (.iconst 4, 1) := by decide +kernel
theorem dL_furnished_27 : decode cL_furnished 27 = .ok (.iconst 5, 1) := by decide +kernel
theorem dL_furnished_28 : decode cL_furnished 28 = .ok (.iload_n 3, 1) := by decide +kernel
theorem dL_furnished_29 : decode cL_furnished 29 = .ok (.imul, 1) := by decide +kernel
theorem dL_furnished_30 : decode cL_furnished 30 = .ok (.iadd, 1) := by decide +kernel
theorem dL_furnished_31 : decode cL_furnished 31 = .ok (.ishr, 1) := by decide +kernel
theorem dL_furnished_32 : decode cL_furnished 32 = .ok (.bipush 31, 2) := by decide +kernel
theorem dL_furnished_34 : decode cL_furnished 34 = .ok (.iand, 1) := by decide +kernel
theorem dL_furnished_35 : decode cL_furnished 35 = .ok (.iconst 3, 1) := by decide +kernel
theorem dL_furnished_36 : decode cL_furnished 36 = .ok (.imul, 1) := by decide +kernel
theorem dL_furnished_37 : decode cL_furnished 37 = .ok (.iadd, 1) := by decide +kernel
theorem dL_furnished_38 : decode cL_furnished 38 = .ok (.imul, 1) := by decide +kernel
theorem dL_furnished_39 : decode cL_furnished 39 = .ok (.iastore, 1) := by decide +kernel
theorem dL_furnished_40 : decode cL_furnished 40 = .ok (.iinc 3 1, 3) := by decide +kernel
theorem dL_furnished_43 : decode cL_furnished 43 = .ok (.goto (-34), 3) := by decide +kernel
theorem dL_furnished_46 : decode cL_furnished 46 = .ok (.aload_n 1, 1) := by decide +kernel
theorem dL_furnished_47 : decode cL_furnished 47 = .ok (.bipush 64, 2) := by decide +kernel
theorem dL_furnished_49 : decode cL_furnished 49 = .ok (.iload_n 2, 1) := by decide +kernel
theorem dL_furnished_50 : decode cL_furnished 50 = .ok (.bipush 24, 2) := by decide +kernel
theorem dL_furnished_52 : decode cL_furnished 52 = .ok (.ishr, 1) := by decide +kernel
theorem dL_furnished_53 : decode cL_furnished 53 = .ok (.iconst 3, 1) := by decide +kernel
theorem dL_furnished_54 : decode cL_furnished 54 = .ok (.iand, 1) := by decide +kernel
theorem dL_furnished_55 : decode cL_furnished 55 = .ok (.iconst 3, 1) := by decide +kernel
theorem dL_furnished_56 : decode cL_furnished 56 = .ok (.irem, 1) := by decide +kernel
theorem dL_furnished_57 : decode cL_furnished 57 = .ok (.iastore, 1) := by decide +kernel
theorem dL_furnished_58 : decode cL_furnished 58 = .ok (.aload_n 1, 1) := by decide +kernel
theorem dL_furnished_59 : decode cL_furnished 59 = .ok (.bipush 71, 2) := by decide +kernel
theorem dL_furnished_61 : decode cL_furnished 61 = .ok (.iload_n 2, 1) := by decide +kernel
theorem dL_furnished_62 : decode cL_furnished 62 = .ok (.bipush 26, 2) := by decide +kernel
theorem dL_furnished_64 : decode cL_furnished 64 = .ok (.ishr, 1) := by decide +kernel
theorem dL_furnished_65 : decode cL_furnished 65 = .ok (.iconst 3, 1) := by decide +kernel
theorem dL_furnished_66 : decode cL_furnished 66 = .ok (.iand, 1) := by decide +kernel
theorem dL_furnished_67 : decode cL_furnished 67 = .ok (.iconst 3, 1) := by decide +kernel
theorem dL_furnished_68 : decode cL_furnished 68 = .ok (.irem, 1) := by decide +kernel
theorem dL_furnished_69 : decode cL_furnished 69 = .ok (.iastore, 1) := by decide +kernel
theorem dL_furnished_70 : decode cL_furnished 70 = .ok (.aload_n 1, 1) := by decide +kernel
theorem dL_furnished_71 : decode cL_furnished 71 = .ok (.bipush 82, 2) := by decide +kernel
theorem dL_furnished_73 : decode cL_furnished 73 = .ok (.iload_n 2, 1) := by decide +kernel
theorem dL_furnished_74 : decode cL_furnished 74 = .ok (.bipush 28, 2) := by decide +kernel
theorem dL_furnished_76 : decode cL_furnished 76 = .ok (.ishr, 1) := by decide +kernel
theorem dL_furnished_77 : decode cL_furnished 77 = .ok (.iconst 3, 1) := by decide +kernel
theorem dL_furnished_78 : decode cL_furnished 78 = .ok (.iand, 1) := by decide +kernel
theorem dL_furnished_79 : decode cL_furnished 79 = .ok (.iconst 3, 1) := by decide +kernel
theorem dL_furnished_80 : decode cL_furnished 80 = .ok (.irem, 1) := by decide +kernel
theorem dL_furnished_81 : decode cL_furnished 81 = .ok (.iastore, 1) := by decide +kernel
theorem dL_furnished_82 : decode cL_furnished 82 = .ok (.iconst 0, 1) := by decide +kernel
theorem dL_furnished_83 : decode cL_furnished 83 = .ok (.istore_n 3, 1) := by decide +kernel
theorem dL_furnished_84 : decode cL_furnished 84 = .ok (.iload_n 3, 1) := by decide +kernel
theorem dL_furnished_85 : decode cL_furnished 85 = .ok (.iconst 2, 1) := by decide +kernel
theorem dL_furnished_86 : decode cL_furnished 86 = .ok (.if_icmp .ge 235, 3) := by decide +kernel
theorem dL_furnished_89 : decode cL_furnished 89 = .ok (.aload_n 0, 1) := by decide +kernel
theorem dL_furnished_90 : decode cL_furnished 90 = .ok (.bipush 23, 2) := by decide +kernel
theorem dL_furnished_92 : decode cL_furnished 92 = .ok (.iconst 2, 1) := by decide +kernel
theorem dL_furnished_93 : decode cL_furnished 93 = .ok (.iload_n 3, 1) := by decide +kernel
theorem dL_furnished_94 : decode cL_furnished 94 = .ok (.imul, 1) := by decide +kernel
theorem dL_furnished_95 : decode cL_furnished 95 = .ok (.iadd, 1) := by decide +kernel
theorem dL_furnished_96 : decode cL_furnished 96 = .ok (.invokestatic 32, 3) := by decide +kernel
theorem dL_furnished_99 : decode cL_furnished 99 = .ok (.istore_n 2, 1) := by decide +kernel
theorem dL_furnished_100 : decode cL_furnished 100 = .ok (.aload_n 1, 1) := by decide +kernel
theorem dL_furnished_101 : decode cL_furnished 101 = .ok (.bipush 65, 2) := by decide +kernel
theorem dL_furnished_103 : decode cL_furnished 103 = .ok (.iconst 3, 1) := by decide +kernel
theorem dL_furnished_104 : decode cL_furnished 104 = .ok (.iload_n 3, 1) := by decide +kernel
theorem dL_furnished_105 : decode cL_furnished 105 = .ok (.imul, 1) := by decide +kernel
theorem dL_furnished_106 : decode cL_furnished 106 = .ok (.iadd, 1) := by decide +kernel
theorem dL_furnished_107 : decode cL_furnished 107 = .ok (.iload_n 2, 1) := by decide +kernel
theorem dL_furnished_108 : decode cL_furnished 108 = .ok (.iconst 3, 1) := by decide +kernel
theorem dL_furnished_109 : decode cL_furnished 109 = .ok (.iand, 1) := by decide +kernel
theorem dL_furnished_110 : decode cL_furnished 110 = .ok (.aload_n 1, 1) := by decide +kernel
theorem dL_furnished_111 : decode cL_furnished 111 = .ok (.bipush 6, 2) := by decide +kernel
theorem dL_furnished_113 : decode cL_furnished 113 = .ok (.iaload, 1) := by decide +kernel
theorem dL_furnished_114 : decode cL_furnished 114 = .ok (.irem, 1) := by decide +kernel
theorem dL_furnished_115 : decode cL_furnished 115 = .ok (.iastore, 1) := by decide +kernel
theorem dL_furnished_116 : decode cL_furnished 116 = .ok (.aload_n 1, 1) := by decide +kernel
theorem dL_furnished_117 : decode cL_furnished 117 = .ok (.bipush 66, 2) := by decide +kernel
theorem dL_furnished_119 : decode cL_furnished 119 = .ok (.iconst 3, 1) := by decide +kernel
theorem dL_furnished_120 : decode cL_furnished 120 = .ok (.iload_n 3, 1) := by decide +kernel
theorem dL_furnished_121 : decode cL_furnished 121 = .ok (.imul, 1) := by decide +kernel
theorem dL_furnished_122 : decode cL_furnished 122 = .ok (.iadd, 1) := by decide +kernel
theorem dL_furnished_123 : decode cL_furnished 123 = .ok (.iload_n 2, 1) := by decide +kernel
theorem dL_furnished_124 : decode cL_furnished 124 = .ok (.iconst 2, 1) := by decide +kernel
theorem dL_furnished_125 : decode cL_furnished 125 = .ok (.ishr, 1) := by decide +kernel
theorem dL_furnished_126 : decode cL_furnished 126 = .ok (.bipush 31, 2) := by decide +kernel
theorem dL_furnished_128 : decode cL_furnished 128 = .ok (.iand, 1) := by decide +kernel
theorem dL_furnished_129 : decode cL_furnished 129 = .ok (.iastore, 1) := by decide +kernel
theorem dL_furnished_130 : decode cL_furnished 130 = .ok (.aload_n 1, 1) := by decide +kernel
theorem dL_furnished_131 : decode cL_furnished 131 = .ok (.bipush 67, 2) := by decide +kernel
theorem dL_furnished_133 : decode cL_furnished 133 = .ok (.iconst 3, 1) := by decide +kernel
theorem dL_furnished_134 : decode cL_furnished 134 = .ok (.iload_n 3, 1) := by decide +kernel
theorem dL_furnished_135 : decode cL_furnished 135 = .ok (.imul, 1) := by decide +kernel
theorem dL_furnished_136 : decode cL_furnished 136 = .ok (.iadd, 1) := by decide +kernel
theorem dL_furnished_137 : decode cL_furnished 137 = .ok (.aload_n 1, 1) := by decide +kernel
theorem dL_furnished_138 : decode cL_furnished 138 = .ok (.bipush 66, 2) := by decide +kernel
theorem dL_furnished_140 : decode cL_furnished 140 = .ok (.iconst 3, 1) := by decide +kernel
theorem dL_furnished_141 : decode cL_furnished 141 = .ok (.iload_n 3, 1) := by decide +kernel
theorem dL_furnished_142 : decode cL_furnished 142 = .ok (.imul, 1) := by decide +kernel
theorem dL_furnished_143 : decode cL_furnished 143 = .ok (.iadd, 1) := by decide +kernel
theorem dL_furnished_144 : decode cL_furnished 144 = .ok (.iaload, 1) := by decide +kernel
theorem dL_furnished_145 : decode cL_furnished 145 = .ok (.iload_n 2, 1) := by decide +kernel
theorem dL_furnished_146 : decode cL_furnished 146 = .ok (.bipush 7, 2) := by decide +kernel
theorem dL_furnished_148 : decode cL_furnished 148 = .ok (.ishr, 1) := by decide +kernel
theorem dL_furnished_149 : decode cL_furnished 149 = .ok (.bipush 15, 2) := by decide +kernel
theorem dL_furnished_151 : decode cL_furnished 151 = .ok (.iand, 1) := by decide +kernel
theorem dL_furnished_152 : decode cL_furnished 152 = .ok (.iadd, 1) := by decide +kernel
theorem dL_furnished_153 : decode cL_furnished 153 = .ok (.iastore, 1) := by decide +kernel
theorem dL_furnished_154 : decode cL_furnished 154 = .ok (.aload_n 1, 1) := by decide +kernel
theorem dL_furnished_155 : decode cL_furnished 155 = .ok (.bipush 83, 2) := by decide +kernel
theorem dL_furnished_157 : decode cL_furnished 157 = .ok (.iconst 2, 1) := by decide +kernel
theorem dL_furnished_158 : decode cL_furnished 158 = .ok (.iload_n 3, 1) := by decide +kernel
theorem dL_furnished_159 : decode cL_furnished 159 = .ok (.imul, 1) := by decide +kernel
theorem dL_furnished_160 : decode cL_furnished 160 = .ok (.iadd, 1) := by decide +kernel
theorem dL_furnished_161 : decode cL_furnished 161 = .ok (.iload_n 2, 1) := by decide +kernel
theorem dL_furnished_162 : decode cL_furnished 162 = .ok (.bipush 11, 2) := by decide +kernel
theorem dL_furnished_164 : decode cL_furnished 164 = .ok (.ishr, 1) := by decide +kernel
theorem dL_furnished_165 : decode cL_furnished 165 = .ok (.bipush 7, 2) := by decide +kernel
theorem dL_furnished_167 : decode cL_furnished 167 = .ok (.iand, 1) := by decide +kernel
theorem dL_furnished_168 : decode cL_furnished 168 = .ok (.aload_n 1, 1) := by decide +kernel
theorem dL_furnished_169 : decode cL_furnished 169 = .ok (.iconst 1, 1) := by decide +kernel
theorem dL_furnished_170 : decode cL_furnished 170 = .ok (.iaload, 1) := by decide +kernel
theorem dL_furnished_171 : decode cL_furnished 171 = .ok (.irem, 1) := by decide +kernel
theorem dL_furnished_172 : decode cL_furnished 172 = .ok (.iastore, 1) := by decide +kernel
theorem dL_furnished_173 : decode cL_furnished 173 = .ok (.aload_n 1, 1) := by decide +kernel
theorem dL_furnished_174 : decode cL_furnished 174 = .ok (.bipush 84, 2) := by decide +kernel
theorem dL_furnished_176 : decode cL_furnished 176 = .ok (.iconst 2, 1) := by decide +kernel
theorem dL_furnished_177 : decode cL_furnished 177 = .ok (.iload_n 3, 1) := by decide +kernel
theorem dL_furnished_178 : decode cL_furnished 178 = .ok (.imul, 1) := by decide +kernel
theorem dL_furnished_179 : decode cL_furnished 179 = .ok (.iadd, 1) := by decide +kernel
theorem dL_furnished_180 : decode cL_furnished 180 = .ok (.iload_n 2, 1) := by decide +kernel
theorem dL_furnished_181 : decode cL_furnished 181 = .ok (.bipush 14, 2) := by decide +kernel
theorem dL_furnished_183 : decode cL_furnished 183 = .ok (.ishr, 1) := by decide +kernel
theorem dL_furnished_184 : decode cL_furnished 184 = .ok (.bipush 7, 2) := by decide +kernel
theorem dL_furnished_186 : decode cL_furnished 186 = .ok (.iand, 1) := by decide +kernel
theorem dL_furnished_187 : decode cL_furnished 187 = .ok (.aload_n 1, 1) := by decide +kernel
theorem dL_furnished_188 : decode cL_furnished 188 = .ok (.iconst 2, 1) := by decide +kernel
theorem dL_furnished_189 : decode cL_furnished 189 = .ok (.iaload, 1) := by decide +kernel
theorem dL_furnished_190 : decode cL_furnished 190 = .ok (.irem, 1) := by decide +kernel
theorem dL_furnished_191 : decode cL_furnished 191 = .ok (.iastore, 1) := by decide +kernel
theorem dL_furnished_192 : decode cL_furnished 192 = .ok (.aload_n 0, 1) := by decide +kernel
theorem dL_furnished_193 : decode cL_furnished 193 = .ok (.bipush 24, 2) := by decide +kernel
theorem dL_furnished_195 : decode cL_furnished 195 = .ok (.iconst 2, 1) := by decide +kernel
theorem dL_furnished_196 : decode cL_furnished 196 = .ok (.iload_n 3, 1) := by decide +kernel
theorem dL_furnished_197 : decode cL_furnished 197 = .ok (.imul, 1) := by decide +kernel
theorem dL_furnished_198 : decode cL_furnished 198 = .ok (.iadd, 1) := by decide +kernel
theorem dL_furnished_199 : decode cL_furnished 199 = .ok (.invokestatic 32, 3) := by decide +kernel
theorem dL_furnished_202 : decode cL_furnished 202 = .ok (.istore_n 2, 1) := by decide +kernel
theorem dL_furnished_203 : decode cL_furnished 203 = .ok (.bipush 72, 2) := by decide +kernel
theorem dL_furnished_205 : decode cL_furnished 205 = .ok (.iconst 5, 1) := by decide +kernel
theorem dL_furnished_206 : decode cL_furnished 206 = .ok (.iload_n 3, 1) := by decide +kernel
theorem dL_furnished_207 : decode cL_furnished 207 = .ok (.imul, 1) := by decide +kernel
theorem dL_furnished_208 : decode cL_furnished 208 = .ok (.iadd, 1) := by decide +kernel
theorem dL_furnished_209 : decode cL_furnished 209 = .ok (.istore 4, 2) := by decide +kernel
theorem dL_furnished_211 : decode cL_furnished 211 = .ok (.aload_n 1, 1) := by decide +kernel
theorem dL_furnished_212 : decode cL_furnished 212 = .ok (.iload 4, 2) := by decide +kernel
theorem dL_furnished_214 : decode cL_furnished 214 = .ok (.iload_n 2, 1) := by decide +kernel
theorem dL_furnished_215 : decode cL_furnished 215 = .ok (.bipush 7, 2) := by decide +kernel
theorem dL_furnished_217 : decode cL_furnished 217 = .ok (.iand, 1) := by decide +kernel
theorem dL_furnished_218 : decode cL_furnished 218 = .ok (.aload_n 1, 1) := by decide +kernel
theorem dL_furnished_219 : decode cL_furnished 219 = .ok (.iconst 1, 1) := by decide +kernel
theorem dL_furnished_220 : decode cL_furnished 220 = .ok (.iaload, 1) := by decide +kernel
theorem dL_furnished_221 : decode cL_furnished 221 = .ok (.irem, 1) := by decide +kernel
theorem dL_furnished_222 : decode cL_furnished 222 = .ok (.iastore, 1) := by decide +kernel
theorem dL_furnished_223 : decode cL_furnished 223 = .ok (.aload_n 1, 1) := by decide +kernel
theorem dL_furnished_224 : decode cL_furnished 224 = .ok (.iload 4, 2) := by decide +kernel
theorem dL_furnished_226 : decode cL_furnished 226 = .ok (.iconst 1, 1) := by decide +kernel
theorem dL_furnished_227 : decode cL_furnished 227 = .ok (.iadd, 1) := by decide +kernel
theorem dL_furnished_228 : decode cL_furnished 228 = .ok (.iload_n 2, 1) := by decide +kernel
theorem dL_furnished_229 : decode cL_furnished 229 = .ok (.iconst 3, 1) := by decide +kernel
theorem dL_furnished_230 : decode cL_furnished 230 = .ok (.ishr, 1) := by decide +kernel
theorem dL_furnished_231 : decode cL_furnished 231 = .ok (.bipush 7, 2) := by decide +kernel
theorem dL_furnished_233 : decode cL_furnished 233 = .ok (.iand, 1) := by decide +kernel
theorem dL_furnished_234 : decode cL_furnished 234 = .ok (.aload_n 1, 1) := by decide +kernel
theorem dL_furnished_235 : decode cL_furnished 235 = .ok (.iconst 2, 1) := by decide +kernel
theorem dL_furnished_236 : decode cL_furnished 236 = .ok (.iaload, 1) := by decide +kernel
theorem dL_furnished_237 : decode cL_furnished 237 = .ok (.irem, 1) := by decide +kernel
theorem dL_furnished_238 : decode cL_furnished 238 = .ok (.iastore, 1) := by decide +kernel
theorem dL_furnished_239 : decode cL_furnished 239 = .ok (.aload_n 1, 1) := by decide +kernel
theorem dL_furnished_240 : decode cL_furnished 240 = .ok (.iload 4, 2) := by decide +kernel
theorem dL_furnished_242 : decode cL_furnished 242 = .ok (.iconst 2, 1) := by decide +kernel
theorem dL_furnished_243 : decode cL_furnished 243 = .ok (.iadd, 1) := by decide +kernel
theorem dL_furnished_244 : decode cL_furnished 244 = .ok (.aload_n 1, 1) := by decide +kernel
theorem dL_furnished_245 : decode cL_furnished 245 = .ok (.iload 4, 2) := by decide +kernel
theorem dL_furnished_247 : decode cL_furnished 247 = .ok (.iaload, 1) := by decide +kernel
theorem dL_furnished_248 : decode cL_furnished 248 = .ok (.iload_n 2, 1) := by decide +kernel
theorem dL_furnished_249 : decode cL_furnished 249 = .ok (.bipush 6, 2) := by decide +kernel
theorem dL_furnished_251 : decode cL_furnished 251 = .ok (.ishr, 1) := by decide +kernel
theorem dL_furnished_252 : decode cL_furnished 252 = .ok (.bipush 7, 2) := by decide +kernel
theorem dL_furnished_254 : decode cL_furnished 254 = .ok (.iand, 1) := by decide +kernel
theorem dL_furnished_255 : decode cL_furnished 255 = .ok (.aload_n 1, 1) := by decide +kernel
theorem dL_furnished_256 : decode cL_furnished 256 = .ok (.iconst 1, 1) := by decide +kernel
theorem dL_furnished_257 : decode cL_furnished 257 = .ok (.iaload, 1) := by decide +kernel
theorem dL_furnished_258 : decode cL_furnished 258 = .ok (.aload_n 1, 1) := by decide +kernel
theorem dL_furnished_259 : decode cL_furnished 259 = .ok (.iload 4, 2) := by decide +kernel
theorem dL_furnished_261 : decode cL_furnished 261 = .ok (.iaload, 1) := by decide +kernel
theorem dL_furnished_262 : decode cL_furnished 262 = .ok (.isub, 1) := by decide +kernel
theorem dL_furnished_263 : decode cL_furnished 263 = .ok (.irem, 1) := by decide +kernel
theorem dL_furnished_264 : decode cL_furnished 264 = .ok (.iadd, 1) := by decide +kernel
theorem dL_furnished_265 : decode cL_furnished 265 = .ok (.iastore, 1) := by decide +kernel
theorem dL_furnished_266 : decode cL_furnished 266 = .ok (.aload_n 1, 1) := by decide +kernel
theorem dL_furnished_267 : decode cL_furnished 267 = .ok (.iload 4, 2) := by decide +kernel
theorem dL_furnished_269 : decode cL_furnished 269 = .ok (.iconst 3, 1) := by decide +kernel
theorem dL_furnished_270 : decode cL_furnished 270 = .ok (.iadd, 1) := by decide +kernel
theorem dL_furnished_271 : decode cL_furnished 271 = .ok (.aload_n 1, 1) := by decide +kernel
theorem dL_furnished_272 : decode cL_furnished 272 = .ok (.iload 4, 2) := by decide +kernel
theorem dL_furnished_274 : decode cL_furnished 274 = .ok (.iconst 1, 1) := by decide +kernel
theorem dL_furnished_275 : decode cL_furnished 275 = .ok (.iadd, 1) := by decide +kernel
theorem dL_furnished_276 : decode cL_furnished 276 = .ok (.iaload, 1) := by decide +kernel
theorem dL_furnished_277 : decode cL_furnished 277 = .ok (.iload_n 2, 1) := by decide +kernel
theorem dL_furnished_278 : decode cL_furnished 278 = .ok (.bipush 9, 2) := by decide +kernel
theorem dL_furnished_280 : decode cL_furnished 280 = .ok (.ishr, 1) := by decide +kernel
theorem dL_furnished_281 : decode cL_furnished 281 = .ok (.bipush 7, 2) := by decide +kernel
theorem dL_furnished_283 : decode cL_furnished 283 = .ok (.iand, 1) := by decide +kernel
theorem dL_furnished_284 : decode cL_furnished 284 = .ok (.aload_n 1, 1) := by decide +kernel
theorem dL_furnished_285 : decode cL_furnished 285 = .ok (.iconst 2, 1) := by decide +kernel
theorem dL_furnished_286 : decode cL_furnished 286 = .ok (.iaload, 1) := by decide +kernel
theorem dL_furnished_287 : decode cL_furnished 287 = .ok (.aload_n 1, 1) := by decide +kernel
theorem dL_furnished_288 : decode cL_furnished 288 = .ok (.iload 4, 2) := by decide +kernel
theorem dL_furnished_290 : decode cL_furnished 290 = .ok (.iconst 1, 1) := by decide +kernel
theorem dL_furnished_291 : decode cL_furnished 291 = .ok (.iadd, 1) := by decide +kernel
theorem dL_furnished_292 : decode cL_furnished 292 = .ok (.iaload, 1) := by decide +kernel
theorem dL_furnished_293 : decode cL_furnished 293 = .ok (.isub, 1) := by decide +kernel
theorem dL_furnished_294 : decode cL_furnished 294 = .ok (.irem, 1) := by decide +kernel
theorem dL_furnished_295 : decode cL_furnished 295 = .ok (.iadd, 1) := by decide +kernel
theorem dL_furnished_296 : decode cL_furnished 296 = .ok (.iastore, 1) := by decide +kernel
theorem dL_furnished_297 : decode cL_furnished 297 = .ok (.aload_n 1, 1) := by decide +kernel
theorem dL_furnished_298 : decode cL_furnished 298 = .ok (.iload 4, 2) := by decide +kernel
theorem dL_furnished_300 : decode cL_furnished 300 = .ok (.iconst 4, 1) := by decide +kernel
theorem dL_furnished_301 : decode cL_furnished 301 = .ok (.iadd, 1) := by decide +kernel
theorem dL_furnished_302 : decode cL_furnished 302 = .ok (.iload_n 2, 1) := by decide +kernel
theorem dL_furnished_303 : decode cL_furnished 303 = .ok (.bipush 12, 2) := by decide +kernel
theorem dL_furnished_305 : decode cL_furnished 305 = .ok (.ishr, 1) := by decide +kernel
theorem dL_furnished_306 : decode cL_furnished 306 = .ok (.sipush 255, 3) := by decide +kernel
theorem dL_furnished_309 : decode cL_furnished 309 = .ok (.iand, 1) := by decide +kernel
theorem dL_furnished_310 : decode cL_furnished 310 = .ok (.sipush 201, 3) := by decide +kernel
theorem dL_furnished_313 : decode cL_furnished 313 = .ok (.irem, 1) := by decide +kernel
theorem dL_furnished_314 : decode cL_furnished 314 = .ok (.iastore, 1) := by decide +kernel
theorem dL_furnished_315 : decode cL_furnished 315 = .ok (.iinc 3 1, 3) := by decide +kernel
