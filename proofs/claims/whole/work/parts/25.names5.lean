theorem dJ9_max_7cf53_0 : decode cJ9_max_7cf53 0 = .ok (.iload_n 0, 1) := by decide +kernel
theorem dJ9_max_7cf53_1 : decode cJ9_max_7cf53 1 = .ok (.iload_n 1, 1) := by decide +kernel
theorem dJ9_max_7cf53_2 : decode cJ9_max_7cf53 2 = .ok (.if_icmp .lt 7, 3) := by decide +kernel
theorem dJ9_max_7cf53_5 : decode cJ9_max_7cf53 5 = .ok (.iload_n 0, 1) := by decide +kernel
theorem dJ9_max_7cf53_6 : decode cJ9_max_7cf53 6 = .ok (.goto 4, 3) := by decide +kernel
theorem dJ9_max_7cf53_9 : decode cJ9_max_7cf53 9 = .ok (.iload_n 1, 1) := by decide +kernel
theorem dJ9_max_7cf53_10 : decode cJ9_max_7cf53 10 = .ok (.ireturn, 1) := by decide +kernel
theorem dJ9_min_7cf53_0 : decode cJ9_min_7cf53 0 = .ok (.iload_n 0, 1) := by decide +kernel
theorem dJ9_min_7cf53_1 : decode cJ9_min_7cf53 1 = .ok (.iload_n 1, 1) := by decide +kernel
theorem dJ9_min_7cf53_2 : decode cJ9_min_7cf53 2 = .ok (.if_icmp .gt 7, 3) := by decide +kernel
theorem dJ9_min_7cf53_5 : decode cJ9_min_7cf53 5 = .ok (.iload_n 0, 1) := by decide +kernel
theorem dJ9_min_7cf53_6 : decode cJ9_min_7cf53 6 = .ok (.goto 4, 3) := by decide +kernel
theorem dJ9_min_7cf53_9 : decode cJ9_min_7cf53 9 = .ok (.iload_n 1, 1) := by decide +kernel
theorem dJ9_min_7cf53_10 : decode cJ9_min_7cf53 10 = .ok (.ireturn, 1) := by decide +kernel
set_option maxRecDepth 20000 in
theorem ggJ0_length_8abf5_J0_coder_7d493 : GoodIn wsJ0_length_8abf5 wsJ0_coder_7d493 := goodIn_r _ [6, 7, 8] (by decide +kernel) (by decide +kernel)
set_option maxRecDepth 20000 in
theorem gJ0_length_8abf5_J0_coder_7d493 : GoodIn wsJ0_length_8abf5 (wsV RJ0 335 RJ0 yJ0_coder_7d493 wsJ0_coder_7d493) := goodIn_app (goodIn_of _ (by decide +kernel)) ggJ0_length_8abf5_J0_coder_7d493
theorem dJ0_length_8abf5_0 : decode cJ0_length_8abf5 0 = .ok (.aload_n 0, 1) := by decide +kernel
theorem dJ0_length_8abf5_1 : decode cJ0_length_8abf5 1 = .ok (.getfield 9, 3) := by decide +kernel
theorem dJ0_length_8abf5_4 : decode cJ0_length_8abf5 4 = .ok (.arraylength, 1) := by decide +kernel
theorem dJ0_length_8abf5_5 : decode cJ0_length_8abf5 5 = .ok (.aload_n 0, 1) := by decide +kernel
theorem dJ0_length_8abf5_6 : decode cJ0_length_8abf5 6 = .ok (.invokevirtual 335, 3) := by decide +kernel
theorem dJ0_length_8abf5_9 : decode cJ0_length_8abf5 9 = .ok (.ishr, 1) := by decide +kernel
theorem dJ0_length_8abf5_10 : decode cJ0_length_8abf5 10 = .ok (.ireturn, 1) := by decide +kernel
set_option maxRecDepth 20000 in
theorem ggJ0_charAt_5068e_J0_isLatin1_aae02 : GoodIn wsJ0_charAt_5068e wsJ0_isLatin1_aae02 := goodIn_r _ [6, 7, 8] (by decide +kernel) (by decide +kernel)
set_option maxRecDepth 20000 in
theorem gJ0_charAt_5068e_J0_isLatin1_aae02 : GoodIn wsJ0_charAt_5068e (wsV RJ0 492 RJ0 yJ0_isLatin1_aae02 wsJ0_isLatin1_aae02) := goodIn_app (goodIn_of _ (by decide +kernel)) ggJ0_charAt_5068e_J0_isLatin1_aae02
set_option maxRecDepth 20000 in
theorem ggJ0_charAt_5068e_J1_charAt_3b067 : GoodIn wsJ0_charAt_5068e wsJ1_charAt_3b067 := goodIn_r _ [12, 13, 14, 5, 15, 16, 17, 18, 19, 20] (by decide +kernel) (by decide +kernel)
set_option maxRecDepth 20000 in
theorem gJ0_charAt_5068e_J1_charAt_3b067 : GoodIn wsJ0_charAt_5068e (va_wsS RJ0 495 yJ1_charAt_3b067 wsJ1_charAt_3b067) := goodIn_app (goodIn_of _ (by decide +kernel)) ggJ0_charAt_5068e_J1_charAt_3b067
set_option maxRecDepth 20000 in
theorem ggJ0_charAt_5068e_J2_charAt_3b067 : GoodIn wsJ0_charAt_5068e wsJ2_charAt_3b067 := goodIn_r _ [24, 25, 26, 23, 27, 28, 29, 30, 31, 14, 5, 15, 16, 17, 18, 19, 20, 32, 33, 34, 35, 36, 37] (by decide +kernel) (by decide +kernel)
set_option maxRecDepth 20000 in
theorem gJ0_charAt_5068e_J2_charAt_3b067 : GoodIn wsJ0_charAt_5068e (va_wsS RJ0 498 yJ2_charAt_3b067 wsJ2_charAt_3b067) := goodIn_app (goodIn_of _ (by decide +kernel)) ggJ0_charAt_5068e_J2_charAt_3b067
theorem dJ0_charAt_5068e_0 : decode cJ0_charAt_5068e 0 = .ok (.aload_n 0, 1) := by decide +kernel
theorem dJ0_charAt_5068e_1 : decode cJ0_charAt_5068e 1 = .ok (.invokevirtual 492, 3) := by decide +kernel
theorem dJ0_charAt_5068e_4 : decode cJ0_charAt_5068e 4 = .ok (.ifCond .eq 12, 3) := by decide +kernel
theorem dJ0_charAt_5068e_7 : decode cJ0_charAt_5068e 7 = .ok (.aload_n 0, 1) := by decide +kernel
theorem dJ0_charAt_5068e_8 : decode cJ0_charAt_5068e 8 = .ok (.getfield 9, 3) := by decide +kernel
theorem dJ0_charAt_5068e_11 : decode cJ0_charAt_5068e 11 = .ok (.iload_n 1, 1) := by decide +kernel
theorem dJ0_charAt_5068e_12 : decode cJ0_charAt_5068e 12 = .ok (.invokestatic 495, 3) := by decide +kernel
theorem dJ0_charAt_5068e_15 : decode cJ0_charAt_5068e 15 = .ok (.ireturn, 1) := by decide +kernel
theorem dJ0_charAt_5068e_16 : decode cJ0_charAt_5068e 16 = .ok (.aload_n 0, 1) := by decide +kernel
theorem dJ0_charAt_5068e_17 : decode cJ0_charAt_5068e 17 = .ok (.getfield 9, 3) := by decide +kernel
theorem dJ0_charAt_5068e_20 : decode cJ0_charAt_5068e 20 = .ok (.iload_n 1, 1) := by decide +kernel
theorem dJ0_charAt_5068e_21 : decode cJ0_charAt_5068e 21 = .ok (.invokestatic 498, 3) := by decide +kernel
theorem dJ0_charAt_5068e_24 : decode cJ0_charAt_5068e 24 = .ok (.ireturn, 1) := by decide +kernel
theorem dJ0_coder_7d493_0 : decode cJ0_coder_7d493 0 = .ok (.getstatic 38, 3) := by decide +kernel
theorem dJ0_coder_7d493_3 : decode cJ0_coder_7d493 3 = .ok (.ifCond .eq 10, 3) := by decide +kernel
theorem dJ0_coder_7d493_6 : decode cJ0_coder_7d493 6 = .ok (.aload_n 0, 1) := by decide +kernel
theorem dJ0_coder_7d493_7 : decode cJ0_coder_7d493 7 = .ok (.getfield 15, 3) := by decide +kernel
theorem dJ0_coder_7d493_10 : decode cJ0_coder_7d493 10 = .ok (.goto 4, 3) := by decide +kernel
theorem dJ0_coder_7d493_13 : decode cJ0_coder_7d493 13 = .ok (.iconst 1, 1) := by decide +kernel
theorem dJ0_coder_7d493_14 : decode cJ0_coder_7d493 14 = .ok (.ireturn, 1) := by decide +kernel
theorem dJ0_isLatin1_aae02_0 : decode cJ0_isLatin1_aae02 0 = .ok (.getstatic 38, 3) := by decide +kernel
theorem dJ0_isLatin1_aae02_3 : decode cJ0_isLatin1_aae02 3 = .ok (.ifCond .eq 14, 3) := by decide +kernel
theorem dJ0_isLatin1_aae02_6 : decode cJ0_isLatin1_aae02 6 = .ok (.aload_n 0, 1) := by decide +kernel
theorem dJ0_isLatin1_aae02_7 : decode cJ0_isLatin1_aae02 7 = .ok (.getfield 15, 3) := by decide +kernel
theorem dJ0_isLatin1_aae02_10 : decode cJ0_isLatin1_aae02 10 = .ok (.ifCond .ne 7, 3) := by decide +kernel
theorem dJ0_isLatin1_aae02_13 : decode cJ0_isLatin1_aae02 13 = .ok (.iconst 1, 1) := by decide +kernel
theorem dJ0_isLatin1_aae02_14 : decode cJ0_isLatin1_aae02 14 = .ok (.goto 4, 3) := by decide +kernel
theorem dJ0_isLatin1_aae02_17 : decode cJ0_isLatin1_aae02 17 = .ok (.iconst 0, 1) := by decide +kernel
theorem dJ0_isLatin1_aae02_18 : decode cJ0_isLatin1_aae02 18 = .ok (.ireturn, 1) := by decide +kernel
set_option maxRecDepth 20000 in
theorem ggJ0_checkIndex_df160_J3_checkIndex_8e157 : GoodIn wsJ0_checkIndex_df160 wsJ3_checkIndex_8e157 := goodIn_r _ [5] (by decide +kernel) (by decide +kernel)
set_option maxRecDepth 20000 in
theorem gJ0_checkIndex_df160_J3_checkIndex_8e157 : GoodIn wsJ0_checkIndex_df160 (va_wsS RJ0 1059 yJ3_checkIndex_8e157 wsJ3_checkIndex_8e157) := goodIn_app (goodIn_of _ (by decide +kernel)) ggJ0_checkIndex_df160_J3_checkIndex_8e157
theorem dJ0_checkIndex_df160_0 : decode cJ0_checkIndex_df160 0 = .ok (.iload_n 0, 1) := by decide +kernel
theorem dJ0_checkIndex_df160_1 : decode cJ0_checkIndex_df160 1 = .ok (.iload_n 1, 1) := by decide +kernel
theorem dJ0_checkIndex_df160_2 : decode cJ0_checkIndex_df160 2 = .ok (.getstatic 1053, 3) := by decide +kernel
theorem dJ0_checkIndex_df160_5 : decode cJ0_checkIndex_df160 5 = .ok (.invokestatic 1059, 3) := by decide +kernel
theorem dJ0_checkIndex_df160_8 : decode cJ0_checkIndex_df160 8 = .ok (.pop, 1) := by decide +kernel
theorem dJ0_checkIndex_df160_9 : decode cJ0_checkIndex_df160 9 = .ok (.return_, 1) := by decide +kernel
set_option maxRecDepth 20000 in
theorem ggJ1_charAt_3b067_J0_checkIndex_df160 : GoodIn wsJ1_charAt_3b067 wsJ0_checkIndex_df160 := goodIn_r _ [4, 5, 6, 7, 8, 9] (by decide +kernel) (by decide +kernel)
set_option maxRecDepth 20000 in
theorem gJ1_charAt_3b067_J0_checkIndex_df160 : GoodIn wsJ1_charAt_3b067 (va_wsS RJ1 9 yJ0_checkIndex_df160 wsJ0_checkIndex_df160) := goodIn_app (goodIn_of _ (by decide +kernel)) ggJ1_charAt_3b067_J0_checkIndex_df160
theorem dJ1_charAt_3b067_0 : decode cJ1_charAt_3b067 0 = .ok (.iload_n 1, 1) := by decide +kernel
theorem dJ1_charAt_3b067_1 : decode cJ1_charAt_3b067 1 = .ok (.aload_n 0, 1) := by decide +kernel
theorem dJ1_charAt_3b067_2 : decode cJ1_charAt_3b067 2 = .ok (.arraylength, 1) := by decide +kernel
theorem dJ1_charAt_3b067_3 : decode cJ1_charAt_3b067 3 = .ok (.invokestatic 9, 3) := by decide +kernel
theorem dJ1_charAt_3b067_6 : decode cJ1_charAt_3b067 6 = .ok (.aload_n 0, 1) := by decide +kernel
theorem dJ1_charAt_3b067_7 : decode cJ1_charAt_3b067 7 = .ok (.iload_n 1, 1) := by decide +kernel
theorem dJ1_charAt_3b067_8 : decode cJ1_charAt_3b067 8 = .ok (.baload, 1) := by decide +kernel
theorem dJ1_charAt_3b067_9 : decode cJ1_charAt_3b067 9 = .ok (.sipush 255, 3) := by decide +kernel
theorem dJ1_charAt_3b067_12 : decode cJ1_charAt_3b067 12 = .ok (.iand, 1) := by decide +kernel
theorem dJ1_charAt_3b067_13 : decode cJ1_charAt_3b067 13 = .ok (.i2c, 1) := by decide +kernel
theorem dJ1_charAt_3b067_14 : decode cJ1_charAt_3b067 14 = .ok (.ireturn, 1) := by decide +kernel
set_option maxRecDepth 20000 in
theorem ggJ2_getChar_3b067_J2_length_9d52b : GoodIn wsJ2_getChar_3b067 wsJ2_length_9d52b := goodIn_r _ [7] (by decide +kernel) (by decide +kernel)
set_option maxRecDepth 20000 in
theorem gJ2_getChar_3b067_J2_length_9d52b : GoodIn wsJ2_getChar_3b067 (va_wsS RJ2 48 yJ2_length_9d52b wsJ2_length_9d52b) := goodIn_app (goodIn_of _ (by decide +kernel)) ggJ2_getChar_3b067_J2_length_9d52b
theorem dJ2_getChar_3b067_0 : decode cJ2_getChar_3b067 0 = .ok (.getstatic 44, 3) := by decide +kernel
theorem dJ2_getChar_3b067_3 : decode cJ2_getChar_3b067 3 = .ok (.ifCond .ne 25, 3) := by decide +kernel
theorem dJ2_getChar_3b067_6 : decode cJ2_getChar_3b067 6 = .ok (.iload_n 1, 1) := by decide +kernel
theorem dJ2_getChar_3b067_7 : decode cJ2_getChar_3b067 7 = .ok (.ifCond .lt 11, 3) := by decide +kernel
theorem dJ2_getChar_3b067_10 : decode cJ2_getChar_3b067 10 = .ok (.iload_n 1, 1) := by decide +kernel
theorem dJ2_getChar_3b067_11 : decode cJ2_getChar_3b067 11 = .ok (.aload_n 0, 1) := by decide +kernel
theorem dJ2_getChar_3b067_12 : decode cJ2_getChar_3b067 12 = .ok (.invokestatic 48, 3) := by decide +kernel
theorem dJ2_getChar_3b067_15 : decode cJ2_getChar_3b067 15 = .ok (.if_icmp .lt 13, 3) := by decide +kernel
theorem dJ2_getChar_3b067_18 : decode cJ2_getChar_3b067 18 = .ok (.new 52, 3) := by decide +kernel
theorem dJ2_getChar_3b067_21 : decode cJ2_getChar_3b067 21 = .ok (.dup, 1) := by decide +kernel
theorem dJ2_getChar_3b067_22 : decode cJ2_getChar_3b067 22 = .ok (.ldc 54, 2) := by decide +kernel
theorem dJ2_getChar_3b067_24 : decode cJ2_getChar_3b067 24 = .ok (.invokespecial 56, 3) := by decide +kernel
theorem dJ2_getChar_3b067_27 : decode cJ2_getChar_3b067 27 = .ok (.athrow, 1) := by decide +kernel
theorem dJ2_getChar_3b067_28 : decode cJ2_getChar_3b067 28 = .ok (.iload_n 1, 1) := by decide +kernel
theorem dJ2_getChar_3b067_29 : decode cJ2_getChar_3b067 29 = .ok (.iconst 1, 1) := by decide +kernel
theorem dJ2_getChar_3b067_30 : decode cJ2_getChar_3b067 30 = .ok (.ishl, 1) := by decide +kernel
theorem dJ2_getChar_3b067_31 : decode cJ2_getChar_3b067 31 = .ok (.istore_n 1, 1) := by decide +kernel
theorem dJ2_getChar_3b067_32 : decode cJ2_getChar_3b067 32 = .ok (.aload_n 0, 1) := by decide +kernel
theorem dJ2_getChar_3b067_33 : decode cJ2_getChar_3b067 33 = .ok (.iload_n 1, 1) := by decide +kernel
theorem dJ2_getChar_3b067_34 : decode cJ2_getChar_3b067 34 = .ok (.iinc 1 1, 3) := by decide +kernel
theorem dJ2_getChar_3b067_37 : decode cJ2_getChar_3b067 37 = .ok (.baload, 1) := by decide +kernel
theorem dJ2_getChar_3b067_38 : decode cJ2_getChar_3b067 38 = .ok (.sipush 255, 3) := by decide +kernel
theorem dJ2_getChar_3b067_41 : decode cJ2_getChar_3b067 41 = .ok (.iand, 1) := by decide +kernel
theorem dJ2_getChar_3b067_42 : decode cJ2_getChar_3b067 42 = .ok (.getstatic 59, 3) := by decide +kernel
theorem dJ2_getChar_3b067_45 : decode cJ2_getChar_3b067 45 = .ok (.ishl, 1) := by decide +kernel
theorem dJ2_getChar_3b067_46 : decode cJ2_getChar_3b067 46 = .ok (.aload_n 0, 1) := by decide +kernel
theorem dJ2_getChar_3b067_47 : decode cJ2_getChar_3b067 47 = .ok (.iload_n 1, 1) := by decide +kernel
theorem dJ2_getChar_3b067_48 : decode cJ2_getChar_3b067 48 = .ok (.baload, 1) := by decide +kernel
theorem dJ2_getChar_3b067_49 : decode cJ2_getChar_3b067 49 = .ok (.sipush 255, 3) := by decide +kernel
theorem dJ2_getChar_3b067_52 : decode cJ2_getChar_3b067 52 = .ok (.iand, 1) := by decide +kernel
theorem dJ2_getChar_3b067_53 : decode cJ2_getChar_3b067 53 = .ok (.getstatic 63, 3) := by decide +kernel
theorem dJ2_getChar_3b067_56 : decode cJ2_getChar_3b067 56 = .ok (.ishl, 1) := by decide +kernel
theorem dJ2_getChar_3b067_57 : decode cJ2_getChar_3b067 57 = .ok (.ior, 1) := by decide +kernel
theorem dJ2_getChar_3b067_58 : decode cJ2_getChar_3b067 58 = .ok (.i2c, 1) := by decide +kernel
theorem dJ2_getChar_3b067_59 : decode cJ2_getChar_3b067 59 = .ok (.ireturn, 1) := by decide +kernel
theorem dJ2_length_9d52b_0 : decode cJ2_length_9d52b 0 = .ok (.aload_n 0, 1) := by decide +kernel
theorem dJ2_length_9d52b_1 : decode cJ2_length_9d52b 1 = .ok (.arraylength, 1) := by decide +kernel
theorem dJ2_length_9d52b_2 : decode cJ2_length_9d52b 2 = .ok (.iconst 1, 1) := by decide +kernel
theorem dJ2_length_9d52b_3 : decode cJ2_length_9d52b 3 = .ok (.ishr, 1) := by decide +kernel
theorem dJ2_length_9d52b_4 : decode cJ2_length_9d52b 4 = .ok (.ireturn, 1) := by decide +kernel
set_option maxRecDepth 20000 in
theorem ggJ2_charAt_3b067_J2_checkIndex_2214a : GoodIn wsJ2_charAt_3b067 wsJ2_checkIndex_2214a := goodIn_r _ [4, 5, 6, 3, 7, 8, 9, 10, 11, 12, 13, 14, 15, 16] (by decide +kernel) (by decide +kernel)
set_option maxRecDepth 20000 in
theorem gJ2_charAt_3b067_J2_checkIndex_2214a : GoodIn wsJ2_charAt_3b067 (va_wsS RJ2 67 yJ2_checkIndex_2214a wsJ2_checkIndex_2214a) := goodIn_app (goodIn_of _ (by decide +kernel)) ggJ2_charAt_3b067_J2_checkIndex_2214a
set_option maxRecDepth 20000 in
theorem ggJ2_charAt_3b067_J2_getChar_3b067 : GoodIn wsJ2_charAt_3b067 wsJ2_getChar_3b067 := goodIn_r _ [19, 20, 21, 22, 5, 6, 3, 7] (by decide +kernel) (by decide +kernel)
set_option maxRecDepth 20000 in
theorem gJ2_charAt_3b067_J2_getChar_3b067 : GoodIn wsJ2_charAt_3b067 (va_wsS RJ2 71 yJ2_getChar_3b067 wsJ2_getChar_3b067) := goodIn_app (goodIn_of _ (by decide +kernel)) ggJ2_charAt_3b067_J2_getChar_3b067
theorem dJ2_charAt_3b067_0 : decode cJ2_charAt_3b067 0 = .ok (.iload_n 1, 1) := by decide +kernel
theorem dJ2_charAt_3b067_1 : decode cJ2_charAt_3b067 1 = .ok (.aload_n 0, 1) := by decide +kernel
theorem dJ2_charAt_3b067_2 : decode cJ2_charAt_3b067 2 = .ok (.invokestatic 67, 3) := by decide +kernel
theorem dJ2_charAt_3b067_5 : decode cJ2_charAt_3b067 5 = .ok (.aload_n 0, 1) := by decide +kernel
theorem dJ2_charAt_3b067_6 : decode cJ2_charAt_3b067 6 = .ok (.iload_n 1, 1) := by decide +kernel
theorem dJ2_charAt_3b067_7 : decode cJ2_charAt_3b067 7 = .ok (.invokestatic 71, 3) := by decide +kernel
theorem dJ2_charAt_3b067_10 : decode cJ2_charAt_3b067 10 = .ok (.ireturn, 1) := by decide +kernel
set_option maxRecDepth 20000 in
theorem ggJ2_checkIndex_2214a_J2_length_9d52b : GoodIn wsJ2_checkIndex_2214a wsJ2_length_9d52b := goodIn_r _ [4] (by decide +kernel) (by decide +kernel)
set_option maxRecDepth 20000 in
theorem gJ2_checkIndex_2214a_J2_length_9d52b : GoodIn wsJ2_checkIndex_2214a (va_wsS RJ2 48 yJ2_length_9d52b wsJ2_length_9d52b) := goodIn_app (goodIn_of _ (by decide +kernel)) ggJ2_checkIndex_2214a_J2_length_9d52b
set_option maxRecDepth 20000 in
theorem ggJ2_checkIndex_2214a_J0_checkIndex_df160 : GoodIn wsJ2_checkIndex_2214a wsJ0_checkIndex_df160 := goodIn_r _ [8, 9, 10, 11, 12, 13] (by decide +kernel) (by decide +kernel)
set_option maxRecDepth 20000 in
theorem gJ2_checkIndex_2214a_J0_checkIndex_df160 : GoodIn wsJ2_checkIndex_2214a (va_wsS RJ2 414 yJ0_checkIndex_df160 wsJ0_checkIndex_df160) := goodIn_app (goodIn_of _ (by decide +kernel)) ggJ2_checkIndex_2214a_J0_checkIndex_df160
theorem dJ2_checkIndex_2214a_0 : decode cJ2_checkIndex_2214a 0 = .ok (.iload_n 0, 1) := by decide +kernel
theorem dJ2_checkIndex_2214a_1 : decode cJ2_checkIndex_2214a 1 = .ok (.aload_n 1, 1) := by decide +kernel
theorem dJ2_checkIndex_2214a_2 : decode cJ2_checkIndex_2214a 2 = .ok (.invokestatic 48, 3) := by decide +kernel
theorem dJ2_checkIndex_2214a_5 : decode cJ2_checkIndex_2214a 5 = .ok (.invokestatic 414, 3) := by decide +kernel
theorem dJ2_checkIndex_2214a_8 : decode cJ2_checkIndex_2214a 8 = .ok (.return_, 1) := by decide +kernel
theorem dJ3_checkIndex_8e157_0 : decode cJ3_checkIndex_8e157 0 = .ok (.iload_n 0, 1) := by decide +kernel
theorem dJ3_checkIndex_8e157_1 : decode cJ3_checkIndex_8e157 1 = .ok (.ifCond .lt 8, 3) := by decide +kernel
theorem dJ3_checkIndex_8e157_4 : decode cJ3_checkIndex_8e157 4 = .ok (.iload_n 0, 1) := by decide +kernel
theorem dJ3_checkIndex_8e157_5 : decode cJ3_checkIndex_8e157 5 = .ok (.iload_n 1, 1) := by decide +kernel
theorem dJ3_checkIndex_8e157_6 : decode cJ3_checkIndex_8e157 6 = .ok (.if_icmp .lt 10, 3) := by decide +kernel
theorem dJ3_checkIndex_8e157_9 : decode cJ3_checkIndex_8e157 9 = .ok (.aload_n 2, 1) := by decide +kernel
theorem dJ3_checkIndex_8e157_10 : decode cJ3_checkIndex_8e157 10 = .ok (.iload_n 0, 1) := by decide +kernel
theorem dJ3_checkIndex_8e157_11 : decode cJ3_checkIndex_8e157 11 = .ok (.iload_n 1, 1) := by decide +kernel
theorem dJ3_checkIndex_8e157_12 : decode cJ3_checkIndex_8e157 12 = .ok (.invokestatic 95, 3) := by decide +kernel
theorem dJ3_checkIndex_8e157_15 : decode cJ3_checkIndex_8e157 15 = .ok (.athrow, 1) := by decide +kernel
theorem dJ3_checkIndex_8e157_16 : decode cJ3_checkIndex_8e157 16 = .ok (.iload_n 0, 1) := by decide +kernel
theorem dJ3_checkIndex_8e157_17 : decode cJ3_checkIndex_8e157 17 = .ok (.ireturn, 1) := by decide +kernel
theorem dX5_init_0 : decode cX5_init 0 = .ok (.aload_n 0, 1) := by decide +kernel
theorem dX5_init_1 : decode cX5_init 1 = .ok (.invokespecial 3, 3) := by decide +kernel
theorem dX5_init_4 : decode cX5_init 4 = .ok (.aload_n 0, 1) := by decide +kernel
theorem dX5_init_5 : decode cX5_init 5 = .ok (.iconst 0, 1) := by decide +kernel
theorem dX5_init_6 : decode cX5_init 6 = .ok (.putfield 9, 3) := by decide +kernel
theorem dX5_init_9 : decode cX5_init 9 = .ok (.aload_n 0, 1) := by decide +kernel
theorem dX5_init_10 : decode cX5_init 10 = .ok (.bipush 120, 2) := by decide +kernel
theorem dX5_init_12 : decode cX5_init 12 = .ok (.newarray .char, 2) := by decide +kernel
theorem dX5_init_14 : decode cX5_init 14 = .ok (.putfield 15, 3) := by decide +kernel
theorem dX5_init_17 : decode cX5_init 17 = .ok (.aload_n 0, 1) := by decide +kernel
theorem dX5_init_18 : decode cX5_init 18 = .ok (.iconst 0, 1) := by decide +kernel
theorem dX5_init_19 : decode cX5_init 19 = .ok (.putfield 19, 3) := by decide +kernel
theorem dX5_init_22 : decode cX5_init 22 = .ok (.aload_n 0, 1) := by decide +kernel
theorem dX5_init_23 : decode cX5_init 23 = .ok (.iconst 0, 1) := by decide +kernel
theorem dX5_init_24 : decode cX5_init 24 = .ok (.putfield 22, 3) := by decide +kernel
theorem dX5_init_27 : decode cX5_init 27 = .ok (.aload_n 0, 1) := by decide +kernel
theorem dX5_init_28 : decode cX5_init 28 = .ok (.iconst 0, 1) := by decide +kernel
theorem dX5_init_29 : decode cX5_init 29 = .ok (.putfield 25, 3) := by decide +kernel
theorem dX5_init_32 : decode cX5_init 32 = .ok (.return_, 1) := by decide +kernel
theorem dX5_isFull_0 : decode cX5_isFull 0 = .ok (.aload_n 0, 1) := by decide +kernel
theorem dX5_isFull_1 : decode cX5_isFull 1 = .ok (.getfield 9, 3) := by decide +kernel
theorem dX5_isFull_4 : decode cX5_isFull 4 = .ok (.bipush 120, 2) := by decide +kernel
theorem dX5_isFull_6 : decode cX5_isFull 6 = .ok (.if_icmp .lt 7, 3) := by decide +kernel
theorem dX5_isFull_9 : decode cX5_isFull 9 = .ok (.iconst 1, 1) := by decide +kernel
theorem dX5_isFull_10 : decode cX5_isFull 10 = .ok (.goto 4, 3) := by decide +kernel
theorem dX5_isFull_13 : decode cX5_isFull 13 = .ok (.iconst 0, 1) := by decide +kernel
theorem dX5_isFull_14 : decode cX5_isFull 14 = .ok (.ireturn, 1) := by decide +kernel
set_option maxRecDepth 20000 in
theorem ggX5_append_X5_isFull : GoodIn wsX5_append wsX5_isFull := goodIn_r _ [7, 2, 8, 9, 10, 11, 12] (by decide +kernel) (by decide +kernel)
set_option maxRecDepth 20000 in
theorem gX5_append_X5_isFull : GoodIn wsX5_append (wsV RX5 28 RX5 yX5_isFull wsX5_isFull) := goodIn_app (goodIn_of _ (by decide +kernel)) ggX5_append_X5_isFull
theorem dX5_append_0 : decode cX5_append 0 = .ok (.aload_n 0, 1) := by decide +kernel
theorem dX5_append_1 : decode cX5_append 1 = .ok (.invokevirtual 28, 3) := by decide +kernel
theorem dX5_append_4 : decode cX5_append 4 = .ok (.ifCond .ne 23, 3) := by decide +kernel
theorem dX5_append_7 : decode cX5_append 7 = .ok (.aload_n 0, 1) := by decide +kernel
theorem dX5_append_8 : decode cX5_append 8 = .ok (.getfield 15, 3) := by decide +kernel
theorem dX5_append_11 : decode cX5_append 11 = .ok (.aload_n 0, 1) := by decide +kernel
theorem dX5_append_12 : decode cX5_append 12 = .ok (.getfield 9, 3) := by decide +kernel
theorem dX5_append_15 : decode cX5_append 15 = .ok (.iload_n 1, 1) := by decide +kernel
theorem dX5_append_16 : decode cX5_append 16 = .ok (.castore, 1) := by decide +kernel
theorem dX5_append_17 : decode cX5_append 17 = .ok (.aload_n 0, 1) := by decide +kernel
theorem dX5_append_18 : decode cX5_append 18 = .ok (.dup, 1) := by decide +kernel
theorem dX5_append_19 : decode cX5_append 19 = .ok (.getfield 9, 3) := by decide +kernel
theorem dX5_append_22 : decode cX5_append 22 = .ok (.iconst 1, 1) := by decide +kernel
theorem dX5_append_23 : decode cX5_append 23 = .ok (.iadd, 1) := by decide +kernel
theorem dX5_append_24 : decode cX5_append 24 = .ok (.putfield 9, 3) := by decide +kernel
theorem dX5_append_27 : decode cX5_append 27 = .ok (.return_, 1) := by decide +kernel
theorem dX5_empty_0 : decode cX5_empty 0 = .ok (.aload_n 0, 1) := by decide +kernel
theorem dX5_empty_1 : decode cX5_empty 1 = .ok (.iconst 0, 1) := by decide +kernel
theorem dX5_empty_2 : decode cX5_empty 2 = .ok (.putfield 9, 3) := by decide +kernel
theorem dX5_empty_5 : decode cX5_empty 5 = .ok (.return_, 1) := by decide +kernel
set_option maxRecDepth 20000 in
theorem ggX5_carryOutOn_X5_readToken : GoodIn wsX5_carryOutOn wsX5_readToken := goodIn_r _ [8, 1, 3, 9, 2, 10, 11, 12, 7, 13, 14, 15, 16, 17, 18, 19, 20, 21, 22, 181, 182, 183, 184, 185] (by decide +kernel) (by decide +kernel)
set_option maxRecDepth 20000 in
theorem gX5_carryOutOn_X5_readToken : GoodIn wsX5_carryOutOn (wsV RX5 32 RX5 yX5_readToken wsX5_readToken) := goodIn_app (goodIn_of _ (by decide +kernel)) ggX5_carryOutOn_X5_readToken
set_option maxRecDepth 20000 in
theorem ggX5_carryOutOn_X5_carryOutItem : GoodIn wsX5_carryOutOn wsX5_carryOutItem := goodIn_r _ [26, 27, 28, 29, 7, 30, 2, 1, 3, 31, 32, 33, 34, 35, 36, 37, 38, 39, 40, 41, 42, 19, 20, 21, 22, 9, 18, 43, 44, 45, 46, 47, 48, 49, 50, 51, 52, 53, 54, 55, 56, 57, 58, 59, 60, 61, 62, 63, 64, 65, 66, 67, 68, 69, 70, 71, 72, 73, 74, 75, 76, 77, 78, 79, 80, 81, 82, 83, 84, 85, 86, 87, 88, 89, 90, 91, 92, 93, 94, 4, 5, 6, 8, 10, 11, 12, 13, 14, 15, 16, 17, 95, 96, 97, 98, 99, 100, 101, 102, 103, 104, 105, 106, 107, 108, 109, 110, 111, 112, 113, 114, 115, 116, 117, 118, 119, 120, 121, 122, 123, 124, 125, 126, 127, 128, 129, 130, 131, 132, 133, 134, 135, 136, 137, 138, 139, 140, 141, 142, 143, 144, 145, 146, 147, 148, 149, 150, 151, 152, 153, 154, 155, 156, 157, 158, 159, 160, 161, 162, 163, 164, 165, 166, 167, 168, 169, 170, 171, 172, 173, 174, 175, 176, 177, 178, 179, 180, 181, 182, 183, 184, 185, 186, 187, 188, 189, 190, 191, 192, 193, 194, 195, 196, 197, 198, 199, 200, 201, 202, 203, 204, 205, 206] (by decide +kernel) (by decide +kernel)
set_option maxRecDepth 20000 in
theorem gX5_carryOutOn_X5_carryOutItem : GoodIn wsX5_carryOutOn (wsV RX5 35 RX5 yX5_carryOutItem wsX5_carryOutItem) := goodIn_app (goodIn_of _ (by decide +kernel)) ggX5_carryOutOn_X5_carryOutItem
theorem dX5_carryOutOn_0 : decode cX5_carryOutOn 0 = .ok (.aload_n 0, 1) := by decide +kernel
theorem dX5_carryOutOn_1 : decode cX5_carryOutOn 1 = .ok (.iconst 0, 1) := by decide +kernel
theorem dX5_carryOutOn_2 : decode cX5_carryOutOn 2 = .ok (.putfield 25, 3) := by decide +kernel
theorem dX5_carryOutOn_5 : decode cX5_carryOutOn 5 = .ok (.iconst 0, 1) := by decide +kernel
theorem dX5_carryOutOn_6 : decode cX5_carryOutOn 6 = .ok (.istore_n 2, 1) := by decide +kernel
theorem dX5_carryOutOn_7 : decode cX5_carryOutOn 7 = .ok (.iload_n 2, 1) := by decide +kernel
theorem dX5_carryOutOn_8 : decode cX5_carryOutOn 8 = .ok (.bipush 120, 2) := by decide +kernel
theorem dX5_carryOutOn_10 : decode cX5_carryOutOn 10 = .ok (.if_icmp .gt 38, 3) := by decide +kernel
theorem dX5_carryOutOn_13 : decode cX5_carryOutOn 13 = .ok (.aload_n 0, 1) := by decide +kernel
theorem dX5_carryOutOn_14 : decode cX5_carryOutOn 14 = .ok (.invokevirtual 32, 3) := by decide +kernel
theorem dX5_carryOutOn_17 : decode cX5_carryOutOn 17 = .ok (.aload_n 0, 1) := by decide +kernel
theorem dX5_carryOutOn_18 : decode cX5_carryOutOn 18 = .ok (.getfield 19, 3) := by decide +kernel
theorem dX5_carryOutOn_21 : decode cX5_carryOutOn 21 = .ok (.ifCond .ne 5, 3) := by decide +kernel
theorem dX5_carryOutOn_24 : decode cX5_carryOutOn 24 = .ok (.iload_n 2, 1) := by decide +kernel
theorem dX5_carryOutOn_25 : decode cX5_carryOutOn 25 = .ok (.ireturn, 1) := by decide +kernel
theorem dX5_carryOutOn_26 : decode cX5_carryOutOn 26 = .ok (.aload_n 0, 1) := by decide +kernel
theorem dX5_carryOutOn_27 : decode cX5_carryOutOn 27 = .ok (.aload_n 1, 1) := by decide +kernel
theorem dX5_carryOutOn_28 : decode cX5_carryOutOn 28 = .ok (.invokevirtual 35, 3) := by decide +kernel
theorem dX5_carryOutOn_31 : decode cX5_carryOutOn 31 = .ok (.ifCond .ne 11, 3) := by decide +kernel
theorem dX5_carryOutOn_34 : decode cX5_carryOutOn 34 = .ok (.bipush (-10), 2) := by decide +kernel
theorem dX5_carryOutOn_36 : decode cX5_carryOutOn 36 = .ok (.aload_n 0, 1) := by decide +kernel
theorem dX5_carryOutOn_37 : decode cX5_carryOutOn 37 = .ok (.getfield 22, 3) := by decide +kernel
theorem dX5_carryOutOn_40 : decode cX5_carryOutOn 40 = .ok (.isub, 1) := by decide +kernel
theorem dX5_carryOutOn_41 : decode cX5_carryOutOn 41 = .ok (.ireturn, 1) := by decide +kernel
theorem dX5_carryOutOn_42 : decode cX5_carryOutOn 42 = .ok (.iinc 2 1, 3) := by decide +kernel
theorem dX5_carryOutOn_45 : decode cX5_carryOutOn 45 = .ok (.goto (-38), 3) := by decide +kernel
theorem dX5_carryOutOn_48 : decode cX5_carryOutOn 48 = .ok (.bipush (-10), 2) := by decide +kernel
theorem dX5_carryOutOn_50 : decode cX5_carryOutOn 50 = .ok (.aload_n 0, 1) := by decide +kernel
theorem dX5_carryOutOn_51 : decode cX5_carryOutOn 51 = .ok (.getfield 22, 3) := by decide +kernel
theorem dX5_carryOutOn_54 : decode cX5_carryOutOn 54 = .ok (.isub, 1) := by decide +kernel
theorem dX5_carryOutOn_55 : decode cX5_carryOutOn 55 = .ok (.ireturn, 1) := by decide +kernel
set_option maxRecDepth 20000 in
theorem ggX5_carryOutItem_X5_isWord : GoodIn wsX5_carryOutItem wsX5_isWord := goodIn_r _ [5, 6, 7, 8, 9, 10, 11, 12, 13, 14, 15, 16, 17, 18, 19, 20, 21, 22, 23, 4, 24, 25, 26, 27, 28, 29, 30, 31, 32, 33, 34, 35, 36, 37, 38, 39, 40, 41, 42, 43, 44, 45, 46, 47, 48, 49, 50, 51, 52, 53, 54, 55, 56, 57, 58, 59, 60, 61, 62, 63, 177, 178, 179, 180, 181] (by decide +kernel) (by decide +kernel)
set_option maxRecDepth 20000 in
theorem gX5_carryOutItem_X5_isWord : GoodIn wsX5_carryOutItem (wsV RX5 41 RX5 yX5_isWord wsX5_isWord) := goodIn_app (goodIn_of _ (by decide +kernel)) ggX5_carryOutItem_X5_isWord
set_option maxRecDepth 20000 in
theorem ggX5_carryOutItem_X5_carryOutBay : GoodIn wsX5_carryOutItem wsX5_carryOutBay := goodIn_r _ [67, 68, 69, 70, 71, 72, 73, 74, 75, 76, 77, 4, 78, 79, 80, 81, 82, 7, 8, 25, 6, 83, 84, 85, 86, 87, 88, 89, 90, 26, 21, 22, 23, 24, 1, 2, 3, 5, 9, 10, 11, 12, 13, 14, 15, 16, 17, 18, 19, 20, 27, 28, 29, 30, 31, 32, 33, 34, 35, 36, 37, 38, 39, 40, 41, 42, 43, 44, 45, 46, 47, 48, 49, 50, 51, 52, 53, 54, 55, 56, 57, 58, 59, 60, 61, 62, 63, 91, 92, 93, 94, 95, 96, 97, 98, 99, 100, 101, 102, 103, 104, 105, 106, 107, 108, 109, 110, 111, 112, 113, 114, 115, 116, 117, 118, 119, 120, 121, 122, 123, 124, 125, 126, 127, 128, 129, 130, 131, 182, 183, 184, 185, 186, 187, 188, 189, 190, 191, 192, 193, 194, 195, 196, 197, 198, 177, 178, 179, 180, 181] (by decide +kernel) (by decide +kernel)
set_option maxRecDepth 20000 in
theorem gX5_carryOutItem_X5_carryOutBay : GoodIn wsX5_carryOutItem (wsV RX5 45 RX5 yX5_carryOutBay wsX5_carryOutBay) := goodIn_app (goodIn_of _ (by decide +kernel)) ggX5_carryOutItem_X5_carryOutBay
set_option maxRecDepth 20000 in
theorem ggX5_carryOutItem_X5_carryOutStep : GoodIn wsX5_carryOutItem wsX5_carryOutStep := goodIn_r _ [135, 136, 137, 138, 4, 139, 79, 80, 81, 82, 7, 8, 25, 6, 83, 84, 85, 86, 87, 88, 89, 90, 26, 21, 22, 23, 24, 1, 2, 3, 5, 9, 10, 11, 12, 13, 14, 15, 16, 17, 18, 19, 20, 27, 28, 29, 30, 31, 32, 33, 34, 35, 36, 37, 38, 39, 40, 41, 42, 43, 44, 45, 46, 47, 48, 49, 50, 51, 52, 53, 54, 55, 56, 57, 58, 59, 60, 61, 62, 63, 140, 141, 142, 143, 144, 145, 146, 91, 92, 93, 94, 95, 96, 97, 98, 99, 100, 101, 102, 147, 148, 149, 150, 151, 152, 153, 154, 155, 156, 157, 158, 159, 160, 161, 109, 110, 111, 112, 162, 163, 164, 165, 166, 167, 168, 169, 170, 171, 177, 178, 179, 180, 181, 182, 183, 184, 185, 186, 187, 188, 189, 199, 200, 201, 202] (by decide +kernel) (by decide +kernel)
set_option maxRecDepth 20000 in
theorem gX5_carryOutItem_X5_carryOutStep : GoodIn wsX5_carryOutItem (wsV RX5 50 RX5 yX5_carryOutStep wsX5_carryOutStep) := goodIn_app (goodIn_of _ (by decide +kernel)) ggX5_carryOutItem_X5_carryOutStep
set_option maxRecDepth 20000 in
theorem ggX5_carryOutItem_X5_carryOutNumber : GoodIn wsX5_carryOutItem wsX5_carryOutNumber := goodIn_r _ [175, 176, 100, 101, 102, 91, 92, 93, 4, 94, 6, 8, 7, 79, 80, 81, 82, 25, 83, 84, 85, 86, 87, 88, 89, 90, 26, 21, 22, 23, 24, 95, 96, 97, 98, 99, 109, 110, 111, 112, 182, 183, 184, 185, 186, 187, 188, 189, 177, 178, 179, 180, 181] (by decide +kernel) (by decide +kernel)
set_option maxRecDepth 20000 in
theorem gX5_carryOutItem_X5_carryOutNumber : GoodIn wsX5_carryOutItem (wsV RX5 55 RX5 yX5_carryOutNumber wsX5_carryOutNumber) := goodIn_app (goodIn_of _ (by decide +kernel)) ggX5_carryOutItem_X5_carryOutNumber
theorem dX5_carryOutItem_0 : decode cX5_carryOutItem 0 = .ok (.aload_n 0, 1) := by decide +kernel
theorem dX5_carryOutItem_1 : decode cX5_carryOutItem 1 = .ok (.ldc 39, 2) := by decide +kernel
theorem dX5_carryOutItem_3 : decode cX5_carryOutItem 3 = .ok (.invokevirtual 41, 3) := by decide +kernel
theorem dX5_carryOutItem_6 : decode cX5_carryOutItem 6 = .ok (.ifCond .eq 9, 3) := by decide +kernel
theorem dX5_carryOutItem_9 : decode cX5_carryOutItem 9 = .ok (.aload_n 0, 1) := by decide +kernel
theorem dX5_carryOutItem_10 : decode cX5_carryOutItem 10 = .ok (.aload_n 1, 1) := by decide +kernel
theorem dX5_carryOutItem_11 : decode cX5_carryOutItem 11 = .ok (.invokevirtual 45, 3) := by decide +kernel
theorem dX5_carryOutItem_14 : decode cX5_carryOutItem 14 = .ok (.ireturn, 1) := by decide +kernel
theorem dX5_carryOutItem_15 : decode cX5_carryOutItem 15 = .ok (.aload_n 0, 1) := by decide +kernel
theorem dX5_carryOutItem_16 : decode cX5_carryOutItem 16 = .ok (.ldc 48, 2) := by decide +kernel
theorem dX5_carryOutItem_18 : decode cX5_carryOutItem 18 = .ok (.invokevirtual 41, 3) := by decide +kernel
theorem dX5_carryOutItem_21 : decode cX5_carryOutItem 21 = .ok (.ifCond .eq 9, 3) := by decide +kernel
theorem dX5_carryOutItem_24 : decode cX5_carryOutItem 24 = .ok (.aload_n 0, 1) := by decide +kernel
theorem dX5_carryOutItem_25 : decode cX5_carryOutItem 25 = .ok (.aload_n 1, 1) := by decide +kernel
theorem dX5_carryOutItem_26 : decode cX5_carryOutItem 26 = .ok (.invokevirtual 50, 3) := by decide +kernel
theorem dX5_carryOutItem_29 : decode cX5_carryOutItem 29 = .ok (.ireturn, 1) := by decide +kernel
theorem dX5_carryOutItem_30 : decode cX5_carryOutItem 30 = .ok (.aload_n 0, 1) := by decide +kernel
theorem dX5_carryOutItem_31 : decode cX5_carryOutItem 31 = .ok (.ldc 53, 2) := by decide +kernel
theorem dX5_carryOutItem_33 : decode cX5_carryOutItem 33 = .ok (.invokevirtual 41, 3) := by decide +kernel
theorem dX5_carryOutItem_36 : decode cX5_carryOutItem 36 = .ok (.ifCond .eq 10, 3) := by decide +kernel
theorem dX5_carryOutItem_39 : decode cX5_carryOutItem 39 = .ok (.aload_n 0, 1) := by decide +kernel
theorem dX5_carryOutItem_40 : decode cX5_carryOutItem 40 = .ok (.aload_n 1, 1) := by decide +kernel
theorem dX5_carryOutItem_41 : decode cX5_carryOutItem 41 = .ok (.iconst 2, 1) := by decide +kernel
theorem dX5_carryOutItem_42 : decode cX5_carryOutItem 42 = .ok (.invokevirtual 55, 3) := by decide +kernel
theorem dX5_carryOutItem_45 : decode cX5_carryOutItem 45 = .ok (.ireturn, 1) := by decide +kernel
theorem dX5_carryOutItem_46 : decode cX5_carryOutItem 46 = .ok (.aload_n 0, 1) := by decide +kernel
theorem dX5_carryOutItem_47 : decode cX5_carryOutItem 47 = .ok (.ldc 59, 2) := by decide +kernel
theorem dX5_carryOutItem_49 : decode cX5_carryOutItem 49 = .ok (.invokevirtual 41, 3) := by decide +kernel
theorem dX5_carryOutItem_52 : decode cX5_carryOutItem 52 = .ok (.ifCond .eq 16, 3) := by decide +kernel
theorem dX5_carryOutItem_55 : decode cX5_carryOutItem 55 = .ok (.aload_n 0, 1) := by decide +kernel
theorem dX5_carryOutItem_56 : decode cX5_carryOutItem 56 = .ok (.aload_n 1, 1) := by decide +kernel
theorem dX5_carryOutItem_57 : decode cX5_carryOutItem 57 = .ok (.iconst 0, 1) := by decide +kernel
theorem dX5_carryOutItem_58 : decode cX5_carryOutItem 58 = .ok (.invokevirtual 55, 3) := by decide +kernel
theorem dX5_carryOutItem_61 : decode cX5_carryOutItem 61 = .ok (.ifCond .eq 7, 3) := by decide +kernel
theorem dX5_carryOutItem_64 : decode cX5_carryOutItem 64 = .ok (.iconst 1, 1) := by decide +kernel
theorem dX5_carryOutItem_65 : decode cX5_carryOutItem 65 = .ok (.goto 4, 3) := by decide +kernel
theorem dX5_carryOutItem_68 : decode cX5_carryOutItem 68 = .ok (.iconst 0, 1) := by decide +kernel
theorem dX5_carryOutItem_69 : decode cX5_carryOutItem 69 = .ok (.ireturn, 1) := by decide +kernel
set_option maxRecDepth 20000 in
theorem ggX5_carryOutBay_X0_isFull : GoodIn wsX5_carryOutBay wsX0_isFull := goodIn_r _ [6, 7, 136, 137, 138, 139, 140, 141, 142, 143, 144] (by decide +kernel) (by decide +kernel)
set_option maxRecDepth 20000 in
theorem gX5_carryOutBay_X0_isFull : GoodIn wsX5_carryOutBay (wsV RX5 67 RX0 yX0_isFull wsX0_isFull) := goodIn_app (goodIn_of _ (by decide +kernel)) ggX5_carryOutBay_X0_isFull
set_option maxRecDepth 20000 in
theorem ggX5_carryOutBay_X5_readSize : GoodIn wsX5_carryOutBay wsX5_readSize := goodIn_r _ [12, 13, 14, 15, 11, 16, 17, 18, 19, 20, 21, 22, 23, 24, 25, 26, 27, 28, 29, 30, 31, 32, 33, 34, 35, 36, 37, 38, 39, 40, 41, 42, 43, 44, 45, 46, 47, 48, 49, 50, 51, 52, 53, 54, 55, 56, 57, 58, 59, 60, 61, 62, 63, 64, 65, 66, 67, 68, 69, 70, 71, 72, 73, 74, 75, 76, 77, 78, 79, 80, 81, 82, 83, 84, 85, 86, 145, 146, 147, 148, 149] (by decide +kernel) (by decide +kernel)
set_option maxRecDepth 20000 in
theorem gX5_carryOutBay_X5_readSize : GoodIn wsX5_carryOutBay (wsV RX5 70 RX5 yX5_readSize wsX5_readSize) := goodIn_app (goodIn_of _ (by decide +kernel)) ggX5_carryOutBay_X5_readSize
set_option maxRecDepth 20000 in
theorem ggX5_carryOutBay_X5_readNumber : GoodIn wsX5_carryOutBay wsX5_readNumber := goodIn_r _ [90, 20, 18, 17, 13, 14, 15, 11, 16, 19, 21, 22, 23, 24, 25, 26, 27, 28, 29, 30, 31, 32, 33, 91, 92, 93, 94, 95, 96, 97, 98, 145, 146, 147, 148, 149] (by decide +kernel) (by decide +kernel)
set_option maxRecDepth 20000 in
theorem gX5_carryOutBay_X5_readNumber : GoodIn wsX5_carryOutBay (wsV RX5 74 RX5 yX5_readNumber wsX5_readNumber) := goodIn_app (goodIn_of _ (by decide +kernel)) ggX5_carryOutBay_X5_readNumber
set_option maxRecDepth 20000 in
theorem ggX5_carryOutBay_X0_hasPlace : GoodIn wsX5_carryOutBay wsX0_hasPlace := goodIn_r _ [102, 7, 103, 104, 136, 137, 138, 139, 140, 141, 142, 143, 144] (by decide +kernel) (by decide +kernel)
set_option maxRecDepth 20000 in
theorem gX5_carryOutBay_X0_hasPlace : GoodIn wsX5_carryOutBay (wsV RX5 78 RX0 yX0_hasPlace wsX0_hasPlace) := goodIn_app (goodIn_of _ (by decide +kernel)) ggX5_carryOutBay_X0_hasPlace
set_option maxRecDepth 20000 in
theorem ggX5_carryOutBay_X5_readSemicolon : GoodIn wsX5_carryOutBay wsX5_readSemicolon := goodIn_r _ [108, 20, 18, 13, 14, 15, 11, 16, 17, 19, 21, 22, 23, 24, 25, 26, 27, 28, 29, 30, 31, 32, 33, 145, 146, 147, 148, 149] (by decide +kernel) (by decide +kernel)
set_option maxRecDepth 20000 in
theorem gX5_carryOutBay_X5_readSemicolon : GoodIn wsX5_carryOutBay (wsV RX5 82 RX5 yX5_readSemicolon wsX5_readSemicolon) := goodIn_app (goodIn_of _ (by decide +kernel)) ggX5_carryOutBay_X5_readSemicolon
set_option maxRecDepth 20000 in
theorem ggX5_carryOutBay_X0_add : GoodIn wsX5_carryOutBay wsX0_add := goodIn_r _ [112, 7, 103, 104, 113, 114, 115, 3, 4, 5, 6, 116, 117, 118, 119, 120, 121, 122, 123, 124, 125, 126, 127, 136, 137, 138, 139, 140, 141, 142, 143, 144] (by decide +kernel) (by decide +kernel)
set_option maxRecDepth 20000 in
theorem gX5_carryOutBay_X0_add : GoodIn wsX5_carryOutBay (wsV RX5 85 RX0 yX0_add wsX0_add) := goodIn_app (goodIn_of _ (by decide +kernel)) ggX5_carryOutBay_X0_add
theorem dX5_carryOutBay_0 : decode cX5_carryOutBay 0 = .ok (.aload_n 1, 1) := by decide +kernel
theorem dX5_carryOutBay_1 : decode cX5_carryOutBay 1 = .ok (.getfield 61, 3) := by decide +kernel
theorem dX5_carryOutBay_4 : decode cX5_carryOutBay 4 = .ok (.invokevirtual 67, 3) := by decide +kernel
theorem dX5_carryOutBay_7 : decode cX5_carryOutBay 7 = .ok (.ifCond .eq 5, 3) := by decide +kernel
theorem dX5_carryOutBay_10 : decode cX5_carryOutBay 10 = .ok (.iconst 0, 1) := by decide +kernel
theorem dX5_carryOutBay_11 : decode cX5_carryOutBay 11 = .ok (.ireturn, 1) := by decide +kernel
theorem dX5_carryOutBay_12 : decode cX5_carryOutBay 12 = .ok (.aload_n 0, 1) := by decide +kernel
theorem dX5_carryOutBay_13 : decode cX5_carryOutBay 13 = .ok (.invokevirtual 70, 3) := by decide +kernel
theorem dX5_carryOutBay_16 : decode cX5_carryOutBay 16 = .ok (.istore_n 2, 1) := by decide +kernel
theorem dX5_carryOutBay_17 : decode cX5_carryOutBay 17 = .ok (.iload_n 2, 1) := by decide +kernel
theorem dX5_carryOutBay_18 : decode cX5_carryOutBay 18 = .ok (.iconst (-1), 1) := by decide +kernel
theorem dX5_carryOutBay_19 : decode cX5_carryOutBay 19 = .ok (.if_icmp .ne 5, 3) := by decide +kernel
theorem dX5_carryOutBay_22 : decode cX5_carryOutBay 22 = .ok (.iconst 0, 1) := by decide +kernel
theorem dX5_carryOutBay_23 : decode cX5_carryOutBay 23 = .ok (.ireturn, 1) := by decide +kernel
theorem dX5_carryOutBay_24 : decode cX5_carryOutBay 24 = .ok (.aload_n 0, 1) := by decide +kernel
theorem dX5_carryOutBay_25 : decode cX5_carryOutBay 25 = .ok (.iconst 0, 1) := by decide +kernel
theorem dX5_carryOutBay_26 : decode cX5_carryOutBay 26 = .ok (.iconst 4, 1) := by decide +kernel
theorem dX5_carryOutBay_27 : decode cX5_carryOutBay 27 = .ok (.invokevirtual 74, 3) := by decide +kernel
theorem dX5_carryOutBay_30 : decode cX5_carryOutBay 30 = .ok (.istore_n 3, 1) := by decide +kernel
theorem dX5_carryOutBay_31 : decode cX5_carryOutBay 31 = .ok (.iload_n 3, 1) := by decide +kernel
theorem dX5_carryOutBay_32 : decode cX5_carryOutBay 32 = .ok (.iconst (-1), 1) := by decide +kernel
theorem dX5_carryOutBay_33 : decode cX5_carryOutBay 33 = .ok (.if_icmp .ne 5, 3) := by decide +kernel
theorem dX5_carryOutBay_36 : decode cX5_carryOutBay 36 = .ok (.iconst 0, 1) := by decide +kernel
theorem dX5_carryOutBay_37 : decode cX5_carryOutBay 37 = .ok (.ireturn, 1) := by decide +kernel
theorem dX5_carryOutBay_38 : decode cX5_carryOutBay 38 = .ok (.aload_n 0, 1) := by decide +kernel
theorem dX5_carryOutBay_39 : decode cX5_carryOutBay 39 = .ok (.iconst 0, 1) := by decide +kernel
theorem dX5_carryOutBay_40 : decode cX5_carryOutBay 40 = .ok (.bipush 99, 2) := by decide +kernel
theorem dX5_carryOutBay_42 : decode cX5_carryOutBay 42 = .ok (.invokevirtual 74, 3) := by decide +kernel
theorem dX5_carryOutBay_45 : decode cX5_carryOutBay 45 = .ok (.istore 4, 2) := by decide +kernel
theorem dX5_carryOutBay_47 : decode cX5_carryOutBay 47 = .ok (.iload 4, 2) := by decide +kernel
theorem dX5_carryOutBay_49 : decode cX5_carryOutBay 49 = .ok (.iconst (-1), 1) := by decide +kernel
theorem dX5_carryOutBay_50 : decode cX5_carryOutBay 50 = .ok (.if_icmp .eq 23, 3) := by decide +kernel
theorem dX5_carryOutBay_53 : decode cX5_carryOutBay 53 = .ok (.aload_n 1, 1) := by decide +kernel
theorem dX5_carryOutBay_54 : decode cX5_carryOutBay 54 = .ok (.getfield 61, 3) := by decide +kernel
theorem dX5_carryOutBay_57 : decode cX5_carryOutBay 57 = .ok (.iload_n 3, 1) := by decide +kernel
theorem dX5_carryOutBay_58 : decode cX5_carryOutBay 58 = .ok (.iload 4, 2) := by decide +kernel
theorem dX5_carryOutBay_60 : decode cX5_carryOutBay 60 = .ok (.invokevirtual 78, 3) := by decide +kernel
theorem dX5_carryOutBay_63 : decode cX5_carryOutBay 63 = .ok (.ifCond .ne 10, 3) := by decide +kernel
theorem dX5_carryOutBay_66 : decode cX5_carryOutBay 66 = .ok (.aload_n 0, 1) := by decide +kernel
theorem dX5_carryOutBay_67 : decode cX5_carryOutBay 67 = .ok (.invokevirtual 82, 3) := by decide +kernel
theorem dX5_carryOutBay_70 : decode cX5_carryOutBay 70 = .ok (.ifCond .ne 5, 3) := by decide +kernel
theorem dX5_carryOutBay_73 : decode cX5_carryOutBay 73 = .ok (.iconst 0, 1) := by decide +kernel
theorem dX5_carryOutBay_74 : decode cX5_carryOutBay 74 = .ok (.ireturn, 1) := by decide +kernel
theorem dX5_carryOutBay_75 : decode cX5_carryOutBay 75 = .ok (.aload_n 1, 1) := by decide +kernel
theorem dX5_carryOutBay_76 : decode cX5_carryOutBay 76 = .ok (.getfield 61, 3) := by decide +kernel
theorem dX5_carryOutBay_79 : decode cX5_carryOutBay 79 = .ok (.iload_n 3, 1) := by decide +kernel
theorem dX5_carryOutBay_80 : decode cX5_carryOutBay 80 = .ok (.iload 4, 2) := by decide +kernel
theorem dX5_carryOutBay_82 : decode cX5_carryOutBay 82 = .ok (.iload_n 2, 1) := by decide +kernel
theorem dX5_carryOutBay_83 : decode cX5_carryOutBay 83 = .ok (.invokevirtual 85, 3) := by decide +kernel
theorem dX5_carryOutBay_86 : decode cX5_carryOutBay 86 = .ok (.pop, 1) := by decide +kernel
theorem dX5_carryOutBay_87 : decode cX5_carryOutBay 87 = .ok (.iconst 1, 1) := by decide +kernel
theorem dX5_carryOutBay_88 : decode cX5_carryOutBay 88 = .ok (.ireturn, 1) := by decide +kernel
set_option maxRecDepth 20000 in
theorem ggX5_carryOutStep_X5_readTariff : GoodIn wsX5_carryOutStep wsX5_readTariff := goodIn_r _ [5, 6, 7, 8, 4, 9, 10, 11, 12, 13, 14, 15, 16, 17, 18, 19, 20, 21, 22, 23, 24, 25, 26, 27, 28, 29, 30, 31, 32, 33, 34, 35, 36, 37, 38, 39, 40, 41, 42, 43, 44, 45, 46, 47, 48, 49, 50, 51, 52, 53, 54, 55, 56, 57, 58, 59, 60, 61, 62, 63, 64, 65, 66, 67, 68, 69, 70, 71, 72, 73, 74, 75, 76, 77, 78, 79, 128, 129, 130, 131, 132] (by decide +kernel) (by decide +kernel)
set_option maxRecDepth 20000 in
theorem gX5_carryOutStep_X5_readTariff : GoodIn wsX5_carryOutStep (wsV RX5 89 RX5 yX5_readTariff wsX5_readTariff) := goodIn_app (goodIn_of _ (by decide +kernel)) ggX5_carryOutStep_X5_readTariff
set_option maxRecDepth 20000 in
theorem ggX5_carryOutStep_X3_tariff : GoodIn wsX5_carryOutStep wsX3_tariff := goodIn_r _ [84, 85, 86, 133, 134, 135, 136, 137, 138, 139, 140] (by decide +kernel) (by decide +kernel)
set_option maxRecDepth 20000 in
theorem gX5_carryOutStep_X3_tariff : GoodIn wsX5_carryOutStep (wsV RX5 92 RX3 yX3_tariff wsX3_tariff) := goodIn_app (goodIn_of _ (by decide +kernel)) ggX5_carryOutStep_X3_tariff
set_option maxRecDepth 20000 in
theorem ggX5_carryOutStep_X5_readNumber : GoodIn wsX5_carryOutStep wsX5_readNumber := goodIn_r _ [90, 13, 11, 10, 6, 7, 8, 4, 9, 12, 14, 15, 16, 17, 18, 19, 20, 21, 22, 23, 24, 25, 26, 91, 92, 93, 94, 95, 96, 97, 98, 128, 129, 130, 131, 132] (by decide +kernel) (by decide +kernel)
set_option maxRecDepth 20000 in
theorem gX5_carryOutStep_X5_readNumber : GoodIn wsX5_carryOutStep (wsV RX5 74 RX5 yX5_readNumber wsX5_readNumber) := goodIn_app (goodIn_of _ (by decide +kernel)) ggX5_carryOutStep_X5_readNumber
set_option maxRecDepth 20000 in
theorem ggX5_carryOutStep_X4_hasRoomFor : GoodIn wsX5_carryOutStep wsX4_hasRoomFor := goodIn_r _ [103, 104, 105, 106, 107, 102, 108, 109, 110, 111, 112, 113, 141, 142, 143, 144] (by decide +kernel) (by decide +kernel)
set_option maxRecDepth 20000 in
theorem gX5_carryOutStep_X4_hasRoomFor : GoodIn wsX5_carryOutStep (wsV RX5 96 RX4 yX4_hasRoomFor wsX4_hasRoomFor) := goodIn_app (goodIn_of _ (by decide +kernel)) ggX5_carryOutStep_X4_hasRoomFor
set_option maxRecDepth 20000 in
theorem ggX5_carryOutStep_X5_readSemicolon : GoodIn wsX5_carryOutStep wsX5_readSemicolon := goodIn_r _ [117, 13, 11, 6, 7, 8, 4, 9, 10, 12, 14, 15, 16, 17, 18, 19, 20, 21, 22, 23, 24, 25, 26, 128, 129, 130, 131, 132] (by decide +kernel) (by decide +kernel)
set_option maxRecDepth 20000 in
theorem gX5_carryOutStep_X5_readSemicolon : GoodIn wsX5_carryOutStep (wsV RX5 82 RX5 yX5_readSemicolon wsX5_readSemicolon) := goodIn_app (goodIn_of _ (by decide +kernel)) ggX5_carryOutStep_X5_readSemicolon
set_option maxRecDepth 20000 in
theorem ggX5_carryOutStep_X4_put : GoodIn wsX5_carryOutStep wsX4_put := goodIn_r _ [121, 104, 109, 122, 123, 110, 111, 112, 102, 113, 124, 125, 126, 127, 141, 142, 143, 144] (by decide +kernel) (by decide +kernel)
set_option maxRecDepth 20000 in
theorem gX5_carryOutStep_X4_put : GoodIn wsX5_carryOutStep (wsV RX5 102 RX4 yX4_put wsX4_put) := goodIn_app (goodIn_of _ (by decide +kernel)) ggX5_carryOutStep_X4_put
theorem dX5_carryOutStep_0 : decode cX5_carryOutStep 0 = .ok (.aload_n 0, 1) := by decide +kernel
theorem dX5_carryOutStep_1 : decode cX5_carryOutStep 1 = .ok (.invokevirtual 89, 3) := by decide +kernel
theorem dX5_carryOutStep_4 : decode cX5_carryOutStep 4 = .ok (.istore_n 2, 1) := by decide +kernel
theorem dX5_carryOutStep_5 : decode cX5_carryOutStep 5 = .ok (.iload_n 2, 1) := by decide +kernel
theorem dX5_carryOutStep_6 : decode cX5_carryOutStep 6 = .ok (.iconst (-1), 1) := by decide +kernel
theorem dX5_carryOutStep_7 : decode cX5_carryOutStep 7 = .ok (.if_icmp .ne 5, 3) := by decide +kernel
theorem dX5_carryOutStep_10 : decode cX5_carryOutStep 10 = .ok (.iconst 0, 1) := by decide +kernel
theorem dX5_carryOutStep_11 : decode cX5_carryOutStep 11 = .ok (.ireturn, 1) := by decide +kernel
theorem dX5_carryOutStep_12 : decode cX5_carryOutStep 12 = .ok (.aload_n 1, 1) := by decide +kernel
theorem dX5_carryOutStep_13 : decode cX5_carryOutStep 13 = .ok (.iload_n 2, 1) := by decide +kernel
theorem dX5_carryOutStep_14 : decode cX5_carryOutStep 14 = .ok (.invokevirtual 92, 3) := by decide +kernel
theorem dX5_carryOutStep_17 : decode cX5_carryOutStep 17 = .ok (.astore_n 3, 1) := by decide +kernel
theorem dX5_carryOutStep_18 : decode cX5_carryOutStep 18 = .ok (.aload_n 0, 1) := by decide +kernel
theorem dX5_carryOutStep_19 : decode cX5_carryOutStep 19 = .ok (.iconst 0, 1) := by decide +kernel
theorem dX5_carryOutStep_20 : decode cX5_carryOutStep 20 = .ok (.sipush 1440, 3) := by decide +kernel
theorem dX5_carryOutStep_23 : decode cX5_carryOutStep 23 = .ok (.invokevirtual 74, 3) := by decide +kernel
theorem dX5_carryOutStep_26 : decode cX5_carryOutStep 26 = .ok (.istore 4, 2) := by decide +kernel
theorem dX5_carryOutStep_28 : decode cX5_carryOutStep 28 = .ok (.iload 4, 2) := by decide +kernel
theorem dX5_carryOutStep_30 : decode cX5_carryOutStep 30 = .ok (.iconst (-1), 1) := by decide +kernel
theorem dX5_carryOutStep_31 : decode cX5_carryOutStep 31 = .ok (.if_icmp .eq 12, 3) := by decide +kernel
theorem dX5_carryOutStep_34 : decode cX5_carryOutStep 34 = .ok (.aload_n 3, 1) := by decide +kernel
theorem dX5_carryOutStep_35 : decode cX5_carryOutStep 35 = .ok (.iload 4, 2) := by decide +kernel
theorem dX5_carryOutStep_37 : decode cX5_carryOutStep 37 = .ok (.invokevirtual 96, 3) := by decide +kernel
theorem dX5_carryOutStep_40 : decode cX5_carryOutStep 40 = .ok (.ifCond .ne 5, 3) := by decide +kernel
theorem dX5_carryOutStep_43 : decode cX5_carryOutStep 43 = .ok (.iconst 0, 1) := by decide +kernel
theorem dX5_carryOutStep_44 : decode cX5_carryOutStep 44 = .ok (.ireturn, 1) := by decide +kernel
theorem dX5_carryOutStep_45 : decode cX5_carryOutStep 45 = .ok (.aload_n 0, 1) := by decide +kernel
theorem dX5_carryOutStep_46 : decode cX5_carryOutStep 46 = .ok (.iconst 1, 1) := by decide +kernel
theorem dX5_carryOutStep_47 : decode cX5_carryOutStep 47 = .ok (.sipush 240, 3) := by decide +kernel
theorem dX5_carryOutStep_50 : decode cX5_carryOutStep 50 = .ok (.invokevirtual 74, 3) := by decide +kernel
theorem dX5_carryOutStep_53 : decode cX5_carryOutStep 53 = .ok (.istore 5, 2) := by decide +kernel
theorem dX5_carryOutStep_55 : decode cX5_carryOutStep 55 = .ok (.iload 5, 2) := by decide +kernel
theorem dX5_carryOutStep_57 : decode cX5_carryOutStep 57 = .ok (.iconst (-1), 1) := by decide +kernel
theorem dX5_carryOutStep_58 : decode cX5_carryOutStep 58 = .ok (.if_icmp .ne 5, 3) := by decide +kernel
theorem dX5_carryOutStep_61 : decode cX5_carryOutStep 61 = .ok (.iconst 0, 1) := by decide +kernel
theorem dX5_carryOutStep_62 : decode cX5_carryOutStep 62 = .ok (.ireturn, 1) := by decide +kernel
theorem dX5_carryOutStep_63 : decode cX5_carryOutStep 63 = .ok (.aload_n 0, 1) := by decide +kernel
theorem dX5_carryOutStep_64 : decode cX5_carryOutStep 64 = .ok (.iconst 0, 1) := by decide +kernel
theorem dX5_carryOutStep_65 : decode cX5_carryOutStep 65 = .ok (.sipush 5000, 3) := by decide +kernel
theorem dX5_carryOutStep_68 : decode cX5_carryOutStep 68 = .ok (.invokevirtual 74, 3) := by decide +kernel
theorem dX5_carryOutStep_71 : decode cX5_carryOutStep 71 = .ok (.istore 6, 2) := by decide +kernel
theorem dX5_carryOutStep_73 : decode cX5_carryOutStep 73 = .ok (.iload 6, 2) := by decide +kernel
theorem dX5_carryOutStep_75 : decode cX5_carryOutStep 75 = .ok (.iconst (-1), 1) := by decide +kernel
theorem dX5_carryOutStep_76 : decode cX5_carryOutStep 76 = .ok (.if_icmp .eq 10, 3) := by decide +kernel
theorem dX5_carryOutStep_79 : decode cX5_carryOutStep 79 = .ok (.aload_n 0, 1) := by decide +kernel
theorem dX5_carryOutStep_80 : decode cX5_carryOutStep 80 = .ok (.invokevirtual 82, 3) := by decide +kernel
theorem dX5_carryOutStep_83 : decode cX5_carryOutStep 83 = .ok (.ifCond .ne 5, 3) := by decide +kernel
theorem dX5_carryOutStep_86 : decode cX5_carryOutStep 86 = .ok (.iconst 0, 1) := by decide +kernel
theorem dX5_carryOutStep_87 : decode cX5_carryOutStep 87 = .ok (.ireturn, 1) := by decide +kernel
theorem dX5_carryOutStep_88 : decode cX5_carryOutStep 88 = .ok (.aload_n 3, 1) := by decide +kernel
theorem dX5_carryOutStep_89 : decode cX5_carryOutStep 89 = .ok (.iload 4, 2) := by decide +kernel
theorem dX5_carryOutStep_91 : decode cX5_carryOutStep 91 = .ok (.iload 5, 2) := by decide +kernel
theorem dX5_carryOutStep_93 : decode cX5_carryOutStep 93 = .ok (.iload 6, 2) := by decide +kernel
theorem dX5_carryOutStep_95 : decode cX5_carryOutStep 95 = .ok (.invokevirtual 102, 3) := by decide +kernel
theorem dX5_carryOutStep_98 : decode cX5_carryOutStep 98 = .ok (.iconst 1, 1) := by decide +kernel
theorem dX5_carryOutStep_99 : decode cX5_carryOutStep 99 = .ok (.ireturn, 1) := by decide +kernel
set_option maxRecDepth 20000 in
theorem ggX5_carryOutNumber_X6_isWithin : GoodIn wsX5_carryOutNumber wsX6_isWithin := goodIn_r _ [4] (by decide +kernel) (by decide +kernel)
set_option maxRecDepth 20000 in
theorem gX5_carryOutNumber_X6_isWithin_n106 : GoodIn wsX5_carryOutNumber (wsX6_isWithin) := ggX5_carryOutNumber_X6_isWithin
set_option maxRecDepth 20000 in
theorem ggX5_carryOutNumber_X5_readNumber : GoodIn wsX5_carryOutNumber wsX5_readNumber := goodIn_r _ [9, 10, 11, 12, 13, 14, 15, 8, 16, 17, 18, 19, 20, 21, 22, 23, 24, 25, 26, 27, 28, 29, 30, 31, 32, 33, 34, 35, 2, 3, 4, 48, 49, 50, 51, 52] (by decide +kernel) (by decide +kernel)
set_option maxRecDepth 20000 in
theorem gX5_carryOutNumber_X5_readNumber : GoodIn wsX5_carryOutNumber (wsV RX5 74 RX5 yX5_readNumber wsX5_readNumber) := goodIn_app (goodIn_of _ (by decide +kernel)) ggX5_carryOutNumber_X5_readNumber
set_option maxRecDepth 20000 in
theorem ggX5_carryOutNumber_X5_readSemicolon : GoodIn wsX5_carryOutNumber wsX5_readSemicolon := goodIn_r _ [39, 10, 11, 13, 14, 15, 8, 16, 12, 17, 18, 19, 20, 21, 22, 23, 24, 25, 26, 27, 28, 29, 30, 48, 49, 50, 51, 52] (by decide +kernel) (by decide +kernel)
set_option maxRecDepth 20000 in
theorem gX5_carryOutNumber_X5_readSemicolon : GoodIn wsX5_carryOutNumber (wsV RX5 82 RX5 yX5_readSemicolon wsX5_readSemicolon) := goodIn_app (goodIn_of _ (by decide +kernel)) ggX5_carryOutNumber_X5_readSemicolon
theorem dX5_carryOutNumber_0 : decode cX5_carryOutNumber 0 = .ok (.iload_n 2, 1) := by decide +kernel
theorem dX5_carryOutNumber_1 : decode cX5_carryOutNumber 1 = .ok (.iconst 0, 1) := by decide +kernel
theorem dX5_carryOutNumber_2 : decode cX5_carryOutNumber 2 = .ok (.iconst 4, 1) := by decide +kernel
theorem dX5_carryOutNumber_3 : decode cX5_carryOutNumber 3 = .ok (.invokestatic 106, 3) := by decide +kernel
theorem dX5_carryOutNumber_6 : decode cX5_carryOutNumber 6 = .ok (.ifCond .ne 5, 3) := by decide +kernel
theorem dX5_carryOutNumber_9 : decode cX5_carryOutNumber 9 = .ok (.iconst 0, 1) := by decide +kernel
theorem dX5_carryOutNumber_10 : decode cX5_carryOutNumber 10 = .ok (.ireturn, 1) := by decide +kernel
theorem dX5_carryOutNumber_11 : decode cX5_carryOutNumber 11 = .ok (.aload_n 0, 1) := by decide +kernel
theorem dX5_carryOutNumber_12 : decode cX5_carryOutNumber 12 = .ok (.getstatic 110, 3) := by decide +kernel
theorem dX5_carryOutNumber_15 : decode cX5_carryOutNumber 15 = .ok (.iload_n 2, 1) := by decide +kernel
theorem dX5_carryOutNumber_16 : decode cX5_carryOutNumber 16 = .ok (.iaload, 1) := by decide +kernel
theorem dX5_carryOutNumber_17 : decode cX5_carryOutNumber 17 = .ok (.getstatic 114, 3) := by decide +kernel
theorem dX5_carryOutNumber_20 : decode cX5_carryOutNumber 20 = .ok (.iload_n 2, 1) := by decide +kernel
theorem dX5_carryOutNumber_21 : decode cX5_carryOutNumber 21 = .ok (.iaload, 1) := by decide +kernel
theorem dX5_carryOutNumber_22 : decode cX5_carryOutNumber 22 = .ok (.invokevirtual 74, 3) := by decide +kernel
theorem dX5_carryOutNumber_25 : decode cX5_carryOutNumber 25 = .ok (.istore_n 3, 1) := by decide +kernel
theorem dX5_carryOutNumber_26 : decode cX5_carryOutNumber 26 = .ok (.iload_n 3, 1) := by decide +kernel
theorem dX5_carryOutNumber_27 : decode cX5_carryOutNumber 27 = .ok (.iconst (-1), 1) := by decide +kernel
theorem dX5_carryOutNumber_28 : decode cX5_carryOutNumber 28 = .ok (.if_icmp .eq 10, 3) := by decide +kernel
theorem dX5_carryOutNumber_31 : decode cX5_carryOutNumber 31 = .ok (.aload_n 0, 1) := by decide +kernel
theorem dX5_carryOutNumber_32 : decode cX5_carryOutNumber 32 = .ok (.invokevirtual 82, 3) := by decide +kernel
theorem dX5_carryOutNumber_35 : decode cX5_carryOutNumber 35 = .ok (.ifCond .ne 5, 3) := by decide +kernel
theorem dX5_carryOutNumber_38 : decode cX5_carryOutNumber 38 = .ok (.iconst 0, 1) := by decide +kernel
theorem dX5_carryOutNumber_39 : decode cX5_carryOutNumber 39 = .ok (.ireturn, 1) := by decide +kernel
theorem dX5_carryOutNumber_40 : decode cX5_carryOutNumber 40 = .ok (.aload_n 1, 1) := by decide +kernel
theorem dX5_carryOutNumber_41 : decode cX5_carryOutNumber 41 = .ok (.getfield 117, 3) := by decide +kernel
theorem dX5_carryOutNumber_44 : decode cX5_carryOutNumber 44 = .ok (.iload_n 2, 1) := by decide +kernel
theorem dX5_carryOutNumber_45 : decode cX5_carryOutNumber 45 = .ok (.iload_n 3, 1) := by decide +kernel
theorem dX5_carryOutNumber_46 : decode cX5_carryOutNumber 46 = .ok (.iastore, 1) := by decide +kernel
theorem dX5_carryOutNumber_47 : decode cX5_carryOutNumber 47 = .ok (.iconst 1, 1) := by decide +kernel
theorem dX5_carryOutNumber_48 : decode cX5_carryOutNumber 48 = .ok (.ireturn, 1) := by decide +kernel
set_option maxRecDepth 20000 in
theorem ggX5_readSize_X5_readToken : GoodIn wsX5_readSize wsX5_readToken := goodIn_r _ [5, 6, 7, 8, 9, 10, 11, 12, 4, 13, 14, 15, 16, 17, 18, 19, 20, 21, 22, 76, 77, 78, 79, 80] (by decide +kernel) (by decide +kernel)
set_option maxRecDepth 20000 in
theorem gX5_readSize_X5_readToken : GoodIn wsX5_readSize (wsV RX5 32 RX5 yX5_readToken wsX5_readToken) := goodIn_app (goodIn_of _ (by decide +kernel)) ggX5_readSize_X5_readToken
set_option maxRecDepth 20000 in
theorem ggX5_readSize_X5_isWord : GoodIn wsX5_readSize wsX5_isWord := goodIn_r _ [26, 9, 6, 7, 27, 28, 29, 30, 31, 32, 33, 34, 35, 36, 37, 38, 19, 20, 21, 4, 22, 8, 18, 39, 40, 41, 42, 43, 44, 45, 46, 47, 48, 49, 50, 51, 52, 53, 54, 55, 56, 57, 58, 59, 60, 61, 62, 63, 64, 65, 66, 67, 68, 69, 70, 71, 72, 73, 74, 75, 76, 77, 78, 79, 80] (by decide +kernel) (by decide +kernel)
set_option maxRecDepth 20000 in
theorem gX5_readSize_X5_isWord : GoodIn wsX5_readSize (wsV RX5 41 RX5 yX5_isWord wsX5_isWord) := goodIn_app (goodIn_of _ (by decide +kernel)) ggX5_readSize_X5_isWord
theorem dX5_readSize_0 : decode cX5_readSize 0 = .ok (.aload_n 0, 1) := by decide +kernel
theorem dX5_readSize_1 : decode cX5_readSize 1 = .ok (.invokevirtual 32, 3) := by decide +kernel
theorem dX5_readSize_4 : decode cX5_readSize 4 = .ok (.aload_n 0, 1) := by decide +kernel
theorem dX5_readSize_5 : decode cX5_readSize 5 = .ok (.ldc 120, 2) := by decide +kernel
theorem dX5_readSize_7 : decode cX5_readSize 7 = .ok (.invokevirtual 41, 3) := by decide +kernel
theorem dX5_readSize_10 : decode cX5_readSize 10 = .ok (.ifCond .eq 5, 3) := by decide +kernel
theorem dX5_readSize_13 : decode cX5_readSize 13 = .ok (.iconst 0, 1) := by decide +kernel
theorem dX5_readSize_14 : decode cX5_readSize 14 = .ok (.ireturn, 1) := by decide +kernel
theorem dX5_readSize_15 : decode cX5_readSize 15 = .ok (.aload_n 0, 1) := by decide +kernel
theorem dX5_readSize_16 : decode cX5_readSize 16 = .ok (.ldc 122, 2) := by decide +kernel
theorem dX5_readSize_18 : decode cX5_readSize 18 = .ok (.invokevirtual 41, 3) := by decide +kernel
theorem dX5_readSize_21 : decode cX5_readSize 21 = .ok (.ifCond .eq 5, 3) := by decide +kernel
theorem dX5_readSize_24 : decode cX5_readSize 24 = .ok (.iconst 1, 1) := by decide +kernel
theorem dX5_readSize_25 : decode cX5_readSize 25 = .ok (.ireturn, 1) := by decide +kernel
theorem dX5_readSize_26 : decode cX5_readSize 26 = .ok (.aload_n 0, 1) := by decide +kernel
theorem dX5_readSize_27 : decode cX5_readSize 27 = .ok (.ldc 124, 2) := by decide +kernel
theorem dX5_readSize_29 : decode cX5_readSize 29 = .ok (.invokevirtual 41, 3) := by decide +kernel
theorem dX5_readSize_32 : decode cX5_readSize 32 = .ok (.ifCond .eq 7, 3) := by decide +kernel
theorem dX5_readSize_35 : decode cX5_readSize 35 = .ok (.iconst 2, 1) := by decide +kernel
theorem dX5_readSize_36 : decode cX5_readSize 36 = .ok (.goto 4, 3) := by decide +kernel
theorem dX5_readSize_39 : decode cX5_readSize 39 = .ok (.iconst (-1), 1) := by decide +kernel
theorem dX5_readSize_40 : decode cX5_readSize 40 = .ok (.ireturn, 1) := by decide +kernel
set_option maxRecDepth 20000 in
theorem ggX5_readTariff_X5_readToken : GoodIn wsX5_readTariff wsX5_readToken := goodIn_r _ [5, 6, 7, 8, 9, 10, 11, 12, 4, 13, 14, 15, 16, 17, 18, 19, 20, 21, 22, 76, 77, 78, 79, 80] (by decide +kernel) (by decide +kernel)
set_option maxRecDepth 20000 in
theorem gX5_readTariff_X5_readToken : GoodIn wsX5_readTariff (wsV RX5 32 RX5 yX5_readToken wsX5_readToken) := goodIn_app (goodIn_of _ (by decide +kernel)) ggX5_readTariff_X5_readToken
set_option maxRecDepth 20000 in
theorem ggX5_readTariff_X5_isWord : GoodIn wsX5_readTariff wsX5_isWord := goodIn_r _ [26, 9, 6, 7, 27, 28, 29, 30, 31, 32, 33, 34, 35, 36, 37, 38, 19, 20, 21, 4, 22, 8, 18, 39, 40, 41, 42, 43, 44, 45, 46, 47, 48, 49, 50, 51, 52, 53, 54, 55, 56, 57, 58, 59, 60, 61, 62, 63, 64, 65, 66, 67, 68, 69, 70, 71, 72, 73, 74, 75, 76, 77, 78, 79, 80] (by decide +kernel) (by decide +kernel)
set_option maxRecDepth 20000 in
theorem gX5_readTariff_X5_isWord : GoodIn wsX5_readTariff (wsV RX5 41 RX5 yX5_isWord wsX5_isWord) := goodIn_app (goodIn_of _ (by decide +kernel)) ggX5_readTariff_X5_isWord
theorem dX5_readTariff_0 : decode cX5_readTariff 0 = .ok (.aload_n 0, 1) := by decide +kernel
theorem dX5_readTariff_1 : decode cX5_readTariff 1 = .ok (.invokevirtual 32, 3) := by decide +kernel
theorem dX5_readTariff_4 : decode cX5_readTariff 4 = .ok (.aload_n 0, 1) := by decide +kernel
theorem dX5_readTariff_5 : decode cX5_readTariff 5 = .ok (.ldc 126, 2) := by decide +kernel
theorem dX5_readTariff_7 : decode cX5_readTariff 7 = .ok (.invokevirtual 41, 3) := by decide +kernel
theorem dX5_readTariff_10 : decode cX5_readTariff 10 = .ok (.ifCond .eq 5, 3) := by decide +kernel
theorem dX5_readTariff_13 : decode cX5_readTariff 13 = .ok (.iconst 0, 1) := by decide +kernel
theorem dX5_readTariff_14 : decode cX5_readTariff 14 = .ok (.ireturn, 1) := by decide +kernel
theorem dX5_readTariff_15 : decode cX5_readTariff 15 = .ok (.aload_n 0, 1) := by decide +kernel
theorem dX5_readTariff_16 : decode cX5_readTariff 16 = .ok (.ldc 128, 2) := by decide +kernel
theorem dX5_readTariff_18 : decode cX5_readTariff 18 = .ok (.invokevirtual 41, 3) := by decide +kernel
theorem dX5_readTariff_21 : decode cX5_readTariff 21 = .ok (.ifCond .eq 7, 3) := by decide +kernel
theorem dX5_readTariff_24 : decode cX5_readTariff 24 = .ok (.iconst 1, 1) := by decide +kernel
theorem dX5_readTariff_25 : decode cX5_readTariff 25 = .ok (.goto 4, 3) := by decide +kernel
theorem dX5_readTariff_28 : decode cX5_readTariff 28 = .ok (.iconst (-1), 1) := by decide +kernel
theorem dX5_readTariff_29 : decode cX5_readTariff 29 = .ok (.ireturn, 1) := by decide +kernel
set_option maxRecDepth 20000 in
theorem ggX5_readNumber_X5_readToken : GoodIn wsX5_readNumber wsX5_readToken := goodIn_r _ [8, 3, 2, 9, 1, 10, 11, 12, 7, 13, 14, 15, 16, 17, 18, 19, 20, 21, 22, 31, 32, 33, 34, 35] (by decide +kernel) (by decide +kernel)
set_option maxRecDepth 20000 in
theorem gX5_readNumber_X5_readToken : GoodIn wsX5_readNumber (wsV RX5 32 RX5 yX5_readToken wsX5_readToken) := goodIn_app (goodIn_of _ (by decide +kernel)) ggX5_readNumber_X5_readToken
set_option maxRecDepth 20000 in
theorem ggX5_readNumber_X5_characterAt : GoodIn wsX5_readNumber wsX5_characterAt := goodIn_r _ [22, 9, 18, 31, 32, 33, 34, 35] (by decide +kernel) (by decide +kernel)
set_option maxRecDepth 20000 in
theorem gX5_readNumber_X5_characterAt : GoodIn wsX5_readNumber (wsV RX5 130 RX5 yX5_characterAt wsX5_characterAt) := goodIn_app (goodIn_of _ (by decide +kernel)) ggX5_readNumber_X5_characterAt
set_option maxRecDepth 20000 in
theorem ggX5_readNumber_X5_tokenValue : GoodIn wsX5_readNumber wsX5_tokenValue := goodIn_r _ [26, 2, 3, 27, 19, 20, 21, 7, 22, 9, 18, 31, 32, 33, 34, 35] (by decide +kernel) (by decide +kernel)
set_option maxRecDepth 20000 in
theorem gX5_readNumber_X5_tokenValue : GoodIn wsX5_readNumber (wsV RX5 134 RX5 yX5_tokenValue wsX5_tokenValue) := goodIn_app (goodIn_of _ (by decide +kernel)) ggX5_readNumber_X5_tokenValue
set_option maxRecDepth 20000 in
theorem ggX5_readNumber_X6_isWithin : GoodIn wsX5_readNumber wsX6_isWithin := goodIn_r _ [30] (by decide +kernel) (by decide +kernel)
set_option maxRecDepth 20000 in
theorem gX5_readNumber_X6_isWithin_n106 : GoodIn wsX5_readNumber (wsX6_isWithin) := ggX5_readNumber_X6_isWithin
theorem dX5_readNumber_0 : decode cX5_readNumber 0 = .ok (.aload_n 0, 1) := by decide +kernel
theorem dX5_readNumber_1 : decode cX5_readNumber 1 = .ok (.invokevirtual 32, 3) := by decide +kernel
theorem dX5_readNumber_4 : decode cX5_readNumber 4 = .ok (.aload_n 0, 1) := by decide +kernel
theorem dX5_readNumber_5 : decode cX5_readNumber 5 = .ok (.getfield 19, 3) := by decide +kernel
theorem dX5_readNumber_8 : decode cX5_readNumber 8 = .ok (.iconst 2, 1) := by decide +kernel
theorem dX5_readNumber_9 : decode cX5_readNumber 9 = .ok (.if_icmp .eq 5, 3) := by decide +kernel
theorem dX5_readNumber_12 : decode cX5_readNumber 12 = .ok (.iconst (-1), 1) := by decide +kernel
theorem dX5_readNumber_13 : decode cX5_readNumber 13 = .ok (.ireturn, 1) := by decide +kernel
theorem dX5_readNumber_14 : decode cX5_readNumber 14 = .ok (.aload_n 0, 1) := by decide +kernel
theorem dX5_readNumber_15 : decode cX5_readNumber 15 = .ok (.aload_n 0, 1) := by decide +kernel
theorem dX5_readNumber_16 : decode cX5_readNumber 16 = .ok (.getfield 22, 3) := by decide +kernel
theorem dX5_readNumber_19 : decode cX5_readNumber 19 = .ok (.invokevirtual 130, 3) := by decide +kernel
theorem dX5_readNumber_22 : decode cX5_readNumber 22 = .ok (.bipush 48, 2) := by decide +kernel
theorem dX5_readNumber_24 : decode cX5_readNumber 24 = .ok (.if_icmp .ne 20, 3) := by decide +kernel
theorem dX5_readNumber_27 : decode cX5_readNumber 27 = .ok (.aload_n 0, 1) := by decide +kernel
theorem dX5_readNumber_28 : decode cX5_readNumber 28 = .ok (.getfield 25, 3) := by decide +kernel
theorem dX5_readNumber_31 : decode cX5_readNumber 31 = .ok (.aload_n 0, 1) := by decide +kernel
theorem dX5_readNumber_32 : decode cX5_readNumber 32 = .ok (.getfield 22, 3) := by decide +kernel
theorem dX5_readNumber_35 : decode cX5_readNumber 35 = .ok (.isub, 1) := by decide +kernel
theorem dX5_readNumber_36 : decode cX5_readNumber 36 = .ok (.iconst 1, 1) := by decide +kernel
theorem dX5_readNumber_37 : decode cX5_readNumber 37 = .ok (.if_icmp .le 7, 3) := by decide +kernel
theorem dX5_readNumber_40 : decode cX5_readNumber 40 = .ok (.iconst 1, 1) := by decide +kernel
theorem dX5_readNumber_41 : decode cX5_readNumber 41 = .ok (.goto 4, 3) := by decide +kernel
theorem dX5_readNumber_44 : decode cX5_readNumber 44 = .ok (.iconst 0, 1) := by decide +kernel
theorem dX5_readNumber_45 : decode cX5_readNumber 45 = .ok (.istore_n 3, 1) := by decide +kernel
theorem dX5_readNumber_46 : decode cX5_readNumber 46 = .ok (.aload_n 0, 1) := by decide +kernel
theorem dX5_readNumber_47 : decode cX5_readNumber 47 = .ok (.invokevirtual 134, 3) := by decide +kernel
theorem dX5_readNumber_50 : decode cX5_readNumber 50 = .ok (.istore 4, 2) := by decide +kernel
theorem dX5_readNumber_52 : decode cX5_readNumber 52 = .ok (.iload_n 3, 1) := by decide +kernel
theorem dX5_readNumber_53 : decode cX5_readNumber 53 = .ok (.ifCond .ne 18, 3) := by decide +kernel
theorem dX5_readNumber_56 : decode cX5_readNumber 56 = .ok (.iload 4, 2) := by decide +kernel
theorem dX5_readNumber_58 : decode cX5_readNumber 58 = .ok (.iload_n 1, 1) := by decide +kernel
theorem dX5_readNumber_59 : decode cX5_readNumber 59 = .ok (.iload_n 2, 1) := by decide +kernel
theorem dX5_readNumber_60 : decode cX5_readNumber 60 = .ok (.invokestatic 106, 3) := by decide +kernel
theorem dX5_readNumber_63 : decode cX5_readNumber 63 = .ok (.ifCond .eq 8, 3) := by decide +kernel
theorem dX5_readNumber_66 : decode cX5_readNumber 66 = .ok (.iload 4, 2) := by decide +kernel
theorem dX5_readNumber_68 : decode cX5_readNumber 68 = .ok (.goto 4, 3) := by decide +kernel
theorem dX5_readNumber_71 : decode cX5_readNumber 71 = .ok (.iconst (-1), 1) := by decide +kernel
theorem dX5_readNumber_72 : decode cX5_readNumber 72 = .ok (.ireturn, 1) := by decide +kernel
set_option maxRecDepth 20000 in
theorem ggX5_readSemicolon_X5_readToken : GoodIn wsX5_readSemicolon wsX5_readToken := goodIn_r _ [7, 8, 2, 9, 1, 10, 11, 12, 6, 13, 14, 15, 16, 17, 18, 19, 20, 21, 22, 23, 24, 25, 26, 27] (by decide +kernel) (by decide +kernel)
set_option maxRecDepth 20000 in
theorem gX5_readSemicolon_X5_readToken : GoodIn wsX5_readSemicolon (wsV RX5 32 RX5 yX5_readToken wsX5_readToken) := goodIn_app (goodIn_of _ (by decide +kernel)) ggX5_readSemicolon_X5_readToken
set_option maxRecDepth 20000 in
theorem ggX5_readSemicolon_X5_characterAt : GoodIn wsX5_readSemicolon wsX5_characterAt := goodIn_r _ [22, 9, 18, 23, 24, 25, 26, 27] (by decide +kernel) (by decide +kernel)
set_option maxRecDepth 20000 in
theorem gX5_readSemicolon_X5_characterAt : GoodIn wsX5_readSemicolon (wsV RX5 130 RX5 yX5_characterAt wsX5_characterAt) := goodIn_app (goodIn_of _ (by decide +kernel)) ggX5_readSemicolon_X5_characterAt
theorem dX5_readSemicolon_0 : decode cX5_readSemicolon 0 = .ok (.aload_n 0, 1) := by decide +kernel
theorem dX5_readSemicolon_1 : decode cX5_readSemicolon 1 = .ok (.invokevirtual 32, 3) := by decide +kernel
theorem dX5_readSemicolon_4 : decode cX5_readSemicolon 4 = .ok (.aload_n 0, 1) := by decide +kernel
theorem dX5_readSemicolon_5 : decode cX5_readSemicolon 5 = .ok (.getfield 19, 3) := by decide +kernel
theorem dX5_readSemicolon_8 : decode cX5_readSemicolon 8 = .ok (.iconst 3, 1) := by decide +kernel
theorem dX5_readSemicolon_9 : decode cX5_readSemicolon 9 = .ok (.if_icmp .ne 20, 3) := by decide +kernel
theorem dX5_readSemicolon_12 : decode cX5_readSemicolon 12 = .ok (.aload_n 0, 1) := by decide +kernel
theorem dX5_readSemicolon_13 : decode cX5_readSemicolon 13 = .ok (.aload_n 0, 1) := by decide +kernel
theorem dX5_readSemicolon_14 : decode cX5_readSemicolon 14 = .ok (.getfield 22, 3) := by decide +kernel
theorem dX5_readSemicolon_17 : decode cX5_readSemicolon 17 = .ok (.invokevirtual 130, 3) := by decide +kernel
theorem dX5_readSemicolon_20 : decode cX5_readSemicolon 20 = .ok (.bipush 59, 2) := by decide +kernel
theorem dX5_readSemicolon_22 : decode cX5_readSemicolon 22 = .ok (.if_icmp .ne 7, 3) := by decide +kernel
theorem dX5_readSemicolon_25 : decode cX5_readSemicolon 25 = .ok (.iconst 1, 1) := by decide +kernel
theorem dX5_readSemicolon_26 : decode cX5_readSemicolon 26 = .ok (.goto 4, 3) := by decide +kernel
theorem dX5_readSemicolon_29 : decode cX5_readSemicolon 29 = .ok (.iconst 0, 1) := by decide +kernel
theorem dX5_readSemicolon_30 : decode cX5_readSemicolon 30 = .ok (.ireturn, 1) := by decide +kernel
set_option maxRecDepth 20000 in
theorem ggX5_tokenValue_X5_characterAt : GoodIn wsX5_tokenValue wsX5_characterAt := goodIn_r _ [8, 9, 10, 11, 12, 13, 14, 15] (by decide +kernel) (by decide +kernel)
set_option maxRecDepth 20000 in
theorem gX5_tokenValue_X5_characterAt : GoodIn wsX5_tokenValue (wsV RX5 130 RX5 yX5_characterAt wsX5_characterAt) := goodIn_app (goodIn_of _ (by decide +kernel)) ggX5_tokenValue_X5_characterAt
theorem dX5_tokenValue_0 : decode cX5_tokenValue 0 = .ok (.iconst 0, 1) := by decide +kernel
theorem dX5_tokenValue_1 : decode cX5_tokenValue 1 = .ok (.istore_n 1, 1) := by decide +kernel
theorem dX5_tokenValue_2 : decode cX5_tokenValue 2 = .ok (.aload_n 0, 1) := by decide +kernel
theorem dX5_tokenValue_3 : decode cX5_tokenValue 3 = .ok (.getfield 22, 3) := by decide +kernel
theorem dX5_tokenValue_6 : decode cX5_tokenValue 6 = .ok (.istore_n 2, 1) := by decide +kernel
theorem dX5_tokenValue_7 : decode cX5_tokenValue 7 = .ok (.iload_n 2, 1) := by decide +kernel
theorem dX5_tokenValue_8 : decode cX5_tokenValue 8 = .ok (.aload_n 0, 1) := by decide +kernel
theorem dX5_tokenValue_9 : decode cX5_tokenValue 9 = .ok (.getfield 25, 3) := by decide +kernel
theorem dX5_tokenValue_12 : decode cX5_tokenValue 12 = .ok (.if_icmp .ge 29, 3) := by decide +kernel
theorem dX5_tokenValue_15 : decode cX5_tokenValue 15 = .ok (.iload_n 1, 1) := by decide +kernel
theorem dX5_tokenValue_16 : decode cX5_tokenValue 16 = .ok (.ldc 137, 2) := by decide +kernel
theorem dX5_tokenValue_18 : decode cX5_tokenValue 18 = .ok (.if_icmp .ge 23, 3) := by decide +kernel
theorem dX5_tokenValue_21 : decode cX5_tokenValue 21 = .ok (.iload_n 1, 1) := by decide +kernel
theorem dX5_tokenValue_22 : decode cX5_tokenValue 22 = .ok (.bipush 10, 2) := by decide +kernel
theorem dX5_tokenValue_24 : decode cX5_tokenValue 24 = .ok (.imul, 1) := by decide +kernel
theorem dX5_tokenValue_25 : decode cX5_tokenValue 25 = .ok (.aload_n 0, 1) := by decide +kernel
theorem dX5_tokenValue_26 : decode cX5_tokenValue 26 = .ok (.iload_n 2, 1) := by decide +kernel
theorem dX5_tokenValue_27 : decode cX5_tokenValue 27 = .ok (.invokevirtual 130, 3) := by decide +kernel
theorem dX5_tokenValue_30 : decode cX5_tokenValue 30 = .ok (.bipush 48, 2) := by decide +kernel
theorem dX5_tokenValue_32 : decode cX5_tokenValue 32 = .ok (.isub, 1) := by decide +kernel
theorem dX5_tokenValue_33 : decode cX5_tokenValue 33 = .ok (.iadd, 1) := by decide +kernel
theorem dX5_tokenValue_34 : decode cX5_tokenValue 34 = .ok (.istore_n 1, 1) := by decide +kernel
theorem dX5_tokenValue_35 : decode cX5_tokenValue 35 = .ok (.iinc 2 1, 3) := by decide +kernel
theorem dX5_tokenValue_38 : decode cX5_tokenValue 38 = .ok (.goto (-31), 3) := by decide +kernel
theorem dX5_tokenValue_41 : decode cX5_tokenValue 41 = .ok (.iload_n 1, 1) := by decide +kernel
theorem dX5_tokenValue_42 : decode cX5_tokenValue 42 = .ok (.ireturn, 1) := by decide +kernel
set_option maxRecDepth 20000 in
theorem ggX5_isWord_J0_length_8abf5 : GoodIn wsX5_isWord wsJ0_length_8abf5 := goodIn_r _ [8, 9, 10, 11, 12, 7, 13, 14, 15] (by decide +kernel) (by decide +kernel)
set_option maxRecDepth 20000 in
theorem gX5_isWord_J0_length_8abf5 : GoodIn wsX5_isWord (wsV RX5 138 RJ0 yJ0_length_8abf5 wsJ0_length_8abf5) := goodIn_app (goodIn_of _ (by decide +kernel)) ggX5_isWord_J0_length_8abf5
set_option maxRecDepth 20000 in
theorem ggX5_isWord_X5_characterAt : GoodIn wsX5_isWord wsX5_characterAt := goodIn_r _ [20, 21, 22, 60, 61, 62, 63, 64] (by decide +kernel) (by decide +kernel)
set_option maxRecDepth 20000 in
theorem gX5_isWord_X5_characterAt : GoodIn wsX5_isWord (wsV RX5 130 RX5 yX5_characterAt wsX5_characterAt) := goodIn_app (goodIn_of _ (by decide +kernel)) ggX5_isWord_X5_characterAt
set_option maxRecDepth 20000 in
theorem ggX5_isWord_J0_charAt_5068e : GoodIn wsX5_isWord wsJ0_charAt_5068e := goodIn_r _ [26, 9, 27, 28, 29, 7, 30, 14, 15, 31, 32, 33, 34, 35, 36, 37, 38, 39, 40, 41, 42, 43, 44, 45, 46, 47, 48, 49, 50, 51, 52, 53, 54, 55, 56, 57, 58, 59] (by decide +kernel) (by decide +kernel)
set_option maxRecDepth 20000 in
theorem gX5_isWord_J0_charAt_5068e : GoodIn wsX5_isWord (wsV RX5 142 RJ0 yJ0_charAt_5068e wsJ0_charAt_5068e) := goodIn_app (goodIn_of _ (by decide +kernel)) ggX5_isWord_J0_charAt_5068e
theorem dX5_isWord_0 : decode cX5_isWord 0 = .ok (.aload_n 0, 1) := by decide +kernel
theorem dX5_isWord_1 : decode cX5_isWord 1 = .ok (.getfield 19, 3) := by decide +kernel
theorem dX5_isWord_4 : decode cX5_isWord 4 = .ok (.iconst 1, 1) := by decide +kernel
theorem dX5_isWord_5 : decode cX5_isWord 5 = .ok (.if_icmp .ne 19, 3) := by decide +kernel
theorem dX5_isWord_8 : decode cX5_isWord 8 = .ok (.aload_n 0, 1) := by decide +kernel
theorem dX5_isWord_9 : decode cX5_isWord 9 = .ok (.getfield 25, 3) := by decide +kernel
theorem dX5_isWord_12 : decode cX5_isWord 12 = .ok (.aload_n 0, 1) := by decide +kernel
theorem dX5_isWord_13 : decode cX5_isWord 13 = .ok (.getfield 22, 3) := by decide +kernel
theorem dX5_isWord_16 : decode cX5_isWord 16 = .ok (.isub, 1) := by decide +kernel
theorem dX5_isWord_17 : decode cX5_isWord 17 = .ok (.aload_n 1, 1) := by decide +kernel
theorem dX5_isWord_18 : decode cX5_isWord 18 = .ok (.invokevirtual 138, 3) := by decide +kernel
theorem dX5_isWord_21 : decode cX5_isWord 21 = .ok (.if_icmp .eq 5, 3) := by decide +kernel
theorem dX5_isWord_24 : decode cX5_isWord 24 = .ok (.iconst 0, 1) := by decide +kernel
theorem dX5_isWord_25 : decode cX5_isWord 25 = .ok (.ireturn, 1) := by decide +kernel
theorem dX5_isWord_26 : decode cX5_isWord 26 = .ok (.iconst 0, 1) := by decide +kernel
theorem dX5_isWord_27 : decode cX5_isWord 27 = .ok (.istore_n 2, 1) := by decide +kernel
theorem dX5_isWord_28 : decode cX5_isWord 28 = .ok (.iload_n 2, 1) := by decide +kernel
theorem dX5_isWord_29 : decode cX5_isWord 29 = .ok (.aload_n 1, 1) := by decide +kernel
theorem dX5_isWord_30 : decode cX5_isWord 30 = .ok (.invokevirtual 138, 3) := by decide +kernel
theorem dX5_isWord_33 : decode cX5_isWord 33 = .ok (.if_icmp .ge 29, 3) := by decide +kernel
theorem dX5_isWord_36 : decode cX5_isWord 36 = .ok (.aload_n 0, 1) := by decide +kernel
theorem dX5_isWord_37 : decode cX5_isWord 37 = .ok (.aload_n 0, 1) := by decide +kernel
theorem dX5_isWord_38 : decode cX5_isWord 38 = .ok (.getfield 22, 3) := by decide +kernel
theorem dX5_isWord_41 : decode cX5_isWord 41 = .ok (.iload_n 2, 1) := by decide +kernel
theorem dX5_isWord_42 : decode cX5_isWord 42 = .ok (.iadd, 1) := by decide +kernel
theorem dX5_isWord_43 : decode cX5_isWord 43 = .ok (.invokevirtual 130, 3) := by decide +kernel
theorem dX5_isWord_46 : decode cX5_isWord 46 = .ok (.aload_n 1, 1) := by decide +kernel
theorem dX5_isWord_47 : decode cX5_isWord 47 = .ok (.iload_n 2, 1) := by decide +kernel
theorem dX5_isWord_48 : decode cX5_isWord 48 = .ok (.invokevirtual 142, 3) := by decide +kernel
theorem dX5_isWord_51 : decode cX5_isWord 51 = .ok (.if_icmp .eq 5, 3) := by decide +kernel
theorem dX5_isWord_54 : decode cX5_isWord 54 = .ok (.iconst 0, 1) := by decide +kernel
theorem dX5_isWord_55 : decode cX5_isWord 55 = .ok (.ireturn, 1) := by decide +kernel
theorem dX5_isWord_56 : decode cX5_isWord 56 = .ok (.iinc 2 1, 3) := by decide +kernel
theorem dX5_isWord_59 : decode cX5_isWord 59 = .ok (.goto (-31), 3) := by decide +kernel
theorem dX5_isWord_62 : decode cX5_isWord 62 = .ok (.iconst 1, 1) := by decide +kernel
theorem dX5_isWord_63 : decode cX5_isWord 63 = .ok (.ireturn, 1) := by decide +kernel
set_option maxRecDepth 20000 in
theorem ggX5_readToken_X5_behindRun : GoodIn wsX5_readToken wsX5_behindRun := goodIn_r _ [9, 10, 11, 12, 13, 3, 14, 19, 20, 21, 22, 23] (by decide +kernel) (by decide +kernel)
set_option maxRecDepth 20000 in
theorem gX5_readToken_X5_behindRun : GoodIn wsX5_readToken (wsV RX5 145 RX5 yX5_behindRun wsX5_behindRun) := goodIn_app (goodIn_of _ (by decide +kernel)) ggX5_readToken_X5_behindRun
set_option maxRecDepth 20000 in
theorem ggX5_readToken_X5_characterAt : GoodIn wsX5_readToken wsX5_characterAt := goodIn_r _ [18, 3, 14, 19, 20, 21, 22, 23] (by decide +kernel) (by decide +kernel)
set_option maxRecDepth 20000 in
theorem gX5_readToken_X5_characterAt : GoodIn wsX5_readToken (wsV RX5 130 RX5 yX5_characterAt wsX5_characterAt) := goodIn_app (goodIn_of _ (by decide +kernel)) ggX5_readToken_X5_characterAt
theorem dX5_readToken_0 : decode cX5_readToken 0 = .ok (.aload_n 0, 1) := by decide +kernel
theorem dX5_readToken_1 : decode cX5_readToken 1 = .ok (.aload_n 0, 1) := by decide +kernel
theorem dX5_readToken_2 : decode cX5_readToken 2 = .ok (.aload_n 0, 1) := by decide +kernel
theorem dX5_readToken_3 : decode cX5_readToken 3 = .ok (.getfield 25, 3) := by decide +kernel
theorem dX5_readToken_6 : decode cX5_readToken 6 = .ok (.bipush 32, 2) := by decide +kernel
theorem dX5_readToken_8 : decode cX5_readToken 8 = .ok (.bipush 32, 2) := by decide +kernel
theorem dX5_readToken_10 : decode cX5_readToken 10 = .ok (.invokevirtual 145, 3) := by decide +kernel
theorem dX5_readToken_13 : decode cX5_readToken 13 = .ok (.putfield 22, 3) := by decide +kernel
theorem dX5_readToken_16 : decode cX5_readToken 16 = .ok (.aload_n 0, 1) := by decide +kernel
theorem dX5_readToken_17 : decode cX5_readToken 17 = .ok (.getfield 22, 3) := by decide +kernel
theorem dX5_readToken_20 : decode cX5_readToken 20 = .ok (.aload_n 0, 1) := by decide +kernel
theorem dX5_readToken_21 : decode cX5_readToken 21 = .ok (.getfield 9, 3) := by decide +kernel
theorem dX5_readToken_24 : decode cX5_readToken 24 = .ok (.if_icmp .lt 17, 3) := by decide +kernel
theorem dX5_readToken_27 : decode cX5_readToken 27 = .ok (.aload_n 0, 1) := by decide +kernel
theorem dX5_readToken_28 : decode cX5_readToken 28 = .ok (.iconst 0, 1) := by decide +kernel
theorem dX5_readToken_29 : decode cX5_readToken 29 = .ok (.putfield 19, 3) := by decide +kernel
theorem dX5_readToken_32 : decode cX5_readToken 32 = .ok (.aload_n 0, 1) := by decide +kernel
theorem dX5_readToken_33 : decode cX5_readToken 33 = .ok (.aload_n 0, 1) := by decide +kernel
theorem dX5_readToken_34 : decode cX5_readToken 34 = .ok (.getfield 22, 3) := by decide +kernel
theorem dX5_readToken_37 : decode cX5_readToken 37 = .ok (.putfield 25, 3) := by decide +kernel
theorem dX5_readToken_40 : decode cX5_readToken 40 = .ok (.return_, 1) := by decide +kernel
theorem dX5_readToken_41 : decode cX5_readToken 41 = .ok (.aload_n 0, 1) := by decide +kernel
theorem dX5_readToken_42 : decode cX5_readToken 42 = .ok (.aload_n 0, 1) := by decide +kernel
theorem dX5_readToken_43 : decode cX5_readToken 43 = .ok (.getfield 22, 3) := by decide +kernel
theorem dX5_readToken_46 : decode cX5_readToken 46 = .ok (.invokevirtual 130, 3) := by decide +kernel
theorem dX5_readToken_49 : decode cX5_readToken 49 = .ok (.istore_n 1, 1) := by decide +kernel
theorem dX5_readToken_50 : decode cX5_readToken 50 = .ok (.iload_n 1, 1) := by decide +kernel
theorem dX5_readToken_51 : decode cX5_readToken 51 = .ok (.bipush 97, 2) := by decide +kernel
theorem dX5_readToken_53 : decode cX5_readToken 53 = .ok (.if_icmp .lt 33, 3) := by decide +kernel
theorem dX5_readToken_56 : decode cX5_readToken 56 = .ok (.iload_n 1, 1) := by decide +kernel
theorem dX5_readToken_57 : decode cX5_readToken 57 = .ok (.bipush 122, 2) := by decide +kernel
theorem dX5_readToken_59 : decode cX5_readToken 59 = .ok (.if_icmp .gt 27, 3) := by decide +kernel
theorem dX5_readToken_62 : decode cX5_readToken 62 = .ok (.aload_n 0, 1) := by decide +kernel
theorem dX5_readToken_63 : decode cX5_readToken 63 = .ok (.iconst 1, 1) := by decide +kernel
theorem dX5_readToken_64 : decode cX5_readToken 64 = .ok (.putfield 19, 3) := by decide +kernel
theorem dX5_readToken_67 : decode cX5_readToken 67 = .ok (.aload_n 0, 1) := by decide +kernel
theorem dX5_readToken_68 : decode cX5_readToken 68 = .ok (.aload_n 0, 1) := by decide +kernel
theorem dX5_readToken_69 : decode cX5_readToken 69 = .ok (.aload_n 0, 1) := by decide +kernel
theorem dX5_readToken_70 : decode cX5_readToken 70 = .ok (.getfield 22, 3) := by decide +kernel
theorem dX5_readToken_73 : decode cX5_readToken 73 = .ok (.bipush 97, 2) := by decide +kernel
theorem dX5_readToken_75 : decode cX5_readToken 75 = .ok (.bipush 122, 2) := by decide +kernel
theorem dX5_readToken_77 : decode cX5_readToken 77 = .ok (.invokevirtual 145, 3) := by decide +kernel
theorem dX5_readToken_80 : decode cX5_readToken 80 = .ok (.putfield 25, 3) := by decide +kernel
theorem dX5_readToken_83 : decode cX5_readToken 83 = .ok (.goto 54, 3) := by decide +kernel
theorem dX5_readToken_86 : decode cX5_readToken 86 = .ok (.iload_n 1, 1) := by decide +kernel
theorem dX5_readToken_87 : decode cX5_readToken 87 = .ok (.bipush 48, 2) := by decide +kernel
theorem dX5_readToken_89 : decode cX5_readToken 89 = .ok (.if_icmp .lt 33, 3) := by decide +kernel
theorem dX5_readToken_92 : decode cX5_readToken 92 = .ok (.iload_n 1, 1) := by decide +kernel
theorem dX5_readToken_93 : decode cX5_readToken 93 = .ok (.bipush 57, 2) := by decide +kernel
theorem dX5_readToken_95 : decode cX5_readToken 95 = .ok (.if_icmp .gt 27, 3) := by decide +kernel
theorem dX5_readToken_98 : decode cX5_readToken 98 = .ok (.aload_n 0, 1) := by decide +kernel
theorem dX5_readToken_99 : decode cX5_readToken 99 = .ok (.iconst 2, 1) := by decide +kernel
theorem dX5_readToken_100 : decode cX5_readToken 100 = .ok (.putfield 19, 3) := by decide +kernel
theorem dX5_readToken_103 : decode cX5_readToken 103 = .ok (.aload_n 0, 1) := by decide +kernel
theorem dX5_readToken_104 : decode cX5_readToken 104 = .ok (.aload_n 0, 1) := by decide +kernel
theorem dX5_readToken_105 : decode cX5_readToken 105 = .ok (.aload_n 0, 1) := by decide +kernel
theorem dX5_readToken_106 : decode cX5_readToken 106 = .ok (.getfield 22, 3) := by decide +kernel
theorem dX5_readToken_109 : decode cX5_readToken 109 = .ok (.bipush 48, 2) := by decide +kernel
theorem dX5_readToken_111 : decode cX5_readToken 111 = .ok (.bipush 57, 2) := by decide +kernel
theorem dX5_readToken_113 : decode cX5_readToken 113 = .ok (.invokevirtual 145, 3) := by decide +kernel
theorem dX5_readToken_116 : decode cX5_readToken 116 = .ok (.putfield 25, 3) := by decide +kernel
theorem dX5_readToken_119 : decode cX5_readToken 119 = .ok (.goto 18, 3) := by decide +kernel
theorem dX5_readToken_122 : decode cX5_readToken 122 = .ok (.aload_n 0, 1) := by decide +kernel
theorem dX5_readToken_123 : decode cX5_readToken 123 = .ok (.iconst 3, 1) := by decide +kernel
theorem dX5_readToken_124 : decode cX5_readToken 124 = .ok (.putfield 19, 3) := by decide +kernel
theorem dX5_readToken_127 : decode cX5_readToken 127 = .ok (.aload_n 0, 1) := by decide +kernel
theorem dX5_readToken_128 : decode cX5_readToken 128 = .ok (.aload_n 0, 1) := by decide +kernel
theorem dX5_readToken_129 : decode cX5_readToken 129 = .ok (.getfield 22, 3) := by decide +kernel
theorem dX5_readToken_132 : decode cX5_readToken 132 = .ok (.iconst 1, 1) := by decide +kernel
theorem dX5_readToken_133 : decode cX5_readToken 133 = .ok (.iadd, 1) := by decide +kernel
theorem dX5_readToken_134 : decode cX5_readToken 134 = .ok (.putfield 25, 3) := by decide +kernel
theorem dX5_readToken_137 : decode cX5_readToken 137 = .ok (.return_, 1) := by decide +kernel
theorem dX5_behindRun_0 : decode cX5_behindRun 0 = .ok (.iload_n 1, 1) := by decide +kernel
theorem dX5_behindRun_1 : decode cX5_behindRun 1 = .ok (.iconst 0, 1) := by decide +kernel
theorem dX5_behindRun_2 : decode cX5_behindRun 2 = .ok (.invokestatic 149, 3) := by decide +kernel
theorem dX5_behindRun_5 : decode cX5_behindRun 5 = .ok (.istore 4, 2) := by decide +kernel
theorem dX5_behindRun_7 : decode cX5_behindRun 7 = .ok (.iload 4, 2) := by decide +kernel
theorem dX5_behindRun_9 : decode cX5_behindRun 9 = .ok (.aload_n 0, 1) := by decide +kernel
theorem dX5_behindRun_10 : decode cX5_behindRun 10 = .ok (.getfield 9, 3) := by decide +kernel
theorem dX5_behindRun_13 : decode cX5_behindRun 13 = .ok (.if_icmp .ge 38, 3) := by decide +kernel
theorem dX5_behindRun_16 : decode cX5_behindRun 16 = .ok (.iload 4, 2) := by decide +kernel
theorem dX5_behindRun_18 : decode cX5_behindRun 18 = .ok (.bipush 120, 2) := by decide +kernel
theorem dX5_behindRun_20 : decode cX5_behindRun 20 = .ok (.if_icmp .ge 31, 3) := by decide +kernel
theorem dX5_behindRun_23 : decode cX5_behindRun 23 = .ok (.aload_n 0, 1) := by decide +kernel
theorem dX5_behindRun_24 : decode cX5_behindRun 24 = .ok (.getfield 15, 3) := by decide +kernel
theorem dX5_behindRun_27 : decode cX5_behindRun 27 = .ok (.iload 4, 2) := by decide +kernel
theorem dX5_behindRun_29 : decode cX5_behindRun 29 = .ok (.caload, 1) := by decide +kernel
theorem dX5_behindRun_30 : decode cX5_behindRun 30 = .ok (.iload_n 2, 1) := by decide +kernel
theorem dX5_behindRun_31 : decode cX5_behindRun 31 = .ok (.if_icmp .lt 20, 3) := by decide +kernel
theorem dX5_behindRun_34 : decode cX5_behindRun 34 = .ok (.aload_n 0, 1) := by decide +kernel
theorem dX5_behindRun_35 : decode cX5_behindRun 35 = .ok (.getfield 15, 3) := by decide +kernel
theorem dX5_behindRun_38 : decode cX5_behindRun 38 = .ok (.iload 4, 2) := by decide +kernel
theorem dX5_behindRun_40 : decode cX5_behindRun 40 = .ok (.caload, 1) := by decide +kernel
theorem dX5_behindRun_41 : decode cX5_behindRun 41 = .ok (.iload_n 3, 1) := by decide +kernel
theorem dX5_behindRun_42 : decode cX5_behindRun 42 = .ok (.if_icmp .gt 9, 3) := by decide +kernel
theorem dX5_behindRun_45 : decode cX5_behindRun 45 = .ok (.iinc 4 1, 3) := by decide +kernel
theorem dX5_behindRun_48 : decode cX5_behindRun 48 = .ok (.goto (-41), 3) := by decide +kernel
theorem dX5_behindRun_51 : decode cX5_behindRun 51 = .ok (.iload 4, 2) := by decide +kernel
theorem dX5_behindRun_53 : decode cX5_behindRun 53 = .ok (.ireturn, 1) := by decide +kernel
theorem dX5_characterAt_0 : decode cX5_characterAt 0 = .ok (.iload_n 1, 1) := by decide +kernel
theorem dX5_characterAt_1 : decode cX5_characterAt 1 = .ok (.ifCond .lt 26, 3) := by decide +kernel
theorem dX5_characterAt_4 : decode cX5_characterAt 4 = .ok (.iload_n 1, 1) := by decide +kernel
theorem dX5_characterAt_5 : decode cX5_characterAt 5 = .ok (.aload_n 0, 1) := by decide +kernel
theorem dX5_characterAt_6 : decode cX5_characterAt 6 = .ok (.getfield 9, 3) := by decide +kernel
theorem dX5_characterAt_9 : decode cX5_characterAt 9 = .ok (.if_icmp .ge 18, 3) := by decide +kernel
theorem dX5_characterAt_12 : decode cX5_characterAt 12 = .ok (.iload_n 1, 1) := by decide +kernel
theorem dX5_characterAt_13 : decode cX5_characterAt 13 = .ok (.bipush 120, 2) := by decide +kernel
theorem dX5_characterAt_15 : decode cX5_characterAt 15 = .ok (.if_icmp .ge 12, 3) := by decide +kernel
theorem dX5_characterAt_18 : decode cX5_characterAt 18 = .ok (.aload_n 0, 1) := by decide +kernel
theorem dX5_characterAt_19 : decode cX5_characterAt 19 = .ok (.getfield 15, 3) := by decide +kernel
theorem dX5_characterAt_22 : decode cX5_characterAt 22 = .ok (.iload_n 1, 1) := by decide +kernel
theorem dX5_characterAt_23 : decode cX5_characterAt 23 = .ok (.caload, 1) := by decide +kernel
theorem dX5_characterAt_24 : decode cX5_characterAt 24 = .ok (.goto 5, 3) := by decide +kernel
theorem dX5_characterAt_27 : decode cX5_characterAt 27 = .ok (.bipush 32, 2) := by decide +kernel
theorem dX5_characterAt_29 : decode cX5_characterAt 29 = .ok (.ireturn, 1) := by decide +kernel
