theorem dJ2_indexOf_4cfef_0 : decode cJ2_indexOf_4cfef 0 = .ok (.iload_n 2, 1) := by decide +kernel
theorem dJ2_indexOf_4cfef_1 : decode cJ2_indexOf_4cfef 1 = .ok (.iconst 0, 1) := by decide +kernel
theorem dJ2_indexOf_4cfef_2 : decode cJ2_indexOf_4cfef 2 = .ok (.invokestatic 224, 3) := by decide +kernel
theorem dJ2_indexOf_4cfef_5 : decode cJ2_indexOf_4cfef 5 = .ok (.istore_n 2, 1) := by decide +kernel
theorem dJ2_indexOf_4cfef_6 : decode cJ2_indexOf_4cfef 6 = .ok (.iload_n 3, 1) := by decide +kernel
theorem dJ2_indexOf_4cfef_7 : decode cJ2_indexOf_4cfef 7 = .ok (.aload_n 0, 1) := by decide +kernel
theorem dJ2_indexOf_4cfef_8 : decode cJ2_indexOf_4cfef 8 = .ok (.arraylength, 1) := by decide +kernel
theorem dJ2_indexOf_4cfef_9 : decode cJ2_indexOf_4cfef 9 = .ok (.iconst 1, 1) := by decide +kernel
theorem dJ2_indexOf_4cfef_10 : decode cJ2_indexOf_4cfef 10 = .ok (.ishr, 1) := by decide +kernel
theorem dJ2_indexOf_4cfef_11 : decode cJ2_indexOf_4cfef 11 = .ok (.invokestatic 183, 3) := by decide +kernel
theorem dJ2_indexOf_4cfef_14 : decode cJ2_indexOf_4cfef 14 = .ok (.istore_n 3, 1) := by decide +kernel
theorem dJ2_indexOf_4cfef_15 : decode cJ2_indexOf_4cfef 15 = .ok (.iload_n 2, 1) := by decide +kernel
theorem dJ2_indexOf_4cfef_16 : decode cJ2_indexOf_4cfef 16 = .ok (.iload_n 3, 1) := by decide +kernel
theorem dJ2_indexOf_4cfef_17 : decode cJ2_indexOf_4cfef 17 = .ok (.if_icmp .lt 5, 3) := by decide +kernel
theorem dJ2_indexOf_4cfef_20 : decode cJ2_indexOf_4cfef 20 = .ok (.iconst (-1), 1) := by decide +kernel
theorem dJ2_indexOf_4cfef_21 : decode cJ2_indexOf_4cfef 21 = .ok (.ireturn, 1) := by decide +kernel
theorem dJ2_indexOf_4cfef_22 : decode cJ2_indexOf_4cfef 22 = .ok (.iload_n 1, 1) := by decide +kernel
theorem dJ2_indexOf_4cfef_23 : decode cJ2_indexOf_4cfef 23 = .ok (.ldc 227, 2) := by decide +kernel
theorem dJ2_indexOf_4cfef_25 : decode cJ2_indexOf_4cfef 25 = .ok (.if_icmp .ge 11, 3) := by decide +kernel
theorem dJ2_indexOf_4cfef_28 : decode cJ2_indexOf_4cfef 28 = .ok (.aload_n 0, 1) := by decide +kernel
theorem dJ2_indexOf_4cfef_29 : decode cJ2_indexOf_4cfef 29 = .ok (.iload_n 1, 1) := by decide +kernel
theorem dJ2_indexOf_4cfef_30 : decode cJ2_indexOf_4cfef 30 = .ok (.iload_n 2, 1) := by decide +kernel
theorem dJ2_indexOf_4cfef_31 : decode cJ2_indexOf_4cfef 31 = .ok (.iload_n 3, 1) := by decide +kernel
theorem dJ2_indexOf_4cfef_32 : decode cJ2_indexOf_4cfef 32 = .ok (.invokestatic 228, 3) := by decide +kernel
theorem dJ2_indexOf_4cfef_35 : decode cJ2_indexOf_4cfef 35 = .ok (.ireturn, 1) := by decide +kernel
theorem dJ2_indexOf_4cfef_36 : decode cJ2_indexOf_4cfef 36 = .ok (.aload_n 0, 1) := by decide +kernel
theorem dJ2_indexOf_4cfef_37 : decode cJ2_indexOf_4cfef 37 = .ok (.iload_n 1, 1) := by decide +kernel
theorem dJ2_indexOf_4cfef_38 : decode cJ2_indexOf_4cfef 38 = .ok (.iload_n 2, 1) := by decide +kernel
theorem dJ2_indexOf_4cfef_39 : decode cJ2_indexOf_4cfef 39 = .ok (.iload_n 3, 1) := by decide +kernel
theorem dJ2_indexOf_4cfef_40 : decode cJ2_indexOf_4cfef 40 = .ok (.invokestatic 232, 3) := by decide +kernel
theorem dJ2_indexOf_4cfef_43 : decode cJ2_indexOf_4cfef 43 = .ok (.ireturn, 1) := by decide +kernel
set_option maxRecDepth 20000 in
theorem ggJ2_indexOfChar_4cfef_J2_checkBoundsBeginEnd_d044e : GoodIn wsJ2_indexOfChar_4cfef wsJ2_checkBoundsBeginEnd_d044e := goodIn_r _ [4, 5, 6, 3, 7, 8, 9, 10, 11, 12, 13, 14, 15, 16] (by decide +kernel) (by decide +kernel)
set_option maxRecDepth 20000 in
theorem gJ2_indexOfChar_4cfef_J2_checkBoundsBeginEnd_d044e : GoodIn wsJ2_indexOfChar_4cfef (va_wsS RJ2 96 yJ2_checkBoundsBeginEnd_d044e wsJ2_checkBoundsBeginEnd_d044e) := goodIn_app (goodIn_of _ (by decide +kernel)) ggJ2_indexOfChar_4cfef_J2_checkBoundsBeginEnd_d044e
set_option maxRecDepth 20000 in
theorem ggJ2_indexOfChar_4cfef_J2_indexOfCharUnsafe_4cfef : GoodIn wsJ2_indexOfChar_4cfef wsJ2_indexOfCharUnsafe_4cfef := goodIn_r _ [19, 20, 21, 3, 22, 23, 24, 25, 5, 6, 7] (by decide +kernel) (by decide +kernel)
set_option maxRecDepth 20000 in
theorem gJ2_indexOfChar_4cfef_J2_indexOfCharUnsafe_4cfef : GoodIn wsJ2_indexOfChar_4cfef (va_wsS RJ2 244 yJ2_indexOfCharUnsafe_4cfef wsJ2_indexOfCharUnsafe_4cfef) := goodIn_app (goodIn_of _ (by decide +kernel)) ggJ2_indexOfChar_4cfef_J2_indexOfCharUnsafe_4cfef
theorem dJ2_indexOfChar_4cfef_0 : decode cJ2_indexOfChar_4cfef 0 = .ok (.iload_n 2, 1) := by decide +kernel
theorem dJ2_indexOfChar_4cfef_1 : decode cJ2_indexOfChar_4cfef 1 = .ok (.iload_n 3, 1) := by decide +kernel
theorem dJ2_indexOfChar_4cfef_2 : decode cJ2_indexOfChar_4cfef 2 = .ok (.aload_n 0, 1) := by decide +kernel
theorem dJ2_indexOfChar_4cfef_3 : decode cJ2_indexOfChar_4cfef 3 = .ok (.invokestatic 96, 3) := by decide +kernel
theorem dJ2_indexOfChar_4cfef_6 : decode cJ2_indexOfChar_4cfef 6 = .ok (.aload_n 0, 1) := by decide +kernel
theorem dJ2_indexOfChar_4cfef_7 : decode cJ2_indexOfChar_4cfef 7 = .ok (.iload_n 1, 1) := by decide +kernel
theorem dJ2_indexOfChar_4cfef_8 : decode cJ2_indexOfChar_4cfef 8 = .ok (.iload_n 2, 1) := by decide +kernel
theorem dJ2_indexOfChar_4cfef_9 : decode cJ2_indexOfChar_4cfef 9 = .ok (.iload_n 3, 1) := by decide +kernel
theorem dJ2_indexOfChar_4cfef_10 : decode cJ2_indexOfChar_4cfef 10 = .ok (.invokestatic 244, 3) := by decide +kernel
theorem dJ2_indexOfChar_4cfef_13 : decode cJ2_indexOfChar_4cfef 13 = .ok (.ireturn, 1) := by decide +kernel
set_option maxRecDepth 20000 in
theorem ggJ2_indexOfCharUnsafe_4cfef_J2_getChar_3b067 : GoodIn wsJ2_indexOfCharUnsafe_4cfef wsJ2_getChar_3b067 := goodIn_r _ [4, 5, 6, 7, 8, 9, 3, 10] (by decide +kernel) (by decide +kernel)
set_option maxRecDepth 20000 in
theorem gJ2_indexOfCharUnsafe_4cfef_J2_getChar_3b067 : GoodIn wsJ2_indexOfCharUnsafe_4cfef (va_wsS RJ2 71 yJ2_getChar_3b067 wsJ2_getChar_3b067) := goodIn_app (goodIn_of _ (by decide +kernel)) ggJ2_indexOfCharUnsafe_4cfef_J2_getChar_3b067
theorem dJ2_indexOfCharUnsafe_4cfef_0 : decode cJ2_indexOfCharUnsafe_4cfef 0 = .ok (.iload_n 2, 1) := by decide +kernel
theorem dJ2_indexOfCharUnsafe_4cfef_1 : decode cJ2_indexOfCharUnsafe_4cfef 1 = .ok (.istore 4, 2) := by decide +kernel
theorem dJ2_indexOfCharUnsafe_4cfef_3 : decode cJ2_indexOfCharUnsafe_4cfef 3 = .ok (.iload 4, 2) := by decide +kernel
theorem dJ2_indexOfCharUnsafe_4cfef_5 : decode cJ2_indexOfCharUnsafe_4cfef 5 = .ok (.iload_n 3, 1) := by decide +kernel
theorem dJ2_indexOfCharUnsafe_4cfef_6 : decode cJ2_indexOfCharUnsafe_4cfef 6 = .ok (.if_icmp .ge 22, 3) := by decide +kernel
theorem dJ2_indexOfCharUnsafe_4cfef_9 : decode cJ2_indexOfCharUnsafe_4cfef 9 = .ok (.aload_n 0, 1) := by decide +kernel
theorem dJ2_indexOfCharUnsafe_4cfef_10 : decode cJ2_indexOfCharUnsafe_4cfef 10 = .ok (.iload 4, 2) := by decide +kernel
theorem dJ2_indexOfCharUnsafe_4cfef_12 : decode cJ2_indexOfCharUnsafe_4cfef 12 = .ok (.invokestatic 71, 3) := by decide +kernel
theorem dJ2_indexOfCharUnsafe_4cfef_15 : decode cJ2_indexOfCharUnsafe_4cfef 15 = .ok (.iload_n 1, 1) := by decide +kernel
theorem dJ2_indexOfCharUnsafe_4cfef_16 : decode cJ2_indexOfCharUnsafe_4cfef 16 = .ok (.if_icmp .ne 6, 3) := by decide +kernel
theorem dJ2_indexOfCharUnsafe_4cfef_19 : decode cJ2_indexOfCharUnsafe_4cfef 19 = .ok (.iload 4, 2) := by decide +kernel
theorem dJ2_indexOfCharUnsafe_4cfef_21 : decode cJ2_indexOfCharUnsafe_4cfef 21 = .ok (.ireturn, 1) := by decide +kernel
theorem dJ2_indexOfCharUnsafe_4cfef_22 : decode cJ2_indexOfCharUnsafe_4cfef 22 = .ok (.iinc 4 1, 3) := by decide +kernel
theorem dJ2_indexOfCharUnsafe_4cfef_25 : decode cJ2_indexOfCharUnsafe_4cfef 25 = .ok (.goto (-22), 3) := by decide +kernel
theorem dJ2_indexOfCharUnsafe_4cfef_28 : decode cJ2_indexOfCharUnsafe_4cfef 28 = .ok (.iconst (-1), 1) := by decide +kernel
theorem dJ2_indexOfCharUnsafe_4cfef_29 : decode cJ2_indexOfCharUnsafe_4cfef 29 = .ok (.ireturn, 1) := by decide +kernel
set_option maxRecDepth 20000 in
theorem ggJ2_indexOfSupplementary_4cfef_J11_isValidCodePoint_9a6ad : GoodIn wsJ2_indexOfSupplementary_4cfef wsJ11_isValidCodePoint_9a6ad := goodIn_r _ [4] (by decide +kernel) (by decide +kernel)
set_option maxRecDepth 20000 in
theorem gJ2_indexOfSupplementary_4cfef_J11_isValidCodePoint_9a6ad : GoodIn wsJ2_indexOfSupplementary_4cfef (va_wsS RJ2 164 yJ11_isValidCodePoint_9a6ad wsJ11_isValidCodePoint_9a6ad) := goodIn_app (goodIn_of _ (by decide +kernel)) ggJ2_indexOfSupplementary_4cfef_J11_isValidCodePoint_9a6ad
set_option maxRecDepth 20000 in
theorem ggJ2_indexOfSupplementary_4cfef_J11_highSurrogate_5068e : GoodIn wsJ2_indexOfSupplementary_4cfef wsJ11_highSurrogate_5068e := goodIn_r _ [7, 8] (by decide +kernel) (by decide +kernel)
set_option maxRecDepth 20000 in
theorem gJ2_indexOfSupplementary_4cfef_J11_highSurrogate_5068e : GoodIn wsJ2_indexOfSupplementary_4cfef (va_wsS RJ2 157 yJ11_highSurrogate_5068e wsJ11_highSurrogate_5068e) := goodIn_app (goodIn_of _ (by decide +kernel)) ggJ2_indexOfSupplementary_4cfef_J11_highSurrogate_5068e
set_option maxRecDepth 20000 in
theorem ggJ2_indexOfSupplementary_4cfef_J11_lowSurrogate_5068e : GoodIn wsJ2_indexOfSupplementary_4cfef wsJ11_lowSurrogate_5068e := goodIn_r _ [11, 12] (by decide +kernel) (by decide +kernel)
set_option maxRecDepth 20000 in
theorem gJ2_indexOfSupplementary_4cfef_J11_lowSurrogate_5068e : GoodIn wsJ2_indexOfSupplementary_4cfef (va_wsS RJ2 161 yJ11_lowSurrogate_5068e wsJ11_lowSurrogate_5068e) := goodIn_app (goodIn_of _ (by decide +kernel)) ggJ2_indexOfSupplementary_4cfef_J11_lowSurrogate_5068e
set_option maxRecDepth 20000 in
theorem ggJ2_indexOfSupplementary_4cfef_J2_checkBoundsBeginEnd_d044e : GoodIn wsJ2_indexOfSupplementary_4cfef wsJ2_checkBoundsBeginEnd_d044e := goodIn_r _ [16, 17, 18, 15, 19, 20, 21, 22, 23, 24, 25, 26, 27, 28] (by decide +kernel) (by decide +kernel)
set_option maxRecDepth 20000 in
theorem gJ2_indexOfSupplementary_4cfef_J2_checkBoundsBeginEnd_d044e : GoodIn wsJ2_indexOfSupplementary_4cfef (va_wsS RJ2 96 yJ2_checkBoundsBeginEnd_d044e wsJ2_checkBoundsBeginEnd_d044e) := goodIn_app (goodIn_of _ (by decide +kernel)) ggJ2_indexOfSupplementary_4cfef_J2_checkBoundsBeginEnd_d044e
set_option maxRecDepth 20000 in
theorem ggJ2_indexOfSupplementary_4cfef_J2_getChar_3b067 : GoodIn wsJ2_indexOfSupplementary_4cfef wsJ2_getChar_3b067 := goodIn_r _ [31, 32, 33, 34, 17, 18, 15, 19] (by decide +kernel) (by decide +kernel)
set_option maxRecDepth 20000 in
theorem gJ2_indexOfSupplementary_4cfef_J2_getChar_3b067 : GoodIn wsJ2_indexOfSupplementary_4cfef (va_wsS RJ2 71 yJ2_getChar_3b067 wsJ2_getChar_3b067) := goodIn_app (goodIn_of _ (by decide +kernel)) ggJ2_indexOfSupplementary_4cfef_J2_getChar_3b067
theorem dJ2_indexOfSupplementary_4cfef_0 : decode cJ2_indexOfSupplementary_4cfef 0 = .ok (.iload_n 1, 1) := by decide +kernel
theorem dJ2_indexOfSupplementary_4cfef_1 : decode cJ2_indexOfSupplementary_4cfef 1 = .ok (.invokestatic 164, 3) := by decide +kernel
theorem dJ2_indexOfSupplementary_4cfef_4 : decode cJ2_indexOfSupplementary_4cfef 4 = .ok (.ifCond .eq 65, 3) := by decide +kernel
theorem dJ2_indexOfSupplementary_4cfef_7 : decode cJ2_indexOfSupplementary_4cfef 7 = .ok (.iload_n 1, 1) := by decide +kernel
theorem dJ2_indexOfSupplementary_4cfef_8 : decode cJ2_indexOfSupplementary_4cfef 8 = .ok (.invokestatic 157, 3) := by decide +kernel
theorem dJ2_indexOfSupplementary_4cfef_11 : decode cJ2_indexOfSupplementary_4cfef 11 = .ok (.istore 4, 2) := by decide +kernel
theorem dJ2_indexOfSupplementary_4cfef_13 : decode cJ2_indexOfSupplementary_4cfef 13 = .ok (.iload_n 1, 1) := by decide +kernel
theorem dJ2_indexOfSupplementary_4cfef_14 : decode cJ2_indexOfSupplementary_4cfef 14 = .ok (.invokestatic 161, 3) := by decide +kernel
theorem dJ2_indexOfSupplementary_4cfef_17 : decode cJ2_indexOfSupplementary_4cfef 17 = .ok (.istore 5, 2) := by decide +kernel
theorem dJ2_indexOfSupplementary_4cfef_19 : decode cJ2_indexOfSupplementary_4cfef 19 = .ok (.iload_n 2, 1) := by decide +kernel
theorem dJ2_indexOfSupplementary_4cfef_20 : decode cJ2_indexOfSupplementary_4cfef 20 = .ok (.iload_n 3, 1) := by decide +kernel
theorem dJ2_indexOfSupplementary_4cfef_21 : decode cJ2_indexOfSupplementary_4cfef 21 = .ok (.aload_n 0, 1) := by decide +kernel
theorem dJ2_indexOfSupplementary_4cfef_22 : decode cJ2_indexOfSupplementary_4cfef 22 = .ok (.invokestatic 96, 3) := by decide +kernel
theorem dJ2_indexOfSupplementary_4cfef_25 : decode cJ2_indexOfSupplementary_4cfef 25 = .ok (.iload_n 2, 1) := by decide +kernel
theorem dJ2_indexOfSupplementary_4cfef_26 : decode cJ2_indexOfSupplementary_4cfef 26 = .ok (.istore 6, 2) := by decide +kernel
theorem dJ2_indexOfSupplementary_4cfef_28 : decode cJ2_indexOfSupplementary_4cfef 28 = .ok (.iload 6, 2) := by decide +kernel
theorem dJ2_indexOfSupplementary_4cfef_30 : decode cJ2_indexOfSupplementary_4cfef 30 = .ok (.iload_n 3, 1) := by decide +kernel
theorem dJ2_indexOfSupplementary_4cfef_31 : decode cJ2_indexOfSupplementary_4cfef 31 = .ok (.iconst 1, 1) := by decide +kernel
theorem dJ2_indexOfSupplementary_4cfef_32 : decode cJ2_indexOfSupplementary_4cfef 32 = .ok (.isub, 1) := by decide +kernel
theorem dJ2_indexOfSupplementary_4cfef_33 : decode cJ2_indexOfSupplementary_4cfef 33 = .ok (.if_icmp .ge 36, 3) := by decide +kernel
theorem dJ2_indexOfSupplementary_4cfef_36 : decode cJ2_indexOfSupplementary_4cfef 36 = .ok (.aload_n 0, 1) := by decide +kernel
theorem dJ2_indexOfSupplementary_4cfef_37 : decode cJ2_indexOfSupplementary_4cfef 37 = .ok (.iload 6, 2) := by decide +kernel
theorem dJ2_indexOfSupplementary_4cfef_39 : decode cJ2_indexOfSupplementary_4cfef 39 = .ok (.invokestatic 71, 3) := by decide +kernel
theorem dJ2_indexOfSupplementary_4cfef_42 : decode cJ2_indexOfSupplementary_4cfef 42 = .ok (.iload 4, 2) := by decide +kernel
theorem dJ2_indexOfSupplementary_4cfef_44 : decode cJ2_indexOfSupplementary_4cfef 44 = .ok (.if_icmp .ne 19, 3) := by decide +kernel
theorem dJ2_indexOfSupplementary_4cfef_47 : decode cJ2_indexOfSupplementary_4cfef 47 = .ok (.aload_n 0, 1) := by decide +kernel
theorem dJ2_indexOfSupplementary_4cfef_48 : decode cJ2_indexOfSupplementary_4cfef 48 = .ok (.iload 6, 2) := by decide +kernel
theorem dJ2_indexOfSupplementary_4cfef_50 : decode cJ2_indexOfSupplementary_4cfef 50 = .ok (.iconst 1, 1) := by decide +kernel
theorem dJ2_indexOfSupplementary_4cfef_51 : decode cJ2_indexOfSupplementary_4cfef 51 = .ok (.iadd, 1) := by decide +kernel
theorem dJ2_indexOfSupplementary_4cfef_52 : decode cJ2_indexOfSupplementary_4cfef 52 = .ok (.invokestatic 71, 3) := by decide +kernel
theorem dJ2_indexOfSupplementary_4cfef_55 : decode cJ2_indexOfSupplementary_4cfef 55 = .ok (.iload 5, 2) := by decide +kernel
theorem dJ2_indexOfSupplementary_4cfef_57 : decode cJ2_indexOfSupplementary_4cfef 57 = .ok (.if_icmp .ne 6, 3) := by decide +kernel
theorem dJ2_indexOfSupplementary_4cfef_60 : decode cJ2_indexOfSupplementary_4cfef 60 = .ok (.iload 6, 2) := by decide +kernel
theorem dJ2_indexOfSupplementary_4cfef_62 : decode cJ2_indexOfSupplementary_4cfef 62 = .ok (.ireturn, 1) := by decide +kernel
theorem dJ2_indexOfSupplementary_4cfef_63 : decode cJ2_indexOfSupplementary_4cfef 63 = .ok (.iinc 6 1, 3) := by decide +kernel
theorem dJ2_indexOfSupplementary_4cfef_66 : decode cJ2_indexOfSupplementary_4cfef 66 = .ok (.goto (-38), 3) := by decide +kernel
theorem dJ2_indexOfSupplementary_4cfef_69 : decode cJ2_indexOfSupplementary_4cfef 69 = .ok (.iconst (-1), 1) := by decide +kernel
theorem dJ2_indexOfSupplementary_4cfef_70 : decode cJ2_indexOfSupplementary_4cfef 70 = .ok (.ireturn, 1) := by decide +kernel
set_option maxRecDepth 20000 in
theorem ggJ2_charAt_3b067_J2_checkIndex_2214a : GoodIn wsJ2_charAt_3b067 wsJ2_checkIndex_2214a := goodIn_r _ [4, 5, 6, 3, 7, 8, 9, 10, 11, 12, 13, 14, 15, 16] (by decide +kernel) (by decide +kernel)
set_option maxRecDepth 20000 in
theorem gJ2_charAt_3b067_J2_checkIndex_2214a : GoodIn wsJ2_charAt_3b067 (va_wsS RJ2 67 yJ2_checkIndex_2214a wsJ2_checkIndex_2214a) := goodIn_app (goodIn_of _ (by decide +kernel)) ggJ2_charAt_3b067_J2_checkIndex_2214a
set_option maxRecDepth 20000 in
theorem ggJ2_charAt_3b067_J2_getChar_3b067 : GoodIn wsJ2_charAt_3b067 wsJ2_getChar_3b067 := goodIn_r _ [19, 20, 21, 22, 5, 6, 3, 7] (by decide +kernel) (by decide +kernel)
set_option maxRecDepth 20000 in
theorem gJ2_charAt_3b067_J2_getChar_3b067 : GoodIn wsJ2_charAt_3b067 (va_wsS RJ2 71 yJ2_getChar_3b067 wsJ2_getChar_3b067) := goodIn_app (goodIn_of _ (by decide +kernel)) ggJ2_charAt_3b067_J2_getChar_3b067
theorem dJ2_charAt_3b067_0 : decode cJ2_charAt_3b067 0 = .ok (.iload_n 1, 1) := by decide +kernel
theorem dJ2_charAt_3b067_1 : decode cJ2_charAt_3b067 1 = .ok (.aload_n 0, 1) := by decide +kernel
theorem dJ2_charAt_3b067_2 : decode cJ2_charAt_3b067 2 = .ok (.invokestatic 67, 3) := by decide +kernel
theorem dJ2_charAt_3b067_5 : decode cJ2_charAt_3b067 5 = .ok (.aload_n 0, 1) := by decide +kernel
theorem dJ2_charAt_3b067_6 : decode cJ2_charAt_3b067 6 = .ok (.iload_n 1, 1) := by decide +kernel
theorem dJ2_charAt_3b067_7 : decode cJ2_charAt_3b067 7 = .ok (.invokestatic 71, 3) := by decide +kernel
theorem dJ2_charAt_3b067_10 : decode cJ2_charAt_3b067 10 = .ok (.ireturn, 1) := by decide +kernel
set_option maxRecDepth 20000 in
theorem ggJ2_checkIndex_2214a_J2_length_9d52b : GoodIn wsJ2_checkIndex_2214a wsJ2_length_9d52b := goodIn_r _ [4] (by decide +kernel) (by decide +kernel)
set_option maxRecDepth 20000 in
theorem gJ2_checkIndex_2214a_J2_length_9d52b : GoodIn wsJ2_checkIndex_2214a (va_wsS RJ2 48 yJ2_length_9d52b wsJ2_length_9d52b) := goodIn_app (goodIn_of _ (by decide +kernel)) ggJ2_checkIndex_2214a_J2_length_9d52b
set_option maxRecDepth 20000 in
theorem ggJ2_checkIndex_2214a_J0_checkIndex_df160 : GoodIn wsJ2_checkIndex_2214a wsJ0_checkIndex_df160 := goodIn_r _ [8, 9, 10, 11, 12, 13] (by decide +kernel) (by decide +kernel)
set_option maxRecDepth 20000 in
theorem gJ2_checkIndex_2214a_J0_checkIndex_df160 : GoodIn wsJ2_checkIndex_2214a (va_wsS RJ2 414 yJ0_checkIndex_df160 wsJ0_checkIndex_df160) := goodIn_app (goodIn_of _ (by decide +kernel)) ggJ2_checkIndex_2214a_J0_checkIndex_df160
theorem dJ2_checkIndex_2214a_0 : decode cJ2_checkIndex_2214a 0 = .ok (.iload_n 0, 1) := by decide +kernel
theorem dJ2_checkIndex_2214a_1 : decode cJ2_checkIndex_2214a 1 = .ok (.aload_n 1, 1) := by decide +kernel
theorem dJ2_checkIndex_2214a_2 : decode cJ2_checkIndex_2214a 2 = .ok (.invokestatic 48, 3) := by decide +kernel
theorem dJ2_checkIndex_2214a_5 : decode cJ2_checkIndex_2214a 5 = .ok (.invokestatic 414, 3) := by decide +kernel
theorem dJ2_checkIndex_2214a_8 : decode cJ2_checkIndex_2214a 8 = .ok (.return_, 1) := by decide +kernel
set_option maxRecDepth 20000 in
theorem ggJ2_checkBoundsBeginEnd_d044e_J2_length_9d52b : GoodIn wsJ2_checkBoundsBeginEnd_d044e wsJ2_length_9d52b := goodIn_r _ [4] (by decide +kernel) (by decide +kernel)
set_option maxRecDepth 20000 in
theorem gJ2_checkBoundsBeginEnd_d044e_J2_length_9d52b : GoodIn wsJ2_checkBoundsBeginEnd_d044e (va_wsS RJ2 48 yJ2_length_9d52b wsJ2_length_9d52b) := goodIn_app (goodIn_of _ (by decide +kernel)) ggJ2_checkBoundsBeginEnd_d044e_J2_length_9d52b
set_option maxRecDepth 20000 in
theorem ggJ2_checkBoundsBeginEnd_d044e_J0_checkBoundsBeginEnd_23922 : GoodIn wsJ2_checkBoundsBeginEnd_d044e wsJ0_checkBoundsBeginEnd_23922 := goodIn_r _ [8, 9, 10, 11, 12, 13] (by decide +kernel) (by decide +kernel)
set_option maxRecDepth 20000 in
theorem gJ2_checkBoundsBeginEnd_d044e_J0_checkBoundsBeginEnd_23922 : GoodIn wsJ2_checkBoundsBeginEnd_d044e (va_wsS RJ2 241 yJ0_checkBoundsBeginEnd_23922 wsJ0_checkBoundsBeginEnd_23922) := goodIn_app (goodIn_of _ (by decide +kernel)) ggJ2_checkBoundsBeginEnd_d044e_J0_checkBoundsBeginEnd_23922
theorem dJ2_checkBoundsBeginEnd_d044e_0 : decode cJ2_checkBoundsBeginEnd_d044e 0 = .ok (.iload_n 0, 1) := by decide +kernel
theorem dJ2_checkBoundsBeginEnd_d044e_1 : decode cJ2_checkBoundsBeginEnd_d044e 1 = .ok (.iload_n 1, 1) := by decide +kernel
theorem dJ2_checkBoundsBeginEnd_d044e_2 : decode cJ2_checkBoundsBeginEnd_d044e 2 = .ok (.aload_n 2, 1) := by decide +kernel
theorem dJ2_checkBoundsBeginEnd_d044e_3 : decode cJ2_checkBoundsBeginEnd_d044e 3 = .ok (.invokestatic 48, 3) := by decide +kernel
theorem dJ2_checkBoundsBeginEnd_d044e_6 : decode cJ2_checkBoundsBeginEnd_d044e 6 = .ok (.invokestatic 241, 3) := by decide +kernel
theorem dJ2_checkBoundsBeginEnd_d044e_9 : decode cJ2_checkBoundsBeginEnd_d044e 9 = .ok (.return_, 1) := by decide +kernel
theorem dJ7_fill_53178_0 : decode cJ7_fill_53178 0 = .ok (.iconst 0, 1) := by decide +kernel
theorem dJ7_fill_53178_1 : decode cJ7_fill_53178 1 = .ok (.istore_n 2, 1) := by decide +kernel
theorem dJ7_fill_53178_2 : decode cJ7_fill_53178 2 = .ok (.aload_n 0, 1) := by decide +kernel
theorem dJ7_fill_53178_3 : decode cJ7_fill_53178 3 = .ok (.arraylength, 1) := by decide +kernel
theorem dJ7_fill_53178_4 : decode cJ7_fill_53178 4 = .ok (.istore_n 3, 1) := by decide +kernel
theorem dJ7_fill_53178_5 : decode cJ7_fill_53178 5 = .ok (.iload_n 2, 1) := by decide +kernel
theorem dJ7_fill_53178_6 : decode cJ7_fill_53178 6 = .ok (.iload_n 3, 1) := by decide +kernel
theorem dJ7_fill_53178_7 : decode cJ7_fill_53178 7 = .ok (.if_icmp .ge 13, 3) := by decide +kernel
theorem dJ7_fill_53178_10 : decode cJ7_fill_53178 10 = .ok (.aload_n 0, 1) := by decide +kernel
theorem dJ7_fill_53178_11 : decode cJ7_fill_53178 11 = .ok (.iload_n 2, 1) := by decide +kernel
theorem dJ7_fill_53178_12 : decode cJ7_fill_53178 12 = .ok (.iload_n 1, 1) := by decide +kernel
theorem dJ7_fill_53178_13 : decode cJ7_fill_53178 13 = .ok (.iastore, 1) := by decide +kernel
theorem dJ7_fill_53178_14 : decode cJ7_fill_53178 14 = .ok (.iinc 2 1, 3) := by decide +kernel
theorem dJ7_fill_53178_17 : decode cJ7_fill_53178 17 = .ok (.goto (-12), 3) := by decide +kernel
theorem dJ7_fill_53178_20 : decode cJ7_fill_53178 20 = .ok (.return_, 1) := by decide +kernel
theorem dJ3_checkIndex_8e157_0 : decode cJ3_checkIndex_8e157 0 = .ok (.iload_n 0, 1) := by decide +kernel
theorem dJ3_checkIndex_8e157_1 : decode cJ3_checkIndex_8e157 1 = .ok (.ifCond .lt 8, 3) := by decide +kernel
theorem dJ3_checkIndex_8e157_4 : decode cJ3_checkIndex_8e157 4 = .ok (.iload_n 0, 1) := by decide +kernel
theorem dJ3_checkIndex_8e157_5 : decode cJ3_checkIndex_8e157 5 = .ok (.iload_n 1, 1) := by decide +kernel
theorem dJ3_checkIndex_8e157_6 : decode cJ3_checkIndex_8e157 6 = .ok (.if_icmp .lt 10, 3) := by decide +kernel
theorem dJ3_checkIndex_8e157_9 : decode cJ3_checkIndex_8e157 9 = .ok (.aload_n 2, 1) := by decide +kernel
theorem dJ3_checkIndex_8e157_10 : decode cJ3_checkIndex_8e157 10 = .ok (.iload_n 0, 1) := by decide +kernel
theorem dJ3_checkIndex_8e157_11 : decode cJ3_checkIndex_8e157 11 = .ok (.iload_n 1, 1) := by decide +kernel
theorem dJ3_checkIndex_8e157_12 : decode cJ3_checkIndex_8e157 12 = .ok (.invokestatic 95, 3) := by decide +kernel
theorem dJ3_checkIndex_8e157_15 : decode cJ3_checkIndex_8e157 15 = .ok (.athrow, 1) := by decide +kernel
theorem dJ3_checkIndex_8e157_16 : decode cJ3_checkIndex_8e157 16 = .ok (.iload_n 0, 1) := by decide +kernel
theorem dJ3_checkIndex_8e157_17 : decode cJ3_checkIndex_8e157 17 = .ok (.ireturn, 1) := by decide +kernel
theorem dJ3_checkFromToIndex_8c36e_0 : decode cJ3_checkFromToIndex_8c36e 0 = .ok (.iload_n 0, 1) := by decide +kernel
theorem dJ3_checkFromToIndex_8c36e_1 : decode cJ3_checkFromToIndex_8c36e 1 = .ok (.ifCond .lt 13, 3) := by decide +kernel
theorem dJ3_checkFromToIndex_8c36e_4 : decode cJ3_checkFromToIndex_8c36e 4 = .ok (.iload_n 0, 1) := by decide +kernel
theorem dJ3_checkFromToIndex_8c36e_5 : decode cJ3_checkFromToIndex_8c36e 5 = .ok (.iload_n 1, 1) := by decide +kernel
theorem dJ3_checkFromToIndex_8c36e_6 : decode cJ3_checkFromToIndex_8c36e 6 = .ok (.if_icmp .gt 8, 3) := by decide +kernel
theorem dJ3_checkFromToIndex_8c36e_9 : decode cJ3_checkFromToIndex_8c36e 9 = .ok (.iload_n 1, 1) := by decide +kernel
theorem dJ3_checkFromToIndex_8c36e_10 : decode cJ3_checkFromToIndex_8c36e 10 = .ok (.iload_n 2, 1) := by decide +kernel
theorem dJ3_checkFromToIndex_8c36e_11 : decode cJ3_checkFromToIndex_8c36e 11 = .ok (.if_icmp .le 11, 3) := by decide +kernel
theorem dJ3_checkFromToIndex_8c36e_14 : decode cJ3_checkFromToIndex_8c36e 14 = .ok (.aload_n 3, 1) := by decide +kernel
theorem dJ3_checkFromToIndex_8c36e_15 : decode cJ3_checkFromToIndex_8c36e 15 = .ok (.iload_n 0, 1) := by decide +kernel
theorem dJ3_checkFromToIndex_8c36e_16 : decode cJ3_checkFromToIndex_8c36e 16 = .ok (.iload_n 1, 1) := by decide +kernel
theorem dJ3_checkFromToIndex_8c36e_17 : decode cJ3_checkFromToIndex_8c36e 17 = .ok (.iload_n 2, 1) := by decide +kernel
theorem dJ3_checkFromToIndex_8c36e_18 : decode cJ3_checkFromToIndex_8c36e 18 = .ok (.invokestatic 99, 3) := by decide +kernel
theorem dJ3_checkFromToIndex_8c36e_21 : decode cJ3_checkFromToIndex_8c36e 21 = .ok (.athrow, 1) := by decide +kernel
theorem dJ3_checkFromToIndex_8c36e_22 : decode cJ3_checkFromToIndex_8c36e 22 = .ok (.iload_n 0, 1) := by decide +kernel
theorem dJ3_checkFromToIndex_8c36e_23 : decode cJ3_checkFromToIndex_8c36e 23 = .ok (.ireturn, 1) := by decide +kernel
set_option maxRecDepth 20000 in
theorem ggL_register_X6_register : GoodIn wsL_register wsX6_register := goodIn_ca (goodIn_ca (goodIn_ca (goodIn_r _ [7, 8, 9, 10, 11, 12, 13, 14, 15, 6, 16, 17, 18, 19, 20, 21, 22, 23, 24, 25, 26, 27, 28, 29, 30, 31, 32, 33, 34, 35, 36, 37, 38, 39, 40, 41, 42, 43, 44, 45, 46, 47, 48, 49, 50, 51, 52, 53, 54, 55, 56, 57, 58, 59, 60, 61, 62, 63, 64, 65, 66, 67, 68, 69, 70, 71, 72, 73, 74, 75, 76, 77, 78, 79, 80, 81, 82, 83, 84, 85, 86, 87, 88, 89, 90, 91, 92, 93, 94, 95, 96, 97, 98, 99, 100, 101, 102, 103, 104, 105, 106, 107, 108, 109, 110, 111, 112, 113, 114, 115, 116, 117, 118, 119, 120, 121, 122, 123, 124, 125, 126, 127, 128, 129, 130, 131, 132, 133, 134, 135, 136, 137, 138, 139, 140, 141, 142, 143, 144, 145, 146, 147, 148, 149, 150, 151, 152, 153, 154, 155, 156] (by decide +kernel) (by decide +kernel)) (goodIn_sub (fun _ h => List.mem_cons_of_mem _ (List.mem_append_left _ (List.mem_append_left _ (List.mem_append_right _ h)))) (by decide +kernel))) (goodIn_sub (fun _ h => List.mem_cons_of_mem _ (List.mem_append_left _ (List.mem_append_right _ h))) (by decide +kernel))) (goodIn_sub (fun _ h => List.mem_cons_of_mem _ (List.mem_append_right _ h)) (by decide +kernel))
set_option maxRecDepth 20000 in
theorem gL_register_X6_register : GoodIn wsL_register (wsV RL 7 RX6 yX6_register wsX6_register) := goodIn_app (goodIn_of _ (by decide +kernel)) ggL_register_X6_register
theorem dL_register_0 : decode cL_register 0 = .ok (.aload 6, 2) := by decide +kernel
theorem dL_register_2 : decode cL_register 2 = .ok (.iconst 0, 1) := by decide +kernel
theorem dL_register_3 : decode cL_register 3 = .ok (.aload_n 0, 1) := by decide +kernel
theorem dL_register_4 : decode cL_register 4 = .ok (.iload_n 1, 1) := by decide +kernel
theorem dL_register_5 : decode cL_register 5 = .ok (.iload_n 2, 1) := by decide +kernel
theorem dL_register_6 : decode cL_register 6 = .ok (.iload_n 3, 1) := by decide +kernel
theorem dL_register_7 : decode cL_register 7 = .ok (.iload 4, 2) := by decide +kernel
theorem dL_register_9 : decode cL_register 9 = .ok (.iload 5, 2) := by decide +kernel
theorem dL_register_11 : decode cL_register 11 = .ok (.invokevirtual 7, 3) := by decide +kernel
theorem dL_register_14 : decode cL_register 14 = .ok (.i2l, 1) := by decide +kernel
theorem dL_register_15 : decode cL_register 15 = .ok (.lastore, 1) := by decide +kernel
theorem dL_register_16 : decode cL_register 16 = .ok (.goto 11, 3) := by decide +kernel
theorem dL_register_19 : decode cL_register 19 = .ok (.astore 7, 2) := by decide +kernel
theorem dL_register_21 : decode cL_register 21 = .ok (.iconst 1, 1) := by decide +kernel
theorem dL_register_22 : decode cL_register 22 = .ok (.ireturn, 1) := by decide +kernel
theorem dL_register_23 : decode cL_register 23 = .ok (.astore 7, 2) := by decide +kernel
theorem dL_register_25 : decode cL_register 25 = .ok (.iconst 2, 1) := by decide +kernel
theorem dL_register_26 : decode cL_register 26 = .ok (.ireturn, 1) := by decide +kernel
theorem dL_register_27 : decode cL_register 27 = .ok (.iconst 0, 1) := by decide +kernel
theorem dL_register_28 : decode cL_register 28 = .ok (.ireturn, 1) := by decide +kernel
set_option maxRecDepth 20000 in
theorem ggL_leave_X6_leave : GoodIn wsL_leave wsX6_leave := goodIn_ca (goodIn_ca (goodIn_ca (goodIn_r _ [7, 8, 9, 10, 11, 12, 13, 14, 15, 16, 17, 18, 19, 20, 21, 22, 23, 24, 25, 26, 27, 28, 6, 29, 30, 31, 32, 33, 34, 35, 36, 37, 38, 39, 40, 41, 42, 43, 44, 45, 46, 47, 48, 49, 50, 51, 52, 53, 54, 55, 56, 57, 58, 59, 60, 61, 62, 63, 64, 65, 66, 67, 68, 69, 70, 71, 72, 73, 74, 75, 76, 77, 78, 79, 80, 81, 82, 83, 84, 85, 86, 87, 88, 89, 90, 91, 92, 93, 94, 95, 96, 97, 98, 99, 100, 101, 102, 103, 104, 105, 106, 107, 108, 109, 110, 111, 112, 113, 114, 115, 116, 117, 118, 119, 120, 121, 122, 123, 124, 125, 126, 127, 128, 129, 130, 131, 132, 133, 134, 135, 136, 137, 138, 139, 140, 141, 142, 143, 144, 145, 146, 147, 148, 149, 150, 151, 152] (by decide +kernel) (by decide +kernel)) (goodIn_sub (fun _ h => List.mem_cons_of_mem _ (List.mem_append_left _ (List.mem_append_left _ (List.mem_append_right _ h)))) (by decide +kernel))) (goodIn_sub (fun _ h => List.mem_cons_of_mem _ (List.mem_append_left _ (List.mem_append_right _ h))) (by decide +kernel))) (goodIn_sub (fun _ h => List.mem_cons_of_mem _ (List.mem_append_right _ h)) (by decide +kernel))
set_option maxRecDepth 20000 in
theorem gL_leave_X6_leave : GoodIn wsL_leave (wsV RL 17 RX6 yX6_leave wsX6_leave) := goodIn_app (goodIn_of _ (by decide +kernel)) ggL_leave_X6_leave
theorem dL_leave_0 : decode cL_leave 0 = .ok (.aload_n 2, 1) := by decide +kernel
theorem dL_leave_1 : decode cL_leave 1 = .ok (.iconst 0, 1) := by decide +kernel
theorem dL_leave_2 : decode cL_leave 2 = .ok (.aload_n 0, 1) := by decide +kernel
theorem dL_leave_3 : decode cL_leave 3 = .ok (.iload_n 1, 1) := by decide +kernel
theorem dL_leave_4 : decode cL_leave 4 = .ok (.invokevirtual 17, 3) := by decide +kernel
theorem dL_leave_7 : decode cL_leave 7 = .ok (.i2l, 1) := by decide +kernel
theorem dL_leave_8 : decode cL_leave 8 = .ok (.lastore, 1) := by decide +kernel
theorem dL_leave_9 : decode cL_leave 9 = .ok (.goto 9, 3) := by decide +kernel
theorem dL_leave_12 : decode cL_leave 12 = .ok (.astore_n 3, 1) := by decide +kernel
theorem dL_leave_13 : decode cL_leave 13 = .ok (.iconst 1, 1) := by decide +kernel
theorem dL_leave_14 : decode cL_leave 14 = .ok (.ireturn, 1) := by decide +kernel
theorem dL_leave_15 : decode cL_leave 15 = .ok (.astore_n 3, 1) := by decide +kernel
theorem dL_leave_16 : decode cL_leave 16 = .ok (.iconst 2, 1) := by decide +kernel
theorem dL_leave_17 : decode cL_leave 17 = .ok (.ireturn, 1) := by decide +kernel
theorem dL_leave_18 : decode cL_leave 18 = .ok (.iconst 0, 1) := by decide +kernel
theorem dL_leave_19 : decode cL_leave 19 = .ok (.ireturn, 1) := by decide +kernel
set_option maxRecDepth 20000 in
theorem ggL_borrow_X6_borrow : GoodIn wsL_borrow wsX6_borrow := goodIn_ca (goodIn_ca (goodIn_ca (goodIn_r _ [8, 9, 10, 11, 12, 13, 14, 15, 16, 17, 7, 18, 19, 20, 21, 22, 23, 24, 25, 26, 27, 28, 29, 30, 31, 32, 33, 34, 35, 36, 37, 38, 39, 40, 41, 42, 43, 44, 45, 46, 47, 48, 49, 50, 51, 52, 53, 54, 55, 56, 57, 58, 59, 60, 61, 62, 63, 64, 65, 66, 67, 68, 69, 70, 71, 72, 73, 74, 75, 76, 77, 78, 79, 80, 81, 82, 83, 84, 85, 86, 87, 88, 89, 90, 91, 92, 93, 94, 95, 96, 97, 98, 99, 100, 101, 102, 103, 104, 105, 106, 107, 108, 109, 110, 111, 112, 113, 114, 115, 116, 117, 118, 119, 120, 121, 122, 123, 124, 125, 126, 127, 128, 129, 130, 131, 132, 133, 134, 135, 136, 137, 138, 139, 140, 141, 142, 143, 144, 145, 146, 147, 148, 149, 150, 151, 152, 153, 154, 155, 156, 157, 158, 159] (by decide +kernel) (by decide +kernel)) (goodIn_sub (fun _ h => List.mem_cons_of_mem _ (List.mem_append_left _ (List.mem_append_left _ (List.mem_append_right _ h)))) (by decide +kernel))) (goodIn_sub (fun _ h => List.mem_cons_of_mem _ (List.mem_append_left _ (List.mem_append_right _ h))) (by decide +kernel))) (goodIn_sub (fun _ h => List.mem_cons_of_mem _ (List.mem_append_right _ h)) (by decide +kernel))
set_option maxRecDepth 20000 in
theorem gL_borrow_X6_borrow : GoodIn wsL_borrow (wsV RL 23 RX6 yX6_borrow wsX6_borrow) := goodIn_app (goodIn_of _ (by decide +kernel)) ggL_borrow_X6_borrow
theorem dL_borrow_0 : decode cL_borrow 0 = .ok (.aload 7, 2) := by decide +kernel
theorem dL_borrow_2 : decode cL_borrow 2 = .ok (.iconst 0, 1) := by decide +kernel
theorem dL_borrow_3 : decode cL_borrow 3 = .ok (.aload_n 0, 1) := by decide +kernel
theorem dL_borrow_4 : decode cL_borrow 4 = .ok (.iload_n 1, 1) := by decide +kernel
theorem dL_borrow_5 : decode cL_borrow 5 = .ok (.iload_n 2, 1) := by decide +kernel
theorem dL_borrow_6 : decode cL_borrow 6 = .ok (.iload_n 3, 1) := by decide +kernel
theorem dL_borrow_7 : decode cL_borrow 7 = .ok (.iload 4, 2) := by decide +kernel
theorem dL_borrow_9 : decode cL_borrow 9 = .ok (.iload 5, 2) := by decide +kernel
theorem dL_borrow_11 : decode cL_borrow 11 = .ok (.iload 6, 2) := by decide +kernel
theorem dL_borrow_13 : decode cL_borrow 13 = .ok (.invokevirtual 23, 3) := by decide +kernel
theorem dL_borrow_16 : decode cL_borrow 16 = .ok (.i2l, 1) := by decide +kernel
theorem dL_borrow_17 : decode cL_borrow 17 = .ok (.lastore, 1) := by decide +kernel
theorem dL_borrow_18 : decode cL_borrow 18 = .ok (.goto 15, 3) := by decide +kernel
theorem dL_borrow_21 : decode cL_borrow 21 = .ok (.astore 8, 2) := by decide +kernel
theorem dL_borrow_23 : decode cL_borrow 23 = .ok (.iconst 1, 1) := by decide +kernel
theorem dL_borrow_24 : decode cL_borrow 24 = .ok (.ireturn, 1) := by decide +kernel
theorem dL_borrow_25 : decode cL_borrow 25 = .ok (.astore 8, 2) := by decide +kernel
theorem dL_borrow_27 : decode cL_borrow 27 = .ok (.iconst 2, 1) := by decide +kernel
theorem dL_borrow_28 : decode cL_borrow 28 = .ok (.ireturn, 1) := by decide +kernel
theorem dL_borrow_29 : decode cL_borrow 29 = .ok (.astore 8, 2) := by decide +kernel
theorem dL_borrow_31 : decode cL_borrow 31 = .ok (.iconst 3, 1) := by decide +kernel
theorem dL_borrow_32 : decode cL_borrow 32 = .ok (.ireturn, 1) := by decide +kernel
theorem dL_borrow_33 : decode cL_borrow 33 = .ok (.iconst 0, 1) := by decide +kernel
theorem dL_borrow_34 : decode cL_borrow 34 = .ok (.ireturn, 1) := by decide +kernel
set_option maxRecDepth 20000 in
theorem ggL_lend_X6_lend : GoodIn wsL_lend wsX6_lend := goodIn_ca (goodIn_ca (goodIn_ca (goodIn_r _ [8, 9, 10, 11, 12, 13, 14, 15, 16, 17, 18, 19, 20, 21, 22, 23, 24, 7, 25, 26, 27, 28, 29, 30, 31, 32, 33, 34, 35, 36, 37, 38, 39, 40, 41, 42, 43, 44, 45, 46, 47, 48, 49, 50, 51, 52, 53, 54, 55, 56, 57, 58, 59, 60, 61, 62, 63, 64, 65, 66, 67, 68, 69, 70, 71, 72, 73, 74, 75, 76, 77, 78, 79, 80, 81, 82, 83, 84, 85, 86, 87, 88, 89, 90, 91, 92, 93, 94, 95, 96, 97, 98, 99, 100, 101, 102, 103, 104, 105, 106, 107, 108, 109, 110, 111, 112, 113, 114, 115, 116, 117, 118, 119, 120, 121, 122, 123, 124, 125, 126, 127, 128, 129, 130, 131, 132, 133, 134, 135, 136, 137, 138, 139, 140, 141, 142, 143, 144, 145, 146, 147, 148, 149, 150, 151, 152, 153, 154, 155] (by decide +kernel) (by decide +kernel)) (goodIn_sub (fun _ h => List.mem_cons_of_mem _ (List.mem_append_left _ (List.mem_append_left _ (List.mem_append_right _ h)))) (by decide +kernel))) (goodIn_sub (fun _ h => List.mem_cons_of_mem _ (List.mem_append_left _ (List.mem_append_right _ h))) (by decide +kernel))) (goodIn_sub (fun _ h => List.mem_cons_of_mem _ (List.mem_append_right _ h)) (by decide +kernel))
set_option maxRecDepth 20000 in
theorem gL_lend_X6_lend : GoodIn wsL_lend (wsV RL 27 RX6 yX6_lend wsX6_lend) := goodIn_app (goodIn_of _ (by decide +kernel)) ggL_lend_X6_lend
theorem dL_lend_0 : decode cL_lend 0 = .ok (.aload 4, 2) := by decide +kernel
theorem dL_lend_2 : decode cL_lend 2 = .ok (.iconst 0, 1) := by decide +kernel
theorem dL_lend_3 : decode cL_lend 3 = .ok (.aload_n 0, 1) := by decide +kernel
theorem dL_lend_4 : decode cL_lend 4 = .ok (.iload_n 1, 1) := by decide +kernel
theorem dL_lend_5 : decode cL_lend 5 = .ok (.iload_n 2, 1) := by decide +kernel
theorem dL_lend_6 : decode cL_lend 6 = .ok (.iload_n 3, 1) := by decide +kernel
theorem dL_lend_7 : decode cL_lend 7 = .ok (.invokevirtual 27, 3) := by decide +kernel
theorem dL_lend_10 : decode cL_lend 10 = .ok (.i2l, 1) := by decide +kernel
theorem dL_lend_11 : decode cL_lend 11 = .ok (.lastore, 1) := by decide +kernel
theorem dL_lend_12 : decode cL_lend 12 = .ok (.goto 15, 3) := by decide +kernel
theorem dL_lend_15 : decode cL_lend 15 = .ok (.astore 5, 2) := by decide +kernel
theorem dL_lend_17 : decode cL_lend 17 = .ok (.iconst 1, 1) := by decide +kernel
theorem dL_lend_18 : decode cL_lend 18 = .ok (.ireturn, 1) := by decide +kernel
theorem dL_lend_19 : decode cL_lend 19 = .ok (.astore 5, 2) := by decide +kernel
theorem dL_lend_21 : decode cL_lend 21 = .ok (.iconst 2, 1) := by decide +kernel
theorem dL_lend_22 : decode cL_lend 22 = .ok (.ireturn, 1) := by decide +kernel
theorem dL_lend_23 : decode cL_lend 23 = .ok (.astore 5, 2) := by decide +kernel
theorem dL_lend_25 : decode cL_lend 25 = .ok (.iconst 3, 1) := by decide +kernel
theorem dL_lend_26 : decode cL_lend 26 = .ok (.ireturn, 1) := by decide +kernel
theorem dL_lend_27 : decode cL_lend 27 = .ok (.iconst 0, 1) := by decide +kernel
theorem dL_lend_28 : decode cL_lend 28 = .ok (.ireturn, 1) := by decide +kernel
set_option maxRecDepth 20000 in
theorem ggL_excuse_X6_excuse : GoodIn wsL_excuse wsX6_excuse := goodIn_ca (goodIn_ca (goodIn_ca (goodIn_r _ [8, 9, 10, 11, 12, 13, 14, 15, 16, 17, 18, 19, 20, 21, 22, 23, 24, 7, 25, 26, 27, 28, 29, 30, 31, 32, 33, 34, 35, 36, 37, 38, 39, 40, 41, 42, 43, 44, 45, 46, 47, 48, 49, 50, 51, 52, 53, 54, 55, 56, 57, 58, 59, 60, 61, 62, 63, 64, 65, 66, 67, 68, 69, 70, 71, 72, 73, 74, 75, 76, 77, 78, 79, 80, 81, 82, 83, 84, 85, 86, 87, 88, 89, 90, 91, 92, 93, 94, 95, 96, 97, 98, 99, 100, 101, 102, 103, 104, 105, 106, 107, 108, 109, 110, 111, 112, 113, 114, 115, 116, 117, 118, 119, 120, 121, 122, 123, 124, 125, 126, 127, 128, 129, 130, 131, 132, 133, 134, 135, 136, 137, 138, 139, 140, 141, 142, 143, 144, 145, 146, 147, 148, 149, 150, 151, 152, 153, 154, 155, 156, 157, 158, 159, 160, 161] (by decide +kernel) (by decide +kernel)) (goodIn_sub (fun _ h => List.mem_cons_of_mem _ (List.mem_append_left _ (List.mem_append_left _ (List.mem_append_right _ h)))) (by decide +kernel))) (goodIn_sub (fun _ h => List.mem_cons_of_mem _ (List.mem_append_left _ (List.mem_append_right _ h))) (by decide +kernel))) (goodIn_sub (fun _ h => List.mem_cons_of_mem _ (List.mem_append_right _ h)) (by decide +kernel))
set_option maxRecDepth 20000 in
theorem gL_excuse_X6_excuse : GoodIn wsL_excuse (wsV RL 31 RX6 yX6_excuse wsX6_excuse) := goodIn_app (goodIn_of _ (by decide +kernel)) ggL_excuse_X6_excuse
theorem dL_excuse_0 : decode cL_excuse 0 = .ok (.aload 4, 2) := by decide +kernel
theorem dL_excuse_2 : decode cL_excuse 2 = .ok (.iconst 0, 1) := by decide +kernel
theorem dL_excuse_3 : decode cL_excuse 3 = .ok (.aload_n 0, 1) := by decide +kernel
theorem dL_excuse_4 : decode cL_excuse 4 = .ok (.iload_n 1, 1) := by decide +kernel
theorem dL_excuse_5 : decode cL_excuse 5 = .ok (.iload_n 2, 1) := by decide +kernel
theorem dL_excuse_6 : decode cL_excuse 6 = .ok (.iload_n 3, 1) := by decide +kernel
theorem dL_excuse_7 : decode cL_excuse 7 = .ok (.invokevirtual 31, 3) := by decide +kernel
theorem dL_excuse_10 : decode cL_excuse 10 = .ok (.i2l, 1) := by decide +kernel
theorem dL_excuse_11 : decode cL_excuse 11 = .ok (.lastore, 1) := by decide +kernel
theorem dL_excuse_12 : decode cL_excuse 12 = .ok (.goto 15, 3) := by decide +kernel
theorem dL_excuse_15 : decode cL_excuse 15 = .ok (.astore 5, 2) := by decide +kernel
theorem dL_excuse_17 : decode cL_excuse 17 = .ok (.iconst 1, 1) := by decide +kernel
theorem dL_excuse_18 : decode cL_excuse 18 = .ok (.ireturn, 1) := by decide +kernel
theorem dL_excuse_19 : decode cL_excuse 19 = .ok (.astore 5, 2) := by decide +kernel
theorem dL_excuse_21 : decode cL_excuse 21 = .ok (.iconst 2, 1) := by decide +kernel
theorem dL_excuse_22 : decode cL_excuse 22 = .ok (.ireturn, 1) := by decide +kernel
theorem dL_excuse_23 : decode cL_excuse 23 = .ok (.astore 5, 2) := by decide +kernel
theorem dL_excuse_25 : decode cL_excuse 25 = .ok (.iconst 3, 1) := by decide +kernel
theorem dL_excuse_26 : decode cL_excuse 26 = .ok (.ireturn, 1) := by decide +kernel
theorem dL_excuse_27 : decode cL_excuse 27 = .ok (.iconst 0, 1) := by decide +kernel
theorem dL_excuse_28 : decode cL_excuse 28 = .ok (.ireturn, 1) := by decide +kernel
set_option maxRecDepth 20000 in
theorem ggL_announce_X6_announce : GoodIn wsL_announce wsX6_announce := goodIn_ca (goodIn_ca (goodIn_ca (goodIn_r _ [7, 8, 9, 10, 11, 12, 13, 14, 15, 16, 6, 17, 18, 19, 20, 21, 22, 23, 24, 25, 26, 27, 28, 29, 30, 31, 32, 33, 34, 35, 36, 37, 38, 39, 40, 41, 42, 43, 44, 45, 46, 47, 48, 49, 50, 51, 52, 53, 54, 55, 56, 57, 58, 59, 60, 61, 62, 63, 64, 65, 66, 67, 68, 69, 70, 71, 72, 73, 74, 75, 76, 77, 78, 79, 80, 81, 82, 83, 84, 85, 86, 87, 88, 89, 90, 91, 92, 93, 94, 95, 96, 97, 98, 99, 100, 101, 102, 103, 104, 105, 106, 107, 108, 109, 110, 111, 112, 113, 114, 115, 116, 117, 118, 119, 120, 121, 122, 123, 124, 125, 126, 127, 128, 129, 130, 131, 132, 133, 134, 135, 136, 137, 138, 139, 140, 141, 142, 143, 144, 145, 146, 147, 148, 149, 150, 151, 152, 153, 154, 155, 156] (by decide +kernel) (by decide +kernel)) (goodIn_sub (fun _ h => List.mem_cons_of_mem _ (List.mem_append_left _ (List.mem_append_left _ (List.mem_append_right _ h)))) (by decide +kernel))) (goodIn_sub (fun _ h => List.mem_cons_of_mem _ (List.mem_append_left _ (List.mem_append_right _ h))) (by decide +kernel))) (goodIn_sub (fun _ h => List.mem_cons_of_mem _ (List.mem_append_right _ h)) (by decide +kernel))
set_option maxRecDepth 20000 in
theorem gL_announce_X6_announce : GoodIn wsL_announce (wsV RL 34 RX6 yX6_announce wsX6_announce) := goodIn_app (goodIn_of _ (by decide +kernel)) ggL_announce_X6_announce
theorem dL_announce_0 : decode cL_announce 0 = .ok (.aload_n 3, 1) := by decide +kernel
theorem dL_announce_1 : decode cL_announce 1 = .ok (.iconst 0, 1) := by decide +kernel
theorem dL_announce_2 : decode cL_announce 2 = .ok (.aload_n 0, 1) := by decide +kernel
theorem dL_announce_3 : decode cL_announce 3 = .ok (.iload_n 1, 1) := by decide +kernel
theorem dL_announce_4 : decode cL_announce 4 = .ok (.iload_n 2, 1) := by decide +kernel
theorem dL_announce_5 : decode cL_announce 5 = .ok (.invokevirtual 34, 3) := by decide +kernel
theorem dL_announce_8 : decode cL_announce 8 = .ok (.i2l, 1) := by decide +kernel
theorem dL_announce_9 : decode cL_announce 9 = .ok (.lastore, 1) := by decide +kernel
theorem dL_announce_10 : decode cL_announce 10 = .ok (.goto 11, 3) := by decide +kernel
theorem dL_announce_13 : decode cL_announce 13 = .ok (.astore 4, 2) := by decide +kernel
theorem dL_announce_15 : decode cL_announce 15 = .ok (.iconst 1, 1) := by decide +kernel
theorem dL_announce_16 : decode cL_announce 16 = .ok (.ireturn, 1) := by decide +kernel
theorem dL_announce_17 : decode cL_announce 17 = .ok (.astore 4, 2) := by decide +kernel
theorem dL_announce_19 : decode cL_announce 19 = .ok (.iconst 2, 1) := by decide +kernel
theorem dL_announce_20 : decode cL_announce 20 = .ok (.ireturn, 1) := by decide +kernel
theorem dL_announce_21 : decode cL_announce 21 = .ok (.iconst 0, 1) := by decide +kernel
theorem dL_announce_22 : decode cL_announce 22 = .ok (.ireturn, 1) := by decide +kernel
set_option maxRecDepth 20000 in
theorem ggL_setLine_X6_setLine : GoodIn wsL_setLine wsX6_setLine := goodIn_ca (goodIn_ca (goodIn_ca (goodIn_r _ [8, 9, 10, 11, 12, 13, 14, 15, 16, 17, 18, 19, 20, 21, 22, 7, 23, 24, 25, 26, 27, 28, 29, 30, 31, 32, 33, 34, 35, 36, 37, 38, 39, 40, 41, 42, 43, 44, 45, 46, 47, 48, 49, 50, 51, 52, 53, 54, 55, 56, 57, 58, 59, 60, 61, 62, 63, 64, 65, 66, 67, 68, 69, 70, 71, 72, 73, 74, 75, 76, 77, 78, 79, 80, 81, 82, 83, 84, 85, 86, 87, 88, 89, 90, 91, 92, 93, 94, 95, 96, 97, 98, 99, 100, 101, 102, 103, 104, 105, 106, 107, 108, 109, 110, 111, 112, 113, 114, 115, 116, 117, 118, 119, 120, 121, 122, 123, 124, 125, 126, 127, 128, 129, 130, 131, 132, 133, 134, 135, 136, 137, 138, 139, 140, 141, 142, 143, 144, 145, 146, 147, 148, 149, 150, 151, 152, 153, 154, 155, 156, 157, 158, 159, 160, 161, 162] (by decide +kernel) (by decide +kernel)) (goodIn_sub (fun _ h => List.mem_cons_of_mem _ (List.mem_append_left _ (List.mem_append_left _ (List.mem_append_right _ h)))) (by decide +kernel))) (goodIn_sub (fun _ h => List.mem_cons_of_mem _ (List.mem_append_left _ (List.mem_append_right _ h))) (by decide +kernel))) (goodIn_sub (fun _ h => List.mem_cons_of_mem _ (List.mem_append_right _ h)) (by decide +kernel))
set_option maxRecDepth 20000 in
theorem gL_setLine_X6_setLine : GoodIn wsL_setLine (wsV RL 38 RX6 yX6_setLine wsX6_setLine) := goodIn_app (goodIn_of _ (by decide +kernel)) ggL_setLine_X6_setLine
theorem dL_setLine_0 : decode cL_setLine 0 = .ok (.aload 6, 2) := by decide +kernel
theorem dL_setLine_2 : decode cL_setLine 2 = .ok (.iconst 0, 1) := by decide +kernel
theorem dL_setLine_3 : decode cL_setLine 3 = .ok (.aload_n 0, 1) := by decide +kernel
theorem dL_setLine_4 : decode cL_setLine 4 = .ok (.iload_n 1, 1) := by decide +kernel
theorem dL_setLine_5 : decode cL_setLine 5 = .ok (.iload_n 2, 1) := by decide +kernel
theorem dL_setLine_6 : decode cL_setLine 6 = .ok (.iload_n 3, 1) := by decide +kernel
theorem dL_setLine_7 : decode cL_setLine 7 = .ok (.iload 4, 2) := by decide +kernel
theorem dL_setLine_9 : decode cL_setLine 9 = .ok (.iload 5, 2) := by decide +kernel
theorem dL_setLine_11 : decode cL_setLine 11 = .ok (.invokevirtual 38, 3) := by decide +kernel
theorem dL_setLine_14 : decode cL_setLine 14 = .ok (.i2l, 1) := by decide +kernel
theorem dL_setLine_15 : decode cL_setLine 15 = .ok (.lastore, 1) := by decide +kernel
theorem dL_setLine_16 : decode cL_setLine 16 = .ok (.goto 15, 3) := by decide +kernel
theorem dL_setLine_19 : decode cL_setLine 19 = .ok (.astore 7, 2) := by decide +kernel
theorem dL_setLine_21 : decode cL_setLine 21 = .ok (.iconst 1, 1) := by decide +kernel
theorem dL_setLine_22 : decode cL_setLine 22 = .ok (.ireturn, 1) := by decide +kernel
theorem dL_setLine_23 : decode cL_setLine 23 = .ok (.astore 7, 2) := by decide +kernel
theorem dL_setLine_25 : decode cL_setLine 25 = .ok (.iconst 2, 1) := by decide +kernel
theorem dL_setLine_26 : decode cL_setLine 26 = .ok (.ireturn, 1) := by decide +kernel
theorem dL_setLine_27 : decode cL_setLine 27 = .ok (.astore 7, 2) := by decide +kernel
theorem dL_setLine_29 : decode cL_setLine 29 = .ok (.iconst 3, 1) := by decide +kernel
theorem dL_setLine_30 : decode cL_setLine 30 = .ok (.ireturn, 1) := by decide +kernel
theorem dL_setLine_31 : decode cL_setLine 31 = .ok (.iconst 0, 1) := by decide +kernel
theorem dL_setLine_32 : decode cL_setLine 32 = .ok (.ireturn, 1) := by decide +kernel
set_option maxRecDepth 20000 in
theorem ggL_passDays_X6_passDays : GoodIn wsL_passDays wsX6_passDays := goodIn_ca (goodIn_ca (goodIn_ca (goodIn_r _ [7, 8, 9, 10, 11, 12, 13, 14, 15, 16, 6, 17, 18, 19, 20, 21, 22, 23, 24, 25, 26, 27, 28, 29, 30, 31, 32, 33, 34, 35, 36, 37, 38, 39, 40, 41, 42, 43, 44, 45, 46, 47, 48, 49, 50, 51, 52, 53, 54, 55, 56, 57, 58, 59, 60, 61, 62, 63, 64, 65, 66, 67, 68, 69, 70, 71, 72, 73, 74, 75, 76, 77, 78, 79, 80, 81, 82, 83, 84, 85, 86, 87, 88, 89, 90, 91, 92, 93, 94, 95, 96, 97, 98, 99, 100, 101, 102, 103, 104, 105, 106, 107, 108, 109, 110, 111, 112, 113, 114, 115, 116, 117, 118, 119, 120, 121, 122, 123, 124, 125, 126, 127, 128, 129, 130, 131, 132, 133, 134, 135, 136, 137, 138, 139, 140, 141, 142, 143, 144, 145, 146, 147, 148, 149, 150, 151, 152, 153, 154, 155, 156, 157, 158, 159, 160, 161, 162, 163, 164, 165, 166, 167, 168, 169, 170, 171, 172, 173, 174, 175, 176, 177, 178, 179, 180, 181, 182, 183, 184, 185, 186, 187, 188, 189, 190, 191, 192, 193, 194, 195, 196, 197, 198, 199, 200, 201, 202, 203, 204, 205, 206, 207, 208, 209, 210, 211, 212, 213, 214, 215, 216, 217, 218, 219, 220, 221, 222, 223, 224, 225, 226, 227, 228, 229, 230, 231, 232, 233, 234, 235, 236, 237, 238, 239, 240, 241, 242, 243, 244, 245, 246, 247, 248, 249, 250, 251, 252, 253, 254, 255, 256, 257, 258, 259, 260, 261, 262, 263, 264, 265, 266, 267, 268, 269, 270, 271, 272] (by decide +kernel) (by decide +kernel)) (goodIn_sub (fun _ h => List.mem_cons_of_mem _ (List.mem_append_left _ (List.mem_append_left _ (List.mem_append_right _ h)))) (by decide +kernel))) (goodIn_sub (fun _ h => List.mem_cons_of_mem _ (List.mem_append_left _ (List.mem_append_right _ h))) (by decide +kernel))) (goodIn_sub (fun _ h => List.mem_cons_of_mem _ (List.mem_append_right _ h)) (by decide +kernel))
set_option maxRecDepth 20000 in
theorem gL_passDays_X6_passDays : GoodIn wsL_passDays (wsV RL 41 RX6 yX6_passDays wsX6_passDays) := goodIn_app (goodIn_of _ (by decide +kernel)) ggL_passDays_X6_passDays
theorem dL_passDays_0 : decode cL_passDays 0 = .ok (.aload_n 2, 1) := by decide +kernel
theorem dL_passDays_1 : decode cL_passDays 1 = .ok (.iconst 0, 1) := by decide +kernel
theorem dL_passDays_2 : decode cL_passDays 2 = .ok (.aload_n 0, 1) := by decide +kernel
theorem dL_passDays_3 : decode cL_passDays 3 = .ok (.iload_n 1, 1) := by decide +kernel
theorem dL_passDays_4 : decode cL_passDays 4 = .ok (.invokevirtual 41, 3) := by decide +kernel
theorem dL_passDays_7 : decode cL_passDays 7 = .ok (.i2l, 1) := by decide +kernel
theorem dL_passDays_8 : decode cL_passDays 8 = .ok (.lastore, 1) := by decide +kernel
theorem dL_passDays_9 : decode cL_passDays 9 = .ok (.goto 9, 3) := by decide +kernel
theorem dL_passDays_12 : decode cL_passDays 12 = .ok (.astore_n 3, 1) := by decide +kernel
theorem dL_passDays_13 : decode cL_passDays 13 = .ok (.iconst 1, 1) := by decide +kernel
theorem dL_passDays_14 : decode cL_passDays 14 = .ok (.ireturn, 1) := by decide +kernel
theorem dL_passDays_15 : decode cL_passDays 15 = .ok (.astore_n 3, 1) := by decide +kernel
theorem dL_passDays_16 : decode cL_passDays 16 = .ok (.iconst 2, 1) := by decide +kernel
theorem dL_passDays_17 : decode cL_passDays 17 = .ok (.ireturn, 1) := by decide +kernel
theorem dL_passDays_18 : decode cL_passDays 18 = .ok (.iconst 0, 1) := by decide +kernel
theorem dL_passDays_19 : decode cL_passDays 19 = .ok (.ireturn, 1) := by decide +kernel
set_option maxRecDepth 20000 in
theorem ggL_type_X6_type : GoodIn wsL_type wsX6_type := goodIn_ca (goodIn_ca (goodIn_ca (goodIn_r _ [6, 7, 8, 9, 10, 11, 12, 13, 14, 15, 5, 16, 17, 18, 19, 20, 21, 22, 23, 24, 25, 26, 27, 28, 29, 30, 31, 32, 33, 34, 35, 36, 37, 38, 39, 40, 41] (by decide +kernel) (by decide +kernel)) (goodIn_sub (fun _ h => List.mem_cons_of_mem _ (List.mem_append_left _ (List.mem_append_left _ (List.mem_append_right _ h)))) (by decide +kernel))) (goodIn_sub (fun _ h => List.mem_cons_of_mem _ (List.mem_append_left _ (List.mem_append_right _ h))) (by decide +kernel))) (goodIn_sub (fun _ h => List.mem_cons_of_mem _ (List.mem_append_right _ h)) (by decide +kernel))
set_option maxRecDepth 20000 in
theorem gL_type_X6_type : GoodIn wsL_type (wsV RL 44 RX6 yX6_type wsX6_type) := goodIn_app (goodIn_of _ (by decide +kernel)) ggL_type_X6_type
theorem dL_type_0 : decode cL_type 0 = .ok (.aload_n 2, 1) := by decide +kernel
theorem dL_type_1 : decode cL_type 1 = .ok (.iconst 0, 1) := by decide +kernel
theorem dL_type_2 : decode cL_type 2 = .ok (.aload_n 0, 1) := by decide +kernel
theorem dL_type_3 : decode cL_type 3 = .ok (.iload_n 1, 1) := by decide +kernel
theorem dL_type_4 : decode cL_type 4 = .ok (.invokevirtual 44, 3) := by decide +kernel
theorem dL_type_7 : decode cL_type 7 = .ok (.i2l, 1) := by decide +kernel
theorem dL_type_8 : decode cL_type 8 = .ok (.lastore, 1) := by decide +kernel
theorem dL_type_9 : decode cL_type 9 = .ok (.goto 6, 3) := by decide +kernel
theorem dL_type_12 : decode cL_type 12 = .ok (.astore_n 3, 1) := by decide +kernel
theorem dL_type_13 : decode cL_type 13 = .ok (.iconst 1, 1) := by decide +kernel
theorem dL_type_14 : decode cL_type 14 = .ok (.ireturn, 1) := by decide +kernel
theorem dL_type_15 : decode cL_type 15 = .ok (.iconst 0, 1) := by decide +kernel
theorem dL_type_16 : decode cL_type 16 = .ok (.ireturn, 1) := by decide +kernel
set_option maxRecDepth 20000 in
theorem ggL_impossibleOrder_X6_impossibleOrder : GoodIn wsL_impossibleOrder wsX6_impossibleOrder := goodIn_ca (goodIn_ca (goodIn_ca (goodIn_r _ [6, 7, 8, 9, 10, 11, 12, 13, 14, 15, 16, 17, 18, 19, 20, 21, 22, 23, 24, 25, 26, 27, 28, 29, 30, 31, 32, 33, 34, 35, 36, 37, 38, 39, 40, 41, 42, 43, 44, 45, 46, 47, 48, 49, 50, 51, 52, 53, 54, 55, 56, 57, 58, 59, 60, 61, 62, 63, 64, 65, 66, 67, 68, 69, 70, 71, 72, 73, 74, 75, 76, 77, 78, 79, 80, 81, 82, 83, 84, 85, 86, 87, 88, 89, 90, 91, 92, 93, 94, 95, 96, 97, 98, 99, 100, 101, 102, 103, 104, 105, 106, 107, 108, 109, 110, 111, 112, 113, 114, 115, 116, 117, 118, 119, 120, 121, 122, 123, 124, 125, 126, 127, 128, 129, 130, 131, 132, 133, 134, 135, 136, 137, 138, 139, 140, 141, 142, 143, 144, 145, 146, 147, 148, 149, 150, 151, 152, 5, 153, 154, 155, 156, 157, 158, 159, 160, 161, 162, 163, 164, 165, 166, 167, 168, 169, 170, 171, 172, 173, 174, 175, 176, 177, 178, 179, 180, 181, 182, 183, 184, 185, 186, 187, 188, 189, 190, 191, 192, 193, 194, 195, 196, 197, 198, 199, 200, 201, 202, 203, 204, 205, 206, 207, 208, 209, 210, 211, 212, 213, 214, 215, 216, 217, 218, 219, 220, 221, 222, 223, 224, 225, 226, 227, 228, 229, 230, 231, 232, 233, 234, 235, 236, 237, 238, 239, 240, 241, 242, 243, 244, 245, 246, 247, 248, 249, 250, 251, 252, 253, 254, 255, 256, 257, 258, 259, 260, 261, 262, 263, 264, 265, 266, 267, 268, 269, 270, 271, 272, 273, 274, 275, 276, 277, 278, 279, 280, 281, 282, 283, 284, 285, 286, 287, 288, 289, 290, 291, 292, 293, 294, 295, 296, 297, 298, 299, 300, 301, 302, 303, 304, 305, 306, 307, 308, 309, 310, 311, 312, 313, 314, 315, 316, 317, 318, 319, 320, 321, 322, 323, 324, 325, 326, 327, 328, 329, 330, 331, 332, 333, 334, 335, 336, 337, 338, 339, 340, 341, 342, 343, 344, 345, 346, 347, 348, 349, 350, 351, 352, 353, 354, 355, 356, 357, 358, 359, 360, 361, 362, 363, 364, 365, 366, 367, 368, 369, 370, 371, 372, 373, 374, 375, 376, 377, 378, 379, 380, 381, 382, 383, 384, 385, 386, 387, 388, 389, 390, 391, 392, 393, 394, 395, 396, 397, 398, 399, 400, 401, 402, 403, 404, 405, 406, 407, 408, 409, 410, 411, 412, 413, 414, 415, 416, 417, 418, 419, 420, 421, 422, 423, 424, 425, 426, 427, 428, 429, 430, 431, 432, 433, 434, 435, 436, 437, 438, 439, 440, 441, 442, 443, 444, 445, 446, 447, 448, 449, 450, 451, 452, 453, 454, 455, 456, 457, 458, 459, 460, 461, 462, 463, 464, 465, 466, 467, 468, 469, 470, 471, 472, 473, 474, 475, 476, 477, 478, 479, 480, 481, 482, 483, 484, 485, 486, 487, 488, 489, 490, 491, 492, 493, 494, 495, 496, 497, 498, 499, 500, 501, 502, 503, 504, 505, 506, 507, 508, 509, 510, 511, 512, 513, 514, 515, 516, 517, 518, 519, 520, 521, 522, 523, 524, 525, 526, 527, 528, 529, 530, 531, 532, 533, 534, 535, 536, 537, 538, 539, 540, 541, 542] (by decide +kernel) (by decide +kernel)) (goodIn_sub (fun _ h => List.mem_cons_of_mem _ (List.mem_append_left _ (List.mem_append_left _ (List.mem_append_right _ h)))) (by decide +kernel))) (goodIn_sub (fun _ h => List.mem_cons_of_mem _ (List.mem_append_left _ (List.mem_append_right _ h))) (by decide +kernel))) (goodIn_sub (fun _ h => List.mem_cons_of_mem _ (List.mem_append_right _ h)) (by decide +kernel))
set_option maxRecDepth 20000 in
theorem gL_impossibleOrder_X6_impossibleOrder : GoodIn wsL_impossibleOrder (wsV RL 48 RX6 yX6_impossibleOrder wsX6_impossibleOrder) := goodIn_app (goodIn_of _ (by decide +kernel)) ggL_impossibleOrder_X6_impossibleOrder
theorem dL_impossibleOrder_0 : decode cL_impossibleOrder 0 = .ok (.aload_n 1, 1) := by decide +kernel
theorem dL_impossibleOrder_1 : decode cL_impossibleOrder 1 = .ok (.iconst 0, 1) := by decide +kernel
theorem dL_impossibleOrder_2 : decode cL_impossibleOrder 2 = .ok (.aload_n 0, 1) := by decide +kernel
theorem dL_impossibleOrder_3 : decode cL_impossibleOrder 3 = .ok (.invokevirtual 48, 3) := by decide +kernel
theorem dL_impossibleOrder_6 : decode cL_impossibleOrder 6 = .ok (.i2l, 1) := by decide +kernel
theorem dL_impossibleOrder_7 : decode cL_impossibleOrder 7 = .ok (.lastore, 1) := by decide +kernel
theorem dL_impossibleOrder_8 : decode cL_impossibleOrder 8 = .ok (.goto 6, 3) := by decide +kernel
theorem dL_impossibleOrder_11 : decode cL_impossibleOrder 11 = .ok (.astore_n 2, 1) := by decide +kernel
theorem dL_impossibleOrder_12 : decode cL_impossibleOrder 12 = .ok (.iconst 1, 1) := by decide +kernel
theorem dL_impossibleOrder_13 : decode cL_impossibleOrder 13 = .ok (.ireturn, 1) := by decide +kernel
theorem dL_impossibleOrder_14 : decode cL_impossibleOrder 14 = .ok (.iconst 0, 1) := by decide +kernel
theorem dL_impossibleOrder_15 : decode cL_impossibleOrder 15 = .ok (.ireturn, 1) := by decide +kernel
set_option maxRecDepth 20000 in
theorem ggL_carryOut_X6_carryOut : GoodIn wsL_carryOut wsX6_carryOut := goodIn_ca (goodIn_ca (goodIn_ca (goodIn_r _ [6, 7, 8, 9, 10, 11, 12, 13, 14, 15, 16, 17, 18, 19, 20, 21, 22, 23, 24, 25, 26, 27, 28, 29, 30, 31, 32, 33, 34, 35, 36, 37, 38, 39, 40, 41, 42, 43, 44, 45, 46, 47, 48, 49, 50, 51, 52, 53, 54, 55, 56, 57, 58, 59, 60, 61, 62, 63, 64, 65, 66, 67, 68, 69, 70, 71, 72, 73, 74, 75, 76, 77, 78, 79, 80, 81, 82, 83, 84, 85, 86, 87, 88, 89, 90, 91, 92, 93, 94, 95, 96, 97, 98, 99, 100, 101, 102, 103, 104, 105, 106, 107, 108, 109, 110, 111, 112, 113, 114, 115, 116, 117, 118, 119, 120, 121, 122, 123, 124, 125, 126, 127, 128, 129, 130, 131, 132, 133, 134, 135, 136, 137, 138, 139, 140, 141, 142, 143, 144, 145, 146, 147, 148, 149, 150, 151, 152, 153, 154, 5, 155, 156, 157, 158, 159, 160, 161, 162, 163, 164, 165, 166, 167, 168, 169, 170, 171, 172, 173, 174, 175, 176, 177, 178, 179, 180, 181, 182, 183, 184, 185, 186, 187, 188, 189, 190, 191, 192, 193, 194, 195, 196, 197, 198, 199, 200, 201, 202, 203, 204, 205, 206, 207, 208, 209, 210, 211, 212, 213, 214, 215, 216, 217, 218, 219, 220, 221, 222, 223, 224, 225, 226, 227, 228, 229, 230, 231, 232, 233, 234, 235, 236, 237, 238, 239, 240, 241, 242, 243, 244, 245, 246, 247, 248, 249, 250, 251, 252, 253, 254, 255, 256, 257, 258, 259, 260, 261, 262, 263, 264, 265, 266, 267, 268, 269, 270, 271, 272, 273, 274, 275, 276, 277, 278, 279, 280, 281, 282, 283, 284, 285, 286, 287, 288, 289, 290, 291, 292, 293, 294, 295, 296, 297, 298, 299, 300, 301, 302, 303, 304, 305, 306, 307, 308, 309, 310, 311, 312, 313, 314, 315, 316, 317, 318, 319, 320, 321, 322, 323, 324, 325, 326, 327, 328, 329, 330, 331, 332, 333, 334, 335, 336, 337, 338, 339, 340, 341, 342, 343, 344, 345, 346, 347, 348, 349, 350, 351, 352, 353, 354, 355, 356, 357, 358, 359, 360, 361, 362, 363, 364, 365, 366, 367, 368, 369, 370, 371, 372, 373, 374, 375, 376, 377, 378, 379, 380, 381, 382, 383, 384, 385, 386, 387, 388, 389, 390, 391, 392, 393, 394, 395, 396, 397, 398, 399, 400, 401, 402, 403, 404, 405, 406, 407, 408, 409, 410, 411, 412, 413, 414, 415, 416, 417, 418, 419, 420, 421, 422, 423, 424, 425, 426, 427, 428, 429, 430, 431, 432, 433, 434, 435, 436, 437, 438, 439, 440, 441, 442, 443, 444, 445, 446, 447, 448, 449, 450, 451, 452, 453, 454, 455, 456, 457, 458, 459, 460, 461, 462, 463, 464, 465, 466, 467, 468, 469, 470, 471, 472, 473, 474, 475, 476, 477, 478, 479, 480, 481, 482, 483, 484, 485, 486, 487, 488, 489, 490, 491, 492, 493, 494, 495, 496, 497, 498, 499, 500, 501, 502, 503, 504, 505, 506, 507, 508, 509, 510, 511, 512, 513, 514, 515, 516, 517, 518, 519, 520, 521, 522, 523, 524, 525, 526, 527, 528, 529, 530, 531, 532, 533, 534, 535, 536, 537, 538, 539, 540, 541, 542, 543, 544, 545, 546, 547, 548, 549, 550, 551, 552, 553, 554, 555, 556] (by decide +kernel) (by decide +kernel)) (goodIn_sub (fun _ h => List.mem_cons_of_mem _ (List.mem_append_left _ (List.mem_append_left _ (List.mem_append_right _ h)))) (by decide +kernel))) (goodIn_sub (fun _ h => List.mem_cons_of_mem _ (List.mem_append_left _ (List.mem_append_right _ h))) (by decide +kernel))) (goodIn_sub (fun _ h => List.mem_cons_of_mem _ (List.mem_append_right _ h)) (by decide +kernel))
set_option maxRecDepth 20000 in
theorem gL_carryOut_X6_carryOut : GoodIn wsL_carryOut (wsV RL 52 RX6 yX6_carryOut wsX6_carryOut) := goodIn_app (goodIn_of _ (by decide +kernel)) ggL_carryOut_X6_carryOut
theorem dL_carryOut_0 : decode cL_carryOut 0 = .ok (.aload_n 1, 1) := by decide +kernel
theorem dL_carryOut_1 : decode cL_carryOut 1 = .ok (.iconst 0, 1) := by decide +kernel
theorem dL_carryOut_2 : decode cL_carryOut 2 = .ok (.aload_n 0, 1) := by decide +kernel
theorem dL_carryOut_3 : decode cL_carryOut 3 = .ok (.invokevirtual 52, 3) := by decide +kernel
theorem dL_carryOut_6 : decode cL_carryOut 6 = .ok (.i2l, 1) := by decide +kernel
theorem dL_carryOut_7 : decode cL_carryOut 7 = .ok (.lastore, 1) := by decide +kernel
theorem dL_carryOut_8 : decode cL_carryOut 8 = .ok (.goto 6, 3) := by decide +kernel
theorem dL_carryOut_11 : decode cL_carryOut 11 = .ok (.astore_n 2, 1) := by decide +kernel
theorem dL_carryOut_12 : decode cL_carryOut 12 = .ok (.iconst 1, 1) := by decide +kernel
theorem dL_carryOut_13 : decode cL_carryOut 13 = .ok (.ireturn, 1) := by decide +kernel
theorem dL_carryOut_14 : decode cL_carryOut 14 = .ok (.iconst 0, 1) := by decide +kernel
theorem dL_carryOut_15 : decode cL_carryOut 15 = .ok (.ireturn, 1) := by decide +kernel
set_option maxRecDepth 20000 in
theorem ggL_undo_X6_undo : GoodIn wsL_undo wsX6_undo := goodIn_ca (goodIn_ca (goodIn_ca (goodIn_r _ [6, 7, 8, 9, 10, 11, 5, 12, 13, 14, 15, 16, 17, 18, 19, 20, 21, 22, 23, 24, 25, 26, 27, 28, 29, 30, 31, 32, 33, 34, 35, 36, 37, 38, 39, 40, 41, 42, 43, 44, 45, 46, 47, 48, 49, 50, 51, 52, 53, 54, 55, 56, 57, 58, 59, 60, 61, 62, 63, 64, 65, 66, 67, 68, 69, 70, 71, 72, 73, 74, 75, 76, 77, 78, 79, 80, 81, 82, 83, 84, 85, 86, 87, 88, 89, 90, 91, 92, 93, 94, 95, 96, 97, 98, 99, 100, 101, 102, 103, 104, 105, 106, 107, 108, 109, 110, 111, 112, 113, 114, 115, 116, 117, 118, 119, 120, 121] (by decide +kernel) (by decide +kernel)) (goodIn_sub (fun _ h => List.mem_cons_of_mem _ (List.mem_append_left _ (List.mem_append_left _ (List.mem_append_right _ h)))) (by decide +kernel))) (goodIn_sub (fun _ h => List.mem_cons_of_mem _ (List.mem_append_left _ (List.mem_append_right _ h))) (by decide +kernel))) (goodIn_sub (fun _ h => List.mem_cons_of_mem _ (List.mem_append_right _ h)) (by decide +kernel))
set_option maxRecDepth 20000 in
theorem gL_undo_X6_undo : GoodIn wsL_undo (wsV RL 55 RX6 yX6_undo wsX6_undo) := goodIn_app (goodIn_of _ (by decide +kernel)) ggL_undo_X6_undo
theorem dL_undo_0 : decode cL_undo 0 = .ok (.aload_n 1, 1) := by decide +kernel
theorem dL_undo_1 : decode cL_undo 1 = .ok (.iconst 0, 1) := by decide +kernel
theorem dL_undo_2 : decode cL_undo 2 = .ok (.aload_n 0, 1) := by decide +kernel
theorem dL_undo_3 : decode cL_undo 3 = .ok (.invokevirtual 55, 3) := by decide +kernel
theorem dL_undo_6 : decode cL_undo 6 = .ok (.i2l, 1) := by decide +kernel
theorem dL_undo_7 : decode cL_undo 7 = .ok (.lastore, 1) := by decide +kernel
theorem dL_undo_8 : decode cL_undo 8 = .ok (.goto 6, 3) := by decide +kernel
theorem dL_undo_11 : decode cL_undo 11 = .ok (.astore_n 2, 1) := by decide +kernel
theorem dL_undo_12 : decode cL_undo 12 = .ok (.iconst 1, 1) := by decide +kernel
theorem dL_undo_13 : decode cL_undo 13 = .ok (.ireturn, 1) := by decide +kernel
theorem dL_undo_14 : decode cL_undo 14 = .ok (.iconst 0, 1) := by decide +kernel
theorem dL_undo_15 : decode cL_undo 15 = .ok (.ireturn, 1) := by decide +kernel
set_option maxRecDepth 20000 in
theorem ggL_restoreSnapshot_X6_restoreSnapshot : GoodIn wsL_restoreSnapshot wsX6_restoreSnapshot := goodIn_ca (goodIn_ca (goodIn_ca (goodIn_r _ [6, 7, 8, 9, 10, 11, 12, 5, 13, 14, 15, 16, 17, 18, 19, 20, 21, 22, 23, 24, 25, 26, 27, 28, 29, 30, 31, 32, 33, 34, 35, 36, 37, 38, 39, 40, 41, 42, 43, 44, 45, 46, 47, 48, 49, 50, 51, 52, 53, 54, 55, 56, 57, 58, 59, 60, 61, 62, 63, 64, 65, 66, 67, 68, 69, 70, 71, 72, 73, 74, 75, 76, 77, 78, 79, 80, 81, 82, 83, 84, 85, 86, 87, 88, 89, 90, 91, 92, 93, 94, 95, 96, 97, 98, 99, 100, 101, 102, 103, 104, 105, 106, 107, 108, 109, 110, 111, 112, 113, 114, 115, 116, 117, 118, 119, 120, 121, 122, 123, 124, 125, 126, 127, 128, 129, 130, 131, 132] (by decide +kernel) (by decide +kernel)) (goodIn_sub (fun _ h => List.mem_cons_of_mem _ (List.mem_append_left _ (List.mem_append_left _ (List.mem_append_right _ h)))) (by decide +kernel))) (goodIn_sub (fun _ h => List.mem_cons_of_mem _ (List.mem_append_left _ (List.mem_append_right _ h))) (by decide +kernel))) (goodIn_sub (fun _ h => List.mem_cons_of_mem _ (List.mem_append_right _ h)) (by decide +kernel))
set_option maxRecDepth 20000 in
theorem gL_restoreSnapshot_X6_restoreSnapshot : GoodIn wsL_restoreSnapshot (wsV RL 58 RX6 yX6_restoreSnapshot wsX6_restoreSnapshot) := goodIn_app (goodIn_of _ (by decide +kernel)) ggL_restoreSnapshot_X6_restoreSnapshot
theorem dL_restoreSnapshot_0 : decode cL_restoreSnapshot 0 = .ok (.aload_n 1, 1) := by decide +kernel
theorem dL_restoreSnapshot_1 : decode cL_restoreSnapshot 1 = .ok (.iconst 0, 1) := by decide +kernel
theorem dL_restoreSnapshot_2 : decode cL_restoreSnapshot 2 = .ok (.aload_n 0, 1) := by decide +kernel
theorem dL_restoreSnapshot_3 : decode cL_restoreSnapshot 3 = .ok (.invokevirtual 58, 3) := by decide +kernel
theorem dL_restoreSnapshot_6 : decode cL_restoreSnapshot 6 = .ok (.i2l, 1) := by decide +kernel
theorem dL_restoreSnapshot_7 : decode cL_restoreSnapshot 7 = .ok (.lastore, 1) := by decide +kernel
theorem dL_restoreSnapshot_8 : decode cL_restoreSnapshot 8 = .ok (.goto 6, 3) := by decide +kernel
theorem dL_restoreSnapshot_11 : decode cL_restoreSnapshot 11 = .ok (.astore_n 2, 1) := by decide +kernel
theorem dL_restoreSnapshot_12 : decode cL_restoreSnapshot 12 = .ok (.iconst 1, 1) := by decide +kernel
theorem dL_restoreSnapshot_13 : decode cL_restoreSnapshot 13 = .ok (.ireturn, 1) := by decide +kernel
theorem dL_restoreSnapshot_14 : decode cL_restoreSnapshot 14 = .ok (.iconst 0, 1) := by decide +kernel
theorem dL_restoreSnapshot_15 : decode cL_restoreSnapshot 15 = .ok (.ireturn, 1) := by decide +kernel
set_option maxRecDepth 20000 in
theorem ggL_isInChoir_X6_isInChoir : GoodIn wsL_isInChoir wsX6_isInChoir := goodIn_ca (goodIn_ca (goodIn_ca (goodIn_r _ [6, 7, 8, 9, 10, 11, 12, 5, 13, 14, 15, 16, 17, 18, 19, 20, 21, 22, 23, 24, 25, 26, 27, 28, 29, 30, 31, 32, 33, 34, 35, 36, 37, 38, 39, 40, 41, 42, 43, 44, 45, 46, 47, 48, 49, 50, 51, 52, 53, 54, 55, 56, 57, 58, 59, 60, 61, 62, 63] (by decide +kernel) (by decide +kernel)) (goodIn_sub (fun _ h => List.mem_cons_of_mem _ (List.mem_append_left _ (List.mem_append_left _ (List.mem_append_right _ h)))) (by decide +kernel))) (goodIn_sub (fun _ h => List.mem_cons_of_mem _ (List.mem_append_left _ (List.mem_append_right _ h))) (by decide +kernel))) (goodIn_sub (fun _ h => List.mem_cons_of_mem _ (List.mem_append_right _ h)) (by decide +kernel))
set_option maxRecDepth 20000 in
theorem gL_isInChoir_X6_isInChoir : GoodIn wsL_isInChoir (wsV RL 61 RX6 yX6_isInChoir wsX6_isInChoir) := goodIn_app (goodIn_of _ (by decide +kernel)) ggL_isInChoir_X6_isInChoir
theorem dL_isInChoir_0 : decode cL_isInChoir 0 = .ok (.aload_n 2, 1) := by decide +kernel
theorem dL_isInChoir_1 : decode cL_isInChoir 1 = .ok (.iconst 0, 1) := by decide +kernel
theorem dL_isInChoir_2 : decode cL_isInChoir 2 = .ok (.aload_n 0, 1) := by decide +kernel
theorem dL_isInChoir_3 : decode cL_isInChoir 3 = .ok (.iload_n 1, 1) := by decide +kernel
theorem dL_isInChoir_4 : decode cL_isInChoir 4 = .ok (.invokevirtual 61, 3) := by decide +kernel
theorem dL_isInChoir_7 : decode cL_isInChoir 7 = .ok (.ifCond .eq 7, 3) := by decide +kernel
theorem dL_isInChoir_10 : decode cL_isInChoir 10 = .ok (.lconst 1, 1) := by decide +kernel
theorem dL_isInChoir_11 : decode cL_isInChoir 11 = .ok (.goto 4, 3) := by decide +kernel
theorem dL_isInChoir_14 : decode cL_isInChoir 14 = .ok (.lconst 0, 1) := by decide +kernel
theorem dL_isInChoir_15 : decode cL_isInChoir 15 = .ok (.lastore, 1) := by decide +kernel
theorem dL_isInChoir_16 : decode cL_isInChoir 16 = .ok (.goto 6, 3) := by decide +kernel
theorem dL_isInChoir_19 : decode cL_isInChoir 19 = .ok (.astore_n 3, 1) := by decide +kernel
theorem dL_isInChoir_20 : decode cL_isInChoir 20 = .ok (.iconst 1, 1) := by decide +kernel
theorem dL_isInChoir_21 : decode cL_isInChoir 21 = .ok (.ireturn, 1) := by decide +kernel
theorem dL_isInChoir_22 : decode cL_isInChoir 22 = .ok (.iconst 0, 1) := by decide +kernel
theorem dL_isInChoir_23 : decode cL_isInChoir 23 = .ok (.ireturn, 1) := by decide +kernel
set_option maxRecDepth 20000 in
theorem ggL_ageOf_X6_ageOf : GoodIn wsL_ageOf wsX6_ageOf := goodIn_ca (goodIn_ca (goodIn_ca (goodIn_r _ [6, 7, 8, 9, 10, 11, 12, 13, 5, 14, 15, 16, 17, 18, 19, 20, 21, 22, 23, 24, 25, 26, 27, 28, 29, 30, 31, 32, 33, 34, 35, 36, 37, 38, 39, 40, 41, 42, 43, 44, 45, 46, 47, 48, 49, 50, 51, 52, 53, 54, 55, 56, 57, 58, 59] (by decide +kernel) (by decide +kernel)) (goodIn_sub (fun _ h => List.mem_cons_of_mem _ (List.mem_append_left _ (List.mem_append_left _ (List.mem_append_right _ h)))) (by decide +kernel))) (goodIn_sub (fun _ h => List.mem_cons_of_mem _ (List.mem_append_left _ (List.mem_append_right _ h))) (by decide +kernel))) (goodIn_sub (fun _ h => List.mem_cons_of_mem _ (List.mem_append_right _ h)) (by decide +kernel))
set_option maxRecDepth 20000 in
theorem gL_ageOf_X6_ageOf : GoodIn wsL_ageOf (wsV RL 65 RX6 yX6_ageOf wsX6_ageOf) := goodIn_app (goodIn_of _ (by decide +kernel)) ggL_ageOf_X6_ageOf
theorem dL_ageOf_0 : decode cL_ageOf 0 = .ok (.aload_n 2, 1) := by decide +kernel
theorem dL_ageOf_1 : decode cL_ageOf 1 = .ok (.iconst 0, 1) := by decide +kernel
theorem dL_ageOf_2 : decode cL_ageOf 2 = .ok (.aload_n 0, 1) := by decide +kernel
theorem dL_ageOf_3 : decode cL_ageOf 3 = .ok (.iload_n 1, 1) := by decide +kernel
theorem dL_ageOf_4 : decode cL_ageOf 4 = .ok (.invokevirtual 65, 3) := by decide +kernel
theorem dL_ageOf_7 : decode cL_ageOf 7 = .ok (.i2l, 1) := by decide +kernel
theorem dL_ageOf_8 : decode cL_ageOf 8 = .ok (.lastore, 1) := by decide +kernel
theorem dL_ageOf_9 : decode cL_ageOf 9 = .ok (.goto 6, 3) := by decide +kernel
theorem dL_ageOf_12 : decode cL_ageOf 12 = .ok (.astore_n 3, 1) := by decide +kernel
theorem dL_ageOf_13 : decode cL_ageOf 13 = .ok (.iconst 1, 1) := by decide +kernel
theorem dL_ageOf_14 : decode cL_ageOf 14 = .ok (.ireturn, 1) := by decide +kernel
theorem dL_ageOf_15 : decode cL_ageOf 15 = .ok (.iconst 0, 1) := by decide +kernel
theorem dL_ageOf_16 : decode cL_ageOf 16 = .ok (.ireturn, 1) := by decide +kernel
set_option maxRecDepth 20000 in
theorem ggL_lowestNoteOf_X6_lowestNoteOf : GoodIn wsL_lowestNoteOf wsX6_lowestNoteOf := goodIn_ca (goodIn_ca (goodIn_ca (goodIn_r _ [6, 7, 8, 9, 10, 11, 12, 13, 5, 14, 15, 16, 17, 18, 19, 20, 21, 22, 23, 24, 25, 26, 27, 28, 29, 30, 31, 32, 33, 34, 35, 36, 37, 38, 39, 40, 41, 42, 43, 44, 45, 46, 47, 48, 49, 50, 51, 52, 53, 54, 55, 56, 57, 58, 59, 60, 61, 62, 63, 64] (by decide +kernel) (by decide +kernel)) (goodIn_sub (fun _ h => List.mem_cons_of_mem _ (List.mem_append_left _ (List.mem_append_left _ (List.mem_append_right _ h)))) (by decide +kernel))) (goodIn_sub (fun _ h => List.mem_cons_of_mem _ (List.mem_append_left _ (List.mem_append_right _ h))) (by decide +kernel))) (goodIn_sub (fun _ h => List.mem_cons_of_mem _ (List.mem_append_right _ h)) (by decide +kernel))
set_option maxRecDepth 20000 in
theorem gL_lowestNoteOf_X6_lowestNoteOf : GoodIn wsL_lowestNoteOf (wsV RL 68 RX6 yX6_lowestNoteOf wsX6_lowestNoteOf) := goodIn_app (goodIn_of _ (by decide +kernel)) ggL_lowestNoteOf_X6_lowestNoteOf
theorem dL_lowestNoteOf_0 : decode cL_lowestNoteOf 0 = .ok (.aload_n 2, 1) := by decide +kernel
theorem dL_lowestNoteOf_1 : decode cL_lowestNoteOf 1 = .ok (.iconst 0, 1) := by decide +kernel
theorem dL_lowestNoteOf_2 : decode cL_lowestNoteOf 2 = .ok (.aload_n 0, 1) := by decide +kernel
theorem dL_lowestNoteOf_3 : decode cL_lowestNoteOf 3 = .ok (.iload_n 1, 1) := by decide +kernel
theorem dL_lowestNoteOf_4 : decode cL_lowestNoteOf 4 = .ok (.invokevirtual 68, 3) := by decide +kernel
theorem dL_lowestNoteOf_7 : decode cL_lowestNoteOf 7 = .ok (.i2l, 1) := by decide +kernel
theorem dL_lowestNoteOf_8 : decode cL_lowestNoteOf 8 = .ok (.lastore, 1) := by decide +kernel
theorem dL_lowestNoteOf_9 : decode cL_lowestNoteOf 9 = .ok (.goto 6, 3) := by decide +kernel
theorem dL_lowestNoteOf_12 : decode cL_lowestNoteOf 12 = .ok (.astore_n 3, 1) := by decide +kernel
theorem dL_lowestNoteOf_13 : decode cL_lowestNoteOf 13 = .ok (.iconst 1, 1) := by decide +kernel
theorem dL_lowestNoteOf_14 : decode cL_lowestNoteOf 14 = .ok (.ireturn, 1) := by decide +kernel
theorem dL_lowestNoteOf_15 : decode cL_lowestNoteOf 15 = .ok (.iconst 0, 1) := by decide +kernel
theorem dL_lowestNoteOf_16 : decode cL_lowestNoteOf 16 = .ok (.ireturn, 1) := by decide +kernel
set_option maxRecDepth 20000 in
theorem ggL_highestNoteOf_X6_highestNoteOf : GoodIn wsL_highestNoteOf wsX6_highestNoteOf := goodIn_ca (goodIn_ca (goodIn_ca (goodIn_r _ [6, 7, 8, 9, 10, 11, 12, 13, 5, 14, 15, 16, 17, 18, 19, 20, 21, 22, 23, 24, 25, 26, 27, 28, 29, 30, 31, 32, 33, 34, 35, 36, 37, 38, 39, 40, 41, 42, 43, 44, 45, 46, 47, 48, 49, 50, 51, 52, 53, 54, 55, 56, 57, 58, 59, 60, 61, 62, 63, 64] (by decide +kernel) (by decide +kernel)) (goodIn_sub (fun _ h => List.mem_cons_of_mem _ (List.mem_append_left _ (List.mem_append_left _ (List.mem_append_right _ h)))) (by decide +kernel))) (goodIn_sub (fun _ h => List.mem_cons_of_mem _ (List.mem_append_left _ (List.mem_append_right _ h))) (by decide +kernel))) (goodIn_sub (fun _ h => List.mem_cons_of_mem _ (List.mem_append_right _ h)) (by decide +kernel))
set_option maxRecDepth 20000 in
theorem gL_highestNoteOf_X6_highestNoteOf : GoodIn wsL_highestNoteOf (wsV RL 71 RX6 yX6_highestNoteOf wsX6_highestNoteOf) := goodIn_app (goodIn_of _ (by decide +kernel)) ggL_highestNoteOf_X6_highestNoteOf
theorem dL_highestNoteOf_0 : decode cL_highestNoteOf 0 = .ok (.aload_n 2, 1) := by decide +kernel
theorem dL_highestNoteOf_1 : decode cL_highestNoteOf 1 = .ok (.iconst 0, 1) := by decide +kernel
theorem dL_highestNoteOf_2 : decode cL_highestNoteOf 2 = .ok (.aload_n 0, 1) := by decide +kernel
theorem dL_highestNoteOf_3 : decode cL_highestNoteOf 3 = .ok (.iload_n 1, 1) := by decide +kernel
theorem dL_highestNoteOf_4 : decode cL_highestNoteOf 4 = .ok (.invokevirtual 71, 3) := by decide +kernel
theorem dL_highestNoteOf_7 : decode cL_highestNoteOf 7 = .ok (.i2l, 1) := by decide +kernel
theorem dL_highestNoteOf_8 : decode cL_highestNoteOf 8 = .ok (.lastore, 1) := by decide +kernel
theorem dL_highestNoteOf_9 : decode cL_highestNoteOf 9 = .ok (.goto 6, 3) := by decide +kernel
theorem dL_highestNoteOf_12 : decode cL_highestNoteOf 12 = .ok (.astore_n 3, 1) := by decide +kernel
theorem dL_highestNoteOf_13 : decode cL_highestNoteOf 13 = .ok (.iconst 1, 1) := by decide +kernel
theorem dL_highestNoteOf_14 : decode cL_highestNoteOf 14 = .ok (.ireturn, 1) := by decide +kernel
theorem dL_highestNoteOf_15 : decode cL_highestNoteOf 15 = .ok (.iconst 0, 1) := by decide +kernel
theorem dL_highestNoteOf_16 : decode cL_highestNoteOf 16 = .ok (.ireturn, 1) := by decide +kernel
set_option maxRecDepth 20000 in
theorem ggL_breakDayOf_X6_breakDayOf : GoodIn wsL_breakDayOf wsX6_breakDayOf := goodIn_ca (goodIn_ca (goodIn_ca (goodIn_r _ [6, 7, 8, 9, 10, 11, 12, 5, 13, 14, 15, 16, 17, 18, 19, 20, 21, 22, 23, 24, 25, 26, 27, 28, 29, 30, 31, 32, 33, 34, 35, 36, 37, 38, 39, 40, 41, 42, 43, 44, 45, 46, 47, 48, 49, 50, 51, 52, 53, 54, 55, 56, 57, 58] (by decide +kernel) (by decide +kernel)) (goodIn_sub (fun _ h => List.mem_cons_of_mem _ (List.mem_append_left _ (List.mem_append_left _ (List.mem_append_right _ h)))) (by decide +kernel))) (goodIn_sub (fun _ h => List.mem_cons_of_mem _ (List.mem_append_left _ (List.mem_append_right _ h))) (by decide +kernel))) (goodIn_sub (fun _ h => List.mem_cons_of_mem _ (List.mem_append_right _ h)) (by decide +kernel))
set_option maxRecDepth 20000 in
theorem gL_breakDayOf_X6_breakDayOf : GoodIn wsL_breakDayOf (wsV RL 74 RX6 yX6_breakDayOf wsX6_breakDayOf) := goodIn_app (goodIn_of _ (by decide +kernel)) ggL_breakDayOf_X6_breakDayOf
theorem dL_breakDayOf_0 : decode cL_breakDayOf 0 = .ok (.aload_n 2, 1) := by decide +kernel
theorem dL_breakDayOf_1 : decode cL_breakDayOf 1 = .ok (.iconst 0, 1) := by decide +kernel
theorem dL_breakDayOf_2 : decode cL_breakDayOf 2 = .ok (.aload_n 0, 1) := by decide +kernel
theorem dL_breakDayOf_3 : decode cL_breakDayOf 3 = .ok (.iload_n 1, 1) := by decide +kernel
theorem dL_breakDayOf_4 : decode cL_breakDayOf 4 = .ok (.invokevirtual 74, 3) := by decide +kernel
theorem dL_breakDayOf_7 : decode cL_breakDayOf 7 = .ok (.i2l, 1) := by decide +kernel
theorem dL_breakDayOf_8 : decode cL_breakDayOf 8 = .ok (.lastore, 1) := by decide +kernel
theorem dL_breakDayOf_9 : decode cL_breakDayOf 9 = .ok (.goto 6, 3) := by decide +kernel
theorem dL_breakDayOf_12 : decode cL_breakDayOf 12 = .ok (.astore_n 3, 1) := by decide +kernel
theorem dL_breakDayOf_13 : decode cL_breakDayOf 13 = .ok (.iconst 1, 1) := by decide +kernel
theorem dL_breakDayOf_14 : decode cL_breakDayOf 14 = .ok (.ireturn, 1) := by decide +kernel
theorem dL_breakDayOf_15 : decode cL_breakDayOf 15 = .ok (.iconst 0, 1) := by decide +kernel
theorem dL_breakDayOf_16 : decode cL_breakDayOf 16 = .ok (.ireturn, 1) := by decide +kernel
set_option maxRecDepth 20000 in
theorem ggL_choirOf_X6_choirOf : GoodIn wsL_choirOf wsX6_choirOf := goodIn_ca (goodIn_ca (goodIn_ca (goodIn_r _ [6, 7, 8, 9, 10, 11, 12, 5, 13, 14, 15, 16, 17, 18, 19, 20, 21, 22, 23, 24, 25, 26, 27, 28, 29, 30, 31, 32, 33, 34, 35, 36, 37, 38, 39, 40, 41, 42, 43, 44, 45, 46, 47, 48, 49, 50, 51, 52, 53, 54, 55, 56, 57, 58] (by decide +kernel) (by decide +kernel)) (goodIn_sub (fun _ h => List.mem_cons_of_mem _ (List.mem_append_left _ (List.mem_append_left _ (List.mem_append_right _ h)))) (by decide +kernel))) (goodIn_sub (fun _ h => List.mem_cons_of_mem _ (List.mem_append_left _ (List.mem_append_right _ h))) (by decide +kernel))) (goodIn_sub (fun _ h => List.mem_cons_of_mem _ (List.mem_append_right _ h)) (by decide +kernel))
set_option maxRecDepth 20000 in
theorem gL_choirOf_X6_choirOf : GoodIn wsL_choirOf (wsV RL 77 RX6 yX6_choirOf wsX6_choirOf) := goodIn_app (goodIn_of _ (by decide +kernel)) ggL_choirOf_X6_choirOf
theorem dL_choirOf_0 : decode cL_choirOf 0 = .ok (.aload_n 2, 1) := by decide +kernel
theorem dL_choirOf_1 : decode cL_choirOf 1 = .ok (.iconst 0, 1) := by decide +kernel
theorem dL_choirOf_2 : decode cL_choirOf 2 = .ok (.aload_n 0, 1) := by decide +kernel
theorem dL_choirOf_3 : decode cL_choirOf 3 = .ok (.iload_n 1, 1) := by decide +kernel
theorem dL_choirOf_4 : decode cL_choirOf 4 = .ok (.invokevirtual 77, 3) := by decide +kernel
theorem dL_choirOf_7 : decode cL_choirOf 7 = .ok (.i2l, 1) := by decide +kernel
theorem dL_choirOf_8 : decode cL_choirOf 8 = .ok (.lastore, 1) := by decide +kernel
theorem dL_choirOf_9 : decode cL_choirOf 9 = .ok (.goto 6, 3) := by decide +kernel
theorem dL_choirOf_12 : decode cL_choirOf 12 = .ok (.astore_n 3, 1) := by decide +kernel
theorem dL_choirOf_13 : decode cL_choirOf 13 = .ok (.iconst 1, 1) := by decide +kernel
theorem dL_choirOf_14 : decode cL_choirOf 14 = .ok (.ireturn, 1) := by decide +kernel
theorem dL_choirOf_15 : decode cL_choirOf 15 = .ok (.iconst 0, 1) := by decide +kernel
theorem dL_choirOf_16 : decode cL_choirOf 16 = .ok (.ireturn, 1) := by decide +kernel
set_option maxRecDepth 20000 in
theorem ggL_awayUntil_X6_awayUntil : GoodIn wsL_awayUntil wsX6_awayUntil := goodIn_ca (goodIn_ca (goodIn_ca (goodIn_r _ [6, 7, 8, 9, 10, 11, 12, 13, 5, 14, 15, 16, 17, 18, 19, 20, 21, 22, 23, 24, 25, 26, 27, 28, 29, 30, 31, 32, 33, 34, 35, 36, 37, 38, 39, 40, 41, 42, 43, 44, 45, 46, 47, 48, 49, 50, 51, 52, 53, 54, 55, 56, 57, 58, 59, 60, 61, 62, 63, 64] (by decide +kernel) (by decide +kernel)) (goodIn_sub (fun _ h => List.mem_cons_of_mem _ (List.mem_append_left _ (List.mem_append_left _ (List.mem_append_right _ h)))) (by decide +kernel))) (goodIn_sub (fun _ h => List.mem_cons_of_mem _ (List.mem_append_left _ (List.mem_append_right _ h))) (by decide +kernel))) (goodIn_sub (fun _ h => List.mem_cons_of_mem _ (List.mem_append_right _ h)) (by decide +kernel))
set_option maxRecDepth 20000 in
theorem gL_awayUntil_X6_awayUntil : GoodIn wsL_awayUntil (wsV RL 80 RX6 yX6_awayUntil wsX6_awayUntil) := goodIn_app (goodIn_of _ (by decide +kernel)) ggL_awayUntil_X6_awayUntil
theorem dL_awayUntil_0 : decode cL_awayUntil 0 = .ok (.aload_n 2, 1) := by decide +kernel
theorem dL_awayUntil_1 : decode cL_awayUntil 1 = .ok (.iconst 0, 1) := by decide +kernel
theorem dL_awayUntil_2 : decode cL_awayUntil 2 = .ok (.aload_n 0, 1) := by decide +kernel
theorem dL_awayUntil_3 : decode cL_awayUntil 3 = .ok (.iload_n 1, 1) := by decide +kernel
theorem dL_awayUntil_4 : decode cL_awayUntil 4 = .ok (.invokevirtual 80, 3) := by decide +kernel
theorem dL_awayUntil_7 : decode cL_awayUntil 7 = .ok (.i2l, 1) := by decide +kernel
theorem dL_awayUntil_8 : decode cL_awayUntil 8 = .ok (.lastore, 1) := by decide +kernel
theorem dL_awayUntil_9 : decode cL_awayUntil 9 = .ok (.goto 6, 3) := by decide +kernel
theorem dL_awayUntil_12 : decode cL_awayUntil 12 = .ok (.astore_n 3, 1) := by decide +kernel
theorem dL_awayUntil_13 : decode cL_awayUntil 13 = .ok (.iconst 1, 1) := by decide +kernel
theorem dL_awayUntil_14 : decode cL_awayUntil 14 = .ok (.ireturn, 1) := by decide +kernel
theorem dL_awayUntil_15 : decode cL_awayUntil 15 = .ok (.iconst 0, 1) := by decide +kernel
theorem dL_awayUntil_16 : decode cL_awayUntil 16 = .ok (.ireturn, 1) := by decide +kernel
set_option maxRecDepth 20000 in
theorem ggL_isExcused_X6_isExcused : GoodIn wsL_isExcused wsX6_isExcused := goodIn_ca (goodIn_ca (goodIn_ca (goodIn_r _ [7, 8, 9, 10, 11, 12, 6, 13, 14, 15, 16, 17, 18, 19, 20, 21, 22, 23, 24, 25, 26, 27, 28, 29, 30, 31, 32, 33, 34, 35, 36, 37, 38, 39, 40, 41, 42, 43, 44, 45, 46, 47, 48, 49, 50, 51, 52, 53, 54, 55, 56, 57, 58, 59, 60, 61, 62, 63, 64, 65, 66, 67, 68, 69, 70, 71, 72, 73, 74, 75] (by decide +kernel) (by decide +kernel)) (goodIn_sub (fun _ h => List.mem_cons_of_mem _ (List.mem_append_left _ (List.mem_append_left _ (List.mem_append_right _ h)))) (by decide +kernel))) (goodIn_sub (fun _ h => List.mem_cons_of_mem _ (List.mem_append_left _ (List.mem_append_right _ h))) (by decide +kernel))) (goodIn_sub (fun _ h => List.mem_cons_of_mem _ (List.mem_append_right _ h)) (by decide +kernel))
set_option maxRecDepth 20000 in
theorem gL_isExcused_X6_isExcused : GoodIn wsL_isExcused (wsV RL 83 RX6 yX6_isExcused wsX6_isExcused) := goodIn_app (goodIn_of _ (by decide +kernel)) ggL_isExcused_X6_isExcused
theorem dL_isExcused_0 : decode cL_isExcused 0 = .ok (.aload_n 3, 1) := by decide +kernel
theorem dL_isExcused_1 : decode cL_isExcused 1 = .ok (.iconst 0, 1) := by decide +kernel
theorem dL_isExcused_2 : decode cL_isExcused 2 = .ok (.aload_n 0, 1) := by decide +kernel
theorem dL_isExcused_3 : decode cL_isExcused 3 = .ok (.iload_n 1, 1) := by decide +kernel
theorem dL_isExcused_4 : decode cL_isExcused 4 = .ok (.iload_n 2, 1) := by decide +kernel
theorem dL_isExcused_5 : decode cL_isExcused 5 = .ok (.invokevirtual 83, 3) := by decide +kernel
theorem dL_isExcused_8 : decode cL_isExcused 8 = .ok (.ifCond .eq 7, 3) := by decide +kernel
theorem dL_isExcused_11 : decode cL_isExcused 11 = .ok (.lconst 1, 1) := by decide +kernel
theorem dL_isExcused_12 : decode cL_isExcused 12 = .ok (.goto 4, 3) := by decide +kernel
theorem dL_isExcused_15 : decode cL_isExcused 15 = .ok (.lconst 0, 1) := by decide +kernel
theorem dL_isExcused_16 : decode cL_isExcused 16 = .ok (.lastore, 1) := by decide +kernel
theorem dL_isExcused_17 : decode cL_isExcused 17 = .ok (.goto 11, 3) := by decide +kernel
theorem dL_isExcused_20 : decode cL_isExcused 20 = .ok (.astore 4, 2) := by decide +kernel
theorem dL_isExcused_22 : decode cL_isExcused 22 = .ok (.iconst 1, 1) := by decide +kernel
theorem dL_isExcused_23 : decode cL_isExcused 23 = .ok (.ireturn, 1) := by decide +kernel
theorem dL_isExcused_24 : decode cL_isExcused 24 = .ok (.astore 4, 2) := by decide +kernel
theorem dL_isExcused_26 : decode cL_isExcused 26 = .ok (.iconst 2, 1) := by decide +kernel
theorem dL_isExcused_27 : decode cL_isExcused 27 = .ok (.ireturn, 1) := by decide +kernel
theorem dL_isExcused_28 : decode cL_isExcused 28 = .ok (.iconst 0, 1) := by decide +kernel
theorem dL_isExcused_29 : decode cL_isExcused 29 = .ok (.ireturn, 1) := by decide +kernel
set_option maxRecDepth 20000 in
theorem ggL_feastsOf_X6_feastsOf : GoodIn wsL_feastsOf wsX6_feastsOf := goodIn_ca (goodIn_ca (goodIn_ca (goodIn_r _ [6, 7, 8, 9, 10, 11, 12, 5, 13, 14, 15, 16, 17, 18, 19, 20, 21, 22, 23, 24, 25, 26, 27, 28, 29, 30, 31, 32, 33, 34, 35, 36, 37, 38, 39, 40, 41, 42, 43, 44, 45, 46, 47, 48, 49, 50, 51, 52, 53, 54, 55, 56, 57, 58] (by decide +kernel) (by decide +kernel)) (goodIn_sub (fun _ h => List.mem_cons_of_mem _ (List.mem_append_left _ (List.mem_append_left _ (List.mem_append_right _ h)))) (by decide +kernel))) (goodIn_sub (fun _ h => List.mem_cons_of_mem _ (List.mem_append_left _ (List.mem_append_right _ h))) (by decide +kernel))) (goodIn_sub (fun _ h => List.mem_cons_of_mem _ (List.mem_append_right _ h)) (by decide +kernel))
set_option maxRecDepth 20000 in
theorem gL_feastsOf_X6_feastsOf : GoodIn wsL_feastsOf (wsV RL 87 RX6 yX6_feastsOf wsX6_feastsOf) := goodIn_app (goodIn_of _ (by decide +kernel)) ggL_feastsOf_X6_feastsOf
theorem dL_feastsOf_0 : decode cL_feastsOf 0 = .ok (.aload_n 2, 1) := by decide +kernel
theorem dL_feastsOf_1 : decode cL_feastsOf 1 = .ok (.iconst 0, 1) := by decide +kernel
theorem dL_feastsOf_2 : decode cL_feastsOf 2 = .ok (.aload_n 0, 1) := by decide +kernel
theorem dL_feastsOf_3 : decode cL_feastsOf 3 = .ok (.iload_n 1, 1) := by decide +kernel
theorem dL_feastsOf_4 : decode cL_feastsOf 4 = .ok (.invokevirtual 87, 3) := by decide +kernel
theorem dL_feastsOf_7 : decode cL_feastsOf 7 = .ok (.i2l, 1) := by decide +kernel
theorem dL_feastsOf_8 : decode cL_feastsOf 8 = .ok (.lastore, 1) := by decide +kernel
theorem dL_feastsOf_9 : decode cL_feastsOf 9 = .ok (.goto 6, 3) := by decide +kernel
theorem dL_feastsOf_12 : decode cL_feastsOf 12 = .ok (.astore_n 3, 1) := by decide +kernel
theorem dL_feastsOf_13 : decode cL_feastsOf 13 = .ok (.iconst 1, 1) := by decide +kernel
theorem dL_feastsOf_14 : decode cL_feastsOf 14 = .ok (.ireturn, 1) := by decide +kernel
theorem dL_feastsOf_15 : decode cL_feastsOf 15 = .ok (.iconst 0, 1) := by decide +kernel
theorem dL_feastsOf_16 : decode cL_feastsOf 16 = .ok (.ireturn, 1) := by decide +kernel
set_option maxRecDepth 20000 in
theorem ggL_descantsOf_X6_descantsOf : GoodIn wsL_descantsOf wsX6_descantsOf := goodIn_ca (goodIn_ca (goodIn_ca (goodIn_r _ [6, 7, 8, 9, 10, 11, 12, 5, 13, 14, 15, 16, 17, 18, 19, 20, 21, 22, 23, 24, 25, 26, 27, 28, 29, 30, 31, 32, 33, 34, 35, 36, 37, 38, 39, 40, 41, 42, 43, 44, 45, 46, 47, 48, 49, 50, 51, 52, 53, 54, 55, 56, 57, 58] (by decide +kernel) (by decide +kernel)) (goodIn_sub (fun _ h => List.mem_cons_of_mem _ (List.mem_append_left _ (List.mem_append_left _ (List.mem_append_right _ h)))) (by decide +kernel))) (goodIn_sub (fun _ h => List.mem_cons_of_mem _ (List.mem_append_left _ (List.mem_append_right _ h))) (by decide +kernel))) (goodIn_sub (fun _ h => List.mem_cons_of_mem _ (List.mem_append_right _ h)) (by decide +kernel))
set_option maxRecDepth 20000 in
theorem gL_descantsOf_X6_descantsOf : GoodIn wsL_descantsOf (wsV RL 90 RX6 yX6_descantsOf wsX6_descantsOf) := goodIn_app (goodIn_of _ (by decide +kernel)) ggL_descantsOf_X6_descantsOf
theorem dL_descantsOf_0 : decode cL_descantsOf 0 = .ok (.aload_n 2, 1) := by decide +kernel
theorem dL_descantsOf_1 : decode cL_descantsOf 1 = .ok (.iconst 0, 1) := by decide +kernel
theorem dL_descantsOf_2 : decode cL_descantsOf 2 = .ok (.aload_n 0, 1) := by decide +kernel
theorem dL_descantsOf_3 : decode cL_descantsOf 3 = .ok (.iload_n 1, 1) := by decide +kernel
theorem dL_descantsOf_4 : decode cL_descantsOf 4 = .ok (.invokevirtual 90, 3) := by decide +kernel
theorem dL_descantsOf_7 : decode cL_descantsOf 7 = .ok (.i2l, 1) := by decide +kernel
theorem dL_descantsOf_8 : decode cL_descantsOf 8 = .ok (.lastore, 1) := by decide +kernel
theorem dL_descantsOf_9 : decode cL_descantsOf 9 = .ok (.goto 6, 3) := by decide +kernel
theorem dL_descantsOf_12 : decode cL_descantsOf 12 = .ok (.astore_n 3, 1) := by decide +kernel
theorem dL_descantsOf_13 : decode cL_descantsOf 13 = .ok (.iconst 1, 1) := by decide +kernel
theorem dL_descantsOf_14 : decode cL_descantsOf 14 = .ok (.ireturn, 1) := by decide +kernel
theorem dL_descantsOf_15 : decode cL_descantsOf 15 = .ok (.iconst 0, 1) := by decide +kernel
theorem dL_descantsOf_16 : decode cL_descantsOf 16 = .ok (.ireturn, 1) := by decide +kernel
set_option maxRecDepth 20000 in
theorem ggL_dayOf_X6_dayOf : GoodIn wsL_dayOf wsX6_dayOf := goodIn_ca (goodIn_ca (goodIn_ca (goodIn_r _ [6, 7, 8, 9, 10, 11, 12, 5, 13, 14, 15, 16, 17, 18, 19, 20, 21, 22, 23, 24, 25, 26, 27, 28, 29, 30, 31, 32, 33, 34, 35, 36, 37, 38, 39, 40, 41, 42, 43, 44, 45, 46, 47, 48, 49, 50, 51, 52, 53, 54] (by decide +kernel) (by decide +kernel)) (goodIn_sub (fun _ h => List.mem_cons_of_mem _ (List.mem_append_left _ (List.mem_append_left _ (List.mem_append_right _ h)))) (by decide +kernel))) (goodIn_sub (fun _ h => List.mem_cons_of_mem _ (List.mem_append_left _ (List.mem_append_right _ h))) (by decide +kernel))) (goodIn_sub (fun _ h => List.mem_cons_of_mem _ (List.mem_append_right _ h)) (by decide +kernel))
set_option maxRecDepth 20000 in
theorem gL_dayOf_X6_dayOf : GoodIn wsL_dayOf (wsV RL 93 RX6 yX6_dayOf wsX6_dayOf) := goodIn_app (goodIn_of _ (by decide +kernel)) ggL_dayOf_X6_dayOf
theorem dL_dayOf_0 : decode cL_dayOf 0 = .ok (.aload_n 2, 1) := by decide +kernel
theorem dL_dayOf_1 : decode cL_dayOf 1 = .ok (.iconst 0, 1) := by decide +kernel
theorem dL_dayOf_2 : decode cL_dayOf 2 = .ok (.aload_n 0, 1) := by decide +kernel
theorem dL_dayOf_3 : decode cL_dayOf 3 = .ok (.iload_n 1, 1) := by decide +kernel
theorem dL_dayOf_4 : decode cL_dayOf 4 = .ok (.invokevirtual 93, 3) := by decide +kernel
theorem dL_dayOf_7 : decode cL_dayOf 7 = .ok (.i2l, 1) := by decide +kernel
theorem dL_dayOf_8 : decode cL_dayOf 8 = .ok (.lastore, 1) := by decide +kernel
theorem dL_dayOf_9 : decode cL_dayOf 9 = .ok (.goto 6, 3) := by decide +kernel
theorem dL_dayOf_12 : decode cL_dayOf 12 = .ok (.astore_n 3, 1) := by decide +kernel
theorem dL_dayOf_13 : decode cL_dayOf 13 = .ok (.iconst 1, 1) := by decide +kernel
theorem dL_dayOf_14 : decode cL_dayOf 14 = .ok (.ireturn, 1) := by decide +kernel
theorem dL_dayOf_15 : decode cL_dayOf 15 = .ok (.iconst 0, 1) := by decide +kernel
theorem dL_dayOf_16 : decode cL_dayOf 16 = .ok (.ireturn, 1) := by decide +kernel
set_option maxRecDepth 20000 in
theorem ggL_isHeld_X6_isHeld : GoodIn wsL_isHeld wsX6_isHeld := goodIn_ca (goodIn_ca (goodIn_ca (goodIn_r _ [6, 7, 8, 9, 10, 5, 11, 12, 13, 14, 15, 16, 17, 18, 19, 20, 21, 22, 23, 24, 25, 26, 27, 28, 29, 30, 31, 32, 33, 34, 35, 36, 37, 38, 39, 40, 41, 42, 43, 44, 45, 46, 47, 48, 49, 50, 51, 52, 53, 54, 55, 56, 57, 58, 59, 60, 61] (by decide +kernel) (by decide +kernel)) (goodIn_sub (fun _ h => List.mem_cons_of_mem _ (List.mem_append_left _ (List.mem_append_left _ (List.mem_append_right _ h)))) (by decide +kernel))) (goodIn_sub (fun _ h => List.mem_cons_of_mem _ (List.mem_append_left _ (List.mem_append_right _ h))) (by decide +kernel))) (goodIn_sub (fun _ h => List.mem_cons_of_mem _ (List.mem_append_right _ h)) (by decide +kernel))
set_option maxRecDepth 20000 in
theorem gL_isHeld_X6_isHeld : GoodIn wsL_isHeld (wsV RL 96 RX6 yX6_isHeld wsX6_isHeld) := goodIn_app (goodIn_of _ (by decide +kernel)) ggL_isHeld_X6_isHeld
theorem dL_isHeld_0 : decode cL_isHeld 0 = .ok (.aload_n 2, 1) := by decide +kernel
theorem dL_isHeld_1 : decode cL_isHeld 1 = .ok (.iconst 0, 1) := by decide +kernel
theorem dL_isHeld_2 : decode cL_isHeld 2 = .ok (.aload_n 0, 1) := by decide +kernel
theorem dL_isHeld_3 : decode cL_isHeld 3 = .ok (.iload_n 1, 1) := by decide +kernel
theorem dL_isHeld_4 : decode cL_isHeld 4 = .ok (.invokevirtual 96, 3) := by decide +kernel
theorem dL_isHeld_7 : decode cL_isHeld 7 = .ok (.ifCond .eq 7, 3) := by decide +kernel
theorem dL_isHeld_10 : decode cL_isHeld 10 = .ok (.lconst 1, 1) := by decide +kernel
theorem dL_isHeld_11 : decode cL_isHeld 11 = .ok (.goto 4, 3) := by decide +kernel
theorem dL_isHeld_14 : decode cL_isHeld 14 = .ok (.lconst 0, 1) := by decide +kernel
theorem dL_isHeld_15 : decode cL_isHeld 15 = .ok (.lastore, 1) := by decide +kernel
theorem dL_isHeld_16 : decode cL_isHeld 16 = .ok (.goto 6, 3) := by decide +kernel
theorem dL_isHeld_19 : decode cL_isHeld 19 = .ok (.astore_n 3, 1) := by decide +kernel
theorem dL_isHeld_20 : decode cL_isHeld 20 = .ok (.iconst 1, 1) := by decide +kernel
theorem dL_isHeld_21 : decode cL_isHeld 21 = .ok (.ireturn, 1) := by decide +kernel
theorem dL_isHeld_22 : decode cL_isHeld 22 = .ok (.iconst 0, 1) := by decide +kernel
theorem dL_isHeld_23 : decode cL_isHeld 23 = .ok (.ireturn, 1) := by decide +kernel
set_option maxRecDepth 20000 in
theorem ggL_placesIn_X6_placesIn : GoodIn wsL_placesIn wsX6_placesIn := goodIn_ca (goodIn_ca (goodIn_ca (goodIn_r _ [6, 7, 8, 9, 10, 11, 12, 5, 13, 14, 15, 16, 17, 18, 19, 20, 21, 22, 23, 24, 25, 26, 27, 28, 29, 30, 31, 32, 33, 34, 35, 36, 37, 38, 39, 40, 41, 42, 43, 44, 45, 46, 47, 48, 49, 50, 51, 52, 53, 54, 55, 56, 57, 58, 59, 60, 61, 62, 63] (by decide +kernel) (by decide +kernel)) (goodIn_sub (fun _ h => List.mem_cons_of_mem _ (List.mem_append_left _ (List.mem_append_left _ (List.mem_append_right _ h)))) (by decide +kernel))) (goodIn_sub (fun _ h => List.mem_cons_of_mem _ (List.mem_append_left _ (List.mem_append_right _ h))) (by decide +kernel))) (goodIn_sub (fun _ h => List.mem_cons_of_mem _ (List.mem_append_right _ h)) (by decide +kernel))
set_option maxRecDepth 20000 in
theorem gL_placesIn_X6_placesIn : GoodIn wsL_placesIn (wsV RL 99 RX6 yX6_placesIn wsX6_placesIn) := goodIn_app (goodIn_of _ (by decide +kernel)) ggL_placesIn_X6_placesIn
theorem dL_placesIn_0 : decode cL_placesIn 0 = .ok (.aload_n 3, 1) := by decide +kernel
theorem dL_placesIn_1 : decode cL_placesIn 1 = .ok (.iconst 0, 1) := by decide +kernel
theorem dL_placesIn_2 : decode cL_placesIn 2 = .ok (.aload_n 0, 1) := by decide +kernel
theorem dL_placesIn_3 : decode cL_placesIn 3 = .ok (.iload_n 1, 1) := by decide +kernel
theorem dL_placesIn_4 : decode cL_placesIn 4 = .ok (.iload_n 2, 1) := by decide +kernel
theorem dL_placesIn_5 : decode cL_placesIn 5 = .ok (.invokevirtual 99, 3) := by decide +kernel
theorem dL_placesIn_8 : decode cL_placesIn 8 = .ok (.i2l, 1) := by decide +kernel
theorem dL_placesIn_9 : decode cL_placesIn 9 = .ok (.lastore, 1) := by decide +kernel
theorem dL_placesIn_10 : decode cL_placesIn 10 = .ok (.goto 7, 3) := by decide +kernel
theorem dL_placesIn_13 : decode cL_placesIn 13 = .ok (.astore 4, 2) := by decide +kernel
theorem dL_placesIn_15 : decode cL_placesIn 15 = .ok (.iconst 1, 1) := by decide +kernel
theorem dL_placesIn_16 : decode cL_placesIn 16 = .ok (.ireturn, 1) := by decide +kernel
theorem dL_placesIn_17 : decode cL_placesIn 17 = .ok (.iconst 0, 1) := by decide +kernel
theorem dL_placesIn_18 : decode cL_placesIn 18 = .ok (.ireturn, 1) := by decide +kernel
set_option maxRecDepth 20000 in
theorem ggL_whyNot_X6_whyNot : GoodIn wsL_whyNot wsX6_whyNot := goodIn_ca (goodIn_ca (goodIn_ca (goodIn_r _ [7, 8, 9, 10, 11, 12, 13, 6, 14, 15, 16, 17, 18, 19, 20, 21, 22, 23, 24, 25, 26, 27, 28, 29, 30, 31, 32, 33, 34, 35, 36, 37, 38, 39, 40, 41, 42, 43, 44, 45, 46, 47, 48, 49, 50, 51, 52, 53, 54, 55, 56, 57, 58, 59, 60, 61, 62, 63, 64, 65, 66, 67, 68, 69, 70, 71, 72, 73, 74, 75, 76, 77, 78, 79, 80, 81, 82, 83, 84, 85, 86, 87, 88, 89, 90, 91, 92, 93, 94, 95, 96, 97, 98, 99, 100, 101, 102, 103, 104, 105, 106, 107, 108, 109, 110, 111, 112, 113, 114, 115, 116, 117, 118, 119, 120, 121, 122, 123, 124, 125, 126, 127, 128, 129, 130, 131, 132, 133, 134, 135, 136, 137, 138, 139, 140, 141] (by decide +kernel) (by decide +kernel)) (goodIn_sub (fun _ h => List.mem_cons_of_mem _ (List.mem_append_left _ (List.mem_append_left _ (List.mem_append_right _ h)))) (by decide +kernel))) (goodIn_sub (fun _ h => List.mem_cons_of_mem _ (List.mem_append_left _ (List.mem_append_right _ h))) (by decide +kernel))) (goodIn_sub (fun _ h => List.mem_cons_of_mem _ (List.mem_append_right _ h)) (by decide +kernel))
set_option maxRecDepth 20000 in
theorem gL_whyNot_X6_whyNot : GoodIn wsL_whyNot (wsV RL 102 RX6 yX6_whyNot wsX6_whyNot) := goodIn_app (goodIn_of _ (by decide +kernel)) ggL_whyNot_X6_whyNot
theorem dL_whyNot_0 : decode cL_whyNot 0 = .ok (.aload 4, 2) := by decide +kernel
theorem dL_whyNot_2 : decode cL_whyNot 2 = .ok (.iconst 0, 1) := by decide +kernel
theorem dL_whyNot_3 : decode cL_whyNot 3 = .ok (.aload_n 0, 1) := by decide +kernel
theorem dL_whyNot_4 : decode cL_whyNot 4 = .ok (.iload_n 1, 1) := by decide +kernel
theorem dL_whyNot_5 : decode cL_whyNot 5 = .ok (.iload_n 2, 1) := by decide +kernel
theorem dL_whyNot_6 : decode cL_whyNot 6 = .ok (.iload_n 3, 1) := by decide +kernel
theorem dL_whyNot_7 : decode cL_whyNot 7 = .ok (.invokevirtual 102, 3) := by decide +kernel
theorem dL_whyNot_10 : decode cL_whyNot 10 = .ok (.i2l, 1) := by decide +kernel
theorem dL_whyNot_11 : decode cL_whyNot 11 = .ok (.lastore, 1) := by decide +kernel
theorem dL_whyNot_12 : decode cL_whyNot 12 = .ok (.goto 11, 3) := by decide +kernel
theorem dL_whyNot_15 : decode cL_whyNot 15 = .ok (.astore 5, 2) := by decide +kernel
theorem dL_whyNot_17 : decode cL_whyNot 17 = .ok (.iconst 1, 1) := by decide +kernel
theorem dL_whyNot_18 : decode cL_whyNot 18 = .ok (.ireturn, 1) := by decide +kernel
theorem dL_whyNot_19 : decode cL_whyNot 19 = .ok (.astore 5, 2) := by decide +kernel
theorem dL_whyNot_21 : decode cL_whyNot 21 = .ok (.iconst 2, 1) := by decide +kernel
theorem dL_whyNot_22 : decode cL_whyNot 22 = .ok (.ireturn, 1) := by decide +kernel
theorem dL_whyNot_23 : decode cL_whyNot 23 = .ok (.iconst 0, 1) := by decide +kernel
theorem dL_whyNot_24 : decode cL_whyNot 24 = .ok (.ireturn, 1) := by decide +kernel
set_option maxRecDepth 20000 in
theorem ggL_lineOf_X6_lineOf : GoodIn wsL_lineOf wsX6_lineOf := goodIn_ca (goodIn_ca (goodIn_ca (goodIn_r _ [6, 7, 8, 9, 10, 11, 12, 5, 13, 14, 15, 16, 17, 18, 19, 20, 21, 22, 23, 24, 25, 26, 27, 28, 29, 30, 31, 32, 33, 34, 35, 36, 37, 38, 39, 40, 41, 42, 43, 44, 45, 46, 47, 48, 49, 50, 51, 52, 53, 54, 55, 56, 57, 58, 59, 60, 61, 62, 63, 64, 65, 66, 67, 68, 69, 70, 71, 72, 73, 74, 75, 76, 77, 78, 79, 80, 81, 82, 83, 84, 85, 86, 87, 88, 89, 90, 91, 92, 93, 94, 95, 96, 97, 98, 99, 100, 101, 102, 103, 104, 105, 106, 107, 108, 109, 110, 111, 112, 113, 114, 115, 116, 117, 118, 119, 120, 121, 122, 123, 124, 125, 126, 127, 128, 129, 130, 131, 132, 133, 134, 135, 136, 137, 138, 139, 140, 141, 142, 143, 144, 145, 146, 147, 148, 149, 150, 151, 152, 153, 154, 155, 156, 157, 158, 159, 160, 161, 162, 163, 164, 165, 166, 167, 168, 169, 170, 171, 172, 173, 174, 175, 176, 177, 178, 179, 180, 181, 182, 183, 184, 185, 186, 187, 188, 189, 190, 191, 192, 193, 194, 195, 196, 197, 198] (by decide +kernel) (by decide +kernel)) (goodIn_sub (fun _ h => List.mem_cons_of_mem _ (List.mem_append_left _ (List.mem_append_left _ (List.mem_append_right _ h)))) (by decide +kernel))) (goodIn_sub (fun _ h => List.mem_cons_of_mem _ (List.mem_append_left _ (List.mem_append_right _ h))) (by decide +kernel))) (goodIn_sub (fun _ h => List.mem_cons_of_mem _ (List.mem_append_right _ h)) (by decide +kernel))
set_option maxRecDepth 20000 in
theorem gL_lineOf_X6_lineOf : GoodIn wsL_lineOf (wsV RL 105 RX6 yX6_lineOf wsX6_lineOf) := goodIn_app (goodIn_of _ (by decide +kernel)) ggL_lineOf_X6_lineOf
theorem dL_lineOf_0 : decode cL_lineOf 0 = .ok (.aload_n 3, 1) := by decide +kernel
theorem dL_lineOf_1 : decode cL_lineOf 1 = .ok (.iconst 0, 1) := by decide +kernel
theorem dL_lineOf_2 : decode cL_lineOf 2 = .ok (.aload_n 0, 1) := by decide +kernel
theorem dL_lineOf_3 : decode cL_lineOf 3 = .ok (.iload_n 1, 1) := by decide +kernel
theorem dL_lineOf_4 : decode cL_lineOf 4 = .ok (.iload_n 2, 1) := by decide +kernel
theorem dL_lineOf_5 : decode cL_lineOf 5 = .ok (.invokevirtual 105, 3) := by decide +kernel
theorem dL_lineOf_8 : decode cL_lineOf 8 = .ok (.i2l, 1) := by decide +kernel
theorem dL_lineOf_9 : decode cL_lineOf 9 = .ok (.lastore, 1) := by decide +kernel
theorem dL_lineOf_10 : decode cL_lineOf 10 = .ok (.goto 7, 3) := by decide +kernel
theorem dL_lineOf_13 : decode cL_lineOf 13 = .ok (.astore 4, 2) := by decide +kernel
theorem dL_lineOf_15 : decode cL_lineOf 15 = .ok (.iconst 1, 1) := by decide +kernel
theorem dL_lineOf_16 : decode cL_lineOf 16 = .ok (.ireturn, 1) := by decide +kernel
theorem dL_lineOf_17 : decode cL_lineOf 17 = .ok (.iconst 0, 1) := by decide +kernel
theorem dL_lineOf_18 : decode cL_lineOf 18 = .ok (.ireturn, 1) := by decide +kernel
set_option maxRecDepth 20000 in
theorem ggL_singersIn_X6_singersIn : GoodIn wsL_singersIn wsX6_singersIn := goodIn_ca (goodIn_ca (goodIn_ca (goodIn_r _ [6, 7, 8, 9, 10, 11, 5, 12, 13, 14, 15, 16, 17, 18, 19, 20, 21, 22, 23, 24, 25, 26, 27, 28, 29, 30, 31, 32, 33, 34, 35, 36, 37, 38, 39, 40, 41, 42, 43, 44, 45, 46, 47, 48, 49, 50, 51, 52, 53, 54, 55, 56, 57, 58, 59, 60, 61, 62, 63, 64, 65, 66, 67, 68, 69, 70, 71, 72, 73, 74, 75, 76, 77, 78, 79, 80, 81, 82, 83, 84, 85, 86, 87, 88, 89, 90, 91, 92, 93, 94, 95, 96, 97, 98, 99, 100, 101, 102, 103, 104, 105, 106, 107, 108, 109, 110, 111, 112, 113, 114, 115, 116, 117, 118, 119, 120, 121, 122, 123, 124, 125, 126, 127, 128, 129, 130, 131, 132, 133, 134, 135, 136, 137, 138, 139, 140, 141, 142, 143, 144, 145, 146, 147, 148, 149, 150, 151, 152, 153, 154, 155, 156, 157, 158, 159, 160, 161, 162, 163, 164, 165, 166, 167, 168, 169, 170, 171, 172, 173, 174, 175, 176, 177, 178, 179, 180, 181, 182, 183, 184, 185, 186, 187, 188, 189, 190, 191, 192, 193, 194, 195, 196, 197, 198, 199, 200] (by decide +kernel) (by decide +kernel)) (goodIn_sub (fun _ h => List.mem_cons_of_mem _ (List.mem_append_left _ (List.mem_append_left _ (List.mem_append_right _ h)))) (by decide +kernel))) (goodIn_sub (fun _ h => List.mem_cons_of_mem _ (List.mem_append_left _ (List.mem_append_right _ h))) (by decide +kernel))) (goodIn_sub (fun _ h => List.mem_cons_of_mem _ (List.mem_append_right _ h)) (by decide +kernel))
set_option maxRecDepth 20000 in
theorem gL_singersIn_X6_singersIn : GoodIn wsL_singersIn (wsV RL 108 RX6 yX6_singersIn wsX6_singersIn) := goodIn_app (goodIn_of _ (by decide +kernel)) ggL_singersIn_X6_singersIn
theorem dL_singersIn_0 : decode cL_singersIn 0 = .ok (.aload_n 3, 1) := by decide +kernel
theorem dL_singersIn_1 : decode cL_singersIn 1 = .ok (.iconst 0, 1) := by decide +kernel
theorem dL_singersIn_2 : decode cL_singersIn 2 = .ok (.aload_n 0, 1) := by decide +kernel
theorem dL_singersIn_3 : decode cL_singersIn 3 = .ok (.iload_n 1, 1) := by decide +kernel
theorem dL_singersIn_4 : decode cL_singersIn 4 = .ok (.iload_n 2, 1) := by decide +kernel
theorem dL_singersIn_5 : decode cL_singersIn 5 = .ok (.invokevirtual 108, 3) := by decide +kernel
theorem dL_singersIn_8 : decode cL_singersIn 8 = .ok (.i2l, 1) := by decide +kernel
theorem dL_singersIn_9 : decode cL_singersIn 9 = .ok (.lastore, 1) := by decide +kernel
theorem dL_singersIn_10 : decode cL_singersIn 10 = .ok (.goto 7, 3) := by decide +kernel
theorem dL_singersIn_13 : decode cL_singersIn 13 = .ok (.astore 4, 2) := by decide +kernel
theorem dL_singersIn_15 : decode cL_singersIn 15 = .ok (.iconst 1, 1) := by decide +kernel
theorem dL_singersIn_16 : decode cL_singersIn 16 = .ok (.ireturn, 1) := by decide +kernel
theorem dL_singersIn_17 : decode cL_singersIn 17 = .ok (.iconst 0, 1) := by decide +kernel
theorem dL_singersIn_18 : decode cL_singersIn 18 = .ok (.ireturn, 1) := by decide +kernel
set_option maxRecDepth 20000 in
theorem ggL_shortfall_X6_shortfall : GoodIn wsL_shortfall wsX6_shortfall := goodIn_ca (goodIn_ca (goodIn_ca (goodIn_r _ [6, 7, 8, 9, 10, 11, 12, 5, 13, 14, 15, 16, 17, 18, 19, 20, 21, 22, 23, 24, 25, 26, 27, 28, 29, 30, 31, 32, 33, 34, 35, 36, 37, 38, 39, 40, 41, 42, 43, 44, 45, 46, 47, 48, 49, 50, 51, 52, 53, 54, 55, 56, 57, 58, 59, 60, 61, 62, 63, 64, 65, 66, 67, 68, 69, 70, 71, 72, 73, 74, 75, 76, 77, 78, 79, 80, 81, 82, 83, 84, 85, 86, 87, 88, 89, 90, 91, 92, 93, 94, 95, 96, 97, 98, 99, 100, 101, 102, 103, 104, 105, 106, 107, 108, 109, 110, 111, 112, 113, 114, 115, 116, 117, 118, 119, 120, 121, 122, 123, 124, 125, 126, 127, 128, 129, 130, 131, 132, 133, 134, 135, 136, 137, 138, 139, 140, 141, 142, 143, 144, 145, 146, 147, 148, 149, 150, 151, 152, 153, 154, 155, 156, 157, 158, 159, 160, 161, 162, 163, 164, 165, 166, 167, 168, 169, 170, 171, 172, 173, 174, 175, 176, 177, 178, 179, 180, 181, 182, 183, 184, 185, 186, 187, 188, 189, 190, 191, 192, 193, 194, 195, 196, 197, 198, 199, 200] (by decide +kernel) (by decide +kernel)) (goodIn_sub (fun _ h => List.mem_cons_of_mem _ (List.mem_append_left _ (List.mem_append_left _ (List.mem_append_right _ h)))) (by decide +kernel))) (goodIn_sub (fun _ h => List.mem_cons_of_mem _ (List.mem_append_left _ (List.mem_append_right _ h))) (by decide +kernel))) (goodIn_sub (fun _ h => List.mem_cons_of_mem _ (List.mem_append_right _ h)) (by decide +kernel))
set_option maxRecDepth 20000 in
theorem gL_shortfall_X6_shortfall : GoodIn wsL_shortfall (wsV RL 111 RX6 yX6_shortfall wsX6_shortfall) := goodIn_app (goodIn_of _ (by decide +kernel)) ggL_shortfall_X6_shortfall
theorem dL_shortfall_0 : decode cL_shortfall 0 = .ok (.aload_n 2, 1) := by decide +kernel
theorem dL_shortfall_1 : decode cL_shortfall 1 = .ok (.iconst 0, 1) := by decide +kernel
theorem dL_shortfall_2 : decode cL_shortfall 2 = .ok (.aload_n 0, 1) := by decide +kernel
theorem dL_shortfall_3 : decode cL_shortfall 3 = .ok (.iload_n 1, 1) := by decide +kernel
theorem dL_shortfall_4 : decode cL_shortfall 4 = .ok (.invokevirtual 111, 3) := by decide +kernel
theorem dL_shortfall_7 : decode cL_shortfall 7 = .ok (.i2l, 1) := by decide +kernel
theorem dL_shortfall_8 : decode cL_shortfall 8 = .ok (.lastore, 1) := by decide +kernel
theorem dL_shortfall_9 : decode cL_shortfall 9 = .ok (.goto 6, 3) := by decide +kernel
theorem dL_shortfall_12 : decode cL_shortfall 12 = .ok (.astore_n 3, 1) := by decide +kernel
theorem dL_shortfall_13 : decode cL_shortfall 13 = .ok (.iconst 1, 1) := by decide +kernel
theorem dL_shortfall_14 : decode cL_shortfall 14 = .ok (.ireturn, 1) := by decide +kernel
theorem dL_shortfall_15 : decode cL_shortfall 15 = .ok (.iconst 0, 1) := by decide +kernel
theorem dL_shortfall_16 : decode cL_shortfall 16 = .ok (.ireturn, 1) := by decide +kernel
set_option maxRecDepth 20000 in
theorem ggL_shortfallBySets_X6_shortfallBySets : GoodIn wsL_shortfallBySets wsX6_shortfallBySets := goodIn_ca (goodIn_ca (goodIn_ca (goodIn_r _ [7, 8, 9, 10, 11, 12, 6, 13, 14, 15, 16, 17, 18, 19, 20, 21, 22, 23, 24, 25, 26, 27, 28, 29, 30, 31, 32, 33, 34, 35, 36, 37, 38, 39, 40, 41, 42, 43, 44, 45, 46, 47, 48, 49, 50, 51, 52, 53, 54, 55, 56, 57, 58, 59, 60, 61, 62, 63, 64, 65, 66, 67, 68, 69, 70, 71, 72, 73, 74, 75, 76, 77, 78, 79, 80, 81, 82, 83, 84, 85, 86, 87, 88, 89, 90, 91, 92, 93, 94, 95, 96, 97, 98, 99, 100, 101, 102, 103, 104, 105, 106, 107, 108, 109, 110, 111, 112, 113, 114, 115, 116, 117, 118, 119, 120, 121, 122, 123, 124, 125, 126, 127, 128, 129, 130, 131, 132, 133, 134, 135, 136, 137, 138, 139, 140, 141, 142, 143, 144, 145, 146, 147, 148, 149] (by decide +kernel) (by decide +kernel)) (goodIn_sub (fun _ h => List.mem_cons_of_mem _ (List.mem_append_left _ (List.mem_append_left _ (List.mem_append_right _ h)))) (by decide +kernel))) (goodIn_sub (fun _ h => List.mem_cons_of_mem _ (List.mem_append_left _ (List.mem_append_right _ h))) (by decide +kernel))) (goodIn_sub (fun _ h => List.mem_cons_of_mem _ (List.mem_append_right _ h)) (by decide +kernel))
set_option maxRecDepth 20000 in
theorem gL_shortfallBySets_X6_shortfallBySets : GoodIn wsL_shortfallBySets (wsV RL 114 RX6 yX6_shortfallBySets wsX6_shortfallBySets) := goodIn_app (goodIn_of _ (by decide +kernel)) ggL_shortfallBySets_X6_shortfallBySets
theorem dL_shortfallBySets_0 : decode cL_shortfallBySets 0 = .ok (.aload_n 2, 1) := by decide +kernel
theorem dL_shortfallBySets_1 : decode cL_shortfallBySets 1 = .ok (.iconst 0, 1) := by decide +kernel
theorem dL_shortfallBySets_2 : decode cL_shortfallBySets 2 = .ok (.aload_n 0, 1) := by decide +kernel
theorem dL_shortfallBySets_3 : decode cL_shortfallBySets 3 = .ok (.iload_n 1, 1) := by decide +kernel
theorem dL_shortfallBySets_4 : decode cL_shortfallBySets 4 = .ok (.invokevirtual 114, 3) := by decide +kernel
theorem dL_shortfallBySets_7 : decode cL_shortfallBySets 7 = .ok (.i2l, 1) := by decide +kernel
theorem dL_shortfallBySets_8 : decode cL_shortfallBySets 8 = .ok (.lastore, 1) := by decide +kernel
theorem dL_shortfallBySets_9 : decode cL_shortfallBySets 9 = .ok (.goto 9, 3) := by decide +kernel
theorem dL_shortfallBySets_12 : decode cL_shortfallBySets 12 = .ok (.astore_n 3, 1) := by decide +kernel
theorem dL_shortfallBySets_13 : decode cL_shortfallBySets 13 = .ok (.iconst 1, 1) := by decide +kernel
theorem dL_shortfallBySets_14 : decode cL_shortfallBySets 14 = .ok (.ireturn, 1) := by decide +kernel
theorem dL_shortfallBySets_15 : decode cL_shortfallBySets 15 = .ok (.astore_n 3, 1) := by decide +kernel
theorem dL_shortfallBySets_16 : decode cL_shortfallBySets 16 = .ok (.iconst 2, 1) := by decide +kernel
theorem dL_shortfallBySets_17 : decode cL_shortfallBySets 17 = .ok (.ireturn, 1) := by decide +kernel
theorem dL_shortfallBySets_18 : decode cL_shortfallBySets 18 = .ok (.iconst 0, 1) := by decide +kernel
theorem dL_shortfallBySets_19 : decode cL_shortfallBySets 19 = .ok (.ireturn, 1) := by decide +kernel
set_option maxRecDepth 20000 in
theorem ggL_neededLine_X6_neededLine : GoodIn wsL_neededLine wsX6_neededLine := goodIn_ca (goodIn_ca (goodIn_ca (goodIn_r _ [7, 8, 9, 10, 11, 12, 13, 14, 6, 15, 16, 17, 18, 19, 20, 21, 22, 23, 24, 25, 26, 27, 28, 29, 30, 31, 32, 33, 34, 35, 36, 37, 38, 39, 40, 41, 42, 43, 44, 45, 46, 47, 48, 49, 50, 51, 52, 53, 54, 55, 56, 57, 58, 59, 60, 61, 62, 63, 64, 65, 66, 67, 68, 69, 70, 71, 72, 73, 74, 75, 76, 77, 78, 79, 80, 81, 82, 83, 84, 85, 86, 87, 88, 89, 90, 91, 92, 93, 94, 95, 96, 97, 98, 99, 100, 101, 102, 103, 104, 105, 106, 107, 108, 109, 110, 111, 112, 113, 114, 115, 116, 117, 118, 119, 120, 121, 122, 123, 124, 125, 126, 127, 128, 129, 130, 131, 132, 133, 134, 135, 136, 137, 138, 139, 140, 141, 142, 143, 144, 145, 146, 147, 148, 149, 150] (by decide +kernel) (by decide +kernel)) (goodIn_sub (fun _ h => List.mem_cons_of_mem _ (List.mem_append_left _ (List.mem_append_left _ (List.mem_append_right _ h)))) (by decide +kernel))) (goodIn_sub (fun _ h => List.mem_cons_of_mem _ (List.mem_append_left _ (List.mem_append_right _ h))) (by decide +kernel))) (goodIn_sub (fun _ h => List.mem_cons_of_mem _ (List.mem_append_right _ h)) (by decide +kernel))
set_option maxRecDepth 20000 in
theorem gL_neededLine_X6_neededLine : GoodIn wsL_neededLine (wsV RL 117 RX6 yX6_neededLine wsX6_neededLine) := goodIn_app (goodIn_of _ (by decide +kernel)) ggL_neededLine_X6_neededLine
theorem dL_neededLine_0 : decode cL_neededLine 0 = .ok (.aload_n 2, 1) := by decide +kernel
theorem dL_neededLine_1 : decode cL_neededLine 1 = .ok (.iconst 0, 1) := by decide +kernel
theorem dL_neededLine_2 : decode cL_neededLine 2 = .ok (.aload_n 0, 1) := by decide +kernel
theorem dL_neededLine_3 : decode cL_neededLine 3 = .ok (.iload_n 1, 1) := by decide +kernel
theorem dL_neededLine_4 : decode cL_neededLine 4 = .ok (.invokevirtual 117, 3) := by decide +kernel
theorem dL_neededLine_7 : decode cL_neededLine 7 = .ok (.i2l, 1) := by decide +kernel
theorem dL_neededLine_8 : decode cL_neededLine 8 = .ok (.lastore, 1) := by decide +kernel
theorem dL_neededLine_9 : decode cL_neededLine 9 = .ok (.goto 9, 3) := by decide +kernel
theorem dL_neededLine_12 : decode cL_neededLine 12 = .ok (.astore_n 3, 1) := by decide +kernel
theorem dL_neededLine_13 : decode cL_neededLine 13 = .ok (.iconst 1, 1) := by decide +kernel
theorem dL_neededLine_14 : decode cL_neededLine 14 = .ok (.ireturn, 1) := by decide +kernel
theorem dL_neededLine_15 : decode cL_neededLine 15 = .ok (.astore_n 3, 1) := by decide +kernel
theorem dL_neededLine_16 : decode cL_neededLine 16 = .ok (.iconst 2, 1) := by decide +kernel
theorem dL_neededLine_17 : decode cL_neededLine 17 = .ok (.ireturn, 1) := by decide +kernel
theorem dL_neededLine_18 : decode cL_neededLine 18 = .ok (.iconst 0, 1) := by decide +kernel
theorem dL_neededLine_19 : decode cL_neededLine 19 = .ok (.ireturn, 1) := by decide +kernel
set_option maxRecDepth 20000 in
theorem ggL_descantIn_X6_descantIn : GoodIn wsL_descantIn wsX6_descantIn := goodIn_ca (goodIn_ca (goodIn_ca (goodIn_r _ [6, 7, 8, 9, 10, 11, 12, 13, 5, 14, 15, 16, 17, 18, 19, 20, 21, 22, 23, 24, 25, 26, 27, 28, 29, 30, 31, 32, 33, 34, 35, 36, 37, 38, 39, 40, 41, 42, 43, 44, 45, 46, 47, 48, 49, 50, 51, 52, 53, 54, 55, 56, 57, 58, 59, 60, 61, 62, 63, 64, 65, 66, 67, 68, 69, 70, 71, 72, 73, 74, 75, 76, 77, 78, 79, 80, 81, 82, 83, 84, 85, 86, 87, 88, 89, 90, 91, 92, 93, 94, 95, 96, 97, 98, 99, 100, 101, 102, 103, 104, 105, 106, 107, 108, 109, 110, 111, 112, 113, 114, 115, 116, 117, 118, 119, 120, 121, 122, 123, 124, 125, 126, 127, 128, 129, 130, 131, 132, 133, 134, 135, 136, 137, 138, 139, 140, 141, 142, 143, 144, 145, 146, 147, 148, 149, 150, 151, 152, 153, 154, 155, 156, 157, 158, 159, 160, 161, 162, 163, 164, 165, 166, 167, 168, 169, 170, 171, 172, 173, 174, 175, 176, 177, 178, 179, 180, 181, 182, 183, 184, 185, 186, 187, 188, 189, 190, 191, 192, 193, 194, 195, 196, 197, 198, 199, 200, 201, 202, 203, 204] (by decide +kernel) (by decide +kernel)) (goodIn_sub (fun _ h => List.mem_cons_of_mem _ (List.mem_append_left _ (List.mem_append_left _ (List.mem_append_right _ h)))) (by decide +kernel))) (goodIn_sub (fun _ h => List.mem_cons_of_mem _ (List.mem_append_left _ (List.mem_append_right _ h))) (by decide +kernel))) (goodIn_sub (fun _ h => List.mem_cons_of_mem _ (List.mem_append_right _ h)) (by decide +kernel))
set_option maxRecDepth 20000 in
theorem gL_descantIn_X6_descantIn : GoodIn wsL_descantIn (wsV RL 120 RX6 yX6_descantIn wsX6_descantIn) := goodIn_app (goodIn_of _ (by decide +kernel)) ggL_descantIn_X6_descantIn
theorem dL_descantIn_0 : decode cL_descantIn 0 = .ok (.aload_n 2, 1) := by decide +kernel
theorem dL_descantIn_1 : decode cL_descantIn 1 = .ok (.iconst 0, 1) := by decide +kernel
theorem dL_descantIn_2 : decode cL_descantIn 2 = .ok (.aload_n 0, 1) := by decide +kernel
theorem dL_descantIn_3 : decode cL_descantIn 3 = .ok (.iload_n 1, 1) := by decide +kernel
theorem dL_descantIn_4 : decode cL_descantIn 4 = .ok (.invokevirtual 120, 3) := by decide +kernel
theorem dL_descantIn_7 : decode cL_descantIn 7 = .ok (.i2l, 1) := by decide +kernel
theorem dL_descantIn_8 : decode cL_descantIn 8 = .ok (.lastore, 1) := by decide +kernel
theorem dL_descantIn_9 : decode cL_descantIn 9 = .ok (.goto 6, 3) := by decide +kernel
theorem dL_descantIn_12 : decode cL_descantIn 12 = .ok (.astore_n 3, 1) := by decide +kernel
theorem dL_descantIn_13 : decode cL_descantIn 13 = .ok (.iconst 1, 1) := by decide +kernel
theorem dL_descantIn_14 : decode cL_descantIn 14 = .ok (.ireturn, 1) := by decide +kernel
theorem dL_descantIn_15 : decode cL_descantIn 15 = .ok (.iconst 0, 1) := by decide +kernel
theorem dL_descantIn_16 : decode cL_descantIn 16 = .ok (.ireturn, 1) := by decide +kernel
set_option maxRecDepth 20000 in
theorem ggL_pewOf_X6_pewOf : GoodIn wsL_pewOf wsX6_pewOf := goodIn_ca (goodIn_ca (goodIn_ca (goodIn_r _ [6, 7, 8, 9, 10, 11, 12, 5, 13, 14, 15, 16, 17, 18, 19, 20, 21, 22, 23, 24, 25, 26, 27, 28, 29, 30, 31, 32, 33, 34, 35, 36, 37, 38, 39, 40, 41, 42, 43, 44, 45, 46, 47, 48, 49, 50, 51, 52, 53, 54, 55, 56, 57, 58, 59, 60, 61, 62, 63, 64, 65, 66, 67, 68, 69, 70, 71, 72, 73, 74, 75, 76, 77, 78, 79, 80, 81, 82, 83, 84, 85, 86, 87, 88, 89, 90, 91, 92, 93, 94, 95, 96, 97, 98, 99, 100, 101, 102, 103, 104, 105, 106, 107, 108, 109, 110, 111, 112, 113, 114, 115, 116, 117, 118, 119, 120, 121, 122, 123, 124, 125, 126, 127, 128, 129, 130, 131, 132, 133, 134, 135, 136, 137, 138, 139, 140, 141, 142, 143, 144, 145, 146, 147, 148, 149, 150, 151, 152, 153, 154, 155, 156, 157, 158, 159, 160, 161, 162, 163, 164, 165, 166, 167, 168, 169, 170, 171, 172, 173, 174, 175, 176, 177, 178, 179, 180, 181, 182, 183, 184, 185, 186, 187, 188, 189, 190, 191, 192, 193, 194, 195, 196, 197, 198, 199, 200, 201, 202, 203, 204, 205, 206] (by decide +kernel) (by decide +kernel)) (goodIn_sub (fun _ h => List.mem_cons_of_mem _ (List.mem_append_left _ (List.mem_append_left _ (List.mem_append_right _ h)))) (by decide +kernel))) (goodIn_sub (fun _ h => List.mem_cons_of_mem _ (List.mem_append_left _ (List.mem_append_right _ h))) (by decide +kernel))) (goodIn_sub (fun _ h => List.mem_cons_of_mem _ (List.mem_append_right _ h)) (by decide +kernel))
set_option maxRecDepth 20000 in
theorem gL_pewOf_X6_pewOf : GoodIn wsL_pewOf (wsV RL 123 RX6 yX6_pewOf wsX6_pewOf) := goodIn_app (goodIn_of _ (by decide +kernel)) ggL_pewOf_X6_pewOf
theorem dL_pewOf_0 : decode cL_pewOf 0 = .ok (.aload_n 3, 1) := by decide +kernel
theorem dL_pewOf_1 : decode cL_pewOf 1 = .ok (.iconst 0, 1) := by decide +kernel
theorem dL_pewOf_2 : decode cL_pewOf 2 = .ok (.aload_n 0, 1) := by decide +kernel
theorem dL_pewOf_3 : decode cL_pewOf 3 = .ok (.iload_n 1, 1) := by decide +kernel
theorem dL_pewOf_4 : decode cL_pewOf 4 = .ok (.iload_n 2, 1) := by decide +kernel
theorem dL_pewOf_5 : decode cL_pewOf 5 = .ok (.invokevirtual 123, 3) := by decide +kernel
theorem dL_pewOf_8 : decode cL_pewOf 8 = .ok (.i2l, 1) := by decide +kernel
theorem dL_pewOf_9 : decode cL_pewOf 9 = .ok (.lastore, 1) := by decide +kernel
theorem dL_pewOf_10 : decode cL_pewOf 10 = .ok (.goto 7, 3) := by decide +kernel
theorem dL_pewOf_13 : decode cL_pewOf 13 = .ok (.astore 4, 2) := by decide +kernel
theorem dL_pewOf_15 : decode cL_pewOf 15 = .ok (.iconst 1, 1) := by decide +kernel
theorem dL_pewOf_16 : decode cL_pewOf 16 = .ok (.ireturn, 1) := by decide +kernel
theorem dL_pewOf_17 : decode cL_pewOf 17 = .ok (.iconst 0, 1) := by decide +kernel
theorem dL_pewOf_18 : decode cL_pewOf 18 = .ok (.ireturn, 1) := by decide +kernel
set_option maxRecDepth 20000 in
theorem ggL_seatOf_X6_seatOf : GoodIn wsL_seatOf wsX6_seatOf := goodIn_ca (goodIn_ca (goodIn_ca (goodIn_r _ [6, 7, 8, 9, 10, 11, 12, 5, 13, 14, 15, 16, 17, 18, 19, 20, 21, 22, 23, 24, 25, 26, 27, 28, 29, 30, 31, 32, 33, 34, 35, 36, 37, 38, 39, 40, 41, 42, 43, 44, 45, 46, 47, 48, 49, 50, 51, 52, 53, 54, 55, 56, 57, 58, 59, 60, 61, 62, 63, 64, 65, 66, 67, 68, 69, 70, 71, 72, 73, 74, 75, 76, 77, 78, 79, 80, 81, 82, 83, 84, 85, 86, 87, 88, 89, 90, 91, 92, 93, 94, 95, 96, 97, 98, 99, 100, 101, 102, 103, 104, 105, 106, 107, 108, 109, 110, 111, 112, 113, 114, 115, 116, 117, 118, 119, 120, 121, 122, 123, 124, 125, 126, 127, 128, 129, 130, 131, 132, 133, 134, 135, 136, 137, 138, 139, 140, 141, 142, 143, 144, 145, 146, 147, 148, 149, 150, 151, 152, 153, 154, 155, 156, 157, 158, 159, 160, 161, 162, 163, 164, 165, 166, 167, 168, 169, 170, 171, 172, 173, 174, 175, 176, 177, 178, 179, 180, 181, 182, 183, 184, 185, 186, 187, 188, 189, 190, 191, 192, 193, 194, 195, 196, 197, 198, 199, 200, 201, 202, 203, 204, 205, 206] (by decide +kernel) (by decide +kernel)) (goodIn_sub (fun _ h => List.mem_cons_of_mem _ (List.mem_append_left _ (List.mem_append_left _ (List.mem_append_right _ h)))) (by decide +kernel))) (goodIn_sub (fun _ h => List.mem_cons_of_mem _ (List.mem_append_left _ (List.mem_append_right _ h))) (by decide +kernel))) (goodIn_sub (fun _ h => List.mem_cons_of_mem _ (List.mem_append_right _ h)) (by decide +kernel))
set_option maxRecDepth 20000 in
theorem gL_seatOf_X6_seatOf : GoodIn wsL_seatOf (wsV RL 126 RX6 yX6_seatOf wsX6_seatOf) := goodIn_app (goodIn_of _ (by decide +kernel)) ggL_seatOf_X6_seatOf
theorem dL_seatOf_0 : decode cL_seatOf 0 = .ok (.aload_n 3, 1) := by decide +kernel
theorem dL_seatOf_1 : decode cL_seatOf 1 = .ok (.iconst 0, 1) := by decide +kernel
theorem dL_seatOf_2 : decode cL_seatOf 2 = .ok (.aload_n 0, 1) := by decide +kernel
theorem dL_seatOf_3 : decode cL_seatOf 3 = .ok (.iload_n 1, 1) := by decide +kernel
theorem dL_seatOf_4 : decode cL_seatOf 4 = .ok (.iload_n 2, 1) := by decide +kernel
theorem dL_seatOf_5 : decode cL_seatOf 5 = .ok (.invokevirtual 126, 3) := by decide +kernel
theorem dL_seatOf_8 : decode cL_seatOf 8 = .ok (.i2l, 1) := by decide +kernel
theorem dL_seatOf_9 : decode cL_seatOf 9 = .ok (.lastore, 1) := by decide +kernel
theorem dL_seatOf_10 : decode cL_seatOf 10 = .ok (.goto 7, 3) := by decide +kernel
theorem dL_seatOf_13 : decode cL_seatOf 13 = .ok (.astore 4, 2) := by decide +kernel
theorem dL_seatOf_15 : decode cL_seatOf 15 = .ok (.iconst 1, 1) := by decide +kernel
theorem dL_seatOf_16 : decode cL_seatOf 16 = .ok (.ireturn, 1) := by decide +kernel
theorem dL_seatOf_17 : decode cL_seatOf 17 = .ok (.iconst 0, 1) := by decide +kernel
theorem dL_seatOf_18 : decode cL_seatOf 18 = .ok (.ireturn, 1) := by decide +kernel
set_option maxRecDepth 20000 in
theorem ggL_favoursOf_X6_favoursOf : GoodIn wsL_favoursOf wsX6_favoursOf := goodIn_ca (goodIn_ca (goodIn_ca (goodIn_r _ [6, 7, 8, 9, 10, 5, 11, 12, 13, 14, 15, 16, 17, 18, 19, 20, 21, 22, 23, 24, 25, 26, 27, 28, 29, 30, 31, 32, 33, 34, 35, 36, 37, 38] (by decide +kernel) (by decide +kernel)) (goodIn_sub (fun _ h => List.mem_cons_of_mem _ (List.mem_append_left _ (List.mem_append_left _ (List.mem_append_right _ h)))) (by decide +kernel))) (goodIn_sub (fun _ h => List.mem_cons_of_mem _ (List.mem_append_left _ (List.mem_append_right _ h))) (by decide +kernel))) (goodIn_sub (fun _ h => List.mem_cons_of_mem _ (List.mem_append_right _ h)) (by decide +kernel))
set_option maxRecDepth 20000 in
theorem gL_favoursOf_X6_favoursOf : GoodIn wsL_favoursOf (wsV RL 129 RX6 yX6_favoursOf wsX6_favoursOf) := goodIn_app (goodIn_of _ (by decide +kernel)) ggL_favoursOf_X6_favoursOf
theorem dL_favoursOf_0 : decode cL_favoursOf 0 = .ok (.aload_n 2, 1) := by decide +kernel
theorem dL_favoursOf_1 : decode cL_favoursOf 1 = .ok (.iconst 0, 1) := by decide +kernel
theorem dL_favoursOf_2 : decode cL_favoursOf 2 = .ok (.aload_n 0, 1) := by decide +kernel
theorem dL_favoursOf_3 : decode cL_favoursOf 3 = .ok (.iload_n 1, 1) := by decide +kernel
theorem dL_favoursOf_4 : decode cL_favoursOf 4 = .ok (.invokevirtual 129, 3) := by decide +kernel
theorem dL_favoursOf_7 : decode cL_favoursOf 7 = .ok (.i2l, 1) := by decide +kernel
theorem dL_favoursOf_8 : decode cL_favoursOf 8 = .ok (.lastore, 1) := by decide +kernel
theorem dL_favoursOf_9 : decode cL_favoursOf 9 = .ok (.goto 6, 3) := by decide +kernel
theorem dL_favoursOf_12 : decode cL_favoursOf 12 = .ok (.astore_n 3, 1) := by decide +kernel
theorem dL_favoursOf_13 : decode cL_favoursOf 13 = .ok (.iconst 1, 1) := by decide +kernel
theorem dL_favoursOf_14 : decode cL_favoursOf 14 = .ok (.ireturn, 1) := by decide +kernel
theorem dL_favoursOf_15 : decode cL_favoursOf 15 = .ok (.iconst 0, 1) := by decide +kernel
theorem dL_favoursOf_16 : decode cL_favoursOf 16 = .ok (.ireturn, 1) := by decide +kernel
set_option maxRecDepth 20000 in
theorem ggL_law_X6_init_q1 : GoodIn wsL_law ([Cond.code yX6_init cX6_init 2 none]) := goodIn_r _ [9] (by decide +kernel) (by decide +kernel)
set_option maxRecDepth 20000 in
theorem ggL_law_X6_init_q2 : GoodIn wsL_law (wsX6_init_r1) := goodIn_r _ [10, 11, 12, 13, 14, 15, 16, 17, 18, 19, 20, 21, 22, 23, 24, 25, 26, 27, 28, 29, 30, 31, 32, 33] (by decide +kernel) (by decide +kernel)
set_option maxRecDepth 20000 in
theorem ggL_law_X6_init_q3 : GoodIn wsL_law (wsX6_init_r2) := goodIn_r _ [34, 35, 36, 37, 38, 39, 40, 41, 42, 43, 44, 45, 46, 47, 48, 49, 50, 51, 52, 53, 54, 55, 56, 57] (by decide +kernel) (by decide +kernel)
set_option maxRecDepth 20000 in
theorem ggL_law_X6_init_q4 : GoodIn wsL_law (wsX6_init_r3) := goodIn_r _ [58, 59, 60, 61, 62, 63, 64, 65, 66, 67, 68, 69, 70, 71, 72, 73, 74, 75, 76, 77, 78, 79, 80, 81] (by decide +kernel) (by decide +kernel)
set_option maxRecDepth 20000 in
theorem ggL_law_X6_init_q5 : GoodIn wsL_law (wsX6_init_r4) := goodIn_r _ [82, 83, 84, 85, 86, 87, 88, 89, 90, 91, 92, 93, 94, 95, 96, 97, 98, 99, 100, 101, 102, 103, 104] (by decide +kernel) (by decide +kernel)
set_option maxRecDepth 20000 in
theorem ggL_law_X6_init_q6 : GoodIn wsL_law (wsX00) := goodIn_r _ [1478, 1479, 1480, 1481, 1482, 1483, 1484, 1485, 1486, 1487] (by decide +kernel) (by decide +kernel)
set_option maxRecDepth 20000 in
theorem ggL_law_X6_init_q7 : GoodIn wsL_law (wsX60) := goodIn_r _ [1454, 1455, 1456, 1457, 1458, 1459, 1460, 1461] (by decide +kernel) (by decide +kernel)
set_option maxRecDepth 20000 in
theorem ggL_law_X6_init_q8 : GoodIn wsL_law (wsX20) := goodIn_r _ [1488, 1489, 1490, 1491, 1492, 1493] (by decide +kernel) (by decide +kernel)
set_option maxRecDepth 20000 in
theorem ggL_law_X6_init_q9 : GoodIn wsL_law (wsX30) := goodIn_r _ [1494, 1495, 1496, 1497, 1498] (by decide +kernel) (by decide +kernel)
set_option maxRecDepth 20000 in
theorem ggL_law_X6_init_q10 : GoodIn wsL_law (wsX50) := goodIn_r _ [1499, 1500, 1501, 1502, 1503, 1504, 1505, 1506, 1507, 1508, 1509, 1510] (by decide +kernel) (by decide +kernel)
set_option maxRecDepth 20000 in
theorem ggL_law_X6_init_q11 : GoodIn wsL_law (wsX40) := goodIn_r _ [1511, 1512, 1513, 1514] (by decide +kernel) (by decide +kernel)
set_option maxRecDepth 20000 in
theorem ggL_law_X6_init_q12 : GoodIn wsL_law (wsX10) := goodIn_r _ [1515, 1516, 1517, 1518, 1519, 1520, 1521, 1522] (by decide +kernel) (by decide +kernel)
theorem ggL_law_X6_init : GoodIn wsL_law wsX6_init := (goodIn_app (a := [Cond.code yX6_init cX6_init 2 none]) ggL_law_X6_init_q1 (goodIn_app (goodIn_app (goodIn_app (goodIn_app (goodIn_app (goodIn_app (goodIn_app (goodIn_app ggL_law_X6_init_q2 (goodIn_app ggL_law_X6_init_q3 (goodIn_app ggL_law_X6_init_q4 ggL_law_X6_init_q5))) ggL_law_X6_init_q6) ggL_law_X6_init_q7) ggL_law_X6_init_q8) ggL_law_X6_init_q9) ggL_law_X6_init_q10) ggL_law_X6_init_q11) ggL_law_X6_init_q12))
set_option maxRecDepth 20000 in
theorem gL_law_X6_init : GoodIn wsL_law (wsX6_init) := ggL_law_X6_init
set_option maxRecDepth 20000 in
theorem ggL_law_X7_init : GoodIn wsL_law wsX7_init := goodIn_r _ [107, 108, 11, 12, 46, 109, 110, 111, 112, 113, 114, 115, 116, 117, 118, 1462, 1463, 1464, 1465, 1466, 1467, 1468, 1469, 1470, 1471, 1472, 1473, 1474, 1475, 1476, 1477] (by decide +kernel) (by decide +kernel)
set_option maxRecDepth 20000 in
theorem gL_law_X7_init : GoodIn wsL_law (wsX7_init) := ggL_law_X7_init
set_option maxRecDepth 20000 in
theorem ggL_law_L_register : GoodIn wsL_law wsL_register := goodIn_ca (goodIn_ca (goodIn_ca (goodIn_r _ [122, 123, 124, 125, 126, 127, 2, 128, 16, 129, 130, 131, 15, 132, 37, 133, 134, 135, 136, 137, 138, 139, 140, 141, 142, 143, 36, 144, 56, 145, 146, 147, 148, 149, 150, 151, 152, 153, 154, 155, 156, 157, 21, 20, 158, 159, 160, 161, 162, 163, 164, 165, 33, 41, 45, 47, 166, 167, 168, 169, 48, 49, 50, 51, 52, 170, 171, 172, 173, 57, 174, 58, 59, 60, 61, 62, 63, 64, 65, 66, 67, 175, 176, 177, 40, 178, 71, 72, 179, 73, 74, 180, 181, 182, 44, 183, 78, 79, 184, 80, 81, 83, 84, 85, 86, 185, 186, 187, 188, 189, 190, 191, 192, 193, 194, 1454, 1455, 1456, 1457, 1458, 1459, 1460, 1461, 1478, 1479, 1480, 1481, 1482, 1483, 1484, 1485, 1486, 1487, 1499, 1500, 1501, 1502, 1503, 1504, 1505, 1506, 1507, 1508, 1509, 1510, 1511, 1512, 1513, 1514, 1515, 1516, 1517, 1518, 1519, 1520, 1521, 1522] (by decide +kernel) (by decide +kernel)) (goodIn_sub (fun _ h => List.mem_append_left _ (List.mem_append_left _ (List.mem_append_right _ h))) (by decide +kernel))) (goodIn_sub (fun _ h => List.mem_append_left _ (List.mem_append_right _ h)) (by decide +kernel))) (goodIn_sub (fun _ h => List.mem_append_right _ h) (by decide +kernel))
set_option maxRecDepth 20000 in
theorem gL_law_L_register : GoodIn wsL_law (va_wsS RL 136 yL_register wsL_register) := goodIn_app (goodIn_of _ (by decide +kernel)) ggL_law_L_register
set_option maxRecDepth 20000 in
theorem ggL_law_X7_register : GoodIn wsL_law wsX7_register := goodIn_r _ [198, 199, 109, 200, 201, 5, 202, 203, 204, 205, 206, 207, 208, 209, 210, 211, 212, 213, 214, 215, 216, 217, 218, 219, 220, 221, 222, 223, 110, 224, 225, 226, 227, 228, 229, 230, 231, 232, 233, 234, 235, 236, 237, 238, 1462, 1463, 1464, 1465, 1466, 1467, 1468, 1469, 1470, 1471, 1472, 1473, 1474, 1475, 1476, 1477] (by decide +kernel) (by decide +kernel)
set_option maxRecDepth 20000 in
theorem gL_law_X7_register : GoodIn wsL_law (wsV RL 141 RX7 yX7_register wsX7_register) := goodIn_app (goodIn_of _ (by decide +kernel)) ggL_law_X7_register
set_option maxRecDepth 20000 in
theorem ggL_law_X7_thrown : GoodIn wsL_law wsX7_thrown := goodIn_r _ [242, 199, 1462, 1463, 1464, 1465, 1466, 1467, 1468, 1469, 1470, 1471, 1472, 1473, 1474, 1475, 1476, 1477] (by decide +kernel) (by decide +kernel)
set_option maxRecDepth 20000 in
theorem gL_law_X7_thrown : GoodIn wsL_law (wsV RL 142 RX7 yX7_thrown wsX7_thrown) := goodIn_app (goodIn_of _ (by decide +kernel)) ggL_law_X7_thrown
set_option maxRecDepth 20000 in
theorem ggL_law_L_leave : GoodIn wsL_law wsL_leave := goodIn_ca (goodIn_ca (goodIn_ca (goodIn_r _ [245, 246, 124, 247, 248, 249, 2, 250, 16, 251, 252, 253, 15, 254, 37, 33, 255, 256, 257, 36, 258, 56, 259, 260, 261, 262, 64, 145, 146, 147, 148, 149, 150, 151, 152, 153, 154, 155, 156, 157, 21, 20, 158, 159, 160, 161, 162, 163, 164, 165, 41, 45, 47, 166, 167, 168, 169, 48, 49, 50, 51, 52, 170, 171, 172, 173, 57, 174, 58, 59, 60, 61, 62, 63, 65, 66, 67, 175, 176, 177, 40, 178, 71, 72, 179, 73, 74, 180, 181, 182, 44, 183, 78, 79, 184, 80, 81, 83, 84, 85, 86, 263, 264, 265, 266, 267, 268, 269, 270, 271, 272, 1454, 1455, 1456, 1457, 1458, 1459, 1460, 1461, 1478, 1479, 1480, 1481, 1482, 1483, 1484, 1485, 1486, 1487, 1499, 1500, 1501, 1502, 1503, 1504, 1505, 1506, 1507, 1508, 1509, 1510, 1511, 1512, 1513, 1514, 1515, 1516, 1517, 1518, 1519, 1520, 1521, 1522] (by decide +kernel) (by decide +kernel)) (goodIn_sub (fun _ h => List.mem_append_left _ (List.mem_append_left _ (List.mem_append_right _ h))) (by decide +kernel))) (goodIn_sub (fun _ h => List.mem_append_left _ (List.mem_append_right _ h)) (by decide +kernel))) (goodIn_sub (fun _ h => List.mem_append_right _ h) (by decide +kernel))
set_option maxRecDepth 20000 in
theorem gL_law_L_leave : GoodIn wsL_law (va_wsS RL 145 yL_leave wsL_leave) := goodIn_app (goodIn_of _ (by decide +kernel)) ggL_law_L_leave
set_option maxRecDepth 20000 in
theorem ggL_law_X7_leave : GoodIn wsL_law wsX7_leave := goodIn_r _ [276, 199, 109, 277, 278, 279, 5, 280, 203, 204, 205, 215, 216, 217, 218, 281, 282, 283, 284, 219, 220, 221, 222, 223, 110, 224, 225, 226, 285, 286, 287, 288, 235, 236, 237, 238, 289, 290, 291, 292, 1462, 1463, 1464, 1465, 1466, 1467, 1468, 1469, 1470, 1471, 1472, 1473, 1474, 1475, 1476, 1477] (by decide +kernel) (by decide +kernel)
set_option maxRecDepth 20000 in
theorem gL_law_X7_leave : GoodIn wsL_law (wsV RL 148 RX7 yX7_leave wsX7_leave) := goodIn_app (goodIn_of _ (by decide +kernel)) ggL_law_X7_leave
set_option maxRecDepth 20000 in
theorem ggL_law_L_borrow : GoodIn wsL_law wsL_borrow := goodIn_ca (goodIn_ca (goodIn_ca (goodIn_r _ [295, 246, 123, 124, 296, 297, 298, 2, 299, 16, 300, 301, 302, 15, 303, 37, 47, 133, 134, 135, 136, 137, 138, 139, 140, 141, 142, 143, 36, 144, 56, 145, 146, 147, 148, 149, 150, 151, 152, 153, 154, 155, 156, 157, 21, 20, 158, 159, 160, 161, 162, 163, 164, 165, 33, 41, 45, 166, 167, 168, 169, 48, 49, 50, 51, 52, 170, 171, 172, 173, 57, 174, 58, 59, 60, 61, 62, 63, 64, 65, 66, 67, 175, 176, 177, 40, 178, 71, 72, 179, 73, 74, 180, 181, 182, 44, 183, 78, 79, 184, 80, 81, 83, 84, 85, 86, 304, 305, 306, 307, 308, 309, 267, 190, 191, 192, 193, 194, 1454, 1455, 1456, 1457, 1458, 1459, 1460, 1461, 1478, 1479, 1480, 1481, 1482, 1483, 1484, 1485, 1486, 1487, 1499, 1500, 1501, 1502, 1503, 1504, 1505, 1506, 1507, 1508, 1509, 1510, 1511, 1512, 1513, 1514, 1515, 1516, 1517, 1518, 1519, 1520, 1521, 1522] (by decide +kernel) (by decide +kernel)) (goodIn_sub (fun _ h => List.mem_append_left _ (List.mem_append_left _ (List.mem_append_right _ h))) (by decide +kernel))) (goodIn_sub (fun _ h => List.mem_append_left _ (List.mem_append_right _ h)) (by decide +kernel))) (goodIn_sub (fun _ h => List.mem_append_right _ h) (by decide +kernel))
set_option maxRecDepth 20000 in
theorem gL_law_L_borrow : GoodIn wsL_law (va_wsS RL 149 yL_borrow wsL_borrow) := goodIn_app (goodIn_of _ (by decide +kernel)) ggL_law_L_borrow
set_option maxRecDepth 20000 in
theorem ggL_law_X7_borrow : GoodIn wsL_law wsX7_borrow := goodIn_r _ [313, 199, 109, 314, 315, 5, 316, 203, 204, 205, 215, 216, 217, 218, 206, 207, 208, 212, 213, 214, 219, 220, 221, 222, 223, 110, 224, 225, 226, 231, 232, 233, 234, 235, 236, 237, 238, 1462, 1463, 1464, 1465, 1466, 1467, 1468, 1469, 1470, 1471, 1472, 1473, 1474, 1475, 1476, 1477] (by decide +kernel) (by decide +kernel)
set_option maxRecDepth 20000 in
theorem gL_law_X7_borrow : GoodIn wsL_law (wsV RL 152 RX7 yX7_borrow wsX7_borrow) := goodIn_app (goodIn_of _ (by decide +kernel)) ggL_law_X7_borrow
set_option maxRecDepth 20000 in
theorem ggL_law_L_lend : GoodIn wsL_law wsL_lend := goodIn_ca (goodIn_ca (goodIn_ca (goodIn_r _ [319, 246, 123, 124, 320, 321, 322, 2, 323, 16, 324, 325, 326, 15, 327, 37, 33, 308, 255, 256, 257, 36, 258, 56, 133, 134, 259, 260, 261, 262, 64, 328, 329, 330, 331, 65, 145, 146, 147, 148, 149, 150, 151, 152, 153, 154, 155, 156, 157, 21, 20, 158, 159, 160, 161, 162, 163, 164, 165, 41, 45, 47, 166, 167, 168, 169, 48, 49, 50, 51, 52, 170, 171, 172, 173, 57, 174, 58, 59, 60, 61, 62, 63, 66, 67, 175, 176, 177, 40, 178, 71, 72, 179, 73, 74, 180, 181, 182, 44, 183, 78, 79, 184, 80, 81, 83, 84, 85, 86, 332, 333, 334, 335, 336, 1454, 1455, 1456, 1457, 1458, 1459, 1460, 1461, 1478, 1479, 1480, 1481, 1482, 1483, 1484, 1485, 1486, 1487, 1499, 1500, 1501, 1502, 1503, 1504, 1505, 1506, 1507, 1508, 1509, 1510, 1511, 1512, 1513, 1514, 1515, 1516, 1517, 1518, 1519, 1520, 1521, 1522] (by decide +kernel) (by decide +kernel)) (goodIn_sub (fun _ h => List.mem_append_left _ (List.mem_append_left _ (List.mem_append_right _ h))) (by decide +kernel))) (goodIn_sub (fun _ h => List.mem_append_left _ (List.mem_append_right _ h)) (by decide +kernel))) (goodIn_sub (fun _ h => List.mem_append_right _ h) (by decide +kernel))
set_option maxRecDepth 20000 in
theorem gL_law_L_lend : GoodIn wsL_law (va_wsS RL 153 yL_lend wsL_lend) := goodIn_app (goodIn_of _ (by decide +kernel)) ggL_law_L_lend
set_option maxRecDepth 20000 in
theorem ggL_law_X7_lend : GoodIn wsL_law wsX7_lend := goodIn_r _ [340, 199, 109, 277, 278, 279, 5, 280, 203, 204, 205, 314, 315, 316, 215, 216, 217, 218, 341, 342, 343, 344, 281, 282, 283, 284, 219, 220, 221, 222, 223, 110, 224, 225, 226, 345, 346, 347, 348, 235, 236, 237, 238, 1462, 1463, 1464, 1465, 1466, 1467, 1468, 1469, 1470, 1471, 1472, 1473, 1474, 1475, 1476, 1477] (by decide +kernel) (by decide +kernel)
set_option maxRecDepth 20000 in
theorem gL_law_X7_lend : GoodIn wsL_law (wsV RL 156 RX7 yX7_lend wsX7_lend) := goodIn_app (goodIn_of _ (by decide +kernel)) ggL_law_X7_lend
set_option maxRecDepth 20000 in
theorem ggL_law_L_excuse : GoodIn wsL_law wsL_excuse := goodIn_ca (goodIn_ca (goodIn_ca (goodIn_r _ [351, 246, 123, 124, 352, 353, 354, 2, 355, 16, 356, 357, 358, 15, 359, 37, 33, 41, 255, 256, 257, 36, 258, 56, 133, 134, 360, 361, 362, 40, 363, 71, 364, 365, 366, 367, 72, 73, 74, 259, 260, 261, 262, 64, 145, 146, 147, 148, 149, 150, 151, 152, 153, 154, 155, 156, 157, 21, 20, 158, 159, 160, 161, 162, 163, 164, 165, 45, 47, 166, 167, 168, 169, 48, 49, 50, 51, 52, 170, 171, 172, 173, 57, 174, 58, 59, 60, 61, 62, 63, 65, 66, 67, 175, 176, 177, 178, 179, 180, 181, 182, 44, 183, 78, 79, 184, 80, 81, 83, 84, 85, 86, 368, 369, 370, 371, 372, 373, 374, 375, 1454, 1455, 1456, 1457, 1458, 1459, 1460, 1461, 1478, 1479, 1480, 1481, 1482, 1483, 1484, 1485, 1486, 1487, 1499, 1500, 1501, 1502, 1503, 1504, 1505, 1506, 1507, 1508, 1509, 1510, 1511, 1512, 1513, 1514, 1515, 1516, 1517, 1518, 1519, 1520, 1521, 1522] (by decide +kernel) (by decide +kernel)) (goodIn_sub (fun _ h => List.mem_append_left _ (List.mem_append_left _ (List.mem_append_right _ h))) (by decide +kernel))) (goodIn_sub (fun _ h => List.mem_append_left _ (List.mem_append_right _ h)) (by decide +kernel))) (goodIn_sub (fun _ h => List.mem_append_right _ h) (by decide +kernel))
set_option maxRecDepth 20000 in
theorem gL_law_L_excuse : GoodIn wsL_law (va_wsS RL 157 yL_excuse wsL_excuse) := goodIn_app (goodIn_of _ (by decide +kernel)) ggL_law_L_excuse
set_option maxRecDepth 20000 in
theorem ggL_law_X7_excuse_q1 : GoodIn wsL_law ([Cond.code yX7_excuse cX7_excuse 4 (some .int)]) := goodIn_r _ [379] (by decide +kernel) (by decide +kernel)
set_option maxRecDepth 20000 in
theorem ggL_law_X7_excuse_q2 : GoodIn wsL_law (wsX7_excuse_r1) := goodIn_r _ [199, 109, 277, 278, 279, 5, 280, 203, 204, 205, 215, 216, 217, 218, 380, 381, 382, 383, 384, 385, 386, 387, 281, 282] (by decide +kernel) (by decide +kernel)
set_option maxRecDepth 20000 in
theorem ggL_law_X7_excuse_q3 : GoodIn wsL_law (wsX7_excuse_r2) := goodIn_r _ [283, 284, 388, 389, 390, 391, 219, 220, 221, 222, 223, 110, 224, 225, 226, 392, 393, 394, 395, 396] (by decide +kernel) (by decide +kernel)
set_option maxRecDepth 20000 in
theorem ggL_law_X7_excuse_q4 : GoodIn wsL_law (wsX70) := goodIn_r _ [1462, 1463, 1464, 1465, 1466, 1467, 1468, 1469, 1470, 1471, 1472, 1473, 1474, 1475, 1476, 1477] (by decide +kernel) (by decide +kernel)
theorem ggL_law_X7_excuse : GoodIn wsL_law wsX7_excuse := (goodIn_app (a := [Cond.code yX7_excuse cX7_excuse 4 (some .int)]) ggL_law_X7_excuse_q1 (goodIn_app (goodIn_app ggL_law_X7_excuse_q2 ggL_law_X7_excuse_q3) ggL_law_X7_excuse_q4))
set_option maxRecDepth 20000 in
theorem gL_law_X7_excuse : GoodIn wsL_law (wsV RL 159 RX7 yX7_excuse wsX7_excuse) := goodIn_app (goodIn_of _ (by decide +kernel)) ggL_law_X7_excuse
set_option maxRecDepth 20000 in
theorem ggL_law_L_announce : GoodIn wsL_law wsL_announce := goodIn_ca (goodIn_ca (goodIn_ca (goodIn_r _ [399, 123, 124, 400, 401, 402, 2, 403, 16, 404, 405, 406, 15, 407, 33, 45, 133, 134, 408, 409, 410, 44, 411, 78, 412, 413, 414, 415, 79, 145, 146, 147, 148, 149, 150, 151, 152, 153, 154, 155, 156, 157, 21, 20, 158, 159, 160, 161, 162, 163, 164, 165, 37, 41, 47, 166, 167, 168, 169, 48, 49, 50, 51, 52, 170, 171, 172, 36, 173, 56, 57, 174, 58, 59, 60, 61, 62, 63, 64, 65, 66, 67, 175, 176, 177, 40, 178, 71, 72, 179, 73, 74, 180, 181, 182, 183, 184, 80, 81, 83, 84, 85, 86, 416, 417, 418, 419, 420, 421, 422, 423, 424, 425, 426, 427, 1454, 1455, 1456, 1457, 1458, 1459, 1460, 1461, 1478, 1479, 1480, 1481, 1482, 1483, 1484, 1485, 1486, 1487, 1515, 1516, 1517, 1518, 1519, 1520, 1521, 1522, 1499, 1500, 1501, 1502, 1503, 1504, 1505, 1506, 1507, 1508, 1509, 1510, 1511, 1512, 1513, 1514] (by decide +kernel) (by decide +kernel)) (goodIn_sub (fun _ h => List.mem_append_left _ (List.mem_append_left _ (List.mem_append_right _ h))) (by decide +kernel))) (goodIn_sub (fun _ h => List.mem_append_left _ (List.mem_append_right _ h)) (by decide +kernel))) (goodIn_sub (fun _ h => List.mem_append_right _ h) (by decide +kernel))
set_option maxRecDepth 20000 in
theorem gL_law_L_announce : GoodIn wsL_law (va_wsS RL 160 yL_announce wsL_announce) := goodIn_app (goodIn_of _ (by decide +kernel)) ggL_law_L_announce
set_option maxRecDepth 20000 in
theorem ggL_law_X7_announce : GoodIn wsL_law wsX7_announce := goodIn_r _ [431, 199, 109, 432, 433, 434, 5, 435, 203, 204, 205, 215, 216, 217, 218, 436, 437, 438, 439, 440, 441, 442, 443, 219, 220, 221, 222, 223, 110, 224, 225, 226, 444, 445, 446, 447, 1462, 1463, 1464, 1465, 1466, 1467, 1468, 1469, 1470, 1471, 1472, 1473, 1474, 1475, 1476, 1477] (by decide +kernel) (by decide +kernel)
set_option maxRecDepth 20000 in
theorem gL_law_X7_announce : GoodIn wsL_law (wsV RL 163 RX7 yX7_announce wsX7_announce) := goodIn_app (goodIn_of _ (by decide +kernel)) ggL_law_X7_announce
set_option maxRecDepth 20000 in
theorem ggL_law_L_setLine : GoodIn wsL_law wsL_setLine := goodIn_ca (goodIn_ca (goodIn_ca (goodIn_r _ [450, 246, 123, 124, 451, 452, 453, 2, 454, 16, 455, 456, 457, 15, 458, 45, 459, 460, 461, 44, 462, 78, 463, 464, 137, 133, 134, 139, 140, 465, 466, 467, 468, 469, 33, 145, 146, 147, 148, 149, 150, 151, 152, 153, 154, 155, 156, 157, 21, 20, 158, 159, 160, 161, 162, 163, 164, 165, 37, 41, 47, 166, 167, 168, 169, 48, 49, 50, 51, 52, 170, 171, 172, 36, 173, 56, 57, 174, 58, 59, 60, 61, 62, 63, 64, 65, 66, 67, 175, 176, 177, 40, 178, 71, 72, 179, 73, 74, 180, 181, 182, 183, 79, 184, 80, 81, 83, 84, 85, 86, 470, 471, 472, 473, 474, 475, 476, 477, 478, 479, 480, 1454, 1455, 1456, 1457, 1458, 1459, 1460, 1461, 1478, 1479, 1480, 1481, 1482, 1483, 1484, 1485, 1486, 1487, 1515, 1516, 1517, 1518, 1519, 1520, 1521, 1522, 1499, 1500, 1501, 1502, 1503, 1504, 1505, 1506, 1507, 1508, 1509, 1510, 1511, 1512, 1513, 1514] (by decide +kernel) (by decide +kernel)) (goodIn_sub (fun _ h => List.mem_append_left _ (List.mem_append_left _ (List.mem_append_right _ h))) (by decide +kernel))) (goodIn_sub (fun _ h => List.mem_append_left _ (List.mem_append_right _ h)) (by decide +kernel))) (goodIn_sub (fun _ h => List.mem_append_right _ h) (by decide +kernel))
set_option maxRecDepth 20000 in
theorem gL_law_L_setLine : GoodIn wsL_law (va_wsS RL 164 yL_setLine wsL_setLine) := goodIn_app (goodIn_of _ (by decide +kernel)) ggL_law_L_setLine
set_option maxRecDepth 20000 in
theorem ggL_law_X7_setLine_q1 : GoodIn wsL_law ([Cond.code yX7_setLine cX7_setLine 6 (some .int)]) := goodIn_r _ [484] (by decide +kernel) (by decide +kernel)
set_option maxRecDepth 20000 in
theorem ggL_law_X7_setLine_q2 : GoodIn wsL_law (wsX7_setLine_r1) := goodIn_r _ [199, 109, 485, 486, 487, 5, 488, 203, 204, 205, 489, 490, 491, 215, 216, 217, 218, 212, 213, 214, 492, 493, 494, 495] (by decide +kernel) (by decide +kernel)
set_option maxRecDepth 20000 in
theorem ggL_law_X7_setLine_q3 : GoodIn wsL_law (wsX7_setLine_r2) := goodIn_r _ [440, 441, 442, 443, 219, 220, 221, 222, 223, 110, 224, 225, 226, 496, 497, 498, 499, 500, 501, 502, 503, 504, 505, 506] (by decide +kernel) (by decide +kernel)
set_option maxRecDepth 20000 in
theorem ggL_law_X7_setLine_q4 : GoodIn wsL_law (wsX7_setLine_r3) := goodIn_r _ [507] (by decide +kernel) (by decide +kernel)
set_option maxRecDepth 20000 in
theorem ggL_law_X7_setLine_q5 : GoodIn wsL_law (wsX70) := goodIn_r _ [1462, 1463, 1464, 1465, 1466, 1467, 1468, 1469, 1470, 1471, 1472, 1473, 1474, 1475, 1476, 1477] (by decide +kernel) (by decide +kernel)
theorem ggL_law_X7_setLine : GoodIn wsL_law wsX7_setLine := (goodIn_app (a := [Cond.code yX7_setLine cX7_setLine 6 (some .int)]) ggL_law_X7_setLine_q1 (goodIn_app (goodIn_app ggL_law_X7_setLine_q2 (goodIn_app ggL_law_X7_setLine_q3 ggL_law_X7_setLine_q4)) ggL_law_X7_setLine_q5))
set_option maxRecDepth 20000 in
theorem gL_law_X7_setLine : GoodIn wsL_law (wsV RL 166 RX7 yX7_setLine wsX7_setLine) := goodIn_app (goodIn_of _ (by decide +kernel)) ggL_law_X7_setLine
set_option maxRecDepth 20000 in
theorem ggL_law_L_passDays : GoodIn wsL_law wsL_passDays := goodIn_ca (goodIn_ca (goodIn_ca (goodIn_r _ [510, 123, 124, 511, 512, 513, 2, 514, 16, 29, 515, 516, 517, 15, 518, 33, 133, 134, 145, 146, 147, 148, 149, 150, 151, 152, 153, 154, 155, 156, 157, 21, 20, 158, 159, 160, 161, 162, 163, 164, 165, 37, 41, 45, 47, 166, 167, 168, 169, 48, 49, 50, 51, 52, 170, 171, 172, 36, 173, 56, 57, 174, 58, 59, 60, 61, 62, 63, 64, 65, 66, 67, 175, 176, 177, 40, 178, 71, 72, 179, 73, 74, 180, 181, 182, 44, 183, 78, 79, 184, 80, 81, 83, 84, 85, 86, 519, 520, 521, 522, 469, 523, 524, 525, 526, 527, 528, 529, 28, 530, 100, 531, 532, 102, 533, 534, 535, 101, 536, 537, 538, 539, 540, 541, 542, 543, 544, 259, 260, 261, 262, 328, 329, 330, 331, 364, 365, 366, 367, 545, 546, 547, 548, 549, 550, 551, 552, 475, 553, 476, 554, 555, 556, 557, 558, 559, 425, 426, 427, 560, 561, 562, 563, 103, 564, 565, 566, 567, 568, 569, 570, 571, 572, 573, 574, 575, 576, 577, 578, 579, 580, 581, 582, 583, 584, 585, 586, 587, 588, 589, 590, 591, 592, 593, 594, 595, 596, 597, 598, 599, 600, 601, 602, 603, 604, 605, 606, 607, 608, 609, 610, 611, 309, 612, 613, 614, 615, 616, 617, 618, 619, 620, 477, 478, 479, 480, 1454, 1455, 1456, 1457, 1458, 1459, 1460, 1461, 1478, 1479, 1480, 1481, 1482, 1483, 1484, 1485, 1486, 1487, 1499, 1500, 1501, 1502, 1503, 1504, 1505, 1506, 1507, 1508, 1509, 1510, 1511, 1512, 1513, 1514, 1515, 1516, 1517, 1518, 1519, 1520, 1521, 1522, 1494, 1495, 1496, 1497, 1498] (by decide +kernel) (by decide +kernel)) (goodIn_sub (fun _ h => List.mem_append_left _ (List.mem_append_left _ (List.mem_append_right _ h))) (by decide +kernel))) (goodIn_sub (fun _ h => List.mem_append_left _ (List.mem_append_right _ h)) (by decide +kernel))) (goodIn_sub (fun _ h => List.mem_append_right _ h) (by decide +kernel))
set_option maxRecDepth 20000 in
theorem gL_law_L_passDays : GoodIn wsL_law (va_wsS RL 167 yL_passDays wsL_passDays) := goodIn_app (goodIn_of _ (by decide +kernel)) ggL_law_L_passDays
set_option maxRecDepth 20000 in
theorem ggL_law_X7_passDays_q1 : GoodIn wsL_law ([Cond.code yX7_passDays cX7_passDays 2 (some .int)]) := goodIn_r _ [624] (by decide +kernel) (by decide +kernel)
set_option maxRecDepth 20000 in
theorem ggL_law_X7_passDays_q2 : GoodIn wsL_law (wsX7_passDays_r1) := goodIn_r _ [199, 109, 203, 204, 5, 205, 215, 216, 217, 218, 219, 220, 221, 222, 223, 110, 224, 225, 226, 625, 626, 627, 628, 629] (by decide +kernel) (by decide +kernel)
set_option maxRecDepth 20000 in
theorem ggL_law_X7_passDays_q3 : GoodIn wsL_law (wsX7_passDays_r2) := goodIn_r _ [630, 631, 632, 633, 634, 635, 636, 281, 282, 283, 284, 235, 236, 237, 238, 440, 441, 442, 443, 637, 638, 639, 640, 113] (by decide +kernel) (by decide +kernel)
set_option maxRecDepth 20000 in
theorem ggL_law_X7_passDays_q4 : GoodIn wsL_law (wsX7_passDays_r3) := goodIn_r _ [641, 642, 643, 644, 115, 114, 645, 646, 647, 648, 504, 505, 506, 507, 649, 650, 651, 652, 653, 654, 655, 656, 388, 389] (by decide +kernel) (by decide +kernel)
set_option maxRecDepth 20000 in
theorem ggL_law_X7_passDays_q5 : GoodIn wsL_law (wsX7_passDays_r4) := goodIn_r _ [390, 391, 657, 658, 659, 660, 661, 662, 663, 664, 665, 666, 667, 668, 669, 670, 671, 672, 673, 674, 675, 676, 677, 678] (by decide +kernel) (by decide +kernel)
set_option maxRecDepth 20000 in
theorem ggL_law_X7_passDays_q6 : GoodIn wsL_law (wsX7_passDays_r5) := goodIn_r _ [679, 680, 681, 682, 683, 684, 116, 685, 686, 687, 688, 689, 690, 691, 692, 500, 501, 502, 503] (by decide +kernel) (by decide +kernel)
set_option maxRecDepth 20000 in
theorem ggL_law_X7_passDays_q7 : GoodIn wsL_law (wsX70) := goodIn_r _ [1462, 1463, 1464, 1465, 1466, 1467, 1468, 1469, 1470, 1471, 1472, 1473, 1474, 1475, 1476, 1477] (by decide +kernel) (by decide +kernel)
theorem ggL_law_X7_passDays : GoodIn wsL_law wsX7_passDays := (goodIn_app (a := [Cond.code yX7_passDays cX7_passDays 2 (some .int)]) ggL_law_X7_passDays_q1 (goodIn_app (goodIn_app ggL_law_X7_passDays_q2 (goodIn_app ggL_law_X7_passDays_q3 (goodIn_app ggL_law_X7_passDays_q4 (goodIn_app ggL_law_X7_passDays_q5 ggL_law_X7_passDays_q6)))) ggL_law_X7_passDays_q7))
set_option maxRecDepth 20000 in
theorem gL_law_X7_passDays : GoodIn wsL_law (wsV RL 169 RX7 yX7_passDays wsX7_passDays) := goodIn_app (goodIn_of _ (by decide +kernel)) ggL_law_X7_passDays
set_option maxRecDepth 20000 in
theorem ggL_law_L_type : GoodIn wsL_law wsL_type := goodIn_ca (goodIn_ca (goodIn_ca (goodIn_r _ [695, 124, 696, 697, 698, 2, 699, 25, 700, 701, 702, 24, 703, 92, 145, 146, 147, 148, 149, 150, 151, 152, 153, 704, 705, 706, 707, 91, 1454, 1455, 1456, 1457, 1458, 1459, 1460, 1461, 1488, 1489, 1490, 1491, 1492, 1493] (by decide +kernel) (by decide +kernel)) (goodIn_sub (fun _ h => List.mem_append_left _ (List.mem_append_left _ (List.mem_append_right _ h))) (by decide +kernel))) (goodIn_sub (fun _ h => List.mem_append_left _ (List.mem_append_right _ h)) (by decide +kernel))) (goodIn_sub (fun _ h => List.mem_append_right _ h) (by decide +kernel))
set_option maxRecDepth 20000 in
theorem gL_law_L_type : GoodIn wsL_law (va_wsS RL 170 yL_type wsL_type) := goodIn_app (goodIn_of _ (by decide +kernel)) ggL_law_L_type
set_option maxRecDepth 20000 in
theorem ggL_law_X7_type : GoodIn wsL_law wsX7_type := goodIn_r _ [711, 199, 712, 117, 215, 216, 217, 5, 218, 1462, 1463, 1464, 1465, 1466, 1467, 1468, 1469, 1470, 1471, 1472, 1473, 1474, 1475, 1476, 1477] (by decide +kernel) (by decide +kernel)
set_option maxRecDepth 20000 in
theorem gL_law_X7_type : GoodIn wsL_law (wsV RL 173 RX7 yX7_type wsX7_type) := goodIn_app (goodIn_of _ (by decide +kernel)) ggL_law_X7_type
set_option maxRecDepth 20000 in
theorem ggL_law_X6_clearLetter : GoodIn wsL_law wsX6_clearLetter := goodIn_r _ [716, 25, 717, 718, 719, 24, 720, 92, 1454, 1455, 1456, 1457, 1458, 1459, 1460, 1461, 1488, 1489, 1490, 1491, 1492, 1493] (by decide +kernel) (by decide +kernel)
set_option maxRecDepth 20000 in
theorem gL_law_X6_clearLetter : GoodIn wsL_law (wsV RL 174 RX6 yX6_clearLetter wsX6_clearLetter) := goodIn_app (goodIn_of _ (by decide +kernel)) ggL_law_X6_clearLetter
set_option maxRecDepth 20000 in
theorem ggL_law_X7_clearLetter : GoodIn wsL_law wsX7_clearLetter := goodIn_r _ [724, 199, 712, 1462, 1463, 1464, 1465, 1466, 1467, 1468, 1469, 1470, 1471, 1472, 1473, 1474, 1475, 1476, 1477] (by decide +kernel) (by decide +kernel)
set_option maxRecDepth 20000 in
theorem gL_law_X7_clearLetter : GoodIn wsL_law (wsV RL 177 RX7 yX7_clearLetter wsX7_clearLetter) := goodIn_app (goodIn_of _ (by decide +kernel)) ggL_law_X7_clearLetter
set_option maxRecDepth 20000 in
theorem ggL_law_X6_letterError_q1 : GoodIn wsL_law ([Cond.code yX6_letterError cX6_letterError 1 (some .int)]) := goodIn_r _ [728] (by decide +kernel) (by decide +kernel)
set_option maxRecDepth 20000 in
theorem ggL_law_X6_letterError_q2 : GoodIn wsL_law (wsX6_letterError_r1) := goodIn_r _ [25, 729, 730, 731, 24, 732, 93, 733, 734, 735, 736, 737, 738, 739, 740, 91, 94, 96, 95, 741, 742, 743, 744, 92] (by decide +kernel) (by decide +kernel)
set_option maxRecDepth 20000 in
theorem ggL_law_X6_letterError_q3 : GoodIn wsL_law (wsX6_letterError_r2) := goodIn_r _ [745, 746, 747, 748, 749, 750, 751, 752, 753, 754, 755, 756, 757, 758, 759, 760, 761, 762, 763, 764, 765, 766, 767, 768] (by decide +kernel) (by decide +kernel)
set_option maxRecDepth 20000 in
theorem ggL_law_X6_letterError_q4 : GoodIn wsL_law (wsX6_letterError_r3) := goodIn_r _ [769, 770, 771, 772, 773, 774, 775, 776, 777, 778, 779, 780, 781, 782, 783, 784, 785, 786, 787, 788, 789, 790, 791, 792] (by decide +kernel) (by decide +kernel)
set_option maxRecDepth 20000 in
theorem ggL_law_X6_letterError_q5 : GoodIn wsL_law (wsX6_letterError_r4) := goodIn_r _ [793, 794, 795, 796, 797, 798, 799, 800, 801, 802, 803, 804, 805, 806, 807, 808, 809, 810, 811, 812, 813, 814, 815, 816] (by decide +kernel) (by decide +kernel)
set_option maxRecDepth 20000 in
theorem ggL_law_X6_letterError_q6 : GoodIn wsL_law (wsX6_letterError_r5) := goodIn_r _ [817, 818, 819, 820, 821, 822, 823, 824, 825, 826, 827, 828, 829, 830, 831, 832, 833, 834, 835, 836, 837, 838, 839, 840] (by decide +kernel) (by decide +kernel)
set_option maxRecDepth 20000 in
theorem ggL_law_X6_letterError_q7 : GoodIn wsL_law (wsX6_letterError_r6) := goodIn_r _ [841, 842, 843, 844, 845, 846, 847, 848, 849, 850, 851, 852, 853, 854, 855, 856, 857, 858, 859, 860, 861, 862, 863, 864] (by decide +kernel) (by decide +kernel)
set_option maxRecDepth 20000 in
theorem ggL_law_X6_letterError_q8 : GoodIn wsL_law (wsX6_letterError_r7) := goodIn_r _ [865, 133, 2, 134, 866, 867, 868] (by decide +kernel) (by decide +kernel)
set_option maxRecDepth 20000 in
theorem ggL_law_X6_letterError_q9 : GoodIn wsL_law (wsX60) := goodIn_r _ [1454, 1455, 1456, 1457, 1458, 1459, 1460, 1461] (by decide +kernel) (by decide +kernel)
set_option maxRecDepth 20000 in
theorem ggL_law_X6_letterError_q10 : GoodIn wsL_law (wsX20) := goodIn_r _ [1488, 1489, 1490, 1491, 1492, 1493] (by decide +kernel) (by decide +kernel)
theorem ggL_law_X6_letterError : GoodIn wsL_law wsX6_letterError := (goodIn_app (a := [Cond.code yX6_letterError cX6_letterError 1 (some .int)]) ggL_law_X6_letterError_q1 (goodIn_app (goodIn_app (goodIn_app ggL_law_X6_letterError_q2 (goodIn_app ggL_law_X6_letterError_q3 (goodIn_app ggL_law_X6_letterError_q4 (goodIn_app ggL_law_X6_letterError_q5 (goodIn_app ggL_law_X6_letterError_q6 (goodIn_app ggL_law_X6_letterError_q7 ggL_law_X6_letterError_q8)))))) ggL_law_X6_letterError_q9) ggL_law_X6_letterError_q10))
set_option maxRecDepth 20000 in
theorem gL_law_X6_letterError : GoodIn wsL_law (wsV RL 178 RX6 yX6_letterError wsX6_letterError) := goodIn_app (goodIn_of _ (by decide +kernel)) ggL_law_X6_letterError
set_option maxRecDepth 20000 in
theorem ggL_law_X7_letterError : GoodIn wsL_law wsX7_letterError := goodIn_r _ [872, 199, 873, 874, 875, 876, 5, 877, 878, 712, 879, 880, 881, 882, 117, 118, 883, 884, 885, 886, 887, 888, 889, 890, 203, 204, 205, 891, 892, 893, 894, 895, 896, 897, 898, 899, 900, 901, 1462, 1463, 1464, 1465, 1466, 1467, 1468, 1469, 1470, 1471, 1472, 1473, 1474, 1475, 1476, 1477] (by decide +kernel) (by decide +kernel)
set_option maxRecDepth 20000 in
theorem gL_law_X7_letterError : GoodIn wsL_law (wsV RL 181 RX7 yX7_letterError wsX7_letterError) := goodIn_app (goodIn_of _ (by decide +kernel)) ggL_law_X7_letterError
set_option maxRecDepth 20000 in
theorem ggL_law_L_impossibleOrder : GoodIn wsL_law wsL_impossibleOrder := goodIn_ca (goodIn_ca (goodIn_ca (goodIn_r _ [904, 124, 905, 906, 907, 2, 908, 25, 729, 730, 731, 24, 732, 93, 733, 734, 735, 736, 737, 738, 739, 740, 91, 94, 96, 95, 741, 742, 743, 744, 92, 745, 746, 747, 748, 749, 750, 751, 752, 753, 754, 755, 756, 757, 758, 759, 760, 761, 762, 763, 764, 765, 766, 767, 768, 769, 770, 771, 772, 773, 774, 775, 776, 777, 778, 779, 780, 781, 782, 783, 784, 785, 786, 787, 788, 789, 790, 791, 792, 793, 794, 795, 796, 797, 798, 799, 800, 801, 802, 803, 804, 805, 806, 807, 808, 809, 810, 811, 812, 813, 814, 815, 816, 817, 818, 819, 820, 821, 822, 823, 824, 825, 826, 827, 828, 829, 830, 831, 832, 833, 834, 835, 836, 837, 838, 839, 840, 841, 842, 843, 844, 845, 846, 847, 848, 849, 850, 851, 852, 853, 854, 855, 856, 857, 858, 859, 860, 861, 862, 863, 864, 865, 133, 134, 866, 867, 868, 145, 146, 147, 148, 149, 150, 151, 152, 153, 909, 910, 911, 912, 17, 16, 913, 914, 915, 162, 163, 164, 15, 165, 33, 37, 41, 45, 47, 166, 167, 168, 169, 48, 49, 50, 51, 52, 170, 171, 172, 36, 173, 56, 57, 174, 58, 59, 60, 61, 62, 63, 64, 65, 66, 67, 175, 176, 177, 40, 178, 71, 72, 179, 73, 74, 180, 181, 182, 44, 183, 78, 79, 184, 80, 81, 83, 84, 85, 86, 916, 917, 918, 919, 920, 921, 922, 129, 130, 131, 132, 135, 136, 137, 138, 139, 140, 141, 142, 143, 144, 404, 405, 406, 407, 408, 409, 410, 411, 412, 413, 414, 415, 455, 456, 457, 458, 459, 460, 461, 462, 463, 464, 465, 466, 467, 468, 469, 356, 357, 358, 359, 255, 256, 257, 258, 360, 361, 362, 363, 364, 365, 366, 367, 259, 260, 261, 262, 324, 325, 326, 327, 308, 328, 329, 330, 331, 251, 252, 253, 254, 515, 516, 517, 518, 923, 924, 925, 926, 29, 185, 186, 187, 188, 189, 190, 191, 192, 193, 194, 416, 417, 418, 419, 420, 421, 422, 423, 424, 425, 426, 427, 470, 471, 472, 473, 474, 475, 476, 477, 478, 479, 480, 368, 369, 370, 371, 372, 373, 374, 375, 332, 333, 334, 335, 336, 263, 264, 265, 266, 267, 268, 269, 270, 271, 272, 519, 520, 521, 522, 523, 524, 525, 526, 527, 528, 529, 28, 530, 100, 531, 532, 102, 533, 534, 535, 101, 536, 537, 538, 539, 540, 541, 542, 543, 544, 545, 546, 547, 548, 549, 550, 551, 552, 553, 554, 555, 556, 557, 558, 559, 560, 561, 562, 563, 103, 564, 565, 566, 567, 568, 569, 570, 571, 572, 573, 574, 575, 576, 577, 578, 579, 580, 581, 582, 583, 584, 585, 586, 587, 588, 589, 590, 591, 592, 593, 594, 595, 596, 597, 598, 599, 600, 601, 602, 603, 604, 605, 606, 607, 608, 609, 610, 611, 309, 612, 613, 614, 615, 616, 617, 618, 619, 620, 1454, 1455, 1456, 1457, 1458, 1459, 1460, 1461, 1488, 1489, 1490, 1491, 1492, 1493, 1478, 1479, 1480, 1481, 1482, 1483, 1484, 1485, 1486, 1487, 1499, 1500, 1501, 1502, 1503, 1504, 1505, 1506, 1507, 1508, 1509, 1510, 1511, 1512, 1513, 1514, 1515, 1516, 1517, 1518, 1519, 1520, 1521, 1522, 1494, 1495, 1496, 1497, 1498] (by decide +kernel) (by decide +kernel)) (goodIn_sub (fun _ h => List.mem_append_left _ (List.mem_append_left _ (List.mem_append_right _ h))) (by decide +kernel))) (goodIn_sub (fun _ h => List.mem_append_left _ (List.mem_append_right _ h)) (by decide +kernel))) (goodIn_sub (fun _ h => List.mem_append_right _ h) (by decide +kernel))
set_option maxRecDepth 20000 in
theorem gL_law_L_impossibleOrder : GoodIn wsL_law (va_wsS RL 182 yL_impossibleOrder wsL_impossibleOrder) := goodIn_app (goodIn_of _ (by decide +kernel)) ggL_law_L_impossibleOrder
set_option maxRecDepth 20000 in
theorem ggL_law_X7_impossibleOrder_q1 : GoodIn wsL_law ([Cond.code yX7_impossibleOrder cX7_impossibleOrder 2 (some .int)]) := goodIn_r _ [930] (by decide +kernel) (by decide +kernel)
set_option maxRecDepth 20000 in
theorem ggL_law_X7_impossibleOrder_q2 : GoodIn wsL_law (wsX7_impossibleOrder_r1) := goodIn_r _ [199, 109, 112, 878, 874, 875, 876, 5, 877, 873, 712, 879, 880, 881, 882, 117, 118, 883, 884, 885, 886, 887, 888, 889] (by decide +kernel) (by decide +kernel)
set_option maxRecDepth 20000 in
theorem ggL_law_X7_impossibleOrder_q3 : GoodIn wsL_law (wsX7_impossibleOrder_r2) := goodIn_r _ [890, 203, 204, 205, 891, 892, 893, 894, 895, 896, 897, 898, 899, 900, 901, 215, 216, 217, 218, 224, 225, 226, 931, 932] (by decide +kernel) (by decide +kernel)
set_option maxRecDepth 20000 in
theorem ggL_law_X7_impossibleOrder_q4 : GoodIn wsL_law (wsX7_impossibleOrder_r3) := goodIn_r _ [933, 934, 935, 936, 937, 938, 939, 940, 941, 942, 943, 944, 945, 946, 212, 213, 214, 227, 228, 229, 230, 231, 232, 233] (by decide +kernel) (by decide +kernel)
set_option maxRecDepth 20000 in
theorem ggL_law_X7_impossibleOrder_q5 : GoodIn wsL_law (wsX7_impossibleOrder_r4) := goodIn_r _ [234, 235, 236, 237, 238, 432, 433, 434, 435, 436, 437, 438, 439, 440, 441, 442, 443, 444, 445, 446, 447, 947, 948, 949] (by decide +kernel) (by decide +kernel)
set_option maxRecDepth 20000 in
theorem ggL_law_X7_impossibleOrder_q6 : GoodIn wsL_law (wsX7_impossibleOrder_r5) := goodIn_r _ [950, 485, 486, 487, 488, 492, 493, 494, 495, 496, 497, 498, 499, 500, 501, 502, 503, 504, 505, 506, 507, 277, 278, 279] (by decide +kernel) (by decide +kernel)
set_option maxRecDepth 20000 in
theorem ggL_law_X7_impossibleOrder_q7 : GoodIn wsL_law (wsX7_impossibleOrder_r6) := goodIn_r _ [280, 380, 381, 382, 383, 384, 385, 386, 387, 281, 282, 283, 284, 388, 389, 390, 391, 392, 393, 394, 395, 396, 341, 342] (by decide +kernel) (by decide +kernel)
set_option maxRecDepth 20000 in
theorem ggL_law_X7_impossibleOrder_q8 : GoodIn wsL_law (wsX7_impossibleOrder_r7) := goodIn_r _ [343, 344, 345, 346, 347, 348, 285, 286, 287, 288, 289, 290, 291, 292, 625, 626, 627, 628, 629, 630, 631, 632, 633, 634] (by decide +kernel) (by decide +kernel)
set_option maxRecDepth 20000 in
theorem ggL_law_X7_impossibleOrder_q9 : GoodIn wsL_law (wsX7_impossibleOrder_r8) := goodIn_r _ [635, 636, 637, 638, 639, 640, 113, 641, 642, 643, 644, 115, 114, 645, 646, 647, 648, 649, 650, 651, 652, 653, 654, 655] (by decide +kernel) (by decide +kernel)
set_option maxRecDepth 20000 in
theorem ggL_law_X7_impossibleOrder_q10 : GoodIn wsL_law (wsX7_impossibleOrder_r9) := goodIn_r _ [656, 657, 658, 659, 660, 661, 662, 663, 664, 665, 666, 667, 668, 669, 670, 671, 672, 673, 674, 675, 676, 677, 678, 679] (by decide +kernel) (by decide +kernel)
set_option maxRecDepth 20000 in
theorem ggL_law_X7_impossibleOrder_q11 : GoodIn wsL_law (wsX7_impossibleOrder_r10) := goodIn_r _ [680, 681, 682, 683, 684, 116, 685, 686, 687, 688, 689, 690, 691, 692] (by decide +kernel) (by decide +kernel)
set_option maxRecDepth 20000 in
theorem ggL_law_X7_impossibleOrder_q12 : GoodIn wsL_law (wsX70) := goodIn_r _ [1462, 1463, 1464, 1465, 1466, 1467, 1468, 1469, 1470, 1471, 1472, 1473, 1474, 1475, 1476, 1477] (by decide +kernel) (by decide +kernel)
theorem ggL_law_X7_impossibleOrder : GoodIn wsL_law wsX7_impossibleOrder := (goodIn_app (a := [Cond.code yX7_impossibleOrder cX7_impossibleOrder 2 (some .int)]) ggL_law_X7_impossibleOrder_q1 (goodIn_app (goodIn_app ggL_law_X7_impossibleOrder_q2 (goodIn_app ggL_law_X7_impossibleOrder_q3 (goodIn_app ggL_law_X7_impossibleOrder_q4 (goodIn_app ggL_law_X7_impossibleOrder_q5 (goodIn_app ggL_law_X7_impossibleOrder_q6 (goodIn_app ggL_law_X7_impossibleOrder_q7 (goodIn_app ggL_law_X7_impossibleOrder_q8 (goodIn_app ggL_law_X7_impossibleOrder_q9 (goodIn_app ggL_law_X7_impossibleOrder_q10 ggL_law_X7_impossibleOrder_q11))))))))) ggL_law_X7_impossibleOrder_q12))
set_option maxRecDepth 20000 in
theorem gL_law_X7_impossibleOrder : GoodIn wsL_law (wsV RL 185 RX7 yX7_impossibleOrder wsX7_impossibleOrder) := goodIn_app (goodIn_of _ (by decide +kernel)) ggL_law_X7_impossibleOrder
set_option maxRecDepth 20000 in
theorem ggL_law_L_carryOut : GoodIn wsL_law wsL_carryOut := goodIn_ca (goodIn_ca (goodIn_ca (goodIn_r _ [953, 124, 954, 955, 956, 2, 957, 25, 16, 17, 729, 730, 731, 24, 732, 93, 733, 734, 735, 736, 737, 738, 739, 740, 91, 94, 96, 95, 741, 742, 743, 744, 92, 745, 746, 747, 748, 749, 750, 751, 752, 753, 754, 755, 756, 757, 758, 759, 760, 761, 762, 763, 764, 765, 766, 767, 768, 769, 770, 771, 772, 773, 774, 775, 776, 777, 778, 779, 780, 781, 782, 783, 784, 785, 786, 787, 788, 789, 790, 791, 792, 793, 794, 795, 796, 797, 798, 799, 800, 801, 802, 803, 804, 805, 806, 807, 808, 809, 810, 811, 812, 813, 814, 815, 816, 817, 818, 819, 820, 821, 822, 823, 824, 825, 826, 827, 828, 829, 830, 831, 832, 833, 834, 835, 836, 837, 838, 839, 840, 841, 842, 843, 844, 845, 846, 847, 848, 849, 850, 851, 852, 853, 854, 855, 856, 857, 858, 859, 860, 861, 862, 863, 864, 865, 133, 134, 866, 867, 868, 909, 910, 911, 912, 913, 914, 915, 162, 163, 164, 15, 165, 33, 37, 41, 45, 47, 166, 167, 168, 169, 48, 49, 50, 51, 52, 170, 171, 172, 36, 173, 56, 57, 174, 58, 59, 60, 61, 62, 63, 64, 65, 66, 67, 175, 176, 177, 40, 178, 71, 72, 179, 73, 74, 180, 181, 182, 44, 183, 78, 79, 184, 80, 81, 83, 84, 85, 86, 916, 917, 918, 919, 920, 921, 922, 129, 130, 131, 132, 135, 136, 137, 138, 139, 140, 141, 142, 143, 144, 404, 405, 406, 407, 408, 409, 410, 411, 412, 413, 414, 415, 455, 456, 457, 458, 459, 460, 461, 462, 463, 464, 465, 466, 467, 468, 469, 356, 357, 358, 359, 255, 256, 257, 258, 360, 361, 362, 363, 364, 365, 366, 367, 259, 260, 261, 262, 324, 325, 326, 327, 308, 328, 329, 330, 331, 251, 252, 253, 254, 515, 516, 517, 518, 923, 924, 925, 926, 29, 185, 186, 187, 188, 189, 190, 191, 192, 193, 194, 416, 417, 418, 419, 420, 421, 422, 423, 424, 425, 426, 427, 470, 471, 472, 473, 474, 475, 476, 477, 478, 479, 480, 368, 369, 370, 371, 372, 373, 374, 375, 332, 333, 334, 335, 336, 263, 264, 265, 266, 267, 268, 269, 270, 271, 272, 519, 520, 521, 522, 523, 524, 525, 526, 527, 528, 529, 28, 530, 100, 531, 532, 102, 533, 534, 535, 101, 536, 537, 538, 539, 540, 541, 542, 543, 544, 545, 546, 547, 548, 549, 550, 551, 552, 553, 554, 555, 556, 557, 558, 559, 560, 561, 562, 563, 103, 564, 565, 566, 567, 568, 569, 570, 571, 572, 573, 574, 575, 576, 577, 578, 579, 580, 581, 582, 583, 584, 585, 586, 587, 588, 589, 590, 591, 592, 593, 594, 595, 596, 597, 598, 599, 600, 601, 602, 603, 604, 605, 606, 607, 608, 609, 610, 611, 309, 612, 613, 614, 615, 616, 617, 618, 619, 620, 145, 146, 147, 148, 149, 150, 151, 152, 153, 154, 155, 156, 157, 21, 20, 158, 159, 160, 161, 958, 959, 960, 961, 1454, 1455, 1456, 1457, 1458, 1459, 1460, 1461, 1488, 1489, 1490, 1491, 1492, 1493, 1478, 1479, 1480, 1481, 1482, 1483, 1484, 1485, 1486, 1487, 1499, 1500, 1501, 1502, 1503, 1504, 1505, 1506, 1507, 1508, 1509, 1510, 1511, 1512, 1513, 1514, 1515, 1516, 1517, 1518, 1519, 1520, 1521, 1522, 1494, 1495, 1496, 1497, 1498] (by decide +kernel) (by decide +kernel)) (goodIn_sub (fun _ h => List.mem_append_left _ (List.mem_append_left _ (List.mem_append_right _ h))) (by decide +kernel))) (goodIn_sub (fun _ h => List.mem_append_left _ (List.mem_append_right _ h)) (by decide +kernel))) (goodIn_sub (fun _ h => List.mem_append_right _ h) (by decide +kernel))
set_option maxRecDepth 20000 in
theorem gL_law_L_carryOut : GoodIn wsL_law (va_wsS RL 186 yL_carryOut wsL_carryOut) := goodIn_app (goodIn_of _ (by decide +kernel)) ggL_law_L_carryOut
set_option maxRecDepth 20000 in
theorem ggL_law_X7_carryOut_q1 : GoodIn wsL_law ([Cond.code yX7_carryOut cX7_carryOut 1 (some .int)]) := goodIn_r _ [965] (by decide +kernel) (by decide +kernel)
set_option maxRecDepth 20000 in
theorem ggL_law_X7_carryOut_q2 : GoodIn wsL_law (wsX7_carryOut_r1) := goodIn_r _ [199, 109, 112, 878, 874, 875, 876, 5, 877, 873, 712, 879, 880, 881, 882, 117, 118, 883, 884, 885, 886, 887, 888, 889] (by decide +kernel) (by decide +kernel)
set_option maxRecDepth 20000 in
theorem ggL_law_X7_carryOut_q3 : GoodIn wsL_law (wsX7_carryOut_r2) := goodIn_r _ [890, 203, 204, 205, 891, 892, 893, 894, 895, 896, 897, 898, 899, 900, 901, 215, 216, 217, 218, 224, 225, 226, 931, 932] (by decide +kernel) (by decide +kernel)
set_option maxRecDepth 20000 in
theorem ggL_law_X7_carryOut_q4 : GoodIn wsL_law (wsX7_carryOut_r3) := goodIn_r _ [933, 934, 935, 936, 937, 938, 939, 940, 941, 942, 943, 944, 945, 946, 212, 213, 214, 227, 228, 229, 230, 231, 232, 233] (by decide +kernel) (by decide +kernel)
set_option maxRecDepth 20000 in
theorem ggL_law_X7_carryOut_q5 : GoodIn wsL_law (wsX7_carryOut_r4) := goodIn_r _ [234, 235, 236, 237, 238, 432, 433, 434, 435, 436, 437, 438, 439, 440, 441, 442, 443, 444, 445, 446, 447, 947, 948, 949] (by decide +kernel) (by decide +kernel)
set_option maxRecDepth 20000 in
theorem ggL_law_X7_carryOut_q6 : GoodIn wsL_law (wsX7_carryOut_r5) := goodIn_r _ [950, 485, 486, 487, 488, 492, 493, 494, 495, 496, 497, 498, 499, 500, 501, 502, 503, 504, 505, 506, 507, 277, 278, 279] (by decide +kernel) (by decide +kernel)
set_option maxRecDepth 20000 in
theorem ggL_law_X7_carryOut_q7 : GoodIn wsL_law (wsX7_carryOut_r6) := goodIn_r _ [280, 380, 381, 382, 383, 384, 385, 386, 387, 281, 282, 283, 284, 388, 389, 390, 391, 392, 393, 394, 395, 396, 341, 342] (by decide +kernel) (by decide +kernel)
set_option maxRecDepth 20000 in
theorem ggL_law_X7_carryOut_q8 : GoodIn wsL_law (wsX7_carryOut_r7) := goodIn_r _ [343, 344, 345, 346, 347, 348, 285, 286, 287, 288, 289, 290, 291, 292, 625, 626, 627, 628, 629, 630, 631, 632, 633, 634] (by decide +kernel) (by decide +kernel)
set_option maxRecDepth 20000 in
theorem ggL_law_X7_carryOut_q9 : GoodIn wsL_law (wsX7_carryOut_r8) := goodIn_r _ [635, 636, 637, 638, 639, 640, 113, 641, 642, 643, 644, 115, 114, 645, 646, 647, 648, 649, 650, 651, 652, 653, 654, 655] (by decide +kernel) (by decide +kernel)
set_option maxRecDepth 20000 in
theorem ggL_law_X7_carryOut_q10 : GoodIn wsL_law (wsX7_carryOut_r9) := goodIn_r _ [656, 657, 658, 659, 660, 661, 662, 663, 664, 665, 666, 667, 668, 669, 670, 671, 672, 673, 674, 675, 676, 677, 678, 679] (by decide +kernel) (by decide +kernel)
set_option maxRecDepth 20000 in
theorem ggL_law_X7_carryOut_q11 : GoodIn wsL_law (wsX7_carryOut_r10) := goodIn_r _ [680, 681, 682, 683, 684, 116, 685, 686, 687, 688, 689, 690, 691, 692, 219, 220, 221, 222, 223, 110] (by decide +kernel) (by decide +kernel)
set_option maxRecDepth 20000 in
theorem ggL_law_X7_carryOut_q12 : GoodIn wsL_law (wsX70) := goodIn_r _ [1462, 1463, 1464, 1465, 1466, 1467, 1468, 1469, 1470, 1471, 1472, 1473, 1474, 1475, 1476, 1477] (by decide +kernel) (by decide +kernel)
theorem ggL_law_X7_carryOut : GoodIn wsL_law wsX7_carryOut := (goodIn_app (a := [Cond.code yX7_carryOut cX7_carryOut 1 (some .int)]) ggL_law_X7_carryOut_q1 (goodIn_app (goodIn_app ggL_law_X7_carryOut_q2 (goodIn_app ggL_law_X7_carryOut_q3 (goodIn_app ggL_law_X7_carryOut_q4 (goodIn_app ggL_law_X7_carryOut_q5 (goodIn_app ggL_law_X7_carryOut_q6 (goodIn_app ggL_law_X7_carryOut_q7 (goodIn_app ggL_law_X7_carryOut_q8 (goodIn_app ggL_law_X7_carryOut_q9 (goodIn_app ggL_law_X7_carryOut_q10 ggL_law_X7_carryOut_q11))))))))) ggL_law_X7_carryOut_q12))
set_option maxRecDepth 20000 in
theorem gL_law_X7_carryOut : GoodIn wsL_law (wsV RL 188 RX7 yX7_carryOut wsX7_carryOut) := goodIn_app (goodIn_of _ (by decide +kernel)) ggL_law_X7_carryOut
set_option maxRecDepth 20000 in
theorem ggL_law_L_undo : GoodIn wsL_law wsL_undo := goodIn_ca (goodIn_ca (goodIn_ca (goodIn_r _ [968, 124, 969, 970, 971, 2, 972, 21, 16, 20, 145, 146, 147, 148, 149, 150, 151, 152, 153, 162, 163, 164, 15, 165, 33, 37, 41, 45, 47, 166, 167, 168, 169, 48, 49, 50, 51, 52, 170, 171, 172, 36, 173, 56, 57, 174, 58, 59, 60, 61, 62, 63, 64, 65, 66, 67, 175, 176, 177, 40, 178, 71, 72, 179, 73, 74, 180, 181, 182, 44, 183, 78, 79, 184, 80, 81, 83, 84, 85, 86, 1454, 1455, 1456, 1457, 1458, 1459, 1460, 1461, 1478, 1479, 1480, 1481, 1482, 1483, 1484, 1485, 1486, 1487, 1499, 1500, 1501, 1502, 1503, 1504, 1505, 1506, 1507, 1508, 1509, 1510, 1511, 1512, 1513, 1514, 1515, 1516, 1517, 1518, 1519, 1520, 1521, 1522] (by decide +kernel) (by decide +kernel)) (goodIn_sub (fun _ h => List.mem_append_left _ (List.mem_append_left _ (List.mem_append_right _ h))) (by decide +kernel))) (goodIn_sub (fun _ h => List.mem_append_left _ (List.mem_append_right _ h)) (by decide +kernel))) (goodIn_sub (fun _ h => List.mem_append_right _ h) (by decide +kernel))
set_option maxRecDepth 20000 in
theorem gL_law_L_undo : GoodIn wsL_law (va_wsS RL 189 yL_undo wsL_undo) := goodIn_app (goodIn_of _ (by decide +kernel)) ggL_law_L_undo
set_option maxRecDepth 20000 in
theorem ggL_law_X7_undo : GoodIn wsL_law wsX7_undo := goodIn_r _ [976, 199, 223, 110, 109, 215, 216, 217, 5, 218, 224, 225, 226, 1462, 1463, 1464, 1465, 1466, 1467, 1468, 1469, 1470, 1471, 1472, 1473, 1474, 1475, 1476, 1477] (by decide +kernel) (by decide +kernel)
set_option maxRecDepth 20000 in
theorem gL_law_X7_undo : GoodIn wsL_law (wsV RL 191 RX7 yX7_undo wsX7_undo) := goodIn_app (goodIn_of _ (by decide +kernel)) ggL_law_X7_undo
set_option maxRecDepth 20000 in
theorem ggL_law_X6_takeSnapshot_q1 : GoodIn wsL_law ([Cond.code yX6_takeSnapshot cX6_takeSnapshot 1 (some .int)]) := goodIn_r _ [980] (by decide +kernel) (by decide +kernel)
set_option maxRecDepth 20000 in
theorem ggL_law_X6_takeSnapshot_q2 : GoodIn wsL_law (wsX6_takeSnapshot_r1) := goodIn_r _ [18, 16, 19, 981, 162, 163, 164, 15, 165, 33, 37, 41, 45, 47, 166, 167, 168, 169, 48, 49, 50, 51, 52, 170] (by decide +kernel) (by decide +kernel)
set_option maxRecDepth 20000 in
theorem ggL_law_X6_takeSnapshot_q3 : GoodIn wsL_law (wsX6_takeSnapshot_r2) := goodIn_r _ [171, 172, 36, 173, 56, 57, 174, 58, 59, 60, 61, 62, 63, 64, 65, 66, 67, 175, 176, 177, 40, 178, 71, 72] (by decide +kernel) (by decide +kernel)
set_option maxRecDepth 20000 in
theorem ggL_law_X6_takeSnapshot_q4 : GoodIn wsL_law (wsX6_takeSnapshot_r3) := goodIn_r _ [179, 73, 74, 180, 181, 182, 44, 183, 78, 79, 184, 80, 81, 83, 84, 85, 86] (by decide +kernel) (by decide +kernel)
set_option maxRecDepth 20000 in
theorem ggL_law_X6_takeSnapshot_q5 : GoodIn wsL_law (wsX60) := goodIn_r _ [1454, 1455, 1456, 1457, 1458, 1459, 1460, 1461] (by decide +kernel) (by decide +kernel)
set_option maxRecDepth 20000 in
theorem ggL_law_X6_takeSnapshot_q6 : GoodIn wsL_law (wsX00) := goodIn_r _ [1478, 1479, 1480, 1481, 1482, 1483, 1484, 1485, 1486, 1487] (by decide +kernel) (by decide +kernel)
set_option maxRecDepth 20000 in
theorem ggL_law_X6_takeSnapshot_q7 : GoodIn wsL_law (wsX50) := goodIn_r _ [1499, 1500, 1501, 1502, 1503, 1504, 1505, 1506, 1507, 1508, 1509, 1510] (by decide +kernel) (by decide +kernel)
set_option maxRecDepth 20000 in
theorem ggL_law_X6_takeSnapshot_q8 : GoodIn wsL_law (wsX40) := goodIn_r _ [1511, 1512, 1513, 1514] (by decide +kernel) (by decide +kernel)
set_option maxRecDepth 20000 in
theorem ggL_law_X6_takeSnapshot_q9 : GoodIn wsL_law (wsX10) := goodIn_r _ [1515, 1516, 1517, 1518, 1519, 1520, 1521, 1522] (by decide +kernel) (by decide +kernel)
theorem ggL_law_X6_takeSnapshot : GoodIn wsL_law wsX6_takeSnapshot := (goodIn_app (a := [Cond.code yX6_takeSnapshot cX6_takeSnapshot 1 (some .int)]) ggL_law_X6_takeSnapshot_q1 (goodIn_app (goodIn_app (goodIn_app (goodIn_app (goodIn_app (goodIn_app ggL_law_X6_takeSnapshot_q2 (goodIn_app ggL_law_X6_takeSnapshot_q3 ggL_law_X6_takeSnapshot_q4)) ggL_law_X6_takeSnapshot_q5) ggL_law_X6_takeSnapshot_q6) ggL_law_X6_takeSnapshot_q7) ggL_law_X6_takeSnapshot_q8) ggL_law_X6_takeSnapshot_q9))
set_option maxRecDepth 20000 in
theorem gL_law_X6_takeSnapshot : GoodIn wsL_law (wsV RL 192 RX6 yX6_takeSnapshot wsX6_takeSnapshot) := goodIn_app (goodIn_of _ (by decide +kernel)) ggL_law_X6_takeSnapshot
set_option maxRecDepth 20000 in
theorem ggL_law_X7_takeSnapshot : GoodIn wsL_law wsX7_takeSnapshot := goodIn_r _ [985, 199, 109, 111, 986, 224, 225, 5, 226, 1462, 1463, 1464, 1465, 1466, 1467, 1468, 1469, 1470, 1471, 1472, 1473, 1474, 1475, 1476, 1477] (by decide +kernel) (by decide +kernel)
set_option maxRecDepth 20000 in
theorem gL_law_X7_takeSnapshot : GoodIn wsL_law (wsV RL 195 RX7 yX7_takeSnapshot wsX7_takeSnapshot) := goodIn_app (goodIn_of _ (by decide +kernel)) ggL_law_X7_takeSnapshot
set_option maxRecDepth 20000 in
theorem ggL_law_L_restoreSnapshot : GoodIn wsL_law wsL_restoreSnapshot := goodIn_ca (goodIn_ca (goodIn_ca (goodIn_r _ [989, 124, 990, 991, 992, 2, 993, 19, 16, 18, 981, 145, 146, 147, 148, 149, 150, 151, 152, 153, 154, 155, 156, 157, 21, 20, 158, 159, 160, 161, 162, 163, 164, 15, 165, 33, 37, 41, 45, 47, 166, 167, 168, 169, 48, 49, 50, 51, 52, 170, 171, 172, 36, 173, 56, 57, 174, 58, 59, 60, 61, 62, 63, 64, 65, 66, 67, 175, 176, 177, 40, 178, 71, 72, 179, 73, 74, 180, 181, 182, 44, 183, 78, 79, 184, 80, 81, 83, 84, 85, 86, 1454, 1455, 1456, 1457, 1458, 1459, 1460, 1461, 1478, 1479, 1480, 1481, 1482, 1483, 1484, 1485, 1486, 1487, 1499, 1500, 1501, 1502, 1503, 1504, 1505, 1506, 1507, 1508, 1509, 1510, 1511, 1512, 1513, 1514, 1515, 1516, 1517, 1518, 1519, 1520, 1521, 1522] (by decide +kernel) (by decide +kernel)) (goodIn_sub (fun _ h => List.mem_append_left _ (List.mem_append_left _ (List.mem_append_right _ h))) (by decide +kernel))) (goodIn_sub (fun _ h => List.mem_append_left _ (List.mem_append_right _ h)) (by decide +kernel))) (goodIn_sub (fun _ h => List.mem_append_right _ h) (by decide +kernel))
set_option maxRecDepth 20000 in
theorem gL_law_L_restoreSnapshot : GoodIn wsL_law (va_wsS RL 196 yL_restoreSnapshot wsL_restoreSnapshot) := goodIn_app (goodIn_of _ (by decide +kernel)) ggL_law_L_restoreSnapshot
set_option maxRecDepth 20000 in
theorem ggL_law_X7_restoreSnapshot : GoodIn wsL_law wsX7_restoreSnapshot := goodIn_r _ [997, 199, 986, 109, 111, 215, 216, 217, 5, 218, 219, 220, 221, 222, 223, 110, 224, 225, 226, 1462, 1463, 1464, 1465, 1466, 1467, 1468, 1469, 1470, 1471, 1472, 1473, 1474, 1475, 1476, 1477] (by decide +kernel) (by decide +kernel)
set_option maxRecDepth 20000 in
theorem gL_law_X7_restoreSnapshot : GoodIn wsL_law (wsV RL 198 RX7 yX7_restoreSnapshot wsX7_restoreSnapshot) := goodIn_app (goodIn_of _ (by decide +kernel)) ggL_law_X7_restoreSnapshot
set_option maxRecDepth 20000 in
theorem ggL_law_X6_singers : GoodIn wsL_law wsX6_singers := goodIn_r _ [1001, 16, 1002, 1003, 1454, 1455, 1456, 1457, 1458, 1459, 1460, 1461, 1478, 1479, 1480, 1481, 1482, 1483, 1484, 1485, 1486, 1487, 1499, 1500, 1501, 1502, 1503, 1504, 1505, 1506, 1507, 1508, 1509, 1510] (by decide +kernel) (by decide +kernel)
set_option maxRecDepth 20000 in
theorem gL_law_X6_singers : GoodIn wsL_law (wsV RL 199 RX6 yX6_singers wsX6_singers) := goodIn_app (goodIn_of _ (by decide +kernel)) ggL_law_X6_singers
set_option maxRecDepth 20000 in
theorem ggL_law_X7_singers : GoodIn wsL_law wsX7_singers := goodIn_r _ [1007, 199, 109, 1462, 1463, 1464, 1465, 1466, 1467, 1468, 1469, 1470, 1471, 1472, 1473, 1474, 1475, 1476, 1477] (by decide +kernel) (by decide +kernel)
set_option maxRecDepth 20000 in
theorem gL_law_X7_singers : GoodIn wsL_law (wsV RL 202 RX7 yX7_singers wsX7_singers) := goodIn_app (goodIn_of _ (by decide +kernel)) ggL_law_X7_singers
set_option maxRecDepth 20000 in
theorem ggL_law_L_isInChoir : GoodIn wsL_law wsL_isInChoir := goodIn_ca (goodIn_ca (goodIn_ca (goodIn_r _ [1010, 246, 1011, 1012, 1013, 2, 1014, 16, 1002, 981, 1015, 1016, 1017, 1018, 1019, 256, 257, 36, 258, 56, 145, 146, 147, 148, 149, 150, 151, 152, 153, 1020, 260, 261, 262, 64, 1454, 1455, 1456, 1457, 1458, 1459, 1460, 1461, 1478, 1479, 1480, 1481, 1482, 1483, 1484, 1485, 1486, 1487, 1499, 1500, 1501, 1502, 1503, 1504, 1505, 1506, 1507, 1508, 1509, 1510] (by decide +kernel) (by decide +kernel)) (goodIn_sub (fun _ h => List.mem_append_left _ (List.mem_append_left _ (List.mem_append_right _ h))) (by decide +kernel))) (goodIn_sub (fun _ h => List.mem_append_left _ (List.mem_append_right _ h)) (by decide +kernel))) (goodIn_sub (fun _ h => List.mem_append_right _ h) (by decide +kernel))
set_option maxRecDepth 20000 in
theorem gL_law_L_isInChoir : GoodIn wsL_law (va_wsS RL 203 yL_isInChoir wsL_isInChoir) := goodIn_app (goodIn_of _ (by decide +kernel)) ggL_law_L_isInChoir
set_option maxRecDepth 20000 in
theorem ggL_law_X7_isInChoir : GoodIn wsL_law wsX7_isInChoir := goodIn_r _ [1024, 199, 277, 278, 279, 5, 280, 109, 203, 204, 205, 281, 282, 283, 284, 215, 216, 217, 218, 1462, 1463, 1464, 1465, 1466, 1467, 1468, 1469, 1470, 1471, 1472, 1473, 1474, 1475, 1476, 1477] (by decide +kernel) (by decide +kernel)
set_option maxRecDepth 20000 in
theorem gL_law_X7_isInChoir : GoodIn wsL_law (wsV RL 205 RX7 yX7_isInChoir wsX7_isInChoir) := goodIn_app (goodIn_of _ (by decide +kernel)) ggL_law_X7_isInChoir
set_option maxRecDepth 20000 in
theorem ggL_law_L_ageOf : GoodIn wsL_law wsL_ageOf := goodIn_ca (goodIn_ca (goodIn_ca (goodIn_r _ [1027, 246, 1028, 1029, 1030, 2, 1031, 16, 981, 1002, 1032, 1015, 1016, 1017, 1018, 1019, 256, 257, 36, 258, 56, 145, 146, 147, 148, 149, 150, 151, 152, 153, 1454, 1455, 1456, 1457, 1458, 1459, 1460, 1461, 1478, 1479, 1480, 1481, 1482, 1483, 1484, 1485, 1486, 1487, 1499, 1500, 1501, 1502, 1503, 1504, 1505, 1506, 1507, 1508, 1509, 1510] (by decide +kernel) (by decide +kernel)) (goodIn_sub (fun _ h => List.mem_append_left _ (List.mem_append_left _ (List.mem_append_right _ h))) (by decide +kernel))) (goodIn_sub (fun _ h => List.mem_append_left _ (List.mem_append_right _ h)) (by decide +kernel))) (goodIn_sub (fun _ h => List.mem_append_right _ h) (by decide +kernel))
set_option maxRecDepth 20000 in
theorem gL_law_L_ageOf : GoodIn wsL_law (va_wsS RL 206 yL_ageOf wsL_ageOf) := goodIn_app (goodIn_of _ (by decide +kernel)) ggL_law_L_ageOf
set_option maxRecDepth 20000 in
theorem ggL_law_X7_ageOf : GoodIn wsL_law wsX7_ageOf := goodIn_r _ [1036, 199, 109, 277, 278, 279, 5, 280, 203, 204, 205, 281, 282, 283, 284, 215, 216, 217, 218, 1462, 1463, 1464, 1465, 1466, 1467, 1468, 1469, 1470, 1471, 1472, 1473, 1474, 1475, 1476, 1477] (by decide +kernel) (by decide +kernel)
set_option maxRecDepth 20000 in
theorem gL_law_X7_ageOf : GoodIn wsL_law (wsV RL 208 RX7 yX7_ageOf wsX7_ageOf) := goodIn_app (goodIn_of _ (by decide +kernel)) ggL_law_X7_ageOf
set_option maxRecDepth 20000 in
theorem ggL_law_L_lowestNoteOf : GoodIn wsL_law wsL_lowestNoteOf := goodIn_ca (goodIn_ca (goodIn_ca (goodIn_r _ [1039, 246, 1040, 1041, 1042, 2, 1043, 16, 1002, 981, 1044, 1015, 1016, 1017, 1018, 1019, 256, 257, 36, 258, 56, 145, 146, 147, 148, 149, 150, 151, 152, 153, 1045, 556, 557, 558, 61, 1454, 1455, 1456, 1457, 1458, 1459, 1460, 1461, 1478, 1479, 1480, 1481, 1482, 1483, 1484, 1485, 1486, 1487, 1499, 1500, 1501, 1502, 1503, 1504, 1505, 1506, 1507, 1508, 1509, 1510] (by decide +kernel) (by decide +kernel)) (goodIn_sub (fun _ h => List.mem_append_left _ (List.mem_append_left _ (List.mem_append_right _ h))) (by decide +kernel))) (goodIn_sub (fun _ h => List.mem_append_left _ (List.mem_append_right _ h)) (by decide +kernel))) (goodIn_sub (fun _ h => List.mem_append_right _ h) (by decide +kernel))
set_option maxRecDepth 20000 in
theorem gL_law_L_lowestNoteOf : GoodIn wsL_law (va_wsS RL 209 yL_lowestNoteOf wsL_lowestNoteOf) := goodIn_app (goodIn_of _ (by decide +kernel)) ggL_law_L_lowestNoteOf
set_option maxRecDepth 20000 in
theorem ggL_law_X7_lowestNoteOf : GoodIn wsL_law wsX7_lowestNoteOf := goodIn_r _ [1049, 199, 109, 277, 278, 279, 5, 280, 203, 204, 205, 661, 662, 663, 664, 281, 282, 283, 284, 665, 666, 667, 668, 215, 216, 217, 218, 1462, 1463, 1464, 1465, 1466, 1467, 1468, 1469, 1470, 1471, 1472, 1473, 1474, 1475, 1476, 1477] (by decide +kernel) (by decide +kernel)
set_option maxRecDepth 20000 in
theorem gL_law_X7_lowestNoteOf : GoodIn wsL_law (wsV RL 211 RX7 yX7_lowestNoteOf wsX7_lowestNoteOf) := goodIn_app (goodIn_of _ (by decide +kernel)) ggL_law_X7_lowestNoteOf
set_option maxRecDepth 20000 in
theorem ggL_law_L_highestNoteOf : GoodIn wsL_law wsL_highestNoteOf := goodIn_ca (goodIn_ca (goodIn_ca (goodIn_r _ [1052, 246, 1053, 1054, 1055, 2, 1056, 16, 1002, 981, 1057, 1015, 1016, 1017, 1018, 1019, 256, 257, 36, 258, 56, 145, 146, 147, 148, 149, 150, 151, 152, 153, 1045, 556, 557, 558, 61, 1454, 1455, 1456, 1457, 1458, 1459, 1460, 1461, 1478, 1479, 1480, 1481, 1482, 1483, 1484, 1485, 1486, 1487, 1499, 1500, 1501, 1502, 1503, 1504, 1505, 1506, 1507, 1508, 1509, 1510] (by decide +kernel) (by decide +kernel)) (goodIn_sub (fun _ h => List.mem_append_left _ (List.mem_append_left _ (List.mem_append_right _ h))) (by decide +kernel))) (goodIn_sub (fun _ h => List.mem_append_left _ (List.mem_append_right _ h)) (by decide +kernel))) (goodIn_sub (fun _ h => List.mem_append_right _ h) (by decide +kernel))
set_option maxRecDepth 20000 in
theorem gL_law_L_highestNoteOf : GoodIn wsL_law (va_wsS RL 212 yL_highestNoteOf wsL_highestNoteOf) := goodIn_app (goodIn_of _ (by decide +kernel)) ggL_law_L_highestNoteOf
set_option maxRecDepth 20000 in
theorem ggL_law_X7_highestNoteOf : GoodIn wsL_law wsX7_highestNoteOf := goodIn_r _ [1061, 199, 109, 277, 278, 279, 5, 280, 203, 204, 205, 661, 662, 663, 664, 281, 282, 283, 284, 665, 666, 667, 668, 215, 216, 217, 218, 1462, 1463, 1464, 1465, 1466, 1467, 1468, 1469, 1470, 1471, 1472, 1473, 1474, 1475, 1476, 1477] (by decide +kernel) (by decide +kernel)
set_option maxRecDepth 20000 in
theorem gL_law_X7_highestNoteOf : GoodIn wsL_law (wsV RL 214 RX7 yX7_highestNoteOf wsX7_highestNoteOf) := goodIn_app (goodIn_of _ (by decide +kernel)) ggL_law_X7_highestNoteOf
set_option maxRecDepth 20000 in
theorem ggL_law_L_breakDayOf : GoodIn wsL_law wsL_breakDayOf := goodIn_ca (goodIn_ca (goodIn_ca (goodIn_r _ [1064, 246, 1065, 1066, 1067, 2, 1068, 16, 1002, 1069, 1015, 1016, 1017, 1018, 1019, 256, 257, 36, 258, 56, 145, 146, 147, 148, 149, 150, 151, 152, 153, 1454, 1455, 1456, 1457, 1458, 1459, 1460, 1461, 1478, 1479, 1480, 1481, 1482, 1483, 1484, 1485, 1486, 1487, 1499, 1500, 1501, 1502, 1503, 1504, 1505, 1506, 1507, 1508, 1509, 1510] (by decide +kernel) (by decide +kernel)) (goodIn_sub (fun _ h => List.mem_append_left _ (List.mem_append_left _ (List.mem_append_right _ h))) (by decide +kernel))) (goodIn_sub (fun _ h => List.mem_append_left _ (List.mem_append_right _ h)) (by decide +kernel))) (goodIn_sub (fun _ h => List.mem_append_right _ h) (by decide +kernel))
set_option maxRecDepth 20000 in
theorem gL_law_L_breakDayOf : GoodIn wsL_law (va_wsS RL 215 yL_breakDayOf wsL_breakDayOf) := goodIn_app (goodIn_of _ (by decide +kernel)) ggL_law_L_breakDayOf
set_option maxRecDepth 20000 in
theorem ggL_law_X7_breakDayOf : GoodIn wsL_law wsX7_breakDayOf := goodIn_r _ [1073, 199, 277, 278, 279, 5, 280, 109, 203, 204, 205, 281, 282, 283, 284, 215, 216, 217, 218, 1462, 1463, 1464, 1465, 1466, 1467, 1468, 1469, 1470, 1471, 1472, 1473, 1474, 1475, 1476, 1477] (by decide +kernel) (by decide +kernel)
set_option maxRecDepth 20000 in
theorem gL_law_X7_breakDayOf : GoodIn wsL_law (wsV RL 217 RX7 yX7_breakDayOf wsX7_breakDayOf) := goodIn_app (goodIn_of _ (by decide +kernel)) ggL_law_X7_breakDayOf
set_option maxRecDepth 20000 in
theorem ggL_law_X6_nextToBreak : GoodIn wsL_law wsX6_nextToBreak := goodIn_r _ [1077, 16, 1002, 981, 1078, 1079, 1080, 36, 1081, 56, 61, 272, 260, 261, 262, 64, 1454, 1455, 1456, 1457, 1458, 1459, 1460, 1461, 1478, 1479, 1480, 1481, 1482, 1483, 1484, 1485, 1486, 1487, 1499, 1500, 1501, 1502, 1503, 1504, 1505, 1506, 1507, 1508, 1509, 1510] (by decide +kernel) (by decide +kernel)
set_option maxRecDepth 20000 in
theorem gL_law_X6_nextToBreak : GoodIn wsL_law (wsV RL 218 RX6 yX6_nextToBreak wsX6_nextToBreak) := goodIn_app (goodIn_of _ (by decide +kernel)) ggL_law_X6_nextToBreak
set_option maxRecDepth 20000 in
theorem ggL_law_X7_nextToBreak : GoodIn wsL_law wsX7_nextToBreak := goodIn_r _ [1085, 199, 109, 281, 282, 283, 5, 284, 1462, 1463, 1464, 1465, 1466, 1467, 1468, 1469, 1470, 1471, 1472, 1473, 1474, 1475, 1476, 1477] (by decide +kernel) (by decide +kernel)
set_option maxRecDepth 20000 in
theorem gL_law_X7_nextToBreak : GoodIn wsL_law (wsV RL 221 RX7 yX7_nextToBreak wsX7_nextToBreak) := goodIn_app (goodIn_of _ (by decide +kernel)) ggL_law_X7_nextToBreak
set_option maxRecDepth 20000 in
theorem ggL_law_L_choirOf : GoodIn wsL_law wsL_choirOf := goodIn_ca (goodIn_ca (goodIn_ca (goodIn_r _ [1088, 246, 1089, 1090, 1091, 2, 1092, 16, 1002, 1093, 1015, 1016, 1017, 1018, 1019, 256, 257, 36, 258, 56, 145, 146, 147, 148, 149, 150, 151, 152, 153, 1454, 1455, 1456, 1457, 1458, 1459, 1460, 1461, 1478, 1479, 1480, 1481, 1482, 1483, 1484, 1485, 1486, 1487, 1499, 1500, 1501, 1502, 1503, 1504, 1505, 1506, 1507, 1508, 1509, 1510] (by decide +kernel) (by decide +kernel)) (goodIn_sub (fun _ h => List.mem_append_left _ (List.mem_append_left _ (List.mem_append_right _ h))) (by decide +kernel))) (goodIn_sub (fun _ h => List.mem_append_left _ (List.mem_append_right _ h)) (by decide +kernel))) (goodIn_sub (fun _ h => List.mem_append_right _ h) (by decide +kernel))
set_option maxRecDepth 20000 in
theorem gL_law_L_choirOf : GoodIn wsL_law (va_wsS RL 222 yL_choirOf wsL_choirOf) := goodIn_app (goodIn_of _ (by decide +kernel)) ggL_law_L_choirOf
set_option maxRecDepth 20000 in
theorem ggL_law_X7_choirOf : GoodIn wsL_law wsX7_choirOf := goodIn_r _ [1097, 199, 277, 278, 279, 5, 280, 109, 203, 204, 205, 281, 282, 283, 284, 215, 216, 217, 218, 1462, 1463, 1464, 1465, 1466, 1467, 1468, 1469, 1470, 1471, 1472, 1473, 1474, 1475, 1476, 1477] (by decide +kernel) (by decide +kernel)
set_option maxRecDepth 20000 in
theorem gL_law_X7_choirOf : GoodIn wsL_law (wsV RL 224 RX7 yX7_choirOf wsX7_choirOf) := goodIn_app (goodIn_of _ (by decide +kernel)) ggL_law_X7_choirOf
set_option maxRecDepth 20000 in
theorem ggL_law_L_awayUntil : GoodIn wsL_law wsL_awayUntil := goodIn_ca (goodIn_ca (goodIn_ca (goodIn_r _ [1100, 246, 1101, 1102, 1103, 2, 1104, 16, 1002, 981, 1105, 1015, 1016, 1017, 1018, 1019, 256, 257, 36, 258, 56, 145, 146, 147, 148, 149, 150, 151, 152, 153, 1106, 329, 330, 331, 65, 1454, 1455, 1456, 1457, 1458, 1459, 1460, 1461, 1478, 1479, 1480, 1481, 1482, 1483, 1484, 1485, 1486, 1487, 1499, 1500, 1501, 1502, 1503, 1504, 1505, 1506, 1507, 1508, 1509, 1510] (by decide +kernel) (by decide +kernel)) (goodIn_sub (fun _ h => List.mem_append_left _ (List.mem_append_left _ (List.mem_append_right _ h))) (by decide +kernel))) (goodIn_sub (fun _ h => List.mem_append_left _ (List.mem_append_right _ h)) (by decide +kernel))) (goodIn_sub (fun _ h => List.mem_append_right _ h) (by decide +kernel))
set_option maxRecDepth 20000 in
theorem gL_law_L_awayUntil : GoodIn wsL_law (va_wsS RL 225 yL_awayUntil wsL_awayUntil) := goodIn_app (goodIn_of _ (by decide +kernel)) ggL_law_L_awayUntil
set_option maxRecDepth 20000 in
theorem ggL_law_X7_awayUntil : GoodIn wsL_law wsX7_awayUntil := goodIn_r _ [1110, 199, 109, 277, 278, 279, 5, 280, 203, 204, 205, 215, 216, 217, 218, 281, 282, 283, 284, 1462, 1463, 1464, 1465, 1466, 1467, 1468, 1469, 1470, 1471, 1472, 1473, 1474, 1475, 1476, 1477] (by decide +kernel) (by decide +kernel)
set_option maxRecDepth 20000 in
theorem gL_law_X7_awayUntil : GoodIn wsL_law (wsV RL 227 RX7 yX7_awayUntil wsX7_awayUntil) := goodIn_app (goodIn_of _ (by decide +kernel)) ggL_law_X7_awayUntil
set_option maxRecDepth 20000 in
theorem ggL_law_L_isExcused : GoodIn wsL_law wsL_isExcused := goodIn_ca (goodIn_ca (goodIn_ca (goodIn_r _ [1113, 246, 123, 1114, 1115, 1116, 2, 1117, 16, 1118, 1015, 1016, 1017, 1018, 1002, 1019, 256, 257, 36, 258, 56, 145, 146, 147, 148, 149, 150, 151, 152, 153, 137, 133, 134, 1119, 365, 366, 40, 367, 71, 72, 73, 74, 1454, 1455, 1456, 1457, 1458, 1459, 1460, 1461, 1478, 1479, 1480, 1481, 1482, 1483, 1484, 1485, 1486, 1487, 1499, 1500, 1501, 1502, 1503, 1504, 1505, 1506, 1507, 1508, 1509, 1510, 1511, 1512, 1513, 1514] (by decide +kernel) (by decide +kernel)) (goodIn_sub (fun _ h => List.mem_append_left _ (List.mem_append_left _ (List.mem_append_right _ h))) (by decide +kernel))) (goodIn_sub (fun _ h => List.mem_append_left _ (List.mem_append_right _ h)) (by decide +kernel))) (goodIn_sub (fun _ h => List.mem_append_right _ h) (by decide +kernel))
set_option maxRecDepth 20000 in
theorem gL_law_L_isExcused : GoodIn wsL_law (va_wsS RL 228 yL_isExcused wsL_isExcused) := goodIn_app (goodIn_of _ (by decide +kernel)) ggL_law_L_isExcused
set_option maxRecDepth 20000 in
theorem ggL_law_X7_isExcused : GoodIn wsL_law wsX7_isExcused := goodIn_r _ [1123, 199, 277, 278, 279, 5, 280, 109, 203, 204, 205, 215, 216, 217, 218, 388, 389, 390, 391, 1462, 1463, 1464, 1465, 1466, 1467, 1468, 1469, 1470, 1471, 1472, 1473, 1474, 1475, 1476, 1477] (by decide +kernel) (by decide +kernel)
set_option maxRecDepth 20000 in
theorem gL_law_X7_isExcused : GoodIn wsL_law (wsV RL 230 RX7 yX7_isExcused wsX7_isExcused) := goodIn_app (goodIn_of _ (by decide +kernel)) ggL_law_X7_isExcused
set_option maxRecDepth 20000 in
theorem ggL_law_L_feastsOf : GoodIn wsL_law wsL_feastsOf := goodIn_ca (goodIn_ca (goodIn_ca (goodIn_r _ [1126, 246, 1127, 1128, 1129, 2, 1130, 16, 1002, 1131, 1015, 1016, 1017, 1018, 1019, 256, 257, 36, 258, 56, 145, 146, 147, 148, 149, 150, 151, 152, 153, 1454, 1455, 1456, 1457, 1458, 1459, 1460, 1461, 1478, 1479, 1480, 1481, 1482, 1483, 1484, 1485, 1486, 1487, 1499, 1500, 1501, 1502, 1503, 1504, 1505, 1506, 1507, 1508, 1509, 1510] (by decide +kernel) (by decide +kernel)) (goodIn_sub (fun _ h => List.mem_append_left _ (List.mem_append_left _ (List.mem_append_right _ h))) (by decide +kernel))) (goodIn_sub (fun _ h => List.mem_append_left _ (List.mem_append_right _ h)) (by decide +kernel))) (goodIn_sub (fun _ h => List.mem_append_right _ h) (by decide +kernel))
set_option maxRecDepth 20000 in
theorem gL_law_L_feastsOf : GoodIn wsL_law (va_wsS RL 231 yL_feastsOf wsL_feastsOf) := goodIn_app (goodIn_of _ (by decide +kernel)) ggL_law_L_feastsOf
set_option maxRecDepth 20000 in
theorem ggL_law_X7_feastsOf : GoodIn wsL_law wsX7_feastsOf := goodIn_r _ [1135, 199, 277, 278, 279, 5, 280, 109, 203, 204, 205, 281, 282, 283, 284, 215, 216, 217, 218, 1462, 1463, 1464, 1465, 1466, 1467, 1468, 1469, 1470, 1471, 1472, 1473, 1474, 1475, 1476, 1477] (by decide +kernel) (by decide +kernel)
set_option maxRecDepth 20000 in
theorem gL_law_X7_feastsOf : GoodIn wsL_law (wsV RL 233 RX7 yX7_feastsOf wsX7_feastsOf) := goodIn_app (goodIn_of _ (by decide +kernel)) ggL_law_X7_feastsOf
set_option maxRecDepth 20000 in
theorem ggL_law_L_descantsOf : GoodIn wsL_law wsL_descantsOf := goodIn_ca (goodIn_ca (goodIn_ca (goodIn_r _ [1138, 246, 1139, 1140, 1141, 2, 1142, 16, 1002, 1143, 1015, 1016, 1017, 1018, 1019, 256, 257, 36, 258, 56, 145, 146, 147, 148, 149, 150, 151, 152, 153, 1454, 1455, 1456, 1457, 1458, 1459, 1460, 1461, 1478, 1479, 1480, 1481, 1482, 1483, 1484, 1485, 1486, 1487, 1499, 1500, 1501, 1502, 1503, 1504, 1505, 1506, 1507, 1508, 1509, 1510] (by decide +kernel) (by decide +kernel)) (goodIn_sub (fun _ h => List.mem_append_left _ (List.mem_append_left _ (List.mem_append_right _ h))) (by decide +kernel))) (goodIn_sub (fun _ h => List.mem_append_left _ (List.mem_append_right _ h)) (by decide +kernel))) (goodIn_sub (fun _ h => List.mem_append_right _ h) (by decide +kernel))
set_option maxRecDepth 20000 in
theorem gL_law_L_descantsOf : GoodIn wsL_law (va_wsS RL 234 yL_descantsOf wsL_descantsOf) := goodIn_app (goodIn_of _ (by decide +kernel)) ggL_law_L_descantsOf
set_option maxRecDepth 20000 in
theorem ggL_law_X7_descantsOf : GoodIn wsL_law wsX7_descantsOf := goodIn_r _ [1147, 199, 277, 278, 279, 5, 280, 109, 203, 204, 205, 281, 282, 283, 284, 215, 216, 217, 218, 1462, 1463, 1464, 1465, 1466, 1467, 1468, 1469, 1470, 1471, 1472, 1473, 1474, 1475, 1476, 1477] (by decide +kernel) (by decide +kernel)
set_option maxRecDepth 20000 in
theorem gL_law_X7_descantsOf : GoodIn wsL_law (wsV RL 236 RX7 yX7_descantsOf wsX7_descantsOf) := goodIn_app (goodIn_of _ (by decide +kernel)) ggL_law_X7_descantsOf
set_option maxRecDepth 20000 in
theorem ggL_law_X6_feasts : GoodIn wsL_law wsX6_feasts := goodIn_r _ [1151, 16, 1152, 1153, 1454, 1455, 1456, 1457, 1458, 1459, 1460, 1461, 1478, 1479, 1480, 1481, 1482, 1483, 1484, 1485, 1486, 1487, 1515, 1516, 1517, 1518, 1519, 1520, 1521, 1522] (by decide +kernel) (by decide +kernel)
set_option maxRecDepth 20000 in
theorem gL_law_X6_feasts : GoodIn wsL_law (wsV RL 237 RX6 yX6_feasts wsX6_feasts) := goodIn_app (goodIn_of _ (by decide +kernel)) ggL_law_X6_feasts
set_option maxRecDepth 20000 in
theorem ggL_law_X7_feasts : GoodIn wsL_law wsX7_feasts := goodIn_r _ [1157, 199, 109, 1462, 1463, 1464, 1465, 1466, 1467, 1468, 1469, 1470, 1471, 1472, 1473, 1474, 1475, 1476, 1477] (by decide +kernel) (by decide +kernel)
set_option maxRecDepth 20000 in
theorem gL_law_X7_feasts : GoodIn wsL_law (wsV RL 240 RX7 yX7_feasts wsX7_feasts) := goodIn_app (goodIn_of _ (by decide +kernel)) ggL_law_X7_feasts
set_option maxRecDepth 20000 in
theorem ggL_law_L_dayOf : GoodIn wsL_law wsL_dayOf := goodIn_ca (goodIn_ca (goodIn_ca (goodIn_r _ [1160, 246, 1161, 1162, 1163, 2, 1164, 16, 1152, 1165, 1166, 1167, 1168, 1169, 1170, 460, 461, 44, 462, 78, 145, 146, 147, 148, 149, 150, 151, 152, 153, 1454, 1455, 1456, 1457, 1458, 1459, 1460, 1461, 1478, 1479, 1480, 1481, 1482, 1483, 1484, 1485, 1486, 1487, 1515, 1516, 1517, 1518, 1519, 1520, 1521, 1522] (by decide +kernel) (by decide +kernel)) (goodIn_sub (fun _ h => List.mem_append_left _ (List.mem_append_left _ (List.mem_append_right _ h))) (by decide +kernel))) (goodIn_sub (fun _ h => List.mem_append_left _ (List.mem_append_right _ h)) (by decide +kernel))) (goodIn_sub (fun _ h => List.mem_append_right _ h) (by decide +kernel))
set_option maxRecDepth 20000 in
theorem gL_law_L_dayOf : GoodIn wsL_law (va_wsS RL 241 yL_dayOf wsL_dayOf) := goodIn_app (goodIn_of _ (by decide +kernel)) ggL_law_L_dayOf
set_option maxRecDepth 20000 in
theorem ggL_law_X7_dayOf : GoodIn wsL_law wsX7_dayOf := goodIn_r _ [1174, 199, 485, 486, 487, 5, 488, 109, 203, 204, 205, 440, 441, 442, 443, 215, 216, 217, 218, 1462, 1463, 1464, 1465, 1466, 1467, 1468, 1469, 1470, 1471, 1472, 1473, 1474, 1475, 1476, 1477] (by decide +kernel) (by decide +kernel)
set_option maxRecDepth 20000 in
theorem gL_law_X7_dayOf : GoodIn wsL_law (wsV RL 243 RX7 yX7_dayOf wsX7_dayOf) := goodIn_app (goodIn_of _ (by decide +kernel)) ggL_law_X7_dayOf
set_option maxRecDepth 20000 in
theorem ggL_law_L_isHeld : GoodIn wsL_law wsL_isHeld := goodIn_ca (goodIn_ca (goodIn_ca (goodIn_r _ [1177, 246, 1178, 1179, 1180, 2, 1181, 16, 1166, 1167, 1168, 1169, 1152, 1170, 460, 461, 44, 462, 78, 145, 146, 147, 148, 149, 150, 151, 152, 153, 1182, 466, 467, 15, 468, 45, 469, 33, 1454, 1455, 1456, 1457, 1458, 1459, 1460, 1461, 1478, 1479, 1480, 1481, 1482, 1483, 1484, 1485, 1486, 1487, 1515, 1516, 1517, 1518, 1519, 1520, 1521, 1522] (by decide +kernel) (by decide +kernel)) (goodIn_sub (fun _ h => List.mem_append_left _ (List.mem_append_left _ (List.mem_append_right _ h))) (by decide +kernel))) (goodIn_sub (fun _ h => List.mem_append_left _ (List.mem_append_right _ h)) (by decide +kernel))) (goodIn_sub (fun _ h => List.mem_append_right _ h) (by decide +kernel))
set_option maxRecDepth 20000 in
theorem gL_law_L_isHeld : GoodIn wsL_law (va_wsS RL 244 yL_isHeld wsL_isHeld) := goodIn_app (goodIn_of _ (by decide +kernel)) ggL_law_L_isHeld
set_option maxRecDepth 20000 in
theorem ggL_law_X7_isHeld : GoodIn wsL_law wsX7_isHeld := goodIn_r _ [1186, 199, 485, 486, 487, 5, 488, 109, 203, 204, 205, 492, 493, 494, 495, 440, 441, 442, 443, 215, 216, 217, 218, 1462, 1463, 1464, 1465, 1466, 1467, 1468, 1469, 1470, 1471, 1472, 1473, 1474, 1475, 1476, 1477] (by decide +kernel) (by decide +kernel)
set_option maxRecDepth 20000 in
theorem gL_law_X7_isHeld : GoodIn wsL_law (wsV RL 246 RX7 yX7_isHeld wsX7_isHeld) := goodIn_app (goodIn_of _ (by decide +kernel)) ggL_law_X7_isHeld
set_option maxRecDepth 20000 in
theorem ggL_law_L_placesIn : GoodIn wsL_law wsL_placesIn := goodIn_ca (goodIn_ca (goodIn_ca (goodIn_r _ [1189, 246, 1190, 1191, 1192, 2, 1193, 16, 1152, 1194, 1166, 1167, 1168, 1169, 1170, 460, 461, 44, 462, 78, 145, 146, 147, 148, 149, 150, 151, 152, 153, 1195, 1196, 1197, 1198, 463, 464, 137, 133, 134, 1454, 1455, 1456, 1457, 1458, 1459, 1460, 1461, 1478, 1479, 1480, 1481, 1482, 1483, 1484, 1485, 1486, 1487, 1515, 1516, 1517, 1518, 1519, 1520, 1521, 1522] (by decide +kernel) (by decide +kernel)) (goodIn_sub (fun _ h => List.mem_append_left _ (List.mem_append_left _ (List.mem_append_right _ h))) (by decide +kernel))) (goodIn_sub (fun _ h => List.mem_append_left _ (List.mem_append_right _ h)) (by decide +kernel))) (goodIn_sub (fun _ h => List.mem_append_right _ h) (by decide +kernel))
set_option maxRecDepth 20000 in
theorem gL_law_L_placesIn : GoodIn wsL_law (va_wsS RL 247 yL_placesIn wsL_placesIn) := goodIn_app (goodIn_of _ (by decide +kernel)) ggL_law_L_placesIn
set_option maxRecDepth 20000 in
theorem ggL_law_X7_placesIn : GoodIn wsL_law wsX7_placesIn := goodIn_r _ [1202, 199, 485, 486, 487, 5, 488, 109, 203, 204, 205, 489, 490, 491, 504, 505, 506, 507, 215, 216, 217, 218, 1462, 1463, 1464, 1465, 1466, 1467, 1468, 1469, 1470, 1471, 1472, 1473, 1474, 1475, 1476, 1477] (by decide +kernel) (by decide +kernel)
set_option maxRecDepth 20000 in
theorem gL_law_X7_placesIn : GoodIn wsL_law (wsV RL 249 RX7 yX7_placesIn wsX7_placesIn) := goodIn_app (goodIn_of _ (by decide +kernel)) ggL_law_X7_placesIn
set_option maxRecDepth 20000 in
theorem ggL_law_L_whyNot : GoodIn wsL_law wsL_whyNot := goodIn_ca (goodIn_ca (goodIn_ca (goodIn_r _ [1205, 246, 124, 1206, 1207, 1208, 2, 1209, 16, 1152, 1165, 1166, 1167, 1168, 1169, 1170, 460, 461, 44, 462, 78, 145, 146, 147, 148, 149, 150, 151, 152, 153, 1015, 1016, 1017, 1018, 1002, 1019, 256, 257, 36, 258, 56, 1195, 1196, 1197, 1198, 463, 464, 137, 133, 134, 1182, 466, 467, 15, 468, 45, 469, 33, 1210, 542, 543, 544, 37, 41, 259, 260, 261, 262, 64, 328, 329, 330, 331, 65, 364, 365, 366, 40, 367, 71, 72, 73, 74, 545, 546, 547, 548, 61, 1211, 550, 551, 552, 475, 553, 476, 554, 555, 556, 557, 558, 1454, 1455, 1456, 1457, 1458, 1459, 1460, 1461, 1478, 1479, 1480, 1481, 1482, 1483, 1484, 1485, 1486, 1487, 1515, 1516, 1517, 1518, 1519, 1520, 1521, 1522, 1499, 1500, 1501, 1502, 1503, 1504, 1505, 1506, 1507, 1508, 1509, 1510, 1511, 1512, 1513, 1514] (by decide +kernel) (by decide +kernel)) (goodIn_sub (fun _ h => List.mem_append_left _ (List.mem_append_left _ (List.mem_append_right _ h))) (by decide +kernel))) (goodIn_sub (fun _ h => List.mem_append_left _ (List.mem_append_right _ h)) (by decide +kernel))) (goodIn_sub (fun _ h => List.mem_append_right _ h) (by decide +kernel))
set_option maxRecDepth 20000 in
theorem gL_law_L_whyNot : GoodIn wsL_law (va_wsS RL 250 yL_whyNot wsL_whyNot) := goodIn_app (goodIn_of _ (by decide +kernel)) ggL_law_L_whyNot
set_option maxRecDepth 20000 in
theorem ggL_law_X7_whyNot_q1 : GoodIn wsL_law ([Cond.code yX7_whyNot cX7_whyNot 4 (some .int)]) := goodIn_r _ [1215] (by decide +kernel) (by decide +kernel)
set_option maxRecDepth 20000 in
theorem ggL_law_X7_whyNot_q2 : GoodIn wsL_law (wsX7_whyNot_r1) := goodIn_r _ [199, 485, 486, 487, 5, 488, 109, 203, 204, 205, 277, 278, 279, 280, 489, 490, 491, 215, 216, 217, 218, 492, 493, 494] (by decide +kernel) (by decide +kernel)
set_option maxRecDepth 20000 in
theorem ggL_law_X7_whyNot_q3 : GoodIn wsL_law (wsX7_whyNot_r2) := goodIn_r _ [495, 440, 441, 442, 443, 653, 654, 655, 656, 633, 634, 635, 636, 281, 282, 283, 284, 388, 389, 390, 391, 657, 658, 659] (by decide +kernel) (by decide +kernel)
set_option maxRecDepth 20000 in
theorem ggL_law_X7_whyNot_q4 : GoodIn wsL_law (wsX7_whyNot_r3) := goodIn_r _ [660, 661, 662, 663, 664, 665, 666, 667, 668] (by decide +kernel) (by decide +kernel)
set_option maxRecDepth 20000 in
theorem ggL_law_X7_whyNot_q5 : GoodIn wsL_law (wsX70) := goodIn_r _ [1462, 1463, 1464, 1465, 1466, 1467, 1468, 1469, 1470, 1471, 1472, 1473, 1474, 1475, 1476, 1477] (by decide +kernel) (by decide +kernel)
theorem ggL_law_X7_whyNot : GoodIn wsL_law wsX7_whyNot := (goodIn_app (a := [Cond.code yX7_whyNot cX7_whyNot 4 (some .int)]) ggL_law_X7_whyNot_q1 (goodIn_app (goodIn_app ggL_law_X7_whyNot_q2 (goodIn_app ggL_law_X7_whyNot_q3 ggL_law_X7_whyNot_q4)) ggL_law_X7_whyNot_q5))
set_option maxRecDepth 20000 in
theorem gL_law_X7_whyNot : GoodIn wsL_law (wsV RL 252 RX7 yX7_whyNot wsX7_whyNot) := goodIn_app (goodIn_of _ (by decide +kernel)) ggL_law_X7_whyNot
set_option maxRecDepth 20000 in
theorem ggL_law_L_lineOf : GoodIn wsL_law wsL_lineOf := goodIn_ca (goodIn_ca (goodIn_ca (goodIn_r _ [1218, 246, 1219, 1220, 1221, 2, 1222, 29, 16, 1223, 1166, 1167, 1168, 1169, 1152, 1170, 460, 461, 44, 462, 78, 145, 146, 147, 148, 149, 150, 151, 152, 153, 1015, 1016, 1017, 1018, 1002, 1019, 256, 257, 36, 258, 56, 1224, 1225, 1226, 28, 1227, 531, 1228, 100, 533, 167, 168, 169, 1229, 466, 467, 15, 468, 45, 469, 33, 1230, 528, 529, 530, 532, 102, 534, 535, 101, 536, 537, 538, 539, 540, 541, 542, 543, 544, 37, 41, 259, 260, 261, 262, 64, 328, 329, 330, 331, 65, 364, 365, 366, 40, 367, 71, 72, 73, 74, 545, 546, 547, 548, 61, 549, 550, 551, 552, 475, 553, 476, 554, 555, 556, 557, 558, 559, 425, 426, 427, 560, 561, 562, 563, 103, 564, 565, 566, 567, 568, 569, 570, 571, 572, 573, 574, 575, 576, 577, 578, 579, 580, 581, 582, 583, 584, 585, 586, 587, 588, 589, 1454, 1455, 1456, 1457, 1458, 1459, 1460, 1461, 1494, 1495, 1496, 1497, 1498, 1478, 1479, 1480, 1481, 1482, 1483, 1484, 1485, 1486, 1487, 1515, 1516, 1517, 1518, 1519, 1520, 1521, 1522, 1499, 1500, 1501, 1502, 1503, 1504, 1505, 1506, 1507, 1508, 1509, 1510, 1511, 1512, 1513, 1514] (by decide +kernel) (by decide +kernel)) (goodIn_sub (fun _ h => List.mem_append_left _ (List.mem_append_left _ (List.mem_append_right _ h))) (by decide +kernel))) (goodIn_sub (fun _ h => List.mem_append_left _ (List.mem_append_right _ h)) (by decide +kernel))) (goodIn_sub (fun _ h => List.mem_append_right _ h) (by decide +kernel))
set_option maxRecDepth 20000 in
theorem gL_law_L_lineOf : GoodIn wsL_law (va_wsS RL 253 yL_lineOf wsL_lineOf) := goodIn_app (goodIn_of _ (by decide +kernel)) ggL_law_L_lineOf
set_option maxRecDepth 20000 in
theorem ggL_law_X7_lineOf_q1 : GoodIn wsL_law ([Cond.code yX7_lineOf cX7_lineOf 3 (some .int)]) := goodIn_r _ [1234] (by decide +kernel) (by decide +kernel)
set_option maxRecDepth 20000 in
theorem ggL_law_X7_lineOf_q2 : GoodIn wsL_law (wsX7_lineOf_r1) := goodIn_r _ [199, 113, 485, 486, 487, 5, 488, 109, 203, 204, 205, 277, 278, 279, 280, 215, 216, 217, 218, 1235, 1236, 1237, 1238, 492] (by decide +kernel) (by decide +kernel)
set_option maxRecDepth 20000 in
theorem ggL_law_X7_lineOf_q3 : GoodIn wsL_law (wsX7_lineOf_r2) := goodIn_r _ [493, 494, 495, 440, 441, 442, 443, 641, 642, 643, 644, 115, 114, 645, 646, 647, 648, 504, 505, 506, 507, 649, 650, 651] (by decide +kernel) (by decide +kernel)
set_option maxRecDepth 20000 in
theorem ggL_law_X7_lineOf_q4 : GoodIn wsL_law (wsX7_lineOf_r3) := goodIn_r _ [652, 653, 654, 655, 656, 633, 634, 635, 636, 281, 282, 283, 284, 388, 389, 390, 391, 657, 658, 659, 660, 661, 662, 663] (by decide +kernel) (by decide +kernel)
set_option maxRecDepth 20000 in
theorem ggL_law_X7_lineOf_q5 : GoodIn wsL_law (wsX7_lineOf_r4) := goodIn_r _ [664, 665, 666, 667, 668, 669, 670, 671, 672, 673, 674, 675, 676, 677, 678, 679, 680] (by decide +kernel) (by decide +kernel)
set_option maxRecDepth 20000 in
theorem ggL_law_X7_lineOf_q6 : GoodIn wsL_law (wsX70) := goodIn_r _ [1462, 1463, 1464, 1465, 1466, 1467, 1468, 1469, 1470, 1471, 1472, 1473, 1474, 1475, 1476, 1477] (by decide +kernel) (by decide +kernel)
theorem ggL_law_X7_lineOf : GoodIn wsL_law wsX7_lineOf := (goodIn_app (a := [Cond.code yX7_lineOf cX7_lineOf 3 (some .int)]) ggL_law_X7_lineOf_q1 (goodIn_app (goodIn_app ggL_law_X7_lineOf_q2 (goodIn_app ggL_law_X7_lineOf_q3 (goodIn_app ggL_law_X7_lineOf_q4 ggL_law_X7_lineOf_q5))) ggL_law_X7_lineOf_q6))
set_option maxRecDepth 20000 in
theorem gL_law_X7_lineOf : GoodIn wsL_law (wsV RL 255 RX7 yX7_lineOf wsX7_lineOf) := goodIn_app (goodIn_of _ (by decide +kernel)) ggL_law_X7_lineOf
set_option maxRecDepth 20000 in
theorem ggL_law_L_singersIn : GoodIn wsL_law wsL_singersIn := goodIn_ca (goodIn_ca (goodIn_ca (goodIn_r _ [1241, 246, 1242, 1243, 1244, 2, 1245, 29, 16, 1166, 1167, 1168, 1169, 1152, 1170, 460, 461, 44, 462, 78, 145, 146, 147, 148, 149, 150, 151, 152, 153, 1195, 1196, 1197, 1198, 463, 464, 137, 133, 134, 1224, 1225, 1226, 28, 1227, 531, 1228, 100, 533, 167, 168, 169, 1229, 466, 467, 15, 468, 45, 469, 33, 1230, 528, 529, 530, 532, 102, 534, 535, 101, 536, 537, 538, 539, 540, 541, 542, 543, 544, 37, 41, 259, 260, 261, 36, 262, 64, 328, 329, 330, 331, 65, 364, 365, 366, 40, 367, 71, 72, 73, 74, 545, 546, 547, 548, 61, 549, 550, 551, 552, 475, 553, 476, 554, 555, 556, 557, 558, 559, 425, 426, 427, 560, 561, 562, 563, 103, 564, 565, 566, 567, 568, 569, 570, 571, 572, 573, 574, 575, 576, 577, 578, 579, 580, 581, 582, 583, 584, 585, 586, 587, 588, 589, 1246, 618, 619, 620, 1454, 1455, 1456, 1457, 1458, 1459, 1460, 1461, 1478, 1479, 1480, 1481, 1482, 1483, 1484, 1485, 1486, 1487, 1515, 1516, 1517, 1518, 1519, 1520, 1521, 1522, 1494, 1495, 1496, 1497, 1498, 1499, 1500, 1501, 1502, 1503, 1504, 1505, 1506, 1507, 1508, 1509, 1510, 1511, 1512, 1513, 1514] (by decide +kernel) (by decide +kernel)) (goodIn_sub (fun _ h => List.mem_append_left _ (List.mem_append_left _ (List.mem_append_right _ h))) (by decide +kernel))) (goodIn_sub (fun _ h => List.mem_append_left _ (List.mem_append_right _ h)) (by decide +kernel))) (goodIn_sub (fun _ h => List.mem_append_right _ h) (by decide +kernel))
set_option maxRecDepth 20000 in
theorem gL_law_L_singersIn : GoodIn wsL_law (va_wsS RL 256 yL_singersIn wsL_singersIn) := goodIn_app (goodIn_of _ (by decide +kernel)) ggL_law_L_singersIn
set_option maxRecDepth 20000 in
theorem ggL_law_X7_singersIn_q1 : GoodIn wsL_law ([Cond.code yX7_singersIn cX7_singersIn 3 (some .int)]) := goodIn_r _ [1250] (by decide +kernel) (by decide +kernel)
set_option maxRecDepth 20000 in
theorem ggL_law_X7_singersIn_q2 : GoodIn wsL_law (wsX7_singersIn_r1) := goodIn_r _ [199, 485, 486, 487, 5, 488, 109, 203, 204, 205, 489, 490, 491, 1251, 1252, 1253, 1254, 113, 1235, 1236, 1237, 1238, 492, 493] (by decide +kernel) (by decide +kernel)
set_option maxRecDepth 20000 in
theorem ggL_law_X7_singersIn_q3 : GoodIn wsL_law (wsX7_singersIn_r2) := goodIn_r _ [494, 495, 440, 441, 442, 443, 641, 642, 643, 644, 115, 114, 645, 646, 647, 648, 504, 505, 506, 507, 649, 650, 651, 652] (by decide +kernel) (by decide +kernel)
set_option maxRecDepth 20000 in
theorem ggL_law_X7_singersIn_q4 : GoodIn wsL_law (wsX7_singersIn_r3) := goodIn_r _ [653, 654, 655, 656, 633, 634, 635, 636, 281, 282, 283, 284, 388, 389, 390, 391, 657, 658, 659, 660, 661, 662, 663, 664] (by decide +kernel) (by decide +kernel)
set_option maxRecDepth 20000 in
theorem ggL_law_X7_singersIn_q5 : GoodIn wsL_law (wsX7_singersIn_r4) := goodIn_r _ [665, 666, 667, 668, 669, 670, 671, 672, 673, 674, 675, 676, 677, 678, 679, 680, 215, 216, 217, 218] (by decide +kernel) (by decide +kernel)
set_option maxRecDepth 20000 in
theorem ggL_law_X7_singersIn_q6 : GoodIn wsL_law (wsX70) := goodIn_r _ [1462, 1463, 1464, 1465, 1466, 1467, 1468, 1469, 1470, 1471, 1472, 1473, 1474, 1475, 1476, 1477] (by decide +kernel) (by decide +kernel)
theorem ggL_law_X7_singersIn : GoodIn wsL_law wsX7_singersIn := (goodIn_app (a := [Cond.code yX7_singersIn cX7_singersIn 3 (some .int)]) ggL_law_X7_singersIn_q1 (goodIn_app (goodIn_app ggL_law_X7_singersIn_q2 (goodIn_app ggL_law_X7_singersIn_q3 (goodIn_app ggL_law_X7_singersIn_q4 ggL_law_X7_singersIn_q5))) ggL_law_X7_singersIn_q6))
set_option maxRecDepth 20000 in
theorem gL_law_X7_singersIn : GoodIn wsL_law (wsV RL 258 RX7 yX7_singersIn wsX7_singersIn) := goodIn_app (goodIn_of _ (by decide +kernel)) ggL_law_X7_singersIn
set_option maxRecDepth 20000 in
theorem ggL_law_L_shortfall : GoodIn wsL_law wsL_shortfall := goodIn_ca (goodIn_ca (goodIn_ca (goodIn_r _ [1257, 246, 1258, 1259, 1260, 2, 1261, 29, 16, 1152, 1166, 1167, 1168, 1169, 1170, 460, 461, 44, 462, 78, 145, 146, 147, 148, 149, 150, 151, 152, 153, 1224, 1225, 1226, 28, 1227, 531, 1228, 100, 533, 167, 168, 169, 1229, 466, 467, 15, 468, 45, 469, 33, 1230, 528, 529, 530, 532, 102, 534, 535, 101, 536, 537, 538, 539, 540, 541, 542, 543, 544, 37, 41, 259, 260, 261, 36, 262, 64, 328, 329, 330, 331, 65, 364, 365, 366, 40, 367, 71, 72, 73, 74, 545, 546, 547, 548, 61, 549, 550, 551, 552, 475, 553, 476, 554, 555, 556, 557, 558, 559, 425, 426, 427, 560, 561, 562, 563, 103, 564, 565, 566, 567, 568, 569, 570, 571, 572, 573, 574, 575, 576, 577, 578, 579, 580, 581, 582, 583, 584, 585, 586, 587, 588, 589, 1262, 478, 479, 480, 83, 1263, 614, 615, 616, 617, 618, 619, 620, 1454, 1455, 1456, 1457, 1458, 1459, 1460, 1461, 1478, 1479, 1480, 1481, 1482, 1483, 1484, 1485, 1486, 1487, 1515, 1516, 1517, 1518, 1519, 1520, 1521, 1522, 1494, 1495, 1496, 1497, 1498, 1499, 1500, 1501, 1502, 1503, 1504, 1505, 1506, 1507, 1508, 1509, 1510, 1511, 1512, 1513, 1514] (by decide +kernel) (by decide +kernel)) (goodIn_sub (fun _ h => List.mem_append_left _ (List.mem_append_left _ (List.mem_append_right _ h))) (by decide +kernel))) (goodIn_sub (fun _ h => List.mem_append_left _ (List.mem_append_right _ h)) (by decide +kernel))) (goodIn_sub (fun _ h => List.mem_append_right _ h) (by decide +kernel))
set_option maxRecDepth 20000 in
theorem gL_law_L_shortfall : GoodIn wsL_law (va_wsS RL 259 yL_shortfall wsL_shortfall) := goodIn_app (goodIn_of _ (by decide +kernel)) ggL_law_L_shortfall
set_option maxRecDepth 20000 in
theorem ggL_law_X7_shortfall_q1 : GoodIn wsL_law ([Cond.code yX7_shortfall cX7_shortfall 2 (some .int)]) := goodIn_r _ [1267] (by decide +kernel) (by decide +kernel)
set_option maxRecDepth 20000 in
theorem ggL_law_X7_shortfall_q2 : GoodIn wsL_law (wsX7_shortfall_r1) := goodIn_r _ [199, 485, 486, 487, 5, 488, 109, 203, 204, 205, 500, 501, 502, 503, 504, 505, 506, 507, 1235, 1236, 1237, 1238, 113, 492] (by decide +kernel) (by decide +kernel)
set_option maxRecDepth 20000 in
theorem ggL_law_X7_shortfall_q3 : GoodIn wsL_law (wsX7_shortfall_r2) := goodIn_r _ [493, 494, 495, 440, 441, 442, 443, 641, 642, 643, 644, 115, 114, 645, 646, 647, 648, 649, 650, 651, 652, 653, 654, 655] (by decide +kernel) (by decide +kernel)
set_option maxRecDepth 20000 in
theorem ggL_law_X7_shortfall_q4 : GoodIn wsL_law (wsX7_shortfall_r3) := goodIn_r _ [656, 633, 634, 635, 636, 281, 282, 283, 284, 388, 389, 390, 391, 657, 658, 659, 660, 661, 662, 663, 664, 665, 666, 667] (by decide +kernel) (by decide +kernel)
set_option maxRecDepth 20000 in
theorem ggL_law_X7_shortfall_q5 : GoodIn wsL_law (wsX7_shortfall_r4) := goodIn_r _ [668, 669, 670, 671, 672, 673, 674, 675, 676, 677, 678, 679, 680, 215, 216, 217, 218] (by decide +kernel) (by decide +kernel)
set_option maxRecDepth 20000 in
theorem ggL_law_X7_shortfall_q6 : GoodIn wsL_law (wsX70) := goodIn_r _ [1462, 1463, 1464, 1465, 1466, 1467, 1468, 1469, 1470, 1471, 1472, 1473, 1474, 1475, 1476, 1477] (by decide +kernel) (by decide +kernel)
theorem ggL_law_X7_shortfall : GoodIn wsL_law wsX7_shortfall := (goodIn_app (a := [Cond.code yX7_shortfall cX7_shortfall 2 (some .int)]) ggL_law_X7_shortfall_q1 (goodIn_app (goodIn_app ggL_law_X7_shortfall_q2 (goodIn_app ggL_law_X7_shortfall_q3 (goodIn_app ggL_law_X7_shortfall_q4 ggL_law_X7_shortfall_q5))) ggL_law_X7_shortfall_q6))
set_option maxRecDepth 20000 in
theorem gL_law_X7_shortfall : GoodIn wsL_law (wsV RL 261 RX7 yX7_shortfall wsX7_shortfall) := goodIn_app (goodIn_of _ (by decide +kernel)) ggL_law_X7_shortfall
set_option maxRecDepth 20000 in
theorem ggL_law_L_shortfallBySets : GoodIn wsL_law wsL_shortfallBySets := goodIn_ca (goodIn_ca (goodIn_ca (goodIn_r _ [1270, 246, 124, 1271, 1272, 1273, 2, 1274, 16, 29, 1166, 1167, 1168, 1169, 1152, 1170, 460, 461, 44, 462, 78, 145, 146, 147, 148, 149, 150, 151, 152, 153, 1182, 466, 467, 15, 468, 45, 469, 33, 1275, 1276, 1277, 28, 1278, 534, 535, 531, 532, 536, 537, 538, 539, 101, 540, 541, 542, 543, 544, 37, 41, 259, 260, 261, 36, 262, 64, 328, 329, 330, 331, 65, 364, 365, 366, 40, 367, 71, 72, 73, 74, 545, 546, 547, 548, 61, 549, 550, 551, 552, 475, 553, 476, 554, 555, 556, 557, 558, 564, 565, 566, 567, 568, 569, 570, 1454, 1455, 1456, 1457, 1458, 1459, 1460, 1461, 1478, 1479, 1480, 1481, 1482, 1483, 1484, 1485, 1486, 1487, 1515, 1516, 1517, 1518, 1519, 1520, 1521, 1522, 1499, 1500, 1501, 1502, 1503, 1504, 1505, 1506, 1507, 1508, 1509, 1510, 1494, 1495, 1496, 1497, 1498, 1511, 1512, 1513, 1514] (by decide +kernel) (by decide +kernel)) (goodIn_sub (fun _ h => List.mem_append_left _ (List.mem_append_left _ (List.mem_append_right _ h))) (by decide +kernel))) (goodIn_sub (fun _ h => List.mem_append_left _ (List.mem_append_right _ h)) (by decide +kernel))) (goodIn_sub (fun _ h => List.mem_append_right _ h) (by decide +kernel))
set_option maxRecDepth 20000 in
theorem gL_law_L_shortfallBySets : GoodIn wsL_law (va_wsS RL 262 yL_shortfallBySets wsL_shortfallBySets) := goodIn_app (goodIn_of _ (by decide +kernel)) ggL_law_L_shortfallBySets
set_option maxRecDepth 20000 in
theorem ggL_law_X7_shortfallBySets_q1 : GoodIn wsL_law ([Cond.code yX7_shortfallBySets cX7_shortfallBySets 2 (some .int)]) := goodIn_r _ [1282] (by decide +kernel) (by decide +kernel)
set_option maxRecDepth 20000 in
theorem ggL_law_X7_shortfallBySets_q2 : GoodIn wsL_law (wsX7_shortfallBySets_r1) := goodIn_r _ [199, 1283, 1284, 1285, 5, 1286, 485, 486, 487, 488, 109, 203, 204, 205, 492, 493, 494, 495, 440, 441, 442, 443, 1287, 1288] (by decide +kernel) (by decide +kernel)
set_option maxRecDepth 20000 in
theorem ggL_law_X7_shortfallBySets_q3 : GoodIn wsL_law (wsX7_shortfallBySets_r2) := goodIn_r _ [1289, 1290, 645, 646, 647, 648, 115, 114, 504, 505, 506, 507, 649, 650, 651, 652, 653, 654, 655, 656, 633, 634, 635, 636] (by decide +kernel) (by decide +kernel)
set_option maxRecDepth 20000 in
theorem ggL_law_X7_shortfallBySets_q4 : GoodIn wsL_law (wsX7_shortfallBySets_r3) := goodIn_r _ [281, 282, 283, 284, 388, 389, 390, 391, 657, 658, 659, 660, 661, 662, 663, 664, 665, 666, 667, 668, 500, 501, 502, 503] (by decide +kernel) (by decide +kernel)
set_option maxRecDepth 20000 in
theorem ggL_law_X7_shortfallBySets_q5 : GoodIn wsL_law (wsX7_shortfallBySets_r4) := goodIn_r _ [669, 670, 671, 672, 673, 674, 675, 676, 677, 678, 679, 680, 215, 216, 217, 218] (by decide +kernel) (by decide +kernel)
set_option maxRecDepth 20000 in
theorem ggL_law_X7_shortfallBySets_q6 : GoodIn wsL_law (wsX70) := goodIn_r _ [1462, 1463, 1464, 1465, 1466, 1467, 1468, 1469, 1470, 1471, 1472, 1473, 1474, 1475, 1476, 1477] (by decide +kernel) (by decide +kernel)
theorem ggL_law_X7_shortfallBySets : GoodIn wsL_law wsX7_shortfallBySets := (goodIn_app (a := [Cond.code yX7_shortfallBySets cX7_shortfallBySets 2 (some .int)]) ggL_law_X7_shortfallBySets_q1 (goodIn_app (goodIn_app ggL_law_X7_shortfallBySets_q2 (goodIn_app ggL_law_X7_shortfallBySets_q3 (goodIn_app ggL_law_X7_shortfallBySets_q4 ggL_law_X7_shortfallBySets_q5))) ggL_law_X7_shortfallBySets_q6))
set_option maxRecDepth 20000 in
theorem gL_law_X7_shortfallBySets : GoodIn wsL_law (wsV RL 264 RX7 yX7_shortfallBySets wsX7_shortfallBySets) := goodIn_app (goodIn_of _ (by decide +kernel)) ggL_law_X7_shortfallBySets
set_option maxRecDepth 20000 in
theorem ggL_law_L_neededLine : GoodIn wsL_law wsL_neededLine := goodIn_ca (goodIn_ca (goodIn_ca (goodIn_r _ [1293, 246, 124, 1294, 1295, 1296, 2, 1297, 16, 29, 1152, 1194, 1166, 1167, 1168, 1169, 1170, 460, 461, 44, 462, 78, 145, 146, 147, 148, 149, 150, 151, 152, 153, 1182, 466, 467, 15, 468, 45, 469, 33, 1275, 1276, 1277, 28, 1278, 534, 535, 531, 532, 536, 537, 538, 539, 101, 540, 541, 542, 543, 544, 37, 41, 259, 260, 261, 36, 262, 64, 328, 329, 330, 331, 65, 364, 365, 366, 40, 367, 71, 72, 73, 74, 545, 546, 547, 548, 61, 549, 550, 551, 552, 475, 553, 476, 554, 555, 556, 557, 558, 564, 565, 566, 567, 568, 569, 570, 1454, 1455, 1456, 1457, 1458, 1459, 1460, 1461, 1478, 1479, 1480, 1481, 1482, 1483, 1484, 1485, 1486, 1487, 1515, 1516, 1517, 1518, 1519, 1520, 1521, 1522, 1499, 1500, 1501, 1502, 1503, 1504, 1505, 1506, 1507, 1508, 1509, 1510, 1494, 1495, 1496, 1497, 1498, 1511, 1512, 1513, 1514] (by decide +kernel) (by decide +kernel)) (goodIn_sub (fun _ h => List.mem_append_left _ (List.mem_append_left _ (List.mem_append_right _ h))) (by decide +kernel))) (goodIn_sub (fun _ h => List.mem_append_left _ (List.mem_append_right _ h)) (by decide +kernel))) (goodIn_sub (fun _ h => List.mem_append_right _ h) (by decide +kernel))
set_option maxRecDepth 20000 in
theorem gL_law_L_neededLine : GoodIn wsL_law (va_wsS RL 265 yL_neededLine wsL_neededLine) := goodIn_app (goodIn_of _ (by decide +kernel)) ggL_law_L_neededLine
set_option maxRecDepth 20000 in
theorem ggL_law_X7_neededLine_q1 : GoodIn wsL_law ([Cond.code yX7_neededLine cX7_neededLine 2 (some .int)]) := goodIn_r _ [1301] (by decide +kernel) (by decide +kernel)
set_option maxRecDepth 20000 in
theorem ggL_law_X7_neededLine_q2 : GoodIn wsL_law (wsX7_neededLine_r1) := goodIn_r _ [199, 1283, 1284, 1285, 5, 1286, 485, 486, 487, 488, 109, 203, 204, 205, 492, 493, 494, 495, 440, 441, 442, 443, 1302, 1303] (by decide +kernel) (by decide +kernel)
set_option maxRecDepth 20000 in
theorem ggL_law_X7_neededLine_q3 : GoodIn wsL_law (wsX7_neededLine_r2) := goodIn_r _ [1304, 1305, 114, 1287, 1288, 1289, 1290, 645, 646, 647, 648, 115, 504, 505, 506, 507, 649, 650, 651, 652, 653, 654, 655, 656] (by decide +kernel) (by decide +kernel)
set_option maxRecDepth 20000 in
theorem ggL_law_X7_neededLine_q4 : GoodIn wsL_law (wsX7_neededLine_r3) := goodIn_r _ [633, 634, 635, 636, 281, 282, 283, 284, 388, 389, 390, 391, 657, 658, 659, 660, 661, 662, 663, 664, 665, 666, 667, 668] (by decide +kernel) (by decide +kernel)
set_option maxRecDepth 20000 in
theorem ggL_law_X7_neededLine_q5 : GoodIn wsL_law (wsX7_neededLine_r4) := goodIn_r _ [500, 501, 502, 503, 669, 670, 671, 672, 673, 674, 675, 676, 677, 678, 679, 680, 215, 216, 217, 218] (by decide +kernel) (by decide +kernel)
set_option maxRecDepth 20000 in
theorem ggL_law_X7_neededLine_q6 : GoodIn wsL_law (wsX70) := goodIn_r _ [1462, 1463, 1464, 1465, 1466, 1467, 1468, 1469, 1470, 1471, 1472, 1473, 1474, 1475, 1476, 1477] (by decide +kernel) (by decide +kernel)
theorem ggL_law_X7_neededLine : GoodIn wsL_law wsX7_neededLine := (goodIn_app (a := [Cond.code yX7_neededLine cX7_neededLine 2 (some .int)]) ggL_law_X7_neededLine_q1 (goodIn_app (goodIn_app ggL_law_X7_neededLine_q2 (goodIn_app ggL_law_X7_neededLine_q3 (goodIn_app ggL_law_X7_neededLine_q4 ggL_law_X7_neededLine_q5))) ggL_law_X7_neededLine_q6))
set_option maxRecDepth 20000 in
theorem gL_law_X7_neededLine : GoodIn wsL_law (wsV RL 267 RX7 yX7_neededLine wsX7_neededLine) := goodIn_app (goodIn_of _ (by decide +kernel)) ggL_law_X7_neededLine
set_option maxRecDepth 20000 in
theorem ggL_law_L_descantIn : GoodIn wsL_law wsL_descantIn := goodIn_ca (goodIn_ca (goodIn_ca (goodIn_r _ [1308, 246, 1309, 1310, 1311, 2, 1312, 16, 1152, 1313, 29, 1166, 1167, 1168, 1169, 1170, 460, 461, 44, 462, 78, 145, 146, 147, 148, 149, 150, 151, 152, 153, 1182, 466, 467, 15, 468, 45, 469, 33, 1314, 1315, 1316, 28, 1317, 534, 1318, 104, 533, 167, 168, 169, 531, 1319, 540, 1320, 524, 525, 526, 79, 1230, 528, 529, 530, 100, 532, 102, 535, 101, 536, 537, 538, 539, 541, 542, 543, 544, 37, 41, 259, 260, 261, 36, 262, 64, 328, 329, 330, 331, 65, 364, 365, 366, 40, 367, 71, 72, 73, 74, 545, 546, 547, 548, 61, 549, 550, 551, 552, 475, 553, 476, 554, 555, 556, 557, 558, 559, 425, 426, 427, 560, 561, 562, 563, 103, 564, 565, 566, 567, 568, 569, 570, 571, 572, 573, 574, 575, 576, 577, 578, 579, 580, 581, 582, 583, 584, 585, 586, 587, 588, 589, 1321, 601, 602, 603, 604, 605, 606, 607, 60, 1454, 1455, 1456, 1457, 1458, 1459, 1460, 1461, 1478, 1479, 1480, 1481, 1482, 1483, 1484, 1485, 1486, 1487, 1515, 1516, 1517, 1518, 1519, 1520, 1521, 1522, 1499, 1500, 1501, 1502, 1503, 1504, 1505, 1506, 1507, 1508, 1509, 1510, 1494, 1495, 1496, 1497, 1498, 1511, 1512, 1513, 1514] (by decide +kernel) (by decide +kernel)) (goodIn_sub (fun _ h => List.mem_append_left _ (List.mem_append_left _ (List.mem_append_right _ h))) (by decide +kernel))) (goodIn_sub (fun _ h => List.mem_append_left _ (List.mem_append_right _ h)) (by decide +kernel))) (goodIn_sub (fun _ h => List.mem_append_right _ h) (by decide +kernel))
set_option maxRecDepth 20000 in
theorem gL_law_L_descantIn : GoodIn wsL_law (va_wsS RL 268 yL_descantIn wsL_descantIn) := goodIn_app (goodIn_of _ (by decide +kernel)) ggL_law_L_descantIn
set_option maxRecDepth 20000 in
theorem ggL_law_X7_descantIn_q1 : GoodIn wsL_law ([Cond.code yX7_descantIn cX7_descantIn 2 (some .int)]) := goodIn_r _ [1325] (by decide +kernel) (by decide +kernel)
set_option maxRecDepth 20000 in
theorem ggL_law_X7_descantIn_q2 : GoodIn wsL_law (wsX7_descantIn_r1) := goodIn_r _ [199, 109, 485, 486, 487, 5, 488, 203, 204, 205, 215, 216, 217, 218, 492, 493, 494, 495, 440, 441, 442, 443, 1326, 1327] (by decide +kernel) (by decide +kernel)
set_option maxRecDepth 20000 in
theorem ggL_law_X7_descantIn_q3 : GoodIn wsL_law (wsX7_descantIn_r2) := goodIn_r _ [1328, 1329, 116, 681, 682, 683, 684, 281, 282, 283, 284, 1330, 1331, 1332, 1333, 641, 642, 643, 644, 113, 115, 114, 645, 646] (by decide +kernel) (by decide +kernel)
set_option maxRecDepth 20000 in
theorem ggL_law_X7_descantIn_q4 : GoodIn wsL_law (wsX7_descantIn_r3) := goodIn_r _ [647, 648, 504, 505, 506, 507, 649, 650, 651, 652, 653, 654, 655, 656, 633, 634, 635, 636, 388, 389, 390, 391, 657, 658] (by decide +kernel) (by decide +kernel)
set_option maxRecDepth 20000 in
theorem ggL_law_X7_descantIn_q5 : GoodIn wsL_law (wsX7_descantIn_r4) := goodIn_r _ [659, 660, 661, 662, 663, 664, 665, 666, 667, 668, 669, 670, 671, 672, 673, 674, 675, 676, 677, 678, 679, 680, 685, 686] (by decide +kernel) (by decide +kernel)
set_option maxRecDepth 20000 in
theorem ggL_law_X7_descantIn_q6 : GoodIn wsL_law (wsX7_descantIn_r5) := goodIn_r _ [687, 688, 689, 690, 691, 692] (by decide +kernel) (by decide +kernel)
set_option maxRecDepth 20000 in
theorem ggL_law_X7_descantIn_q7 : GoodIn wsL_law (wsX70) := goodIn_r _ [1462, 1463, 1464, 1465, 1466, 1467, 1468, 1469, 1470, 1471, 1472, 1473, 1474, 1475, 1476, 1477] (by decide +kernel) (by decide +kernel)
theorem ggL_law_X7_descantIn : GoodIn wsL_law wsX7_descantIn := (goodIn_app (a := [Cond.code yX7_descantIn cX7_descantIn 2 (some .int)]) ggL_law_X7_descantIn_q1 (goodIn_app (goodIn_app ggL_law_X7_descantIn_q2 (goodIn_app ggL_law_X7_descantIn_q3 (goodIn_app ggL_law_X7_descantIn_q4 (goodIn_app ggL_law_X7_descantIn_q5 ggL_law_X7_descantIn_q6)))) ggL_law_X7_descantIn_q7))
set_option maxRecDepth 20000 in
theorem gL_law_X7_descantIn : GoodIn wsL_law (wsV RL 270 RX7 yX7_descantIn wsX7_descantIn) := goodIn_app (goodIn_of _ (by decide +kernel)) ggL_law_X7_descantIn
set_option maxRecDepth 20000 in
theorem ggL_law_L_pewOf : GoodIn wsL_law wsL_pewOf := goodIn_ca (goodIn_ca (goodIn_ca (goodIn_r _ [1336, 246, 1337, 1338, 1339, 2, 1340, 29, 16, 1002, 1166, 1167, 1168, 1169, 1152, 1170, 460, 461, 44, 462, 78, 145, 146, 147, 148, 149, 150, 151, 152, 153, 1015, 1016, 1017, 1018, 1019, 256, 257, 36, 258, 56, 1224, 1225, 1226, 28, 1227, 531, 1228, 100, 533, 167, 168, 169, 1229, 466, 467, 15, 468, 45, 469, 33, 1230, 528, 529, 530, 532, 102, 534, 535, 101, 536, 537, 538, 539, 540, 541, 542, 543, 544, 37, 41, 259, 260, 261, 262, 64, 328, 329, 330, 331, 65, 364, 365, 366, 40, 367, 71, 72, 73, 74, 545, 546, 547, 548, 61, 549, 550, 551, 552, 475, 553, 476, 554, 555, 556, 557, 558, 559, 425, 426, 427, 560, 561, 562, 563, 103, 564, 565, 566, 567, 568, 569, 570, 571, 572, 573, 574, 575, 576, 577, 578, 579, 580, 581, 582, 583, 584, 585, 586, 587, 588, 589, 1341, 1342, 1343, 1344, 1345, 1346, 1347, 1348, 57, 1454, 1455, 1456, 1457, 1458, 1459, 1460, 1461, 1478, 1479, 1480, 1481, 1482, 1483, 1484, 1485, 1486, 1487, 1515, 1516, 1517, 1518, 1519, 1520, 1521, 1522, 1499, 1500, 1501, 1502, 1503, 1504, 1505, 1506, 1507, 1508, 1509, 1510, 1494, 1495, 1496, 1497, 1498, 1511, 1512, 1513, 1514] (by decide +kernel) (by decide +kernel)) (goodIn_sub (fun _ h => List.mem_append_left _ (List.mem_append_left _ (List.mem_append_right _ h))) (by decide +kernel))) (goodIn_sub (fun _ h => List.mem_append_left _ (List.mem_append_right _ h)) (by decide +kernel))) (goodIn_sub (fun _ h => List.mem_append_right _ h) (by decide +kernel))
set_option maxRecDepth 20000 in
theorem gL_law_L_pewOf : GoodIn wsL_law (va_wsS RL 271 yL_pewOf wsL_pewOf) := goodIn_app (goodIn_of _ (by decide +kernel)) ggL_law_L_pewOf
set_option maxRecDepth 20000 in
theorem ggL_law_X7_pewOf_q1 : GoodIn wsL_law ([Cond.code yX7_pewOf cX7_pewOf 4 (some .int)]) := goodIn_r _ [1352] (by decide +kernel) (by decide +kernel)
set_option maxRecDepth 20000 in
theorem ggL_law_X7_pewOf_q2 : GoodIn wsL_law (wsX7_pewOf_r1) := goodIn_r _ [199, 485, 486, 487, 5, 488, 109, 203, 204, 205, 277, 278, 279, 280, 215, 216, 217, 218, 1353, 1354, 1355, 1356, 113, 1235] (by decide +kernel) (by decide +kernel)
set_option maxRecDepth 20000 in
theorem ggL_law_X7_pewOf_q3 : GoodIn wsL_law (wsX7_pewOf_r2) := goodIn_r _ [1236, 1237, 1238, 492, 493, 494, 495, 440, 441, 442, 443, 641, 642, 643, 644, 115, 114, 645, 646, 647, 648, 504, 505, 506] (by decide +kernel) (by decide +kernel)
set_option maxRecDepth 20000 in
theorem ggL_law_X7_pewOf_q4 : GoodIn wsL_law (wsX7_pewOf_r3) := goodIn_r _ [507, 649, 650, 651, 652, 653, 654, 655, 656, 633, 634, 635, 636, 281, 282, 283, 284, 388, 389, 390, 391, 657, 658, 659] (by decide +kernel) (by decide +kernel)
set_option maxRecDepth 20000 in
theorem ggL_law_X7_pewOf_q5 : GoodIn wsL_law (wsX7_pewOf_r4) := goodIn_r _ [660, 661, 662, 663, 664, 665, 666, 667, 668, 669, 670, 671, 672, 673, 674, 675, 676, 677, 678, 679, 680] (by decide +kernel) (by decide +kernel)
set_option maxRecDepth 20000 in
theorem ggL_law_X7_pewOf_q6 : GoodIn wsL_law (wsX70) := goodIn_r _ [1462, 1463, 1464, 1465, 1466, 1467, 1468, 1469, 1470, 1471, 1472, 1473, 1474, 1475, 1476, 1477] (by decide +kernel) (by decide +kernel)
theorem ggL_law_X7_pewOf : GoodIn wsL_law wsX7_pewOf := (goodIn_app (a := [Cond.code yX7_pewOf cX7_pewOf 4 (some .int)]) ggL_law_X7_pewOf_q1 (goodIn_app (goodIn_app ggL_law_X7_pewOf_q2 (goodIn_app ggL_law_X7_pewOf_q3 (goodIn_app ggL_law_X7_pewOf_q4 ggL_law_X7_pewOf_q5))) ggL_law_X7_pewOf_q6))
set_option maxRecDepth 20000 in
theorem gL_law_X7_pewOf : GoodIn wsL_law (wsV RL 273 RX7 yX7_pewOf wsX7_pewOf) := goodIn_app (goodIn_of _ (by decide +kernel)) ggL_law_X7_pewOf
set_option maxRecDepth 20000 in
theorem ggL_law_L_seatOf : GoodIn wsL_law wsL_seatOf := goodIn_ca (goodIn_ca (goodIn_ca (goodIn_r _ [1359, 246, 1360, 1361, 1362, 2, 1363, 29, 16, 1002, 1166, 1167, 1168, 1169, 1152, 1170, 460, 461, 44, 462, 78, 145, 146, 147, 148, 149, 150, 151, 152, 153, 1015, 1016, 1017, 1018, 1019, 256, 257, 36, 258, 56, 1224, 1225, 1226, 28, 1227, 531, 1228, 100, 533, 167, 168, 169, 1229, 466, 467, 15, 468, 45, 469, 33, 1230, 528, 529, 530, 532, 102, 534, 535, 101, 536, 537, 538, 539, 540, 541, 542, 543, 544, 37, 41, 259, 260, 261, 262, 64, 328, 329, 330, 331, 65, 364, 365, 366, 40, 367, 71, 72, 73, 74, 545, 546, 547, 548, 61, 549, 550, 551, 552, 475, 553, 476, 554, 555, 556, 557, 558, 559, 425, 426, 427, 560, 561, 562, 563, 103, 564, 565, 566, 567, 568, 569, 570, 571, 572, 573, 574, 575, 576, 577, 578, 579, 580, 581, 582, 583, 584, 585, 586, 587, 588, 589, 1341, 1342, 1343, 1344, 1345, 1346, 1347, 1348, 57, 1454, 1455, 1456, 1457, 1458, 1459, 1460, 1461, 1478, 1479, 1480, 1481, 1482, 1483, 1484, 1485, 1486, 1487, 1515, 1516, 1517, 1518, 1519, 1520, 1521, 1522, 1499, 1500, 1501, 1502, 1503, 1504, 1505, 1506, 1507, 1508, 1509, 1510, 1494, 1495, 1496, 1497, 1498, 1511, 1512, 1513, 1514] (by decide +kernel) (by decide +kernel)) (goodIn_sub (fun _ h => List.mem_append_left _ (List.mem_append_left _ (List.mem_append_right _ h))) (by decide +kernel))) (goodIn_sub (fun _ h => List.mem_append_left _ (List.mem_append_right _ h)) (by decide +kernel))) (goodIn_sub (fun _ h => List.mem_append_right _ h) (by decide +kernel))
set_option maxRecDepth 20000 in
theorem gL_law_L_seatOf : GoodIn wsL_law (va_wsS RL 274 yL_seatOf wsL_seatOf) := goodIn_app (goodIn_of _ (by decide +kernel)) ggL_law_L_seatOf
set_option maxRecDepth 20000 in
theorem ggL_law_X7_seatOf_q1 : GoodIn wsL_law ([Cond.code yX7_seatOf cX7_seatOf 4 (some .int)]) := goodIn_r _ [1367] (by decide +kernel) (by decide +kernel)
set_option maxRecDepth 20000 in
theorem ggL_law_X7_seatOf_q2 : GoodIn wsL_law (wsX7_seatOf_r1) := goodIn_r _ [199, 485, 486, 487, 5, 488, 109, 203, 204, 205, 277, 278, 279, 280, 215, 216, 217, 218, 1353, 1354, 1355, 1356, 113, 1235] (by decide +kernel) (by decide +kernel)
set_option maxRecDepth 20000 in
theorem ggL_law_X7_seatOf_q3 : GoodIn wsL_law (wsX7_seatOf_r2) := goodIn_r _ [1236, 1237, 1238, 492, 493, 494, 495, 440, 441, 442, 443, 641, 642, 643, 644, 115, 114, 645, 646, 647, 648, 504, 505, 506] (by decide +kernel) (by decide +kernel)
set_option maxRecDepth 20000 in
theorem ggL_law_X7_seatOf_q4 : GoodIn wsL_law (wsX7_seatOf_r3) := goodIn_r _ [507, 649, 650, 651, 652, 653, 654, 655, 656, 633, 634, 635, 636, 281, 282, 283, 284, 388, 389, 390, 391, 657, 658, 659] (by decide +kernel) (by decide +kernel)
set_option maxRecDepth 20000 in
theorem ggL_law_X7_seatOf_q5 : GoodIn wsL_law (wsX7_seatOf_r4) := goodIn_r _ [660, 661, 662, 663, 664, 665, 666, 667, 668, 669, 670, 671, 672, 673, 674, 675, 676, 677, 678, 679, 680] (by decide +kernel) (by decide +kernel)
set_option maxRecDepth 20000 in
theorem ggL_law_X7_seatOf_q6 : GoodIn wsL_law (wsX70) := goodIn_r _ [1462, 1463, 1464, 1465, 1466, 1467, 1468, 1469, 1470, 1471, 1472, 1473, 1474, 1475, 1476, 1477] (by decide +kernel) (by decide +kernel)
theorem ggL_law_X7_seatOf : GoodIn wsL_law wsX7_seatOf := (goodIn_app (a := [Cond.code yX7_seatOf cX7_seatOf 4 (some .int)]) ggL_law_X7_seatOf_q1 (goodIn_app (goodIn_app ggL_law_X7_seatOf_q2 (goodIn_app ggL_law_X7_seatOf_q3 (goodIn_app ggL_law_X7_seatOf_q4 ggL_law_X7_seatOf_q5))) ggL_law_X7_seatOf_q6))
set_option maxRecDepth 20000 in
theorem gL_law_X7_seatOf : GoodIn wsL_law (wsV RL 276 RX7 yX7_seatOf wsX7_seatOf) := goodIn_app (goodIn_of _ (by decide +kernel)) ggL_law_X7_seatOf
set_option maxRecDepth 20000 in
theorem ggL_law_X6_firstShortFeast_q1 : GoodIn wsL_law ([Cond.code yX6_firstShortFeast cX6_firstShortFeast 3 (some .int)]) := goodIn_r _ [1371] (by decide +kernel) (by decide +kernel)
set_option maxRecDepth 20000 in
theorem ggL_law_X6_firstShortFeast_q2 : GoodIn wsL_law (wsX6_firstShortFeast_r1) := goodIn_r _ [16, 1152, 981, 29, 1165, 1372, 524, 525, 44, 526, 78, 79, 1275, 1276, 1277, 28, 1278, 534, 535, 531, 532, 536, 537, 538] (by decide +kernel) (by decide +kernel)
set_option maxRecDepth 20000 in
theorem ggL_law_X6_firstShortFeast_q3 : GoodIn wsL_law (wsX6_firstShortFeast_r2) := goodIn_r _ [539, 101, 540, 541, 542, 543, 15, 544, 37, 41, 259, 260, 261, 36, 262, 64, 328, 329, 330, 331, 65, 364, 365, 366] (by decide +kernel) (by decide +kernel)
set_option maxRecDepth 20000 in
theorem ggL_law_X6_firstShortFeast_q4 : GoodIn wsL_law (wsX6_firstShortFeast_r3) := goodIn_r _ [40, 367, 71, 72, 73, 74, 545, 546, 547, 548, 61, 549, 550, 551, 552, 45, 469, 475, 553, 476, 554, 555, 556, 557] (by decide +kernel) (by decide +kernel)
set_option maxRecDepth 20000 in
theorem ggL_law_X6_firstShortFeast_q5 : GoodIn wsL_law (wsX6_firstShortFeast_r4) := goodIn_r _ [558, 564, 565, 566, 567, 568, 569, 570] (by decide +kernel) (by decide +kernel)
set_option maxRecDepth 20000 in
theorem ggL_law_X6_firstShortFeast_q6 : GoodIn wsL_law (wsX60) := goodIn_r _ [1454, 1455, 1456, 1457, 1458, 1459, 1460, 1461] (by decide +kernel) (by decide +kernel)
set_option maxRecDepth 20000 in
theorem ggL_law_X6_firstShortFeast_q7 : GoodIn wsL_law (wsX00) := goodIn_r _ [1478, 1479, 1480, 1481, 1482, 1483, 1484, 1485, 1486, 1487] (by decide +kernel) (by decide +kernel)
set_option maxRecDepth 20000 in
theorem ggL_law_X6_firstShortFeast_q8 : GoodIn wsL_law (wsX10) := goodIn_r _ [1515, 1516, 1517, 1518, 1519, 1520, 1521, 1522] (by decide +kernel) (by decide +kernel)
set_option maxRecDepth 20000 in
theorem ggL_law_X6_firstShortFeast_q9 : GoodIn wsL_law (wsX50) := goodIn_r _ [1499, 1500, 1501, 1502, 1503, 1504, 1505, 1506, 1507, 1508, 1509, 1510] (by decide +kernel) (by decide +kernel)
set_option maxRecDepth 20000 in
theorem ggL_law_X6_firstShortFeast_q10 : GoodIn wsL_law (wsX30) := goodIn_r _ [1494, 1495, 1496, 1497, 1498] (by decide +kernel) (by decide +kernel)
set_option maxRecDepth 20000 in
theorem ggL_law_X6_firstShortFeast_q11 : GoodIn wsL_law (wsX40) := goodIn_r _ [1511, 1512, 1513, 1514] (by decide +kernel) (by decide +kernel)
theorem ggL_law_X6_firstShortFeast : GoodIn wsL_law wsX6_firstShortFeast := (goodIn_app (a := [Cond.code yX6_firstShortFeast cX6_firstShortFeast 3 (some .int)]) ggL_law_X6_firstShortFeast_q1 (goodIn_app (goodIn_app (goodIn_app (goodIn_app (goodIn_app (goodIn_app (goodIn_app ggL_law_X6_firstShortFeast_q2 (goodIn_app ggL_law_X6_firstShortFeast_q3 (goodIn_app ggL_law_X6_firstShortFeast_q4 ggL_law_X6_firstShortFeast_q5))) ggL_law_X6_firstShortFeast_q6) ggL_law_X6_firstShortFeast_q7) ggL_law_X6_firstShortFeast_q8) ggL_law_X6_firstShortFeast_q9) ggL_law_X6_firstShortFeast_q10) ggL_law_X6_firstShortFeast_q11))
set_option maxRecDepth 20000 in
theorem gL_law_X6_firstShortFeast : GoodIn wsL_law (wsV RL 277 RX6 yX6_firstShortFeast wsX6_firstShortFeast) := goodIn_app (goodIn_of _ (by decide +kernel)) ggL_law_X6_firstShortFeast
set_option maxRecDepth 20000 in
theorem ggL_law_X7_firstShortFeast_q1 : GoodIn wsL_law ([Cond.code yX7_firstShortFeast cX7_firstShortFeast 2 (some .int)]) := goodIn_r _ [1376] (by decide +kernel) (by decide +kernel)
set_option maxRecDepth 20000 in
theorem ggL_law_X7_firstShortFeast_q2 : GoodIn wsL_law (wsX7_firstShortFeast_r1) := goodIn_r _ [199, 109, 1330, 1331, 1332, 5, 1333, 440, 441, 442, 443, 1287, 1288, 1289, 1290, 645, 646, 647, 648, 115, 114, 504, 505, 506] (by decide +kernel) (by decide +kernel)
set_option maxRecDepth 20000 in
theorem ggL_law_X7_firstShortFeast_q3 : GoodIn wsL_law (wsX7_firstShortFeast_r2) := goodIn_r _ [507, 649, 650, 651, 652, 653, 654, 655, 656, 633, 634, 635, 636, 281, 282, 283, 284, 388, 389, 390, 391, 657, 658, 659] (by decide +kernel) (by decide +kernel)
set_option maxRecDepth 20000 in
theorem ggL_law_X7_firstShortFeast_q4 : GoodIn wsL_law (wsX7_firstShortFeast_r3) := goodIn_r _ [660, 203, 204, 205, 661, 662, 663, 664, 665, 666, 667, 668, 500, 501, 502, 503, 669, 670, 671, 672, 673, 674, 675, 676] (by decide +kernel) (by decide +kernel)
set_option maxRecDepth 20000 in
theorem ggL_law_X7_firstShortFeast_q5 : GoodIn wsL_law (wsX7_firstShortFeast_r4) := goodIn_r _ [677, 678, 679, 680] (by decide +kernel) (by decide +kernel)
set_option maxRecDepth 20000 in
theorem ggL_law_X7_firstShortFeast_q6 : GoodIn wsL_law (wsX70) := goodIn_r _ [1462, 1463, 1464, 1465, 1466, 1467, 1468, 1469, 1470, 1471, 1472, 1473, 1474, 1475, 1476, 1477] (by decide +kernel) (by decide +kernel)
theorem ggL_law_X7_firstShortFeast : GoodIn wsL_law wsX7_firstShortFeast := (goodIn_app (a := [Cond.code yX7_firstShortFeast cX7_firstShortFeast 2 (some .int)]) ggL_law_X7_firstShortFeast_q1 (goodIn_app (goodIn_app ggL_law_X7_firstShortFeast_q2 (goodIn_app ggL_law_X7_firstShortFeast_q3 (goodIn_app ggL_law_X7_firstShortFeast_q4 ggL_law_X7_firstShortFeast_q5))) ggL_law_X7_firstShortFeast_q6))
set_option maxRecDepth 20000 in
theorem gL_law_X7_firstShortFeast : GoodIn wsL_law (wsV RL 280 RX7 yX7_firstShortFeast wsX7_firstShortFeast) := goodIn_app (goodIn_of _ (by decide +kernel)) ggL_law_X7_firstShortFeast
set_option maxRecDepth 20000 in
theorem ggL_law_L_favoursOf : GoodIn wsL_law wsL_favoursOf := goodIn_ca (goodIn_ca (goodIn_ca (goodIn_r _ [1379, 246, 1380, 1381, 1382, 2, 1383, 16, 1384, 137, 133, 134, 145, 146, 147, 148, 149, 150, 151, 152, 153, 1454, 1455, 1456, 1457, 1458, 1459, 1460, 1461, 1478, 1479, 1480, 1481, 1482, 1483, 1484, 1485, 1486, 1487] (by decide +kernel) (by decide +kernel)) (goodIn_sub (fun _ h => List.mem_append_left _ (List.mem_append_left _ (List.mem_append_right _ h))) (by decide +kernel))) (goodIn_sub (fun _ h => List.mem_append_left _ (List.mem_append_right _ h)) (by decide +kernel))) (goodIn_sub (fun _ h => List.mem_append_right _ h) (by decide +kernel))
set_option maxRecDepth 20000 in
theorem gL_law_L_favoursOf : GoodIn wsL_law (va_wsS RL 281 yL_favoursOf wsL_favoursOf) := goodIn_app (goodIn_of _ (by decide +kernel)) ggL_law_L_favoursOf
set_option maxRecDepth 20000 in
theorem ggL_law_X7_favoursOf : GoodIn wsL_law wsX7_favoursOf := goodIn_r _ [1388, 199, 109, 314, 315, 5, 316, 203, 204, 205, 215, 216, 217, 218, 1462, 1463, 1464, 1465, 1466, 1467, 1468, 1469, 1470, 1471, 1472, 1473, 1474, 1475, 1476, 1477] (by decide +kernel) (by decide +kernel)
set_option maxRecDepth 20000 in
theorem gL_law_X7_favoursOf : GoodIn wsL_law (wsV RL 283 RX7 yX7_favoursOf wsX7_favoursOf) := goodIn_app (goodIn_of _ (by decide +kernel)) ggL_law_X7_favoursOf
set_option maxRecDepth 20000 in
theorem ggL_law_X6_purse : GoodIn wsL_law wsX6_purse := goodIn_r _ [1392, 16, 1393, 1454, 1455, 1456, 1457, 1458, 1459, 1460, 1461, 1478, 1479, 1480, 1481, 1482, 1483, 1484, 1485, 1486, 1487] (by decide +kernel) (by decide +kernel)
set_option maxRecDepth 20000 in
theorem gL_law_X6_purse : GoodIn wsL_law (wsV RL 284 RX6 yX6_purse wsX6_purse) := goodIn_app (goodIn_of _ (by decide +kernel)) ggL_law_X6_purse
set_option maxRecDepth 20000 in
theorem ggL_law_X7_purse : GoodIn wsL_law wsX7_purse := goodIn_r _ [1397, 199, 1398, 1399, 1400, 5, 1401, 109, 1462, 1463, 1464, 1465, 1466, 1467, 1468, 1469, 1470, 1471, 1472, 1473, 1474, 1475, 1476, 1477] (by decide +kernel) (by decide +kernel)
set_option maxRecDepth 20000 in
theorem gL_law_X7_purse : GoodIn wsL_law (wsV RL 287 RX7 yX7_purse wsX7_purse) := goodIn_app (goodIn_of _ (by decide +kernel)) ggL_law_X7_purse
set_option maxRecDepth 20000 in
theorem ggL_law_X6_purseByAccounts : GoodIn wsL_law wsX6_purseByAccounts := goodIn_r _ [1405, 16, 1406, 1407, 1408, 1409, 1454, 1455, 1456, 1457, 1458, 1459, 1460, 1461, 1478, 1479, 1480, 1481, 1482, 1483, 1484, 1485, 1486, 1487] (by decide +kernel) (by decide +kernel)
set_option maxRecDepth 20000 in
theorem gL_law_X6_purseByAccounts : GoodIn wsL_law (wsV RL 288 RX6 yX6_purseByAccounts wsX6_purseByAccounts) := goodIn_app (goodIn_of _ (by decide +kernel)) ggL_law_X6_purseByAccounts
set_option maxRecDepth 20000 in
theorem ggL_law_X7_purseByAccounts : GoodIn wsL_law wsX7_purseByAccounts := goodIn_r _ [1413, 199, 1398, 1399, 1400, 5, 1401, 109, 1462, 1463, 1464, 1465, 1466, 1467, 1468, 1469, 1470, 1471, 1472, 1473, 1474, 1475, 1476, 1477] (by decide +kernel) (by decide +kernel)
set_option maxRecDepth 20000 in
theorem gL_law_X7_purseByAccounts : GoodIn wsL_law (wsV RL 291 RX7 yX7_purseByAccounts wsX7_purseByAccounts) := goodIn_app (goodIn_of _ (by decide +kernel)) ggL_law_X7_purseByAccounts
set_option maxRecDepth 20000 in
theorem ggL_law_X6_collected : GoodIn wsL_law wsX6_collected := goodIn_r _ [1417, 16, 1406, 1454, 1455, 1456, 1457, 1458, 1459, 1460, 1461, 1478, 1479, 1480, 1481, 1482, 1483, 1484, 1485, 1486, 1487] (by decide +kernel) (by decide +kernel)
set_option maxRecDepth 20000 in
theorem gL_law_X6_collected : GoodIn wsL_law (wsV RL 292 RX6 yX6_collected wsX6_collected) := goodIn_app (goodIn_of _ (by decide +kernel)) ggL_law_X6_collected
set_option maxRecDepth 20000 in
theorem ggL_law_X7_collected : GoodIn wsL_law wsX7_collected := goodIn_r _ [1421, 199, 109, 1462, 1463, 1464, 1465, 1466, 1467, 1468, 1469, 1470, 1471, 1472, 1473, 1474, 1475, 1476, 1477] (by decide +kernel) (by decide +kernel)
set_option maxRecDepth 20000 in
theorem gL_law_X7_collected : GoodIn wsL_law (wsV RL 295 RX7 yX7_collected wsX7_collected) := goodIn_app (goodIn_of _ (by decide +kernel)) ggL_law_X7_collected
set_option maxRecDepth 20000 in
theorem ggL_law_X6_fees : GoodIn wsL_law wsX6_fees := goodIn_r _ [1425, 16, 1408, 1454, 1455, 1456, 1457, 1458, 1459, 1460, 1461, 1478, 1479, 1480, 1481, 1482, 1483, 1484, 1485, 1486, 1487] (by decide +kernel) (by decide +kernel)
set_option maxRecDepth 20000 in
theorem gL_law_X6_fees : GoodIn wsL_law (wsV RL 296 RX6 yX6_fees wsX6_fees) := goodIn_app (goodIn_of _ (by decide +kernel)) ggL_law_X6_fees
set_option maxRecDepth 20000 in
theorem ggL_law_X7_fees : GoodIn wsL_law wsX7_fees := goodIn_r _ [1429, 199, 109, 1462, 1463, 1464, 1465, 1466, 1467, 1468, 1469, 1470, 1471, 1472, 1473, 1474, 1475, 1476, 1477] (by decide +kernel) (by decide +kernel)
set_option maxRecDepth 20000 in
theorem gL_law_X7_fees : GoodIn wsL_law (wsV RL 299 RX7 yX7_fees wsX7_fees) := goodIn_app (goodIn_of _ (by decide +kernel)) ggL_law_X7_fees
set_option maxRecDepth 20000 in
theorem ggL_law_X6_fines : GoodIn wsL_law wsX6_fines := goodIn_r _ [1433, 16, 1409, 1454, 1455, 1456, 1457, 1458, 1459, 1460, 1461, 1478, 1479, 1480, 1481, 1482, 1483, 1484, 1485, 1486, 1487] (by decide +kernel) (by decide +kernel)
set_option maxRecDepth 20000 in
theorem gL_law_X6_fines : GoodIn wsL_law (wsV RL 300 RX6 yX6_fines wsX6_fines) := goodIn_app (goodIn_of _ (by decide +kernel)) ggL_law_X6_fines
set_option maxRecDepth 20000 in
theorem ggL_law_X7_fines : GoodIn wsL_law wsX7_fines := goodIn_r _ [1437, 199, 109, 1462, 1463, 1464, 1465, 1466, 1467, 1468, 1469, 1470, 1471, 1472, 1473, 1474, 1475, 1476, 1477] (by decide +kernel) (by decide +kernel)
set_option maxRecDepth 20000 in
theorem gL_law_X7_fines : GoodIn wsL_law (wsV RL 303 RX7 yX7_fines wsX7_fines) := goodIn_app (goodIn_of _ (by decide +kernel)) ggL_law_X7_fines
set_option maxRecDepth 20000 in
theorem ggL_law_X6_day : GoodIn wsL_law wsX6_day := goodIn_r _ [1441, 16, 981, 1454, 1455, 1456, 1457, 1458, 1459, 1460, 1461, 1478, 1479, 1480, 1481, 1482, 1483, 1484, 1485, 1486, 1487] (by decide +kernel) (by decide +kernel)
set_option maxRecDepth 20000 in
theorem gL_law_X6_day : GoodIn wsL_law (wsV RL 304 RX6 yX6_day wsX6_day) := goodIn_app (goodIn_of _ (by decide +kernel)) ggL_law_X6_day
set_option maxRecDepth 20000 in
theorem ggL_law_X7_day : GoodIn wsL_law wsX7_day := goodIn_r _ [1445, 199, 109, 1462, 1463, 1464, 1465, 1466, 1467, 1468, 1469, 1470, 1471, 1472, 1473, 1474, 1475, 1476, 1477] (by decide +kernel) (by decide +kernel)
set_option maxRecDepth 20000 in
theorem gL_law_X7_day : GoodIn wsL_law (wsV RL 307 RX7 yX7_day wsX7_day) := goodIn_app (goodIn_of _ (by decide +kernel)) ggL_law_X7_day
