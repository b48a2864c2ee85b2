set_option maxRecDepth 20000 in
theorem ggX3_descantToCome_X3_make_q2 : GoodIn wsX3_descantToCome (wsX3_make_r1) := goodIn_r _ [23, 8, 24, 25, 4, 5, 6, 7, 1, 26, 27, 28, 29, 30, 21, 31, 10, 32, 33, 34, 35, 36, 37, 38] (by decide +kernel) (by decide +kernel)
set_option maxRecDepth 20000 in
theorem ggX3_descantToCome_X3_make_q3 : GoodIn wsX3_descantToCome (wsX3_make_r2) := goodIn_r _ [39, 40, 41, 42, 43, 44, 45, 46, 47, 48, 49, 50, 51, 52, 53, 54, 55, 56, 57, 58, 59, 60, 61, 62] (by decide +kernel) (by decide +kernel)
set_option maxRecDepth 20000 in
theorem ggX3_descantToCome_X3_make_q4 : GoodIn wsX3_descantToCome (wsX3_make_r3) := goodIn_r _ [63, 64, 65, 66, 67, 68, 69, 70, 71, 72, 73, 74, 75, 76, 77, 78, 79, 80, 81, 82, 83, 84, 85, 86] (by decide +kernel) (by decide +kernel)
set_option maxRecDepth 20000 in
theorem ggX3_descantToCome_X3_make_q5 : GoodIn wsX3_descantToCome (wsX3_make_r4) := goodIn_r _ [87, 88, 89, 90, 91, 92, 93, 94, 95, 96, 97, 98, 99, 100, 101, 102, 103, 104, 105, 106, 107, 108, 109, 110] (by decide +kernel) (by decide +kernel)
set_option maxRecDepth 20000 in
theorem ggX3_descantToCome_X3_make_q6 : GoodIn wsX3_descantToCome (wsX3_make_r5) := goodIn_r _ [111, 112] (by decide +kernel) (by decide +kernel)
set_option maxRecDepth 20000 in
theorem ggX3_descantToCome_X3_make_q7 : GoodIn wsX3_descantToCome (wsX30) := goodIn_r _ [144, 145, 146, 147, 148] (by decide +kernel) (by decide +kernel)
set_option maxRecDepth 20000 in
theorem ggX3_descantToCome_X3_make_q8 : GoodIn wsX3_descantToCome (wsX00) := goodIn_r _ [122, 123, 124, 125, 126, 127, 128, 129, 130, 131] (by decide +kernel) (by decide +kernel)
set_option maxRecDepth 20000 in
theorem ggX3_descantToCome_X3_make_q9 : GoodIn wsX3_descantToCome (wsX10) := goodIn_r _ [149, 150, 151, 152, 153, 154, 155, 156] (by decide +kernel) (by decide +kernel)
set_option maxRecDepth 20000 in
theorem ggX3_descantToCome_X3_make_q10 : GoodIn wsX3_descantToCome (wsX50) := goodIn_r _ [132, 133, 134, 135, 136, 137, 138, 139, 140, 141, 142, 143] (by decide +kernel) (by decide +kernel)
set_option maxRecDepth 20000 in
theorem ggX3_descantToCome_X3_make_q11 : GoodIn wsX3_descantToCome (wsX40) := goodIn_r _ [157, 158, 159, 160] (by decide +kernel) (by decide +kernel)
theorem ggX3_descantToCome_X3_make : GoodIn wsX3_descantToCome wsX3_make := (goodIn_app (a := [Cond.code yX3_make cX3_make 6 none]) ggX3_descantToCome_X3_make_q1 (goodIn_app (goodIn_app (goodIn_app (goodIn_app (goodIn_app (goodIn_app ggX3_descantToCome_X3_make_q2 (goodIn_app ggX3_descantToCome_X3_make_q3 (goodIn_app ggX3_descantToCome_X3_make_q4 (goodIn_app ggX3_descantToCome_X3_make_q5 ggX3_descantToCome_X3_make_q6)))) ggX3_descantToCome_X3_make_q7) ggX3_descantToCome_X3_make_q8) ggX3_descantToCome_X3_make_q9) ggX3_descantToCome_X3_make_q10) ggX3_descantToCome_X3_make_q11))
set_option maxRecDepth 20000 in
theorem gX3_descantToCome_X3_make : GoodIn wsX3_descantToCome (wsV RX3 49 RX3 yX3_make wsX3_make) := goodIn_app (goodIn_of _ (by decide +kernel)) ggX3_descantToCome_X3_make
set_option maxRecDepth 20000 in
theorem ggX3_descantToCome_X3_chooseDescant : GoodIn wsX3_descantToCome wsX3_chooseDescant := goodIn_r _ [116, 26, 23, 117, 118, 119, 42, 120, 121, 132, 133, 134, 135, 136, 137, 138, 139, 140, 141, 142, 143, 144, 145, 146, 147, 148] (by decide +kernel) (by decide +kernel)
set_option maxRecDepth 20000 in
theorem gX3_descantToCome_X3_chooseDescant : GoodIn wsX3_descantToCome (wsV RX3 130 RX3 yX3_chooseDescant wsX3_chooseDescant) := goodIn_app (goodIn_of _ (by decide +kernel)) ggX3_descantToCome_X3_chooseDescant
theorem dX3_descantToCome_0 : decode cX3_descantToCome 0 = .ok (.aload_n 1, 1) := by decide +kernel
theorem dX3_descantToCome_1 : decode cX3_descantToCome 1 = .ok (.getfield 65, 3) := by decide +kernel
theorem dX3_descantToCome_4 : decode cX3_descantToCome 4 = .ok (.getfield 122, 3) := by decide +kernel
theorem dX3_descantToCome_7 : decode cX3_descantToCome 7 = .ok (.iconst 0, 1) := by decide +kernel
theorem dX3_descantToCome_8 : decode cX3_descantToCome 8 = .ok (.aload_n 0, 1) := by decide +kernel
theorem dX3_descantToCome_9 : decode cX3_descantToCome 9 = .ok (.getfield 24, 3) := by decide +kernel
theorem dX3_descantToCome_12 : decode cX3_descantToCome 12 = .ok (.iconst 0, 1) := by decide +kernel
theorem dX3_descantToCome_13 : decode cX3_descantToCome 13 = .ok (.bipush 30, 2) := by decide +kernel
theorem dX3_descantToCome_15 : decode cX3_descantToCome 15 = .ok (.invokestatic 43, 3) := by decide +kernel
theorem dX3_descantToCome_18 : decode cX3_descantToCome 18 = .ok (.aload_n 1, 1) := by decide +kernel
theorem dX3_descantToCome_19 : decode cX3_descantToCome 19 = .ok (.getfield 33, 3) := by decide +kernel
theorem dX3_descantToCome_22 : decode cX3_descantToCome 22 = .ok (.aload_n 1, 1) := by decide +kernel
theorem dX3_descantToCome_23 : decode cX3_descantToCome 23 = .ok (.getfield 125, 3) := by decide +kernel
theorem dX3_descantToCome_26 : decode cX3_descantToCome 26 = .ok (.invokevirtual 127, 3) := by decide +kernel
theorem dX3_descantToCome_29 : decode cX3_descantToCome 29 = .ok (.istore_n 3, 1) := by decide +kernel
theorem dX3_descantToCome_30 : decode cX3_descantToCome 30 = .ok (.iconst 0, 1) := by decide +kernel
theorem dX3_descantToCome_31 : decode cX3_descantToCome 31 = .ok (.istore 4, 2) := by decide +kernel
theorem dX3_descantToCome_33 : decode cX3_descantToCome 33 = .ok (.iload 4, 2) := by decide +kernel
theorem dX3_descantToCome_35 : decode cX3_descantToCome 35 = .ok (.bipush 20, 2) := by decide +kernel
theorem dX3_descantToCome_37 : decode cX3_descantToCome 37 = .ok (.if_icmp .ge 76, 3) := by decide +kernel
theorem dX3_descantToCome_40 : decode cX3_descantToCome 40 = .ok (.iload_n 3, 1) := by decide +kernel
theorem dX3_descantToCome_41 : decode cX3_descantToCome 41 = .ok (.iconst (-1), 1) := by decide +kernel
theorem dX3_descantToCome_42 : decode cX3_descantToCome 42 = .ok (.if_icmp .eq 71, 3) := by decide +kernel
theorem dX3_descantToCome_45 : decode cX3_descantToCome 45 = .ok (.aload_n 0, 1) := by decide +kernel
theorem dX3_descantToCome_46 : decode cX3_descantToCome 46 = .ok (.aload_n 1, 1) := by decide +kernel
theorem dX3_descantToCome_47 : decode cX3_descantToCome 47 = .ok (.iload_n 3, 1) := by decide +kernel
theorem dX3_descantToCome_48 : decode cX3_descantToCome 48 = .ok (.invokevirtual 49, 3) := by decide +kernel
theorem dX3_descantToCome_51 : decode cX3_descantToCome 51 = .ok (.aload_n 0, 1) := by decide +kernel
theorem dX3_descantToCome_52 : decode cX3_descantToCome 52 = .ok (.aload_n 1, 1) := by decide +kernel
theorem dX3_descantToCome_53 : decode cX3_descantToCome 53 = .ok (.getfield 65, 3) := by decide +kernel
theorem dX3_descantToCome_56 : decode cX3_descantToCome 56 = .ok (.aload_n 0, 1) := by decide +kernel
theorem dX3_descantToCome_57 : decode cX3_descantToCome 57 = .ok (.getfield 24, 3) := by decide +kernel
theorem dX3_descantToCome_60 : decode cX3_descantToCome 60 = .ok (.invokevirtual 130, 3) := by decide +kernel
theorem dX3_descantToCome_63 : decode cX3_descantToCome 63 = .ok (.istore 5, 2) := by decide +kernel
theorem dX3_descantToCome_65 : decode cX3_descantToCome 65 = .ok (.iload_n 3, 1) := by decide +kernel
theorem dX3_descantToCome_66 : decode cX3_descantToCome 66 = .ok (.iload_n 2, 1) := by decide +kernel
theorem dX3_descantToCome_67 : decode cX3_descantToCome 67 = .ok (.if_icmp .ne 6, 3) := by decide +kernel
theorem dX3_descantToCome_70 : decode cX3_descantToCome 70 = .ok (.iload 5, 2) := by decide +kernel
theorem dX3_descantToCome_72 : decode cX3_descantToCome 72 = .ok (.ireturn, 1) := by decide +kernel
theorem dX3_descantToCome_73 : decode cX3_descantToCome 73 = .ok (.iload 5, 2) := by decide +kernel
theorem dX3_descantToCome_75 : decode cX3_descantToCome 75 = .ok (.iconst (-1), 1) := by decide +kernel
theorem dX3_descantToCome_76 : decode cX3_descantToCome 76 = .ok (.if_icmp .eq 14, 3) := by decide +kernel
theorem dX3_descantToCome_79 : decode cX3_descantToCome 79 = .ok (.aload_n 0, 1) := by decide +kernel
theorem dX3_descantToCome_80 : decode cX3_descantToCome 80 = .ok (.getfield 24, 3) := by decide +kernel
theorem dX3_descantToCome_83 : decode cX3_descantToCome 83 = .ok (.iload 5, 2) := by decide +kernel
theorem dX3_descantToCome_85 : decode cX3_descantToCome 85 = .ok (.dup2, 1) := by decide +kernel
theorem dX3_descantToCome_86 : decode cX3_descantToCome 86 = .ok (.iaload, 1) := by decide +kernel
theorem dX3_descantToCome_87 : decode cX3_descantToCome 87 = .ok (.iconst 1, 1) := by decide +kernel
theorem dX3_descantToCome_88 : decode cX3_descantToCome 88 = .ok (.iadd, 1) := by decide +kernel
theorem dX3_descantToCome_89 : decode cX3_descantToCome 89 = .ok (.iastore, 1) := by decide +kernel
theorem dX3_descantToCome_90 : decode cX3_descantToCome 90 = .ok (.aload_n 1, 1) := by decide +kernel
theorem dX3_descantToCome_91 : decode cX3_descantToCome 91 = .ok (.getfield 33, 3) := by decide +kernel
theorem dX3_descantToCome_94 : decode cX3_descantToCome 94 = .ok (.aload_n 1, 1) := by decide +kernel
theorem dX3_descantToCome_95 : decode cX3_descantToCome 95 = .ok (.getfield 33, 3) := by decide +kernel
theorem dX3_descantToCome_98 : decode cX3_descantToCome 98 = .ok (.getfield 91, 3) := by decide +kernel
theorem dX3_descantToCome_101 : decode cX3_descantToCome 101 = .ok (.iload_n 3, 1) := by decide +kernel
theorem dX3_descantToCome_102 : decode cX3_descantToCome 102 = .ok (.iaload, 1) := by decide +kernel
theorem dX3_descantToCome_103 : decode cX3_descantToCome 103 = .ok (.invokevirtual 127, 3) := by decide +kernel
theorem dX3_descantToCome_106 : decode cX3_descantToCome 106 = .ok (.istore_n 3, 1) := by decide +kernel
theorem dX3_descantToCome_107 : decode cX3_descantToCome 107 = .ok (.iinc 4 1, 3) := by decide +kernel
theorem dX3_descantToCome_110 : decode cX3_descantToCome 110 = .ok (.goto (-77), 3) := by decide +kernel
theorem dX3_descantToCome_113 : decode cX3_descantToCome 113 = .ok (.iconst (-1), 1) := by decide +kernel
theorem dX3_descantToCome_114 : decode cX3_descantToCome 114 = .ok (.ireturn, 1) := by decide +kernel
set_option maxRecDepth 20000 in
theorem ggX3_rankByHeight_X5_sitsBefore : GoodIn wsX3_rankByHeight wsX5_sitsBefore := goodIn_r _ [7, 8, 14, 15, 16, 17, 18, 19, 20, 21, 22, 23, 24, 25] (by decide +kernel) (by decide +kernel)
set_option maxRecDepth 20000 in
theorem gX3_rankByHeight_X5_sitsBefore : GoodIn wsX3_rankByHeight (wsV RX3 134 RX5 yX5_sitsBefore wsX5_sitsBefore) := goodIn_app (goodIn_of _ (by decide +kernel)) ggX3_rankByHeight_X5_sitsBefore
theorem dX3_rankByHeight_0 : decode cX3_rankByHeight 0 = .ok (.aload_n 0, 1) := by decide +kernel
theorem dX3_rankByHeight_1 : decode cX3_rankByHeight 1 = .ok (.getfield 9, 3) := by decide +kernel
theorem dX3_rankByHeight_4 : decode cX3_rankByHeight 4 = .ok (.iload_n 2, 1) := by decide +kernel
theorem dX3_rankByHeight_5 : decode cX3_rankByHeight 5 = .ok (.iaload, 1) := by decide +kernel
theorem dX3_rankByHeight_6 : decode cX3_rankByHeight 6 = .ok (.iconst (-1), 1) := by decide +kernel
theorem dX3_rankByHeight_7 : decode cX3_rankByHeight 7 = .ok (.if_icmp .ne 5, 3) := by decide +kernel
theorem dX3_rankByHeight_10 : decode cX3_rankByHeight 10 = .ok (.iconst (-1), 1) := by decide +kernel
theorem dX3_rankByHeight_11 : decode cX3_rankByHeight 11 = .ok (.ireturn, 1) := by decide +kernel
theorem dX3_rankByHeight_12 : decode cX3_rankByHeight 12 = .ok (.iconst 0, 1) := by decide +kernel
theorem dX3_rankByHeight_13 : decode cX3_rankByHeight 13 = .ok (.istore_n 3, 1) := by decide +kernel
theorem dX3_rankByHeight_14 : decode cX3_rankByHeight 14 = .ok (.iconst 0, 1) := by decide +kernel
theorem dX3_rankByHeight_15 : decode cX3_rankByHeight 15 = .ok (.istore 4, 2) := by decide +kernel
theorem dX3_rankByHeight_17 : decode cX3_rankByHeight 17 = .ok (.iload 4, 2) := by decide +kernel
theorem dX3_rankByHeight_19 : decode cX3_rankByHeight 19 = .ok (.aload_n 1, 1) := by decide +kernel
theorem dX3_rankByHeight_20 : decode cX3_rankByHeight 20 = .ok (.getfield 69, 3) := by decide +kernel
theorem dX3_rankByHeight_23 : decode cX3_rankByHeight 23 = .ok (.if_icmp .ge 38, 3) := by decide +kernel
theorem dX3_rankByHeight_26 : decode cX3_rankByHeight 26 = .ok (.aload_n 0, 1) := by decide +kernel
theorem dX3_rankByHeight_27 : decode cX3_rankByHeight 27 = .ok (.getfield 9, 3) := by decide +kernel
theorem dX3_rankByHeight_30 : decode cX3_rankByHeight 30 = .ok (.iload 4, 2) := by decide +kernel
theorem dX3_rankByHeight_32 : decode cX3_rankByHeight 32 = .ok (.iaload, 1) := by decide +kernel
theorem dX3_rankByHeight_33 : decode cX3_rankByHeight 33 = .ok (.aload_n 0, 1) := by decide +kernel
theorem dX3_rankByHeight_34 : decode cX3_rankByHeight 34 = .ok (.getfield 9, 3) := by decide +kernel
theorem dX3_rankByHeight_37 : decode cX3_rankByHeight 37 = .ok (.iload_n 2, 1) := by decide +kernel
theorem dX3_rankByHeight_38 : decode cX3_rankByHeight 38 = .ok (.iaload, 1) := by decide +kernel
theorem dX3_rankByHeight_39 : decode cX3_rankByHeight 39 = .ok (.if_icmp .ne 16, 3) := by decide +kernel
theorem dX3_rankByHeight_42 : decode cX3_rankByHeight 42 = .ok (.aload_n 1, 1) := by decide +kernel
theorem dX3_rankByHeight_43 : decode cX3_rankByHeight 43 = .ok (.iload 4, 2) := by decide +kernel
theorem dX3_rankByHeight_45 : decode cX3_rankByHeight 45 = .ok (.iload_n 2, 1) := by decide +kernel
theorem dX3_rankByHeight_46 : decode cX3_rankByHeight 46 = .ok (.invokevirtual 134, 3) := by decide +kernel
theorem dX3_rankByHeight_49 : decode cX3_rankByHeight 49 = .ok (.ifCond .eq 6, 3) := by decide +kernel
theorem dX3_rankByHeight_52 : decode cX3_rankByHeight 52 = .ok (.iinc 3 1, 3) := by decide +kernel
theorem dX3_rankByHeight_55 : decode cX3_rankByHeight 55 = .ok (.iinc 4 1, 3) := by decide +kernel
theorem dX3_rankByHeight_58 : decode cX3_rankByHeight 58 = .ok (.goto (-41), 3) := by decide +kernel
theorem dX3_rankByHeight_61 : decode cX3_rankByHeight 61 = .ok (.iload_n 3, 1) := by decide +kernel
theorem dX3_rankByHeight_62 : decode cX3_rankByHeight 62 = .ok (.ireturn, 1) := by decide +kernel
theorem dX4_init_0 : decode cX4_init 0 = .ok (.aload_n 0, 1) := by decide +kernel
theorem dX4_init_1 : decode cX4_init 1 = .ok (.invokespecial 3, 3) := by decide +kernel
theorem dX4_init_4 : decode cX4_init 4 = .ok (.aload_n 0, 1) := by decide +kernel
theorem dX4_init_5 : decode cX4_init 5 = .ok (.iconst 0, 1) := by decide +kernel
theorem dX4_init_6 : decode cX4_init 6 = .ok (.putfield 9, 3) := by decide +kernel
theorem dX4_init_9 : decode cX4_init 9 = .ok (.aload_n 0, 1) := by decide +kernel
theorem dX4_init_10 : decode cX4_init 10 = .ok (.bipush 60, 2) := by decide +kernel
theorem dX4_init_12 : decode cX4_init 12 = .ok (.newarray .int, 2) := by decide +kernel
theorem dX4_init_14 : decode cX4_init 14 = .ok (.putfield 15, 3) := by decide +kernel
theorem dX4_init_17 : decode cX4_init 17 = .ok (.aload_n 0, 1) := by decide +kernel
theorem dX4_init_18 : decode cX4_init 18 = .ok (.bipush 60, 2) := by decide +kernel
theorem dX4_init_20 : decode cX4_init 20 = .ok (.newarray .int, 2) := by decide +kernel
theorem dX4_init_22 : decode cX4_init 22 = .ok (.putfield 19, 3) := by decide +kernel
theorem dX4_init_25 : decode cX4_init 25 = .ok (.aload_n 0, 1) := by decide +kernel
theorem dX4_init_26 : decode cX4_init 26 = .ok (.bipush 60, 2) := by decide +kernel
theorem dX4_init_28 : decode cX4_init 28 = .ok (.newarray .int, 2) := by decide +kernel
theorem dX4_init_30 : decode cX4_init 30 = .ok (.putfield 22, 3) := by decide +kernel
theorem dX4_init_33 : decode cX4_init 33 = .ok (.return_, 1) := by decide +kernel
theorem dX4_copyFrom_0 : decode cX4_copyFrom 0 = .ok (.aload_n 0, 1) := by decide +kernel
theorem dX4_copyFrom_1 : decode cX4_copyFrom 1 = .ok (.aload_n 1, 1) := by decide +kernel
theorem dX4_copyFrom_2 : decode cX4_copyFrom 2 = .ok (.getfield 9, 3) := by decide +kernel
theorem dX4_copyFrom_5 : decode cX4_copyFrom 5 = .ok (.putfield 9, 3) := by decide +kernel
theorem dX4_copyFrom_8 : decode cX4_copyFrom 8 = .ok (.aload_n 1, 1) := by decide +kernel
theorem dX4_copyFrom_9 : decode cX4_copyFrom 9 = .ok (.getfield 15, 3) := by decide +kernel
theorem dX4_copyFrom_12 : decode cX4_copyFrom 12 = .ok (.iconst 0, 1) := by decide +kernel
theorem dX4_copyFrom_13 : decode cX4_copyFrom 13 = .ok (.aload_n 0, 1) := by decide +kernel
theorem dX4_copyFrom_14 : decode cX4_copyFrom 14 = .ok (.getfield 15, 3) := by decide +kernel
theorem dX4_copyFrom_17 : decode cX4_copyFrom 17 = .ok (.iconst 0, 1) := by decide +kernel
theorem dX4_copyFrom_18 : decode cX4_copyFrom 18 = .ok (.aload_n 0, 1) := by decide +kernel
theorem dX4_copyFrom_19 : decode cX4_copyFrom 19 = .ok (.getfield 9, 3) := by decide +kernel
theorem dX4_copyFrom_22 : decode cX4_copyFrom 22 = .ok (.invokestatic 25, 3) := by decide +kernel
theorem dX4_copyFrom_25 : decode cX4_copyFrom 25 = .ok (.aload_n 1, 1) := by decide +kernel
theorem dX4_copyFrom_26 : decode cX4_copyFrom 26 = .ok (.getfield 19, 3) := by decide +kernel
theorem dX4_copyFrom_29 : decode cX4_copyFrom 29 = .ok (.iconst 0, 1) := by decide +kernel
theorem dX4_copyFrom_30 : decode cX4_copyFrom 30 = .ok (.aload_n 0, 1) := by decide +kernel
theorem dX4_copyFrom_31 : decode cX4_copyFrom 31 = .ok (.getfield 19, 3) := by decide +kernel
theorem dX4_copyFrom_34 : decode cX4_copyFrom 34 = .ok (.iconst 0, 1) := by decide +kernel
theorem dX4_copyFrom_35 : decode cX4_copyFrom 35 = .ok (.aload_n 0, 1) := by decide +kernel
theorem dX4_copyFrom_36 : decode cX4_copyFrom 36 = .ok (.getfield 9, 3) := by decide +kernel
theorem dX4_copyFrom_39 : decode cX4_copyFrom 39 = .ok (.invokestatic 25, 3) := by decide +kernel
theorem dX4_copyFrom_42 : decode cX4_copyFrom 42 = .ok (.aload_n 1, 1) := by decide +kernel
theorem dX4_copyFrom_43 : decode cX4_copyFrom 43 = .ok (.getfield 22, 3) := by decide +kernel
theorem dX4_copyFrom_46 : decode cX4_copyFrom 46 = .ok (.iconst 0, 1) := by decide +kernel
theorem dX4_copyFrom_47 : decode cX4_copyFrom 47 = .ok (.aload_n 0, 1) := by decide +kernel
theorem dX4_copyFrom_48 : decode cX4_copyFrom 48 = .ok (.getfield 22, 3) := by decide +kernel
theorem dX4_copyFrom_51 : decode cX4_copyFrom 51 = .ok (.iconst 0, 1) := by decide +kernel
theorem dX4_copyFrom_52 : decode cX4_copyFrom 52 = .ok (.aload_n 0, 1) := by decide +kernel
theorem dX4_copyFrom_53 : decode cX4_copyFrom 53 = .ok (.getfield 9, 3) := by decide +kernel
theorem dX4_copyFrom_56 : decode cX4_copyFrom 56 = .ok (.invokestatic 25, 3) := by decide +kernel
theorem dX4_copyFrom_59 : decode cX4_copyFrom 59 = .ok (.return_, 1) := by decide +kernel
theorem dX4_areFull_0 : decode cX4_areFull 0 = .ok (.aload_n 0, 1) := by decide +kernel
theorem dX4_areFull_1 : decode cX4_areFull 1 = .ok (.getfield 9, 3) := by decide +kernel
theorem dX4_areFull_4 : decode cX4_areFull 4 = .ok (.bipush 60, 2) := by decide +kernel
theorem dX4_areFull_6 : decode cX4_areFull 6 = .ok (.if_icmp .lt 7, 3) := by decide +kernel
theorem dX4_areFull_9 : decode cX4_areFull 9 = .ok (.iconst 1, 1) := by decide +kernel
theorem dX4_areFull_10 : decode cX4_areFull 10 = .ok (.goto 4, 3) := by decide +kernel
theorem dX4_areFull_13 : decode cX4_areFull 13 = .ok (.iconst 0, 1) := by decide +kernel
theorem dX4_areFull_14 : decode cX4_areFull 14 = .ok (.ireturn, 1) := by decide +kernel
theorem dX4_add_0 : decode cX4_add 0 = .ok (.aload_n 0, 1) := by decide +kernel
theorem dX4_add_1 : decode cX4_add 1 = .ok (.getfield 15, 3) := by decide +kernel
theorem dX4_add_4 : decode cX4_add 4 = .ok (.aload_n 0, 1) := by decide +kernel
theorem dX4_add_5 : decode cX4_add 5 = .ok (.getfield 9, 3) := by decide +kernel
theorem dX4_add_8 : decode cX4_add 8 = .ok (.iload_n 1, 1) := by decide +kernel
theorem dX4_add_9 : decode cX4_add 9 = .ok (.iastore, 1) := by decide +kernel
theorem dX4_add_10 : decode cX4_add 10 = .ok (.aload_n 0, 1) := by decide +kernel
theorem dX4_add_11 : decode cX4_add 11 = .ok (.getfield 19, 3) := by decide +kernel
theorem dX4_add_14 : decode cX4_add 14 = .ok (.aload_n 0, 1) := by decide +kernel
theorem dX4_add_15 : decode cX4_add 15 = .ok (.getfield 9, 3) := by decide +kernel
theorem dX4_add_18 : decode cX4_add 18 = .ok (.iload_n 2, 1) := by decide +kernel
theorem dX4_add_19 : decode cX4_add 19 = .ok (.iastore, 1) := by decide +kernel
theorem dX4_add_20 : decode cX4_add 20 = .ok (.aload_n 0, 1) := by decide +kernel
theorem dX4_add_21 : decode cX4_add 21 = .ok (.getfield 22, 3) := by decide +kernel
theorem dX4_add_24 : decode cX4_add 24 = .ok (.aload_n 0, 1) := by decide +kernel
theorem dX4_add_25 : decode cX4_add 25 = .ok (.getfield 9, 3) := by decide +kernel
theorem dX4_add_28 : decode cX4_add 28 = .ok (.iload_n 3, 1) := by decide +kernel
theorem dX4_add_29 : decode cX4_add 29 = .ok (.iastore, 1) := by decide +kernel
theorem dX4_add_30 : decode cX4_add 30 = .ok (.aload_n 0, 1) := by decide +kernel
theorem dX4_add_31 : decode cX4_add 31 = .ok (.dup, 1) := by decide +kernel
theorem dX4_add_32 : decode cX4_add 32 = .ok (.getfield 9, 3) := by decide +kernel
theorem dX4_add_35 : decode cX4_add 35 = .ok (.iconst 1, 1) := by decide +kernel
theorem dX4_add_36 : decode cX4_add 36 = .ok (.iadd, 1) := by decide +kernel
theorem dX4_add_37 : decode cX4_add 37 = .ok (.putfield 9, 3) := by decide +kernel
theorem dX4_add_40 : decode cX4_add 40 = .ok (.iconst 0, 1) := by decide +kernel
theorem dX4_add_41 : decode cX4_add 41 = .ok (.istore 4, 2) := by decide +kernel
theorem dX4_add_43 : decode cX4_add 43 = .ok (.iconst 0, 1) := by decide +kernel
theorem dX4_add_44 : decode cX4_add 44 = .ok (.istore 5, 2) := by decide +kernel
theorem dX4_add_46 : decode cX4_add 46 = .ok (.iload 5, 2) := by decide +kernel
theorem dX4_add_48 : decode cX4_add 48 = .ok (.aload_n 0, 1) := by decide +kernel
theorem dX4_add_49 : decode cX4_add 49 = .ok (.getfield 9, 3) := by decide +kernel
theorem dX4_add_52 : decode cX4_add 52 = .ok (.if_icmp .ge 23, 3) := by decide +kernel
theorem dX4_add_55 : decode cX4_add 55 = .ok (.aload_n 0, 1) := by decide +kernel
theorem dX4_add_56 : decode cX4_add 56 = .ok (.getfield 15, 3) := by decide +kernel
theorem dX4_add_59 : decode cX4_add 59 = .ok (.iload 5, 2) := by decide +kernel
theorem dX4_add_61 : decode cX4_add 61 = .ok (.iaload, 1) := by decide +kernel
theorem dX4_add_62 : decode cX4_add 62 = .ok (.iload_n 1, 1) := by decide +kernel
theorem dX4_add_63 : decode cX4_add 63 = .ok (.if_icmp .ne 6, 3) := by decide +kernel
theorem dX4_add_66 : decode cX4_add 66 = .ok (.iinc 4 1, 3) := by decide +kernel
theorem dX4_add_69 : decode cX4_add 69 = .ok (.iinc 5 1, 3) := by decide +kernel
theorem dX4_add_72 : decode cX4_add 72 = .ok (.goto (-26), 3) := by decide +kernel
theorem dX4_add_75 : decode cX4_add 75 = .ok (.iload 4, 2) := by decide +kernel
theorem dX4_add_77 : decode cX4_add 77 = .ok (.ireturn, 1) := by decide +kernel
theorem dX4_coverAnyOf_0 : decode cX4_coverAnyOf 0 = .ok (.iconst 0, 1) := by decide +kernel
theorem dX4_coverAnyOf_1 : decode cX4_coverAnyOf 1 = .ok (.istore 4, 2) := by decide +kernel
theorem dX4_coverAnyOf_3 : decode cX4_coverAnyOf 3 = .ok (.iload 4, 2) := by decide +kernel
theorem dX4_coverAnyOf_5 : decode cX4_coverAnyOf 5 = .ok (.aload_n 0, 1) := by decide +kernel
theorem dX4_coverAnyOf_6 : decode cX4_coverAnyOf 6 = .ok (.getfield 9, 3) := by decide +kernel
theorem dX4_coverAnyOf_9 : decode cX4_coverAnyOf 9 = .ok (.if_icmp .ge 44, 3) := by decide +kernel
theorem dX4_coverAnyOf_12 : decode cX4_coverAnyOf 12 = .ok (.aload_n 0, 1) := by decide +kernel
theorem dX4_coverAnyOf_13 : decode cX4_coverAnyOf 13 = .ok (.getfield 15, 3) := by decide +kernel
theorem dX4_coverAnyOf_16 : decode cX4_coverAnyOf 16 = .ok (.iload 4, 2) := by decide +kernel
theorem dX4_coverAnyOf_18 : decode cX4_coverAnyOf 18 = .ok (.iaload, 1) := by decide +kernel
theorem dX4_coverAnyOf_19 : decode cX4_coverAnyOf 19 = .ok (.iload_n 1, 1) := by decide +kernel
theorem dX4_coverAnyOf_20 : decode cX4_coverAnyOf 20 = .ok (.if_icmp .ne 27, 3) := by decide +kernel
theorem dX4_coverAnyOf_23 : decode cX4_coverAnyOf 23 = .ok (.aload_n 0, 1) := by decide +kernel
theorem dX4_coverAnyOf_24 : decode cX4_coverAnyOf 24 = .ok (.getfield 19, 3) := by decide +kernel
theorem dX4_coverAnyOf_27 : decode cX4_coverAnyOf 27 = .ok (.iload 4, 2) := by decide +kernel
theorem dX4_coverAnyOf_29 : decode cX4_coverAnyOf 29 = .ok (.iaload, 1) := by decide +kernel
theorem dX4_coverAnyOf_30 : decode cX4_coverAnyOf 30 = .ok (.iload_n 3, 1) := by decide +kernel
theorem dX4_coverAnyOf_31 : decode cX4_coverAnyOf 31 = .ok (.if_icmp .gt 16, 3) := by decide +kernel
theorem dX4_coverAnyOf_34 : decode cX4_coverAnyOf 34 = .ok (.iload_n 2, 1) := by decide +kernel
theorem dX4_coverAnyOf_35 : decode cX4_coverAnyOf 35 = .ok (.aload_n 0, 1) := by decide +kernel
theorem dX4_coverAnyOf_36 : decode cX4_coverAnyOf 36 = .ok (.getfield 22, 3) := by decide +kernel
theorem dX4_coverAnyOf_39 : decode cX4_coverAnyOf 39 = .ok (.iload 4, 2) := by decide +kernel
theorem dX4_coverAnyOf_41 : decode cX4_coverAnyOf 41 = .ok (.iaload, 1) := by decide +kernel
theorem dX4_coverAnyOf_42 : decode cX4_coverAnyOf 42 = .ok (.if_icmp .gt 5, 3) := by decide +kernel
theorem dX4_coverAnyOf_45 : decode cX4_coverAnyOf 45 = .ok (.iconst 1, 1) := by decide +kernel
theorem dX4_coverAnyOf_46 : decode cX4_coverAnyOf 46 = .ok (.ireturn, 1) := by decide +kernel
theorem dX4_coverAnyOf_47 : decode cX4_coverAnyOf 47 = .ok (.iinc 4 1, 3) := by decide +kernel
theorem dX4_coverAnyOf_50 : decode cX4_coverAnyOf 50 = .ok (.goto (-47), 3) := by decide +kernel
theorem dX4_coverAnyOf_53 : decode cX4_coverAnyOf 53 = .ok (.iconst 0, 1) := by decide +kernel
theorem dX4_coverAnyOf_54 : decode cX4_coverAnyOf 54 = .ok (.ireturn, 1) := by decide +kernel
theorem dX5_init_0 : decode cX5_init 0 = .ok (.aload_n 0, 1) := by decide +kernel
theorem dX5_init_1 : decode cX5_init 1 = .ok (.invokespecial 3, 3) := by decide +kernel
theorem dX5_init_4 : decode cX5_init 4 = .ok (.aload_n 0, 1) := by decide +kernel
theorem dX5_init_5 : decode cX5_init 5 = .ok (.iconst 0, 1) := by decide +kernel
theorem dX5_init_6 : decode cX5_init 6 = .ok (.putfield 9, 3) := by decide +kernel
theorem dX5_init_9 : decode cX5_init 9 = .ok (.aload_n 0, 1) := by decide +kernel
theorem dX5_init_10 : decode cX5_init 10 = .ok (.bipush 30, 2) := by decide +kernel
theorem dX5_init_12 : decode cX5_init 12 = .ok (.newarray .int, 2) := by decide +kernel
theorem dX5_init_14 : decode cX5_init 14 = .ok (.putfield 15, 3) := by decide +kernel
theorem dX5_init_17 : decode cX5_init 17 = .ok (.aload_n 0, 1) := by decide +kernel
theorem dX5_init_18 : decode cX5_init 18 = .ok (.bipush 30, 2) := by decide +kernel
theorem dX5_init_20 : decode cX5_init 20 = .ok (.newarray .int, 2) := by decide +kernel
theorem dX5_init_22 : decode cX5_init 22 = .ok (.putfield 19, 3) := by decide +kernel
theorem dX5_init_25 : decode cX5_init 25 = .ok (.aload_n 0, 1) := by decide +kernel
theorem dX5_init_26 : decode cX5_init 26 = .ok (.bipush 30, 2) := by decide +kernel
theorem dX5_init_28 : decode cX5_init 28 = .ok (.newarray .int, 2) := by decide +kernel
theorem dX5_init_30 : decode cX5_init 30 = .ok (.putfield 22, 3) := by decide +kernel
theorem dX5_init_33 : decode cX5_init 33 = .ok (.aload_n 0, 1) := by decide +kernel
theorem dX5_init_34 : decode cX5_init 34 = .ok (.bipush 30, 2) := by decide +kernel
theorem dX5_init_36 : decode cX5_init 36 = .ok (.newarray .int, 2) := by decide +kernel
theorem dX5_init_38 : decode cX5_init 38 = .ok (.putfield 25, 3) := by decide +kernel
theorem dX5_init_41 : decode cX5_init 41 = .ok (.aload_n 0, 1) := by decide +kernel
theorem dX5_init_42 : decode cX5_init 42 = .ok (.bipush 30, 2) := by decide +kernel
theorem dX5_init_44 : decode cX5_init 44 = .ok (.newarray .int, 2) := by decide +kernel
theorem dX5_init_46 : decode cX5_init 46 = .ok (.putfield 28, 3) := by decide +kernel
theorem dX5_init_49 : decode cX5_init 49 = .ok (.aload_n 0, 1) := by decide +kernel
theorem dX5_init_50 : decode cX5_init 50 = .ok (.bipush 30, 2) := by decide +kernel
theorem dX5_init_52 : decode cX5_init 52 = .ok (.newarray .int, 2) := by decide +kernel
theorem dX5_init_54 : decode cX5_init 54 = .ok (.putfield 31, 3) := by decide +kernel
theorem dX5_init_57 : decode cX5_init 57 = .ok (.aload_n 0, 1) := by decide +kernel
theorem dX5_init_58 : decode cX5_init 58 = .ok (.bipush 30, 2) := by decide +kernel
theorem dX5_init_60 : decode cX5_init 60 = .ok (.newarray .int, 2) := by decide +kernel
theorem dX5_init_62 : decode cX5_init 62 = .ok (.putfield 34, 3) := by decide +kernel
theorem dX5_init_65 : decode cX5_init 65 = .ok (.aload_n 0, 1) := by decide +kernel
theorem dX5_init_66 : decode cX5_init 66 = .ok (.bipush 30, 2) := by decide +kernel
theorem dX5_init_68 : decode cX5_init 68 = .ok (.newarray .int, 2) := by decide +kernel
theorem dX5_init_70 : decode cX5_init 70 = .ok (.putfield 37, 3) := by decide +kernel
theorem dX5_init_73 : decode cX5_init 73 = .ok (.aload_n 0, 1) := by decide +kernel
theorem dX5_init_74 : decode cX5_init 74 = .ok (.bipush 30, 2) := by decide +kernel
theorem dX5_init_76 : decode cX5_init 76 = .ok (.newarray .int, 2) := by decide +kernel
theorem dX5_init_78 : decode cX5_init 78 = .ok (.putfield 40, 3) := by decide +kernel
theorem dX5_init_81 : decode cX5_init 81 = .ok (.aload_n 0, 1) := by decide +kernel
theorem dX5_init_82 : decode cX5_init 82 = .ok (.bipush 30, 2) := by decide +kernel
theorem dX5_init_84 : decode cX5_init 84 = .ok (.newarray .int, 2) := by decide +kernel
theorem dX5_init_86 : decode cX5_init 86 = .ok (.putfield 43, 3) := by decide +kernel
theorem dX5_init_89 : decode cX5_init 89 = .ok (.aload_n 0, 1) := by decide +kernel
theorem dX5_init_90 : decode cX5_init 90 = .ok (.bipush 30, 2) := by decide +kernel
theorem dX5_init_92 : decode cX5_init 92 = .ok (.newarray .int, 2) := by decide +kernel
theorem dX5_init_94 : decode cX5_init 94 = .ok (.putfield 46, 3) := by decide +kernel
theorem dX5_init_97 : decode cX5_init 97 = .ok (.return_, 1) := by decide +kernel
theorem dX5_copyFrom_0 : decode cX5_copyFrom 0 = .ok (.aload_n 0, 1) := by decide +kernel
theorem dX5_copyFrom_1 : decode cX5_copyFrom 1 = .ok (.aload_n 1, 1) := by decide +kernel
theorem dX5_copyFrom_2 : decode cX5_copyFrom 2 = .ok (.getfield 9, 3) := by decide +kernel
theorem dX5_copyFrom_5 : decode cX5_copyFrom 5 = .ok (.putfield 9, 3) := by decide +kernel
theorem dX5_copyFrom_8 : decode cX5_copyFrom 8 = .ok (.aload_n 1, 1) := by decide +kernel
theorem dX5_copyFrom_9 : decode cX5_copyFrom 9 = .ok (.getfield 15, 3) := by decide +kernel
theorem dX5_copyFrom_12 : decode cX5_copyFrom 12 = .ok (.iconst 0, 1) := by decide +kernel
theorem dX5_copyFrom_13 : decode cX5_copyFrom 13 = .ok (.aload_n 0, 1) := by decide +kernel
theorem dX5_copyFrom_14 : decode cX5_copyFrom 14 = .ok (.getfield 15, 3) := by decide +kernel
theorem dX5_copyFrom_17 : decode cX5_copyFrom 17 = .ok (.iconst 0, 1) := by decide +kernel
theorem dX5_copyFrom_18 : decode cX5_copyFrom 18 = .ok (.aload_n 0, 1) := by decide +kernel
theorem dX5_copyFrom_19 : decode cX5_copyFrom 19 = .ok (.getfield 9, 3) := by decide +kernel
theorem dX5_copyFrom_22 : decode cX5_copyFrom 22 = .ok (.invokestatic 49, 3) := by decide +kernel
theorem dX5_copyFrom_25 : decode cX5_copyFrom 25 = .ok (.aload_n 1, 1) := by decide +kernel
theorem dX5_copyFrom_26 : decode cX5_copyFrom 26 = .ok (.getfield 19, 3) := by decide +kernel
theorem dX5_copyFrom_29 : decode cX5_copyFrom 29 = .ok (.iconst 0, 1) := by decide +kernel
theorem dX5_copyFrom_30 : decode cX5_copyFrom 30 = .ok (.aload_n 0, 1) := by decide +kernel
theorem dX5_copyFrom_31 : decode cX5_copyFrom 31 = .ok (.getfield 19, 3) := by decide +kernel
theorem dX5_copyFrom_34 : decode cX5_copyFrom 34 = .ok (.iconst 0, 1) := by decide +kernel
theorem dX5_copyFrom_35 : decode cX5_copyFrom 35 = .ok (.aload_n 0, 1) := by decide +kernel
theorem dX5_copyFrom_36 : decode cX5_copyFrom 36 = .ok (.getfield 9, 3) := by decide +kernel
theorem dX5_copyFrom_39 : decode cX5_copyFrom 39 = .ok (.invokestatic 49, 3) := by decide +kernel
theorem dX5_copyFrom_42 : decode cX5_copyFrom 42 = .ok (.aload_n 1, 1) := by decide +kernel
theorem dX5_copyFrom_43 : decode cX5_copyFrom 43 = .ok (.getfield 22, 3) := by decide +kernel
theorem dX5_copyFrom_46 : decode cX5_copyFrom 46 = .ok (.iconst 0, 1) := by decide +kernel
theorem dX5_copyFrom_47 : decode cX5_copyFrom 47 = .ok (.aload_n 0, 1) := by decide +kernel
theorem dX5_copyFrom_48 : decode cX5_copyFrom 48 = .ok (.getfield 22, 3) := by decide +kernel
theorem dX5_copyFrom_51 : decode cX5_copyFrom 51 = .ok (.iconst 0, 1) := by decide +kernel
theorem dX5_copyFrom_52 : decode cX5_copyFrom 52 = .ok (.aload_n 0, 1) := by decide +kernel
theorem dX5_copyFrom_53 : decode cX5_copyFrom 53 = .ok (.getfield 9, 3) := by decide +kernel
theorem dX5_copyFrom_56 : decode cX5_copyFrom 56 = .ok (.invokestatic 49, 3) := by decide +kernel
theorem dX5_copyFrom_59 : decode cX5_copyFrom 59 = .ok (.aload_n 1, 1) := by decide +kernel
theorem dX5_copyFrom_60 : decode cX5_copyFrom 60 = .ok (.getfield 25, 3) := by decide +kernel
theorem dX5_copyFrom_63 : decode cX5_copyFrom 63 = .ok (.iconst 0, 1) := by decide +kernel
theorem dX5_copyFrom_64 : decode cX5_copyFrom 64 = .ok (.aload_n 0, 1) := by decide +kernel
theorem dX5_copyFrom_65 : decode cX5_copyFrom 65 = .ok (.getfield 25, 3) := by decide +kernel
theorem dX5_copyFrom_68 : decode cX5_copyFrom 68 = .ok (.iconst 0, 1) := by decide +kernel
theorem dX5_copyFrom_69 : decode cX5_copyFrom 69 = .ok (.aload_n 0, 1) := by decide +kernel
theorem dX5_copyFrom_70 : decode cX5_copyFrom 70 = .ok (.getfield 9, 3) := by decide +kernel
theorem dX5_copyFrom_73 : decode cX5_copyFrom 73 = .ok (.invokestatic 49, 3) := by decide +kernel
theorem dX5_copyFrom_76 : decode cX5_copyFrom 76 = .ok (.aload_n 1, 1) := by decide +kernel
theorem dX5_copyFrom_77 : decode cX5_copyFrom 77 = .ok (.getfield 28, 3) := by decide +kernel
theorem dX5_copyFrom_80 : decode cX5_copyFrom 80 = .ok (.iconst 0, 1) := by decide +kernel
theorem dX5_copyFrom_81 : decode cX5_copyFrom 81 = .ok (.aload_n 0, 1) := by decide +kernel
theorem dX5_copyFrom_82 : decode cX5_copyFrom 82 = .ok (.getfield 28, 3) := by decide +kernel
theorem dX5_copyFrom_85 : decode cX5_copyFrom 85 = .ok (.iconst 0, 1) := by decide +kernel
theorem dX5_copyFrom_86 : decode cX5_copyFrom 86 = .ok (.aload_n 0, 1) := by decide +kernel
theorem dX5_copyFrom_87 : decode cX5_copyFrom 87 = .ok (.getfield 9, 3) := by decide +kernel
theorem dX5_copyFrom_90 : decode cX5_copyFrom 90 = .ok (.invokestatic 49, 3) := by decide +kernel
theorem dX5_copyFrom_93 : decode cX5_copyFrom 93 = .ok (.aload_n 1, 1) := by decide +kernel
theorem dX5_copyFrom_94 : decode cX5_copyFrom 94 = .ok (.getfield 31, 3) := by decide +kernel
theorem dX5_copyFrom_97 : decode cX5_copyFrom 97 = .ok (.iconst 0, 1) := by decide +kernel
theorem dX5_copyFrom_98 : decode cX5_copyFrom 98 = .ok (.aload_n 0, 1) := by decide +kernel
theorem dX5_copyFrom_99 : decode cX5_copyFrom 99 = .ok (.getfield 31, 3) := by decide +kernel
theorem dX5_copyFrom_102 : decode cX5_copyFrom 102 = .ok (.iconst 0, 1) := by decide +kernel
theorem dX5_copyFrom_103 : decode cX5_copyFrom 103 = .ok (.aload_n 0, 1) := by decide +kernel
theorem dX5_copyFrom_104 : decode cX5_copyFrom 104 = .ok (.getfield 9, 3) := by decide +kernel
theorem dX5_copyFrom_107 : decode cX5_copyFrom 107 = .ok (.invokestatic 49, 3) := by decide +kernel
theorem dX5_copyFrom_110 : decode cX5_copyFrom 110 = .ok (.aload_n 1, 1) := by decide +kernel
theorem dX5_copyFrom_111 : decode cX5_copyFrom 111 = .ok (.getfield 34, 3) := by decide +kernel
theorem dX5_copyFrom_114 : decode cX5_copyFrom 114 = .ok (.iconst 0, 1) := by decide +kernel
theorem dX5_copyFrom_115 : decode cX5_copyFrom 115 = .ok (.aload_n 0, 1) := by decide +kernel
theorem dX5_copyFrom_116 : decode cX5_copyFrom 116 = .ok (.getfield 34, 3) := by decide +kernel
theorem dX5_copyFrom_119 : decode cX5_copyFrom 119 = .ok (.iconst 0, 1) := by decide +kernel
theorem dX5_copyFrom_120 : decode cX5_copyFrom 120 = .ok (.aload_n 0, 1) := by decide +kernel
theorem dX5_copyFrom_121 : decode cX5_copyFrom 121 = .ok (.getfield 9, 3) := by decide +kernel
theorem dX5_copyFrom_124 : decode cX5_copyFrom 124 = .ok (.invokestatic 49, 3) := by decide +kernel
theorem dX5_copyFrom_127 : decode cX5_copyFrom 127 = .ok (.aload_n 1, 1) := by decide +kernel
theorem dX5_copyFrom_128 : decode cX5_copyFrom 128 = .ok (.getfield 37, 3) := by decide +kernel
theorem dX5_copyFrom_131 : decode cX5_copyFrom 131 = .ok (.iconst 0, 1) := by decide +kernel
theorem dX5_copyFrom_132 : decode cX5_copyFrom 132 = .ok (.aload_n 0, 1) := by decide +kernel
theorem dX5_copyFrom_133 : decode cX5_copyFrom 133 = .ok (.getfield 37, 3) := by decide +kernel
theorem dX5_copyFrom_136 : decode cX5_copyFrom 136 = .ok (.iconst 0, 1) := by decide +kernel
theorem dX5_copyFrom_137 : decode cX5_copyFrom 137 = .ok (.aload_n 0, 1) := by decide +kernel
theorem dX5_copyFrom_138 : decode cX5_copyFrom 138 = .ok (.getfield 9, 3) := by decide +kernel
theorem dX5_copyFrom_141 : decode cX5_copyFrom 141 = .ok (.invokestatic 49, 3) := by decide +kernel
theorem dX5_copyFrom_144 : decode cX5_copyFrom 144 = .ok (.aload_n 1, 1) := by decide +kernel
theorem dX5_copyFrom_145 : decode cX5_copyFrom 145 = .ok (.getfield 40, 3) := by decide +kernel
theorem dX5_copyFrom_148 : decode cX5_copyFrom 148 = .ok (.iconst 0, 1) := by decide +kernel
theorem dX5_copyFrom_149 : decode cX5_copyFrom 149 = .ok (.aload_n 0, 1) := by decide +kernel
theorem dX5_copyFrom_150 : decode cX5_copyFrom 150 = .ok (.getfield 40, 3) := by decide +kernel
theorem dX5_copyFrom_153 : decode cX5_copyFrom 153 = .ok (.iconst 0, 1) := by decide +kernel
theorem dX5_copyFrom_154 : decode cX5_copyFrom 154 = .ok (.aload_n 0, 1) := by decide +kernel
theorem dX5_copyFrom_155 : decode cX5_copyFrom 155 = .ok (.getfield 9, 3) := by decide +kernel
theorem dX5_copyFrom_158 : decode cX5_copyFrom 158 = .ok (.invokestatic 49, 3) := by decide +kernel
theorem dX5_copyFrom_161 : decode cX5_copyFrom 161 = .ok (.aload_n 1, 1) := by decide +kernel
theorem dX5_copyFrom_162 : decode cX5_copyFrom 162 = .ok (.getfield 43, 3) := by decide +kernel
theorem dX5_copyFrom_165 : decode cX5_copyFrom 165 = .ok (.iconst 0, 1) := by decide +kernel
theorem dX5_copyFrom_166 : decode cX5_copyFrom 166 = .ok (.aload_n 0, 1) := by decide +kernel
theorem dX5_copyFrom_167 : decode cX5_copyFrom 167 = .ok (.getfield 43, 3) := by decide +kernel
theorem dX5_copyFrom_170 : decode cX5_copyFrom 170 = .ok (.iconst 0, 1) := by decide +kernel
theorem dX5_copyFrom_171 : decode cX5_copyFrom 171 = .ok (.aload_n 0, 1) := by decide +kernel
theorem dX5_copyFrom_172 : decode cX5_copyFrom 172 = .ok (.getfield 9, 3) := by decide +kernel
theorem dX5_copyFrom_175 : decode cX5_copyFrom 175 = .ok (.invokestatic 49, 3) := by decide +kernel
theorem dX5_copyFrom_178 : decode cX5_copyFrom 178 = .ok (.aload_n 1, 1) := by decide +kernel
theorem dX5_copyFrom_179 : decode cX5_copyFrom 179 = .ok (.getfield 46, 3) := by decide +kernel
theorem dX5_copyFrom_182 : decode cX5_copyFrom 182 = .ok (.iconst 0, 1) := by decide +kernel
theorem dX5_copyFrom_183 : decode cX5_copyFrom 183 = .ok (.aload_n 0, 1) := by decide +kernel
theorem dX5_copyFrom_184 : decode cX5_copyFrom 184 = .ok (.getfield 46, 3) := by decide +kernel
theorem dX5_copyFrom_187 : decode cX5_copyFrom 187 = .ok (.iconst 0, 1) := by decide +kernel
theorem dX5_copyFrom_188 : decode cX5_copyFrom 188 = .ok (.aload_n 0, 1) := by decide +kernel
theorem dX5_copyFrom_189 : decode cX5_copyFrom 189 = .ok (.getfield 9, 3) := by decide +kernel
theorem dX5_copyFrom_192 : decode cX5_copyFrom 192 = .ok (.invokestatic 49, 3) := by decide +kernel
theorem dX5_copyFrom_195 : decode cX5_copyFrom 195 = .ok (.return_, 1) := by decide +kernel
theorem dX5_has_0 : decode cX5_has 0 = .ok (.iload_n 1, 1) := by decide +kernel
theorem dX5_has_1 : decode cX5_has 1 = .ok (.ifCond .lt 15, 3) := by decide +kernel
theorem dX5_has_4 : decode cX5_has 4 = .ok (.iload_n 1, 1) := by decide +kernel
theorem dX5_has_5 : decode cX5_has 5 = .ok (.aload_n 0, 1) := by decide +kernel
theorem dX5_has_6 : decode cX5_has 6 = .ok (.getfield 9, 3) := by decide +kernel
theorem dX5_has_9 : decode cX5_has 9 = .ok (.if_icmp .ge 7, 3) := by decide +kernel
theorem dX5_has_12 : decode cX5_has 12 = .ok (.iconst 1, 1) := by decide +kernel
theorem dX5_has_13 : decode cX5_has 13 = .ok (.goto 4, 3) := by decide +kernel
theorem dX5_has_16 : decode cX5_has 16 = .ok (.iconst 0, 1) := by decide +kernel
theorem dX5_has_17 : decode cX5_has 17 = .ok (.ireturn, 1) := by decide +kernel
theorem dX5_isFull_0 : decode cX5_isFull 0 = .ok (.aload_n 0, 1) := by decide +kernel
theorem dX5_isFull_1 : decode cX5_isFull 1 = .ok (.getfield 9, 3) := by decide +kernel
theorem dX5_isFull_4 : decode cX5_isFull 4 = .ok (.bipush 30, 2) := by decide +kernel
theorem dX5_isFull_6 : decode cX5_isFull 6 = .ok (.if_icmp .lt 7, 3) := by decide +kernel
theorem dX5_isFull_9 : decode cX5_isFull 9 = .ok (.iconst 1, 1) := by decide +kernel
theorem dX5_isFull_10 : decode cX5_isFull 10 = .ok (.goto 4, 3) := by decide +kernel
theorem dX5_isFull_13 : decode cX5_isFull 13 = .ok (.iconst 0, 1) := by decide +kernel
theorem dX5_isFull_14 : decode cX5_isFull 14 = .ok (.ireturn, 1) := by decide +kernel
theorem dX5_add_0 : decode cX5_add 0 = .ok (.aload_n 0, 1) := by decide +kernel
theorem dX5_add_1 : decode cX5_add 1 = .ok (.getfield 9, 3) := by decide +kernel
theorem dX5_add_4 : decode cX5_add 4 = .ok (.istore 5, 2) := by decide +kernel
theorem dX5_add_6 : decode cX5_add 6 = .ok (.aload_n 0, 1) := by decide +kernel
theorem dX5_add_7 : decode cX5_add 7 = .ok (.getfield 15, 3) := by decide +kernel
theorem dX5_add_10 : decode cX5_add 10 = .ok (.iload 5, 2) := by decide +kernel
theorem dX5_add_12 : decode cX5_add 12 = .ok (.iload_n 2, 1) := by decide +kernel
theorem dX5_add_13 : decode cX5_add 13 = .ok (.iastore, 1) := by decide +kernel
theorem dX5_add_14 : decode cX5_add 14 = .ok (.aload_n 0, 1) := by decide +kernel
theorem dX5_add_15 : decode cX5_add 15 = .ok (.getfield 19, 3) := by decide +kernel
theorem dX5_add_18 : decode cX5_add 18 = .ok (.iload 5, 2) := by decide +kernel
theorem dX5_add_20 : decode cX5_add 20 = .ok (.iload_n 3, 1) := by decide +kernel
theorem dX5_add_21 : decode cX5_add 21 = .ok (.iastore, 1) := by decide +kernel
theorem dX5_add_22 : decode cX5_add 22 = .ok (.aload_n 0, 1) := by decide +kernel
theorem dX5_add_23 : decode cX5_add 23 = .ok (.getfield 22, 3) := by decide +kernel
theorem dX5_add_26 : decode cX5_add 26 = .ok (.iload 5, 2) := by decide +kernel
theorem dX5_add_28 : decode cX5_add 28 = .ok (.iload 4, 2) := by decide +kernel
theorem dX5_add_30 : decode cX5_add 30 = .ok (.iastore, 1) := by decide +kernel
theorem dX5_add_31 : decode cX5_add 31 = .ok (.aload_n 0, 1) := by decide +kernel
theorem dX5_add_32 : decode cX5_add 32 = .ok (.getfield 25, 3) := by decide +kernel
theorem dX5_add_35 : decode cX5_add 35 = .ok (.iload 5, 2) := by decide +kernel
theorem dX5_add_37 : decode cX5_add 37 = .ok (.iload_n 1, 1) := by decide +kernel
theorem dX5_add_38 : decode cX5_add 38 = .ok (.iastore, 1) := by decide +kernel
theorem dX5_add_39 : decode cX5_add 39 = .ok (.aload_n 0, 1) := by decide +kernel
theorem dX5_add_40 : decode cX5_add 40 = .ok (.getfield 28, 3) := by decide +kernel
theorem dX5_add_43 : decode cX5_add 43 = .ok (.iload 5, 2) := by decide +kernel
theorem dX5_add_45 : decode cX5_add 45 = .ok (.iconst (-1), 1) := by decide +kernel
theorem dX5_add_46 : decode cX5_add 46 = .ok (.iastore, 1) := by decide +kernel
theorem dX5_add_47 : decode cX5_add 47 = .ok (.aload_n 0, 1) := by decide +kernel
theorem dX5_add_48 : decode cX5_add 48 = .ok (.getfield 31, 3) := by decide +kernel
theorem dX5_add_51 : decode cX5_add 51 = .ok (.iload 5, 2) := by decide +kernel
theorem dX5_add_53 : decode cX5_add 53 = .ok (.iconst (-1), 1) := by decide +kernel
theorem dX5_add_54 : decode cX5_add 54 = .ok (.iastore, 1) := by decide +kernel
theorem dX5_add_55 : decode cX5_add 55 = .ok (.aload_n 0, 1) := by decide +kernel
theorem dX5_add_56 : decode cX5_add 56 = .ok (.getfield 34, 3) := by decide +kernel
theorem dX5_add_59 : decode cX5_add 59 = .ok (.iload 5, 2) := by decide +kernel
theorem dX5_add_61 : decode cX5_add 61 = .ok (.iconst 0, 1) := by decide +kernel
theorem dX5_add_62 : decode cX5_add 62 = .ok (.iastore, 1) := by decide +kernel
theorem dX5_add_63 : decode cX5_add 63 = .ok (.aload_n 0, 1) := by decide +kernel
theorem dX5_add_64 : decode cX5_add 64 = .ok (.getfield 37, 3) := by decide +kernel
theorem dX5_add_67 : decode cX5_add 67 = .ok (.iload 5, 2) := by decide +kernel
theorem dX5_add_69 : decode cX5_add 69 = .ok (.ldc 55, 2) := by decide +kernel
theorem dX5_add_71 : decode cX5_add 71 = .ok (.iastore, 1) := by decide +kernel
theorem dX5_add_72 : decode cX5_add 72 = .ok (.aload_n 0, 1) := by decide +kernel
theorem dX5_add_73 : decode cX5_add 73 = .ok (.getfield 40, 3) := by decide +kernel
theorem dX5_add_76 : decode cX5_add 76 = .ok (.iload 5, 2) := by decide +kernel
theorem dX5_add_78 : decode cX5_add 78 = .ok (.iconst (-1), 1) := by decide +kernel
theorem dX5_add_79 : decode cX5_add 79 = .ok (.iastore, 1) := by decide +kernel
theorem dX5_add_80 : decode cX5_add 80 = .ok (.aload_n 0, 1) := by decide +kernel
theorem dX5_add_81 : decode cX5_add 81 = .ok (.getfield 43, 3) := by decide +kernel
theorem dX5_add_84 : decode cX5_add 84 = .ok (.iload 5, 2) := by decide +kernel
theorem dX5_add_86 : decode cX5_add 86 = .ok (.iconst 0, 1) := by decide +kernel
theorem dX5_add_87 : decode cX5_add 87 = .ok (.iastore, 1) := by decide +kernel
theorem dX5_add_88 : decode cX5_add 88 = .ok (.aload_n 0, 1) := by decide +kernel
theorem dX5_add_89 : decode cX5_add 89 = .ok (.getfield 46, 3) := by decide +kernel
theorem dX5_add_92 : decode cX5_add 92 = .ok (.iload 5, 2) := by decide +kernel
theorem dX5_add_94 : decode cX5_add 94 = .ok (.iconst 0, 1) := by decide +kernel
theorem dX5_add_95 : decode cX5_add 95 = .ok (.iastore, 1) := by decide +kernel
theorem dX5_add_96 : decode cX5_add 96 = .ok (.aload_n 0, 1) := by decide +kernel
theorem dX5_add_97 : decode cX5_add 97 = .ok (.dup, 1) := by decide +kernel
theorem dX5_add_98 : decode cX5_add 98 = .ok (.getfield 9, 3) := by decide +kernel
theorem dX5_add_101 : decode cX5_add 101 = .ok (.iconst 1, 1) := by decide +kernel
theorem dX5_add_102 : decode cX5_add 102 = .ok (.iadd, 1) := by decide +kernel
theorem dX5_add_103 : decode cX5_add 103 = .ok (.putfield 9, 3) := by decide +kernel
theorem dX5_add_106 : decode cX5_add 106 = .ok (.iload 5, 2) := by decide +kernel
theorem dX5_add_108 : decode cX5_add 108 = .ok (.ireturn, 1) := by decide +kernel
theorem dX5_hasLeftBy_0 : decode cX5_hasLeftBy 0 = .ok (.iload_n 2, 1) := by decide +kernel
theorem dX5_hasLeftBy_1 : decode cX5_hasLeftBy 1 = .ok (.aload_n 0, 1) := by decide +kernel
theorem dX5_hasLeftBy_2 : decode cX5_hasLeftBy 2 = .ok (.getfield 37, 3) := by decide +kernel
theorem dX5_hasLeftBy_5 : decode cX5_hasLeftBy 5 = .ok (.iload_n 1, 1) := by decide +kernel
theorem dX5_hasLeftBy_6 : decode cX5_hasLeftBy 6 = .ok (.iaload, 1) := by decide +kernel
theorem dX5_hasLeftBy_7 : decode cX5_hasLeftBy 7 = .ok (.if_icmp .le 7, 3) := by decide +kernel
theorem dX5_hasLeftBy_10 : decode cX5_hasLeftBy 10 = .ok (.iconst 1, 1) := by decide +kernel
theorem dX5_hasLeftBy_11 : decode cX5_hasLeftBy 11 = .ok (.goto 4, 3) := by decide +kernel
theorem dX5_hasLeftBy_14 : decode cX5_hasLeftBy 14 = .ok (.iconst 0, 1) := by decide +kernel
theorem dX5_hasLeftBy_15 : decode cX5_hasLeftBy 15 = .ok (.ireturn, 1) := by decide +kernel
set_option maxRecDepth 20000 in
theorem ggX5_countInChoir_X5_hasLeftBy : GoodIn wsX5_countInChoir wsX5_hasLeftBy := goodIn_r _ [6, 7, 8, 9, 10, 11, 12, 13, 14, 15, 16, 17, 18, 19] (by decide +kernel) (by decide +kernel)
set_option maxRecDepth 20000 in
theorem gX5_countInChoir_X5_hasLeftBy : GoodIn wsX5_countInChoir (wsV RX5 56 RX5 yX5_hasLeftBy wsX5_hasLeftBy) := goodIn_app (goodIn_of _ (by decide +kernel)) ggX5_countInChoir_X5_hasLeftBy
theorem dX5_countInChoir_0 : decode cX5_countInChoir 0 = .ok (.iconst 0, 1) := by decide +kernel
theorem dX5_countInChoir_1 : decode cX5_countInChoir 1 = .ok (.istore_n 2, 1) := by decide +kernel
theorem dX5_countInChoir_2 : decode cX5_countInChoir 2 = .ok (.iconst 0, 1) := by decide +kernel
theorem dX5_countInChoir_3 : decode cX5_countInChoir 3 = .ok (.istore_n 3, 1) := by decide +kernel
theorem dX5_countInChoir_4 : decode cX5_countInChoir 4 = .ok (.iload_n 3, 1) := by decide +kernel
theorem dX5_countInChoir_5 : decode cX5_countInChoir 5 = .ok (.aload_n 0, 1) := by decide +kernel
theorem dX5_countInChoir_6 : decode cX5_countInChoir 6 = .ok (.getfield 9, 3) := by decide +kernel
theorem dX5_countInChoir_9 : decode cX5_countInChoir 9 = .ok (.if_icmp .ge 21, 3) := by decide +kernel
theorem dX5_countInChoir_12 : decode cX5_countInChoir 12 = .ok (.aload_n 0, 1) := by decide +kernel
theorem dX5_countInChoir_13 : decode cX5_countInChoir 13 = .ok (.iload_n 3, 1) := by decide +kernel
theorem dX5_countInChoir_14 : decode cX5_countInChoir 14 = .ok (.iload_n 1, 1) := by decide +kernel
theorem dX5_countInChoir_15 : decode cX5_countInChoir 15 = .ok (.invokevirtual 56, 3) := by decide +kernel
theorem dX5_countInChoir_18 : decode cX5_countInChoir 18 = .ok (.ifCond .ne 6, 3) := by decide +kernel
theorem dX5_countInChoir_21 : decode cX5_countInChoir 21 = .ok (.iinc 2 1, 3) := by decide +kernel
theorem dX5_countInChoir_24 : decode cX5_countInChoir 24 = .ok (.iinc 3 1, 3) := by decide +kernel
theorem dX5_countInChoir_27 : decode cX5_countInChoir 27 = .ok (.goto (-23), 3) := by decide +kernel
theorem dX5_countInChoir_30 : decode cX5_countInChoir 30 = .ok (.iload_n 2, 1) := by decide +kernel
theorem dX5_countInChoir_31 : decode cX5_countInChoir 31 = .ok (.ireturn, 1) := by decide +kernel
theorem dX5_isAwayOn_0 : decode cX5_isAwayOn 0 = .ok (.iload_n 2, 1) := by decide +kernel
theorem dX5_isAwayOn_1 : decode cX5_isAwayOn 1 = .ok (.aload_n 0, 1) := by decide +kernel
theorem dX5_isAwayOn_2 : decode cX5_isAwayOn 2 = .ok (.getfield 40, 3) := by decide +kernel
theorem dX5_isAwayOn_5 : decode cX5_isAwayOn 5 = .ok (.iload_n 1, 1) := by decide +kernel
theorem dX5_isAwayOn_6 : decode cX5_isAwayOn 6 = .ok (.iaload, 1) := by decide +kernel
theorem dX5_isAwayOn_7 : decode cX5_isAwayOn 7 = .ok (.if_icmp .gt 7, 3) := by decide +kernel
theorem dX5_isAwayOn_10 : decode cX5_isAwayOn 10 = .ok (.iconst 1, 1) := by decide +kernel
theorem dX5_isAwayOn_11 : decode cX5_isAwayOn 11 = .ok (.goto 4, 3) := by decide +kernel
theorem dX5_isAwayOn_14 : decode cX5_isAwayOn 14 = .ok (.iconst 0, 1) := by decide +kernel
theorem dX5_isAwayOn_15 : decode cX5_isAwayOn 15 = .ok (.ireturn, 1) := by decide +kernel
theorem dX5_isBreakingOn_0 : decode cX5_isBreakingOn 0 = .ok (.aload_n 0, 1) := by decide +kernel
theorem dX5_isBreakingOn_1 : decode cX5_isBreakingOn 1 = .ok (.getfield 28, 3) := by decide +kernel
theorem dX5_isBreakingOn_4 : decode cX5_isBreakingOn 4 = .ok (.iload_n 1, 1) := by decide +kernel
theorem dX5_isBreakingOn_5 : decode cX5_isBreakingOn 5 = .ok (.iaload, 1) := by decide +kernel
theorem dX5_isBreakingOn_6 : decode cX5_isBreakingOn 6 = .ok (.istore_n 3, 1) := by decide +kernel
theorem dX5_isBreakingOn_7 : decode cX5_isBreakingOn 7 = .ok (.iload_n 3, 1) := by decide +kernel
theorem dX5_isBreakingOn_8 : decode cX5_isBreakingOn 8 = .ok (.iconst (-1), 1) := by decide +kernel
theorem dX5_isBreakingOn_9 : decode cX5_isBreakingOn 9 = .ok (.if_icmp .eq 20, 3) := by decide +kernel
theorem dX5_isBreakingOn_12 : decode cX5_isBreakingOn 12 = .ok (.iload_n 2, 1) := by decide +kernel
theorem dX5_isBreakingOn_13 : decode cX5_isBreakingOn 13 = .ok (.iload_n 3, 1) := by decide +kernel
theorem dX5_isBreakingOn_14 : decode cX5_isBreakingOn 14 = .ok (.if_icmp .lt 15, 3) := by decide +kernel
theorem dX5_isBreakingOn_17 : decode cX5_isBreakingOn 17 = .ok (.iload_n 2, 1) := by decide +kernel
theorem dX5_isBreakingOn_18 : decode cX5_isBreakingOn 18 = .ok (.iload_n 3, 1) := by decide +kernel
theorem dX5_isBreakingOn_19 : decode cX5_isBreakingOn 19 = .ok (.bipush 90, 2) := by decide +kernel
theorem dX5_isBreakingOn_21 : decode cX5_isBreakingOn 21 = .ok (.iadd, 1) := by decide +kernel
theorem dX5_isBreakingOn_22 : decode cX5_isBreakingOn 22 = .ok (.if_icmp .ge 7, 3) := by decide +kernel
theorem dX5_isBreakingOn_25 : decode cX5_isBreakingOn 25 = .ok (.iconst 1, 1) := by decide +kernel
theorem dX5_isBreakingOn_26 : decode cX5_isBreakingOn 26 = .ok (.goto 4, 3) := by decide +kernel
theorem dX5_isBreakingOn_29 : decode cX5_isBreakingOn 29 = .ok (.iconst 0, 1) := by decide +kernel
theorem dX5_isBreakingOn_30 : decode cX5_isBreakingOn 30 = .ok (.ireturn, 1) := by decide +kernel
theorem dX5_noteOn_0 : decode cX5_noteOn 0 = .ok (.aload_n 0, 1) := by decide +kernel
theorem dX5_noteOn_1 : decode cX5_noteOn 1 = .ok (.getfield 28, 3) := by decide +kernel
theorem dX5_noteOn_4 : decode cX5_noteOn 4 = .ok (.iload_n 1, 1) := by decide +kernel
theorem dX5_noteOn_5 : decode cX5_noteOn 5 = .ok (.iaload, 1) := by decide +kernel
theorem dX5_noteOn_6 : decode cX5_noteOn 6 = .ok (.istore 4, 2) := by decide +kernel
theorem dX5_noteOn_8 : decode cX5_noteOn 8 = .ok (.iload 4, 2) := by decide +kernel
theorem dX5_noteOn_10 : decode cX5_noteOn 10 = .ok (.iconst (-1), 1) := by decide +kernel
theorem dX5_noteOn_11 : decode cX5_noteOn 11 = .ok (.if_icmp .eq 12, 3) := by decide +kernel
theorem dX5_noteOn_14 : decode cX5_noteOn 14 = .ok (.iload_n 2, 1) := by decide +kernel
theorem dX5_noteOn_15 : decode cX5_noteOn 15 = .ok (.iload 4, 2) := by decide +kernel
theorem dX5_noteOn_17 : decode cX5_noteOn 17 = .ok (.bipush 90, 2) := by decide +kernel
theorem dX5_noteOn_19 : decode cX5_noteOn 19 = .ok (.iadd, 1) := by decide +kernel
theorem dX5_noteOn_20 : decode cX5_noteOn 20 = .ok (.if_icmp .ge 5, 3) := by decide +kernel
theorem dX5_noteOn_23 : decode cX5_noteOn 23 = .ok (.iload_n 3, 1) := by decide +kernel
theorem dX5_noteOn_24 : decode cX5_noteOn 24 = .ok (.ireturn, 1) := by decide +kernel
theorem dX5_noteOn_25 : decode cX5_noteOn 25 = .ok (.iload_n 3, 1) := by decide +kernel
theorem dX5_noteOn_26 : decode cX5_noteOn 26 = .ok (.bipush 12, 2) := by decide +kernel
theorem dX5_noteOn_28 : decode cX5_noteOn 28 = .ok (.if_icmp .ge 7, 3) := by decide +kernel
theorem dX5_noteOn_31 : decode cX5_noteOn 31 = .ok (.iconst 0, 1) := by decide +kernel
theorem dX5_noteOn_32 : decode cX5_noteOn 32 = .ok (.goto 7, 3) := by decide +kernel
theorem dX5_noteOn_35 : decode cX5_noteOn 35 = .ok (.iload_n 3, 1) := by decide +kernel
theorem dX5_noteOn_36 : decode cX5_noteOn 36 = .ok (.bipush 12, 2) := by decide +kernel
theorem dX5_noteOn_38 : decode cX5_noteOn 38 = .ok (.isub, 1) := by decide +kernel
theorem dX5_noteOn_39 : decode cX5_noteOn 39 = .ok (.ireturn, 1) := by decide +kernel
set_option maxRecDepth 20000 in
theorem ggX5_nextBreakingAfter_X5_hasLeftBy : GoodIn wsX5_nextBreakingAfter wsX5_hasLeftBy := goodIn_r _ [7, 8, 9, 10, 11, 12, 13, 14, 15, 16, 17, 18, 19, 20] (by decide +kernel) (by decide +kernel)
set_option maxRecDepth 20000 in
theorem gX5_nextBreakingAfter_X5_hasLeftBy : GoodIn wsX5_nextBreakingAfter (wsV RX5 56 RX5 yX5_hasLeftBy wsX5_hasLeftBy) := goodIn_app (goodIn_of _ (by decide +kernel)) ggX5_nextBreakingAfter_X5_hasLeftBy
theorem dX5_nextBreakingAfter_0 : decode cX5_nextBreakingAfter 0 = .ok (.iconst (-1), 1) := by decide +kernel
theorem dX5_nextBreakingAfter_1 : decode cX5_nextBreakingAfter 1 = .ok (.istore_n 2, 1) := by decide +kernel
theorem dX5_nextBreakingAfter_2 : decode cX5_nextBreakingAfter 2 = .ok (.iconst 0, 1) := by decide +kernel
theorem dX5_nextBreakingAfter_3 : decode cX5_nextBreakingAfter 3 = .ok (.istore_n 3, 1) := by decide +kernel
theorem dX5_nextBreakingAfter_4 : decode cX5_nextBreakingAfter 4 = .ok (.iload_n 3, 1) := by decide +kernel
theorem dX5_nextBreakingAfter_5 : decode cX5_nextBreakingAfter 5 = .ok (.aload_n 0, 1) := by decide +kernel
theorem dX5_nextBreakingAfter_6 : decode cX5_nextBreakingAfter 6 = .ok (.getfield 9, 3) := by decide +kernel
theorem dX5_nextBreakingAfter_9 : decode cX5_nextBreakingAfter 9 = .ok (.if_icmp .ge 62, 3) := by decide +kernel
theorem dX5_nextBreakingAfter_12 : decode cX5_nextBreakingAfter 12 = .ok (.aload_n 0, 1) := by decide +kernel
theorem dX5_nextBreakingAfter_13 : decode cX5_nextBreakingAfter 13 = .ok (.getfield 28, 3) := by decide +kernel
theorem dX5_nextBreakingAfter_16 : decode cX5_nextBreakingAfter 16 = .ok (.iload_n 3, 1) := by decide +kernel
theorem dX5_nextBreakingAfter_17 : decode cX5_nextBreakingAfter 17 = .ok (.iaload, 1) := by decide +kernel
theorem dX5_nextBreakingAfter_18 : decode cX5_nextBreakingAfter 18 = .ok (.iload_n 1, 1) := by decide +kernel
theorem dX5_nextBreakingAfter_19 : decode cX5_nextBreakingAfter 19 = .ok (.if_icmp .le 16, 3) := by decide +kernel
theorem dX5_nextBreakingAfter_22 : decode cX5_nextBreakingAfter 22 = .ok (.aload_n 0, 1) := by decide +kernel
theorem dX5_nextBreakingAfter_23 : decode cX5_nextBreakingAfter 23 = .ok (.iload_n 3, 1) := by decide +kernel
theorem dX5_nextBreakingAfter_24 : decode cX5_nextBreakingAfter 24 = .ok (.iload_n 1, 1) := by decide +kernel
theorem dX5_nextBreakingAfter_25 : decode cX5_nextBreakingAfter 25 = .ok (.invokevirtual 56, 3) := by decide +kernel
theorem dX5_nextBreakingAfter_28 : decode cX5_nextBreakingAfter 28 = .ok (.ifCond .ne 7, 3) := by decide +kernel
theorem dX5_nextBreakingAfter_31 : decode cX5_nextBreakingAfter 31 = .ok (.iconst 1, 1) := by decide +kernel
theorem dX5_nextBreakingAfter_32 : decode cX5_nextBreakingAfter 32 = .ok (.goto 4, 3) := by decide +kernel
theorem dX5_nextBreakingAfter_35 : decode cX5_nextBreakingAfter 35 = .ok (.iconst 0, 1) := by decide +kernel
theorem dX5_nextBreakingAfter_36 : decode cX5_nextBreakingAfter 36 = .ok (.istore 4, 2) := by decide +kernel
theorem dX5_nextBreakingAfter_38 : decode cX5_nextBreakingAfter 38 = .ok (.iload 4, 2) := by decide +kernel
theorem dX5_nextBreakingAfter_40 : decode cX5_nextBreakingAfter 40 = .ok (.ifCond .eq 25, 3) := by decide +kernel
theorem dX5_nextBreakingAfter_43 : decode cX5_nextBreakingAfter 43 = .ok (.iload_n 2, 1) := by decide +kernel
theorem dX5_nextBreakingAfter_44 : decode cX5_nextBreakingAfter 44 = .ok (.iconst (-1), 1) := by decide +kernel
theorem dX5_nextBreakingAfter_45 : decode cX5_nextBreakingAfter 45 = .ok (.if_icmp .eq 18, 3) := by decide +kernel
theorem dX5_nextBreakingAfter_48 : decode cX5_nextBreakingAfter 48 = .ok (.aload_n 0, 1) := by decide +kernel
theorem dX5_nextBreakingAfter_49 : decode cX5_nextBreakingAfter 49 = .ok (.getfield 28, 3) := by decide +kernel
theorem dX5_nextBreakingAfter_52 : decode cX5_nextBreakingAfter 52 = .ok (.iload_n 3, 1) := by decide +kernel
theorem dX5_nextBreakingAfter_53 : decode cX5_nextBreakingAfter 53 = .ok (.iaload, 1) := by decide +kernel
theorem dX5_nextBreakingAfter_54 : decode cX5_nextBreakingAfter 54 = .ok (.aload_n 0, 1) := by decide +kernel
theorem dX5_nextBreakingAfter_55 : decode cX5_nextBreakingAfter 55 = .ok (.getfield 28, 3) := by decide +kernel
theorem dX5_nextBreakingAfter_58 : decode cX5_nextBreakingAfter 58 = .ok (.iload_n 2, 1) := by decide +kernel
theorem dX5_nextBreakingAfter_59 : decode cX5_nextBreakingAfter 59 = .ok (.iaload, 1) := by decide +kernel
theorem dX5_nextBreakingAfter_60 : decode cX5_nextBreakingAfter 60 = .ok (.if_icmp .ge 5, 3) := by decide +kernel
theorem dX5_nextBreakingAfter_63 : decode cX5_nextBreakingAfter 63 = .ok (.iload_n 3, 1) := by decide +kernel
theorem dX5_nextBreakingAfter_64 : decode cX5_nextBreakingAfter 64 = .ok (.istore_n 2, 1) := by decide +kernel
theorem dX5_nextBreakingAfter_65 : decode cX5_nextBreakingAfter 65 = .ok (.iinc 3 1, 3) := by decide +kernel
theorem dX5_nextBreakingAfter_68 : decode cX5_nextBreakingAfter 68 = .ok (.goto (-64), 3) := by decide +kernel
theorem dX5_nextBreakingAfter_71 : decode cX5_nextBreakingAfter 71 = .ok (.iload_n 2, 1) := by decide +kernel
theorem dX5_nextBreakingAfter_72 : decode cX5_nextBreakingAfter 72 = .ok (.ireturn, 1) := by decide +kernel
theorem dX5_isOlder_0 : decode cX5_isOlder 0 = .ok (.aload_n 0, 1) := by decide +kernel
theorem dX5_isOlder_1 : decode cX5_isOlder 1 = .ok (.getfield 25, 3) := by decide +kernel
theorem dX5_isOlder_4 : decode cX5_isOlder 4 = .ok (.iload_n 1, 1) := by decide +kernel
theorem dX5_isOlder_5 : decode cX5_isOlder 5 = .ok (.iaload, 1) := by decide +kernel
theorem dX5_isOlder_6 : decode cX5_isOlder 6 = .ok (.aload_n 0, 1) := by decide +kernel
theorem dX5_isOlder_7 : decode cX5_isOlder 7 = .ok (.getfield 25, 3) := by decide +kernel
theorem dX5_isOlder_10 : decode cX5_isOlder 10 = .ok (.iload_n 2, 1) := by decide +kernel
theorem dX5_isOlder_11 : decode cX5_isOlder 11 = .ok (.iaload, 1) := by decide +kernel
theorem dX5_isOlder_12 : decode cX5_isOlder 12 = .ok (.if_icmp .ge 7, 3) := by decide +kernel
theorem dX5_isOlder_15 : decode cX5_isOlder 15 = .ok (.iconst 1, 1) := by decide +kernel
theorem dX5_isOlder_16 : decode cX5_isOlder 16 = .ok (.goto 4, 3) := by decide +kernel
theorem dX5_isOlder_19 : decode cX5_isOlder 19 = .ok (.iconst 0, 1) := by decide +kernel
theorem dX5_isOlder_20 : decode cX5_isOlder 20 = .ok (.ireturn, 1) := by decide +kernel
theorem dX5_sitsBefore_0 : decode cX5_sitsBefore 0 = .ok (.aload_n 0, 1) := by decide +kernel
theorem dX5_sitsBefore_1 : decode cX5_sitsBefore 1 = .ok (.getfield 15, 3) := by decide +kernel
theorem dX5_sitsBefore_4 : decode cX5_sitsBefore 4 = .ok (.iload_n 1, 1) := by decide +kernel
theorem dX5_sitsBefore_5 : decode cX5_sitsBefore 5 = .ok (.iaload, 1) := by decide +kernel
theorem dX5_sitsBefore_6 : decode cX5_sitsBefore 6 = .ok (.aload_n 0, 1) := by decide +kernel
theorem dX5_sitsBefore_7 : decode cX5_sitsBefore 7 = .ok (.getfield 15, 3) := by decide +kernel
theorem dX5_sitsBefore_10 : decode cX5_sitsBefore 10 = .ok (.iload_n 2, 1) := by decide +kernel
theorem dX5_sitsBefore_11 : decode cX5_sitsBefore 11 = .ok (.iaload, 1) := by decide +kernel
theorem dX5_sitsBefore_12 : decode cX5_sitsBefore 12 = .ok (.if_icmp .lt 23, 3) := by decide +kernel
theorem dX5_sitsBefore_15 : decode cX5_sitsBefore 15 = .ok (.aload_n 0, 1) := by decide +kernel
theorem dX5_sitsBefore_16 : decode cX5_sitsBefore 16 = .ok (.getfield 15, 3) := by decide +kernel
theorem dX5_sitsBefore_19 : decode cX5_sitsBefore 19 = .ok (.iload_n 1, 1) := by decide +kernel
theorem dX5_sitsBefore_20 : decode cX5_sitsBefore 20 = .ok (.iaload, 1) := by decide +kernel
theorem dX5_sitsBefore_21 : decode cX5_sitsBefore 21 = .ok (.aload_n 0, 1) := by decide +kernel
theorem dX5_sitsBefore_22 : decode cX5_sitsBefore 22 = .ok (.getfield 15, 3) := by decide +kernel
theorem dX5_sitsBefore_25 : decode cX5_sitsBefore 25 = .ok (.iload_n 2, 1) := by decide +kernel
theorem dX5_sitsBefore_26 : decode cX5_sitsBefore 26 = .ok (.iaload, 1) := by decide +kernel
theorem dX5_sitsBefore_27 : decode cX5_sitsBefore 27 = .ok (.if_icmp .ne 12, 3) := by decide +kernel
theorem dX5_sitsBefore_30 : decode cX5_sitsBefore 30 = .ok (.iload_n 1, 1) := by decide +kernel
theorem dX5_sitsBefore_31 : decode cX5_sitsBefore 31 = .ok (.iload_n 2, 1) := by decide +kernel
theorem dX5_sitsBefore_32 : decode cX5_sitsBefore 32 = .ok (.if_icmp .ge 7, 3) := by decide +kernel
theorem dX5_sitsBefore_35 : decode cX5_sitsBefore 35 = .ok (.iconst 1, 1) := by decide +kernel
theorem dX5_sitsBefore_36 : decode cX5_sitsBefore 36 = .ok (.goto 4, 3) := by decide +kernel
theorem dX5_sitsBefore_39 : decode cX5_sitsBefore 39 = .ok (.iconst 0, 1) := by decide +kernel
theorem dX5_sitsBefore_40 : decode cX5_sitsBefore 40 = .ok (.ireturn, 1) := by decide +kernel
set_option maxRecDepth 20000 in
theorem ggX6_init_X0_init_q1 : GoodIn wsX6_init ([Cond.code yX0_init cX0_init 1 none]) := goodIn_r _ [22] (by decide +kernel) (by decide +kernel)
set_option maxRecDepth 20000 in
theorem ggX6_init_X0_init_q2 : GoodIn wsX6_init (wsX0_init_r1) := goodIn_r _ [23, 2, 3, 24, 25, 26, 27, 28, 29, 30, 31, 32, 33, 34, 35, 36, 37, 38, 39, 40, 41, 42, 43, 44] (by decide +kernel) (by decide +kernel)
set_option maxRecDepth 20000 in
theorem ggX6_init_X0_init_q3 : GoodIn wsX6_init (wsX0_init_r2) := goodIn_r _ [45, 46, 47, 48, 49, 50, 51, 52, 53, 54, 55, 56, 57, 58, 59, 60, 61, 62, 63, 64, 65, 66, 67, 68] (by decide +kernel) (by decide +kernel)
set_option maxRecDepth 20000 in
theorem ggX6_init_X0_init_q4 : GoodIn wsX6_init (wsX0_init_r3) := goodIn_r _ [69, 70, 71, 72, 73, 74, 75, 76, 77] (by decide +kernel) (by decide +kernel)
set_option maxRecDepth 20000 in
theorem ggX6_init_X0_init_q5 : GoodIn wsX6_init (wsX00) := goodIn_r _ [96, 97, 98, 99, 100, 101, 102, 103, 104, 105] (by decide +kernel) (by decide +kernel)
set_option maxRecDepth 20000 in
theorem ggX6_init_X0_init_q6 : GoodIn wsX6_init (wsX50) := goodIn_r _ [125, 126, 127, 128, 129, 130, 131, 132, 133, 134, 135, 136] (by decide +kernel) (by decide +kernel)
set_option maxRecDepth 20000 in
theorem ggX6_init_X0_init_q7 : GoodIn wsX6_init (wsX40) := goodIn_r _ [137, 138, 139, 140] (by decide +kernel) (by decide +kernel)
set_option maxRecDepth 20000 in
theorem ggX6_init_X0_init_q8 : GoodIn wsX6_init (wsX10) := goodIn_r _ [141, 142, 143, 144, 145, 146, 147, 148] (by decide +kernel) (by decide +kernel)
theorem ggX6_init_X0_init : GoodIn wsX6_init wsX0_init := (goodIn_app (a := [Cond.code yX0_init cX0_init 1 none]) ggX6_init_X0_init_q1 (goodIn_app (goodIn_app (goodIn_app (goodIn_app (goodIn_app ggX6_init_X0_init_q2 (goodIn_app ggX6_init_X0_init_q3 ggX6_init_X0_init_q4)) ggX6_init_X0_init_q5) ggX6_init_X0_init_q6) ggX6_init_X0_init_q7) ggX6_init_X0_init_q8))
set_option maxRecDepth 20000 in
theorem gX6_init_X0_init_n9 : GoodIn wsX6_init (wsX0_init) := ggX6_init_X0_init
set_option maxRecDepth 20000 in
theorem ggX6_init_X2_init : GoodIn wsX6_init wsX2_init := goodIn_r _ [79, 80, 2, 3, 81, 82, 83, 84, 85, 37, 86, 87, 114, 115, 116, 117, 118, 119] (by decide +kernel) (by decide +kernel)
set_option maxRecDepth 20000 in
theorem gX6_init_X2_init_n36 : GoodIn wsX6_init (wsX2_init) := ggX6_init_X2_init
set_option maxRecDepth 20000 in
theorem ggX6_init_X3_init : GoodIn wsX6_init wsX3_init := goodIn_r _ [89, 90, 2, 3, 37, 91, 92, 93, 94, 95, 120, 121, 122, 123, 124] (by decide +kernel) (by decide +kernel)
set_option maxRecDepth 20000 in
theorem gX6_init_X3_init_n43 : GoodIn wsX6_init (wsX3_init) := ggX6_init_X3_init
theorem dX6_init_0 : decode cX6_init 0 = .ok (.aload_n 0, 1) := by decide +kernel
theorem dX6_init_1 : decode cX6_init 1 = .ok (.invokespecial 1, 3) := by decide +kernel
theorem dX6_init_4 : decode cX6_init 4 = .ok (.aload_n 0, 1) := by decide +kernel
theorem dX6_init_5 : decode cX6_init 5 = .ok (.new 7, 3) := by decide +kernel
theorem dX6_init_8 : decode cX6_init 8 = .ok (.dup, 1) := by decide +kernel
theorem dX6_init_9 : decode cX6_init 9 = .ok (.invokespecial 9, 3) := by decide +kernel
theorem dX6_init_12 : decode cX6_init 12 = .ok (.putfield 10, 3) := by decide +kernel
theorem dX6_init_15 : decode cX6_init 15 = .ok (.aload_n 0, 1) := by decide +kernel
theorem dX6_init_16 : decode cX6_init 16 = .ok (.new 7, 3) := by decide +kernel
theorem dX6_init_19 : decode cX6_init 19 = .ok (.dup, 1) := by decide +kernel
theorem dX6_init_20 : decode cX6_init 20 = .ok (.invokespecial 9, 3) := by decide +kernel
theorem dX6_init_23 : decode cX6_init 23 = .ok (.putfield 16, 3) := by decide +kernel
theorem dX6_init_26 : decode cX6_init 26 = .ok (.aload_n 0, 1) := by decide +kernel
theorem dX6_init_27 : decode cX6_init 27 = .ok (.new 7, 3) := by decide +kernel
theorem dX6_init_30 : decode cX6_init 30 = .ok (.dup, 1) := by decide +kernel
theorem dX6_init_31 : decode cX6_init 31 = .ok (.invokespecial 9, 3) := by decide +kernel
theorem dX6_init_34 : decode cX6_init 34 = .ok (.putfield 19, 3) := by decide +kernel
theorem dX6_init_37 : decode cX6_init 37 = .ok (.aload_n 0, 1) := by decide +kernel
theorem dX6_init_38 : decode cX6_init 38 = .ok (.iconst 0, 1) := by decide +kernel
theorem dX6_init_39 : decode cX6_init 39 = .ok (.putfield 22, 3) := by decide +kernel
theorem dX6_init_42 : decode cX6_init 42 = .ok (.aload_n 0, 1) := by decide +kernel
theorem dX6_init_43 : decode cX6_init 43 = .ok (.iconst 4, 1) := by decide +kernel
theorem dX6_init_44 : decode cX6_init 44 = .ok (.anewarray 7, 3) := by decide +kernel
theorem dX6_init_47 : decode cX6_init 47 = .ok (.putfield 26, 3) := by decide +kernel
theorem dX6_init_50 : decode cX6_init 50 = .ok (.aload_n 0, 1) := by decide +kernel
theorem dX6_init_51 : decode cX6_init 51 = .ok (.iconst 0, 1) := by decide +kernel
theorem dX6_init_52 : decode cX6_init 52 = .ok (.putfield 30, 3) := by decide +kernel
theorem dX6_init_55 : decode cX6_init 55 = .ok (.aload_n 0, 1) := by decide +kernel
theorem dX6_init_56 : decode cX6_init 56 = .ok (.new 34, 3) := by decide +kernel
theorem dX6_init_59 : decode cX6_init 59 = .ok (.dup, 1) := by decide +kernel
theorem dX6_init_60 : decode cX6_init 60 = .ok (.invokespecial 36, 3) := by decide +kernel
theorem dX6_init_63 : decode cX6_init 63 = .ok (.putfield 37, 3) := by decide +kernel
theorem dX6_init_66 : decode cX6_init 66 = .ok (.aload_n 0, 1) := by decide +kernel
theorem dX6_init_67 : decode cX6_init 67 = .ok (.new 41, 3) := by decide +kernel
theorem dX6_init_70 : decode cX6_init 70 = .ok (.dup, 1) := by decide +kernel
theorem dX6_init_71 : decode cX6_init 71 = .ok (.invokespecial 43, 3) := by decide +kernel
theorem dX6_init_74 : decode cX6_init 74 = .ok (.putfield 44, 3) := by decide +kernel
theorem dX6_init_77 : decode cX6_init 77 = .ok (.iconst 0, 1) := by decide +kernel
theorem dX6_init_78 : decode cX6_init 78 = .ok (.istore_n 1, 1) := by decide +kernel
theorem dX6_init_79 : decode cX6_init 79 = .ok (.iload_n 1, 1) := by decide +kernel
theorem dX6_init_80 : decode cX6_init 80 = .ok (.iconst 4, 1) := by decide +kernel
theorem dX6_init_81 : decode cX6_init 81 = .ok (.if_icmp .ge 22, 3) := by decide +kernel
theorem dX6_init_84 : decode cX6_init 84 = .ok (.aload_n 0, 1) := by decide +kernel
theorem dX6_init_85 : decode cX6_init 85 = .ok (.getfield 26, 3) := by decide +kernel
theorem dX6_init_88 : decode cX6_init 88 = .ok (.iload_n 1, 1) := by decide +kernel
theorem dX6_init_89 : decode cX6_init 89 = .ok (.new 7, 3) := by decide +kernel
theorem dX6_init_92 : decode cX6_init 92 = .ok (.dup, 1) := by decide +kernel
theorem dX6_init_93 : decode cX6_init 93 = .ok (.invokespecial 9, 3) := by decide +kernel
theorem dX6_init_96 : decode cX6_init 96 = .ok (.aastore, 1) := by decide +kernel
theorem dX6_init_97 : decode cX6_init 97 = .ok (.iinc 1 1, 3) := by decide +kernel
theorem dX6_init_100 : decode cX6_init 100 = .ok (.goto (-21), 3) := by decide +kernel
theorem dX6_init_103 : decode cX6_init 103 = .ok (.return_, 1) := by decide +kernel
set_option maxRecDepth 20000 in
theorem ggX6_register_X0_refusalToEnrol : GoodIn wsX6_register wsX0_refusalToEnrol := goodIn_r _ [6, 7, 8, 9, 10, 11, 12, 13, 14, 15, 16, 17, 18, 19, 20, 21, 22, 117, 118, 119, 120, 121, 122, 123, 124, 125, 126, 127, 128, 129, 130, 131, 132, 133, 134, 135, 136, 137, 138] (by decide +kernel) (by decide +kernel)
set_option maxRecDepth 20000 in
theorem gX6_register_X0_refusalToEnrol : GoodIn wsX6_register (wsV RX6 48 RX0 yX0_refusalToEnrol wsX0_refusalToEnrol) := goodIn_app (goodIn_of _ (by decide +kernel)) ggX6_register_X0_refusalToEnrol
set_option maxRecDepth 20000 in
theorem ggX6_register_X6_refuseIf : GoodIn wsX6_register wsX6_refuseIf := goodIn_ca (goodIn_ca (goodIn_ca (goodIn_r _ [25, 26, 27, 28, 29, 30, 31] (by decide +kernel) (by decide +kernel)) (goodIn_sub (fun _ h => List.mem_cons_of_mem _ (List.mem_append_left _ (List.mem_append_left _ (List.mem_append_right _ h)))) (by decide +kernel))) (goodIn_sub (fun _ h => List.mem_cons_of_mem _ (List.mem_append_left _ (List.mem_append_right _ h))) (by decide +kernel))) (goodIn_sub (fun _ h => List.mem_cons_of_mem _ (List.mem_append_right _ h)) (by decide +kernel))
set_option maxRecDepth 20000 in
theorem gX6_register_X6_refuseIf : GoodIn wsX6_register (va_wsS RX6 52 yX6_refuseIf wsX6_refuseIf) := goodIn_app (goodIn_of _ (by decide +kernel)) ggX6_register_X6_refuseIf
set_option maxRecDepth 20000 in
theorem ggX6_register_X6_keepState_q1 : GoodIn wsX6_register ([Cond.code yX6_keepState cX6_keepState 1 none]) := goodIn_r _ [35] (by decide +kernel) (by decide +kernel)
set_option maxRecDepth 20000 in
theorem ggX6_register_X6_keepState_q2 : GoodIn wsX6_register (wsX6_keepState_r1) := goodIn_r _ [36, 37, 1, 38, 39, 40, 9, 41, 42, 43, 44, 5, 45, 46, 7, 47, 48, 49, 50, 51, 52, 53, 54, 55] (by decide +kernel) (by decide +kernel)
set_option maxRecDepth 20000 in
theorem ggX6_register_X6_keepState_q3 : GoodIn wsX6_register (wsX6_keepState_r2) := goodIn_r _ [56, 57, 58, 59, 60, 61, 20, 62, 22, 63, 64, 65, 66, 67, 68, 69, 70, 71, 72, 73, 74, 75, 76, 77] (by decide +kernel) (by decide +kernel)
set_option maxRecDepth 20000 in
theorem ggX6_register_X6_keepState_q4 : GoodIn wsX6_register (wsX6_keepState_r3) := goodIn_r _ [78, 79, 80, 81, 82, 83, 84, 85, 86, 87, 88, 89, 90, 91, 92, 93, 94, 95, 96, 97, 98] (by decide +kernel) (by decide +kernel)
set_option maxRecDepth 20000 in
theorem ggX6_register_X6_keepState_q5 : GoodIn wsX6_register (wsX60) := goodIn_r _ [109, 110, 111, 112, 113, 114, 115, 116] (by decide +kernel) (by decide +kernel)
set_option maxRecDepth 20000 in
theorem ggX6_register_X6_keepState_q6 : GoodIn wsX6_register (wsX00) := goodIn_r _ [117, 118, 119, 120, 121, 122, 123, 124, 125, 126] (by decide +kernel) (by decide +kernel)
set_option maxRecDepth 20000 in
theorem ggX6_register_X6_keepState_q7 : GoodIn wsX6_register (wsX50) := goodIn_r _ [127, 128, 129, 130, 131, 132, 133, 134, 135, 136, 137, 138] (by decide +kernel) (by decide +kernel)
set_option maxRecDepth 20000 in
theorem ggX6_register_X6_keepState_q8 : GoodIn wsX6_register (wsX40) := goodIn_r _ [139, 140, 141, 142] (by decide +kernel) (by decide +kernel)
set_option maxRecDepth 20000 in
theorem ggX6_register_X6_keepState_q9 : GoodIn wsX6_register (wsX10) := goodIn_r _ [143, 144, 145, 146, 147, 148, 149, 150] (by decide +kernel) (by decide +kernel)
theorem ggX6_register_X6_keepState : GoodIn wsX6_register wsX6_keepState := (goodIn_app (a := [Cond.code yX6_keepState cX6_keepState 1 none]) ggX6_register_X6_keepState_q1 (goodIn_app (goodIn_app (goodIn_app (goodIn_app (goodIn_app (goodIn_app ggX6_register_X6_keepState_q2 (goodIn_app ggX6_register_X6_keepState_q3 ggX6_register_X6_keepState_q4)) ggX6_register_X6_keepState_q5) ggX6_register_X6_keepState_q6) ggX6_register_X6_keepState_q7) ggX6_register_X6_keepState_q8) ggX6_register_X6_keepState_q9))
set_option maxRecDepth 20000 in
theorem gX6_register_X6_keepState : GoodIn wsX6_register (wsV RX6 56 RX6 yX6_keepState wsX6_keepState) := goodIn_app (goodIn_of _ (by decide +kernel)) ggX6_register_X6_keepState
set_option maxRecDepth 20000 in
theorem ggX6_register_X0_enrol : GoodIn wsX6_register wsX0_enrol := goodIn_r _ [102, 7, 46, 103, 104, 105, 106, 20, 107, 22, 63, 65, 66, 67, 68, 69, 70, 71, 108, 72, 73, 74, 117, 118, 119, 120, 121, 122, 123, 124, 125, 126, 127, 128, 129, 130, 131, 132, 133, 134, 135, 136, 137, 138] (by decide +kernel) (by decide +kernel)
set_option maxRecDepth 20000 in
theorem gX6_register_X0_enrol : GoodIn wsX6_register (wsV RX6 59 RX0 yX0_enrol wsX0_enrol) := goodIn_app (goodIn_of _ (by decide +kernel)) ggX6_register_X0_enrol
theorem dX6_register_0 : decode cX6_register 0 = .ok (.aload_n 0, 1) := by decide +kernel
theorem dX6_register_1 : decode cX6_register 1 = .ok (.getfield 10, 3) := by decide +kernel
theorem dX6_register_4 : decode cX6_register 4 = .ok (.iload_n 1, 1) := by decide +kernel
theorem dX6_register_5 : decode cX6_register 5 = .ok (.iload_n 2, 1) := by decide +kernel
theorem dX6_register_6 : decode cX6_register 6 = .ok (.iload_n 3, 1) := by decide +kernel
theorem dX6_register_7 : decode cX6_register 7 = .ok (.iload 4, 2) := by decide +kernel
theorem dX6_register_9 : decode cX6_register 9 = .ok (.iload 5, 2) := by decide +kernel
theorem dX6_register_11 : decode cX6_register 11 = .ok (.invokevirtual 48, 3) := by decide +kernel
theorem dX6_register_14 : decode cX6_register 14 = .ok (.invokestatic 52, 3) := by decide +kernel
theorem dX6_register_17 : decode cX6_register 17 = .ok (.aload_n 0, 1) := by decide +kernel
theorem dX6_register_18 : decode cX6_register 18 = .ok (.invokevirtual 56, 3) := by decide +kernel
theorem dX6_register_21 : decode cX6_register 21 = .ok (.aload_n 0, 1) := by decide +kernel
theorem dX6_register_22 : decode cX6_register 22 = .ok (.getfield 10, 3) := by decide +kernel
theorem dX6_register_25 : decode cX6_register 25 = .ok (.iload_n 1, 1) := by decide +kernel
theorem dX6_register_26 : decode cX6_register 26 = .ok (.iload_n 2, 1) := by decide +kernel
theorem dX6_register_27 : decode cX6_register 27 = .ok (.iload_n 3, 1) := by decide +kernel
theorem dX6_register_28 : decode cX6_register 28 = .ok (.iload 4, 2) := by decide +kernel
theorem dX6_register_30 : decode cX6_register 30 = .ok (.iload 5, 2) := by decide +kernel
theorem dX6_register_32 : decode cX6_register 32 = .ok (.invokevirtual 59, 3) := by decide +kernel
theorem dX6_register_35 : decode cX6_register 35 = .ok (.ireturn, 1) := by decide +kernel
set_option maxRecDepth 20000 in
theorem ggX6_leave_X0_refusalToDismiss : GoodIn wsX6_leave wsX0_refusalToDismiss := goodIn_r _ [6, 7, 8, 9, 10, 11, 12, 13, 14, 15, 16, 17, 18, 19, 113, 114, 115, 116, 117, 118, 119, 120, 121, 122, 123, 124, 125, 126, 127, 128, 129, 130, 131, 132, 133, 134] (by decide +kernel) (by decide +kernel)
set_option maxRecDepth 20000 in
theorem gX6_leave_X0_refusalToDismiss : GoodIn wsX6_leave (wsV RX6 62 RX0 yX0_refusalToDismiss wsX0_refusalToDismiss) := goodIn_app (goodIn_of _ (by decide +kernel)) ggX6_leave_X0_refusalToDismiss
set_option maxRecDepth 20000 in
theorem ggX6_leave_X6_refuseIf : GoodIn wsX6_leave wsX6_refuseIf := goodIn_ca (goodIn_ca (goodIn_ca (goodIn_r _ [23, 24, 25, 26, 27, 28, 29] (by decide +kernel) (by decide +kernel)) (goodIn_sub (fun _ h => List.mem_cons_of_mem _ (List.mem_append_left _ (List.mem_append_left _ (List.mem_append_right _ h)))) (by decide +kernel))) (goodIn_sub (fun _ h => List.mem_cons_of_mem _ (List.mem_append_left _ (List.mem_append_right _ h))) (by decide +kernel))) (goodIn_sub (fun _ h => List.mem_cons_of_mem _ (List.mem_append_right _ h)) (by decide +kernel))
set_option maxRecDepth 20000 in
theorem gX6_leave_X6_refuseIf : GoodIn wsX6_leave (va_wsS RX6 52 yX6_refuseIf wsX6_refuseIf) := goodIn_app (goodIn_of _ (by decide +kernel)) ggX6_leave_X6_refuseIf
set_option maxRecDepth 20000 in
theorem ggX6_leave_X6_keepState_q1 : GoodIn wsX6_leave ([Cond.code yX6_keepState cX6_keepState 1 none]) := goodIn_r _ [33] (by decide +kernel) (by decide +kernel)
set_option maxRecDepth 20000 in
theorem ggX6_leave_X6_keepState_q2 : GoodIn wsX6_leave (wsX6_keepState_r1) := goodIn_r _ [34, 35, 1, 36, 37, 38, 22, 39, 40, 41, 42, 5, 43, 8, 7, 44, 45, 46, 47, 48, 49, 50, 51, 52] (by decide +kernel) (by decide +kernel)
set_option maxRecDepth 20000 in
theorem ggX6_leave_X6_keepState_q3 : GoodIn wsX6_leave (wsX6_keepState_r2) := goodIn_r _ [53, 54, 55, 56, 57, 58, 12, 59, 14, 60, 61, 62, 63, 64, 65, 66, 67, 19, 68, 69, 70, 71, 72, 73] (by decide +kernel) (by decide +kernel)
set_option maxRecDepth 20000 in
theorem ggX6_leave_X6_keepState_q4 : GoodIn wsX6_leave (wsX6_keepState_r3) := goodIn_r _ [74, 75, 76, 77, 78, 79, 80, 81, 82, 83, 84, 85, 86, 87, 88, 89, 90, 91, 92, 93, 94] (by decide +kernel) (by decide +kernel)
set_option maxRecDepth 20000 in
theorem ggX6_leave_X6_keepState_q5 : GoodIn wsX6_leave (wsX60) := goodIn_r _ [105, 106, 107, 108, 109, 110, 111, 112] (by decide +kernel) (by decide +kernel)
set_option maxRecDepth 20000 in
theorem ggX6_leave_X6_keepState_q6 : GoodIn wsX6_leave (wsX00) := goodIn_r _ [113, 114, 115, 116, 117, 118, 119, 120, 121, 122] (by decide +kernel) (by decide +kernel)
set_option maxRecDepth 20000 in
theorem ggX6_leave_X6_keepState_q7 : GoodIn wsX6_leave (wsX50) := goodIn_r _ [123, 124, 125, 126, 127, 128, 129, 130, 131, 132, 133, 134] (by decide +kernel) (by decide +kernel)
set_option maxRecDepth 20000 in
theorem ggX6_leave_X6_keepState_q8 : GoodIn wsX6_leave (wsX40) := goodIn_r _ [135, 136, 137, 138] (by decide +kernel) (by decide +kernel)
set_option maxRecDepth 20000 in
theorem ggX6_leave_X6_keepState_q9 : GoodIn wsX6_leave (wsX10) := goodIn_r _ [139, 140, 141, 142, 143, 144, 145, 146] (by decide +kernel) (by decide +kernel)
theorem ggX6_leave_X6_keepState : GoodIn wsX6_leave wsX6_keepState := (goodIn_app (a := [Cond.code yX6_keepState cX6_keepState 1 none]) ggX6_leave_X6_keepState_q1 (goodIn_app (goodIn_app (goodIn_app (goodIn_app (goodIn_app (goodIn_app ggX6_leave_X6_keepState_q2 (goodIn_app ggX6_leave_X6_keepState_q3 ggX6_leave_X6_keepState_q4)) ggX6_leave_X6_keepState_q5) ggX6_leave_X6_keepState_q6) ggX6_leave_X6_keepState_q7) ggX6_leave_X6_keepState_q8) ggX6_leave_X6_keepState_q9))
set_option maxRecDepth 20000 in
theorem gX6_leave_X6_keepState : GoodIn wsX6_leave (wsV RX6 56 RX6 yX6_keepState wsX6_keepState) := goodIn_app (goodIn_of _ (by decide +kernel)) ggX6_leave_X6_keepState
set_option maxRecDepth 20000 in
theorem ggX6_leave_X0_dismiss : GoodIn wsX6_leave wsX0_dismiss := goodIn_r _ [98, 7, 99, 8, 100, 101, 102, 12, 103, 14, 104, 16, 17, 18, 19, 113, 114, 115, 116, 117, 118, 119, 120, 121, 122, 123, 124, 125, 126, 127, 128, 129, 130, 131, 132, 133, 134] (by decide +kernel) (by decide +kernel)
set_option maxRecDepth 20000 in
theorem gX6_leave_X0_dismiss : GoodIn wsX6_leave (wsV RX6 66 RX0 yX0_dismiss wsX0_dismiss) := goodIn_app (goodIn_of _ (by decide +kernel)) ggX6_leave_X0_dismiss
theorem dX6_leave_0 : decode cX6_leave 0 = .ok (.aload_n 0, 1) := by decide +kernel
theorem dX6_leave_1 : decode cX6_leave 1 = .ok (.getfield 10, 3) := by decide +kernel
theorem dX6_leave_4 : decode cX6_leave 4 = .ok (.iload_n 1, 1) := by decide +kernel
theorem dX6_leave_5 : decode cX6_leave 5 = .ok (.invokevirtual 62, 3) := by decide +kernel
theorem dX6_leave_8 : decode cX6_leave 8 = .ok (.invokestatic 52, 3) := by decide +kernel
theorem dX6_leave_11 : decode cX6_leave 11 = .ok (.aload_n 0, 1) := by decide +kernel
theorem dX6_leave_12 : decode cX6_leave 12 = .ok (.invokevirtual 56, 3) := by decide +kernel
theorem dX6_leave_15 : decode cX6_leave 15 = .ok (.aload_n 0, 1) := by decide +kernel
theorem dX6_leave_16 : decode cX6_leave 16 = .ok (.getfield 10, 3) := by decide +kernel
theorem dX6_leave_19 : decode cX6_leave 19 = .ok (.iload_n 1, 1) := by decide +kernel
theorem dX6_leave_20 : decode cX6_leave 20 = .ok (.invokevirtual 66, 3) := by decide +kernel
theorem dX6_leave_23 : decode cX6_leave 23 = .ok (.ireturn, 1) := by decide +kernel
set_option maxRecDepth 20000 in
theorem ggX6_borrow_X0_refusalToHire : GoodIn wsX6_borrow wsX0_refusalToHire := goodIn_r _ [6, 7, 8, 9, 10, 11, 12, 13, 14, 15, 16, 17, 18, 19, 20, 21, 22, 23, 119, 120, 121, 122, 123, 124, 125, 126, 127, 128, 129, 130, 131, 132, 133, 134, 135, 136, 137, 138, 139, 140] (by decide +kernel) (by decide +kernel)
set_option maxRecDepth 20000 in
theorem gX6_borrow_X0_refusalToHire : GoodIn wsX6_borrow (wsV RX6 69 RX0 yX0_refusalToHire wsX0_refusalToHire) := goodIn_app (goodIn_of _ (by decide +kernel)) ggX6_borrow_X0_refusalToHire
set_option maxRecDepth 20000 in
theorem ggX6_borrow_X6_refuseIf : GoodIn wsX6_borrow wsX6_refuseIf := goodIn_ca (goodIn_ca (goodIn_ca (goodIn_r _ [26, 27, 28, 29, 30, 31, 32] (by decide +kernel) (by decide +kernel)) (goodIn_sub (fun _ h => List.mem_cons_of_mem _ (List.mem_append_left _ (List.mem_append_left _ (List.mem_append_right _ h)))) (by decide +kernel))) (goodIn_sub (fun _ h => List.mem_cons_of_mem _ (List.mem_append_left _ (List.mem_append_right _ h))) (by decide +kernel))) (goodIn_sub (fun _ h => List.mem_cons_of_mem _ (List.mem_append_right _ h)) (by decide +kernel))
set_option maxRecDepth 20000 in
theorem gX6_borrow_X6_refuseIf : GoodIn wsX6_borrow (va_wsS RX6 52 yX6_refuseIf wsX6_refuseIf) := goodIn_app (goodIn_of _ (by decide +kernel)) ggX6_borrow_X6_refuseIf
set_option maxRecDepth 20000 in
theorem ggX6_borrow_X6_keepState_q1 : GoodIn wsX6_borrow ([Cond.code yX6_keepState cX6_keepState 1 none]) := goodIn_r _ [36] (by decide +kernel) (by decide +kernel)
set_option maxRecDepth 20000 in
theorem ggX6_borrow_X6_keepState_q2 : GoodIn wsX6_borrow (wsX6_keepState_r1) := goodIn_r _ [37, 38, 1, 39, 40, 41, 10, 42, 43, 44, 45, 5, 46, 47, 7, 48, 49, 8, 50, 51, 52, 53, 54, 55] (by decide +kernel) (by decide +kernel)
set_option maxRecDepth 20000 in
theorem ggX6_borrow_X6_keepState_q3 : GoodIn wsX6_borrow (wsX6_keepState_r2) := goodIn_r _ [56, 57, 58, 59, 60, 61, 21, 62, 23, 63, 64, 65, 66, 67, 68, 69, 70, 71, 72, 73, 74, 75, 76, 77] (by decide +kernel) (by decide +kernel)
set_option maxRecDepth 20000 in
theorem ggX6_borrow_X6_keepState_q4 : GoodIn wsX6_borrow (wsX6_keepState_r3) := goodIn_r _ [78, 79, 80, 81, 82, 83, 84, 85, 86, 87, 88, 89, 90, 91, 92, 93, 94, 95, 96, 97, 98] (by decide +kernel) (by decide +kernel)
set_option maxRecDepth 20000 in
theorem ggX6_borrow_X6_keepState_q5 : GoodIn wsX6_borrow (wsX60) := goodIn_r _ [111, 112, 113, 114, 115, 116, 117, 118] (by decide +kernel) (by decide +kernel)
set_option maxRecDepth 20000 in
theorem ggX6_borrow_X6_keepState_q6 : GoodIn wsX6_borrow (wsX00) := goodIn_r _ [119, 120, 121, 122, 123, 124, 125, 126, 127, 128] (by decide +kernel) (by decide +kernel)
set_option maxRecDepth 20000 in
theorem ggX6_borrow_X6_keepState_q7 : GoodIn wsX6_borrow (wsX50) := goodIn_r _ [129, 130, 131, 132, 133, 134, 135, 136, 137, 138, 139, 140] (by decide +kernel) (by decide +kernel)
set_option maxRecDepth 20000 in
theorem ggX6_borrow_X6_keepState_q8 : GoodIn wsX6_borrow (wsX40) := goodIn_r _ [141, 142, 143, 144] (by decide +kernel) (by decide +kernel)
set_option maxRecDepth 20000 in
theorem ggX6_borrow_X6_keepState_q9 : GoodIn wsX6_borrow (wsX10) := goodIn_r _ [145, 146, 147, 148, 149, 150, 151, 152] (by decide +kernel) (by decide +kernel)
theorem ggX6_borrow_X6_keepState : GoodIn wsX6_borrow wsX6_keepState := (goodIn_app (a := [Cond.code yX6_keepState cX6_keepState 1 none]) ggX6_borrow_X6_keepState_q1 (goodIn_app (goodIn_app (goodIn_app (goodIn_app (goodIn_app (goodIn_app ggX6_borrow_X6_keepState_q2 (goodIn_app ggX6_borrow_X6_keepState_q3 ggX6_borrow_X6_keepState_q4)) ggX6_borrow_X6_keepState_q5) ggX6_borrow_X6_keepState_q6) ggX6_borrow_X6_keepState_q7) ggX6_borrow_X6_keepState_q8) ggX6_borrow_X6_keepState_q9))
set_option maxRecDepth 20000 in
theorem gX6_borrow_X6_keepState : GoodIn wsX6_borrow (wsV RX6 56 RX6 yX6_keepState wsX6_keepState) := goodIn_app (goodIn_of _ (by decide +kernel)) ggX6_borrow_X6_keepState
set_option maxRecDepth 20000 in
theorem ggX6_borrow_X0_hire : GoodIn wsX6_borrow wsX0_hire := goodIn_r _ [102, 7, 47, 103, 104, 105, 8, 106, 107, 108, 21, 109, 23, 63, 65, 66, 67, 68, 69, 70, 71, 110, 72, 73, 74, 119, 120, 121, 122, 123, 124, 125, 126, 127, 128, 129, 130, 131, 132, 133, 134, 135, 136, 137, 138, 139, 140] (by decide +kernel) (by decide +kernel)
set_option maxRecDepth 20000 in
theorem gX6_borrow_X0_hire : GoodIn wsX6_borrow (wsV RX6 73 RX0 yX0_hire wsX0_hire) := goodIn_app (goodIn_of _ (by decide +kernel)) ggX6_borrow_X0_hire
theorem dX6_borrow_0 : decode cX6_borrow 0 = .ok (.aload_n 0, 1) := by decide +kernel
theorem dX6_borrow_1 : decode cX6_borrow 1 = .ok (.getfield 10, 3) := by decide +kernel
theorem dX6_borrow_4 : decode cX6_borrow 4 = .ok (.iload_n 1, 1) := by decide +kernel
theorem dX6_borrow_5 : decode cX6_borrow 5 = .ok (.iload_n 2, 1) := by decide +kernel
theorem dX6_borrow_6 : decode cX6_borrow 6 = .ok (.iload_n 3, 1) := by decide +kernel
theorem dX6_borrow_7 : decode cX6_borrow 7 = .ok (.iload 4, 2) := by decide +kernel
theorem dX6_borrow_9 : decode cX6_borrow 9 = .ok (.iload 5, 2) := by decide +kernel
theorem dX6_borrow_11 : decode cX6_borrow 11 = .ok (.iload 6, 2) := by decide +kernel
theorem dX6_borrow_13 : decode cX6_borrow 13 = .ok (.invokevirtual 69, 3) := by decide +kernel
theorem dX6_borrow_16 : decode cX6_borrow 16 = .ok (.invokestatic 52, 3) := by decide +kernel
theorem dX6_borrow_19 : decode cX6_borrow 19 = .ok (.aload_n 0, 1) := by decide +kernel
theorem dX6_borrow_20 : decode cX6_borrow 20 = .ok (.invokevirtual 56, 3) := by decide +kernel
theorem dX6_borrow_23 : decode cX6_borrow 23 = .ok (.aload_n 0, 1) := by decide +kernel
theorem dX6_borrow_24 : decode cX6_borrow 24 = .ok (.getfield 10, 3) := by decide +kernel
theorem dX6_borrow_27 : decode cX6_borrow 27 = .ok (.iload_n 1, 1) := by decide +kernel
theorem dX6_borrow_28 : decode cX6_borrow 28 = .ok (.iload_n 2, 1) := by decide +kernel
theorem dX6_borrow_29 : decode cX6_borrow 29 = .ok (.iload_n 3, 1) := by decide +kernel
theorem dX6_borrow_30 : decode cX6_borrow 30 = .ok (.iload 4, 2) := by decide +kernel
theorem dX6_borrow_32 : decode cX6_borrow 32 = .ok (.iload 5, 2) := by decide +kernel
theorem dX6_borrow_34 : decode cX6_borrow 34 = .ok (.iload 6, 2) := by decide +kernel
theorem dX6_borrow_36 : decode cX6_borrow 36 = .ok (.invokevirtual 73, 3) := by decide +kernel
theorem dX6_borrow_39 : decode cX6_borrow 39 = .ok (.ireturn, 1) := by decide +kernel
set_option maxRecDepth 20000 in
theorem ggX6_lend_X0_refusalToSendAway : GoodIn wsX6_lend wsX0_refusalToSendAway := goodIn_r _ [6, 7, 8, 9, 10, 11, 12, 13, 14, 15, 16, 17, 18, 19, 20, 21, 22, 23, 24, 25, 26, 27, 28, 115, 116, 117, 118, 119, 120, 121, 122, 123, 124, 125, 126, 127, 128, 129, 130, 131, 132, 133, 134, 135, 136] (by decide +kernel) (by decide +kernel)
set_option maxRecDepth 20000 in
theorem gX6_lend_X0_refusalToSendAway : GoodIn wsX6_lend (wsV RX6 76 RX0 yX0_refusalToSendAway wsX0_refusalToSendAway) := goodIn_app (goodIn_of _ (by decide +kernel)) ggX6_lend_X0_refusalToSendAway
set_option maxRecDepth 20000 in
theorem ggX6_lend_X6_refuseIf : GoodIn wsX6_lend wsX6_refuseIf := goodIn_ca (goodIn_ca (goodIn_ca (goodIn_r _ [31, 32, 33, 34, 35, 36, 37] (by decide +kernel) (by decide +kernel)) (goodIn_sub (fun _ h => List.mem_cons_of_mem _ (List.mem_append_left _ (List.mem_append_left _ (List.mem_append_right _ h)))) (by decide +kernel))) (goodIn_sub (fun _ h => List.mem_cons_of_mem _ (List.mem_append_left _ (List.mem_append_right _ h))) (by decide +kernel))) (goodIn_sub (fun _ h => List.mem_cons_of_mem _ (List.mem_append_right _ h)) (by decide +kernel))
set_option maxRecDepth 20000 in
theorem gX6_lend_X6_refuseIf : GoodIn wsX6_lend (va_wsS RX6 52 yX6_refuseIf wsX6_refuseIf) := goodIn_app (goodIn_of _ (by decide +kernel)) ggX6_lend_X6_refuseIf
set_option maxRecDepth 20000 in
theorem ggX6_lend_X6_keepState_q1 : GoodIn wsX6_lend ([Cond.code yX6_keepState cX6_keepState 1 none]) := goodIn_r _ [41] (by decide +kernel) (by decide +kernel)
set_option maxRecDepth 20000 in
theorem ggX6_lend_X6_keepState_q2 : GoodIn wsX6_lend (wsX6_keepState_r1) := goodIn_r _ [42, 43, 1, 44, 45, 46, 17, 47, 48, 49, 50, 5, 51, 8, 7, 52, 53, 54, 55, 56, 57, 58, 59, 60] (by decide +kernel) (by decide +kernel)
set_option maxRecDepth 20000 in
theorem ggX6_lend_X6_keepState_q3 : GoodIn wsX6_lend (wsX6_keepState_r2) := goodIn_r _ [61, 62, 63, 64, 65, 66, 13, 67, 15, 68, 69, 70, 71, 72, 73, 74, 75, 23, 28, 76, 77, 78, 79, 80] (by decide +kernel) (by decide +kernel)
set_option maxRecDepth 20000 in
theorem ggX6_lend_X6_keepState_q4 : GoodIn wsX6_lend (wsX6_keepState_r3) := goodIn_r _ [81, 82, 83, 84, 85, 86, 87, 88, 89, 90, 91, 92, 93, 94, 95, 96, 97, 98, 99, 100, 101] (by decide +kernel) (by decide +kernel)
set_option maxRecDepth 20000 in
theorem ggX6_lend_X6_keepState_q5 : GoodIn wsX6_lend (wsX60) := goodIn_r _ [107, 108, 109, 110, 111, 112, 113, 114] (by decide +kernel) (by decide +kernel)
set_option maxRecDepth 20000 in
theorem ggX6_lend_X6_keepState_q6 : GoodIn wsX6_lend (wsX00) := goodIn_r _ [115, 116, 117, 118, 119, 120, 121, 122, 123, 124] (by decide +kernel) (by decide +kernel)
set_option maxRecDepth 20000 in
theorem ggX6_lend_X6_keepState_q7 : GoodIn wsX6_lend (wsX50) := goodIn_r _ [125, 126, 127, 128, 129, 130, 131, 132, 133, 134, 135, 136] (by decide +kernel) (by decide +kernel)
set_option maxRecDepth 20000 in
theorem ggX6_lend_X6_keepState_q8 : GoodIn wsX6_lend (wsX40) := goodIn_r _ [137, 138, 139, 140] (by decide +kernel) (by decide +kernel)
set_option maxRecDepth 20000 in
theorem ggX6_lend_X6_keepState_q9 : GoodIn wsX6_lend (wsX10) := goodIn_r _ [141, 142, 143, 144, 145, 146, 147, 148] (by decide +kernel) (by decide +kernel)
theorem ggX6_lend_X6_keepState : GoodIn wsX6_lend wsX6_keepState := (goodIn_app (a := [Cond.code yX6_keepState cX6_keepState 1 none]) ggX6_lend_X6_keepState_q1 (goodIn_app (goodIn_app (goodIn_app (goodIn_app (goodIn_app (goodIn_app ggX6_lend_X6_keepState_q2 (goodIn_app ggX6_lend_X6_keepState_q3 ggX6_lend_X6_keepState_q4)) ggX6_lend_X6_keepState_q5) ggX6_lend_X6_keepState_q6) ggX6_lend_X6_keepState_q7) ggX6_lend_X6_keepState_q8) ggX6_lend_X6_keepState_q9))
set_option maxRecDepth 20000 in
theorem gX6_lend_X6_keepState : GoodIn wsX6_lend (wsV RX6 56 RX6 yX6_keepState wsX6_keepState) := goodIn_app (goodIn_of _ (by decide +kernel)) ggX6_lend_X6_keepState
set_option maxRecDepth 20000 in
theorem ggX6_lend_X0_sendAway : GoodIn wsX6_lend wsX0_sendAway := goodIn_r _ [105, 7, 106, 8, 54, 60, 59, 115, 116, 117, 118, 119, 120, 121, 122, 123, 124, 125, 126, 127, 128, 129, 130, 131, 132, 133, 134, 135, 136] (by decide +kernel) (by decide +kernel)
set_option maxRecDepth 20000 in
theorem gX6_lend_X0_sendAway : GoodIn wsX6_lend (wsV RX6 80 RX0 yX0_sendAway wsX0_sendAway) := goodIn_app (goodIn_of _ (by decide +kernel)) ggX6_lend_X0_sendAway
theorem dX6_lend_0 : decode cX6_lend 0 = .ok (.aload_n 0, 1) := by decide +kernel
theorem dX6_lend_1 : decode cX6_lend 1 = .ok (.getfield 10, 3) := by decide +kernel
theorem dX6_lend_4 : decode cX6_lend 4 = .ok (.iload_n 1, 1) := by decide +kernel
theorem dX6_lend_5 : decode cX6_lend 5 = .ok (.iload_n 2, 1) := by decide +kernel
theorem dX6_lend_6 : decode cX6_lend 6 = .ok (.iload_n 3, 1) := by decide +kernel
theorem dX6_lend_7 : decode cX6_lend 7 = .ok (.invokevirtual 76, 3) := by decide +kernel
theorem dX6_lend_10 : decode cX6_lend 10 = .ok (.invokestatic 52, 3) := by decide +kernel
theorem dX6_lend_13 : decode cX6_lend 13 = .ok (.aload_n 0, 1) := by decide +kernel
theorem dX6_lend_14 : decode cX6_lend 14 = .ok (.invokevirtual 56, 3) := by decide +kernel
theorem dX6_lend_17 : decode cX6_lend 17 = .ok (.aload_n 0, 1) := by decide +kernel
theorem dX6_lend_18 : decode cX6_lend 18 = .ok (.getfield 10, 3) := by decide +kernel
theorem dX6_lend_21 : decode cX6_lend 21 = .ok (.iload_n 1, 1) := by decide +kernel
theorem dX6_lend_22 : decode cX6_lend 22 = .ok (.iload_n 2, 1) := by decide +kernel
theorem dX6_lend_23 : decode cX6_lend 23 = .ok (.iload_n 3, 1) := by decide +kernel
theorem dX6_lend_24 : decode cX6_lend 24 = .ok (.invokevirtual 80, 3) := by decide +kernel
theorem dX6_lend_27 : decode cX6_lend 27 = .ok (.ireturn, 1) := by decide +kernel
set_option maxRecDepth 20000 in
theorem ggX6_excuse_X0_refusalToTakeNote : GoodIn wsX6_excuse wsX0_refusalToTakeNote := goodIn_r _ [6, 7, 8, 9, 10, 11, 12, 13, 14, 15, 16, 17, 18, 19, 20, 21, 22, 23, 24, 25, 26, 27, 28, 29, 30, 31, 32, 33, 34, 35, 36, 121, 122, 123, 124, 125, 126, 127, 128, 129, 130, 131, 132, 133, 134, 135, 136, 137, 138, 139, 140, 141, 142, 143, 144, 145, 146] (by decide +kernel) (by decide +kernel)
set_option maxRecDepth 20000 in
theorem gX6_excuse_X0_refusalToTakeNote : GoodIn wsX6_excuse (wsV RX6 83 RX0 yX0_refusalToTakeNote wsX0_refusalToTakeNote) := goodIn_app (goodIn_of _ (by decide +kernel)) ggX6_excuse_X0_refusalToTakeNote
set_option maxRecDepth 20000 in
theorem ggX6_excuse_X6_refuseIf : GoodIn wsX6_excuse wsX6_refuseIf := goodIn_ca (goodIn_ca (goodIn_ca (goodIn_r _ [39, 40, 41, 42, 43, 44, 45] (by decide +kernel) (by decide +kernel)) (goodIn_sub (fun _ h => List.mem_cons_of_mem _ (List.mem_append_left _ (List.mem_append_left _ (List.mem_append_right _ h)))) (by decide +kernel))) (goodIn_sub (fun _ h => List.mem_cons_of_mem _ (List.mem_append_left _ (List.mem_append_right _ h))) (by decide +kernel))) (goodIn_sub (fun _ h => List.mem_cons_of_mem _ (List.mem_append_right _ h)) (by decide +kernel))
set_option maxRecDepth 20000 in
theorem gX6_excuse_X6_refuseIf : GoodIn wsX6_excuse (va_wsS RX6 52 yX6_refuseIf wsX6_refuseIf) := goodIn_app (goodIn_of _ (by decide +kernel)) ggX6_excuse_X6_refuseIf
set_option maxRecDepth 20000 in
theorem ggX6_excuse_X6_keepState_q1 : GoodIn wsX6_excuse ([Cond.code yX6_keepState cX6_keepState 1 none]) := goodIn_r _ [49] (by decide +kernel) (by decide +kernel)
set_option maxRecDepth 20000 in
theorem ggX6_excuse_X6_keepState_q2 : GoodIn wsX6_excuse (wsX6_keepState_r1) := goodIn_r _ [50, 51, 1, 52, 53, 54, 17, 55, 56, 57, 58, 5, 59, 8, 7, 9, 60, 61, 62, 63, 64, 65, 66, 67] (by decide +kernel) (by decide +kernel)
set_option maxRecDepth 20000 in
theorem ggX6_excuse_X6_keepState_q3 : GoodIn wsX6_excuse (wsX6_keepState_r2) := goodIn_r _ [68, 69, 70, 71, 72, 73, 13, 74, 15, 75, 76, 77, 78, 79, 80, 81, 82, 36, 83, 84, 85, 86, 87, 88] (by decide +kernel) (by decide +kernel)
set_option maxRecDepth 20000 in
theorem ggX6_excuse_X6_keepState_q4 : GoodIn wsX6_excuse (wsX6_keepState_r3) := goodIn_r _ [22, 89, 24, 29, 90, 30, 31, 91, 92, 93, 94, 95, 96, 97, 98, 99, 100, 101, 102, 103, 104] (by decide +kernel) (by decide +kernel)
set_option maxRecDepth 20000 in
theorem ggX6_excuse_X6_keepState_q5 : GoodIn wsX6_excuse (wsX60) := goodIn_r _ [113, 114, 115, 116, 117, 118, 119, 120] (by decide +kernel) (by decide +kernel)
set_option maxRecDepth 20000 in
theorem ggX6_excuse_X6_keepState_q6 : GoodIn wsX6_excuse (wsX00) := goodIn_r _ [121, 122, 123, 124, 125, 126, 127, 128, 129, 130] (by decide +kernel) (by decide +kernel)
set_option maxRecDepth 20000 in
theorem ggX6_excuse_X6_keepState_q7 : GoodIn wsX6_excuse (wsX50) := goodIn_r _ [131, 132, 133, 134, 135, 136, 137, 138, 139, 140, 141, 142] (by decide +kernel) (by decide +kernel)
set_option maxRecDepth 20000 in
theorem ggX6_excuse_X6_keepState_q8 : GoodIn wsX6_excuse (wsX40) := goodIn_r _ [143, 144, 145, 146] (by decide +kernel) (by decide +kernel)
set_option maxRecDepth 20000 in
theorem ggX6_excuse_X6_keepState_q9 : GoodIn wsX6_excuse (wsX10) := goodIn_r _ [147, 148, 149, 150, 151, 152, 153, 154] (by decide +kernel) (by decide +kernel)
theorem ggX6_excuse_X6_keepState : GoodIn wsX6_excuse wsX6_keepState := (goodIn_app (a := [Cond.code yX6_keepState cX6_keepState 1 none]) ggX6_excuse_X6_keepState_q1 (goodIn_app (goodIn_app (goodIn_app (goodIn_app (goodIn_app (goodIn_app ggX6_excuse_X6_keepState_q2 (goodIn_app ggX6_excuse_X6_keepState_q3 ggX6_excuse_X6_keepState_q4)) ggX6_excuse_X6_keepState_q5) ggX6_excuse_X6_keepState_q6) ggX6_excuse_X6_keepState_q7) ggX6_excuse_X6_keepState_q8) ggX6_excuse_X6_keepState_q9))
set_option maxRecDepth 20000 in
theorem gX6_excuse_X6_keepState : GoodIn wsX6_excuse (wsV RX6 56 RX6 yX6_keepState wsX6_keepState) := goodIn_app (goodIn_of _ (by decide +kernel)) ggX6_excuse_X6_keepState
set_option maxRecDepth 20000 in
theorem ggX6_excuse_X0_takeNote : GoodIn wsX6_excuse wsX0_takeNote := goodIn_r _ [108, 9, 109, 110, 111, 22, 112, 29, 24, 30, 31, 121, 122, 123, 124, 125, 126, 127, 128, 129, 130, 143, 144, 145, 146] (by decide +kernel) (by decide +kernel)
set_option maxRecDepth 20000 in
theorem gX6_excuse_X0_takeNote : GoodIn wsX6_excuse (wsV RX6 86 RX0 yX0_takeNote wsX0_takeNote) := goodIn_app (goodIn_of _ (by decide +kernel)) ggX6_excuse_X0_takeNote
theorem dX6_excuse_0 : decode cX6_excuse 0 = .ok (.aload_n 0, 1) := by decide +kernel
theorem dX6_excuse_1 : decode cX6_excuse 1 = .ok (.getfield 10, 3) := by decide +kernel
theorem dX6_excuse_4 : decode cX6_excuse 4 = .ok (.iload_n 1, 1) := by decide +kernel
theorem dX6_excuse_5 : decode cX6_excuse 5 = .ok (.iload_n 2, 1) := by decide +kernel
theorem dX6_excuse_6 : decode cX6_excuse 6 = .ok (.iload_n 3, 1) := by decide +kernel
theorem dX6_excuse_7 : decode cX6_excuse 7 = .ok (.invokevirtual 83, 3) := by decide +kernel
theorem dX6_excuse_10 : decode cX6_excuse 10 = .ok (.invokestatic 52, 3) := by decide +kernel
theorem dX6_excuse_13 : decode cX6_excuse 13 = .ok (.aload_n 0, 1) := by decide +kernel
theorem dX6_excuse_14 : decode cX6_excuse 14 = .ok (.invokevirtual 56, 3) := by decide +kernel
theorem dX6_excuse_17 : decode cX6_excuse 17 = .ok (.aload_n 0, 1) := by decide +kernel
theorem dX6_excuse_18 : decode cX6_excuse 18 = .ok (.getfield 10, 3) := by decide +kernel
theorem dX6_excuse_21 : decode cX6_excuse 21 = .ok (.iload_n 1, 1) := by decide +kernel
theorem dX6_excuse_22 : decode cX6_excuse 22 = .ok (.iload_n 2, 1) := by decide +kernel
theorem dX6_excuse_23 : decode cX6_excuse 23 = .ok (.iload_n 3, 1) := by decide +kernel
theorem dX6_excuse_24 : decode cX6_excuse 24 = .ok (.invokevirtual 86, 3) := by decide +kernel
theorem dX6_excuse_27 : decode cX6_excuse 27 = .ok (.ireturn, 1) := by decide +kernel
set_option maxRecDepth 20000 in
theorem ggX6_announce_X0_refusalToAddFeast : GoodIn wsX6_announce wsX0_refusalToAddFeast := goodIn_r _ [6, 7, 8, 9, 10, 11, 12, 13, 14, 15, 16, 17, 18, 19, 20, 21, 22, 117, 118, 119, 120, 121, 122, 123, 124, 125, 126, 127, 128, 129, 130, 131, 132, 133, 134] (by decide +kernel) (by decide +kernel)
set_option maxRecDepth 20000 in
theorem gX6_announce_X0_refusalToAddFeast : GoodIn wsX6_announce (wsV RX6 89 RX0 yX0_refusalToAddFeast wsX0_refusalToAddFeast) := goodIn_app (goodIn_of _ (by decide +kernel)) ggX6_announce_X0_refusalToAddFeast
set_option maxRecDepth 20000 in
theorem ggX6_announce_X6_refuseIf : GoodIn wsX6_announce wsX6_refuseIf := goodIn_ca (goodIn_ca (goodIn_ca (goodIn_r _ [25, 26, 27, 28, 29, 30, 31] (by decide +kernel) (by decide +kernel)) (goodIn_sub (fun _ h => List.mem_cons_of_mem _ (List.mem_append_left _ (List.mem_append_left _ (List.mem_append_right _ h)))) (by decide +kernel))) (goodIn_sub (fun _ h => List.mem_cons_of_mem _ (List.mem_append_left _ (List.mem_append_right _ h))) (by decide +kernel))) (goodIn_sub (fun _ h => List.mem_cons_of_mem _ (List.mem_append_right _ h)) (by decide +kernel))
set_option maxRecDepth 20000 in
theorem gX6_announce_X6_refuseIf : GoodIn wsX6_announce (va_wsS RX6 52 yX6_refuseIf wsX6_refuseIf) := goodIn_app (goodIn_of _ (by decide +kernel)) ggX6_announce_X6_refuseIf
set_option maxRecDepth 20000 in
theorem ggX6_announce_X6_keepState_q1 : GoodIn wsX6_announce ([Cond.code yX6_keepState cX6_keepState 1 none]) := goodIn_r _ [35] (by decide +kernel) (by decide +kernel)
set_option maxRecDepth 20000 in
theorem ggX6_announce_X6_keepState_q2 : GoodIn wsX6_announce (wsX6_keepState_r1) := goodIn_r _ [36, 37, 1, 38, 39, 40, 10, 41, 42, 43, 44, 5, 45, 7, 46, 47, 8, 48, 49, 50, 51, 52, 53, 54] (by decide +kernel) (by decide +kernel)
set_option maxRecDepth 20000 in
theorem ggX6_announce_X6_keepState_q3 : GoodIn wsX6_announce (wsX6_keepState_r2) := goodIn_r _ [55, 56, 57, 58, 59, 60, 61, 62, 63, 64, 65, 66, 67, 68, 69, 70, 71, 72, 73, 74, 75, 76, 77, 78] (by decide +kernel) (by decide +kernel)
set_option maxRecDepth 20000 in
theorem ggX6_announce_X6_keepState_q4 : GoodIn wsX6_announce (wsX6_keepState_r3) := goodIn_r _ [79, 80, 81, 82, 83, 84, 85, 86, 87, 88, 15, 89, 17, 22, 90, 91, 92, 93, 94, 95, 96] (by decide +kernel) (by decide +kernel)
set_option maxRecDepth 20000 in
theorem ggX6_announce_X6_keepState_q5 : GoodIn wsX6_announce (wsX60) := goodIn_r _ [109, 110, 111, 112, 113, 114, 115, 116] (by decide +kernel) (by decide +kernel)
set_option maxRecDepth 20000 in
theorem ggX6_announce_X6_keepState_q6 : GoodIn wsX6_announce (wsX00) := goodIn_r _ [117, 118, 119, 120, 121, 122, 123, 124, 125, 126] (by decide +kernel) (by decide +kernel)
set_option maxRecDepth 20000 in
theorem ggX6_announce_X6_keepState_q7 : GoodIn wsX6_announce (wsX50) := goodIn_r _ [135, 136, 137, 138, 139, 140, 141, 142, 143, 144, 145, 146] (by decide +kernel) (by decide +kernel)
set_option maxRecDepth 20000 in
theorem ggX6_announce_X6_keepState_q8 : GoodIn wsX6_announce (wsX40) := goodIn_r _ [147, 148, 149, 150] (by decide +kernel) (by decide +kernel)
set_option maxRecDepth 20000 in
theorem ggX6_announce_X6_keepState_q9 : GoodIn wsX6_announce (wsX10) := goodIn_r _ [127, 128, 129, 130, 131, 132, 133, 134] (by decide +kernel) (by decide +kernel)
theorem ggX6_announce_X6_keepState : GoodIn wsX6_announce wsX6_keepState := (goodIn_app (a := [Cond.code yX6_keepState cX6_keepState 1 none]) ggX6_announce_X6_keepState_q1 (goodIn_app (goodIn_app (goodIn_app (goodIn_app (goodIn_app (goodIn_app ggX6_announce_X6_keepState_q2 (goodIn_app ggX6_announce_X6_keepState_q3 ggX6_announce_X6_keepState_q4)) ggX6_announce_X6_keepState_q5) ggX6_announce_X6_keepState_q6) ggX6_announce_X6_keepState_q7) ggX6_announce_X6_keepState_q8) ggX6_announce_X6_keepState_q9))
set_option maxRecDepth 20000 in
theorem gX6_announce_X6_keepState : GoodIn wsX6_announce (wsV RX6 56 RX6 yX6_keepState wsX6_keepState) := goodIn_app (goodIn_of _ (by decide +kernel)) ggX6_announce_X6_keepState
set_option maxRecDepth 20000 in
theorem ggX6_announce_X0_addFeast : GoodIn wsX6_announce wsX0_addFeast := goodIn_r _ [100, 8, 101, 102, 103, 15, 104, 17, 22, 91, 93, 94, 95, 105, 106, 107, 108, 117, 118, 119, 120, 121, 122, 123, 124, 125, 126, 127, 128, 129, 130, 131, 132, 133, 134] (by decide +kernel) (by decide +kernel)
set_option maxRecDepth 20000 in
theorem gX6_announce_X0_addFeast : GoodIn wsX6_announce (wsV RX6 93 RX0 yX0_addFeast wsX0_addFeast) := goodIn_app (goodIn_of _ (by decide +kernel)) ggX6_announce_X0_addFeast
theorem dX6_announce_0 : decode cX6_announce 0 = .ok (.aload_n 0, 1) := by decide +kernel
theorem dX6_announce_1 : decode cX6_announce 1 = .ok (.getfield 10, 3) := by decide +kernel
theorem dX6_announce_4 : decode cX6_announce 4 = .ok (.iload_n 1, 1) := by decide +kernel
theorem dX6_announce_5 : decode cX6_announce 5 = .ok (.iload_n 2, 1) := by decide +kernel
theorem dX6_announce_6 : decode cX6_announce 6 = .ok (.invokevirtual 89, 3) := by decide +kernel
theorem dX6_announce_9 : decode cX6_announce 9 = .ok (.invokestatic 52, 3) := by decide +kernel
theorem dX6_announce_12 : decode cX6_announce 12 = .ok (.aload_n 0, 1) := by decide +kernel
theorem dX6_announce_13 : decode cX6_announce 13 = .ok (.invokevirtual 56, 3) := by decide +kernel
theorem dX6_announce_16 : decode cX6_announce 16 = .ok (.aload_n 0, 1) := by decide +kernel
theorem dX6_announce_17 : decode cX6_announce 17 = .ok (.getfield 10, 3) := by decide +kernel
theorem dX6_announce_20 : decode cX6_announce 20 = .ok (.iload_n 1, 1) := by decide +kernel
theorem dX6_announce_21 : decode cX6_announce 21 = .ok (.iload_n 2, 1) := by decide +kernel
theorem dX6_announce_22 : decode cX6_announce 22 = .ok (.invokevirtual 93, 3) := by decide +kernel
theorem dX6_announce_25 : decode cX6_announce 25 = .ok (.ireturn, 1) := by decide +kernel
set_option maxRecDepth 20000 in
theorem ggX6_setLine_X0_refusalToArrange : GoodIn wsX6_setLine wsX0_refusalToArrange := goodIn_r _ [6, 7, 8, 9, 10, 11, 12, 13, 14, 15, 16, 17, 18, 19, 20, 21, 22, 23, 24, 5, 25, 26, 27, 122, 123, 124, 125, 126, 127, 128, 129, 130, 131, 132, 133, 134, 135, 136, 137, 138, 139] (by decide +kernel) (by decide +kernel)
set_option maxRecDepth 20000 in
theorem gX6_setLine_X0_refusalToArrange : GoodIn wsX6_setLine (wsV RX6 96 RX0 yX0_refusalToArrange wsX0_refusalToArrange) := goodIn_app (goodIn_of _ (by decide +kernel)) ggX6_setLine_X0_refusalToArrange
set_option maxRecDepth 20000 in
theorem ggX6_setLine_X6_refuseIf : GoodIn wsX6_setLine wsX6_refuseIf := goodIn_ca (goodIn_ca (goodIn_ca (goodIn_r _ [30, 31, 32, 33, 34, 35, 36] (by decide +kernel) (by decide +kernel)) (goodIn_sub (fun _ h => List.mem_cons_of_mem _ (List.mem_append_left _ (List.mem_append_left _ (List.mem_append_right _ h)))) (by decide +kernel))) (goodIn_sub (fun _ h => List.mem_cons_of_mem _ (List.mem_append_left _ (List.mem_append_right _ h))) (by decide +kernel))) (goodIn_sub (fun _ h => List.mem_cons_of_mem _ (List.mem_append_right _ h)) (by decide +kernel))
set_option maxRecDepth 20000 in
theorem gX6_setLine_X6_refuseIf : GoodIn wsX6_setLine (va_wsS RX6 52 yX6_refuseIf wsX6_refuseIf) := goodIn_app (goodIn_of _ (by decide +kernel)) ggX6_setLine_X6_refuseIf
set_option maxRecDepth 20000 in
theorem ggX6_setLine_X6_keepState_q1 : GoodIn wsX6_setLine ([Cond.code yX6_keepState cX6_keepState 1 none]) := goodIn_r _ [40] (by decide +kernel) (by decide +kernel)
set_option maxRecDepth 20000 in
theorem ggX6_setLine_X6_keepState_q2 : GoodIn wsX6_setLine (wsX6_keepState_r1) := goodIn_r _ [41, 42, 1, 43, 44, 45, 15, 46, 47, 48, 49, 5, 50, 27, 51, 52, 7, 53, 54, 55, 56, 57, 58, 59] (by decide +kernel) (by decide +kernel)
set_option maxRecDepth 20000 in
theorem ggX6_setLine_X6_keepState_q3 : GoodIn wsX6_setLine (wsX6_keepState_r2) := goodIn_r _ [60, 61, 62, 63, 64, 65, 66, 67, 68, 69, 70, 71, 72, 73, 74, 75, 76, 77, 78, 79, 80, 81, 82, 83] (by decide +kernel) (by decide +kernel)
set_option maxRecDepth 20000 in
theorem ggX6_setLine_X6_keepState_q4 : GoodIn wsX6_setLine (wsX6_keepState_r3) := goodIn_r _ [84, 85, 86, 87, 88, 89, 90, 91, 92, 93, 11, 94, 13, 95, 96, 97, 98, 99, 100, 101, 102] (by decide +kernel) (by decide +kernel)
set_option maxRecDepth 20000 in
theorem ggX6_setLine_X6_keepState_q5 : GoodIn wsX6_setLine (wsX60) := goodIn_r _ [114, 115, 116, 117, 118, 119, 120, 121] (by decide +kernel) (by decide +kernel)
set_option maxRecDepth 20000 in
theorem ggX6_setLine_X6_keepState_q6 : GoodIn wsX6_setLine (wsX00) := goodIn_r _ [122, 123, 124, 125, 126, 127, 128, 129, 130, 131] (by decide +kernel) (by decide +kernel)
set_option maxRecDepth 20000 in
theorem ggX6_setLine_X6_keepState_q7 : GoodIn wsX6_setLine (wsX50) := goodIn_r _ [140, 141, 142, 143, 144, 145, 146, 147, 148, 149, 150, 151] (by decide +kernel) (by decide +kernel)
set_option maxRecDepth 20000 in
theorem ggX6_setLine_X6_keepState_q8 : GoodIn wsX6_setLine (wsX40) := goodIn_r _ [152, 153, 154, 155] (by decide +kernel) (by decide +kernel)
set_option maxRecDepth 20000 in
theorem ggX6_setLine_X6_keepState_q9 : GoodIn wsX6_setLine (wsX10) := goodIn_r _ [132, 133, 134, 135, 136, 137, 138, 139] (by decide +kernel) (by decide +kernel)
theorem ggX6_setLine_X6_keepState : GoodIn wsX6_setLine wsX6_keepState := (goodIn_app (a := [Cond.code yX6_keepState cX6_keepState 1 none]) ggX6_setLine_X6_keepState_q1 (goodIn_app (goodIn_app (goodIn_app (goodIn_app (goodIn_app (goodIn_app ggX6_setLine_X6_keepState_q2 (goodIn_app ggX6_setLine_X6_keepState_q3 ggX6_setLine_X6_keepState_q4)) ggX6_setLine_X6_keepState_q5) ggX6_setLine_X6_keepState_q6) ggX6_setLine_X6_keepState_q7) ggX6_setLine_X6_keepState_q8) ggX6_setLine_X6_keepState_q9))
set_option maxRecDepth 20000 in
theorem gX6_setLine_X6_keepState : GoodIn wsX6_setLine (wsV RX6 56 RX6 yX6_keepState wsX6_keepState) := goodIn_app (goodIn_of _ (by decide +kernel)) ggX6_setLine_X6_keepState
set_option maxRecDepth 20000 in
theorem ggX6_setLine_X0_arrange : GoodIn wsX6_setLine wsX0_arrange := goodIn_r _ [106, 7, 107, 108, 109, 110, 111, 112, 11, 113, 99, 122, 123, 124, 125, 126, 127, 128, 129, 130, 131, 132, 133, 134, 135, 136, 137, 138, 139] (by decide +kernel) (by decide +kernel)
set_option maxRecDepth 20000 in
theorem gX6_setLine_X0_arrange : GoodIn wsX6_setLine (wsV RX6 99 RX0 yX0_arrange wsX0_arrange) := goodIn_app (goodIn_of _ (by decide +kernel)) ggX6_setLine_X0_arrange
theorem dX6_setLine_0 : decode cX6_setLine 0 = .ok (.aload_n 0, 1) := by decide +kernel
theorem dX6_setLine_1 : decode cX6_setLine 1 = .ok (.getfield 10, 3) := by decide +kernel
theorem dX6_setLine_4 : decode cX6_setLine 4 = .ok (.iload_n 1, 1) := by decide +kernel
theorem dX6_setLine_5 : decode cX6_setLine 5 = .ok (.iload_n 2, 1) := by decide +kernel
theorem dX6_setLine_6 : decode cX6_setLine 6 = .ok (.iload_n 3, 1) := by decide +kernel
theorem dX6_setLine_7 : decode cX6_setLine 7 = .ok (.iload 4, 2) := by decide +kernel
theorem dX6_setLine_9 : decode cX6_setLine 9 = .ok (.iload 5, 2) := by decide +kernel
theorem dX6_setLine_11 : decode cX6_setLine 11 = .ok (.invokevirtual 96, 3) := by decide +kernel
theorem dX6_setLine_14 : decode cX6_setLine 14 = .ok (.invokestatic 52, 3) := by decide +kernel
theorem dX6_setLine_17 : decode cX6_setLine 17 = .ok (.aload_n 0, 1) := by decide +kernel
theorem dX6_setLine_18 : decode cX6_setLine 18 = .ok (.invokevirtual 56, 3) := by decide +kernel
theorem dX6_setLine_21 : decode cX6_setLine 21 = .ok (.aload_n 0, 1) := by decide +kernel
theorem dX6_setLine_22 : decode cX6_setLine 22 = .ok (.getfield 10, 3) := by decide +kernel
theorem dX6_setLine_25 : decode cX6_setLine 25 = .ok (.iload_n 1, 1) := by decide +kernel
theorem dX6_setLine_26 : decode cX6_setLine 26 = .ok (.iload_n 2, 1) := by decide +kernel
theorem dX6_setLine_27 : decode cX6_setLine 27 = .ok (.iload_n 3, 1) := by decide +kernel
theorem dX6_setLine_28 : decode cX6_setLine 28 = .ok (.iload 4, 2) := by decide +kernel
theorem dX6_setLine_30 : decode cX6_setLine 30 = .ok (.iload 5, 2) := by decide +kernel
theorem dX6_setLine_32 : decode cX6_setLine 32 = .ok (.invokevirtual 99, 3) := by decide +kernel
theorem dX6_setLine_35 : decode cX6_setLine 35 = .ok (.ireturn, 1) := by decide +kernel
set_option maxRecDepth 20000 in
theorem ggX6_passDays_X0_refusalToAdvance : GoodIn wsX6_passDays wsX0_refusalToAdvance := goodIn_r _ [7, 8, 9, 10, 11, 228, 229, 230, 231, 232, 233, 234, 235, 236, 237] (by decide +kernel) (by decide +kernel)
set_option maxRecDepth 20000 in
theorem gX6_passDays_X0_refusalToAdvance : GoodIn wsX6_passDays (wsV RX6 102 RX0 yX0_refusalToAdvance wsX0_refusalToAdvance) := goodIn_app (goodIn_of _ (by decide +kernel)) ggX6_passDays_X0_refusalToAdvance
set_option maxRecDepth 20000 in
theorem ggX6_passDays_X6_refuseIf : GoodIn wsX6_passDays wsX6_refuseIf := goodIn_ca (goodIn_ca (goodIn_ca (goodIn_r _ [14, 15, 16, 17, 18, 19, 20] (by decide +kernel) (by decide +kernel)) (goodIn_sub (fun _ h => List.mem_cons_of_mem _ (List.mem_append_left _ (List.mem_append_left _ (List.mem_append_right _ h)))) (by decide +kernel))) (goodIn_sub (fun _ h => List.mem_cons_of_mem _ (List.mem_append_left _ (List.mem_append_right _ h))) (by decide +kernel))) (goodIn_sub (fun _ h => List.mem_cons_of_mem _ (List.mem_append_right _ h)) (by decide +kernel))
set_option maxRecDepth 20000 in
theorem gX6_passDays_X6_refuseIf : GoodIn wsX6_passDays (va_wsS RX6 52 yX6_refuseIf wsX6_refuseIf) := goodIn_app (goodIn_of _ (by decide +kernel)) ggX6_passDays_X6_refuseIf
set_option maxRecDepth 20000 in
theorem ggX6_passDays_X6_keepState_q1 : GoodIn wsX6_passDays ([Cond.code yX6_keepState cX6_keepState 1 none]) := goodIn_r _ [24] (by decide +kernel) (by decide +kernel)
set_option maxRecDepth 20000 in
theorem ggX6_passDays_X6_keepState_q2 : GoodIn wsX6_passDays (wsX6_keepState_r1) := goodIn_r _ [25, 26, 1, 27, 28, 29, 10, 30, 31, 32, 33, 6, 34, 8, 35, 36, 37, 38, 39, 40, 41, 42, 43, 44] (by decide +kernel) (by decide +kernel)
set_option maxRecDepth 20000 in
theorem ggX6_passDays_X6_keepState_q3 : GoodIn wsX6_passDays (wsX6_keepState_r2) := goodIn_r _ [45, 46, 47, 48, 49, 50, 51, 52, 53, 54, 55, 56, 57, 58, 59, 60, 61, 62, 63, 64, 65, 66, 67, 68] (by decide +kernel) (by decide +kernel)
set_option maxRecDepth 20000 in
theorem ggX6_passDays_X6_keepState_q4 : GoodIn wsX6_passDays (wsX6_keepState_r3) := goodIn_r _ [69, 70, 71, 72, 73, 74, 75, 76, 77, 78, 79, 80, 81, 82, 83, 84, 85, 86, 87, 88, 89] (by decide +kernel) (by decide +kernel)
set_option maxRecDepth 20000 in
theorem ggX6_passDays_X6_keepState_q5 : GoodIn wsX6_passDays (wsX60) := goodIn_r _ [220, 221, 222, 223, 224, 225, 226, 227] (by decide +kernel) (by decide +kernel)
set_option maxRecDepth 20000 in
theorem ggX6_passDays_X6_keepState_q6 : GoodIn wsX6_passDays (wsX00) := goodIn_r _ [228, 229, 230, 231, 232, 233, 234, 235, 236, 237] (by decide +kernel) (by decide +kernel)
set_option maxRecDepth 20000 in
theorem ggX6_passDays_X6_keepState_q7 : GoodIn wsX6_passDays (wsX50) := goodIn_r _ [238, 239, 240, 241, 242, 243, 244, 245, 246, 247, 248, 249] (by decide +kernel) (by decide +kernel)
set_option maxRecDepth 20000 in
theorem ggX6_passDays_X6_keepState_q8 : GoodIn wsX6_passDays (wsX40) := goodIn_r _ [250, 251, 252, 253] (by decide +kernel) (by decide +kernel)
set_option maxRecDepth 20000 in
theorem ggX6_passDays_X6_keepState_q9 : GoodIn wsX6_passDays (wsX10) := goodIn_r _ [254, 255, 256, 257, 258, 259, 260, 261] (by decide +kernel) (by decide +kernel)
theorem ggX6_passDays_X6_keepState : GoodIn wsX6_passDays wsX6_keepState := (goodIn_app (a := [Cond.code yX6_keepState cX6_keepState 1 none]) ggX6_passDays_X6_keepState_q1 (goodIn_app (goodIn_app (goodIn_app (goodIn_app (goodIn_app (goodIn_app ggX6_passDays_X6_keepState_q2 (goodIn_app ggX6_passDays_X6_keepState_q3 ggX6_passDays_X6_keepState_q4)) ggX6_passDays_X6_keepState_q5) ggX6_passDays_X6_keepState_q6) ggX6_passDays_X6_keepState_q7) ggX6_passDays_X6_keepState_q8) ggX6_passDays_X6_keepState_q9))
set_option maxRecDepth 20000 in
theorem gX6_passDays_X6_keepState : GoodIn wsX6_passDays (wsV RX6 56 RX6 yX6_keepState wsX6_keepState) := goodIn_app (goodIn_of _ (by decide +kernel)) ggX6_passDays_X6_keepState
set_option maxRecDepth 20000 in
theorem ggX6_passDays_X0_advance_q1 : GoodIn wsX6_passDays ([Cond.code yX0_advance cX0_advance 7 (some .int)]) := goodIn_r _ [93] (by decide +kernel) (by decide +kernel)
set_option maxRecDepth 20000 in
theorem ggX6_passDays_X0_advance_q2 : GoodIn wsX6_passDays (wsX0_advance_r1) := goodIn_r _ [8, 37, 94, 95, 96, 97, 79, 98, 81, 82, 99, 100, 101, 102, 103, 104, 105, 106, 107, 108, 40, 41, 42, 109] (by decide +kernel) (by decide +kernel)
set_option maxRecDepth 20000 in
theorem ggX6_passDays_X0_advance_q3 : GoodIn wsX6_passDays (wsX0_advance_r2) := goodIn_r _ [110, 111, 112, 113, 114, 115, 116, 117, 118, 119, 6, 120, 35, 36, 121, 122, 123, 51, 124, 62, 125, 126, 127, 128] (by decide +kernel) (by decide +kernel)
set_option maxRecDepth 20000 in
theorem ggX6_passDays_X0_advance_q4 : GoodIn wsX6_passDays (wsX0_advance_r3) := goodIn_r _ [63, 129, 130, 131, 69, 132, 71, 72, 74, 75, 133, 134, 135, 136, 59, 137, 138, 139, 140, 141, 142, 143, 144, 145] (by decide +kernel) (by decide +kernel)
set_option maxRecDepth 20000 in
theorem ggX6_passDays_X0_advance_q5 : GoodIn wsX6_passDays (wsX0_advance_r4) := goodIn_r _ [146, 147, 148, 149, 150, 151, 152, 153, 154, 155, 156, 157, 158, 159, 160, 161, 162, 163, 164, 165, 166, 167, 168, 169] (by decide +kernel) (by decide +kernel)
set_option maxRecDepth 20000 in
theorem ggX6_passDays_X0_advance_q6 : GoodIn wsX6_passDays (wsX0_advance_r5) := goodIn_r _ [170, 171, 172, 173, 174, 175, 176, 177, 178, 179, 180, 181, 182, 183, 184, 185, 186, 187, 188, 189, 190, 191, 39, 192] (by decide +kernel) (by decide +kernel)
set_option maxRecDepth 20000 in
theorem ggX6_passDays_X0_advance_q7 : GoodIn wsX6_passDays (wsX0_advance_r6) := goodIn_r _ [193, 194, 195, 196, 197, 198, 199, 200, 201, 58, 202, 203, 204, 205, 206, 207, 45, 46, 47, 43, 208, 209, 210, 211] (by decide +kernel) (by decide +kernel)
set_option maxRecDepth 20000 in
theorem ggX6_passDays_X0_advance_q8 : GoodIn wsX6_passDays (wsX0_advance_r7) := goodIn_r _ [212, 213, 214, 215, 216, 217, 218, 219, 86] (by decide +kernel) (by decide +kernel)
set_option maxRecDepth 20000 in
theorem ggX6_passDays_X0_advance_q9 : GoodIn wsX6_passDays (wsX00) := goodIn_r _ [228, 229, 230, 231, 232, 233, 234, 235, 236, 237] (by decide +kernel) (by decide +kernel)
set_option maxRecDepth 20000 in
theorem ggX6_passDays_X0_advance_q10 : GoodIn wsX6_passDays (wsX10) := goodIn_r _ [254, 255, 256, 257, 258, 259, 260, 261] (by decide +kernel) (by decide +kernel)
set_option maxRecDepth 20000 in
theorem ggX6_passDays_X0_advance_q11 : GoodIn wsX6_passDays (wsX30) := goodIn_r _ [262, 263, 264, 265, 266] (by decide +kernel) (by decide +kernel)
set_option maxRecDepth 20000 in
theorem ggX6_passDays_X0_advance_q12 : GoodIn wsX6_passDays (wsX50) := goodIn_r _ [238, 239, 240, 241, 242, 243, 244, 245, 246, 247, 248, 249] (by decide +kernel) (by decide +kernel)
set_option maxRecDepth 20000 in
theorem ggX6_passDays_X0_advance_q13 : GoodIn wsX6_passDays (wsX40) := goodIn_r _ [250, 251, 252, 253] (by decide +kernel) (by decide +kernel)
theorem ggX6_passDays_X0_advance : GoodIn wsX6_passDays wsX0_advance := (goodIn_app (a := [Cond.code yX0_advance cX0_advance 7 (some .int)]) ggX6_passDays_X0_advance_q1 (goodIn_app (goodIn_app (goodIn_app (goodIn_app (goodIn_app (goodIn_app ggX6_passDays_X0_advance_q2 (goodIn_app ggX6_passDays_X0_advance_q3 (goodIn_app ggX6_passDays_X0_advance_q4 (goodIn_app ggX6_passDays_X0_advance_q5 (goodIn_app ggX6_passDays_X0_advance_q6 (goodIn_app ggX6_passDays_X0_advance_q7 ggX6_passDays_X0_advance_q8)))))) ggX6_passDays_X0_advance_q9) ggX6_passDays_X0_advance_q10) ggX6_passDays_X0_advance_q11) ggX6_passDays_X0_advance_q12) ggX6_passDays_X0_advance_q13))
set_option maxRecDepth 20000 in
theorem gX6_passDays_X0_advance : GoodIn wsX6_passDays (wsV RX6 105 RX0 yX0_advance wsX0_advance) := goodIn_app (goodIn_of _ (by decide +kernel)) ggX6_passDays_X0_advance
theorem dX6_passDays_0 : decode cX6_passDays 0 = .ok (.aload_n 0, 1) := by decide +kernel
theorem dX6_passDays_1 : decode cX6_passDays 1 = .ok (.getfield 10, 3) := by decide +kernel
theorem dX6_passDays_4 : decode cX6_passDays 4 = .ok (.iload_n 1, 1) := by decide +kernel
theorem dX6_passDays_5 : decode cX6_passDays 5 = .ok (.invokevirtual 102, 3) := by decide +kernel
theorem dX6_passDays_8 : decode cX6_passDays 8 = .ok (.invokestatic 52, 3) := by decide +kernel
theorem dX6_passDays_11 : decode cX6_passDays 11 = .ok (.aload_n 0, 1) := by decide +kernel
theorem dX6_passDays_12 : decode cX6_passDays 12 = .ok (.invokevirtual 56, 3) := by decide +kernel
theorem dX6_passDays_15 : decode cX6_passDays 15 = .ok (.aload_n 0, 1) := by decide +kernel
theorem dX6_passDays_16 : decode cX6_passDays 16 = .ok (.getfield 10, 3) := by decide +kernel
theorem dX6_passDays_19 : decode cX6_passDays 19 = .ok (.iload_n 1, 1) := by decide +kernel
theorem dX6_passDays_20 : decode cX6_passDays 20 = .ok (.aload_n 0, 1) := by decide +kernel
theorem dX6_passDays_21 : decode cX6_passDays 21 = .ok (.getfield 44, 3) := by decide +kernel
theorem dX6_passDays_24 : decode cX6_passDays 24 = .ok (.invokevirtual 105, 3) := by decide +kernel
theorem dX6_passDays_27 : decode cX6_passDays 27 = .ok (.ireturn, 1) := by decide +kernel
set_option maxRecDepth 20000 in
theorem ggX6_type_X2_isFull : GoodIn wsX6_type wsX2_isFull := goodIn_r _ [6, 7, 31, 32, 33, 34, 35, 36] (by decide +kernel) (by decide +kernel)
set_option maxRecDepth 20000 in
theorem gX6_type_X2_isFull : GoodIn wsX6_type (wsV RX6 109 RX2 yX2_isFull wsX2_isFull) := goodIn_app (goodIn_of _ (by decide +kernel)) ggX6_type_X2_isFull
set_option maxRecDepth 20000 in
theorem ggX6_type_X6_refuseIf : GoodIn wsX6_type wsX6_refuseIf := goodIn_ca (goodIn_ca (goodIn_ca (goodIn_r _ [11, 12, 13, 14, 15, 16, 17] (by decide +kernel) (by decide +kernel)) (goodIn_sub (fun _ h => List.mem_cons_of_mem _ (List.mem_append_left _ (List.mem_append_left _ (List.mem_append_right _ h)))) (by decide +kernel))) (goodIn_sub (fun _ h => List.mem_cons_of_mem _ (List.mem_append_left _ (List.mem_append_right _ h))) (by decide +kernel))) (goodIn_sub (fun _ h => List.mem_cons_of_mem _ (List.mem_append_right _ h)) (by decide +kernel))
set_option maxRecDepth 20000 in
theorem gX6_type_X6_refuseIf : GoodIn wsX6_type (va_wsS RX6 52 yX6_refuseIf wsX6_refuseIf) := goodIn_app (goodIn_of _ (by decide +kernel)) ggX6_type_X6_refuseIf
set_option maxRecDepth 20000 in
theorem ggX6_type_X2_append : GoodIn wsX6_type wsX2_append := goodIn_r _ [21, 22, 7, 31, 32, 33, 34, 35, 36] (by decide +kernel) (by decide +kernel)
set_option maxRecDepth 20000 in
theorem gX6_type_X2_append : GoodIn wsX6_type (wsV RX6 113 RX2 yX2_append wsX2_append) := goodIn_app (goodIn_of _ (by decide +kernel)) ggX6_type_X2_append
theorem dX6_type_0 : decode cX6_type 0 = .ok (.aload_n 0, 1) := by decide +kernel
theorem dX6_type_1 : decode cX6_type 1 = .ok (.getfield 37, 3) := by decide +kernel
theorem dX6_type_4 : decode cX6_type 4 = .ok (.invokevirtual 109, 3) := by decide +kernel
theorem dX6_type_7 : decode cX6_type 7 = .ok (.ifCond .eq 7, 3) := by decide +kernel
theorem dX6_type_10 : decode cX6_type 10 = .ok (.iconst 3, 1) := by decide +kernel
theorem dX6_type_11 : decode cX6_type 11 = .ok (.goto 4, 3) := by decide +kernel
theorem dX6_type_14 : decode cX6_type 14 = .ok (.iconst 0, 1) := by decide +kernel
theorem dX6_type_15 : decode cX6_type 15 = .ok (.invokestatic 52, 3) := by decide +kernel
theorem dX6_type_18 : decode cX6_type 18 = .ok (.aload_n 0, 1) := by decide +kernel
theorem dX6_type_19 : decode cX6_type 19 = .ok (.getfield 37, 3) := by decide +kernel
theorem dX6_type_22 : decode cX6_type 22 = .ok (.iload_n 1, 1) := by decide +kernel
theorem dX6_type_23 : decode cX6_type 23 = .ok (.invokevirtual 113, 3) := by decide +kernel
theorem dX6_type_26 : decode cX6_type 26 = .ok (.ireturn, 1) := by decide +kernel
set_option maxRecDepth 20000 in
theorem ggX6_clearLetter_X2_empty : GoodIn wsX6_clearLetter wsX2_empty := goodIn_r _ [6, 7, 16, 17, 18, 19, 20, 21] (by decide +kernel) (by decide +kernel)
set_option maxRecDepth 20000 in
theorem gX6_clearLetter_X2_empty : GoodIn wsX6_clearLetter (wsV RX6 117 RX2 yX2_empty wsX2_empty) := goodIn_app (goodIn_of _ (by decide +kernel)) ggX6_clearLetter_X2_empty
theorem dX6_clearLetter_0 : decode cX6_clearLetter 0 = .ok (.aload_n 0, 1) := by decide +kernel
theorem dX6_clearLetter_1 : decode cX6_clearLetter 1 = .ok (.getfield 37, 3) := by decide +kernel
theorem dX6_clearLetter_4 : decode cX6_clearLetter 4 = .ok (.invokevirtual 117, 3) := by decide +kernel
theorem dX6_clearLetter_7 : decode cX6_clearLetter 7 = .ok (.ireturn, 1) := by decide +kernel
set_option maxRecDepth 20000 in
theorem ggX6_letterError_X2_findError_q1 : GoodIn wsX6_letterError ([Cond.code yX2_findError cX2_findError 2 (some .int)]) := goodIn_r _ [6] (by decide +kernel) (by decide +kernel)
set_option maxRecDepth 20000 in
theorem ggX6_letterError_X2_findError_q2 : GoodIn wsX6_letterError (wsX2_findError_r1) := goodIn_r _ [7, 8, 9, 10, 5, 11, 12, 13, 14, 15, 16, 17, 18, 19, 20, 21, 22, 23, 24, 25, 26, 27, 28, 29] (by decide +kernel) (by decide +kernel)
set_option maxRecDepth 20000 in
theorem ggX6_letterError_X2_findError_q3 : GoodIn wsX6_letterError (wsX2_findError_r2) := goodIn_r _ [30, 31, 32, 33, 34, 35, 36, 37, 38, 39, 40, 41, 42, 43, 44, 45, 46, 47, 48, 49, 50, 51, 52, 53] (by decide +kernel) (by decide +kernel)
set_option maxRecDepth 20000 in
theorem ggX6_letterError_X2_findError_q4 : GoodIn wsX6_letterError (wsX2_findError_r3) := goodIn_r _ [54, 55, 56, 57, 58, 59, 60, 61, 62, 63, 64, 65, 66, 67, 68, 69, 70, 71, 72, 73, 74, 75, 76, 77] (by decide +kernel) (by decide +kernel)
set_option maxRecDepth 20000 in
theorem ggX6_letterError_X2_findError_q5 : GoodIn wsX6_letterError (wsX2_findError_r4) := goodIn_r _ [78, 79, 80, 81, 82, 83, 84, 85, 86, 87, 88, 89, 90, 91, 92, 93, 94, 95, 96, 97, 98, 99, 100, 101] (by decide +kernel) (by decide +kernel)
set_option maxRecDepth 20000 in
theorem ggX6_letterError_X2_findError_q6 : GoodIn wsX6_letterError (wsX2_findError_r5) := goodIn_r _ [102, 103, 104, 105, 106, 107, 108, 109, 110, 111, 112, 113, 114, 115, 116, 117, 118, 119, 120, 121, 122, 123, 124, 125] (by decide +kernel) (by decide +kernel)
set_option maxRecDepth 20000 in
theorem ggX6_letterError_X2_findError_q7 : GoodIn wsX6_letterError (wsX2_findError_r6) := goodIn_r _ [126, 127, 128, 129, 130, 131, 132, 133, 134, 135, 136, 137, 138, 139, 140, 141, 142, 143, 144, 145, 146, 147, 148, 149] (by decide +kernel) (by decide +kernel)
set_option maxRecDepth 20000 in
theorem ggX6_letterError_X2_findError_q8 : GoodIn wsX6_letterError (wsX2_findError_r7) := goodIn_r _ [150, 151] (by decide +kernel) (by decide +kernel)
set_option maxRecDepth 20000 in
theorem ggX6_letterError_X2_findError_q9 : GoodIn wsX6_letterError (wsX20) := goodIn_r _ [160, 161, 162, 163, 164, 165] (by decide +kernel) (by decide +kernel)
theorem ggX6_letterError_X2_findError : GoodIn wsX6_letterError wsX2_findError := (goodIn_app (a := [Cond.code yX2_findError cX2_findError 2 (some .int)]) ggX6_letterError_X2_findError_q1 (goodIn_app (goodIn_app ggX6_letterError_X2_findError_q2 (goodIn_app ggX6_letterError_X2_findError_q3 (goodIn_app ggX6_letterError_X2_findError_q4 (goodIn_app ggX6_letterError_X2_findError_q5 (goodIn_app ggX6_letterError_X2_findError_q6 (goodIn_app ggX6_letterError_X2_findError_q7 ggX6_letterError_X2_findError_q8)))))) ggX6_letterError_X2_findError_q9))
set_option maxRecDepth 20000 in
theorem gX6_letterError_X2_findError : GoodIn wsX6_letterError (wsV RX6 121 RX2 yX2_findError wsX2_findError) := goodIn_app (goodIn_of _ (by decide +kernel)) ggX6_letterError_X2_findError
theorem dX6_letterError_0 : decode cX6_letterError 0 = .ok (.aload_n 0, 1) := by decide +kernel
theorem dX6_letterError_1 : decode cX6_letterError 1 = .ok (.getfield 37, 3) := by decide +kernel
theorem dX6_letterError_4 : decode cX6_letterError 4 = .ok (.invokevirtual 121, 3) := by decide +kernel
theorem dX6_letterError_7 : decode cX6_letterError 7 = .ok (.ireturn, 1) := by decide +kernel
set_option maxRecDepth 20000 in
theorem ggX6_impossibleOrder_X2_findError_q1 : GoodIn wsX6_impossibleOrder ([Cond.code yX2_findError cX2_findError 2 (some .int)]) := goodIn_r _ [6] (by decide +kernel) (by decide +kernel)
set_option maxRecDepth 20000 in
theorem ggX6_impossibleOrder_X2_findError_q2 : GoodIn wsX6_impossibleOrder (wsX2_findError_r1) := goodIn_r _ [7, 8, 9, 10, 5, 11, 12, 13, 14, 15, 16, 17, 18, 19, 20, 21, 22, 23, 24, 25, 26, 27, 28, 29] (by decide +kernel) (by decide +kernel)
set_option maxRecDepth 20000 in
theorem ggX6_impossibleOrder_X2_findError_q3 : GoodIn wsX6_impossibleOrder (wsX2_findError_r2) := goodIn_r _ [30, 31, 32, 33, 34, 35, 36, 37, 38, 39, 40, 41, 42, 43, 44, 45, 46, 47, 48, 49, 50, 51, 52, 53] (by decide +kernel) (by decide +kernel)
set_option maxRecDepth 20000 in
theorem ggX6_impossibleOrder_X2_findError_q4 : GoodIn wsX6_impossibleOrder (wsX2_findError_r3) := goodIn_r _ [54, 55, 56, 57, 58, 59, 60, 61, 62, 63, 64, 65, 66, 67, 68, 69, 70, 71, 72, 73, 74, 75, 76, 77] (by decide +kernel) (by decide +kernel)
set_option maxRecDepth 20000 in
theorem ggX6_impossibleOrder_X2_findError_q5 : GoodIn wsX6_impossibleOrder (wsX2_findError_r4) := goodIn_r _ [78, 79, 80, 81, 82, 83, 84, 85, 86, 87, 88, 89, 90, 91, 92, 93, 94, 95, 96, 97, 98, 99, 100, 101] (by decide +kernel) (by decide +kernel)
set_option maxRecDepth 20000 in
theorem ggX6_impossibleOrder_X2_findError_q6 : GoodIn wsX6_impossibleOrder (wsX2_findError_r5) := goodIn_r _ [102, 103, 104, 105, 106, 107, 108, 109, 110, 111, 112, 113, 114, 115, 116, 117, 118, 119, 120, 121, 122, 123, 124, 125] (by decide +kernel) (by decide +kernel)
set_option maxRecDepth 20000 in
theorem ggX6_impossibleOrder_X2_findError_q7 : GoodIn wsX6_impossibleOrder (wsX2_findError_r6) := goodIn_r _ [126, 127, 128, 129, 130, 131, 132, 133, 134, 135, 136, 137, 138, 139, 140, 141, 142, 143, 144, 145, 146, 147, 148, 149] (by decide +kernel) (by decide +kernel)
set_option maxRecDepth 20000 in
theorem ggX6_impossibleOrder_X2_findError_q8 : GoodIn wsX6_impossibleOrder (wsX2_findError_r7) := goodIn_r _ [150, 151] (by decide +kernel) (by decide +kernel)
set_option maxRecDepth 20000 in
theorem ggX6_impossibleOrder_X2_findError_q9 : GoodIn wsX6_impossibleOrder (wsX20) := goodIn_r _ [493, 494, 495, 496, 497, 498] (by decide +kernel) (by decide +kernel)
theorem ggX6_impossibleOrder_X2_findError : GoodIn wsX6_impossibleOrder wsX2_findError := (goodIn_app (a := [Cond.code yX2_findError cX2_findError 2 (some .int)]) ggX6_impossibleOrder_X2_findError_q1 (goodIn_app (goodIn_app ggX6_impossibleOrder_X2_findError_q2 (goodIn_app ggX6_impossibleOrder_X2_findError_q3 (goodIn_app ggX6_impossibleOrder_X2_findError_q4 (goodIn_app ggX6_impossibleOrder_X2_findError_q5 (goodIn_app ggX6_impossibleOrder_X2_findError_q6 (goodIn_app ggX6_impossibleOrder_X2_findError_q7 ggX6_impossibleOrder_X2_findError_q8)))))) ggX6_impossibleOrder_X2_findError_q9))
set_option maxRecDepth 20000 in
theorem gX6_impossibleOrder_X2_findError : GoodIn wsX6_impossibleOrder (wsV RX6 121 RX2 yX2_findError wsX2_findError) := goodIn_app (goodIn_of _ (by decide +kernel)) ggX6_impossibleOrder_X2_findError
set_option maxRecDepth 20000 in
theorem ggX6_impossibleOrder_X6_refuseIf : GoodIn wsX6_impossibleOrder wsX6_refuseIf := goodIn_ca (goodIn_ca (goodIn_ca (goodIn_r _ [154, 155, 156, 157, 158, 159, 160] (by decide +kernel) (by decide +kernel)) (goodIn_sub (fun _ h => List.mem_cons_of_mem _ (List.mem_append_left _ (List.mem_append_left _ (List.mem_append_right _ h)))) (by decide +kernel))) (goodIn_sub (fun _ h => List.mem_cons_of_mem _ (List.mem_append_left _ (List.mem_append_right _ h))) (by decide +kernel))) (goodIn_sub (fun _ h => List.mem_cons_of_mem _ (List.mem_append_right _ h)) (by decide +kernel))
set_option maxRecDepth 20000 in
theorem gX6_impossibleOrder_X6_refuseIf : GoodIn wsX6_impossibleOrder (va_wsS RX6 52 yX6_refuseIf wsX6_refuseIf) := goodIn_app (goodIn_of _ (by decide +kernel)) ggX6_impossibleOrder_X6_refuseIf
set_option maxRecDepth 20000 in
theorem ggX6_impossibleOrder_X6_tryOrders_q1 : GoodIn wsX6_impossibleOrder ([Cond.code yX6_tryOrders cX6_tryOrders 2 (some .int)]) := goodIn_r _ [164] (by decide +kernel) (by decide +kernel)
set_option maxRecDepth 20000 in
theorem ggX6_impossibleOrder_X6_tryOrders_q2 : GoodIn wsX6_impossibleOrder (wsX6_tryOrders_r1) := goodIn_r _ [165, 166, 1, 167, 168, 169, 170, 171, 172, 173, 174, 175, 176, 177, 178, 179, 180, 181, 182, 183, 184, 185, 186, 187] (by decide +kernel) (by decide +kernel)
set_option maxRecDepth 20000 in
theorem ggX6_impossibleOrder_X6_tryOrders_q3 : GoodIn wsX6_impossibleOrder (wsX6_tryOrders_r2) := goodIn_r _ [188, 189, 190, 191, 192, 193, 194, 195, 196, 197, 198, 199, 200, 201, 202, 203, 204, 205, 206, 207, 208, 209, 210, 211] (by decide +kernel) (by decide +kernel)
set_option maxRecDepth 20000 in
theorem ggX6_impossibleOrder_X6_tryOrders_q4 : GoodIn wsX6_impossibleOrder (wsX6_tryOrders_r3) := goodIn_r _ [212, 213, 214, 215, 216, 217, 218, 219, 220, 221, 222, 223, 224, 225, 226, 227, 228, 229, 230, 231, 9, 10, 5, 11] (by decide +kernel) (by decide +kernel)
set_option maxRecDepth 20000 in
theorem ggX6_impossibleOrder_X6_tryOrders_q5 : GoodIn wsX6_impossibleOrder (wsX6_tryOrders_r4) := goodIn_r _ [7, 232, 21, 22, 23, 24, 233, 13, 14, 15, 16, 17, 18, 19, 20, 25, 26, 27, 28, 29, 30, 31, 32, 33] (by decide +kernel) (by decide +kernel)
set_option maxRecDepth 20000 in
theorem ggX6_impossibleOrder_X6_tryOrders_q6 : GoodIn wsX6_impossibleOrder (wsX6_tryOrders_r5) := goodIn_r _ [34, 35, 36, 37, 38, 39, 40, 41, 42, 43, 44, 45, 46, 47, 48, 49, 50, 51, 52, 53, 54, 55, 56, 57] (by decide +kernel) (by decide +kernel)
set_option maxRecDepth 20000 in
theorem ggX6_impossibleOrder_X6_tryOrders_q7 : GoodIn wsX6_impossibleOrder (wsX6_tryOrders_r6) := goodIn_r _ [58, 59, 60, 61, 62, 63, 64, 65, 66, 67, 68, 69, 70, 71, 72, 73, 74, 75, 76, 77, 78, 79, 80, 81] (by decide +kernel) (by decide +kernel)
set_option maxRecDepth 20000 in
theorem ggX6_impossibleOrder_X6_tryOrders_q8 : GoodIn wsX6_impossibleOrder (wsX6_tryOrders_r7) := goodIn_r _ [82, 83, 84, 85, 86, 87, 88, 89, 90, 91, 92, 93, 94, 95, 96, 97, 98, 99, 100, 101, 102, 103, 104, 105] (by decide +kernel) (by decide +kernel)
set_option maxRecDepth 20000 in
theorem ggX6_impossibleOrder_X6_tryOrders_q9 : GoodIn wsX6_impossibleOrder (wsX6_tryOrders_r8) := goodIn_r _ [106, 107, 108, 109, 110, 111, 112, 113, 114, 115, 116, 117, 118, 119, 120, 121, 122, 123, 124, 125, 126, 127, 128, 129] (by decide +kernel) (by decide +kernel)
set_option maxRecDepth 20000 in
theorem ggX6_impossibleOrder_X6_tryOrders_q10 : GoodIn wsX6_impossibleOrder (wsX6_tryOrders_r9) := goodIn_r _ [130, 131, 132, 133, 134, 135, 136, 137, 138, 139, 140, 141, 142, 143, 144, 145, 146, 147, 148, 149, 150, 151, 234, 235] (by decide +kernel) (by decide +kernel)
set_option maxRecDepth 20000 in
theorem ggX6_impossibleOrder_X6_tryOrders_q11 : GoodIn wsX6_impossibleOrder (wsX6_tryOrders_r10) := goodIn_r _ [236, 237, 238, 239, 240, 241, 242, 243, 244, 245, 246, 247, 248, 249, 250, 251, 252, 253, 254, 255, 256, 257, 258, 259] (by decide +kernel) (by decide +kernel)
set_option maxRecDepth 20000 in
theorem ggX6_impossibleOrder_X6_tryOrders_q12 : GoodIn wsX6_impossibleOrder (wsX6_tryOrders_r11) := goodIn_r _ [260, 261, 262, 263, 264, 265, 266, 267, 268, 269, 270, 271, 272, 273, 274, 275, 276, 277, 278, 279, 280, 281, 282, 283] (by decide +kernel) (by decide +kernel)
set_option maxRecDepth 20000 in
theorem ggX6_impossibleOrder_X6_tryOrders_q13 : GoodIn wsX6_impossibleOrder (wsX6_tryOrders_r12) := goodIn_r _ [284, 285, 286, 287, 288, 289, 290, 291, 292, 293, 294, 295, 296, 297, 298, 299, 300, 301, 302, 303, 304, 305, 306, 307] (by decide +kernel) (by decide +kernel)
set_option maxRecDepth 20000 in
theorem ggX6_impossibleOrder_X6_tryOrders_q14 : GoodIn wsX6_impossibleOrder (wsX6_tryOrders_r13) := goodIn_r _ [308, 309, 310, 311, 312, 313, 314, 315, 316, 317, 318, 319, 320, 321, 322, 323, 324, 325, 326, 327, 328, 329, 330, 331] (by decide +kernel) (by decide +kernel)
set_option maxRecDepth 20000 in
theorem ggX6_impossibleOrder_X6_tryOrders_q15 : GoodIn wsX6_impossibleOrder (wsX6_tryOrders_r14) := goodIn_r _ [332, 333, 334, 335, 336, 337, 338, 339, 340, 341, 342, 343, 344, 345, 346, 347, 348, 349, 350, 351, 352, 353, 354, 355] (by decide +kernel) (by decide +kernel)
set_option maxRecDepth 20000 in
theorem ggX6_impossibleOrder_X6_tryOrders_q16 : GoodIn wsX6_impossibleOrder (wsX6_tryOrders_r15) := goodIn_r _ [356, 357, 358, 359, 360, 361, 362, 363, 364, 365, 366, 367, 368, 369, 370, 371, 372, 373, 374, 375, 376, 377, 378, 379] (by decide +kernel) (by decide +kernel)
set_option maxRecDepth 20000 in
theorem ggX6_impossibleOrder_X6_tryOrders_q17 : GoodIn wsX6_impossibleOrder (wsX6_tryOrders_r16) := goodIn_r _ [380, 381, 382, 383, 384, 385, 386, 387, 388, 389, 390, 391, 392, 393, 394, 395, 396, 397, 398, 399, 400, 401, 402, 403] (by decide +kernel) (by decide +kernel)
set_option maxRecDepth 20000 in
theorem ggX6_impossibleOrder_X6_tryOrders_q18 : GoodIn wsX6_impossibleOrder (wsX6_tryOrders_r17) := goodIn_r _ [404, 405, 406, 407, 408, 409, 410, 411, 412, 413, 414, 415, 416, 417, 418, 419, 420, 421, 422, 423, 424, 425, 426, 427] (by decide +kernel) (by decide +kernel)
set_option maxRecDepth 20000 in
theorem ggX6_impossibleOrder_X6_tryOrders_q19 : GoodIn wsX6_impossibleOrder (wsX6_tryOrders_r18) := goodIn_r _ [428, 429, 430, 431, 432, 433, 434, 435, 436, 437, 438, 439, 440, 441, 442, 443, 444, 445, 446, 447, 448, 449, 450, 451] (by decide +kernel) (by decide +kernel)
set_option maxRecDepth 20000 in
theorem ggX6_impossibleOrder_X6_tryOrders_q20 : GoodIn wsX6_impossibleOrder (wsX6_tryOrders_r19) := goodIn_r _ [452, 453, 454, 455, 456, 457, 458, 459, 460, 461, 462, 463, 464, 465, 466, 467, 468, 469, 470, 471, 472, 473, 474, 475] (by decide +kernel) (by decide +kernel)
set_option maxRecDepth 20000 in
theorem ggX6_impossibleOrder_X6_tryOrders_q21 : GoodIn wsX6_impossibleOrder (wsX6_tryOrders_r20) := goodIn_r _ [476, 477, 478, 479, 480, 481, 482, 483, 484] (by decide +kernel) (by decide +kernel)
set_option maxRecDepth 20000 in
theorem ggX6_impossibleOrder_X6_tryOrders_q22 : GoodIn wsX6_impossibleOrder (wsX60) := goodIn_r _ [485, 486, 487, 488, 489, 490, 491, 492] (by decide +kernel) (by decide +kernel)
set_option maxRecDepth 20000 in
theorem ggX6_impossibleOrder_X6_tryOrders_q23 : GoodIn wsX6_impossibleOrder (wsX20) := goodIn_r _ [493, 494, 495, 496, 497, 498] (by decide +kernel) (by decide +kernel)
set_option maxRecDepth 20000 in
theorem ggX6_impossibleOrder_X6_tryOrders_q24 : GoodIn wsX6_impossibleOrder (wsX00) := goodIn_r _ [499, 500, 501, 502, 503, 504, 505, 506, 507, 508] (by decide +kernel) (by decide +kernel)
