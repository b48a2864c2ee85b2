set_option maxRecDepth 20000 in
theorem ggX0_init_X5_init : GoodIn wsX0_init wsX5_init := goodIn_r _ [25, 26, 2, 3, 27, 17, 28, 29, 30, 31, 32, 33, 34, 35, 36, 37, 38, 68, 69, 70, 71, 72, 73, 74, 75, 76, 77, 78, 79] (by decide +kernel) (by decide +kernel)
set_option maxRecDepth 20000 in
theorem gX0_init_X5_init_n17 : GoodIn wsX0_init (wsX5_init) := ggX0_init_X5_init
set_option maxRecDepth 20000 in
theorem ggX0_init_X4_init : GoodIn wsX0_init wsX4_init := goodIn_r _ [40, 41, 2, 3, 42, 17, 43, 44, 45, 80, 81, 82, 83] (by decide +kernel) (by decide +kernel)
set_option maxRecDepth 20000 in
theorem gX0_init_X4_init_n24 : GoodIn wsX0_init (wsX4_init) := ggX0_init_X4_init
set_option maxRecDepth 20000 in
theorem ggX0_init_X1_init : GoodIn wsX0_init wsX1_init := goodIn_r _ [47, 48, 2, 3, 49, 17, 50, 51, 52, 53, 54, 55, 56, 57, 84, 85, 86, 87, 88, 89, 90, 91] (by decide +kernel) (by decide +kernel)
set_option maxRecDepth 20000 in
theorem gX0_init_X1_init_n31 : GoodIn wsX0_init (wsX1_init) := ggX0_init_X1_init
theorem dX0_init_0 : decode cX0_init 0 = .ok (.aload_n 0, 1) := by decide +kernel
theorem dX0_init_1 : decode cX0_init 1 = .ok (.invokespecial 3, 3) := by decide +kernel
theorem dX0_init_4 : decode cX0_init 4 = .ok (.aload_n 0, 1) := by decide +kernel
theorem dX0_init_5 : decode cX0_init 5 = .ok (.iconst 0, 1) := by decide +kernel
theorem dX0_init_6 : decode cX0_init 6 = .ok (.putfield 9, 3) := by decide +kernel
theorem dX0_init_9 : decode cX0_init 9 = .ok (.aload_n 0, 1) := by decide +kernel
theorem dX0_init_10 : decode cX0_init 10 = .ok (.new 15, 3) := by decide +kernel
theorem dX0_init_13 : decode cX0_init 13 = .ok (.dup, 1) := by decide +kernel
theorem dX0_init_14 : decode cX0_init 14 = .ok (.invokespecial 17, 3) := by decide +kernel
theorem dX0_init_17 : decode cX0_init 17 = .ok (.putfield 18, 3) := by decide +kernel
theorem dX0_init_20 : decode cX0_init 20 = .ok (.aload_n 0, 1) := by decide +kernel
theorem dX0_init_21 : decode cX0_init 21 = .ok (.new 22, 3) := by decide +kernel
theorem dX0_init_24 : decode cX0_init 24 = .ok (.dup, 1) := by decide +kernel
theorem dX0_init_25 : decode cX0_init 25 = .ok (.invokespecial 24, 3) := by decide +kernel
theorem dX0_init_28 : decode cX0_init 28 = .ok (.putfield 25, 3) := by decide +kernel
theorem dX0_init_31 : decode cX0_init 31 = .ok (.aload_n 0, 1) := by decide +kernel
theorem dX0_init_32 : decode cX0_init 32 = .ok (.new 29, 3) := by decide +kernel
theorem dX0_init_35 : decode cX0_init 35 = .ok (.dup, 1) := by decide +kernel
theorem dX0_init_36 : decode cX0_init 36 = .ok (.invokespecial 31, 3) := by decide +kernel
theorem dX0_init_39 : decode cX0_init 39 = .ok (.putfield 32, 3) := by decide +kernel
theorem dX0_init_42 : decode cX0_init 42 = .ok (.aload_n 0, 1) := by decide +kernel
theorem dX0_init_43 : decode cX0_init 43 = .ok (.iconst 5, 1) := by decide +kernel
theorem dX0_init_44 : decode cX0_init 44 = .ok (.newarray .int, 2) := by decide +kernel
theorem dX0_init_46 : decode cX0_init 46 = .ok (.putfield 36, 3) := by decide +kernel
theorem dX0_init_49 : decode cX0_init 49 = .ok (.aload_n 0, 1) := by decide +kernel
theorem dX0_init_50 : decode cX0_init 50 = .ok (.bipush 50, 2) := by decide +kernel
theorem dX0_init_52 : decode cX0_init 52 = .ok (.putfield 40, 3) := by decide +kernel
theorem dX0_init_55 : decode cX0_init 55 = .ok (.aload_n 0, 1) := by decide +kernel
theorem dX0_init_56 : decode cX0_init 56 = .ok (.iconst 0, 1) := by decide +kernel
theorem dX0_init_57 : decode cX0_init 57 = .ok (.putfield 43, 3) := by decide +kernel
theorem dX0_init_60 : decode cX0_init 60 = .ok (.aload_n 0, 1) := by decide +kernel
theorem dX0_init_61 : decode cX0_init 61 = .ok (.iconst 0, 1) := by decide +kernel
theorem dX0_init_62 : decode cX0_init 62 = .ok (.putfield 46, 3) := by decide +kernel
theorem dX0_init_65 : decode cX0_init 65 = .ok (.aload_n 0, 1) := by decide +kernel
theorem dX0_init_66 : decode cX0_init 66 = .ok (.iconst 0, 1) := by decide +kernel
theorem dX0_init_67 : decode cX0_init 67 = .ok (.putfield 49, 3) := by decide +kernel
theorem dX0_init_70 : decode cX0_init 70 = .ok (.aload_n 0, 1) := by decide +kernel
theorem dX0_init_71 : decode cX0_init 71 = .ok (.iconst 0, 1) := by decide +kernel
theorem dX0_init_72 : decode cX0_init 72 = .ok (.putfield 52, 3) := by decide +kernel
theorem dX0_init_75 : decode cX0_init 75 = .ok (.return_, 1) := by decide +kernel
set_option maxRecDepth 20000 in
theorem ggX0_copyFrom_X5_copyFrom : GoodIn wsX0_copyFrom wsX5_copyFrom := goodIn_r _ [19, 20, 21, 22, 7, 8, 9, 23, 24, 25, 26, 27, 28, 29, 30, 31, 32, 67, 68, 69, 70, 71, 72, 73, 74, 75, 76, 77, 78] (by decide +kernel) (by decide +kernel)
set_option maxRecDepth 20000 in
theorem gX0_copyFrom_X5_copyFrom : GoodIn wsX0_copyFrom (wsV RX0 55 RX5 yX5_copyFrom wsX5_copyFrom) := goodIn_app (goodIn_of _ (by decide +kernel)) ggX0_copyFrom_X5_copyFrom
set_option maxRecDepth 20000 in
theorem ggX0_copyFrom_X4_copyFrom : GoodIn wsX0_copyFrom wsX4_copyFrom := goodIn_r _ [37, 38, 39, 40, 7, 8, 9, 41, 42, 79, 80, 81, 82] (by decide +kernel) (by decide +kernel)
set_option maxRecDepth 20000 in
theorem gX0_copyFrom_X4_copyFrom : GoodIn wsX0_copyFrom (wsV RX0 59 RX4 yX4_copyFrom wsX4_copyFrom) := goodIn_app (goodIn_of _ (by decide +kernel)) ggX0_copyFrom_X4_copyFrom
set_option maxRecDepth 20000 in
theorem ggX0_copyFrom_X1_copyFrom : GoodIn wsX0_copyFrom wsX1_copyFrom := goodIn_r _ [47, 48, 49, 50, 7, 8, 9, 51, 52, 53, 54, 55, 56, 83, 84, 85, 86, 87, 88, 89, 90] (by decide +kernel) (by decide +kernel)
set_option maxRecDepth 20000 in
theorem gX0_copyFrom_X1_copyFrom : GoodIn wsX0_copyFrom (wsV RX0 62 RX1 yX1_copyFrom wsX1_copyFrom) := goodIn_app (goodIn_of _ (by decide +kernel)) ggX0_copyFrom_X1_copyFrom
theorem dX0_copyFrom_0 : decode cX0_copyFrom 0 = .ok (.aload_n 0, 1) := by decide +kernel
theorem dX0_copyFrom_1 : decode cX0_copyFrom 1 = .ok (.aload_n 1, 1) := by decide +kernel
theorem dX0_copyFrom_2 : decode cX0_copyFrom 2 = .ok (.getfield 9, 3) := by decide +kernel
theorem dX0_copyFrom_5 : decode cX0_copyFrom 5 = .ok (.putfield 9, 3) := by decide +kernel
theorem dX0_copyFrom_8 : decode cX0_copyFrom 8 = .ok (.aload_n 0, 1) := by decide +kernel
theorem dX0_copyFrom_9 : decode cX0_copyFrom 9 = .ok (.getfield 18, 3) := by decide +kernel
theorem dX0_copyFrom_12 : decode cX0_copyFrom 12 = .ok (.aload_n 1, 1) := by decide +kernel
theorem dX0_copyFrom_13 : decode cX0_copyFrom 13 = .ok (.getfield 18, 3) := by decide +kernel
theorem dX0_copyFrom_16 : decode cX0_copyFrom 16 = .ok (.invokevirtual 55, 3) := by decide +kernel
theorem dX0_copyFrom_19 : decode cX0_copyFrom 19 = .ok (.aload_n 0, 1) := by decide +kernel
theorem dX0_copyFrom_20 : decode cX0_copyFrom 20 = .ok (.getfield 25, 3) := by decide +kernel
theorem dX0_copyFrom_23 : decode cX0_copyFrom 23 = .ok (.aload_n 1, 1) := by decide +kernel
theorem dX0_copyFrom_24 : decode cX0_copyFrom 24 = .ok (.getfield 25, 3) := by decide +kernel
theorem dX0_copyFrom_27 : decode cX0_copyFrom 27 = .ok (.invokevirtual 59, 3) := by decide +kernel
theorem dX0_copyFrom_30 : decode cX0_copyFrom 30 = .ok (.aload_n 0, 1) := by decide +kernel
theorem dX0_copyFrom_31 : decode cX0_copyFrom 31 = .ok (.getfield 32, 3) := by decide +kernel
theorem dX0_copyFrom_34 : decode cX0_copyFrom 34 = .ok (.aload_n 1, 1) := by decide +kernel
theorem dX0_copyFrom_35 : decode cX0_copyFrom 35 = .ok (.getfield 32, 3) := by decide +kernel
theorem dX0_copyFrom_38 : decode cX0_copyFrom 38 = .ok (.invokevirtual 62, 3) := by decide +kernel
theorem dX0_copyFrom_41 : decode cX0_copyFrom 41 = .ok (.aload_n 1, 1) := by decide +kernel
theorem dX0_copyFrom_42 : decode cX0_copyFrom 42 = .ok (.getfield 36, 3) := by decide +kernel
theorem dX0_copyFrom_45 : decode cX0_copyFrom 45 = .ok (.iconst 0, 1) := by decide +kernel
theorem dX0_copyFrom_46 : decode cX0_copyFrom 46 = .ok (.aload_n 0, 1) := by decide +kernel
theorem dX0_copyFrom_47 : decode cX0_copyFrom 47 = .ok (.getfield 36, 3) := by decide +kernel
theorem dX0_copyFrom_50 : decode cX0_copyFrom 50 = .ok (.iconst 0, 1) := by decide +kernel
theorem dX0_copyFrom_51 : decode cX0_copyFrom 51 = .ok (.iconst 5, 1) := by decide +kernel
theorem dX0_copyFrom_52 : decode cX0_copyFrom 52 = .ok (.invokestatic 65, 3) := by decide +kernel
theorem dX0_copyFrom_55 : decode cX0_copyFrom 55 = .ok (.aload_n 0, 1) := by decide +kernel
theorem dX0_copyFrom_56 : decode cX0_copyFrom 56 = .ok (.aload_n 1, 1) := by decide +kernel
theorem dX0_copyFrom_57 : decode cX0_copyFrom 57 = .ok (.getfield 40, 3) := by decide +kernel
theorem dX0_copyFrom_60 : decode cX0_copyFrom 60 = .ok (.putfield 40, 3) := by decide +kernel
theorem dX0_copyFrom_63 : decode cX0_copyFrom 63 = .ok (.aload_n 0, 1) := by decide +kernel
theorem dX0_copyFrom_64 : decode cX0_copyFrom 64 = .ok (.aload_n 1, 1) := by decide +kernel
theorem dX0_copyFrom_65 : decode cX0_copyFrom 65 = .ok (.getfield 43, 3) := by decide +kernel
theorem dX0_copyFrom_68 : decode cX0_copyFrom 68 = .ok (.putfield 43, 3) := by decide +kernel
theorem dX0_copyFrom_71 : decode cX0_copyFrom 71 = .ok (.aload_n 0, 1) := by decide +kernel
theorem dX0_copyFrom_72 : decode cX0_copyFrom 72 = .ok (.aload_n 1, 1) := by decide +kernel
theorem dX0_copyFrom_73 : decode cX0_copyFrom 73 = .ok (.getfield 46, 3) := by decide +kernel
theorem dX0_copyFrom_76 : decode cX0_copyFrom 76 = .ok (.putfield 46, 3) := by decide +kernel
theorem dX0_copyFrom_79 : decode cX0_copyFrom 79 = .ok (.aload_n 0, 1) := by decide +kernel
theorem dX0_copyFrom_80 : decode cX0_copyFrom 80 = .ok (.aload_n 1, 1) := by decide +kernel
theorem dX0_copyFrom_81 : decode cX0_copyFrom 81 = .ok (.getfield 49, 3) := by decide +kernel
theorem dX0_copyFrom_84 : decode cX0_copyFrom 84 = .ok (.putfield 49, 3) := by decide +kernel
theorem dX0_copyFrom_87 : decode cX0_copyFrom 87 = .ok (.aload_n 0, 1) := by decide +kernel
theorem dX0_copyFrom_88 : decode cX0_copyFrom 88 = .ok (.aload_n 1, 1) := by decide +kernel
theorem dX0_copyFrom_89 : decode cX0_copyFrom 89 = .ok (.getfield 52, 3) := by decide +kernel
theorem dX0_copyFrom_92 : decode cX0_copyFrom 92 = .ok (.putfield 52, 3) := by decide +kernel
theorem dX0_copyFrom_95 : decode cX0_copyFrom 95 = .ok (.return_, 1) := by decide +kernel
set_option maxRecDepth 20000 in
theorem ggX0_refusalToEnrol_X6_isWithin : GoodIn wsX0_refusalToEnrol wsX6_isWithin := goodIn_r _ [4] (by decide +kernel) (by decide +kernel)
set_option maxRecDepth 20000 in
theorem gX0_refusalToEnrol_X6_isWithin_n71 : GoodIn wsX0_refusalToEnrol (wsX6_isWithin) := ggX0_refusalToEnrol_X6_isWithin
set_option maxRecDepth 20000 in
theorem ggX0_refusalToEnrol_X6_isHeightAndRange : GoodIn wsX0_refusalToEnrol wsX6_isHeightAndRange := goodIn_r _ [6, 7, 2, 3, 4, 8, 9, 10] (by decide +kernel) (by decide +kernel)
set_option maxRecDepth 20000 in
theorem gX0_refusalToEnrol_X6_isHeightAndRange_n75 : GoodIn wsX0_refusalToEnrol (wsX6_isHeightAndRange) := ggX0_refusalToEnrol_X6_isHeightAndRange
set_option maxRecDepth 20000 in
theorem ggX0_refusalToEnrol_X5_isFull : GoodIn wsX0_refusalToEnrol wsX5_isFull := goodIn_r _ [15, 16, 27, 28, 29, 30, 31, 32, 33, 34, 35, 36, 37, 38] (by decide +kernel) (by decide +kernel)
set_option maxRecDepth 20000 in
theorem gX0_refusalToEnrol_X5_isFull : GoodIn wsX0_refusalToEnrol (wsV RX0 78 RX5 yX5_isFull wsX5_isFull) := goodIn_app (goodIn_of _ (by decide +kernel)) ggX0_refusalToEnrol_X5_isFull
theorem dX0_refusalToEnrol_0 : decode cX0_refusalToEnrol 0 = .ok (.iload_n 1, 1) := by decide +kernel
theorem dX0_refusalToEnrol_1 : decode cX0_refusalToEnrol 1 = .ok (.bipush 7, 2) := by decide +kernel
theorem dX0_refusalToEnrol_3 : decode cX0_refusalToEnrol 3 = .ok (.bipush 70, 2) := by decide +kernel
theorem dX0_refusalToEnrol_5 : decode cX0_refusalToEnrol 5 = .ok (.invokestatic 71, 3) := by decide +kernel
theorem dX0_refusalToEnrol_8 : decode cX0_refusalToEnrol 8 = .ok (.ifCond .eq 13, 3) := by decide +kernel
theorem dX0_refusalToEnrol_11 : decode cX0_refusalToEnrol 11 = .ok (.iload_n 2, 1) := by decide +kernel
theorem dX0_refusalToEnrol_12 : decode cX0_refusalToEnrol 12 = .ok (.iload_n 3, 1) := by decide +kernel
theorem dX0_refusalToEnrol_13 : decode cX0_refusalToEnrol 13 = .ok (.iload 4, 2) := by decide +kernel
theorem dX0_refusalToEnrol_15 : decode cX0_refusalToEnrol 15 = .ok (.invokestatic 75, 3) := by decide +kernel
theorem dX0_refusalToEnrol_18 : decode cX0_refusalToEnrol 18 = .ok (.ifCond .ne 5, 3) := by decide +kernel
theorem dX0_refusalToEnrol_21 : decode cX0_refusalToEnrol 21 = .ok (.iconst 2, 1) := by decide +kernel
theorem dX0_refusalToEnrol_22 : decode cX0_refusalToEnrol 22 = .ok (.ireturn, 1) := by decide +kernel
theorem dX0_refusalToEnrol_23 : decode cX0_refusalToEnrol 23 = .ok (.iload 5, 2) := by decide +kernel
theorem dX0_refusalToEnrol_25 : decode cX0_refusalToEnrol 25 = .ok (.ifCond .eq 17, 3) := by decide +kernel
theorem dX0_refusalToEnrol_28 : decode cX0_refusalToEnrol 28 = .ok (.iload 5, 2) := by decide +kernel
theorem dX0_refusalToEnrol_30 : decode cX0_refusalToEnrol 30 = .ok (.bipush 12, 2) := by decide +kernel
theorem dX0_refusalToEnrol_32 : decode cX0_refusalToEnrol 32 = .ok (.bipush 17, 2) := by decide +kernel
theorem dX0_refusalToEnrol_34 : decode cX0_refusalToEnrol 34 = .ok (.invokestatic 71, 3) := by decide +kernel
theorem dX0_refusalToEnrol_37 : decode cX0_refusalToEnrol 37 = .ok (.ifCond .ne 5, 3) := by decide +kernel
theorem dX0_refusalToEnrol_40 : decode cX0_refusalToEnrol 40 = .ok (.iconst 2, 1) := by decide +kernel
theorem dX0_refusalToEnrol_41 : decode cX0_refusalToEnrol 41 = .ok (.ireturn, 1) := by decide +kernel
theorem dX0_refusalToEnrol_42 : decode cX0_refusalToEnrol 42 = .ok (.aload_n 0, 1) := by decide +kernel
theorem dX0_refusalToEnrol_43 : decode cX0_refusalToEnrol 43 = .ok (.getfield 18, 3) := by decide +kernel
theorem dX0_refusalToEnrol_46 : decode cX0_refusalToEnrol 46 = .ok (.invokevirtual 78, 3) := by decide +kernel
theorem dX0_refusalToEnrol_49 : decode cX0_refusalToEnrol 49 = .ok (.ifCond .eq 7, 3) := by decide +kernel
theorem dX0_refusalToEnrol_52 : decode cX0_refusalToEnrol 52 = .ok (.iconst 3, 1) := by decide +kernel
theorem dX0_refusalToEnrol_53 : decode cX0_refusalToEnrol 53 = .ok (.goto 4, 3) := by decide +kernel
theorem dX0_refusalToEnrol_56 : decode cX0_refusalToEnrol 56 = .ok (.iconst 0, 1) := by decide +kernel
theorem dX0_refusalToEnrol_57 : decode cX0_refusalToEnrol 57 = .ok (.ireturn, 1) := by decide +kernel
set_option maxRecDepth 20000 in
theorem ggX0_enrol_X5_add : GoodIn wsX0_enrol wsX5_add := goodIn_r _ [8, 9, 10, 11, 12, 13, 14, 15, 16, 17, 18, 19, 20, 21, 32, 33, 34, 35, 36, 37, 38, 39, 40, 41, 42, 43] (by decide +kernel) (by decide +kernel)
set_option maxRecDepth 20000 in
theorem gX0_enrol_X5_add : GoodIn wsX0_enrol (wsV RX0 82 RX5 yX5_add wsX5_add) := goodIn_app (goodIn_of _ (by decide +kernel)) ggX0_enrol_X5_add
theorem dX0_enrol_0 : decode cX0_enrol 0 = .ok (.aload_n 0, 1) := by decide +kernel
theorem dX0_enrol_1 : decode cX0_enrol 1 = .ok (.getfield 18, 3) := by decide +kernel
theorem dX0_enrol_4 : decode cX0_enrol 4 = .ok (.aload_n 0, 1) := by decide +kernel
theorem dX0_enrol_5 : decode cX0_enrol 5 = .ok (.getfield 9, 3) := by decide +kernel
theorem dX0_enrol_8 : decode cX0_enrol 8 = .ok (.iload_n 1, 1) := by decide +kernel
theorem dX0_enrol_9 : decode cX0_enrol 9 = .ok (.sipush 360, 3) := by decide +kernel
theorem dX0_enrol_12 : decode cX0_enrol 12 = .ok (.imul, 1) := by decide +kernel
theorem dX0_enrol_13 : decode cX0_enrol 13 = .ok (.isub, 1) := by decide +kernel
theorem dX0_enrol_14 : decode cX0_enrol 14 = .ok (.iload_n 2, 1) := by decide +kernel
theorem dX0_enrol_15 : decode cX0_enrol 15 = .ok (.iload_n 3, 1) := by decide +kernel
theorem dX0_enrol_16 : decode cX0_enrol 16 = .ok (.iload 4, 2) := by decide +kernel
theorem dX0_enrol_18 : decode cX0_enrol 18 = .ok (.invokevirtual 82, 3) := by decide +kernel
theorem dX0_enrol_21 : decode cX0_enrol 21 = .ok (.istore 6, 2) := by decide +kernel
theorem dX0_enrol_23 : decode cX0_enrol 23 = .ok (.iload_n 1, 1) := by decide +kernel
theorem dX0_enrol_24 : decode cX0_enrol 24 = .ok (.iload 5, 2) := by decide +kernel
theorem dX0_enrol_26 : decode cX0_enrol 26 = .ok (.if_icmp .ge 26, 3) := by decide +kernel
theorem dX0_enrol_29 : decode cX0_enrol 29 = .ok (.aload_n 0, 1) := by decide +kernel
theorem dX0_enrol_30 : decode cX0_enrol 30 = .ok (.getfield 18, 3) := by decide +kernel
theorem dX0_enrol_33 : decode cX0_enrol 33 = .ok (.getfield 86, 3) := by decide +kernel
theorem dX0_enrol_36 : decode cX0_enrol 36 = .ok (.iload 6, 2) := by decide +kernel
theorem dX0_enrol_38 : decode cX0_enrol 38 = .ok (.aload_n 0, 1) := by decide +kernel
theorem dX0_enrol_39 : decode cX0_enrol 39 = .ok (.getfield 9, 3) := by decide +kernel
theorem dX0_enrol_42 : decode cX0_enrol 42 = .ok (.iload 5, 2) := by decide +kernel
theorem dX0_enrol_44 : decode cX0_enrol 44 = .ok (.iload_n 1, 1) := by decide +kernel
theorem dX0_enrol_45 : decode cX0_enrol 45 = .ok (.isub, 1) := by decide +kernel
theorem dX0_enrol_46 : decode cX0_enrol 46 = .ok (.sipush 360, 3) := by decide +kernel
theorem dX0_enrol_49 : decode cX0_enrol 49 = .ok (.imul, 1) := by decide +kernel
theorem dX0_enrol_50 : decode cX0_enrol 50 = .ok (.iadd, 1) := by decide +kernel
theorem dX0_enrol_51 : decode cX0_enrol 51 = .ok (.iastore, 1) := by decide +kernel
theorem dX0_enrol_52 : decode cX0_enrol 52 = .ok (.iload 6, 2) := by decide +kernel
theorem dX0_enrol_54 : decode cX0_enrol 54 = .ok (.ireturn, 1) := by decide +kernel
set_option maxRecDepth 20000 in
theorem ggX0_refusalToDismiss_X5_has : GoodIn wsX0_refusalToDismiss wsX5_has := goodIn_r _ [7, 8, 24, 25, 26, 27, 28, 29, 30, 31, 32, 33, 34, 35] (by decide +kernel) (by decide +kernel)
set_option maxRecDepth 20000 in
theorem gX0_refusalToDismiss_X5_has : GoodIn wsX0_refusalToDismiss (wsV RX0 89 RX5 yX5_has wsX5_has) := goodIn_app (goodIn_of _ (by decide +kernel)) ggX0_refusalToDismiss_X5_has
set_option maxRecDepth 20000 in
theorem ggX0_refusalToDismiss_X5_hasLeftBy : GoodIn wsX0_refusalToDismiss wsX5_hasLeftBy := goodIn_r _ [12, 13, 24, 25, 26, 27, 28, 29, 30, 31, 32, 33, 34, 35] (by decide +kernel) (by decide +kernel)
set_option maxRecDepth 20000 in
theorem gX0_refusalToDismiss_X5_hasLeftBy : GoodIn wsX0_refusalToDismiss (wsV RX0 93 RX5 yX5_hasLeftBy wsX5_hasLeftBy) := goodIn_app (goodIn_of _ (by decide +kernel)) ggX0_refusalToDismiss_X5_hasLeftBy
theorem dX0_refusalToDismiss_0 : decode cX0_refusalToDismiss 0 = .ok (.aload_n 0, 1) := by decide +kernel
theorem dX0_refusalToDismiss_1 : decode cX0_refusalToDismiss 1 = .ok (.getfield 18, 3) := by decide +kernel
theorem dX0_refusalToDismiss_4 : decode cX0_refusalToDismiss 4 = .ok (.iload_n 1, 1) := by decide +kernel
theorem dX0_refusalToDismiss_5 : decode cX0_refusalToDismiss 5 = .ok (.invokevirtual 89, 3) := by decide +kernel
theorem dX0_refusalToDismiss_8 : decode cX0_refusalToDismiss 8 = .ok (.ifCond .ne 5, 3) := by decide +kernel
theorem dX0_refusalToDismiss_11 : decode cX0_refusalToDismiss 11 = .ok (.iconst 1, 1) := by decide +kernel
theorem dX0_refusalToDismiss_12 : decode cX0_refusalToDismiss 12 = .ok (.ireturn, 1) := by decide +kernel
theorem dX0_refusalToDismiss_13 : decode cX0_refusalToDismiss 13 = .ok (.aload_n 0, 1) := by decide +kernel
theorem dX0_refusalToDismiss_14 : decode cX0_refusalToDismiss 14 = .ok (.getfield 18, 3) := by decide +kernel
theorem dX0_refusalToDismiss_17 : decode cX0_refusalToDismiss 17 = .ok (.iload_n 1, 1) := by decide +kernel
theorem dX0_refusalToDismiss_18 : decode cX0_refusalToDismiss 18 = .ok (.aload_n 0, 1) := by decide +kernel
theorem dX0_refusalToDismiss_19 : decode cX0_refusalToDismiss 19 = .ok (.getfield 9, 3) := by decide +kernel
theorem dX0_refusalToDismiss_22 : decode cX0_refusalToDismiss 22 = .ok (.invokevirtual 93, 3) := by decide +kernel
theorem dX0_refusalToDismiss_25 : decode cX0_refusalToDismiss 25 = .ok (.ifCond .eq 7, 3) := by decide +kernel
theorem dX0_refusalToDismiss_28 : decode cX0_refusalToDismiss 28 = .ok (.iconst 3, 1) := by decide +kernel
theorem dX0_refusalToDismiss_29 : decode cX0_refusalToDismiss 29 = .ok (.goto 4, 3) := by decide +kernel
theorem dX0_refusalToDismiss_32 : decode cX0_refusalToDismiss 32 = .ok (.iconst 0, 1) := by decide +kernel
theorem dX0_refusalToDismiss_33 : decode cX0_refusalToDismiss 33 = .ok (.ireturn, 1) := by decide +kernel
set_option maxRecDepth 20000 in
theorem ggX0_dismiss_X5_countInChoir : GoodIn wsX0_dismiss wsX5_countInChoir := goodIn_r _ [8, 9, 10, 11, 12, 7, 13, 14, 25, 26, 27, 28, 29, 30, 31, 32, 33, 34, 35, 36] (by decide +kernel) (by decide +kernel)
set_option maxRecDepth 20000 in
theorem gX0_dismiss_X5_countInChoir : GoodIn wsX0_dismiss (wsV RX0 100 RX5 yX5_countInChoir wsX5_countInChoir) := goodIn_app (goodIn_of _ (by decide +kernel)) ggX0_dismiss_X5_countInChoir
theorem dX0_dismiss_0 : decode cX0_dismiss 0 = .ok (.aload_n 0, 1) := by decide +kernel
theorem dX0_dismiss_1 : decode cX0_dismiss 1 = .ok (.getfield 18, 3) := by decide +kernel
theorem dX0_dismiss_4 : decode cX0_dismiss 4 = .ok (.getfield 97, 3) := by decide +kernel
theorem dX0_dismiss_7 : decode cX0_dismiss 7 = .ok (.iload_n 1, 1) := by decide +kernel
theorem dX0_dismiss_8 : decode cX0_dismiss 8 = .ok (.aload_n 0, 1) := by decide +kernel
theorem dX0_dismiss_9 : decode cX0_dismiss 9 = .ok (.getfield 9, 3) := by decide +kernel
theorem dX0_dismiss_12 : decode cX0_dismiss 12 = .ok (.iconst 1, 1) := by decide +kernel
theorem dX0_dismiss_13 : decode cX0_dismiss 13 = .ok (.isub, 1) := by decide +kernel
theorem dX0_dismiss_14 : decode cX0_dismiss 14 = .ok (.iastore, 1) := by decide +kernel
theorem dX0_dismiss_15 : decode cX0_dismiss 15 = .ok (.aload_n 0, 1) := by decide +kernel
theorem dX0_dismiss_16 : decode cX0_dismiss 16 = .ok (.getfield 18, 3) := by decide +kernel
theorem dX0_dismiss_19 : decode cX0_dismiss 19 = .ok (.aload_n 0, 1) := by decide +kernel
theorem dX0_dismiss_20 : decode cX0_dismiss 20 = .ok (.getfield 9, 3) := by decide +kernel
theorem dX0_dismiss_23 : decode cX0_dismiss 23 = .ok (.invokevirtual 100, 3) := by decide +kernel
theorem dX0_dismiss_26 : decode cX0_dismiss 26 = .ok (.ireturn, 1) := by decide +kernel
set_option maxRecDepth 20000 in
theorem ggX0_refusalToHire_X6_isWithin : GoodIn wsX0_refusalToHire wsX6_isWithin := goodIn_r _ [5] (by decide +kernel) (by decide +kernel)
set_option maxRecDepth 20000 in
theorem gX0_refusalToHire_X6_isWithin_n71 : GoodIn wsX0_refusalToHire (wsX6_isWithin) := ggX0_refusalToHire_X6_isWithin
set_option maxRecDepth 20000 in
theorem ggX0_refusalToHire_X6_isHeightAndRange : GoodIn wsX0_refusalToHire wsX6_isHeightAndRange := goodIn_r _ [7, 8, 3, 4, 5, 9, 10, 11] (by decide +kernel) (by decide +kernel)
set_option maxRecDepth 20000 in
theorem gX0_refusalToHire_X6_isHeightAndRange_n75 : GoodIn wsX0_refusalToHire (wsX6_isHeightAndRange) := ggX0_refusalToHire_X6_isHeightAndRange
set_option maxRecDepth 20000 in
theorem ggX0_refusalToHire_X5_isFull : GoodIn wsX0_refusalToHire wsX5_isFull := goodIn_r _ [16, 17, 28, 29, 30, 31, 32, 33, 34, 35, 36, 37, 38, 39] (by decide +kernel) (by decide +kernel)
set_option maxRecDepth 20000 in
theorem gX0_refusalToHire_X5_isFull : GoodIn wsX0_refusalToHire (wsV RX0 78 RX5 yX5_isFull wsX5_isFull) := goodIn_app (goodIn_of _ (by decide +kernel)) ggX0_refusalToHire_X5_isFull
theorem dX0_refusalToHire_0 : decode cX0_refusalToHire 0 = .ok (.iload_n 1, 1) := by decide +kernel
theorem dX0_refusalToHire_1 : decode cX0_refusalToHire 1 = .ok (.iconst 0, 1) := by decide +kernel
theorem dX0_refusalToHire_2 : decode cX0_refusalToHire 2 = .ok (.iconst 4, 1) := by decide +kernel
theorem dX0_refusalToHire_3 : decode cX0_refusalToHire 3 = .ok (.invokestatic 71, 3) := by decide +kernel
theorem dX0_refusalToHire_6 : decode cX0_refusalToHire 6 = .ok (.ifCond .ne 5, 3) := by decide +kernel
theorem dX0_refusalToHire_9 : decode cX0_refusalToHire 9 = .ok (.iconst 1, 1) := by decide +kernel
theorem dX0_refusalToHire_10 : decode cX0_refusalToHire 10 = .ok (.ireturn, 1) := by decide +kernel
theorem dX0_refusalToHire_11 : decode cX0_refusalToHire 11 = .ok (.iload_n 2, 1) := by decide +kernel
theorem dX0_refusalToHire_12 : decode cX0_refusalToHire 12 = .ok (.iconst 0, 1) := by decide +kernel
theorem dX0_refusalToHire_13 : decode cX0_refusalToHire 13 = .ok (.bipush 9, 2) := by decide +kernel
theorem dX0_refusalToHire_15 : decode cX0_refusalToHire 15 = .ok (.invokestatic 71, 3) := by decide +kernel
theorem dX0_refusalToHire_18 : decode cX0_refusalToHire 18 = .ok (.ifCond .eq 18, 3) := by decide +kernel
theorem dX0_refusalToHire_21 : decode cX0_refusalToHire 21 = .ok (.iload 6, 2) := by decide +kernel
theorem dX0_refusalToHire_23 : decode cX0_refusalToHire 23 = .ok (.iconst 1, 1) := by decide +kernel
theorem dX0_refusalToHire_24 : decode cX0_refusalToHire 24 = .ok (.bipush 90, 2) := by decide +kernel
theorem dX0_refusalToHire_26 : decode cX0_refusalToHire 26 = .ok (.invokestatic 71, 3) := by decide +kernel
theorem dX0_refusalToHire_29 : decode cX0_refusalToHire 29 = .ok (.ifCond .eq 7, 3) := by decide +kernel
theorem dX0_refusalToHire_32 : decode cX0_refusalToHire 32 = .ok (.iconst 1, 1) := by decide +kernel
theorem dX0_refusalToHire_33 : decode cX0_refusalToHire 33 = .ok (.goto 4, 3) := by decide +kernel
theorem dX0_refusalToHire_36 : decode cX0_refusalToHire 36 = .ok (.iconst 0, 1) := by decide +kernel
theorem dX0_refusalToHire_37 : decode cX0_refusalToHire 37 = .ok (.istore 7, 2) := by decide +kernel
theorem dX0_refusalToHire_39 : decode cX0_refusalToHire 39 = .ok (.iload 7, 2) := by decide +kernel
theorem dX0_refusalToHire_41 : decode cX0_refusalToHire 41 = .ok (.ifCond .eq 14, 3) := by decide +kernel
theorem dX0_refusalToHire_44 : decode cX0_refusalToHire 44 = .ok (.iload_n 3, 1) := by decide +kernel
theorem dX0_refusalToHire_45 : decode cX0_refusalToHire 45 = .ok (.iload 4, 2) := by decide +kernel
theorem dX0_refusalToHire_47 : decode cX0_refusalToHire 47 = .ok (.iload 5, 2) := by decide +kernel
theorem dX0_refusalToHire_49 : decode cX0_refusalToHire 49 = .ok (.invokestatic 75, 3) := by decide +kernel
theorem dX0_refusalToHire_52 : decode cX0_refusalToHire 52 = .ok (.ifCond .ne 5, 3) := by decide +kernel
theorem dX0_refusalToHire_55 : decode cX0_refusalToHire 55 = .ok (.iconst 2, 1) := by decide +kernel
theorem dX0_refusalToHire_56 : decode cX0_refusalToHire 56 = .ok (.ireturn, 1) := by decide +kernel
theorem dX0_refusalToHire_57 : decode cX0_refusalToHire 57 = .ok (.aload_n 0, 1) := by decide +kernel
theorem dX0_refusalToHire_58 : decode cX0_refusalToHire 58 = .ok (.getfield 18, 3) := by decide +kernel
theorem dX0_refusalToHire_61 : decode cX0_refusalToHire 61 = .ok (.invokevirtual 78, 3) := by decide +kernel
theorem dX0_refusalToHire_64 : decode cX0_refusalToHire 64 = .ok (.ifCond .ne 14, 3) := by decide +kernel
theorem dX0_refusalToHire_67 : decode cX0_refusalToHire 67 = .ok (.aload_n 0, 1) := by decide +kernel
theorem dX0_refusalToHire_68 : decode cX0_refusalToHire 68 = .ok (.getfield 36, 3) := by decide +kernel
theorem dX0_refusalToHire_71 : decode cX0_refusalToHire 71 = .ok (.iload_n 1, 1) := by decide +kernel
theorem dX0_refusalToHire_72 : decode cX0_refusalToHire 72 = .ok (.iaload, 1) := by decide +kernel
theorem dX0_refusalToHire_73 : decode cX0_refusalToHire 73 = .ok (.bipush (-3), 2) := by decide +kernel
theorem dX0_refusalToHire_75 : decode cX0_refusalToHire 75 = .ok (.if_icmp .gt 7, 3) := by decide +kernel
theorem dX0_refusalToHire_78 : decode cX0_refusalToHire 78 = .ok (.iconst 3, 1) := by decide +kernel
theorem dX0_refusalToHire_79 : decode cX0_refusalToHire 79 = .ok (.goto 4, 3) := by decide +kernel
theorem dX0_refusalToHire_82 : decode cX0_refusalToHire 82 = .ok (.iconst 0, 1) := by decide +kernel
theorem dX0_refusalToHire_83 : decode cX0_refusalToHire 83 = .ok (.ireturn, 1) := by decide +kernel
set_option maxRecDepth 20000 in
theorem ggX0_hire_X5_add : GoodIn wsX0_hire wsX5_add := goodIn_r _ [11, 12, 13, 14, 15, 16, 17, 18, 19, 20, 21, 22, 23, 24, 35, 36, 37, 38, 39, 40, 41, 42, 43, 44, 45, 46] (by decide +kernel) (by decide +kernel)
set_option maxRecDepth 20000 in
theorem gX0_hire_X5_add : GoodIn wsX0_hire (wsV RX0 82 RX5 yX5_add wsX5_add) := goodIn_app (goodIn_of _ (by decide +kernel)) ggX0_hire_X5_add
theorem dX0_hire_0 : decode cX0_hire 0 = .ok (.aload_n 0, 1) := by decide +kernel
theorem dX0_hire_1 : decode cX0_hire 1 = .ok (.getfield 18, 3) := by decide +kernel
theorem dX0_hire_4 : decode cX0_hire 4 = .ok (.aload_n 0, 1) := by decide +kernel
theorem dX0_hire_5 : decode cX0_hire 5 = .ok (.getfield 9, 3) := by decide +kernel
theorem dX0_hire_8 : decode cX0_hire 8 = .ok (.sipush 10800, 3) := by decide +kernel
theorem dX0_hire_11 : decode cX0_hire 11 = .ok (.isub, 1) := by decide +kernel
theorem dX0_hire_12 : decode cX0_hire 12 = .ok (.iload_n 3, 1) := by decide +kernel
theorem dX0_hire_13 : decode cX0_hire 13 = .ok (.iload 4, 2) := by decide +kernel
theorem dX0_hire_15 : decode cX0_hire 15 = .ok (.iload 5, 2) := by decide +kernel
theorem dX0_hire_17 : decode cX0_hire 17 = .ok (.invokevirtual 82, 3) := by decide +kernel
theorem dX0_hire_20 : decode cX0_hire 20 = .ok (.istore 7, 2) := by decide +kernel
theorem dX0_hire_22 : decode cX0_hire 22 = .ok (.aload_n 0, 1) := by decide +kernel
theorem dX0_hire_23 : decode cX0_hire 23 = .ok (.getfield 18, 3) := by decide +kernel
theorem dX0_hire_26 : decode cX0_hire 26 = .ok (.getfield 104, 3) := by decide +kernel
theorem dX0_hire_29 : decode cX0_hire 29 = .ok (.iload 7, 2) := by decide +kernel
theorem dX0_hire_31 : decode cX0_hire 31 = .ok (.iload_n 1, 1) := by decide +kernel
theorem dX0_hire_32 : decode cX0_hire 32 = .ok (.iastore, 1) := by decide +kernel
theorem dX0_hire_33 : decode cX0_hire 33 = .ok (.aload_n 0, 1) := by decide +kernel
theorem dX0_hire_34 : decode cX0_hire 34 = .ok (.getfield 18, 3) := by decide +kernel
theorem dX0_hire_37 : decode cX0_hire 37 = .ok (.getfield 107, 3) := by decide +kernel
theorem dX0_hire_40 : decode cX0_hire 40 = .ok (.iload 7, 2) := by decide +kernel
theorem dX0_hire_42 : decode cX0_hire 42 = .ok (.iload_n 2, 1) := by decide +kernel
theorem dX0_hire_43 : decode cX0_hire 43 = .ok (.iastore, 1) := by decide +kernel
theorem dX0_hire_44 : decode cX0_hire 44 = .ok (.aload_n 0, 1) := by decide +kernel
theorem dX0_hire_45 : decode cX0_hire 45 = .ok (.getfield 18, 3) := by decide +kernel
theorem dX0_hire_48 : decode cX0_hire 48 = .ok (.getfield 97, 3) := by decide +kernel
theorem dX0_hire_51 : decode cX0_hire 51 = .ok (.iload 7, 2) := by decide +kernel
theorem dX0_hire_53 : decode cX0_hire 53 = .ok (.aload_n 0, 1) := by decide +kernel
theorem dX0_hire_54 : decode cX0_hire 54 = .ok (.getfield 9, 3) := by decide +kernel
theorem dX0_hire_57 : decode cX0_hire 57 = .ok (.iload 6, 2) := by decide +kernel
theorem dX0_hire_59 : decode cX0_hire 59 = .ok (.iadd, 1) := by decide +kernel
theorem dX0_hire_60 : decode cX0_hire 60 = .ok (.iastore, 1) := by decide +kernel
theorem dX0_hire_61 : decode cX0_hire 61 = .ok (.aload_n 0, 1) := by decide +kernel
theorem dX0_hire_62 : decode cX0_hire 62 = .ok (.getfield 36, 3) := by decide +kernel
theorem dX0_hire_65 : decode cX0_hire 65 = .ok (.iload_n 1, 1) := by decide +kernel
theorem dX0_hire_66 : decode cX0_hire 66 = .ok (.dup2, 1) := by decide +kernel
theorem dX0_hire_67 : decode cX0_hire 67 = .ok (.iaload, 1) := by decide +kernel
theorem dX0_hire_68 : decode cX0_hire 68 = .ok (.iconst 1, 1) := by decide +kernel
theorem dX0_hire_69 : decode cX0_hire 69 = .ok (.isub, 1) := by decide +kernel
theorem dX0_hire_70 : decode cX0_hire 70 = .ok (.iastore, 1) := by decide +kernel
theorem dX0_hire_71 : decode cX0_hire 71 = .ok (.iload 7, 2) := by decide +kernel
theorem dX0_hire_73 : decode cX0_hire 73 = .ok (.ireturn, 1) := by decide +kernel
set_option maxRecDepth 20000 in
theorem ggX0_refusalToSendAway_X5_has : GoodIn wsX0_refusalToSendAway wsX5_has := goodIn_r _ [8, 9, 33, 34, 35, 36, 37, 38, 39, 40, 41, 42, 43, 44] (by decide +kernel) (by decide +kernel)
set_option maxRecDepth 20000 in
theorem gX0_refusalToSendAway_X5_has : GoodIn wsX0_refusalToSendAway (wsV RX0 89 RX5 yX5_has wsX5_has) := goodIn_app (goodIn_of _ (by decide +kernel)) ggX0_refusalToSendAway_X5_has
set_option maxRecDepth 20000 in
theorem ggX0_refusalToSendAway_X6_isWithin : GoodIn wsX0_refusalToSendAway wsX6_isWithin := goodIn_r _ [12] (by decide +kernel) (by decide +kernel)
set_option maxRecDepth 20000 in
theorem gX0_refusalToSendAway_X6_isWithin_n71 : GoodIn wsX0_refusalToSendAway (wsX6_isWithin) := ggX0_refusalToSendAway_X6_isWithin
set_option maxRecDepth 20000 in
theorem ggX0_refusalToSendAway_X5_hasLeftBy : GoodIn wsX0_refusalToSendAway wsX5_hasLeftBy := goodIn_r _ [16, 17, 33, 34, 35, 36, 37, 38, 39, 40, 41, 42, 43, 44] (by decide +kernel) (by decide +kernel)
set_option maxRecDepth 20000 in
theorem gX0_refusalToSendAway_X5_hasLeftBy : GoodIn wsX0_refusalToSendAway (wsV RX0 93 RX5 yX5_hasLeftBy wsX5_hasLeftBy) := goodIn_app (goodIn_of _ (by decide +kernel)) ggX0_refusalToSendAway_X5_hasLeftBy
set_option maxRecDepth 20000 in
theorem ggX0_refusalToSendAway_X5_isAwayOn : GoodIn wsX0_refusalToSendAway wsX5_isAwayOn := goodIn_r _ [21, 22, 33, 34, 35, 36, 37, 38, 39, 40, 41, 42, 43, 44] (by decide +kernel) (by decide +kernel)
set_option maxRecDepth 20000 in
theorem gX0_refusalToSendAway_X5_isAwayOn : GoodIn wsX0_refusalToSendAway (wsV RX0 110 RX5 yX5_isAwayOn wsX5_isAwayOn) := goodIn_app (goodIn_of _ (by decide +kernel)) ggX0_refusalToSendAway_X5_isAwayOn
theorem dX0_refusalToSendAway_0 : decode cX0_refusalToSendAway 0 = .ok (.aload_n 0, 1) := by decide +kernel
theorem dX0_refusalToSendAway_1 : decode cX0_refusalToSendAway 1 = .ok (.getfield 18, 3) := by decide +kernel
theorem dX0_refusalToSendAway_4 : decode cX0_refusalToSendAway 4 = .ok (.iload_n 1, 1) := by decide +kernel
theorem dX0_refusalToSendAway_5 : decode cX0_refusalToSendAway 5 = .ok (.invokevirtual 89, 3) := by decide +kernel
theorem dX0_refusalToSendAway_8 : decode cX0_refusalToSendAway 8 = .ok (.ifCond .eq 12, 3) := by decide +kernel
theorem dX0_refusalToSendAway_11 : decode cX0_refusalToSendAway 11 = .ok (.iload_n 2, 1) := by decide +kernel
theorem dX0_refusalToSendAway_12 : decode cX0_refusalToSendAway 12 = .ok (.iconst 0, 1) := by decide +kernel
theorem dX0_refusalToSendAway_13 : decode cX0_refusalToSendAway 13 = .ok (.iconst 4, 1) := by decide +kernel
theorem dX0_refusalToSendAway_14 : decode cX0_refusalToSendAway 14 = .ok (.invokestatic 71, 3) := by decide +kernel
theorem dX0_refusalToSendAway_17 : decode cX0_refusalToSendAway 17 = .ok (.ifCond .ne 5, 3) := by decide +kernel
theorem dX0_refusalToSendAway_20 : decode cX0_refusalToSendAway 20 = .ok (.iconst 1, 1) := by decide +kernel
theorem dX0_refusalToSendAway_21 : decode cX0_refusalToSendAway 21 = .ok (.ireturn, 1) := by decide +kernel
theorem dX0_refusalToSendAway_22 : decode cX0_refusalToSendAway 22 = .ok (.iload_n 3, 1) := by decide +kernel
theorem dX0_refusalToSendAway_23 : decode cX0_refusalToSendAway 23 = .ok (.iconst 1, 1) := by decide +kernel
theorem dX0_refusalToSendAway_24 : decode cX0_refusalToSendAway 24 = .ok (.bipush 90, 2) := by decide +kernel
theorem dX0_refusalToSendAway_26 : decode cX0_refusalToSendAway 26 = .ok (.invokestatic 71, 3) := by decide +kernel
theorem dX0_refusalToSendAway_29 : decode cX0_refusalToSendAway 29 = .ok (.ifCond .ne 5, 3) := by decide +kernel
theorem dX0_refusalToSendAway_32 : decode cX0_refusalToSendAway 32 = .ok (.iconst 2, 1) := by decide +kernel
theorem dX0_refusalToSendAway_33 : decode cX0_refusalToSendAway 33 = .ok (.ireturn, 1) := by decide +kernel
theorem dX0_refusalToSendAway_34 : decode cX0_refusalToSendAway 34 = .ok (.aload_n 0, 1) := by decide +kernel
theorem dX0_refusalToSendAway_35 : decode cX0_refusalToSendAway 35 = .ok (.getfield 18, 3) := by decide +kernel
theorem dX0_refusalToSendAway_38 : decode cX0_refusalToSendAway 38 = .ok (.iload_n 1, 1) := by decide +kernel
theorem dX0_refusalToSendAway_39 : decode cX0_refusalToSendAway 39 = .ok (.aload_n 0, 1) := by decide +kernel
theorem dX0_refusalToSendAway_40 : decode cX0_refusalToSendAway 40 = .ok (.getfield 9, 3) := by decide +kernel
theorem dX0_refusalToSendAway_43 : decode cX0_refusalToSendAway 43 = .ok (.invokevirtual 93, 3) := by decide +kernel
theorem dX0_refusalToSendAway_46 : decode cX0_refusalToSendAway 46 = .ok (.ifCond .ne 22, 3) := by decide +kernel
theorem dX0_refusalToSendAway_49 : decode cX0_refusalToSendAway 49 = .ok (.aload_n 0, 1) := by decide +kernel
theorem dX0_refusalToSendAway_50 : decode cX0_refusalToSendAway 50 = .ok (.getfield 18, 3) := by decide +kernel
theorem dX0_refusalToSendAway_53 : decode cX0_refusalToSendAway 53 = .ok (.iload_n 1, 1) := by decide +kernel
theorem dX0_refusalToSendAway_54 : decode cX0_refusalToSendAway 54 = .ok (.aload_n 0, 1) := by decide +kernel
theorem dX0_refusalToSendAway_55 : decode cX0_refusalToSendAway 55 = .ok (.getfield 9, 3) := by decide +kernel
theorem dX0_refusalToSendAway_58 : decode cX0_refusalToSendAway 58 = .ok (.invokevirtual 110, 3) := by decide +kernel
theorem dX0_refusalToSendAway_61 : decode cX0_refusalToSendAway 61 = .ok (.ifCond .ne 7, 3) := by decide +kernel
theorem dX0_refusalToSendAway_64 : decode cX0_refusalToSendAway 64 = .ok (.iconst 1, 1) := by decide +kernel
theorem dX0_refusalToSendAway_65 : decode cX0_refusalToSendAway 65 = .ok (.goto 4, 3) := by decide +kernel
theorem dX0_refusalToSendAway_68 : decode cX0_refusalToSendAway 68 = .ok (.iconst 0, 1) := by decide +kernel
theorem dX0_refusalToSendAway_69 : decode cX0_refusalToSendAway 69 = .ok (.istore 4, 2) := by decide +kernel
theorem dX0_refusalToSendAway_71 : decode cX0_refusalToSendAway 71 = .ok (.iload 4, 2) := by decide +kernel
theorem dX0_refusalToSendAway_73 : decode cX0_refusalToSendAway 73 = .ok (.ifCond .eq 20, 3) := by decide +kernel
theorem dX0_refusalToSendAway_76 : decode cX0_refusalToSendAway 76 = .ok (.aload_n 0, 1) := by decide +kernel
theorem dX0_refusalToSendAway_77 : decode cX0_refusalToSendAway 77 = .ok (.getfield 18, 3) := by decide +kernel
theorem dX0_refusalToSendAway_80 : decode cX0_refusalToSendAway 80 = .ok (.getfield 104, 3) := by decide +kernel
theorem dX0_refusalToSendAway_83 : decode cX0_refusalToSendAway 83 = .ok (.iload_n 1, 1) := by decide +kernel
theorem dX0_refusalToSendAway_84 : decode cX0_refusalToSendAway 84 = .ok (.iaload, 1) := by decide +kernel
theorem dX0_refusalToSendAway_85 : decode cX0_refusalToSendAway 85 = .ok (.iconst (-1), 1) := by decide +kernel
theorem dX0_refusalToSendAway_86 : decode cX0_refusalToSendAway 86 = .ok (.if_icmp .ne 7, 3) := by decide +kernel
theorem dX0_refusalToSendAway_89 : decode cX0_refusalToSendAway 89 = .ok (.iconst 0, 1) := by decide +kernel
theorem dX0_refusalToSendAway_90 : decode cX0_refusalToSendAway 90 = .ok (.goto 4, 3) := by decide +kernel
theorem dX0_refusalToSendAway_93 : decode cX0_refusalToSendAway 93 = .ok (.iconst 3, 1) := by decide +kernel
theorem dX0_refusalToSendAway_94 : decode cX0_refusalToSendAway 94 = .ok (.ireturn, 1) := by decide +kernel
theorem dX0_sendAway_0 : decode cX0_sendAway 0 = .ok (.aload_n 0, 1) := by decide +kernel
theorem dX0_sendAway_1 : decode cX0_sendAway 1 = .ok (.getfield 18, 3) := by decide +kernel
theorem dX0_sendAway_4 : decode cX0_sendAway 4 = .ok (.getfield 113, 3) := by decide +kernel
theorem dX0_sendAway_7 : decode cX0_sendAway 7 = .ok (.iload_n 1, 1) := by decide +kernel
theorem dX0_sendAway_8 : decode cX0_sendAway 8 = .ok (.aload_n 0, 1) := by decide +kernel
theorem dX0_sendAway_9 : decode cX0_sendAway 9 = .ok (.getfield 9, 3) := by decide +kernel
theorem dX0_sendAway_12 : decode cX0_sendAway 12 = .ok (.iload_n 3, 1) := by decide +kernel
theorem dX0_sendAway_13 : decode cX0_sendAway 13 = .ok (.iadd, 1) := by decide +kernel
theorem dX0_sendAway_14 : decode cX0_sendAway 14 = .ok (.iastore, 1) := by decide +kernel
theorem dX0_sendAway_15 : decode cX0_sendAway 15 = .ok (.aload_n 0, 1) := by decide +kernel
theorem dX0_sendAway_16 : decode cX0_sendAway 16 = .ok (.getfield 36, 3) := by decide +kernel
theorem dX0_sendAway_19 : decode cX0_sendAway 19 = .ok (.iload_n 2, 1) := by decide +kernel
theorem dX0_sendAway_20 : decode cX0_sendAway 20 = .ok (.dup2, 1) := by decide +kernel
theorem dX0_sendAway_21 : decode cX0_sendAway 21 = .ok (.iaload, 1) := by decide +kernel
theorem dX0_sendAway_22 : decode cX0_sendAway 22 = .ok (.iconst 1, 1) := by decide +kernel
theorem dX0_sendAway_23 : decode cX0_sendAway 23 = .ok (.iadd, 1) := by decide +kernel
theorem dX0_sendAway_24 : decode cX0_sendAway 24 = .ok (.iastore, 1) := by decide +kernel
theorem dX0_sendAway_25 : decode cX0_sendAway 25 = .ok (.aload_n 0, 1) := by decide +kernel
theorem dX0_sendAway_26 : decode cX0_sendAway 26 = .ok (.dup, 1) := by decide +kernel
theorem dX0_sendAway_27 : decode cX0_sendAway 27 = .ok (.getfield 43, 3) := by decide +kernel
theorem dX0_sendAway_30 : decode cX0_sendAway 30 = .ok (.iconst 2, 1) := by decide +kernel
theorem dX0_sendAway_31 : decode cX0_sendAway 31 = .ok (.iload_n 3, 1) := by decide +kernel
theorem dX0_sendAway_32 : decode cX0_sendAway 32 = .ok (.imul, 1) := by decide +kernel
theorem dX0_sendAway_33 : decode cX0_sendAway 33 = .ok (.iadd, 1) := by decide +kernel
theorem dX0_sendAway_34 : decode cX0_sendAway 34 = .ok (.putfield 43, 3) := by decide +kernel
theorem dX0_sendAway_37 : decode cX0_sendAway 37 = .ok (.aload_n 0, 1) := by decide +kernel
theorem dX0_sendAway_38 : decode cX0_sendAway 38 = .ok (.dup, 1) := by decide +kernel
theorem dX0_sendAway_39 : decode cX0_sendAway 39 = .ok (.getfield 40, 3) := by decide +kernel
theorem dX0_sendAway_42 : decode cX0_sendAway 42 = .ok (.iconst 2, 1) := by decide +kernel
theorem dX0_sendAway_43 : decode cX0_sendAway 43 = .ok (.iload_n 3, 1) := by decide +kernel
theorem dX0_sendAway_44 : decode cX0_sendAway 44 = .ok (.imul, 1) := by decide +kernel
theorem dX0_sendAway_45 : decode cX0_sendAway 45 = .ok (.iadd, 1) := by decide +kernel
theorem dX0_sendAway_46 : decode cX0_sendAway 46 = .ok (.putfield 40, 3) := by decide +kernel
theorem dX0_sendAway_49 : decode cX0_sendAway 49 = .ok (.aload_n 0, 1) := by decide +kernel
theorem dX0_sendAway_50 : decode cX0_sendAway 50 = .ok (.getfield 18, 3) := by decide +kernel
theorem dX0_sendAway_53 : decode cX0_sendAway 53 = .ok (.getfield 113, 3) := by decide +kernel
theorem dX0_sendAway_56 : decode cX0_sendAway 56 = .ok (.iload_n 1, 1) := by decide +kernel
theorem dX0_sendAway_57 : decode cX0_sendAway 57 = .ok (.iaload, 1) := by decide +kernel
theorem dX0_sendAway_58 : decode cX0_sendAway 58 = .ok (.ireturn, 1) := by decide +kernel
set_option maxRecDepth 20000 in
theorem ggX0_refusalToTakeNote_X5_has : GoodIn wsX0_refusalToTakeNote wsX5_has := goodIn_r _ [8, 9, 41, 42, 43, 44, 45, 46, 47, 48, 49, 50, 51, 52] (by decide +kernel) (by decide +kernel)
set_option maxRecDepth 20000 in
theorem gX0_refusalToTakeNote_X5_has : GoodIn wsX0_refusalToTakeNote (wsV RX0 89 RX5 yX5_has wsX5_has) := goodIn_app (goodIn_of _ (by decide +kernel)) ggX0_refusalToTakeNote_X5_has
set_option maxRecDepth 20000 in
theorem ggX0_refusalToTakeNote_X6_isWithin : GoodIn wsX0_refusalToTakeNote wsX6_isWithin := goodIn_r _ [12] (by decide +kernel) (by decide +kernel)
set_option maxRecDepth 20000 in
theorem gX0_refusalToTakeNote_X6_isWithin_n71 : GoodIn wsX0_refusalToTakeNote (wsX6_isWithin) := ggX0_refusalToTakeNote_X6_isWithin
set_option maxRecDepth 20000 in
theorem ggX0_refusalToTakeNote_X4_areFull : GoodIn wsX0_refusalToTakeNote wsX4_areFull := goodIn_r _ [17, 18, 53, 54, 55, 56] (by decide +kernel) (by decide +kernel)
set_option maxRecDepth 20000 in
theorem gX0_refusalToTakeNote_X4_areFull : GoodIn wsX0_refusalToTakeNote (wsV RX0 116 RX4 yX4_areFull wsX4_areFull) := goodIn_app (goodIn_of _ (by decide +kernel)) ggX0_refusalToTakeNote_X4_areFull
set_option maxRecDepth 20000 in
theorem ggX0_refusalToTakeNote_X4_coverAnyOf : GoodIn wsX0_refusalToTakeNote wsX4_coverAnyOf := goodIn_r _ [22, 18, 23, 24, 25, 53, 54, 55, 56] (by decide +kernel) (by decide +kernel)
set_option maxRecDepth 20000 in
theorem gX0_refusalToTakeNote_X4_coverAnyOf : GoodIn wsX0_refusalToTakeNote (wsV RX0 119 RX4 yX4_coverAnyOf wsX4_coverAnyOf) := goodIn_app (goodIn_of _ (by decide +kernel)) ggX0_refusalToTakeNote_X4_coverAnyOf
set_option maxRecDepth 20000 in
theorem ggX0_refusalToTakeNote_X5_hasLeftBy : GoodIn wsX0_refusalToTakeNote wsX5_hasLeftBy := goodIn_r _ [29, 30, 41, 42, 43, 44, 45, 46, 47, 48, 49, 50, 51, 52] (by decide +kernel) (by decide +kernel)
set_option maxRecDepth 20000 in
theorem gX0_refusalToTakeNote_X5_hasLeftBy : GoodIn wsX0_refusalToTakeNote (wsV RX0 93 RX5 yX5_hasLeftBy wsX5_hasLeftBy) := goodIn_app (goodIn_of _ (by decide +kernel)) ggX0_refusalToTakeNote_X5_hasLeftBy
theorem dX0_refusalToTakeNote_0 : decode cX0_refusalToTakeNote 0 = .ok (.aload_n 0, 1) := by decide +kernel
theorem dX0_refusalToTakeNote_1 : decode cX0_refusalToTakeNote 1 = .ok (.getfield 18, 3) := by decide +kernel
theorem dX0_refusalToTakeNote_4 : decode cX0_refusalToTakeNote 4 = .ok (.iload_n 1, 1) := by decide +kernel
theorem dX0_refusalToTakeNote_5 : decode cX0_refusalToTakeNote 5 = .ok (.invokevirtual 89, 3) := by decide +kernel
theorem dX0_refusalToTakeNote_8 : decode cX0_refusalToTakeNote 8 = .ok (.ifCond .ne 5, 3) := by decide +kernel
theorem dX0_refusalToTakeNote_11 : decode cX0_refusalToTakeNote 11 = .ok (.iconst 1, 1) := by decide +kernel
theorem dX0_refusalToTakeNote_12 : decode cX0_refusalToTakeNote 12 = .ok (.ireturn, 1) := by decide +kernel
theorem dX0_refusalToTakeNote_13 : decode cX0_refusalToTakeNote 13 = .ok (.iload_n 2, 1) := by decide +kernel
theorem dX0_refusalToTakeNote_14 : decode cX0_refusalToTakeNote 14 = .ok (.aload_n 0, 1) := by decide +kernel
theorem dX0_refusalToTakeNote_15 : decode cX0_refusalToTakeNote 15 = .ok (.getfield 9, 3) := by decide +kernel
theorem dX0_refusalToTakeNote_18 : decode cX0_refusalToTakeNote 18 = .ok (.iconst 1, 1) := by decide +kernel
theorem dX0_refusalToTakeNote_19 : decode cX0_refusalToTakeNote 19 = .ok (.iadd, 1) := by decide +kernel
theorem dX0_refusalToTakeNote_20 : decode cX0_refusalToTakeNote 20 = .ok (.sipush 9999, 3) := by decide +kernel
theorem dX0_refusalToTakeNote_23 : decode cX0_refusalToTakeNote 23 = .ok (.invokestatic 71, 3) := by decide +kernel
theorem dX0_refusalToTakeNote_26 : decode cX0_refusalToTakeNote 26 = .ok (.ifCond .eq 15, 3) := by decide +kernel
theorem dX0_refusalToTakeNote_29 : decode cX0_refusalToTakeNote 29 = .ok (.iload_n 3, 1) := by decide +kernel
theorem dX0_refusalToTakeNote_30 : decode cX0_refusalToTakeNote 30 = .ok (.iload_n 2, 1) := by decide +kernel
theorem dX0_refusalToTakeNote_31 : decode cX0_refusalToTakeNote 31 = .ok (.iload_n 2, 1) := by decide +kernel
theorem dX0_refusalToTakeNote_32 : decode cX0_refusalToTakeNote 32 = .ok (.bipush 60, 2) := by decide +kernel
theorem dX0_refusalToTakeNote_34 : decode cX0_refusalToTakeNote 34 = .ok (.iadd, 1) := by decide +kernel
theorem dX0_refusalToTakeNote_35 : decode cX0_refusalToTakeNote 35 = .ok (.invokestatic 71, 3) := by decide +kernel
theorem dX0_refusalToTakeNote_38 : decode cX0_refusalToTakeNote 38 = .ok (.ifCond .ne 5, 3) := by decide +kernel
theorem dX0_refusalToTakeNote_41 : decode cX0_refusalToTakeNote 41 = .ok (.iconst 2, 1) := by decide +kernel
theorem dX0_refusalToTakeNote_42 : decode cX0_refusalToTakeNote 42 = .ok (.ireturn, 1) := by decide +kernel
theorem dX0_refusalToTakeNote_43 : decode cX0_refusalToTakeNote 43 = .ok (.aload_n 0, 1) := by decide +kernel
theorem dX0_refusalToTakeNote_44 : decode cX0_refusalToTakeNote 44 = .ok (.getfield 25, 3) := by decide +kernel
theorem dX0_refusalToTakeNote_47 : decode cX0_refusalToTakeNote 47 = .ok (.invokevirtual 116, 3) := by decide +kernel
theorem dX0_refusalToTakeNote_50 : decode cX0_refusalToTakeNote 50 = .ok (.ifCond .ne 20, 3) := by decide +kernel
theorem dX0_refusalToTakeNote_53 : decode cX0_refusalToTakeNote 53 = .ok (.aload_n 0, 1) := by decide +kernel
theorem dX0_refusalToTakeNote_54 : decode cX0_refusalToTakeNote 54 = .ok (.getfield 25, 3) := by decide +kernel
theorem dX0_refusalToTakeNote_57 : decode cX0_refusalToTakeNote 57 = .ok (.iload_n 1, 1) := by decide +kernel
theorem dX0_refusalToTakeNote_58 : decode cX0_refusalToTakeNote 58 = .ok (.iload_n 2, 1) := by decide +kernel
theorem dX0_refusalToTakeNote_59 : decode cX0_refusalToTakeNote 59 = .ok (.iload_n 3, 1) := by decide +kernel
theorem dX0_refusalToTakeNote_60 : decode cX0_refusalToTakeNote 60 = .ok (.invokevirtual 119, 3) := by decide +kernel
theorem dX0_refusalToTakeNote_63 : decode cX0_refusalToTakeNote 63 = .ok (.ifCond .ne 7, 3) := by decide +kernel
theorem dX0_refusalToTakeNote_66 : decode cX0_refusalToTakeNote 66 = .ok (.iconst 1, 1) := by decide +kernel
theorem dX0_refusalToTakeNote_67 : decode cX0_refusalToTakeNote 67 = .ok (.goto 4, 3) := by decide +kernel
theorem dX0_refusalToTakeNote_70 : decode cX0_refusalToTakeNote 70 = .ok (.iconst 0, 1) := by decide +kernel
theorem dX0_refusalToTakeNote_71 : decode cX0_refusalToTakeNote 71 = .ok (.istore 4, 2) := by decide +kernel
theorem dX0_refusalToTakeNote_73 : decode cX0_refusalToTakeNote 73 = .ok (.iload 4, 2) := by decide +kernel
theorem dX0_refusalToTakeNote_75 : decode cX0_refusalToTakeNote 75 = .ok (.ifCond .eq 22, 3) := by decide +kernel
theorem dX0_refusalToTakeNote_78 : decode cX0_refusalToTakeNote 78 = .ok (.aload_n 0, 1) := by decide +kernel
theorem dX0_refusalToTakeNote_79 : decode cX0_refusalToTakeNote 79 = .ok (.getfield 18, 3) := by decide +kernel
theorem dX0_refusalToTakeNote_82 : decode cX0_refusalToTakeNote 82 = .ok (.iload_n 1, 1) := by decide +kernel
theorem dX0_refusalToTakeNote_83 : decode cX0_refusalToTakeNote 83 = .ok (.aload_n 0, 1) := by decide +kernel
theorem dX0_refusalToTakeNote_84 : decode cX0_refusalToTakeNote 84 = .ok (.getfield 9, 3) := by decide +kernel
theorem dX0_refusalToTakeNote_87 : decode cX0_refusalToTakeNote 87 = .ok (.invokevirtual 93, 3) := by decide +kernel
theorem dX0_refusalToTakeNote_90 : decode cX0_refusalToTakeNote 90 = .ok (.ifCond .ne 7, 3) := by decide +kernel
theorem dX0_refusalToTakeNote_93 : decode cX0_refusalToTakeNote 93 = .ok (.iconst 0, 1) := by decide +kernel
theorem dX0_refusalToTakeNote_94 : decode cX0_refusalToTakeNote 94 = .ok (.goto 4, 3) := by decide +kernel
theorem dX0_refusalToTakeNote_97 : decode cX0_refusalToTakeNote 97 = .ok (.iconst 3, 1) := by decide +kernel
theorem dX0_refusalToTakeNote_98 : decode cX0_refusalToTakeNote 98 = .ok (.ireturn, 1) := by decide +kernel
set_option maxRecDepth 20000 in
theorem ggX0_takeNote_X4_add : GoodIn wsX0_takeNote wsX4_add := goodIn_r _ [6, 7, 8, 9, 10, 21, 22, 23, 24] (by decide +kernel) (by decide +kernel)
set_option maxRecDepth 20000 in
theorem gX0_takeNote_X4_add : GoodIn wsX0_takeNote (wsV RX0 122 RX4 yX4_add wsX4_add) := goodIn_app (goodIn_of _ (by decide +kernel)) ggX0_takeNote_X4_add
theorem dX0_takeNote_0 : decode cX0_takeNote 0 = .ok (.aload_n 0, 1) := by decide +kernel
theorem dX0_takeNote_1 : decode cX0_takeNote 1 = .ok (.getfield 25, 3) := by decide +kernel
theorem dX0_takeNote_4 : decode cX0_takeNote 4 = .ok (.iload_n 1, 1) := by decide +kernel
theorem dX0_takeNote_5 : decode cX0_takeNote 5 = .ok (.iload_n 2, 1) := by decide +kernel
theorem dX0_takeNote_6 : decode cX0_takeNote 6 = .ok (.iload_n 3, 1) := by decide +kernel
theorem dX0_takeNote_7 : decode cX0_takeNote 7 = .ok (.invokevirtual 122, 3) := by decide +kernel
theorem dX0_takeNote_10 : decode cX0_takeNote 10 = .ok (.ireturn, 1) := by decide +kernel
set_option maxRecDepth 20000 in
theorem ggX0_refusalToAddFeast_X6_isWithin : GoodIn wsX0_refusalToAddFeast wsX6_isWithin := goodIn_r _ [5] (by decide +kernel) (by decide +kernel)
set_option maxRecDepth 20000 in
theorem gX0_refusalToAddFeast_X6_isWithin_n71 : GoodIn wsX0_refusalToAddFeast (wsX6_isWithin) := ggX0_refusalToAddFeast_X6_isWithin
set_option maxRecDepth 20000 in
theorem ggX0_refusalToAddFeast_X1_isFull : GoodIn wsX0_refusalToAddFeast wsX1_isFull := goodIn_r _ [10, 11, 27, 28, 29, 30, 31, 32, 33, 34] (by decide +kernel) (by decide +kernel)
set_option maxRecDepth 20000 in
theorem gX0_refusalToAddFeast_X1_isFull : GoodIn wsX0_refusalToAddFeast (wsV RX0 125 RX1 yX1_isFull wsX1_isFull) := goodIn_app (goodIn_of _ (by decide +kernel)) ggX0_refusalToAddFeast_X1_isFull
set_option maxRecDepth 20000 in
theorem ggX0_refusalToAddFeast_X1_hasFeastOn : GoodIn wsX0_refusalToAddFeast wsX1_hasFeastOn := goodIn_r _ [15, 11, 16, 27, 28, 29, 30, 31, 32, 33, 34] (by decide +kernel) (by decide +kernel)
set_option maxRecDepth 20000 in
theorem gX0_refusalToAddFeast_X1_hasFeastOn : GoodIn wsX0_refusalToAddFeast (wsV RX0 126 RX1 yX1_hasFeastOn wsX1_hasFeastOn) := goodIn_app (goodIn_of _ (by decide +kernel)) ggX0_refusalToAddFeast_X1_hasFeastOn
theorem dX0_refusalToAddFeast_0 : decode cX0_refusalToAddFeast 0 = .ok (.iload_n 1, 1) := by decide +kernel
theorem dX0_refusalToAddFeast_1 : decode cX0_refusalToAddFeast 1 = .ok (.aload_n 0, 1) := by decide +kernel
theorem dX0_refusalToAddFeast_2 : decode cX0_refusalToAddFeast 2 = .ok (.getfield 9, 3) := by decide +kernel
theorem dX0_refusalToAddFeast_5 : decode cX0_refusalToAddFeast 5 = .ok (.iconst 1, 1) := by decide +kernel
theorem dX0_refusalToAddFeast_6 : decode cX0_refusalToAddFeast 6 = .ok (.iadd, 1) := by decide +kernel
theorem dX0_refusalToAddFeast_7 : decode cX0_refusalToAddFeast 7 = .ok (.sipush 9999, 3) := by decide +kernel
theorem dX0_refusalToAddFeast_10 : decode cX0_refusalToAddFeast 10 = .ok (.invokestatic 71, 3) := by decide +kernel
theorem dX0_refusalToAddFeast_13 : decode cX0_refusalToAddFeast 13 = .ok (.ifCond .eq 12, 3) := by decide +kernel
theorem dX0_refusalToAddFeast_16 : decode cX0_refusalToAddFeast 16 = .ok (.iload_n 2, 1) := by decide +kernel
theorem dX0_refusalToAddFeast_17 : decode cX0_refusalToAddFeast 17 = .ok (.iconst 1, 1) := by decide +kernel
theorem dX0_refusalToAddFeast_18 : decode cX0_refusalToAddFeast 18 = .ok (.iconst 3, 1) := by decide +kernel
theorem dX0_refusalToAddFeast_19 : decode cX0_refusalToAddFeast 19 = .ok (.invokestatic 71, 3) := by decide +kernel
theorem dX0_refusalToAddFeast_22 : decode cX0_refusalToAddFeast 22 = .ok (.ifCond .ne 5, 3) := by decide +kernel
theorem dX0_refusalToAddFeast_25 : decode cX0_refusalToAddFeast 25 = .ok (.iconst 2, 1) := by decide +kernel
theorem dX0_refusalToAddFeast_26 : decode cX0_refusalToAddFeast 26 = .ok (.ireturn, 1) := by decide +kernel
theorem dX0_refusalToAddFeast_27 : decode cX0_refusalToAddFeast 27 = .ok (.aload_n 0, 1) := by decide +kernel
theorem dX0_refusalToAddFeast_28 : decode cX0_refusalToAddFeast 28 = .ok (.getfield 32, 3) := by decide +kernel
theorem dX0_refusalToAddFeast_31 : decode cX0_refusalToAddFeast 31 = .ok (.invokevirtual 125, 3) := by decide +kernel
theorem dX0_refusalToAddFeast_34 : decode cX0_refusalToAddFeast 34 = .ok (.ifCond .ne 14, 3) := by decide +kernel
theorem dX0_refusalToAddFeast_37 : decode cX0_refusalToAddFeast 37 = .ok (.aload_n 0, 1) := by decide +kernel
theorem dX0_refusalToAddFeast_38 : decode cX0_refusalToAddFeast 38 = .ok (.getfield 32, 3) := by decide +kernel
theorem dX0_refusalToAddFeast_41 : decode cX0_refusalToAddFeast 41 = .ok (.iload_n 1, 1) := by decide +kernel
theorem dX0_refusalToAddFeast_42 : decode cX0_refusalToAddFeast 42 = .ok (.invokevirtual 126, 3) := by decide +kernel
theorem dX0_refusalToAddFeast_45 : decode cX0_refusalToAddFeast 45 = .ok (.ifCond .eq 7, 3) := by decide +kernel
theorem dX0_refusalToAddFeast_48 : decode cX0_refusalToAddFeast 48 = .ok (.iconst 3, 1) := by decide +kernel
theorem dX0_refusalToAddFeast_49 : decode cX0_refusalToAddFeast 49 = .ok (.goto 4, 3) := by decide +kernel
theorem dX0_refusalToAddFeast_52 : decode cX0_refusalToAddFeast 52 = .ok (.iconst 0, 1) := by decide +kernel
theorem dX0_refusalToAddFeast_53 : decode cX0_refusalToAddFeast 53 = .ok (.ireturn, 1) := by decide +kernel
set_option maxRecDepth 20000 in
theorem ggX0_addFeast_X1_add : GoodIn wsX0_addFeast wsX1_add := goodIn_r _ [6, 7, 8, 9, 10, 11, 12, 13, 14, 15, 16, 27, 28, 29, 30, 31, 32, 33, 34] (by decide +kernel) (by decide +kernel)
set_option maxRecDepth 20000 in
theorem gX0_addFeast_X1_add : GoodIn wsX0_addFeast (wsV RX0 129 RX1 yX1_add wsX1_add) := goodIn_app (goodIn_of _ (by decide +kernel)) ggX0_addFeast_X1_add
theorem dX0_addFeast_0 : decode cX0_addFeast 0 = .ok (.aload_n 0, 1) := by decide +kernel
theorem dX0_addFeast_1 : decode cX0_addFeast 1 = .ok (.getfield 32, 3) := by decide +kernel
theorem dX0_addFeast_4 : decode cX0_addFeast 4 = .ok (.iload_n 1, 1) := by decide +kernel
theorem dX0_addFeast_5 : decode cX0_addFeast 5 = .ok (.iload_n 2, 1) := by decide +kernel
theorem dX0_addFeast_6 : decode cX0_addFeast 6 = .ok (.invokevirtual 129, 3) := by decide +kernel
theorem dX0_addFeast_9 : decode cX0_addFeast 9 = .ok (.ireturn, 1) := by decide +kernel
set_option maxRecDepth 20000 in
theorem ggX0_refusalToArrange_X1_has : GoodIn wsX0_refusalToArrange wsX1_has := goodIn_r _ [6, 7, 33, 34, 35, 36, 37, 38, 39, 40] (by decide +kernel) (by decide +kernel)
set_option maxRecDepth 20000 in
theorem gX0_refusalToArrange_X1_has : GoodIn wsX0_refusalToArrange (wsV RX0 132 RX1 yX1_has wsX1_has) := goodIn_app (goodIn_of _ (by decide +kernel)) ggX0_refusalToArrange_X1_has
set_option maxRecDepth 20000 in
theorem ggX0_refusalToArrange_X6_isLine : GoodIn wsX0_refusalToArrange wsX6_isLine := goodIn_r _ [10, 11, 12, 9, 13] (by decide +kernel) (by decide +kernel)
set_option maxRecDepth 20000 in
theorem gX0_refusalToArrange_X6_isLine_n133 : GoodIn wsX0_refusalToArrange (wsX6_isLine) := ggX0_refusalToArrange_X6_isLine
set_option maxRecDepth 20000 in
theorem ggX0_refusalToArrange_X6_isWithin : GoodIn wsX0_refusalToArrange wsX6_isWithin := goodIn_r _ [13] (by decide +kernel) (by decide +kernel)
set_option maxRecDepth 20000 in
theorem gX0_refusalToArrange_X6_isWithin_n71 : GoodIn wsX0_refusalToArrange (wsX6_isWithin) := ggX0_refusalToArrange_X6_isWithin
set_option maxRecDepth 20000 in
theorem ggX0_refusalToArrange_X6_isRange : GoodIn wsX0_refusalToArrange wsX6_isRange := goodIn_r _ [15, 11, 12, 9, 13] (by decide +kernel) (by decide +kernel)
set_option maxRecDepth 20000 in
theorem gX0_refusalToArrange_X6_isRange_n136 : GoodIn wsX0_refusalToArrange (wsX6_isRange) := ggX0_refusalToArrange_X6_isRange
set_option maxRecDepth 20000 in
theorem ggX0_refusalToArrange_X0_hasHeld : GoodIn wsX0_refusalToArrange wsX0_hasHeld := goodIn_r _ [20, 1, 21, 22, 23, 24, 25, 26, 27, 28, 29, 30, 31, 32, 33, 34, 35, 36, 37, 38, 39, 40] (by decide +kernel) (by decide +kernel)
set_option maxRecDepth 20000 in
theorem gX0_refusalToArrange_X0_hasHeld : GoodIn wsX0_refusalToArrange (wsV RX0 139 RX0 yX0_hasHeld wsX0_hasHeld) := goodIn_app (goodIn_of _ (by decide +kernel)) ggX0_refusalToArrange_X0_hasHeld
theorem dX0_refusalToArrange_0 : decode cX0_refusalToArrange 0 = .ok (.aload_n 0, 1) := by decide +kernel
theorem dX0_refusalToArrange_1 : decode cX0_refusalToArrange 1 = .ok (.getfield 32, 3) := by decide +kernel
theorem dX0_refusalToArrange_4 : decode cX0_refusalToArrange 4 = .ok (.iload_n 1, 1) := by decide +kernel
theorem dX0_refusalToArrange_5 : decode cX0_refusalToArrange 5 = .ok (.invokevirtual 132, 3) := by decide +kernel
theorem dX0_refusalToArrange_8 : decode cX0_refusalToArrange 8 = .ok (.ifCond .eq 10, 3) := by decide +kernel
theorem dX0_refusalToArrange_11 : decode cX0_refusalToArrange 11 = .ok (.iload_n 2, 1) := by decide +kernel
theorem dX0_refusalToArrange_12 : decode cX0_refusalToArrange 12 = .ok (.invokestatic 133, 3) := by decide +kernel
theorem dX0_refusalToArrange_15 : decode cX0_refusalToArrange 15 = .ok (.ifCond .ne 5, 3) := by decide +kernel
theorem dX0_refusalToArrange_18 : decode cX0_refusalToArrange 18 = .ok (.iconst 1, 1) := by decide +kernel
theorem dX0_refusalToArrange_19 : decode cX0_refusalToArrange 19 = .ok (.ireturn, 1) := by decide +kernel
theorem dX0_refusalToArrange_20 : decode cX0_refusalToArrange 20 = .ok (.iload_n 3, 1) := by decide +kernel
theorem dX0_refusalToArrange_21 : decode cX0_refusalToArrange 21 = .ok (.iconst 0, 1) := by decide +kernel
theorem dX0_refusalToArrange_22 : decode cX0_refusalToArrange 22 = .ok (.bipush 6, 2) := by decide +kernel
theorem dX0_refusalToArrange_24 : decode cX0_refusalToArrange 24 = .ok (.invokestatic 71, 3) := by decide +kernel
theorem dX0_refusalToArrange_27 : decode cX0_refusalToArrange 27 = .ok (.ifCond .eq 13, 3) := by decide +kernel
theorem dX0_refusalToArrange_30 : decode cX0_refusalToArrange 30 = .ok (.iload 4, 2) := by decide +kernel
theorem dX0_refusalToArrange_32 : decode cX0_refusalToArrange 32 = .ok (.iload 5, 2) := by decide +kernel
theorem dX0_refusalToArrange_34 : decode cX0_refusalToArrange 34 = .ok (.invokestatic 136, 3) := by decide +kernel
theorem dX0_refusalToArrange_37 : decode cX0_refusalToArrange 37 = .ok (.ifCond .ne 5, 3) := by decide +kernel
theorem dX0_refusalToArrange_40 : decode cX0_refusalToArrange 40 = .ok (.iconst 2, 1) := by decide +kernel
theorem dX0_refusalToArrange_41 : decode cX0_refusalToArrange 41 = .ok (.ireturn, 1) := by decide +kernel
theorem dX0_refusalToArrange_42 : decode cX0_refusalToArrange 42 = .ok (.aload_n 0, 1) := by decide +kernel
theorem dX0_refusalToArrange_43 : decode cX0_refusalToArrange 43 = .ok (.iload_n 1, 1) := by decide +kernel
theorem dX0_refusalToArrange_44 : decode cX0_refusalToArrange 44 = .ok (.invokevirtual 139, 3) := by decide +kernel
theorem dX0_refusalToArrange_47 : decode cX0_refusalToArrange 47 = .ok (.ifCond .eq 7, 3) := by decide +kernel
theorem dX0_refusalToArrange_50 : decode cX0_refusalToArrange 50 = .ok (.iconst 3, 1) := by decide +kernel
theorem dX0_refusalToArrange_51 : decode cX0_refusalToArrange 51 = .ok (.goto 4, 3) := by decide +kernel
theorem dX0_refusalToArrange_54 : decode cX0_refusalToArrange 54 = .ok (.iconst 0, 1) := by decide +kernel
theorem dX0_refusalToArrange_55 : decode cX0_refusalToArrange 55 = .ok (.ireturn, 1) := by decide +kernel
set_option maxRecDepth 20000 in
theorem ggX0_arrange_X1_allPlaces : GoodIn wsX0_arrange wsX1_allPlaces := goodIn_r _ [9, 10, 21, 22, 23, 24, 25, 26, 27, 28] (by decide +kernel) (by decide +kernel)
set_option maxRecDepth 20000 in
theorem gX0_arrange_X1_allPlaces : GoodIn wsX0_arrange (wsV RX0 152 RX1 yX1_allPlaces wsX1_allPlaces) := goodIn_app (goodIn_of _ (by decide +kernel)) ggX0_arrange_X1_allPlaces
theorem dX0_arrange_0 : decode cX0_arrange 0 = .ok (.aload_n 0, 1) := by decide +kernel
theorem dX0_arrange_1 : decode cX0_arrange 1 = .ok (.getfield 32, 3) := by decide +kernel
theorem dX0_arrange_4 : decode cX0_arrange 4 = .ok (.getfield 142, 3) := by decide +kernel
theorem dX0_arrange_7 : decode cX0_arrange 7 = .ok (.iload_n 1, 1) := by decide +kernel
theorem dX0_arrange_8 : decode cX0_arrange 8 = .ok (.aaload, 1) := by decide +kernel
theorem dX0_arrange_9 : decode cX0_arrange 9 = .ok (.iload_n 2, 1) := by decide +kernel
theorem dX0_arrange_10 : decode cX0_arrange 10 = .ok (.iload_n 3, 1) := by decide +kernel
theorem dX0_arrange_11 : decode cX0_arrange 11 = .ok (.iastore, 1) := by decide +kernel
theorem dX0_arrange_12 : decode cX0_arrange 12 = .ok (.aload_n 0, 1) := by decide +kernel
theorem dX0_arrange_13 : decode cX0_arrange 13 = .ok (.getfield 32, 3) := by decide +kernel
theorem dX0_arrange_16 : decode cX0_arrange 16 = .ok (.getfield 146, 3) := by decide +kernel
theorem dX0_arrange_19 : decode cX0_arrange 19 = .ok (.iload_n 1, 1) := by decide +kernel
theorem dX0_arrange_20 : decode cX0_arrange 20 = .ok (.aaload, 1) := by decide +kernel
theorem dX0_arrange_21 : decode cX0_arrange 21 = .ok (.iload_n 2, 1) := by decide +kernel
theorem dX0_arrange_22 : decode cX0_arrange 22 = .ok (.iload 4, 2) := by decide +kernel
theorem dX0_arrange_24 : decode cX0_arrange 24 = .ok (.iastore, 1) := by decide +kernel
theorem dX0_arrange_25 : decode cX0_arrange 25 = .ok (.aload_n 0, 1) := by decide +kernel
theorem dX0_arrange_26 : decode cX0_arrange 26 = .ok (.getfield 32, 3) := by decide +kernel
theorem dX0_arrange_29 : decode cX0_arrange 29 = .ok (.getfield 149, 3) := by decide +kernel
theorem dX0_arrange_32 : decode cX0_arrange 32 = .ok (.iload_n 1, 1) := by decide +kernel
theorem dX0_arrange_33 : decode cX0_arrange 33 = .ok (.aaload, 1) := by decide +kernel
theorem dX0_arrange_34 : decode cX0_arrange 34 = .ok (.iload_n 2, 1) := by decide +kernel
theorem dX0_arrange_35 : decode cX0_arrange 35 = .ok (.iload 5, 2) := by decide +kernel
theorem dX0_arrange_37 : decode cX0_arrange 37 = .ok (.iastore, 1) := by decide +kernel
theorem dX0_arrange_38 : decode cX0_arrange 38 = .ok (.aload_n 0, 1) := by decide +kernel
theorem dX0_arrange_39 : decode cX0_arrange 39 = .ok (.getfield 32, 3) := by decide +kernel
theorem dX0_arrange_42 : decode cX0_arrange 42 = .ok (.iload_n 1, 1) := by decide +kernel
theorem dX0_arrange_43 : decode cX0_arrange 43 = .ok (.invokevirtual 152, 3) := by decide +kernel
theorem dX0_arrange_46 : decode cX0_arrange 46 = .ok (.ireturn, 1) := by decide +kernel
set_option maxRecDepth 20000 in
theorem ggX0_refusalToAdvance_X6_isWithin : GoodIn wsX0_refusalToAdvance wsX6_isWithin := goodIn_r _ [4] (by decide +kernel) (by decide +kernel)
set_option maxRecDepth 20000 in
theorem gX0_refusalToAdvance_X6_isWithin_n71 : GoodIn wsX0_refusalToAdvance (wsX6_isWithin) := ggX0_refusalToAdvance_X6_isWithin
theorem dX0_refusalToAdvance_0 : decode cX0_refusalToAdvance 0 = .ok (.iload_n 1, 1) := by decide +kernel
theorem dX0_refusalToAdvance_1 : decode cX0_refusalToAdvance 1 = .ok (.iconst 1, 1) := by decide +kernel
theorem dX0_refusalToAdvance_2 : decode cX0_refusalToAdvance 2 = .ok (.bipush 99, 2) := by decide +kernel
theorem dX0_refusalToAdvance_4 : decode cX0_refusalToAdvance 4 = .ok (.invokestatic 71, 3) := by decide +kernel
theorem dX0_refusalToAdvance_7 : decode cX0_refusalToAdvance 7 = .ok (.ifCond .ne 5, 3) := by decide +kernel
theorem dX0_refusalToAdvance_10 : decode cX0_refusalToAdvance 10 = .ok (.iconst 2, 1) := by decide +kernel
theorem dX0_refusalToAdvance_11 : decode cX0_refusalToAdvance 11 = .ok (.ireturn, 1) := by decide +kernel
theorem dX0_refusalToAdvance_12 : decode cX0_refusalToAdvance 12 = .ok (.aload_n 0, 1) := by decide +kernel
theorem dX0_refusalToAdvance_13 : decode cX0_refusalToAdvance 13 = .ok (.getfield 9, 3) := by decide +kernel
theorem dX0_refusalToAdvance_16 : decode cX0_refusalToAdvance 16 = .ok (.iload_n 1, 1) := by decide +kernel
theorem dX0_refusalToAdvance_17 : decode cX0_refusalToAdvance 17 = .ok (.iadd, 1) := by decide +kernel
theorem dX0_refusalToAdvance_18 : decode cX0_refusalToAdvance 18 = .ok (.sipush 9999, 3) := by decide +kernel
theorem dX0_refusalToAdvance_21 : decode cX0_refusalToAdvance 21 = .ok (.if_icmp .le 7, 3) := by decide +kernel
theorem dX0_refusalToAdvance_24 : decode cX0_refusalToAdvance 24 = .ok (.iconst 3, 1) := by decide +kernel
theorem dX0_refusalToAdvance_25 : decode cX0_refusalToAdvance 25 = .ok (.goto 4, 3) := by decide +kernel
theorem dX0_refusalToAdvance_28 : decode cX0_refusalToAdvance 28 = .ok (.iconst 0, 1) := by decide +kernel
theorem dX0_refusalToAdvance_29 : decode cX0_refusalToAdvance 29 = .ok (.ireturn, 1) := by decide +kernel
set_option maxRecDepth 20000 in
theorem ggX0_advance_X1_nextAfter : GoodIn wsX0_advance wsX1_nextAfter := goodIn_r _ [8, 9, 10, 164, 165, 166, 167, 168, 169, 170, 171] (by decide +kernel) (by decide +kernel)
set_option maxRecDepth 20000 in
theorem gX0_advance_X1_nextAfter : GoodIn wsX0_advance (wsV RX0 155 RX1 yX1_nextAfter wsX1_nextAfter) := goodIn_app (goodIn_of _ (by decide +kernel)) ggX0_advance_X1_nextAfter
set_option maxRecDepth 20000 in
theorem ggX0_advance_X3_make_q1 : GoodIn wsX0_advance ([Cond.code yX3_make cX3_make 6 none]) := goodIn_r _ [15] (by decide +kernel) (by decide +kernel)
set_option maxRecDepth 20000 in
theorem ggX0_advance_X3_make_q2 : GoodIn wsX0_advance (wsX3_make_r1) := goodIn_r _ [16, 17, 18, 19, 20, 21, 22, 23, 24, 25, 26, 27, 28, 29, 14, 30, 31, 32, 33, 34, 35, 36, 37, 38] (by decide +kernel) (by decide +kernel)
set_option maxRecDepth 20000 in
theorem ggX0_advance_X3_make_q3 : GoodIn wsX0_advance (wsX3_make_r2) := goodIn_r _ [39, 40, 41, 42, 43, 44, 45, 46, 47, 48, 49, 50, 51, 52, 53, 54, 55, 56, 57, 58, 59, 60, 61, 62] (by decide +kernel) (by decide +kernel)
set_option maxRecDepth 20000 in
theorem ggX0_advance_X3_make_q4 : GoodIn wsX0_advance (wsX3_make_r3) := goodIn_r _ [63, 64, 65, 66, 67, 2, 3, 68, 69, 70, 71, 72, 73, 74, 75, 76, 77, 78, 79, 80, 81, 82, 83, 84] (by decide +kernel) (by decide +kernel)
set_option maxRecDepth 20000 in
theorem ggX0_advance_X3_make_q5 : GoodIn wsX0_advance (wsX3_make_r4) := goodIn_r _ [85, 86, 87, 88, 89, 90, 91, 92, 93, 94, 95, 96, 97, 98, 99, 100, 101, 102, 103, 104, 105, 106, 107, 108] (by decide +kernel) (by decide +kernel)
set_option maxRecDepth 20000 in
theorem ggX0_advance_X3_make_q6 : GoodIn wsX0_advance (wsX3_make_r5) := goodIn_r _ [109, 110] (by decide +kernel) (by decide +kernel)
set_option maxRecDepth 20000 in
theorem ggX0_advance_X3_make_q7 : GoodIn wsX0_advance (wsX30) := goodIn_r _ [172, 173, 174, 175, 176] (by decide +kernel) (by decide +kernel)
set_option maxRecDepth 20000 in
theorem ggX0_advance_X3_make_q8 : GoodIn wsX0_advance (wsX00) := goodIn_r _ [154, 155, 156, 157, 158, 159, 160, 161, 162, 163] (by decide +kernel) (by decide +kernel)
set_option maxRecDepth 20000 in
theorem ggX0_advance_X3_make_q9 : GoodIn wsX0_advance (wsX10) := goodIn_r _ [164, 165, 166, 167, 168, 169, 170, 171] (by decide +kernel) (by decide +kernel)
set_option maxRecDepth 20000 in
theorem ggX0_advance_X3_make_q10 : GoodIn wsX0_advance (wsX50) := goodIn_r _ [177, 178, 179, 180, 181, 182, 183, 184, 185, 186, 187, 188] (by decide +kernel) (by decide +kernel)
set_option maxRecDepth 20000 in
theorem ggX0_advance_X3_make_q11 : GoodIn wsX0_advance (wsX40) := goodIn_r _ [189, 190, 191, 192] (by decide +kernel) (by decide +kernel)
theorem ggX0_advance_X3_make : GoodIn wsX0_advance wsX3_make := (goodIn_app (a := [Cond.code yX3_make cX3_make 6 none]) ggX0_advance_X3_make_q1 (goodIn_app (goodIn_app (goodIn_app (goodIn_app (goodIn_app (goodIn_app ggX0_advance_X3_make_q2 (goodIn_app ggX0_advance_X3_make_q3 (goodIn_app ggX0_advance_X3_make_q4 (goodIn_app ggX0_advance_X3_make_q5 ggX0_advance_X3_make_q6)))) ggX0_advance_X3_make_q7) ggX0_advance_X3_make_q8) ggX0_advance_X3_make_q9) ggX0_advance_X3_make_q10) ggX0_advance_X3_make_q11))
set_option maxRecDepth 20000 in
theorem gX0_advance_X3_make : GoodIn wsX0_advance (wsV RX0 160 RX3 yX3_make wsX3_make) := goodIn_app (goodIn_of _ (by decide +kernel)) ggX0_advance_X3_make
set_option maxRecDepth 20000 in
theorem ggX0_advance_X0_enterLineup_q1 : GoodIn wsX0_advance ([Cond.code yX0_enterLineup cX0_enterLineup 5 none]) := goodIn_r _ [114] (by decide +kernel) (by decide +kernel)
set_option maxRecDepth 20000 in
theorem ggX0_advance_X0_enterLineup_q2 : GoodIn wsX0_advance (wsX0_enterLineup_r1) := goodIn_r _ [37, 115, 2, 116, 117, 118, 119, 21, 22, 23, 120, 121, 122, 123, 124, 14, 125, 25, 16, 126, 127, 128, 42, 129] (by decide +kernel) (by decide +kernel)
set_option maxRecDepth 20000 in
theorem ggX0_advance_X0_enterLineup_q3 : GoodIn wsX0_advance (wsX0_enterLineup_r2) := goodIn_r _ [130] (by decide +kernel) (by decide +kernel)
set_option maxRecDepth 20000 in
theorem ggX0_advance_X0_enterLineup_q4 : GoodIn wsX0_advance (wsX00) := goodIn_r _ [154, 155, 156, 157, 158, 159, 160, 161, 162, 163] (by decide +kernel) (by decide +kernel)
set_option maxRecDepth 20000 in
theorem ggX0_advance_X0_enterLineup_q5 : GoodIn wsX0_advance (wsX50) := goodIn_r _ [177, 178, 179, 180, 181, 182, 183, 184, 185, 186, 187, 188] (by decide +kernel) (by decide +kernel)
set_option maxRecDepth 20000 in
theorem ggX0_advance_X0_enterLineup_q6 : GoodIn wsX0_advance (wsX10) := goodIn_r _ [164, 165, 166, 167, 168, 169, 170, 171] (by decide +kernel) (by decide +kernel)
set_option maxRecDepth 20000 in
theorem ggX0_advance_X0_enterLineup_q7 : GoodIn wsX0_advance (wsX30) := goodIn_r _ [172, 173, 174, 175, 176] (by decide +kernel) (by decide +kernel)
theorem ggX0_advance_X0_enterLineup : GoodIn wsX0_advance wsX0_enterLineup := (goodIn_app (a := [Cond.code yX0_enterLineup cX0_enterLineup 5 none]) ggX0_advance_X0_enterLineup_q1 (goodIn_app (goodIn_app (goodIn_app (goodIn_app (goodIn_app ggX0_advance_X0_enterLineup_q2 ggX0_advance_X0_enterLineup_q3) ggX0_advance_X0_enterLineup_q4) ggX0_advance_X0_enterLineup_q5) ggX0_advance_X0_enterLineup_q6) ggX0_advance_X0_enterLineup_q7))
set_option maxRecDepth 20000 in
theorem gX0_advance_X0_enterLineup : GoodIn wsX0_advance (wsV RX0 166 RX0 yX0_enterLineup wsX0_enterLineup) := goodIn_app (goodIn_of _ (by decide +kernel)) ggX0_advance_X0_enterLineup
set_option maxRecDepth 20000 in
theorem ggX0_advance_X0_settleAccounts_q1 : GoodIn wsX0_advance ([Cond.code yX0_settleAccounts cX0_settleAccounts 6 none]) := goodIn_r _ [134] (by decide +kernel) (by decide +kernel)
set_option maxRecDepth 20000 in
theorem ggX0_advance_X0_settleAccounts_q2 : GoodIn wsX0_advance (wsX0_settleAccounts_r1) := goodIn_r _ [37, 120, 117, 135, 2, 136, 137, 138, 139, 140, 141, 142, 143, 14, 144, 145, 146, 147, 148, 16, 149, 150, 151, 7] (by decide +kernel) (by decide +kernel)
set_option maxRecDepth 20000 in
theorem ggX0_advance_X0_settleAccounts_q3 : GoodIn wsX0_advance (wsX0_settleAccounts_r2) := goodIn_r _ [152, 153] (by decide +kernel) (by decide +kernel)
set_option maxRecDepth 20000 in
theorem ggX0_advance_X0_settleAccounts_q4 : GoodIn wsX0_advance (wsX00) := goodIn_r _ [154, 155, 156, 157, 158, 159, 160, 161, 162, 163] (by decide +kernel) (by decide +kernel)
set_option maxRecDepth 20000 in
theorem ggX0_advance_X0_settleAccounts_q5 : GoodIn wsX0_advance (wsX50) := goodIn_r _ [177, 178, 179, 180, 181, 182, 183, 184, 185, 186, 187, 188] (by decide +kernel) (by decide +kernel)
set_option maxRecDepth 20000 in
theorem ggX0_advance_X0_settleAccounts_q6 : GoodIn wsX0_advance (wsX30) := goodIn_r _ [172, 173, 174, 175, 176] (by decide +kernel) (by decide +kernel)
set_option maxRecDepth 20000 in
theorem ggX0_advance_X0_settleAccounts_q7 : GoodIn wsX0_advance (wsX10) := goodIn_r _ [164, 165, 166, 167, 168, 169, 170, 171] (by decide +kernel) (by decide +kernel)
theorem ggX0_advance_X0_settleAccounts : GoodIn wsX0_advance wsX0_settleAccounts := (goodIn_app (a := [Cond.code yX0_settleAccounts cX0_settleAccounts 6 none]) ggX0_advance_X0_settleAccounts_q1 (goodIn_app (goodIn_app (goodIn_app (goodIn_app (goodIn_app ggX0_advance_X0_settleAccounts_q2 ggX0_advance_X0_settleAccounts_q3) ggX0_advance_X0_settleAccounts_q4) ggX0_advance_X0_settleAccounts_q5) ggX0_advance_X0_settleAccounts_q6) ggX0_advance_X0_settleAccounts_q7))
set_option maxRecDepth 20000 in
theorem gX0_advance_X0_settleAccounts : GoodIn wsX0_advance (wsV RX0 170 RX0 yX0_settleAccounts wsX0_settleAccounts) := goodIn_app (goodIn_of _ (by decide +kernel)) ggX0_advance_X0_settleAccounts
theorem dX0_advance_0 : decode cX0_advance 0 = .ok (.aload_n 0, 1) := by decide +kernel
theorem dX0_advance_1 : decode cX0_advance 1 = .ok (.getfield 9, 3) := by decide +kernel
theorem dX0_advance_4 : decode cX0_advance 4 = .ok (.iload_n 1, 1) := by decide +kernel
theorem dX0_advance_5 : decode cX0_advance 5 = .ok (.iadd, 1) := by decide +kernel
theorem dX0_advance_6 : decode cX0_advance 6 = .ok (.istore_n 3, 1) := by decide +kernel
theorem dX0_advance_7 : decode cX0_advance 7 = .ok (.iconst 0, 1) := by decide +kernel
theorem dX0_advance_8 : decode cX0_advance 8 = .ok (.istore 4, 2) := by decide +kernel
theorem dX0_advance_10 : decode cX0_advance 10 = .ok (.aload_n 0, 1) := by decide +kernel
theorem dX0_advance_11 : decode cX0_advance 11 = .ok (.getfield 32, 3) := by decide +kernel
theorem dX0_advance_14 : decode cX0_advance 14 = .ok (.aload_n 0, 1) := by decide +kernel
theorem dX0_advance_15 : decode cX0_advance 15 = .ok (.getfield 9, 3) := by decide +kernel
theorem dX0_advance_18 : decode cX0_advance 18 = .ok (.invokevirtual 155, 3) := by decide +kernel
theorem dX0_advance_21 : decode cX0_advance 21 = .ok (.istore 5, 2) := by decide +kernel
theorem dX0_advance_23 : decode cX0_advance 23 = .ok (.iconst 0, 1) := by decide +kernel
theorem dX0_advance_24 : decode cX0_advance 24 = .ok (.istore 6, 2) := by decide +kernel
theorem dX0_advance_26 : decode cX0_advance 26 = .ok (.iload 6, 2) := by decide +kernel
theorem dX0_advance_28 : decode cX0_advance 28 = .ok (.bipush 20, 2) := by decide +kernel
theorem dX0_advance_30 : decode cX0_advance 30 = .ok (.if_icmp .ge 80, 3) := by decide +kernel
theorem dX0_advance_33 : decode cX0_advance 33 = .ok (.iload 5, 2) := by decide +kernel
theorem dX0_advance_35 : decode cX0_advance 35 = .ok (.iconst (-1), 1) := by decide +kernel
theorem dX0_advance_36 : decode cX0_advance 36 = .ok (.if_icmp .eq 74, 3) := by decide +kernel
theorem dX0_advance_39 : decode cX0_advance 39 = .ok (.aload_n 0, 1) := by decide +kernel
theorem dX0_advance_40 : decode cX0_advance 40 = .ok (.getfield 32, 3) := by decide +kernel
theorem dX0_advance_43 : decode cX0_advance 43 = .ok (.getfield 158, 3) := by decide +kernel
theorem dX0_advance_46 : decode cX0_advance 46 = .ok (.iload 5, 2) := by decide +kernel
theorem dX0_advance_48 : decode cX0_advance 48 = .ok (.iaload, 1) := by decide +kernel
theorem dX0_advance_49 : decode cX0_advance 49 = .ok (.iload_n 3, 1) := by decide +kernel
theorem dX0_advance_50 : decode cX0_advance 50 = .ok (.if_icmp .gt 60, 3) := by decide +kernel
theorem dX0_advance_53 : decode cX0_advance 53 = .ok (.aload_n 0, 1) := by decide +kernel
theorem dX0_advance_54 : decode cX0_advance 54 = .ok (.aload_n 0, 1) := by decide +kernel
theorem dX0_advance_55 : decode cX0_advance 55 = .ok (.getfield 32, 3) := by decide +kernel
theorem dX0_advance_58 : decode cX0_advance 58 = .ok (.getfield 158, 3) := by decide +kernel
theorem dX0_advance_61 : decode cX0_advance 61 = .ok (.iload 5, 2) := by decide +kernel
theorem dX0_advance_63 : decode cX0_advance 63 = .ok (.iaload, 1) := by decide +kernel
theorem dX0_advance_64 : decode cX0_advance 64 = .ok (.putfield 9, 3) := by decide +kernel
theorem dX0_advance_67 : decode cX0_advance 67 = .ok (.aload_n 2, 1) := by decide +kernel
theorem dX0_advance_68 : decode cX0_advance 68 = .ok (.aload_n 0, 1) := by decide +kernel
theorem dX0_advance_69 : decode cX0_advance 69 = .ok (.iload 5, 2) := by decide +kernel
theorem dX0_advance_71 : decode cX0_advance 71 = .ok (.invokevirtual 160, 3) := by decide +kernel
theorem dX0_advance_74 : decode cX0_advance 74 = .ok (.aload_n 0, 1) := by decide +kernel
theorem dX0_advance_75 : decode cX0_advance 75 = .ok (.iload 5, 2) := by decide +kernel
theorem dX0_advance_77 : decode cX0_advance 77 = .ok (.aload_n 2, 1) := by decide +kernel
theorem dX0_advance_78 : decode cX0_advance 78 = .ok (.invokevirtual 166, 3) := by decide +kernel
theorem dX0_advance_81 : decode cX0_advance 81 = .ok (.aload_n 0, 1) := by decide +kernel
theorem dX0_advance_82 : decode cX0_advance 82 = .ok (.iload 5, 2) := by decide +kernel
theorem dX0_advance_84 : decode cX0_advance 84 = .ok (.aload_n 2, 1) := by decide +kernel
theorem dX0_advance_85 : decode cX0_advance 85 = .ok (.invokevirtual 170, 3) := by decide +kernel
theorem dX0_advance_88 : decode cX0_advance 88 = .ok (.iinc 4 1, 3) := by decide +kernel
theorem dX0_advance_91 : decode cX0_advance 91 = .ok (.aload_n 0, 1) := by decide +kernel
theorem dX0_advance_92 : decode cX0_advance 92 = .ok (.getfield 32, 3) := by decide +kernel
theorem dX0_advance_95 : decode cX0_advance 95 = .ok (.aload_n 0, 1) := by decide +kernel
theorem dX0_advance_96 : decode cX0_advance 96 = .ok (.getfield 9, 3) := by decide +kernel
theorem dX0_advance_99 : decode cX0_advance 99 = .ok (.invokevirtual 155, 3) := by decide +kernel
theorem dX0_advance_102 : decode cX0_advance 102 = .ok (.istore 5, 2) := by decide +kernel
theorem dX0_advance_104 : decode cX0_advance 104 = .ok (.iinc 6 1, 3) := by decide +kernel
theorem dX0_advance_107 : decode cX0_advance 107 = .ok (.goto (-81), 3) := by decide +kernel
theorem dX0_advance_110 : decode cX0_advance 110 = .ok (.aload_n 0, 1) := by decide +kernel
theorem dX0_advance_111 : decode cX0_advance 111 = .ok (.iload_n 3, 1) := by decide +kernel
theorem dX0_advance_112 : decode cX0_advance 112 = .ok (.putfield 9, 3) := by decide +kernel
theorem dX0_advance_115 : decode cX0_advance 115 = .ok (.iload 4, 2) := by decide +kernel
theorem dX0_advance_117 : decode cX0_advance 117 = .ok (.ireturn, 1) := by decide +kernel
set_option maxRecDepth 20000 in
theorem ggX0_enterLineup_X3_chooseDescant : GoodIn wsX0_enterLineup wsX3_chooseDescant := goodIn_r _ [17, 18, 19, 20, 21, 22, 23, 24, 25, 36, 37, 38, 39, 40, 41, 42, 43, 44, 45, 46, 47, 56, 57, 58, 59, 60] (by decide +kernel) (by decide +kernel)
set_option maxRecDepth 20000 in
theorem gX0_enterLineup_X3_chooseDescant : GoodIn wsX0_enterLineup (wsV RX0 176 RX3 yX3_chooseDescant wsX3_chooseDescant) := goodIn_app (goodIn_of _ (by decide +kernel)) ggX0_enterLineup_X3_chooseDescant
theorem dX0_enterLineup_0 : decode cX0_enterLineup 0 = .ok (.aload_n 2, 1) := by decide +kernel
theorem dX0_enterLineup_1 : decode cX0_enterLineup 1 = .ok (.aload_n 0, 1) := by decide +kernel
theorem dX0_enterLineup_2 : decode cX0_enterLineup 2 = .ok (.getfield 18, 3) := by decide +kernel
theorem dX0_enterLineup_5 : decode cX0_enterLineup 5 = .ok (.aload_n 0, 1) := by decide +kernel
theorem dX0_enterLineup_6 : decode cX0_enterLineup 6 = .ok (.getfield 18, 3) := by decide +kernel
theorem dX0_enterLineup_9 : decode cX0_enterLineup 9 = .ok (.getfield 173, 3) := by decide +kernel
theorem dX0_enterLineup_12 : decode cX0_enterLineup 12 = .ok (.invokevirtual 176, 3) := by decide +kernel
theorem dX0_enterLineup_15 : decode cX0_enterLineup 15 = .ok (.istore_n 3, 1) := by decide +kernel
theorem dX0_enterLineup_16 : decode cX0_enterLineup 16 = .ok (.aload_n 0, 1) := by decide +kernel
theorem dX0_enterLineup_17 : decode cX0_enterLineup 17 = .ok (.getfield 32, 3) := by decide +kernel
theorem dX0_enterLineup_20 : decode cX0_enterLineup 20 = .ok (.getfield 180, 3) := by decide +kernel
theorem dX0_enterLineup_23 : decode cX0_enterLineup 23 = .ok (.iload_n 1, 1) := by decide +kernel
theorem dX0_enterLineup_24 : decode cX0_enterLineup 24 = .ok (.iload_n 3, 1) := by decide +kernel
theorem dX0_enterLineup_25 : decode cX0_enterLineup 25 = .ok (.iastore, 1) := by decide +kernel
theorem dX0_enterLineup_26 : decode cX0_enterLineup 26 = .ok (.iload_n 3, 1) := by decide +kernel
theorem dX0_enterLineup_27 : decode cX0_enterLineup 27 = .ok (.iconst (-1), 1) := by decide +kernel
theorem dX0_enterLineup_28 : decode cX0_enterLineup 28 = .ok (.if_icmp .eq 16, 3) := by decide +kernel
theorem dX0_enterLineup_31 : decode cX0_enterLineup 31 = .ok (.aload_n 0, 1) := by decide +kernel
theorem dX0_enterLineup_32 : decode cX0_enterLineup 32 = .ok (.getfield 18, 3) := by decide +kernel
theorem dX0_enterLineup_35 : decode cX0_enterLineup 35 = .ok (.getfield 173, 3) := by decide +kernel
theorem dX0_enterLineup_38 : decode cX0_enterLineup 38 = .ok (.iload_n 3, 1) := by decide +kernel
theorem dX0_enterLineup_39 : decode cX0_enterLineup 39 = .ok (.dup2, 1) := by decide +kernel
theorem dX0_enterLineup_40 : decode cX0_enterLineup 40 = .ok (.iaload, 1) := by decide +kernel
theorem dX0_enterLineup_41 : decode cX0_enterLineup 41 = .ok (.iconst 1, 1) := by decide +kernel
theorem dX0_enterLineup_42 : decode cX0_enterLineup 42 = .ok (.iadd, 1) := by decide +kernel
theorem dX0_enterLineup_43 : decode cX0_enterLineup 43 = .ok (.iastore, 1) := by decide +kernel
theorem dX0_enterLineup_44 : decode cX0_enterLineup 44 = .ok (.aload_n 2, 1) := by decide +kernel
theorem dX0_enterLineup_45 : decode cX0_enterLineup 45 = .ok (.getfield 183, 3) := by decide +kernel
theorem dX0_enterLineup_48 : decode cX0_enterLineup 48 = .ok (.iconst 0, 1) := by decide +kernel
theorem dX0_enterLineup_49 : decode cX0_enterLineup 49 = .ok (.aload_n 0, 1) := by decide +kernel
theorem dX0_enterLineup_50 : decode cX0_enterLineup 50 = .ok (.getfield 32, 3) := by decide +kernel
theorem dX0_enterLineup_53 : decode cX0_enterLineup 53 = .ok (.getfield 186, 3) := by decide +kernel
theorem dX0_enterLineup_56 : decode cX0_enterLineup 56 = .ok (.iload_n 1, 1) := by decide +kernel
theorem dX0_enterLineup_57 : decode cX0_enterLineup 57 = .ok (.aaload, 1) := by decide +kernel
theorem dX0_enterLineup_58 : decode cX0_enterLineup 58 = .ok (.iconst 0, 1) := by decide +kernel
theorem dX0_enterLineup_59 : decode cX0_enterLineup 59 = .ok (.bipush 30, 2) := by decide +kernel
theorem dX0_enterLineup_61 : decode cX0_enterLineup 61 = .ok (.invokestatic 65, 3) := by decide +kernel
theorem dX0_enterLineup_64 : decode cX0_enterLineup 64 = .ok (.iconst 0, 1) := by decide +kernel
theorem dX0_enterLineup_65 : decode cX0_enterLineup 65 = .ok (.istore 4, 2) := by decide +kernel
theorem dX0_enterLineup_67 : decode cX0_enterLineup 67 = .ok (.iload 4, 2) := by decide +kernel
theorem dX0_enterLineup_69 : decode cX0_enterLineup 69 = .ok (.aload_n 0, 1) := by decide +kernel
theorem dX0_enterLineup_70 : decode cX0_enterLineup 70 = .ok (.getfield 18, 3) := by decide +kernel
theorem dX0_enterLineup_73 : decode cX0_enterLineup 73 = .ok (.getfield 189, 3) := by decide +kernel
theorem dX0_enterLineup_76 : decode cX0_enterLineup 76 = .ok (.if_icmp .ge 34, 3) := by decide +kernel
theorem dX0_enterLineup_79 : decode cX0_enterLineup 79 = .ok (.aload_n 2, 1) := by decide +kernel
theorem dX0_enterLineup_80 : decode cX0_enterLineup 80 = .ok (.getfield 183, 3) := by decide +kernel
theorem dX0_enterLineup_83 : decode cX0_enterLineup 83 = .ok (.iload 4, 2) := by decide +kernel
theorem dX0_enterLineup_85 : decode cX0_enterLineup 85 = .ok (.iaload, 1) := by decide +kernel
theorem dX0_enterLineup_86 : decode cX0_enterLineup 86 = .ok (.iconst (-1), 1) := by decide +kernel
theorem dX0_enterLineup_87 : decode cX0_enterLineup 87 = .ok (.if_icmp .eq 17, 3) := by decide +kernel
theorem dX0_enterLineup_90 : decode cX0_enterLineup 90 = .ok (.aload_n 0, 1) := by decide +kernel
theorem dX0_enterLineup_91 : decode cX0_enterLineup 91 = .ok (.getfield 18, 3) := by decide +kernel
theorem dX0_enterLineup_94 : decode cX0_enterLineup 94 = .ok (.getfield 192, 3) := by decide +kernel
theorem dX0_enterLineup_97 : decode cX0_enterLineup 97 = .ok (.iload 4, 2) := by decide +kernel
theorem dX0_enterLineup_99 : decode cX0_enterLineup 99 = .ok (.dup2, 1) := by decide +kernel
theorem dX0_enterLineup_100 : decode cX0_enterLineup 100 = .ok (.iaload, 1) := by decide +kernel
theorem dX0_enterLineup_101 : decode cX0_enterLineup 101 = .ok (.iconst 1, 1) := by decide +kernel
theorem dX0_enterLineup_102 : decode cX0_enterLineup 102 = .ok (.iadd, 1) := by decide +kernel
theorem dX0_enterLineup_103 : decode cX0_enterLineup 103 = .ok (.iastore, 1) := by decide +kernel
theorem dX0_enterLineup_104 : decode cX0_enterLineup 104 = .ok (.iinc 4 1, 3) := by decide +kernel
theorem dX0_enterLineup_107 : decode cX0_enterLineup 107 = .ok (.goto (-40), 3) := by decide +kernel
theorem dX0_enterLineup_110 : decode cX0_enterLineup 110 = .ok (.return_, 1) := by decide +kernel
set_option maxRecDepth 20000 in
theorem ggX0_settleAccounts_X3_countAll : GoodIn wsX0_settleAccounts wsX3_countAll := goodIn_r _ [15, 16, 17, 18, 14, 19, 20, 49, 50, 51, 52, 53] (by decide +kernel) (by decide +kernel)
set_option maxRecDepth 20000 in
theorem gX0_settleAccounts_X3_countAll : GoodIn wsX0_settleAccounts (wsV RX0 198 RX3 yX3_countAll wsX3_countAll) := goodIn_app (goodIn_of _ (by decide +kernel)) ggX0_settleAccounts_X3_countAll
set_option maxRecDepth 20000 in
theorem ggX0_settleAccounts_X1_allPlaces : GoodIn wsX0_settleAccounts wsX1_allPlaces := goodIn_r _ [25, 26, 54, 55, 56, 57, 58, 59, 60, 61] (by decide +kernel) (by decide +kernel)
set_option maxRecDepth 20000 in
theorem gX0_settleAccounts_X1_allPlaces : GoodIn wsX0_settleAccounts (wsV RX0 152 RX1 yX1_allPlaces wsX1_allPlaces) := goodIn_app (goodIn_of _ (by decide +kernel)) ggX0_settleAccounts_X1_allPlaces
theorem dX0_settleAccounts_0 : decode cX0_settleAccounts 0 = .ok (.iconst 0, 1) := by decide +kernel
theorem dX0_settleAccounts_1 : decode cX0_settleAccounts 1 = .ok (.istore_n 3, 1) := by decide +kernel
theorem dX0_settleAccounts_2 : decode cX0_settleAccounts 2 = .ok (.iconst 0, 1) := by decide +kernel
theorem dX0_settleAccounts_3 : decode cX0_settleAccounts 3 = .ok (.istore 4, 2) := by decide +kernel
theorem dX0_settleAccounts_5 : decode cX0_settleAccounts 5 = .ok (.iload 4, 2) := by decide +kernel
theorem dX0_settleAccounts_7 : decode cX0_settleAccounts 7 = .ok (.aload_n 0, 1) := by decide +kernel
theorem dX0_settleAccounts_8 : decode cX0_settleAccounts 8 = .ok (.getfield 18, 3) := by decide +kernel
theorem dX0_settleAccounts_11 : decode cX0_settleAccounts 11 = .ok (.getfield 189, 3) := by decide +kernel
theorem dX0_settleAccounts_14 : decode cX0_settleAccounts 14 = .ok (.if_icmp .ge 33, 3) := by decide +kernel
theorem dX0_settleAccounts_17 : decode cX0_settleAccounts 17 = .ok (.aload_n 2, 1) := by decide +kernel
theorem dX0_settleAccounts_18 : decode cX0_settleAccounts 18 = .ok (.getfield 183, 3) := by decide +kernel
theorem dX0_settleAccounts_21 : decode cX0_settleAccounts 21 = .ok (.iload 4, 2) := by decide +kernel
theorem dX0_settleAccounts_23 : decode cX0_settleAccounts 23 = .ok (.iaload, 1) := by decide +kernel
theorem dX0_settleAccounts_24 : decode cX0_settleAccounts 24 = .ok (.iconst (-1), 1) := by decide +kernel
theorem dX0_settleAccounts_25 : decode cX0_settleAccounts 25 = .ok (.if_icmp .eq 16, 3) := by decide +kernel
theorem dX0_settleAccounts_28 : decode cX0_settleAccounts 28 = .ok (.iload_n 3, 1) := by decide +kernel
theorem dX0_settleAccounts_29 : decode cX0_settleAccounts 29 = .ok (.aload_n 0, 1) := by decide +kernel
theorem dX0_settleAccounts_30 : decode cX0_settleAccounts 30 = .ok (.getfield 18, 3) := by decide +kernel
theorem dX0_settleAccounts_33 : decode cX0_settleAccounts 33 = .ok (.getfield 107, 3) := by decide +kernel
theorem dX0_settleAccounts_36 : decode cX0_settleAccounts 36 = .ok (.iload 4, 2) := by decide +kernel
theorem dX0_settleAccounts_38 : decode cX0_settleAccounts 38 = .ok (.iaload, 1) := by decide +kernel
theorem dX0_settleAccounts_39 : decode cX0_settleAccounts 39 = .ok (.iadd, 1) := by decide +kernel
theorem dX0_settleAccounts_40 : decode cX0_settleAccounts 40 = .ok (.istore_n 3, 1) := by decide +kernel
theorem dX0_settleAccounts_41 : decode cX0_settleAccounts 41 = .ok (.iinc 4 1, 3) := by decide +kernel
theorem dX0_settleAccounts_44 : decode cX0_settleAccounts 44 = .ok (.goto (-39), 3) := by decide +kernel
theorem dX0_settleAccounts_47 : decode cX0_settleAccounts 47 = .ok (.aload_n 0, 1) := by decide +kernel
theorem dX0_settleAccounts_48 : decode cX0_settleAccounts 48 = .ok (.getfield 32, 3) := by decide +kernel
theorem dX0_settleAccounts_51 : decode cX0_settleAccounts 51 = .ok (.getfield 195, 3) := by decide +kernel
theorem dX0_settleAccounts_54 : decode cX0_settleAccounts 54 = .ok (.iload_n 1, 1) := by decide +kernel
theorem dX0_settleAccounts_55 : decode cX0_settleAccounts 55 = .ok (.iaload, 1) := by decide +kernel
theorem dX0_settleAccounts_56 : decode cX0_settleAccounts 56 = .ok (.aload_n 2, 1) := by decide +kernel
theorem dX0_settleAccounts_57 : decode cX0_settleAccounts 57 = .ok (.invokevirtual 198, 3) := by decide +kernel
theorem dX0_settleAccounts_60 : decode cX0_settleAccounts 60 = .ok (.imul, 1) := by decide +kernel
theorem dX0_settleAccounts_61 : decode cX0_settleAccounts 61 = .ok (.istore 4, 2) := by decide +kernel
theorem dX0_settleAccounts_63 : decode cX0_settleAccounts 63 = .ok (.aload_n 0, 1) := by decide +kernel
theorem dX0_settleAccounts_64 : decode cX0_settleAccounts 64 = .ok (.getfield 32, 3) := by decide +kernel
theorem dX0_settleAccounts_67 : decode cX0_settleAccounts 67 = .ok (.getfield 195, 3) := by decide +kernel
theorem dX0_settleAccounts_70 : decode cX0_settleAccounts 70 = .ok (.iload_n 1, 1) := by decide +kernel
theorem dX0_settleAccounts_71 : decode cX0_settleAccounts 71 = .ok (.iaload, 1) := by decide +kernel
theorem dX0_settleAccounts_72 : decode cX0_settleAccounts 72 = .ok (.aload_n 0, 1) := by decide +kernel
theorem dX0_settleAccounts_73 : decode cX0_settleAccounts 73 = .ok (.getfield 32, 3) := by decide +kernel
theorem dX0_settleAccounts_76 : decode cX0_settleAccounts 76 = .ok (.iload_n 1, 1) := by decide +kernel
theorem dX0_settleAccounts_77 : decode cX0_settleAccounts 77 = .ok (.invokevirtual 152, 3) := by decide +kernel
theorem dX0_settleAccounts_80 : decode cX0_settleAccounts 80 = .ok (.aload_n 2, 1) := by decide +kernel
theorem dX0_settleAccounts_81 : decode cX0_settleAccounts 81 = .ok (.invokevirtual 198, 3) := by decide +kernel
theorem dX0_settleAccounts_84 : decode cX0_settleAccounts 84 = .ok (.isub, 1) := by decide +kernel
theorem dX0_settleAccounts_85 : decode cX0_settleAccounts 85 = .ok (.imul, 1) := by decide +kernel
theorem dX0_settleAccounts_86 : decode cX0_settleAccounts 86 = .ok (.istore 5, 2) := by decide +kernel
theorem dX0_settleAccounts_88 : decode cX0_settleAccounts 88 = .ok (.aload_n 0, 1) := by decide +kernel
theorem dX0_settleAccounts_89 : decode cX0_settleAccounts 89 = .ok (.dup, 1) := by decide +kernel
theorem dX0_settleAccounts_90 : decode cX0_settleAccounts 90 = .ok (.getfield 46, 3) := by decide +kernel
theorem dX0_settleAccounts_93 : decode cX0_settleAccounts 93 = .ok (.iload 4, 2) := by decide +kernel
theorem dX0_settleAccounts_95 : decode cX0_settleAccounts 95 = .ok (.iadd, 1) := by decide +kernel
theorem dX0_settleAccounts_96 : decode cX0_settleAccounts 96 = .ok (.putfield 46, 3) := by decide +kernel
theorem dX0_settleAccounts_99 : decode cX0_settleAccounts 99 = .ok (.aload_n 0, 1) := by decide +kernel
theorem dX0_settleAccounts_100 : decode cX0_settleAccounts 100 = .ok (.dup, 1) := by decide +kernel
theorem dX0_settleAccounts_101 : decode cX0_settleAccounts 101 = .ok (.getfield 49, 3) := by decide +kernel
theorem dX0_settleAccounts_104 : decode cX0_settleAccounts 104 = .ok (.iload_n 3, 1) := by decide +kernel
theorem dX0_settleAccounts_105 : decode cX0_settleAccounts 105 = .ok (.iadd, 1) := by decide +kernel
theorem dX0_settleAccounts_106 : decode cX0_settleAccounts 106 = .ok (.putfield 49, 3) := by decide +kernel
theorem dX0_settleAccounts_109 : decode cX0_settleAccounts 109 = .ok (.aload_n 0, 1) := by decide +kernel
theorem dX0_settleAccounts_110 : decode cX0_settleAccounts 110 = .ok (.dup, 1) := by decide +kernel
theorem dX0_settleAccounts_111 : decode cX0_settleAccounts 111 = .ok (.getfield 52, 3) := by decide +kernel
theorem dX0_settleAccounts_114 : decode cX0_settleAccounts 114 = .ok (.iload 5, 2) := by decide +kernel
theorem dX0_settleAccounts_116 : decode cX0_settleAccounts 116 = .ok (.iadd, 1) := by decide +kernel
theorem dX0_settleAccounts_117 : decode cX0_settleAccounts 117 = .ok (.putfield 52, 3) := by decide +kernel
theorem dX0_settleAccounts_120 : decode cX0_settleAccounts 120 = .ok (.aload_n 0, 1) := by decide +kernel
theorem dX0_settleAccounts_121 : decode cX0_settleAccounts 121 = .ok (.dup, 1) := by decide +kernel
theorem dX0_settleAccounts_122 : decode cX0_settleAccounts 122 = .ok (.getfield 40, 3) := by decide +kernel
theorem dX0_settleAccounts_125 : decode cX0_settleAccounts 125 = .ok (.iload 4, 2) := by decide +kernel
theorem dX0_settleAccounts_127 : decode cX0_settleAccounts 127 = .ok (.iload_n 3, 1) := by decide +kernel
theorem dX0_settleAccounts_128 : decode cX0_settleAccounts 128 = .ok (.isub, 1) := by decide +kernel
theorem dX0_settleAccounts_129 : decode cX0_settleAccounts 129 = .ok (.iload 5, 2) := by decide +kernel
theorem dX0_settleAccounts_131 : decode cX0_settleAccounts 131 = .ok (.isub, 1) := by decide +kernel
theorem dX0_settleAccounts_132 : decode cX0_settleAccounts 132 = .ok (.iadd, 1) := by decide +kernel
theorem dX0_settleAccounts_133 : decode cX0_settleAccounts 133 = .ok (.putfield 40, 3) := by decide +kernel
theorem dX0_settleAccounts_136 : decode cX0_settleAccounts 136 = .ok (.return_, 1) := by decide +kernel
theorem dX0_hasHeld_0 : decode cX0_hasHeld 0 = .ok (.aload_n 0, 1) := by decide +kernel
theorem dX0_hasHeld_1 : decode cX0_hasHeld 1 = .ok (.getfield 32, 3) := by decide +kernel
theorem dX0_hasHeld_4 : decode cX0_hasHeld 4 = .ok (.getfield 158, 3) := by decide +kernel
theorem dX0_hasHeld_7 : decode cX0_hasHeld 7 = .ok (.iload_n 1, 1) := by decide +kernel
theorem dX0_hasHeld_8 : decode cX0_hasHeld 8 = .ok (.iaload, 1) := by decide +kernel
theorem dX0_hasHeld_9 : decode cX0_hasHeld 9 = .ok (.aload_n 0, 1) := by decide +kernel
theorem dX0_hasHeld_10 : decode cX0_hasHeld 10 = .ok (.getfield 9, 3) := by decide +kernel
theorem dX0_hasHeld_13 : decode cX0_hasHeld 13 = .ok (.if_icmp .gt 7, 3) := by decide +kernel
theorem dX0_hasHeld_16 : decode cX0_hasHeld 16 = .ok (.iconst 1, 1) := by decide +kernel
theorem dX0_hasHeld_17 : decode cX0_hasHeld 17 = .ok (.goto 4, 3) := by decide +kernel
theorem dX0_hasHeld_20 : decode cX0_hasHeld 20 = .ok (.iconst 0, 1) := by decide +kernel
theorem dX0_hasHeld_21 : decode cX0_hasHeld 21 = .ok (.ireturn, 1) := by decide +kernel
set_option maxRecDepth 20000 in
theorem ggX0_hindrance_X5_hasLeftBy : GoodIn wsX0_hindrance wsX5_hasLeftBy := goodIn_r _ [7, 8, 38, 39, 40, 41, 42, 43, 44, 45, 46, 47, 48, 49] (by decide +kernel) (by decide +kernel)
set_option maxRecDepth 20000 in
theorem gX0_hindrance_X5_hasLeftBy : GoodIn wsX0_hindrance (wsV RX0 93 RX5 yX5_hasLeftBy wsX5_hasLeftBy) := goodIn_app (goodIn_of _ (by decide +kernel)) ggX0_hindrance_X5_hasLeftBy
set_option maxRecDepth 20000 in
theorem ggX0_hindrance_X5_isAwayOn : GoodIn wsX0_hindrance wsX5_isAwayOn := goodIn_r _ [12, 13, 38, 39, 40, 41, 42, 43, 44, 45, 46, 47, 48, 49] (by decide +kernel) (by decide +kernel)
set_option maxRecDepth 20000 in
theorem gX0_hindrance_X5_isAwayOn : GoodIn wsX0_hindrance (wsV RX0 110 RX5 yX5_isAwayOn wsX5_isAwayOn) := goodIn_app (goodIn_of _ (by decide +kernel)) ggX0_hindrance_X5_isAwayOn
set_option maxRecDepth 20000 in
theorem ggX0_hindrance_X4_coverAnyOf : GoodIn wsX0_hindrance wsX4_coverAnyOf := goodIn_r _ [18, 19, 20, 21, 22, 50, 51, 52, 53] (by decide +kernel) (by decide +kernel)
set_option maxRecDepth 20000 in
theorem gX0_hindrance_X4_coverAnyOf : GoodIn wsX0_hindrance (wsV RX0 119 RX4 yX4_coverAnyOf wsX4_coverAnyOf) := goodIn_app (goodIn_of _ (by decide +kernel)) ggX0_hindrance_X4_coverAnyOf
set_option maxRecDepth 20000 in
theorem ggX0_hindrance_X5_isBreakingOn : GoodIn wsX0_hindrance wsX5_isBreakingOn := goodIn_r _ [26, 27, 38, 39, 40, 41, 42, 43, 44, 45, 46, 47, 48, 49] (by decide +kernel) (by decide +kernel)
set_option maxRecDepth 20000 in
theorem gX0_hindrance_X5_isBreakingOn : GoodIn wsX0_hindrance (wsV RX0 202 RX5 yX5_isBreakingOn wsX5_isBreakingOn) := goodIn_app (goodIn_of _ (by decide +kernel)) ggX0_hindrance_X5_isBreakingOn
theorem dX0_hindrance_0 : decode cX0_hindrance 0 = .ok (.aload_n 0, 1) := by decide +kernel
theorem dX0_hindrance_1 : decode cX0_hindrance 1 = .ok (.getfield 18, 3) := by decide +kernel
theorem dX0_hindrance_4 : decode cX0_hindrance 4 = .ok (.iload_n 1, 1) := by decide +kernel
theorem dX0_hindrance_5 : decode cX0_hindrance 5 = .ok (.iload_n 2, 1) := by decide +kernel
theorem dX0_hindrance_6 : decode cX0_hindrance 6 = .ok (.invokevirtual 93, 3) := by decide +kernel
theorem dX0_hindrance_9 : decode cX0_hindrance 9 = .ok (.ifCond .eq 5, 3) := by decide +kernel
theorem dX0_hindrance_12 : decode cX0_hindrance 12 = .ok (.iconst 1, 1) := by decide +kernel
theorem dX0_hindrance_13 : decode cX0_hindrance 13 = .ok (.ireturn, 1) := by decide +kernel
theorem dX0_hindrance_14 : decode cX0_hindrance 14 = .ok (.aload_n 0, 1) := by decide +kernel
theorem dX0_hindrance_15 : decode cX0_hindrance 15 = .ok (.getfield 18, 3) := by decide +kernel
theorem dX0_hindrance_18 : decode cX0_hindrance 18 = .ok (.iload_n 1, 1) := by decide +kernel
theorem dX0_hindrance_19 : decode cX0_hindrance 19 = .ok (.iload_n 2, 1) := by decide +kernel
theorem dX0_hindrance_20 : decode cX0_hindrance 20 = .ok (.invokevirtual 110, 3) := by decide +kernel
theorem dX0_hindrance_23 : decode cX0_hindrance 23 = .ok (.ifCond .eq 5, 3) := by decide +kernel
theorem dX0_hindrance_26 : decode cX0_hindrance 26 = .ok (.iconst 2, 1) := by decide +kernel
theorem dX0_hindrance_27 : decode cX0_hindrance 27 = .ok (.ireturn, 1) := by decide +kernel
theorem dX0_hindrance_28 : decode cX0_hindrance 28 = .ok (.aload_n 0, 1) := by decide +kernel
theorem dX0_hindrance_29 : decode cX0_hindrance 29 = .ok (.getfield 25, 3) := by decide +kernel
theorem dX0_hindrance_32 : decode cX0_hindrance 32 = .ok (.iload_n 1, 1) := by decide +kernel
theorem dX0_hindrance_33 : decode cX0_hindrance 33 = .ok (.iload_n 2, 1) := by decide +kernel
theorem dX0_hindrance_34 : decode cX0_hindrance 34 = .ok (.iload_n 2, 1) := by decide +kernel
theorem dX0_hindrance_35 : decode cX0_hindrance 35 = .ok (.invokevirtual 119, 3) := by decide +kernel
theorem dX0_hindrance_38 : decode cX0_hindrance 38 = .ok (.ifCond .eq 5, 3) := by decide +kernel
theorem dX0_hindrance_41 : decode cX0_hindrance 41 = .ok (.iconst 3, 1) := by decide +kernel
theorem dX0_hindrance_42 : decode cX0_hindrance 42 = .ok (.ireturn, 1) := by decide +kernel
theorem dX0_hindrance_43 : decode cX0_hindrance 43 = .ok (.aload_n 0, 1) := by decide +kernel
theorem dX0_hindrance_44 : decode cX0_hindrance 44 = .ok (.getfield 18, 3) := by decide +kernel
theorem dX0_hindrance_47 : decode cX0_hindrance 47 = .ok (.iload_n 1, 1) := by decide +kernel
theorem dX0_hindrance_48 : decode cX0_hindrance 48 = .ok (.iload_n 2, 1) := by decide +kernel
theorem dX0_hindrance_49 : decode cX0_hindrance 49 = .ok (.invokevirtual 202, 3) := by decide +kernel
theorem dX0_hindrance_52 : decode cX0_hindrance 52 = .ok (.ifCond .eq 7, 3) := by decide +kernel
theorem dX0_hindrance_55 : decode cX0_hindrance 55 = .ok (.iconst 4, 1) := by decide +kernel
theorem dX0_hindrance_56 : decode cX0_hindrance 56 = .ok (.goto 4, 3) := by decide +kernel
theorem dX0_hindrance_59 : decode cX0_hindrance 59 = .ok (.iconst 0, 1) := by decide +kernel
theorem dX0_hindrance_60 : decode cX0_hindrance 60 = .ok (.ireturn, 1) := by decide +kernel
set_option maxRecDepth 20000 in
theorem ggX0_misfit_X5_noteOn : GoodIn wsX0_misfit wsX5_noteOn := goodIn_r _ [12, 13, 32, 33, 34, 35, 36, 37, 38, 39, 40, 41, 42, 43] (by decide +kernel) (by decide +kernel)
set_option maxRecDepth 20000 in
theorem gX0_misfit_X5_noteOn : GoodIn wsX0_misfit (wsV RX0 207 RX5 yX5_noteOn wsX5_noteOn) := goodIn_app (goodIn_of _ (by decide +kernel)) ggX0_misfit_X5_noteOn
theorem dX0_misfit_0 : decode cX0_misfit 0 = .ok (.aload_n 0, 1) := by decide +kernel
theorem dX0_misfit_1 : decode cX0_misfit 1 = .ok (.getfield 32, 3) := by decide +kernel
theorem dX0_misfit_4 : decode cX0_misfit 4 = .ok (.getfield 158, 3) := by decide +kernel
theorem dX0_misfit_7 : decode cX0_misfit 7 = .ok (.iload_n 1, 1) := by decide +kernel
theorem dX0_misfit_8 : decode cX0_misfit 8 = .ok (.iaload, 1) := by decide +kernel
theorem dX0_misfit_9 : decode cX0_misfit 9 = .ok (.istore 4, 2) := by decide +kernel
theorem dX0_misfit_11 : decode cX0_misfit 11 = .ok (.aload_n 0, 1) := by decide +kernel
theorem dX0_misfit_12 : decode cX0_misfit 12 = .ok (.getfield 32, 3) := by decide +kernel
theorem dX0_misfit_15 : decode cX0_misfit 15 = .ok (.getfield 146, 3) := by decide +kernel
theorem dX0_misfit_18 : decode cX0_misfit 18 = .ok (.iload_n 1, 1) := by decide +kernel
theorem dX0_misfit_19 : decode cX0_misfit 19 = .ok (.aaload, 1) := by decide +kernel
theorem dX0_misfit_20 : decode cX0_misfit 20 = .ok (.iload_n 3, 1) := by decide +kernel
theorem dX0_misfit_21 : decode cX0_misfit 21 = .ok (.iaload, 1) := by decide +kernel
theorem dX0_misfit_22 : decode cX0_misfit 22 = .ok (.aload_n 0, 1) := by decide +kernel
theorem dX0_misfit_23 : decode cX0_misfit 23 = .ok (.getfield 18, 3) := by decide +kernel
theorem dX0_misfit_26 : decode cX0_misfit 26 = .ok (.iload_n 2, 1) := by decide +kernel
theorem dX0_misfit_27 : decode cX0_misfit 27 = .ok (.iload 4, 2) := by decide +kernel
theorem dX0_misfit_29 : decode cX0_misfit 29 = .ok (.aload_n 0, 1) := by decide +kernel
theorem dX0_misfit_30 : decode cX0_misfit 30 = .ok (.getfield 18, 3) := by decide +kernel
theorem dX0_misfit_33 : decode cX0_misfit 33 = .ok (.getfield 205, 3) := by decide +kernel
theorem dX0_misfit_36 : decode cX0_misfit 36 = .ok (.iload_n 2, 1) := by decide +kernel
theorem dX0_misfit_37 : decode cX0_misfit 37 = .ok (.iaload, 1) := by decide +kernel
theorem dX0_misfit_38 : decode cX0_misfit 38 = .ok (.invokevirtual 207, 3) := by decide +kernel
theorem dX0_misfit_41 : decode cX0_misfit 41 = .ok (.if_icmp .ge 5, 3) := by decide +kernel
theorem dX0_misfit_44 : decode cX0_misfit 44 = .ok (.iconst 5, 1) := by decide +kernel
theorem dX0_misfit_45 : decode cX0_misfit 45 = .ok (.ireturn, 1) := by decide +kernel
theorem dX0_misfit_46 : decode cX0_misfit 46 = .ok (.aload_n 0, 1) := by decide +kernel
theorem dX0_misfit_47 : decode cX0_misfit 47 = .ok (.getfield 32, 3) := by decide +kernel
theorem dX0_misfit_50 : decode cX0_misfit 50 = .ok (.getfield 149, 3) := by decide +kernel
theorem dX0_misfit_53 : decode cX0_misfit 53 = .ok (.iload_n 1, 1) := by decide +kernel
theorem dX0_misfit_54 : decode cX0_misfit 54 = .ok (.aaload, 1) := by decide +kernel
theorem dX0_misfit_55 : decode cX0_misfit 55 = .ok (.iload_n 3, 1) := by decide +kernel
theorem dX0_misfit_56 : decode cX0_misfit 56 = .ok (.iaload, 1) := by decide +kernel
theorem dX0_misfit_57 : decode cX0_misfit 57 = .ok (.aload_n 0, 1) := by decide +kernel
theorem dX0_misfit_58 : decode cX0_misfit 58 = .ok (.getfield 18, 3) := by decide +kernel
theorem dX0_misfit_61 : decode cX0_misfit 61 = .ok (.iload_n 2, 1) := by decide +kernel
theorem dX0_misfit_62 : decode cX0_misfit 62 = .ok (.iload 4, 2) := by decide +kernel
theorem dX0_misfit_64 : decode cX0_misfit 64 = .ok (.aload_n 0, 1) := by decide +kernel
theorem dX0_misfit_65 : decode cX0_misfit 65 = .ok (.getfield 18, 3) := by decide +kernel
theorem dX0_misfit_68 : decode cX0_misfit 68 = .ok (.getfield 210, 3) := by decide +kernel
theorem dX0_misfit_71 : decode cX0_misfit 71 = .ok (.iload_n 2, 1) := by decide +kernel
theorem dX0_misfit_72 : decode cX0_misfit 72 = .ok (.iaload, 1) := by decide +kernel
theorem dX0_misfit_73 : decode cX0_misfit 73 = .ok (.invokevirtual 207, 3) := by decide +kernel
theorem dX0_misfit_76 : decode cX0_misfit 76 = .ok (.if_icmp .le 8, 3) := by decide +kernel
theorem dX0_misfit_79 : decode cX0_misfit 79 = .ok (.bipush 6, 2) := by decide +kernel
theorem dX0_misfit_81 : decode cX0_misfit 81 = .ok (.goto 4, 3) := by decide +kernel
theorem dX0_misfit_84 : decode cX0_misfit 84 = .ok (.iconst 0, 1) := by decide +kernel
theorem dX0_misfit_85 : decode cX0_misfit 85 = .ok (.ireturn, 1) := by decide +kernel
theorem dX1_init_0 : decode cX1_init 0 = .ok (.aload_n 0, 1) := by decide +kernel
theorem dX1_init_1 : decode cX1_init 1 = .ok (.invokespecial 3, 3) := by decide +kernel
theorem dX1_init_4 : decode cX1_init 4 = .ok (.aload_n 0, 1) := by decide +kernel
theorem dX1_init_5 : decode cX1_init 5 = .ok (.iconst 0, 1) := by decide +kernel
theorem dX1_init_6 : decode cX1_init 6 = .ok (.putfield 9, 3) := by decide +kernel
theorem dX1_init_9 : decode cX1_init 9 = .ok (.aload_n 0, 1) := by decide +kernel
theorem dX1_init_10 : decode cX1_init 10 = .ok (.bipush 20, 2) := by decide +kernel
theorem dX1_init_12 : decode cX1_init 12 = .ok (.newarray .int, 2) := by decide +kernel
theorem dX1_init_14 : decode cX1_init 14 = .ok (.putfield 15, 3) := by decide +kernel
theorem dX1_init_17 : decode cX1_init 17 = .ok (.aload_n 0, 1) := by decide +kernel
theorem dX1_init_18 : decode cX1_init 18 = .ok (.bipush 20, 2) := by decide +kernel
theorem dX1_init_20 : decode cX1_init 20 = .ok (.newarray .int, 2) := by decide +kernel
theorem dX1_init_22 : decode cX1_init 22 = .ok (.putfield 19, 3) := by decide +kernel
theorem dX1_init_25 : decode cX1_init 25 = .ok (.aload_n 0, 1) := by decide +kernel
theorem dX1_init_26 : decode cX1_init 26 = .ok (.bipush 20, 2) := by decide +kernel
theorem dX1_init_28 : decode cX1_init 28 = .ok (.newarray .int, 2) := by decide +kernel
theorem dX1_init_30 : decode cX1_init 30 = .ok (.putfield 22, 3) := by decide +kernel
theorem dX1_init_33 : decode cX1_init 33 = .ok (.aload_n 0, 1) := by decide +kernel
theorem dX1_init_34 : decode cX1_init 34 = .ok (.bipush 20, 2) := by decide +kernel
theorem dX1_init_36 : decode cX1_init 36 = .ok (.iconst 4, 1) := by decide +kernel
theorem dX1_init_37 : decode cX1_init 37 = .ok (.multianewarray 25 2, 4) := by decide +kernel
theorem dX1_init_41 : decode cX1_init 41 = .ok (.putfield 27, 3) := by decide +kernel
theorem dX1_init_44 : decode cX1_init 44 = .ok (.aload_n 0, 1) := by decide +kernel
theorem dX1_init_45 : decode cX1_init 45 = .ok (.bipush 20, 2) := by decide +kernel
theorem dX1_init_47 : decode cX1_init 47 = .ok (.iconst 4, 1) := by decide +kernel
theorem dX1_init_48 : decode cX1_init 48 = .ok (.multianewarray 25 2, 4) := by decide +kernel
theorem dX1_init_52 : decode cX1_init 52 = .ok (.putfield 30, 3) := by decide +kernel
theorem dX1_init_55 : decode cX1_init 55 = .ok (.aload_n 0, 1) := by decide +kernel
theorem dX1_init_56 : decode cX1_init 56 = .ok (.bipush 20, 2) := by decide +kernel
theorem dX1_init_58 : decode cX1_init 58 = .ok (.iconst 4, 1) := by decide +kernel
theorem dX1_init_59 : decode cX1_init 59 = .ok (.multianewarray 25 2, 4) := by decide +kernel
theorem dX1_init_63 : decode cX1_init 63 = .ok (.putfield 33, 3) := by decide +kernel
theorem dX1_init_66 : decode cX1_init 66 = .ok (.aload_n 0, 1) := by decide +kernel
theorem dX1_init_67 : decode cX1_init 67 = .ok (.bipush 20, 2) := by decide +kernel
theorem dX1_init_69 : decode cX1_init 69 = .ok (.bipush 30, 2) := by decide +kernel
theorem dX1_init_71 : decode cX1_init 71 = .ok (.multianewarray 25 2, 4) := by decide +kernel
theorem dX1_init_75 : decode cX1_init 75 = .ok (.putfield 36, 3) := by decide +kernel
theorem dX1_init_78 : decode cX1_init 78 = .ok (.return_, 1) := by decide +kernel
theorem dX1_copyFrom_0 : decode cX1_copyFrom 0 = .ok (.aload_n 0, 1) := by decide +kernel
theorem dX1_copyFrom_1 : decode cX1_copyFrom 1 = .ok (.aload_n 1, 1) := by decide +kernel
theorem dX1_copyFrom_2 : decode cX1_copyFrom 2 = .ok (.getfield 9, 3) := by decide +kernel
theorem dX1_copyFrom_5 : decode cX1_copyFrom 5 = .ok (.putfield 9, 3) := by decide +kernel
theorem dX1_copyFrom_8 : decode cX1_copyFrom 8 = .ok (.aload_n 1, 1) := by decide +kernel
theorem dX1_copyFrom_9 : decode cX1_copyFrom 9 = .ok (.getfield 15, 3) := by decide +kernel
theorem dX1_copyFrom_12 : decode cX1_copyFrom 12 = .ok (.iconst 0, 1) := by decide +kernel
theorem dX1_copyFrom_13 : decode cX1_copyFrom 13 = .ok (.aload_n 0, 1) := by decide +kernel
theorem dX1_copyFrom_14 : decode cX1_copyFrom 14 = .ok (.getfield 15, 3) := by decide +kernel
theorem dX1_copyFrom_17 : decode cX1_copyFrom 17 = .ok (.iconst 0, 1) := by decide +kernel
theorem dX1_copyFrom_18 : decode cX1_copyFrom 18 = .ok (.aload_n 0, 1) := by decide +kernel
theorem dX1_copyFrom_19 : decode cX1_copyFrom 19 = .ok (.getfield 9, 3) := by decide +kernel
theorem dX1_copyFrom_22 : decode cX1_copyFrom 22 = .ok (.invokestatic 39, 3) := by decide +kernel
theorem dX1_copyFrom_25 : decode cX1_copyFrom 25 = .ok (.aload_n 1, 1) := by decide +kernel
theorem dX1_copyFrom_26 : decode cX1_copyFrom 26 = .ok (.getfield 19, 3) := by decide +kernel
theorem dX1_copyFrom_29 : decode cX1_copyFrom 29 = .ok (.iconst 0, 1) := by decide +kernel
theorem dX1_copyFrom_30 : decode cX1_copyFrom 30 = .ok (.aload_n 0, 1) := by decide +kernel
theorem dX1_copyFrom_31 : decode cX1_copyFrom 31 = .ok (.getfield 19, 3) := by decide +kernel
theorem dX1_copyFrom_34 : decode cX1_copyFrom 34 = .ok (.iconst 0, 1) := by decide +kernel
theorem dX1_copyFrom_35 : decode cX1_copyFrom 35 = .ok (.aload_n 0, 1) := by decide +kernel
theorem dX1_copyFrom_36 : decode cX1_copyFrom 36 = .ok (.getfield 9, 3) := by decide +kernel
theorem dX1_copyFrom_39 : decode cX1_copyFrom 39 = .ok (.invokestatic 39, 3) := by decide +kernel
theorem dX1_copyFrom_42 : decode cX1_copyFrom 42 = .ok (.aload_n 1, 1) := by decide +kernel
theorem dX1_copyFrom_43 : decode cX1_copyFrom 43 = .ok (.getfield 22, 3) := by decide +kernel
theorem dX1_copyFrom_46 : decode cX1_copyFrom 46 = .ok (.iconst 0, 1) := by decide +kernel
theorem dX1_copyFrom_47 : decode cX1_copyFrom 47 = .ok (.aload_n 0, 1) := by decide +kernel
theorem dX1_copyFrom_48 : decode cX1_copyFrom 48 = .ok (.getfield 22, 3) := by decide +kernel
theorem dX1_copyFrom_51 : decode cX1_copyFrom 51 = .ok (.iconst 0, 1) := by decide +kernel
theorem dX1_copyFrom_52 : decode cX1_copyFrom 52 = .ok (.aload_n 0, 1) := by decide +kernel
theorem dX1_copyFrom_53 : decode cX1_copyFrom 53 = .ok (.getfield 9, 3) := by decide +kernel
theorem dX1_copyFrom_56 : decode cX1_copyFrom 56 = .ok (.invokestatic 39, 3) := by decide +kernel
theorem dX1_copyFrom_59 : decode cX1_copyFrom 59 = .ok (.iconst 0, 1) := by decide +kernel
theorem dX1_copyFrom_60 : decode cX1_copyFrom 60 = .ok (.istore_n 2, 1) := by decide +kernel
theorem dX1_copyFrom_61 : decode cX1_copyFrom 61 = .ok (.iload_n 2, 1) := by decide +kernel
theorem dX1_copyFrom_62 : decode cX1_copyFrom 62 = .ok (.aload_n 0, 1) := by decide +kernel
theorem dX1_copyFrom_63 : decode cX1_copyFrom 63 = .ok (.getfield 9, 3) := by decide +kernel
theorem dX1_copyFrom_66 : decode cX1_copyFrom 66 = .ok (.if_icmp .ge 82, 3) := by decide +kernel
theorem dX1_copyFrom_69 : decode cX1_copyFrom 69 = .ok (.aload_n 1, 1) := by decide +kernel
theorem dX1_copyFrom_70 : decode cX1_copyFrom 70 = .ok (.getfield 27, 3) := by decide +kernel
theorem dX1_copyFrom_73 : decode cX1_copyFrom 73 = .ok (.iload_n 2, 1) := by decide +kernel
theorem dX1_copyFrom_74 : decode cX1_copyFrom 74 = .ok (.aaload, 1) := by decide +kernel
theorem dX1_copyFrom_75 : decode cX1_copyFrom 75 = .ok (.iconst 0, 1) := by decide +kernel
theorem dX1_copyFrom_76 : decode cX1_copyFrom 76 = .ok (.aload_n 0, 1) := by decide +kernel
theorem dX1_copyFrom_77 : decode cX1_copyFrom 77 = .ok (.getfield 27, 3) := by decide +kernel
theorem dX1_copyFrom_80 : decode cX1_copyFrom 80 = .ok (.iload_n 2, 1) := by decide +kernel
theorem dX1_copyFrom_81 : decode cX1_copyFrom 81 = .ok (.aaload, 1) := by decide +kernel
theorem dX1_copyFrom_82 : decode cX1_copyFrom 82 = .ok (.iconst 0, 1) := by decide +kernel
theorem dX1_copyFrom_83 : decode cX1_copyFrom 83 = .ok (.iconst 4, 1) := by decide +kernel
theorem dX1_copyFrom_84 : decode cX1_copyFrom 84 = .ok (.invokestatic 39, 3) := by decide +kernel
theorem dX1_copyFrom_87 : decode cX1_copyFrom 87 = .ok (.aload_n 1, 1) := by decide +kernel
theorem dX1_copyFrom_88 : decode cX1_copyFrom 88 = .ok (.getfield 30, 3) := by decide +kernel
theorem dX1_copyFrom_91 : decode cX1_copyFrom 91 = .ok (.iload_n 2, 1) := by decide +kernel
theorem dX1_copyFrom_92 : decode cX1_copyFrom 92 = .ok (.aaload, 1) := by decide +kernel
theorem dX1_copyFrom_93 : decode cX1_copyFrom 93 = .ok (.iconst 0, 1) := by decide +kernel
theorem dX1_copyFrom_94 : decode cX1_copyFrom 94 = .ok (.aload_n 0, 1) := by decide +kernel
theorem dX1_copyFrom_95 : decode cX1_copyFrom 95 = .ok (.getfield 30, 3) := by decide +kernel
theorem dX1_copyFrom_98 : decode cX1_copyFrom 98 = .ok (.iload_n 2, 1) := by decide +kernel
theorem dX1_copyFrom_99 : decode cX1_copyFrom 99 = .ok (.aaload, 1) := by decide +kernel
theorem dX1_copyFrom_100 : decode cX1_copyFrom 100 = .ok (.iconst 0, 1) := by decide +kernel
theorem dX1_copyFrom_101 : decode cX1_copyFrom 101 = .ok (.iconst 4, 1) := by decide +kernel
theorem dX1_copyFrom_102 : decode cX1_copyFrom 102 = .ok (.invokestatic 39, 3) := by decide +kernel
theorem dX1_copyFrom_105 : decode cX1_copyFrom 105 = .ok (.aload_n 1, 1) := by decide +kernel
theorem dX1_copyFrom_106 : decode cX1_copyFrom 106 = .ok (.getfield 33, 3) := by decide +kernel
theorem dX1_copyFrom_109 : decode cX1_copyFrom 109 = .ok (.iload_n 2, 1) := by decide +kernel
theorem dX1_copyFrom_110 : decode cX1_copyFrom 110 = .ok (.aaload, 1) := by decide +kernel
theorem dX1_copyFrom_111 : decode cX1_copyFrom 111 = .ok (.iconst 0, 1) := by decide +kernel
theorem dX1_copyFrom_112 : decode cX1_copyFrom 112 = .ok (.aload_n 0, 1) := by decide +kernel
theorem dX1_copyFrom_113 : decode cX1_copyFrom 113 = .ok (.getfield 33, 3) := by decide +kernel
theorem dX1_copyFrom_116 : decode cX1_copyFrom 116 = .ok (.iload_n 2, 1) := by decide +kernel
theorem dX1_copyFrom_117 : decode cX1_copyFrom 117 = .ok (.aaload, 1) := by decide +kernel
theorem dX1_copyFrom_118 : decode cX1_copyFrom 118 = .ok (.iconst 0, 1) := by decide +kernel
theorem dX1_copyFrom_119 : decode cX1_copyFrom 119 = .ok (.iconst 4, 1) := by decide +kernel
theorem dX1_copyFrom_120 : decode cX1_copyFrom 120 = .ok (.invokestatic 39, 3) := by decide +kernel
theorem dX1_copyFrom_123 : decode cX1_copyFrom 123 = .ok (.aload_n 1, 1) := by decide +kernel
theorem dX1_copyFrom_124 : decode cX1_copyFrom 124 = .ok (.getfield 36, 3) := by decide +kernel
theorem dX1_copyFrom_127 : decode cX1_copyFrom 127 = .ok (.iload_n 2, 1) := by decide +kernel
theorem dX1_copyFrom_128 : decode cX1_copyFrom 128 = .ok (.aaload, 1) := by decide +kernel
theorem dX1_copyFrom_129 : decode cX1_copyFrom 129 = .ok (.iconst 0, 1) := by decide +kernel
theorem dX1_copyFrom_130 : decode cX1_copyFrom 130 = .ok (.aload_n 0, 1) := by decide +kernel
theorem dX1_copyFrom_131 : decode cX1_copyFrom 131 = .ok (.getfield 36, 3) := by decide +kernel
theorem dX1_copyFrom_134 : decode cX1_copyFrom 134 = .ok (.iload_n 2, 1) := by decide +kernel
theorem dX1_copyFrom_135 : decode cX1_copyFrom 135 = .ok (.aaload, 1) := by decide +kernel
theorem dX1_copyFrom_136 : decode cX1_copyFrom 136 = .ok (.iconst 0, 1) := by decide +kernel
theorem dX1_copyFrom_137 : decode cX1_copyFrom 137 = .ok (.bipush 30, 2) := by decide +kernel
theorem dX1_copyFrom_139 : decode cX1_copyFrom 139 = .ok (.invokestatic 39, 3) := by decide +kernel
theorem dX1_copyFrom_142 : decode cX1_copyFrom 142 = .ok (.iinc 2 1, 3) := by decide +kernel
theorem dX1_copyFrom_145 : decode cX1_copyFrom 145 = .ok (.goto (-84), 3) := by decide +kernel
theorem dX1_copyFrom_148 : decode cX1_copyFrom 148 = .ok (.return_, 1) := by decide +kernel
theorem dX1_has_0 : decode cX1_has 0 = .ok (.iload_n 1, 1) := by decide +kernel
theorem dX1_has_1 : decode cX1_has 1 = .ok (.ifCond .lt 15, 3) := by decide +kernel
theorem dX1_has_4 : decode cX1_has 4 = .ok (.iload_n 1, 1) := by decide +kernel
theorem dX1_has_5 : decode cX1_has 5 = .ok (.aload_n 0, 1) := by decide +kernel
theorem dX1_has_6 : decode cX1_has 6 = .ok (.getfield 9, 3) := by decide +kernel
theorem dX1_has_9 : decode cX1_has 9 = .ok (.if_icmp .ge 7, 3) := by decide +kernel
theorem dX1_has_12 : decode cX1_has 12 = .ok (.iconst 1, 1) := by decide +kernel
theorem dX1_has_13 : decode cX1_has 13 = .ok (.goto 4, 3) := by decide +kernel
theorem dX1_has_16 : decode cX1_has 16 = .ok (.iconst 0, 1) := by decide +kernel
theorem dX1_has_17 : decode cX1_has 17 = .ok (.ireturn, 1) := by decide +kernel
theorem dX1_isFull_0 : decode cX1_isFull 0 = .ok (.aload_n 0, 1) := by decide +kernel
theorem dX1_isFull_1 : decode cX1_isFull 1 = .ok (.getfield 9, 3) := by decide +kernel
theorem dX1_isFull_4 : decode cX1_isFull 4 = .ok (.bipush 20, 2) := by decide +kernel
theorem dX1_isFull_6 : decode cX1_isFull 6 = .ok (.if_icmp .lt 7, 3) := by decide +kernel
theorem dX1_isFull_9 : decode cX1_isFull 9 = .ok (.iconst 1, 1) := by decide +kernel
theorem dX1_isFull_10 : decode cX1_isFull 10 = .ok (.goto 4, 3) := by decide +kernel
theorem dX1_isFull_13 : decode cX1_isFull 13 = .ok (.iconst 0, 1) := by decide +kernel
theorem dX1_isFull_14 : decode cX1_isFull 14 = .ok (.ireturn, 1) := by decide +kernel
theorem dX1_hasFeastOn_0 : decode cX1_hasFeastOn 0 = .ok (.iconst 0, 1) := by decide +kernel
theorem dX1_hasFeastOn_1 : decode cX1_hasFeastOn 1 = .ok (.istore_n 2, 1) := by decide +kernel
theorem dX1_hasFeastOn_2 : decode cX1_hasFeastOn 2 = .ok (.iload_n 2, 1) := by decide +kernel
theorem dX1_hasFeastOn_3 : decode cX1_hasFeastOn 3 = .ok (.aload_n 0, 1) := by decide +kernel
theorem dX1_hasFeastOn_4 : decode cX1_hasFeastOn 4 = .ok (.getfield 9, 3) := by decide +kernel
theorem dX1_hasFeastOn_7 : decode cX1_hasFeastOn 7 = .ok (.if_icmp .ge 21, 3) := by decide +kernel
theorem dX1_hasFeastOn_10 : decode cX1_hasFeastOn 10 = .ok (.aload_n 0, 1) := by decide +kernel
theorem dX1_hasFeastOn_11 : decode cX1_hasFeastOn 11 = .ok (.getfield 15, 3) := by decide +kernel
theorem dX1_hasFeastOn_14 : decode cX1_hasFeastOn 14 = .ok (.iload_n 2, 1) := by decide +kernel
theorem dX1_hasFeastOn_15 : decode cX1_hasFeastOn 15 = .ok (.iaload, 1) := by decide +kernel
theorem dX1_hasFeastOn_16 : decode cX1_hasFeastOn 16 = .ok (.iload_n 1, 1) := by decide +kernel
theorem dX1_hasFeastOn_17 : decode cX1_hasFeastOn 17 = .ok (.if_icmp .ne 5, 3) := by decide +kernel
theorem dX1_hasFeastOn_20 : decode cX1_hasFeastOn 20 = .ok (.iconst 1, 1) := by decide +kernel
theorem dX1_hasFeastOn_21 : decode cX1_hasFeastOn 21 = .ok (.ireturn, 1) := by decide +kernel
theorem dX1_hasFeastOn_22 : decode cX1_hasFeastOn 22 = .ok (.iinc 2 1, 3) := by decide +kernel
theorem dX1_hasFeastOn_25 : decode cX1_hasFeastOn 25 = .ok (.goto (-23), 3) := by decide +kernel
theorem dX1_hasFeastOn_28 : decode cX1_hasFeastOn 28 = .ok (.iconst 0, 1) := by decide +kernel
theorem dX1_hasFeastOn_29 : decode cX1_hasFeastOn 29 = .ok (.ireturn, 1) := by decide +kernel
set_option maxRecDepth 20000 in
theorem ggX1_add_J7_fill_53178 : GoodIn wsX1_add wsJ7_fill_53178 := goodIn_r _ [10] (by decide +kernel) (by decide +kernel)
set_option maxRecDepth 20000 in
theorem gX1_add_J7_fill_53178 : GoodIn wsX1_add (va_wsS RX1 45 yJ7_fill_53178 wsJ7_fill_53178) := goodIn_app (goodIn_of _ (by decide +kernel)) ggX1_add_J7_fill_53178
theorem dX1_add_0 : decode cX1_add 0 = .ok (.aload_n 0, 1) := by decide +kernel
theorem dX1_add_1 : decode cX1_add 1 = .ok (.getfield 9, 3) := by decide +kernel
theorem dX1_add_4 : decode cX1_add 4 = .ok (.istore_n 3, 1) := by decide +kernel
theorem dX1_add_5 : decode cX1_add 5 = .ok (.aload_n 0, 1) := by decide +kernel
theorem dX1_add_6 : decode cX1_add 6 = .ok (.getfield 15, 3) := by decide +kernel
theorem dX1_add_9 : decode cX1_add 9 = .ok (.iload_n 3, 1) := by decide +kernel
theorem dX1_add_10 : decode cX1_add 10 = .ok (.iload_n 1, 1) := by decide +kernel
theorem dX1_add_11 : decode cX1_add 11 = .ok (.iastore, 1) := by decide +kernel
theorem dX1_add_12 : decode cX1_add 12 = .ok (.aload_n 0, 1) := by decide +kernel
theorem dX1_add_13 : decode cX1_add 13 = .ok (.getfield 19, 3) := by decide +kernel
theorem dX1_add_16 : decode cX1_add 16 = .ok (.iload_n 3, 1) := by decide +kernel
theorem dX1_add_17 : decode cX1_add 17 = .ok (.iload_n 2, 1) := by decide +kernel
theorem dX1_add_18 : decode cX1_add 18 = .ok (.iastore, 1) := by decide +kernel
theorem dX1_add_19 : decode cX1_add 19 = .ok (.aload_n 0, 1) := by decide +kernel
theorem dX1_add_20 : decode cX1_add 20 = .ok (.getfield 27, 3) := by decide +kernel
theorem dX1_add_23 : decode cX1_add 23 = .ok (.iload_n 3, 1) := by decide +kernel
theorem dX1_add_24 : decode cX1_add 24 = .ok (.aaload, 1) := by decide +kernel
theorem dX1_add_25 : decode cX1_add 25 = .ok (.iconst 0, 1) := by decide +kernel
theorem dX1_add_26 : decode cX1_add 26 = .ok (.invokestatic 45, 3) := by decide +kernel
theorem dX1_add_29 : decode cX1_add 29 = .ok (.aload_n 0, 1) := by decide +kernel
theorem dX1_add_30 : decode cX1_add 30 = .ok (.getfield 30, 3) := by decide +kernel
theorem dX1_add_33 : decode cX1_add 33 = .ok (.iload_n 3, 1) := by decide +kernel
theorem dX1_add_34 : decode cX1_add 34 = .ok (.aaload, 1) := by decide +kernel
theorem dX1_add_35 : decode cX1_add 35 = .ok (.iconst 0, 1) := by decide +kernel
theorem dX1_add_36 : decode cX1_add 36 = .ok (.invokestatic 45, 3) := by decide +kernel
theorem dX1_add_39 : decode cX1_add 39 = .ok (.aload_n 0, 1) := by decide +kernel
theorem dX1_add_40 : decode cX1_add 40 = .ok (.getfield 33, 3) := by decide +kernel
theorem dX1_add_43 : decode cX1_add 43 = .ok (.iload_n 3, 1) := by decide +kernel
theorem dX1_add_44 : decode cX1_add 44 = .ok (.aaload, 1) := by decide +kernel
theorem dX1_add_45 : decode cX1_add 45 = .ok (.iconst 0, 1) := by decide +kernel
theorem dX1_add_46 : decode cX1_add 46 = .ok (.invokestatic 45, 3) := by decide +kernel
theorem dX1_add_49 : decode cX1_add 49 = .ok (.aload_n 0, 1) := by decide +kernel
theorem dX1_add_50 : decode cX1_add 50 = .ok (.dup, 1) := by decide +kernel
theorem dX1_add_51 : decode cX1_add 51 = .ok (.getfield 9, 3) := by decide +kernel
theorem dX1_add_54 : decode cX1_add 54 = .ok (.iconst 1, 1) := by decide +kernel
theorem dX1_add_55 : decode cX1_add 55 = .ok (.iadd, 1) := by decide +kernel
theorem dX1_add_56 : decode cX1_add 56 = .ok (.putfield 9, 3) := by decide +kernel
theorem dX1_add_59 : decode cX1_add 59 = .ok (.iload_n 3, 1) := by decide +kernel
theorem dX1_add_60 : decode cX1_add 60 = .ok (.ireturn, 1) := by decide +kernel
theorem dX1_nextAfter_0 : decode cX1_nextAfter 0 = .ok (.iconst (-1), 1) := by decide +kernel
theorem dX1_nextAfter_1 : decode cX1_nextAfter 1 = .ok (.istore_n 2, 1) := by decide +kernel
theorem dX1_nextAfter_2 : decode cX1_nextAfter 2 = .ok (.iconst 0, 1) := by decide +kernel
theorem dX1_nextAfter_3 : decode cX1_nextAfter 3 = .ok (.istore_n 3, 1) := by decide +kernel
theorem dX1_nextAfter_4 : decode cX1_nextAfter 4 = .ok (.iload_n 3, 1) := by decide +kernel
theorem dX1_nextAfter_5 : decode cX1_nextAfter 5 = .ok (.aload_n 0, 1) := by decide +kernel
theorem dX1_nextAfter_6 : decode cX1_nextAfter 6 = .ok (.getfield 9, 3) := by decide +kernel
theorem dX1_nextAfter_9 : decode cX1_nextAfter 9 = .ok (.if_icmp .ge 41, 3) := by decide +kernel
theorem dX1_nextAfter_12 : decode cX1_nextAfter 12 = .ok (.aload_n 0, 1) := by decide +kernel
theorem dX1_nextAfter_13 : decode cX1_nextAfter 13 = .ok (.getfield 15, 3) := by decide +kernel
theorem dX1_nextAfter_16 : decode cX1_nextAfter 16 = .ok (.iload_n 3, 1) := by decide +kernel
theorem dX1_nextAfter_17 : decode cX1_nextAfter 17 = .ok (.iaload, 1) := by decide +kernel
theorem dX1_nextAfter_18 : decode cX1_nextAfter 18 = .ok (.iload_n 1, 1) := by decide +kernel
theorem dX1_nextAfter_19 : decode cX1_nextAfter 19 = .ok (.if_icmp .le 25, 3) := by decide +kernel
theorem dX1_nextAfter_22 : decode cX1_nextAfter 22 = .ok (.iload_n 2, 1) := by decide +kernel
theorem dX1_nextAfter_23 : decode cX1_nextAfter 23 = .ok (.iconst (-1), 1) := by decide +kernel
theorem dX1_nextAfter_24 : decode cX1_nextAfter 24 = .ok (.if_icmp .eq 18, 3) := by decide +kernel
theorem dX1_nextAfter_27 : decode cX1_nextAfter 27 = .ok (.aload_n 0, 1) := by decide +kernel
theorem dX1_nextAfter_28 : decode cX1_nextAfter 28 = .ok (.getfield 15, 3) := by decide +kernel
theorem dX1_nextAfter_31 : decode cX1_nextAfter 31 = .ok (.iload_n 3, 1) := by decide +kernel
theorem dX1_nextAfter_32 : decode cX1_nextAfter 32 = .ok (.iaload, 1) := by decide +kernel
theorem dX1_nextAfter_33 : decode cX1_nextAfter 33 = .ok (.aload_n 0, 1) := by decide +kernel
theorem dX1_nextAfter_34 : decode cX1_nextAfter 34 = .ok (.getfield 15, 3) := by decide +kernel
theorem dX1_nextAfter_37 : decode cX1_nextAfter 37 = .ok (.iload_n 2, 1) := by decide +kernel
theorem dX1_nextAfter_38 : decode cX1_nextAfter 38 = .ok (.iaload, 1) := by decide +kernel
theorem dX1_nextAfter_39 : decode cX1_nextAfter 39 = .ok (.if_icmp .ge 5, 3) := by decide +kernel
theorem dX1_nextAfter_42 : decode cX1_nextAfter 42 = .ok (.iload_n 3, 1) := by decide +kernel
theorem dX1_nextAfter_43 : decode cX1_nextAfter 43 = .ok (.istore_n 2, 1) := by decide +kernel
theorem dX1_nextAfter_44 : decode cX1_nextAfter 44 = .ok (.iinc 3 1, 3) := by decide +kernel
theorem dX1_nextAfter_47 : decode cX1_nextAfter 47 = .ok (.goto (-43), 3) := by decide +kernel
theorem dX1_nextAfter_50 : decode cX1_nextAfter 50 = .ok (.iload_n 2, 1) := by decide +kernel
theorem dX1_nextAfter_51 : decode cX1_nextAfter 51 = .ok (.ireturn, 1) := by decide +kernel
theorem dX1_allPlaces_0 : decode cX1_allPlaces 0 = .ok (.iconst 0, 1) := by decide +kernel
theorem dX1_allPlaces_1 : decode cX1_allPlaces 1 = .ok (.istore_n 2, 1) := by decide +kernel
theorem dX1_allPlaces_2 : decode cX1_allPlaces 2 = .ok (.iconst 0, 1) := by decide +kernel
theorem dX1_allPlaces_3 : decode cX1_allPlaces 3 = .ok (.istore_n 3, 1) := by decide +kernel
theorem dX1_allPlaces_4 : decode cX1_allPlaces 4 = .ok (.iload_n 3, 1) := by decide +kernel
theorem dX1_allPlaces_5 : decode cX1_allPlaces 5 = .ok (.iconst 4, 1) := by decide +kernel
theorem dX1_allPlaces_6 : decode cX1_allPlaces 6 = .ok (.if_icmp .ge 20, 3) := by decide +kernel
theorem dX1_allPlaces_9 : decode cX1_allPlaces 9 = .ok (.iload_n 2, 1) := by decide +kernel
theorem dX1_allPlaces_10 : decode cX1_allPlaces 10 = .ok (.aload_n 0, 1) := by decide +kernel
theorem dX1_allPlaces_11 : decode cX1_allPlaces 11 = .ok (.getfield 27, 3) := by decide +kernel
theorem dX1_allPlaces_14 : decode cX1_allPlaces 14 = .ok (.iload_n 1, 1) := by decide +kernel
theorem dX1_allPlaces_15 : decode cX1_allPlaces 15 = .ok (.aaload, 1) := by decide +kernel
theorem dX1_allPlaces_16 : decode cX1_allPlaces 16 = .ok (.iload_n 3, 1) := by decide +kernel
theorem dX1_allPlaces_17 : decode cX1_allPlaces 17 = .ok (.iaload, 1) := by decide +kernel
theorem dX1_allPlaces_18 : decode cX1_allPlaces 18 = .ok (.iadd, 1) := by decide +kernel
theorem dX1_allPlaces_19 : decode cX1_allPlaces 19 = .ok (.istore_n 2, 1) := by decide +kernel
theorem dX1_allPlaces_20 : decode cX1_allPlaces 20 = .ok (.iinc 3 1, 3) := by decide +kernel
theorem dX1_allPlaces_23 : decode cX1_allPlaces 23 = .ok (.goto (-19), 3) := by decide +kernel
theorem dX1_allPlaces_26 : decode cX1_allPlaces 26 = .ok (.iload_n 2, 1) := by decide +kernel
theorem dX1_allPlaces_27 : decode cX1_allPlaces 27 = .ok (.ireturn, 1) := by decide +kernel
theorem dX2_init_0 : decode cX2_init 0 = .ok (.aload_n 0, 1) := by decide +kernel
theorem dX2_init_1 : decode cX2_init 1 = .ok (.invokespecial 3, 3) := by decide +kernel
theorem dX2_init_4 : decode cX2_init 4 = .ok (.aload_n 0, 1) := by decide +kernel
theorem dX2_init_5 : decode cX2_init 5 = .ok (.bipush 80, 2) := by decide +kernel
theorem dX2_init_7 : decode cX2_init 7 = .ok (.newarray .char, 2) := by decide +kernel
theorem dX2_init_9 : decode cX2_init 9 = .ok (.putfield 9, 3) := by decide +kernel
theorem dX2_init_12 : decode cX2_init 12 = .ok (.aload_n 0, 1) := by decide +kernel
theorem dX2_init_13 : decode cX2_init 13 = .ok (.iconst 0, 1) := by decide +kernel
theorem dX2_init_14 : decode cX2_init 14 = .ok (.putfield 15, 3) := by decide +kernel
theorem dX2_init_17 : decode cX2_init 17 = .ok (.aload_n 0, 1) := by decide +kernel
theorem dX2_init_18 : decode cX2_init 18 = .ok (.iconst 0, 1) := by decide +kernel
theorem dX2_init_19 : decode cX2_init 19 = .ok (.putfield 19, 3) := by decide +kernel
theorem dX2_init_22 : decode cX2_init 22 = .ok (.aload_n 0, 1) := by decide +kernel
theorem dX2_init_23 : decode cX2_init 23 = .ok (.iconst (-1), 1) := by decide +kernel
theorem dX2_init_24 : decode cX2_init 24 = .ok (.putfield 22, 3) := by decide +kernel
theorem dX2_init_27 : decode cX2_init 27 = .ok (.aload_n 0, 1) := by decide +kernel
theorem dX2_init_28 : decode cX2_init 28 = .ok (.iconst 5, 1) := by decide +kernel
theorem dX2_init_29 : decode cX2_init 29 = .ok (.newarray .int, 2) := by decide +kernel
theorem dX2_init_31 : decode cX2_init 31 = .ok (.putfield 25, 3) := by decide +kernel
theorem dX2_init_34 : decode cX2_init 34 = .ok (.aload_n 0, 1) := by decide +kernel
theorem dX2_init_35 : decode cX2_init 35 = .ok (.iconst 0, 1) := by decide +kernel
theorem dX2_init_36 : decode cX2_init 36 = .ok (.putfield 29, 3) := by decide +kernel
theorem dX2_init_39 : decode cX2_init 39 = .ok (.return_, 1) := by decide +kernel
theorem dX2_isFull_0 : decode cX2_isFull 0 = .ok (.aload_n 0, 1) := by decide +kernel
theorem dX2_isFull_1 : decode cX2_isFull 1 = .ok (.getfield 15, 3) := by decide +kernel
theorem dX2_isFull_4 : decode cX2_isFull 4 = .ok (.bipush 80, 2) := by decide +kernel
theorem dX2_isFull_6 : decode cX2_isFull 6 = .ok (.if_icmp .lt 7, 3) := by decide +kernel
theorem dX2_isFull_9 : decode cX2_isFull 9 = .ok (.iconst 1, 1) := by decide +kernel
theorem dX2_isFull_10 : decode cX2_isFull 10 = .ok (.goto 4, 3) := by decide +kernel
theorem dX2_isFull_13 : decode cX2_isFull 13 = .ok (.iconst 0, 1) := by decide +kernel
theorem dX2_isFull_14 : decode cX2_isFull 14 = .ok (.ireturn, 1) := by decide +kernel
theorem dX2_append_0 : decode cX2_append 0 = .ok (.aload_n 0, 1) := by decide +kernel
theorem dX2_append_1 : decode cX2_append 1 = .ok (.getfield 9, 3) := by decide +kernel
theorem dX2_append_4 : decode cX2_append 4 = .ok (.aload_n 0, 1) := by decide +kernel
theorem dX2_append_5 : decode cX2_append 5 = .ok (.getfield 15, 3) := by decide +kernel
theorem dX2_append_8 : decode cX2_append 8 = .ok (.iload_n 1, 1) := by decide +kernel
theorem dX2_append_9 : decode cX2_append 9 = .ok (.castore, 1) := by decide +kernel
theorem dX2_append_10 : decode cX2_append 10 = .ok (.aload_n 0, 1) := by decide +kernel
theorem dX2_append_11 : decode cX2_append 11 = .ok (.dup, 1) := by decide +kernel
theorem dX2_append_12 : decode cX2_append 12 = .ok (.getfield 15, 3) := by decide +kernel
theorem dX2_append_15 : decode cX2_append 15 = .ok (.iconst 1, 1) := by decide +kernel
theorem dX2_append_16 : decode cX2_append 16 = .ok (.iadd, 1) := by decide +kernel
theorem dX2_append_17 : decode cX2_append 17 = .ok (.putfield 15, 3) := by decide +kernel
theorem dX2_append_20 : decode cX2_append 20 = .ok (.aload_n 0, 1) := by decide +kernel
theorem dX2_append_21 : decode cX2_append 21 = .ok (.getfield 15, 3) := by decide +kernel
theorem dX2_append_24 : decode cX2_append 24 = .ok (.ireturn, 1) := by decide +kernel
theorem dX2_empty_0 : decode cX2_empty 0 = .ok (.aload_n 0, 1) := by decide +kernel
theorem dX2_empty_1 : decode cX2_empty 1 = .ok (.getfield 15, 3) := by decide +kernel
theorem dX2_empty_4 : decode cX2_empty 4 = .ok (.istore_n 1, 1) := by decide +kernel
theorem dX2_empty_5 : decode cX2_empty 5 = .ok (.aload_n 0, 1) := by decide +kernel
theorem dX2_empty_6 : decode cX2_empty 6 = .ok (.iconst 0, 1) := by decide +kernel
theorem dX2_empty_7 : decode cX2_empty 7 = .ok (.putfield 15, 3) := by decide +kernel
theorem dX2_empty_10 : decode cX2_empty 10 = .ok (.iload_n 1, 1) := by decide +kernel
theorem dX2_empty_11 : decode cX2_empty 11 = .ok (.ireturn, 1) := by decide +kernel
theorem dX2_countOrders_0 : decode cX2_countOrders 0 = .ok (.iconst 1, 1) := by decide +kernel
theorem dX2_countOrders_1 : decode cX2_countOrders 1 = .ok (.istore_n 1, 1) := by decide +kernel
theorem dX2_countOrders_2 : decode cX2_countOrders 2 = .ok (.iconst 0, 1) := by decide +kernel
theorem dX2_countOrders_3 : decode cX2_countOrders 3 = .ok (.istore_n 2, 1) := by decide +kernel
theorem dX2_countOrders_4 : decode cX2_countOrders 4 = .ok (.iload_n 2, 1) := by decide +kernel
theorem dX2_countOrders_5 : decode cX2_countOrders 5 = .ok (.aload_n 0, 1) := by decide +kernel
theorem dX2_countOrders_6 : decode cX2_countOrders 6 = .ok (.getfield 15, 3) := by decide +kernel
theorem dX2_countOrders_9 : decode cX2_countOrders 9 = .ok (.if_icmp .ge 23, 3) := by decide +kernel
theorem dX2_countOrders_12 : decode cX2_countOrders 12 = .ok (.aload_n 0, 1) := by decide +kernel
theorem dX2_countOrders_13 : decode cX2_countOrders 13 = .ok (.getfield 9, 3) := by decide +kernel
theorem dX2_countOrders_16 : decode cX2_countOrders 16 = .ok (.iload_n 2, 1) := by decide +kernel
theorem dX2_countOrders_17 : decode cX2_countOrders 17 = .ok (.caload, 1) := by decide +kernel
theorem dX2_countOrders_18 : decode cX2_countOrders 18 = .ok (.bipush 59, 2) := by decide +kernel
theorem dX2_countOrders_20 : decode cX2_countOrders 20 = .ok (.if_icmp .ne 6, 3) := by decide +kernel
theorem dX2_countOrders_23 : decode cX2_countOrders 23 = .ok (.iinc 1 1, 3) := by decide +kernel
theorem dX2_countOrders_26 : decode cX2_countOrders 26 = .ok (.iinc 2 1, 3) := by decide +kernel
theorem dX2_countOrders_29 : decode cX2_countOrders 29 = .ok (.goto (-25), 3) := by decide +kernel
theorem dX2_countOrders_32 : decode cX2_countOrders 32 = .ok (.iload_n 1, 1) := by decide +kernel
theorem dX2_countOrders_33 : decode cX2_countOrders 33 = .ok (.ireturn, 1) := by decide +kernel
theorem dX2_goTo_0 : decode cX2_goTo 0 = .ok (.aload_n 0, 1) := by decide +kernel
theorem dX2_goTo_1 : decode cX2_goTo 1 = .ok (.iload_n 1, 1) := by decide +kernel
theorem dX2_goTo_2 : decode cX2_goTo 2 = .ok (.putfield 19, 3) := by decide +kernel
theorem dX2_goTo_5 : decode cX2_goTo 5 = .ok (.return_, 1) := by decide +kernel
theorem dX2_isAtEnd_0 : decode cX2_isAtEnd 0 = .ok (.aload_n 0, 1) := by decide +kernel
theorem dX2_isAtEnd_1 : decode cX2_isAtEnd 1 = .ok (.getfield 19, 3) := by decide +kernel
theorem dX2_isAtEnd_4 : decode cX2_isAtEnd 4 = .ok (.aload_n 0, 1) := by decide +kernel
theorem dX2_isAtEnd_5 : decode cX2_isAtEnd 5 = .ok (.getfield 15, 3) := by decide +kernel
theorem dX2_isAtEnd_8 : decode cX2_isAtEnd 8 = .ok (.if_icmp .lt 7, 3) := by decide +kernel
theorem dX2_isAtEnd_11 : decode cX2_isAtEnd 11 = .ok (.iconst 1, 1) := by decide +kernel
theorem dX2_isAtEnd_12 : decode cX2_isAtEnd 12 = .ok (.goto 4, 3) := by decide +kernel
theorem dX2_isAtEnd_15 : decode cX2_isAtEnd 15 = .ok (.iconst 0, 1) := by decide +kernel
theorem dX2_isAtEnd_16 : decode cX2_isAtEnd 16 = .ok (.ireturn, 1) := by decide +kernel
set_option maxRecDepth 20000 in
theorem ggX2_findError_X2_goTo : GoodIn wsX2_findError wsX2_goTo := goodIn_r _ [6, 1, 147, 148, 149, 150, 151, 152] (by decide +kernel) (by decide +kernel)
set_option maxRecDepth 20000 in
theorem gX2_findError_X2_goTo : GoodIn wsX2_findError (wsV RX2 32 RX2 yX2_goTo wsX2_goTo) := goodIn_app (goodIn_of _ (by decide +kernel)) ggX2_findError_X2_goTo
set_option maxRecDepth 20000 in
theorem ggX2_findError_X2_readOrder_q1 : GoodIn wsX2_findError ([Cond.code yX2_readOrder cX2_readOrder 3 (some .boolean)]) := goodIn_r _ [10] (by decide +kernel) (by decide +kernel)
set_option maxRecDepth 20000 in
theorem ggX2_findError_X2_readOrder_q2 : GoodIn wsX2_findError (wsX2_readOrder_r1) := goodIn_r _ [11, 1, 12, 13, 14, 15, 16, 17, 5, 18, 19, 20, 21, 22, 23, 24, 25, 26, 27, 28, 29, 30, 31, 32] (by decide +kernel) (by decide +kernel)
set_option maxRecDepth 20000 in
theorem ggX2_findError_X2_readOrder_q3 : GoodIn wsX2_findError (wsX2_readOrder_r2) := goodIn_r _ [33, 34, 35, 36, 37, 38, 39, 40, 41, 42, 43, 44, 45, 46, 47, 48, 49, 50, 51, 52, 53, 54, 55, 56] (by decide +kernel) (by decide +kernel)
set_option maxRecDepth 20000 in
theorem ggX2_findError_X2_readOrder_q4 : GoodIn wsX2_findError (wsX2_readOrder_r3) := goodIn_r _ [57, 58, 59, 60, 61, 62, 63, 64, 65, 66, 67, 68, 69, 70, 71, 72, 73, 74, 75, 76, 77, 78, 79, 80] (by decide +kernel) (by decide +kernel)
set_option maxRecDepth 20000 in
theorem ggX2_findError_X2_readOrder_q5 : GoodIn wsX2_findError (wsX2_readOrder_r4) := goodIn_r _ [81, 82, 83, 84, 85, 86, 87, 88, 89, 90, 91, 92, 93, 94, 95, 96, 97, 98, 99, 100, 101, 102, 103, 104] (by decide +kernel) (by decide +kernel)
set_option maxRecDepth 20000 in
theorem ggX2_findError_X2_readOrder_q6 : GoodIn wsX2_findError (wsX2_readOrder_r5) := goodIn_r _ [105, 106, 107, 108, 109, 110, 111, 112, 113, 114, 115, 116, 117, 118, 119, 120, 121, 122, 123, 124, 125, 126, 127, 128] (by decide +kernel) (by decide +kernel)
set_option maxRecDepth 20000 in
theorem ggX2_findError_X2_readOrder_q7 : GoodIn wsX2_findError (wsX2_readOrder_r6) := goodIn_r _ [129, 130, 131, 132, 133, 134, 135, 136, 137, 138, 139, 140, 141, 142, 143, 144, 145, 146] (by decide +kernel) (by decide +kernel)
set_option maxRecDepth 20000 in
theorem ggX2_findError_X2_readOrder_q8 : GoodIn wsX2_findError (wsX20) := goodIn_r _ [147, 148, 149, 150, 151, 152] (by decide +kernel) (by decide +kernel)
theorem ggX2_findError_X2_readOrder : GoodIn wsX2_findError wsX2_readOrder := (goodIn_app (a := [Cond.code yX2_readOrder cX2_readOrder 3 (some .boolean)]) ggX2_findError_X2_readOrder_q1 (goodIn_app (goodIn_app ggX2_findError_X2_readOrder_q2 (goodIn_app ggX2_findError_X2_readOrder_q3 (goodIn_app ggX2_findError_X2_readOrder_q4 (goodIn_app ggX2_findError_X2_readOrder_q5 (goodIn_app ggX2_findError_X2_readOrder_q6 ggX2_findError_X2_readOrder_q7))))) ggX2_findError_X2_readOrder_q8))
set_option maxRecDepth 20000 in
theorem gX2_findError_X2_readOrder : GoodIn wsX2_findError (wsV RX2 36 RX2 yX2_readOrder wsX2_readOrder) := goodIn_app (goodIn_of _ (by decide +kernel)) ggX2_findError_X2_readOrder
set_option maxRecDepth 20000 in
theorem ggX2_findError_X2_isAtEnd : GoodIn wsX2_findError wsX2_isAtEnd := goodIn_r _ [18, 1, 19, 147, 148, 149, 150, 151, 152] (by decide +kernel) (by decide +kernel)
set_option maxRecDepth 20000 in
theorem gX2_findError_X2_isAtEnd : GoodIn wsX2_findError (wsV RX2 40 RX2 yX2_isAtEnd wsX2_isAtEnd) := goodIn_app (goodIn_of _ (by decide +kernel)) ggX2_findError_X2_isAtEnd
set_option maxRecDepth 20000 in
theorem ggX2_findError_X2_skip : GoodIn wsX2_findError wsX2_skip := goodIn_r _ [136, 1, 129, 130, 131, 5, 132, 19, 11, 147, 148, 149, 150, 151, 152] (by decide +kernel) (by decide +kernel)
set_option maxRecDepth 20000 in
theorem gX2_findError_X2_skip : GoodIn wsX2_findError (wsV RX2 43 RX2 yX2_skip wsX2_skip) := goodIn_app (goodIn_of _ (by decide +kernel)) ggX2_findError_X2_skip
theorem dX2_findError_0 : decode cX2_findError 0 = .ok (.aload_n 0, 1) := by decide +kernel
theorem dX2_findError_1 : decode cX2_findError 1 = .ok (.iconst 0, 1) := by decide +kernel
theorem dX2_findError_2 : decode cX2_findError 2 = .ok (.invokevirtual 32, 3) := by decide +kernel
theorem dX2_findError_5 : decode cX2_findError 5 = .ok (.iconst 0, 1) := by decide +kernel
theorem dX2_findError_6 : decode cX2_findError 6 = .ok (.istore_n 1, 1) := by decide +kernel
theorem dX2_findError_7 : decode cX2_findError 7 = .ok (.iload_n 1, 1) := by decide +kernel
theorem dX2_findError_8 : decode cX2_findError 8 = .ok (.bipush 80, 2) := by decide +kernel
theorem dX2_findError_10 : decode cX2_findError 10 = .ok (.if_icmp .ge 44, 3) := by decide +kernel
theorem dX2_findError_13 : decode cX2_findError 13 = .ok (.aload_n 0, 1) := by decide +kernel
theorem dX2_findError_14 : decode cX2_findError 14 = .ok (.invokevirtual 36, 3) := by decide +kernel
theorem dX2_findError_17 : decode cX2_findError 17 = .ok (.ifCond .ne 8, 3) := by decide +kernel
theorem dX2_findError_20 : decode cX2_findError 20 = .ok (.aload_n 0, 1) := by decide +kernel
theorem dX2_findError_21 : decode cX2_findError 21 = .ok (.getfield 19, 3) := by decide +kernel
theorem dX2_findError_24 : decode cX2_findError 24 = .ok (.ireturn, 1) := by decide +kernel
theorem dX2_findError_25 : decode cX2_findError 25 = .ok (.aload_n 0, 1) := by decide +kernel
theorem dX2_findError_26 : decode cX2_findError 26 = .ok (.invokevirtual 40, 3) := by decide +kernel
theorem dX2_findError_29 : decode cX2_findError 29 = .ok (.ifCond .eq 5, 3) := by decide +kernel
theorem dX2_findError_32 : decode cX2_findError 32 = .ok (.iconst (-1), 1) := by decide +kernel
theorem dX2_findError_33 : decode cX2_findError 33 = .ok (.ireturn, 1) := by decide +kernel
theorem dX2_findError_34 : decode cX2_findError 34 = .ok (.aload_n 0, 1) := by decide +kernel
theorem dX2_findError_35 : decode cX2_findError 35 = .ok (.bipush 59, 2) := by decide +kernel
theorem dX2_findError_37 : decode cX2_findError 37 = .ok (.invokevirtual 43, 3) := by decide +kernel
theorem dX2_findError_40 : decode cX2_findError 40 = .ok (.ifCond .ne 8, 3) := by decide +kernel
theorem dX2_findError_43 : decode cX2_findError 43 = .ok (.aload_n 0, 1) := by decide +kernel
theorem dX2_findError_44 : decode cX2_findError 44 = .ok (.getfield 19, 3) := by decide +kernel
theorem dX2_findError_47 : decode cX2_findError 47 = .ok (.ireturn, 1) := by decide +kernel
theorem dX2_findError_48 : decode cX2_findError 48 = .ok (.iinc 1 1, 3) := by decide +kernel
theorem dX2_findError_51 : decode cX2_findError 51 = .ok (.goto (-44), 3) := by decide +kernel
theorem dX2_findError_54 : decode cX2_findError 54 = .ok (.aload_n 0, 1) := by decide +kernel
theorem dX2_findError_55 : decode cX2_findError 55 = .ok (.getfield 19, 3) := by decide +kernel
theorem dX2_findError_58 : decode cX2_findError 58 = .ok (.ireturn, 1) := by decide +kernel
set_option maxRecDepth 20000 in
theorem ggX2_readOrder_X2_isAtEnd : GoodIn wsX2_readOrder wsX2_isAtEnd := goodIn_r _ [10, 2, 11, 139, 140, 141, 142, 143, 144] (by decide +kernel) (by decide +kernel)
set_option maxRecDepth 20000 in
theorem gX2_readOrder_X2_isAtEnd : GoodIn wsX2_readOrder (wsV RX2 40 RX2 yX2_isAtEnd wsX2_isAtEnd) := goodIn_app (goodIn_of _ (by decide +kernel)) ggX2_readOrder_X2_isAtEnd
set_option maxRecDepth 20000 in
theorem ggX2_readOrder_J0_indexOf_0f7a4_q1 : GoodIn wsX2_readOrder ([Cond.code yJ0_indexOf_0f7a4 cJ0_indexOf_0f7a4 2 (some .int)]) := goodIn_r _ [16] (by decide +kernel) (by decide +kernel)
set_option maxRecDepth 20000 in
theorem ggX2_readOrder_J0_indexOf_0f7a4_q2 : GoodIn wsX2_readOrder (wsJ0_indexOf_0f7a4_r1) := goodIn_r _ [17, 18, 19, 15, 20, 21, 22, 23, 24, 25, 26, 27, 28, 29, 30, 31, 32, 33, 34, 35, 36, 37, 38, 39] (by decide +kernel) (by decide +kernel)
set_option maxRecDepth 20000 in
theorem ggX2_readOrder_J0_indexOf_0f7a4_q3 : GoodIn wsX2_readOrder (wsJ0_indexOf_0f7a4_r2) := goodIn_r _ [40, 41, 42, 43, 44, 45, 46, 47, 48, 49, 50, 51, 52, 53, 54, 55, 56, 57, 58, 59, 60, 61, 62, 63] (by decide +kernel) (by decide +kernel)
set_option maxRecDepth 20000 in
theorem ggX2_readOrder_J0_indexOf_0f7a4_q4 : GoodIn wsX2_readOrder (wsJ0_indexOf_0f7a4_r3) := goodIn_r _ [64, 65, 66, 67, 68, 69, 70, 71, 72, 73, 74, 75, 76, 77, 78, 79, 80, 81, 82, 83, 84, 85, 86, 87] (by decide +kernel) (by decide +kernel)
set_option maxRecDepth 20000 in
theorem ggX2_readOrder_J0_indexOf_0f7a4_q5 : GoodIn wsX2_readOrder (wsJ0_indexOf_0f7a4_r4) := goodIn_r _ [88, 89, 90, 91, 92, 93, 94, 95, 96, 97, 98, 99, 100] (by decide +kernel) (by decide +kernel)
theorem ggX2_readOrder_J0_indexOf_0f7a4 : GoodIn wsX2_readOrder wsJ0_indexOf_0f7a4 := (goodIn_app (a := [Cond.code yJ0_indexOf_0f7a4 cJ0_indexOf_0f7a4 2 (some .int)]) ggX2_readOrder_J0_indexOf_0f7a4_q1 (goodIn_app ggX2_readOrder_J0_indexOf_0f7a4_q2 (goodIn_app ggX2_readOrder_J0_indexOf_0f7a4_q3 (goodIn_app ggX2_readOrder_J0_indexOf_0f7a4_q4 ggX2_readOrder_J0_indexOf_0f7a4_q5))))
set_option maxRecDepth 20000 in
theorem gX2_readOrder_J0_indexOf_0f7a4 : GoodIn wsX2_readOrder (wsV RX2 49 RJ0 yJ0_indexOf_0f7a4 wsJ0_indexOf_0f7a4) := goodIn_app (goodIn_of _ (by decide +kernel)) ggX2_readOrder_J0_indexOf_0f7a4
set_option maxRecDepth 20000 in
theorem ggX2_readOrder_J0_charAt_5068e : GoodIn wsX2_readOrder wsJ0_charAt_5068e := goodIn_r _ [104, 21, 22, 23, 24, 15, 25, 26, 27, 105, 106, 38, 107, 108, 109, 110, 72, 111, 112, 75, 113, 114, 115, 55, 116, 117, 118, 119, 66, 67, 68, 120, 80, 81, 82, 83, 84, 85] (by decide +kernel) (by decide +kernel)
set_option maxRecDepth 20000 in
theorem gX2_readOrder_J0_charAt_5068e : GoodIn wsX2_readOrder (wsV RX2 60 RJ0 yJ0_charAt_5068e wsJ0_charAt_5068e) := goodIn_app (goodIn_of _ (by decide +kernel)) ggX2_readOrder_J0_charAt_5068e
set_option maxRecDepth 20000 in
theorem ggX2_readOrder_X2_stands : GoodIn wsX2_readOrder wsX2_stands := goodIn_r _ [124, 2, 11, 1, 139, 140, 141, 142, 143, 144] (by decide +kernel) (by decide +kernel)
set_option maxRecDepth 20000 in
theorem gX2_readOrder_X2_stands : GoodIn wsX2_readOrder (wsV RX2 64 RX2 yX2_stands wsX2_stands) := goodIn_app (goodIn_of _ (by decide +kernel)) ggX2_readOrder_X2_stands
set_option maxRecDepth 20000 in
theorem ggX2_readOrder_X2_skip : GoodIn wsX2_readOrder wsX2_skip := goodIn_r _ [128, 2, 121, 122, 123, 9, 124, 11, 1, 139, 140, 141, 142, 143, 144] (by decide +kernel) (by decide +kernel)
set_option maxRecDepth 20000 in
theorem gX2_readOrder_X2_skip : GoodIn wsX2_readOrder (wsV RX2 43 RX2 yX2_skip wsX2_skip) := goodIn_app (goodIn_of _ (by decide +kernel)) ggX2_readOrder_X2_skip
set_option maxRecDepth 20000 in
theorem ggX2_readOrder_X2_readNumber : GoodIn wsX2_readOrder wsX2_readNumber := goodIn_r _ [132, 4, 2, 11, 1, 133, 134, 135, 136, 137, 9, 138, 139, 140, 141, 142, 143, 144] (by decide +kernel) (by decide +kernel)
set_option maxRecDepth 20000 in
theorem gX2_readOrder_X2_readNumber : GoodIn wsX2_readOrder (wsV RX2 73 RX2 yX2_readNumber wsX2_readNumber) := goodIn_app (goodIn_of _ (by decide +kernel)) ggX2_readOrder_X2_readNumber
theorem dX2_readOrder_0 : decode cX2_readOrder 0 = .ok (.aload_n 0, 1) := by decide +kernel
theorem dX2_readOrder_1 : decode cX2_readOrder 1 = .ok (.aload_n 0, 1) := by decide +kernel
theorem dX2_readOrder_2 : decode cX2_readOrder 2 = .ok (.invokevirtual 40, 3) := by decide +kernel
theorem dX2_readOrder_5 : decode cX2_readOrder 5 = .ok (.ifCond .eq 7, 3) := by decide +kernel
theorem dX2_readOrder_8 : decode cX2_readOrder 8 = .ok (.iconst (-1), 1) := by decide +kernel
theorem dX2_readOrder_9 : decode cX2_readOrder 9 = .ok (.goto 17, 3) := by decide +kernel
theorem dX2_readOrder_12 : decode cX2_readOrder 12 = .ok (.ldc 47, 2) := by decide +kernel
theorem dX2_readOrder_14 : decode cX2_readOrder 14 = .ok (.aload_n 0, 1) := by decide +kernel
theorem dX2_readOrder_15 : decode cX2_readOrder 15 = .ok (.getfield 9, 3) := by decide +kernel
theorem dX2_readOrder_18 : decode cX2_readOrder 18 = .ok (.aload_n 0, 1) := by decide +kernel
theorem dX2_readOrder_19 : decode cX2_readOrder 19 = .ok (.getfield 19, 3) := by decide +kernel
theorem dX2_readOrder_22 : decode cX2_readOrder 22 = .ok (.caload, 1) := by decide +kernel
theorem dX2_readOrder_23 : decode cX2_readOrder 23 = .ok (.invokevirtual 49, 3) := by decide +kernel
theorem dX2_readOrder_26 : decode cX2_readOrder 26 = .ok (.putfield 22, 3) := by decide +kernel
theorem dX2_readOrder_29 : decode cX2_readOrder 29 = .ok (.aload_n 0, 1) := by decide +kernel
theorem dX2_readOrder_30 : decode cX2_readOrder 30 = .ok (.getfield 22, 3) := by decide +kernel
theorem dX2_readOrder_33 : decode cX2_readOrder 33 = .ok (.ifCond .ge 5, 3) := by decide +kernel
theorem dX2_readOrder_36 : decode cX2_readOrder 36 = .ok (.iconst 0, 1) := by decide +kernel
theorem dX2_readOrder_37 : decode cX2_readOrder 37 = .ok (.ireturn, 1) := by decide +kernel
theorem dX2_readOrder_38 : decode cX2_readOrder 38 = .ok (.getstatic 55, 3) := by decide +kernel
theorem dX2_readOrder_41 : decode cX2_readOrder 41 = .ok (.aload_n 0, 1) := by decide +kernel
theorem dX2_readOrder_42 : decode cX2_readOrder 42 = .ok (.getfield 22, 3) := by decide +kernel
theorem dX2_readOrder_45 : decode cX2_readOrder 45 = .ok (.iaload, 1) := by decide +kernel
theorem dX2_readOrder_46 : decode cX2_readOrder 46 = .ok (.istore_n 1, 1) := by decide +kernel
theorem dX2_readOrder_47 : decode cX2_readOrder 47 = .ok (.iload_n 1, 1) := by decide +kernel
theorem dX2_readOrder_48 : decode cX2_readOrder 48 = .ok (.istore_n 2, 1) := by decide +kernel
theorem dX2_readOrder_49 : decode cX2_readOrder 49 = .ok (.iload_n 2, 1) := by decide +kernel
theorem dX2_readOrder_50 : decode cX2_readOrder 50 = .ok (.getstatic 55, 3) := by decide +kernel
theorem dX2_readOrder_53 : decode cX2_readOrder 53 = .ok (.aload_n 0, 1) := by decide +kernel
theorem dX2_readOrder_54 : decode cX2_readOrder 54 = .ok (.getfield 22, 3) := by decide +kernel
theorem dX2_readOrder_57 : decode cX2_readOrder 57 = .ok (.iconst 1, 1) := by decide +kernel
theorem dX2_readOrder_58 : decode cX2_readOrder 58 = .ok (.iadd, 1) := by decide +kernel
theorem dX2_readOrder_59 : decode cX2_readOrder 59 = .ok (.iaload, 1) := by decide +kernel
theorem dX2_readOrder_60 : decode cX2_readOrder 60 = .ok (.if_icmp .ge 79, 3) := by decide +kernel
theorem dX2_readOrder_63 : decode cX2_readOrder 63 = .ok (.iload_n 2, 1) := by decide +kernel
theorem dX2_readOrder_64 : decode cX2_readOrder 64 = .ok (.iconst 4, 1) := by decide +kernel
theorem dX2_readOrder_65 : decode cX2_readOrder 65 = .ok (.if_icmp .ne 24, 3) := by decide +kernel
theorem dX2_readOrder_68 : decode cX2_readOrder 68 = .ok (.aload_n 0, 1) := by decide +kernel
theorem dX2_readOrder_69 : decode cX2_readOrder 69 = .ok (.ldc 58, 2) := by decide +kernel
theorem dX2_readOrder_71 : decode cX2_readOrder 71 = .ok (.iload_n 2, 1) := by decide +kernel
theorem dX2_readOrder_72 : decode cX2_readOrder 72 = .ok (.invokevirtual 60, 3) := by decide +kernel
theorem dX2_readOrder_75 : decode cX2_readOrder 75 = .ok (.invokevirtual 64, 3) := by decide +kernel
theorem dX2_readOrder_78 : decode cX2_readOrder 78 = .ok (.ifCond .ne 11, 3) := by decide +kernel
theorem dX2_readOrder_81 : decode cX2_readOrder 81 = .ok (.aload_n 0, 1) := by decide +kernel
theorem dX2_readOrder_82 : decode cX2_readOrder 82 = .ok (.iconst 0, 1) := by decide +kernel
theorem dX2_readOrder_83 : decode cX2_readOrder 83 = .ok (.putfield 29, 3) := by decide +kernel
theorem dX2_readOrder_86 : decode cX2_readOrder 86 = .ok (.goto 35, 3) := by decide +kernel
theorem dX2_readOrder_89 : decode cX2_readOrder 89 = .ok (.aload_n 0, 1) := by decide +kernel
theorem dX2_readOrder_90 : decode cX2_readOrder 90 = .ok (.ldc 58, 2) := by decide +kernel
theorem dX2_readOrder_92 : decode cX2_readOrder 92 = .ok (.iload_n 2, 1) := by decide +kernel
theorem dX2_readOrder_93 : decode cX2_readOrder 93 = .ok (.invokevirtual 60, 3) := by decide +kernel
theorem dX2_readOrder_96 : decode cX2_readOrder 96 = .ok (.invokevirtual 43, 3) := by decide +kernel
theorem dX2_readOrder_99 : decode cX2_readOrder 99 = .ok (.ifCond .eq 20, 3) := by decide +kernel
theorem dX2_readOrder_102 : decode cX2_readOrder 102 = .ok (.aload_n 0, 1) := by decide +kernel
theorem dX2_readOrder_103 : decode cX2_readOrder 103 = .ok (.getstatic 67, 3) := by decide +kernel
theorem dX2_readOrder_106 : decode cX2_readOrder 106 = .ok (.iload_n 2, 1) := by decide +kernel
theorem dX2_readOrder_107 : decode cX2_readOrder 107 = .ok (.iaload, 1) := by decide +kernel
theorem dX2_readOrder_108 : decode cX2_readOrder 108 = .ok (.getstatic 70, 3) := by decide +kernel
theorem dX2_readOrder_111 : decode cX2_readOrder 111 = .ok (.iload_n 2, 1) := by decide +kernel
theorem dX2_readOrder_112 : decode cX2_readOrder 112 = .ok (.iaload, 1) := by decide +kernel
theorem dX2_readOrder_113 : decode cX2_readOrder 113 = .ok (.invokevirtual 73, 3) := by decide +kernel
theorem dX2_readOrder_116 : decode cX2_readOrder 116 = .ok (.ifCond .ne 5, 3) := by decide +kernel
theorem dX2_readOrder_119 : decode cX2_readOrder 119 = .ok (.iconst 0, 1) := by decide +kernel
theorem dX2_readOrder_120 : decode cX2_readOrder 120 = .ok (.ireturn, 1) := by decide +kernel
theorem dX2_readOrder_121 : decode cX2_readOrder 121 = .ok (.aload_n 0, 1) := by decide +kernel
theorem dX2_readOrder_122 : decode cX2_readOrder 122 = .ok (.getfield 25, 3) := by decide +kernel
theorem dX2_readOrder_125 : decode cX2_readOrder 125 = .ok (.iload_n 2, 1) := by decide +kernel
theorem dX2_readOrder_126 : decode cX2_readOrder 126 = .ok (.iload_n 1, 1) := by decide +kernel
theorem dX2_readOrder_127 : decode cX2_readOrder 127 = .ok (.isub, 1) := by decide +kernel
theorem dX2_readOrder_128 : decode cX2_readOrder 128 = .ok (.aload_n 0, 1) := by decide +kernel
theorem dX2_readOrder_129 : decode cX2_readOrder 129 = .ok (.getfield 29, 3) := by decide +kernel
theorem dX2_readOrder_132 : decode cX2_readOrder 132 = .ok (.iastore, 1) := by decide +kernel
theorem dX2_readOrder_133 : decode cX2_readOrder 133 = .ok (.iinc 2 1, 3) := by decide +kernel
theorem dX2_readOrder_136 : decode cX2_readOrder 136 = .ok (.goto (-87), 3) := by decide +kernel
theorem dX2_readOrder_139 : decode cX2_readOrder 139 = .ok (.iconst 1, 1) := by decide +kernel
theorem dX2_readOrder_140 : decode cX2_readOrder 140 = .ok (.ireturn, 1) := by decide +kernel
theorem dX2_stands_0 : decode cX2_stands 0 = .ok (.aload_n 0, 1) := by decide +kernel
theorem dX2_stands_1 : decode cX2_stands 1 = .ok (.getfield 19, 3) := by decide +kernel
theorem dX2_stands_4 : decode cX2_stands 4 = .ok (.aload_n 0, 1) := by decide +kernel
theorem dX2_stands_5 : decode cX2_stands 5 = .ok (.getfield 15, 3) := by decide +kernel
theorem dX2_stands_8 : decode cX2_stands 8 = .ok (.if_icmp .ge 20, 3) := by decide +kernel
theorem dX2_stands_11 : decode cX2_stands 11 = .ok (.aload_n 0, 1) := by decide +kernel
theorem dX2_stands_12 : decode cX2_stands 12 = .ok (.getfield 9, 3) := by decide +kernel
theorem dX2_stands_15 : decode cX2_stands 15 = .ok (.aload_n 0, 1) := by decide +kernel
theorem dX2_stands_16 : decode cX2_stands 16 = .ok (.getfield 19, 3) := by decide +kernel
theorem dX2_stands_19 : decode cX2_stands 19 = .ok (.caload, 1) := by decide +kernel
theorem dX2_stands_20 : decode cX2_stands 20 = .ok (.iload_n 1, 1) := by decide +kernel
theorem dX2_stands_21 : decode cX2_stands 21 = .ok (.if_icmp .ne 7, 3) := by decide +kernel
theorem dX2_stands_24 : decode cX2_stands 24 = .ok (.iconst 1, 1) := by decide +kernel
theorem dX2_stands_25 : decode cX2_stands 25 = .ok (.goto 4, 3) := by decide +kernel
theorem dX2_stands_28 : decode cX2_stands 28 = .ok (.iconst 0, 1) := by decide +kernel
theorem dX2_stands_29 : decode cX2_stands 29 = .ok (.ireturn, 1) := by decide +kernel
set_option maxRecDepth 20000 in
theorem ggX2_skip_X2_stands : GoodIn wsX2_skip wsX2_stands := goodIn_r _ [6, 1, 7, 8, 9, 10, 11, 12, 13, 14] (by decide +kernel) (by decide +kernel)
set_option maxRecDepth 20000 in
theorem gX2_skip_X2_stands : GoodIn wsX2_skip (wsV RX2 64 RX2 yX2_stands wsX2_stands) := goodIn_app (goodIn_of _ (by decide +kernel)) ggX2_skip_X2_stands
theorem dX2_skip_0 : decode cX2_skip 0 = .ok (.aload_n 0, 1) := by decide +kernel
theorem dX2_skip_1 : decode cX2_skip 1 = .ok (.iload_n 1, 1) := by decide +kernel
theorem dX2_skip_2 : decode cX2_skip 2 = .ok (.invokevirtual 64, 3) := by decide +kernel
theorem dX2_skip_5 : decode cX2_skip 5 = .ok (.ifCond .ne 5, 3) := by decide +kernel
theorem dX2_skip_8 : decode cX2_skip 8 = .ok (.iconst 0, 1) := by decide +kernel
theorem dX2_skip_9 : decode cX2_skip 9 = .ok (.ireturn, 1) := by decide +kernel
theorem dX2_skip_10 : decode cX2_skip 10 = .ok (.aload_n 0, 1) := by decide +kernel
theorem dX2_skip_11 : decode cX2_skip 11 = .ok (.dup, 1) := by decide +kernel
theorem dX2_skip_12 : decode cX2_skip 12 = .ok (.getfield 19, 3) := by decide +kernel
theorem dX2_skip_15 : decode cX2_skip 15 = .ok (.iconst 1, 1) := by decide +kernel
theorem dX2_skip_16 : decode cX2_skip 16 = .ok (.iadd, 1) := by decide +kernel
theorem dX2_skip_17 : decode cX2_skip 17 = .ok (.putfield 19, 3) := by decide +kernel
theorem dX2_skip_20 : decode cX2_skip 20 = .ok (.iconst 1, 1) := by decide +kernel
theorem dX2_skip_21 : decode cX2_skip 21 = .ok (.ireturn, 1) := by decide +kernel
set_option maxRecDepth 20000 in
theorem ggX2_readNumber_X6_isWithin : GoodIn wsX2_readNumber wsX6_isWithin := goodIn_r _ [7] (by decide +kernel) (by decide +kernel)
set_option maxRecDepth 20000 in
theorem gX2_readNumber_X6_isWithin_n77 : GoodIn wsX2_readNumber (wsX6_isWithin) := ggX2_readNumber_X6_isWithin
set_option maxRecDepth 20000 in
theorem ggX2_readNumber_X2_canBegin : GoodIn wsX2_readNumber wsX2_canBegin := goodIn_r _ [11] (by decide +kernel) (by decide +kernel)
set_option maxRecDepth 20000 in
theorem gX2_readNumber_X2_canBegin : GoodIn wsX2_readNumber (va_wsS RX2 81 yX2_canBegin wsX2_canBegin) := goodIn_app (goodIn_of _ (by decide +kernel)) ggX2_readNumber_X2_canBegin
theorem dX2_readNumber_0 : decode cX2_readNumber 0 = .ok (.aload_n 0, 1) := by decide +kernel
theorem dX2_readNumber_1 : decode cX2_readNumber 1 = .ok (.iconst 0, 1) := by decide +kernel
theorem dX2_readNumber_2 : decode cX2_readNumber 2 = .ok (.putfield 29, 3) := by decide +kernel
theorem dX2_readNumber_5 : decode cX2_readNumber 5 = .ok (.iconst 0, 1) := by decide +kernel
theorem dX2_readNumber_6 : decode cX2_readNumber 6 = .ok (.istore_n 3, 1) := by decide +kernel
theorem dX2_readNumber_7 : decode cX2_readNumber 7 = .ok (.aload_n 0, 1) := by decide +kernel
theorem dX2_readNumber_8 : decode cX2_readNumber 8 = .ok (.getfield 19, 3) := by decide +kernel
theorem dX2_readNumber_11 : decode cX2_readNumber 11 = .ok (.aload_n 0, 1) := by decide +kernel
theorem dX2_readNumber_12 : decode cX2_readNumber 12 = .ok (.getfield 15, 3) := by decide +kernel
theorem dX2_readNumber_15 : decode cX2_readNumber 15 = .ok (.if_icmp .ge 101, 3) := by decide +kernel
theorem dX2_readNumber_18 : decode cX2_readNumber 18 = .ok (.aload_n 0, 1) := by decide +kernel
theorem dX2_readNumber_19 : decode cX2_readNumber 19 = .ok (.getfield 9, 3) := by decide +kernel
theorem dX2_readNumber_22 : decode cX2_readNumber 22 = .ok (.aload_n 0, 1) := by decide +kernel
theorem dX2_readNumber_23 : decode cX2_readNumber 23 = .ok (.getfield 19, 3) := by decide +kernel
theorem dX2_readNumber_26 : decode cX2_readNumber 26 = .ok (.caload, 1) := by decide +kernel
theorem dX2_readNumber_27 : decode cX2_readNumber 27 = .ok (.bipush 48, 2) := by decide +kernel
theorem dX2_readNumber_29 : decode cX2_readNumber 29 = .ok (.bipush 57, 2) := by decide +kernel
theorem dX2_readNumber_31 : decode cX2_readNumber 31 = .ok (.invokestatic 77, 3) := by decide +kernel
theorem dX2_readNumber_34 : decode cX2_readNumber 34 = .ok (.ifCond .eq 82, 3) := by decide +kernel
theorem dX2_readNumber_37 : decode cX2_readNumber 37 = .ok (.aload_n 0, 1) := by decide +kernel
theorem dX2_readNumber_38 : decode cX2_readNumber 38 = .ok (.getfield 29, 3) := by decide +kernel
theorem dX2_readNumber_41 : decode cX2_readNumber 41 = .ok (.bipush 10, 2) := by decide +kernel
theorem dX2_readNumber_43 : decode cX2_readNumber 43 = .ok (.imul, 1) := by decide +kernel
theorem dX2_readNumber_44 : decode cX2_readNumber 44 = .ok (.aload_n 0, 1) := by decide +kernel
theorem dX2_readNumber_45 : decode cX2_readNumber 45 = .ok (.getfield 9, 3) := by decide +kernel
theorem dX2_readNumber_48 : decode cX2_readNumber 48 = .ok (.aload_n 0, 1) := by decide +kernel
theorem dX2_readNumber_49 : decode cX2_readNumber 49 = .ok (.getfield 19, 3) := by decide +kernel
theorem dX2_readNumber_52 : decode cX2_readNumber 52 = .ok (.caload, 1) := by decide +kernel
theorem dX2_readNumber_53 : decode cX2_readNumber 53 = .ok (.iadd, 1) := by decide +kernel
theorem dX2_readNumber_54 : decode cX2_readNumber 54 = .ok (.bipush 48, 2) := by decide +kernel
theorem dX2_readNumber_56 : decode cX2_readNumber 56 = .ok (.isub, 1) := by decide +kernel
theorem dX2_readNumber_57 : decode cX2_readNumber 57 = .ok (.istore 4, 2) := by decide +kernel
theorem dX2_readNumber_59 : decode cX2_readNumber 59 = .ok (.iload_n 3, 1) := by decide +kernel
theorem dX2_readNumber_60 : decode cX2_readNumber 60 = .ok (.ifCond .le 14, 3) := by decide +kernel
theorem dX2_readNumber_63 : decode cX2_readNumber 63 = .ok (.aload_n 0, 1) := by decide +kernel
theorem dX2_readNumber_64 : decode cX2_readNumber 64 = .ok (.getfield 29, 3) := by decide +kernel
theorem dX2_readNumber_67 : decode cX2_readNumber 67 = .ok (.ifCond .ne 7, 3) := by decide +kernel
theorem dX2_readNumber_70 : decode cX2_readNumber 70 = .ok (.iconst 1, 1) := by decide +kernel
theorem dX2_readNumber_71 : decode cX2_readNumber 71 = .ok (.goto 4, 3) := by decide +kernel
theorem dX2_readNumber_74 : decode cX2_readNumber 74 = .ok (.iconst 0, 1) := by decide +kernel
theorem dX2_readNumber_75 : decode cX2_readNumber 75 = .ok (.istore 5, 2) := by decide +kernel
theorem dX2_readNumber_77 : decode cX2_readNumber 77 = .ok (.iload 5, 2) := by decide +kernel
theorem dX2_readNumber_79 : decode cX2_readNumber 79 = .ok (.ifCond .ne 13, 3) := by decide +kernel
theorem dX2_readNumber_82 : decode cX2_readNumber 82 = .ok (.iload 4, 2) := by decide +kernel
theorem dX2_readNumber_84 : decode cX2_readNumber 84 = .ok (.iload_n 1, 1) := by decide +kernel
theorem dX2_readNumber_85 : decode cX2_readNumber 85 = .ok (.iload_n 2, 1) := by decide +kernel
theorem dX2_readNumber_86 : decode cX2_readNumber 86 = .ok (.invokestatic 81, 3) := by decide +kernel
theorem dX2_readNumber_89 : decode cX2_readNumber 89 = .ok (.ifCond .ne 5, 3) := by decide +kernel
theorem dX2_readNumber_92 : decode cX2_readNumber 92 = .ok (.iconst 0, 1) := by decide +kernel
theorem dX2_readNumber_93 : decode cX2_readNumber 93 = .ok (.ireturn, 1) := by decide +kernel
theorem dX2_readNumber_94 : decode cX2_readNumber 94 = .ok (.aload_n 0, 1) := by decide +kernel
theorem dX2_readNumber_95 : decode cX2_readNumber 95 = .ok (.iload 4, 2) := by decide +kernel
theorem dX2_readNumber_97 : decode cX2_readNumber 97 = .ok (.putfield 29, 3) := by decide +kernel
theorem dX2_readNumber_100 : decode cX2_readNumber 100 = .ok (.iinc 3 1, 3) := by decide +kernel
theorem dX2_readNumber_103 : decode cX2_readNumber 103 = .ok (.aload_n 0, 1) := by decide +kernel
theorem dX2_readNumber_104 : decode cX2_readNumber 104 = .ok (.dup, 1) := by decide +kernel
theorem dX2_readNumber_105 : decode cX2_readNumber 105 = .ok (.getfield 19, 3) := by decide +kernel
theorem dX2_readNumber_108 : decode cX2_readNumber 108 = .ok (.iconst 1, 1) := by decide +kernel
theorem dX2_readNumber_109 : decode cX2_readNumber 109 = .ok (.iadd, 1) := by decide +kernel
theorem dX2_readNumber_110 : decode cX2_readNumber 110 = .ok (.putfield 19, 3) := by decide +kernel
theorem dX2_readNumber_113 : decode cX2_readNumber 113 = .ok (.goto (-106), 3) := by decide +kernel
theorem dX2_readNumber_116 : decode cX2_readNumber 116 = .ok (.iload_n 3, 1) := by decide +kernel
theorem dX2_readNumber_117 : decode cX2_readNumber 117 = .ok (.ifCond .le 19, 3) := by decide +kernel
theorem dX2_readNumber_120 : decode cX2_readNumber 120 = .ok (.aload_n 0, 1) := by decide +kernel
theorem dX2_readNumber_121 : decode cX2_readNumber 121 = .ok (.getfield 29, 3) := by decide +kernel
theorem dX2_readNumber_124 : decode cX2_readNumber 124 = .ok (.iload_n 1, 1) := by decide +kernel
theorem dX2_readNumber_125 : decode cX2_readNumber 125 = .ok (.iload_n 2, 1) := by decide +kernel
theorem dX2_readNumber_126 : decode cX2_readNumber 126 = .ok (.invokestatic 77, 3) := by decide +kernel
theorem dX2_readNumber_129 : decode cX2_readNumber 129 = .ok (.ifCond .eq 7, 3) := by decide +kernel
theorem dX2_readNumber_132 : decode cX2_readNumber 132 = .ok (.iconst 1, 1) := by decide +kernel
theorem dX2_readNumber_133 : decode cX2_readNumber 133 = .ok (.goto 4, 3) := by decide +kernel
theorem dX2_readNumber_136 : decode cX2_readNumber 136 = .ok (.iconst 0, 1) := by decide +kernel
theorem dX2_readNumber_137 : decode cX2_readNumber 137 = .ok (.ireturn, 1) := by decide +kernel
theorem dX2_canBegin_0 : decode cX2_canBegin 0 = .ok (.iload_n 0, 1) := by decide +kernel
theorem dX2_canBegin_1 : decode cX2_canBegin 1 = .ok (.ifCond .ne 13, 3) := by decide +kernel
theorem dX2_canBegin_4 : decode cX2_canBegin 4 = .ok (.iload_n 1, 1) := by decide +kernel
theorem dX2_canBegin_5 : decode cX2_canBegin 5 = .ok (.ifCond .ne 7, 3) := by decide +kernel
theorem dX2_canBegin_8 : decode cX2_canBegin 8 = .ok (.iconst 1, 1) := by decide +kernel
theorem dX2_canBegin_9 : decode cX2_canBegin 9 = .ok (.goto 4, 3) := by decide +kernel
theorem dX2_canBegin_12 : decode cX2_canBegin 12 = .ok (.iconst 0, 1) := by decide +kernel
theorem dX2_canBegin_13 : decode cX2_canBegin 13 = .ok (.ireturn, 1) := by decide +kernel
theorem dX2_canBegin_14 : decode cX2_canBegin 14 = .ok (.iload_n 0, 1) := by decide +kernel
theorem dX2_canBegin_15 : decode cX2_canBegin 15 = .ok (.istore_n 3, 1) := by decide +kernel
theorem dX2_canBegin_16 : decode cX2_canBegin 16 = .ok (.iload_n 0, 1) := by decide +kernel
theorem dX2_canBegin_17 : decode cX2_canBegin 17 = .ok (.istore 4, 2) := by decide +kernel
theorem dX2_canBegin_19 : decode cX2_canBegin 19 = .ok (.iconst 0, 1) := by decide +kernel
theorem dX2_canBegin_20 : decode cX2_canBegin 20 = .ok (.istore 5, 2) := by decide +kernel
theorem dX2_canBegin_22 : decode cX2_canBegin 22 = .ok (.iload 5, 2) := by decide +kernel
theorem dX2_canBegin_24 : decode cX2_canBegin 24 = .ok (.iconst 4, 1) := by decide +kernel
theorem dX2_canBegin_25 : decode cX2_canBegin 25 = .ok (.if_icmp .ge 37, 3) := by decide +kernel
theorem dX2_canBegin_28 : decode cX2_canBegin 28 = .ok (.iload_n 3, 1) := by decide +kernel
theorem dX2_canBegin_29 : decode cX2_canBegin 29 = .ok (.iload_n 2, 1) := by decide +kernel
theorem dX2_canBegin_30 : decode cX2_canBegin 30 = .ok (.if_icmp .gt 32, 3) := by decide +kernel
theorem dX2_canBegin_33 : decode cX2_canBegin 33 = .ok (.iload 4, 2) := by decide +kernel
theorem dX2_canBegin_35 : decode cX2_canBegin 35 = .ok (.iload_n 1, 1) := by decide +kernel
theorem dX2_canBegin_36 : decode cX2_canBegin 36 = .ok (.if_icmp .lt 5, 3) := by decide +kernel
theorem dX2_canBegin_39 : decode cX2_canBegin 39 = .ok (.iconst 1, 1) := by decide +kernel
theorem dX2_canBegin_40 : decode cX2_canBegin 40 = .ok (.ireturn, 1) := by decide +kernel
theorem dX2_canBegin_41 : decode cX2_canBegin 41 = .ok (.iload_n 3, 1) := by decide +kernel
theorem dX2_canBegin_42 : decode cX2_canBegin 42 = .ok (.bipush 10, 2) := by decide +kernel
theorem dX2_canBegin_44 : decode cX2_canBegin 44 = .ok (.imul, 1) := by decide +kernel
theorem dX2_canBegin_45 : decode cX2_canBegin 45 = .ok (.istore_n 3, 1) := by decide +kernel
theorem dX2_canBegin_46 : decode cX2_canBegin 46 = .ok (.iload 4, 2) := by decide +kernel
theorem dX2_canBegin_48 : decode cX2_canBegin 48 = .ok (.bipush 10, 2) := by decide +kernel
theorem dX2_canBegin_50 : decode cX2_canBegin 50 = .ok (.imul, 1) := by decide +kernel
theorem dX2_canBegin_51 : decode cX2_canBegin 51 = .ok (.bipush 9, 2) := by decide +kernel
theorem dX2_canBegin_53 : decode cX2_canBegin 53 = .ok (.iadd, 1) := by decide +kernel
theorem dX2_canBegin_54 : decode cX2_canBegin 54 = .ok (.istore 4, 2) := by decide +kernel
theorem dX2_canBegin_56 : decode cX2_canBegin 56 = .ok (.iinc 5 1, 3) := by decide +kernel
theorem dX2_canBegin_59 : decode cX2_canBegin 59 = .ok (.goto (-37), 3) := by decide +kernel
theorem dX2_canBegin_62 : decode cX2_canBegin 62 = .ok (.iconst 0, 1) := by decide +kernel
theorem dX2_canBegin_63 : decode cX2_canBegin 63 = .ok (.ireturn, 1) := by decide +kernel
theorem dX3_init_0 : decode cX3_init 0 = .ok (.aload_n 0, 1) := by decide +kernel
theorem dX3_init_1 : decode cX3_init 1 = .ok (.invokespecial 3, 3) := by decide +kernel
theorem dX3_init_4 : decode cX3_init 4 = .ok (.aload_n 0, 1) := by decide +kernel
theorem dX3_init_5 : decode cX3_init 5 = .ok (.bipush 30, 2) := by decide +kernel
theorem dX3_init_7 : decode cX3_init 7 = .ok (.newarray .int, 2) := by decide +kernel
theorem dX3_init_9 : decode cX3_init 9 = .ok (.putfield 9, 3) := by decide +kernel
theorem dX3_init_12 : decode cX3_init 12 = .ok (.aload_n 0, 1) := by decide +kernel
theorem dX3_init_13 : decode cX3_init 13 = .ok (.bipush 30, 2) := by decide +kernel
theorem dX3_init_15 : decode cX3_init 15 = .ok (.newarray .int, 2) := by decide +kernel
theorem dX3_init_17 : decode cX3_init 17 = .ok (.putfield 15, 3) := by decide +kernel
theorem dX3_init_20 : decode cX3_init 20 = .ok (.aload_n 0, 1) := by decide +kernel
theorem dX3_init_21 : decode cX3_init 21 = .ok (.iconst 4, 1) := by decide +kernel
theorem dX3_init_22 : decode cX3_init 22 = .ok (.newarray .int, 2) := by decide +kernel
theorem dX3_init_24 : decode cX3_init 24 = .ok (.putfield 18, 3) := by decide +kernel
theorem dX3_init_27 : decode cX3_init 27 = .ok (.aload_n 0, 1) := by decide +kernel
theorem dX3_init_28 : decode cX3_init 28 = .ok (.bipush 16, 2) := by decide +kernel
theorem dX3_init_30 : decode cX3_init 30 = .ok (.newarray .int, 2) := by decide +kernel
theorem dX3_init_32 : decode cX3_init 32 = .ok (.putfield 21, 3) := by decide +kernel
theorem dX3_init_35 : decode cX3_init 35 = .ok (.aload_n 0, 1) := by decide +kernel
theorem dX3_init_36 : decode cX3_init 36 = .ok (.bipush 30, 2) := by decide +kernel
theorem dX3_init_38 : decode cX3_init 38 = .ok (.newarray .int, 2) := by decide +kernel
theorem dX3_init_40 : decode cX3_init 40 = .ok (.putfield 24, 3) := by decide +kernel
theorem dX3_init_43 : decode cX3_init 43 = .ok (.return_, 1) := by decide +kernel
set_option maxRecDepth 20000 in
theorem ggX3_tell_X0_hasHeld : GoodIn wsX3_tell wsX0_hasHeld := goodIn_r _ [12, 13, 14, 15, 109, 110, 111, 112, 113, 114, 115, 116, 117, 118, 119, 120, 121, 122, 123, 124, 125, 126] (by decide +kernel) (by decide +kernel)
set_option maxRecDepth 20000 in
theorem gX3_tell_X0_hasHeld : GoodIn wsX3_tell (wsV RX3 27 RX0 yX0_hasHeld wsX0_hasHeld) := goodIn_app (goodIn_of _ (by decide +kernel)) ggX3_tell_X0_hasHeld
set_option maxRecDepth 20000 in
theorem ggX3_tell_X3_make_q1 : GoodIn wsX3_tell ([Cond.code yX3_make cX3_make 6 none]) := goodIn_r _ [20] (by decide +kernel) (by decide +kernel)
set_option maxRecDepth 20000 in
theorem ggX3_tell_X3_make_q2 : GoodIn wsX3_tell (wsX3_make_r1) := goodIn_r _ [3, 1, 21, 22, 4, 5, 6, 7, 23, 24, 25, 26, 27, 28, 19, 29, 30, 31, 32, 33, 11, 34, 35, 36] (by decide +kernel) (by decide +kernel)
set_option maxRecDepth 20000 in
theorem ggX3_tell_X3_make_q3 : GoodIn wsX3_tell (wsX3_make_r2) := goodIn_r _ [37, 38, 39, 40, 41, 42, 43, 44, 45, 46, 47, 48, 49, 50, 51, 52, 53, 54, 55, 56, 57, 58, 59, 60] (by decide +kernel) (by decide +kernel)
set_option maxRecDepth 20000 in
theorem ggX3_tell_X3_make_q4 : GoodIn wsX3_tell (wsX3_make_r3) := goodIn_r _ [61, 62, 63, 64, 65, 13, 14, 66, 67, 68, 69, 70, 71, 72, 73, 74, 75, 76, 77, 78, 79, 80, 81, 82] (by decide +kernel) (by decide +kernel)
set_option maxRecDepth 20000 in
theorem ggX3_tell_X3_make_q5 : GoodIn wsX3_tell (wsX3_make_r4) := goodIn_r _ [83, 84, 85, 86, 87, 88, 89, 90, 91, 92, 93, 94, 95, 96, 97, 98, 99, 100, 101, 102, 103, 104, 105, 106] (by decide +kernel) (by decide +kernel)
set_option maxRecDepth 20000 in
theorem ggX3_tell_X3_make_q6 : GoodIn wsX3_tell (wsX3_make_r5) := goodIn_r _ [107, 108] (by decide +kernel) (by decide +kernel)
set_option maxRecDepth 20000 in
theorem ggX3_tell_X3_make_q7 : GoodIn wsX3_tell (wsX30) := goodIn_r _ [127, 128, 129, 130, 131] (by decide +kernel) (by decide +kernel)
set_option maxRecDepth 20000 in
theorem ggX3_tell_X3_make_q8 : GoodIn wsX3_tell (wsX00) := goodIn_r _ [109, 110, 111, 112, 113, 114, 115, 116, 117, 118] (by decide +kernel) (by decide +kernel)
set_option maxRecDepth 20000 in
theorem ggX3_tell_X3_make_q9 : GoodIn wsX3_tell (wsX10) := goodIn_r _ [119, 120, 121, 122, 123, 124, 125, 126] (by decide +kernel) (by decide +kernel)
set_option maxRecDepth 20000 in
theorem ggX3_tell_X3_make_q10 : GoodIn wsX3_tell (wsX50) := goodIn_r _ [132, 133, 134, 135, 136, 137, 138, 139, 140, 141, 142, 143] (by decide +kernel) (by decide +kernel)
set_option maxRecDepth 20000 in
theorem ggX3_tell_X3_make_q11 : GoodIn wsX3_tell (wsX40) := goodIn_r _ [144, 145, 146, 147] (by decide +kernel) (by decide +kernel)
theorem ggX3_tell_X3_make : GoodIn wsX3_tell wsX3_make := (goodIn_app (a := [Cond.code yX3_make cX3_make 6 none]) ggX3_tell_X3_make_q1 (goodIn_app (goodIn_app (goodIn_app (goodIn_app (goodIn_app (goodIn_app ggX3_tell_X3_make_q2 (goodIn_app ggX3_tell_X3_make_q3 (goodIn_app ggX3_tell_X3_make_q4 (goodIn_app ggX3_tell_X3_make_q5 ggX3_tell_X3_make_q6)))) ggX3_tell_X3_make_q7) ggX3_tell_X3_make_q8) ggX3_tell_X3_make_q9) ggX3_tell_X3_make_q10) ggX3_tell_X3_make_q11))
set_option maxRecDepth 20000 in
theorem gX3_tell_X3_make : GoodIn wsX3_tell (wsV RX3 49 RX3 yX3_make wsX3_make) := goodIn_app (goodIn_of _ (by decide +kernel)) ggX3_tell_X3_make
theorem dX3_tell_0 : decode cX3_tell 0 = .ok (.aload_n 1, 1) := by decide +kernel
theorem dX3_tell_1 : decode cX3_tell 1 = .ok (.iload_n 2, 1) := by decide +kernel
theorem dX3_tell_2 : decode cX3_tell 2 = .ok (.invokevirtual 27, 3) := by decide +kernel
theorem dX3_tell_5 : decode cX3_tell 5 = .ok (.ifCond .eq 26, 3) := by decide +kernel
theorem dX3_tell_8 : decode cX3_tell 8 = .ok (.aload_n 1, 1) := by decide +kernel
theorem dX3_tell_9 : decode cX3_tell 9 = .ok (.getfield 33, 3) := by decide +kernel
theorem dX3_tell_12 : decode cX3_tell 12 = .ok (.getfield 37, 3) := by decide +kernel
theorem dX3_tell_15 : decode cX3_tell 15 = .ok (.iload_n 2, 1) := by decide +kernel
theorem dX3_tell_16 : decode cX3_tell 16 = .ok (.aaload, 1) := by decide +kernel
theorem dX3_tell_17 : decode cX3_tell 17 = .ok (.iconst 0, 1) := by decide +kernel
theorem dX3_tell_18 : decode cX3_tell 18 = .ok (.aload_n 0, 1) := by decide +kernel
theorem dX3_tell_19 : decode cX3_tell 19 = .ok (.getfield 9, 3) := by decide +kernel
theorem dX3_tell_22 : decode cX3_tell 22 = .ok (.iconst 0, 1) := by decide +kernel
theorem dX3_tell_23 : decode cX3_tell 23 = .ok (.bipush 30, 2) := by decide +kernel
theorem dX3_tell_25 : decode cX3_tell 25 = .ok (.invokestatic 43, 3) := by decide +kernel
theorem dX3_tell_28 : decode cX3_tell 28 = .ok (.goto 9, 3) := by decide +kernel
theorem dX3_tell_31 : decode cX3_tell 31 = .ok (.aload_n 0, 1) := by decide +kernel
theorem dX3_tell_32 : decode cX3_tell 32 = .ok (.aload_n 1, 1) := by decide +kernel
theorem dX3_tell_33 : decode cX3_tell 33 = .ok (.iload_n 2, 1) := by decide +kernel
theorem dX3_tell_34 : decode cX3_tell 34 = .ok (.invokevirtual 49, 3) := by decide +kernel
theorem dX3_tell_37 : decode cX3_tell 37 = .ok (.return_, 1) := by decide +kernel
set_option maxRecDepth 20000 in
theorem ggX3_make_X3_listWhoCanSing_q1 : GoodIn wsX3_make ([Cond.code yX3_listWhoCanSing cX3_listWhoCanSing 5 none]) := goodIn_r _ [16] (by decide +kernel) (by decide +kernel)
set_option maxRecDepth 20000 in
theorem ggX3_make_X3_listWhoCanSing_q2 : GoodIn wsX3_make (wsX3_listWhoCanSing_r1) := goodIn_r _ [9, 10, 11, 2, 17, 18, 19, 20, 21, 22, 23, 24, 25, 26, 27, 28, 29, 30, 31, 32, 33, 34, 35, 36] (by decide +kernel) (by decide +kernel)
set_option maxRecDepth 20000 in
theorem ggX3_make_X3_listWhoCanSing_q3 : GoodIn wsX3_make (wsX3_listWhoCanSing_r2) := goodIn_r _ [37, 38, 39, 40, 41, 42, 43, 44, 45, 46, 47, 48, 49, 50, 51, 52, 53, 54, 55, 56, 57, 58, 59, 60] (by decide +kernel) (by decide +kernel)
set_option maxRecDepth 20000 in
theorem ggX3_make_X3_listWhoCanSing_q4 : GoodIn wsX3_make (wsX3_listWhoCanSing_r3) := goodIn_r _ [61, 62, 63] (by decide +kernel) (by decide +kernel)
set_option maxRecDepth 20000 in
theorem ggX3_make_X3_listWhoCanSing_q5 : GoodIn wsX3_make (wsX00) := goodIn_r _ [104, 105, 106, 107, 108, 109, 110, 111, 112, 113] (by decide +kernel) (by decide +kernel)
set_option maxRecDepth 20000 in
theorem ggX3_make_X3_listWhoCanSing_q6 : GoodIn wsX3_make (wsX50) := goodIn_r _ [122, 123, 124, 125, 126, 127, 128, 129, 130, 131, 132, 133] (by decide +kernel) (by decide +kernel)
set_option maxRecDepth 20000 in
theorem ggX3_make_X3_listWhoCanSing_q7 : GoodIn wsX3_make (wsX30) := goodIn_r _ [99, 100, 101, 102, 103] (by decide +kernel) (by decide +kernel)
set_option maxRecDepth 20000 in
theorem ggX3_make_X3_listWhoCanSing_q8 : GoodIn wsX3_make (wsX10) := goodIn_r _ [114, 115, 116, 117, 118, 119, 120, 121] (by decide +kernel) (by decide +kernel)
set_option maxRecDepth 20000 in
theorem ggX3_make_X3_listWhoCanSing_q9 : GoodIn wsX3_make (wsX40) := goodIn_r _ [134, 135, 136, 137] (by decide +kernel) (by decide +kernel)
theorem ggX3_make_X3_listWhoCanSing : GoodIn wsX3_make wsX3_listWhoCanSing := (goodIn_app (a := [Cond.code yX3_listWhoCanSing cX3_listWhoCanSing 5 none]) ggX3_make_X3_listWhoCanSing_q1 (goodIn_app (goodIn_app (goodIn_app (goodIn_app (goodIn_app (goodIn_app ggX3_make_X3_listWhoCanSing_q2 (goodIn_app ggX3_make_X3_listWhoCanSing_q3 ggX3_make_X3_listWhoCanSing_q4)) ggX3_make_X3_listWhoCanSing_q5) ggX3_make_X3_listWhoCanSing_q6) ggX3_make_X3_listWhoCanSing_q7) ggX3_make_X3_listWhoCanSing_q8) ggX3_make_X3_listWhoCanSing_q9))
set_option maxRecDepth 20000 in
theorem gX3_make_X3_listWhoCanSing : GoodIn wsX3_make (wsV RX3 53 RX3 yX3_listWhoCanSing wsX3_listWhoCanSing) := goodIn_app (goodIn_of _ (by decide +kernel)) ggX3_make_X3_listWhoCanSing
set_option maxRecDepth 20000 in
theorem ggX3_make_J7_fill_53178 : GoodIn wsX3_make wsJ7_fill_53178 := goodIn_r _ [67] (by decide +kernel) (by decide +kernel)
set_option maxRecDepth 20000 in
theorem gX3_make_J7_fill_53178 : GoodIn wsX3_make (va_wsS RX3 56 yJ7_fill_53178 wsJ7_fill_53178) := goodIn_app (goodIn_of _ (by decide +kernel)) ggX3_make_J7_fill_53178
set_option maxRecDepth 20000 in
theorem ggX3_make_X3_setBounds : GoodIn wsX3_make wsX3_setBounds := goodIn_r _ [71, 72, 4, 73, 74, 75, 15, 76, 11, 77, 78, 79, 99, 100, 101, 102, 103] (by decide +kernel) (by decide +kernel)
set_option maxRecDepth 20000 in
theorem gX3_make_X3_setBounds : GoodIn wsX3_make (wsV RX3 75 RX3 yX3_setBounds wsX3_setBounds) := goodIn_app (goodIn_of _ (by decide +kernel)) ggX3_make_X3_setBounds
set_option maxRecDepth 20000 in
theorem ggX3_make_X3_leastBound : GoodIn wsX3_make wsX3_leastBound := goodIn_r _ [83, 72, 99, 100, 101, 102, 103] (by decide +kernel) (by decide +kernel)
set_option maxRecDepth 20000 in
theorem gX3_make_X3_leastBound : GoodIn wsX3_make (wsV RX3 79 RX3 yX3_leastBound wsX3_leastBound) := goodIn_app (goodIn_of _ (by decide +kernel)) ggX3_make_X3_leastBound
set_option maxRecDepth 20000 in
theorem ggX3_make_X3_firstGoodLine : GoodIn wsX3_make wsX3_firstGoodLine := goodIn_r _ [87, 4, 77, 78, 15, 79, 88, 89, 90, 91, 72, 92, 93, 94, 99, 100, 101, 102, 103] (by decide +kernel) (by decide +kernel)
set_option maxRecDepth 20000 in
theorem gX3_make_X3_firstGoodLine : GoodIn wsX3_make (wsV RX3 83 RX3 yX3_firstGoodLine wsX3_firstGoodLine) := goodIn_app (goodIn_of _ (by decide +kernel)) ggX3_make_X3_firstGoodLine
set_option maxRecDepth 20000 in
theorem ggX3_make_X3_strikeOut : GoodIn wsX3_make wsX3_strikeOut := goodIn_r _ [98, 72, 4, 92, 93, 15, 94, 99, 100, 101, 102, 103] (by decide +kernel) (by decide +kernel)
set_option maxRecDepth 20000 in
theorem gX3_make_X3_strikeOut : GoodIn wsX3_make (wsV RX3 87 RX3 yX3_strikeOut wsX3_strikeOut) := goodIn_app (goodIn_of _ (by decide +kernel)) ggX3_make_X3_strikeOut
theorem dX3_make_0 : decode cX3_make 0 = .ok (.aload_n 0, 1) := by decide +kernel
theorem dX3_make_1 : decode cX3_make 1 = .ok (.aload_n 1, 1) := by decide +kernel
theorem dX3_make_2 : decode cX3_make 2 = .ok (.iload_n 2, 1) := by decide +kernel
theorem dX3_make_3 : decode cX3_make 3 = .ok (.invokevirtual 53, 3) := by decide +kernel
theorem dX3_make_6 : decode cX3_make 6 = .ok (.aload_n 0, 1) := by decide +kernel
theorem dX3_make_7 : decode cX3_make 7 = .ok (.getfield 9, 3) := by decide +kernel
theorem dX3_make_10 : decode cX3_make 10 = .ok (.iconst (-1), 1) := by decide +kernel
theorem dX3_make_11 : decode cX3_make 11 = .ok (.invokestatic 56, 3) := by decide +kernel
theorem dX3_make_14 : decode cX3_make 14 = .ok (.aload_n 1, 1) := by decide +kernel
theorem dX3_make_15 : decode cX3_make 15 = .ok (.getfield 33, 3) := by decide +kernel
theorem dX3_make_18 : decode cX3_make 18 = .ok (.getfield 62, 3) := by decide +kernel
theorem dX3_make_21 : decode cX3_make 21 = .ok (.iload_n 2, 1) := by decide +kernel
theorem dX3_make_22 : decode cX3_make 22 = .ok (.aaload, 1) := by decide +kernel
theorem dX3_make_23 : decode cX3_make 23 = .ok (.iconst 0, 1) := by decide +kernel
theorem dX3_make_24 : decode cX3_make 24 = .ok (.aload_n 0, 1) := by decide +kernel
theorem dX3_make_25 : decode cX3_make 25 = .ok (.getfield 18, 3) := by decide +kernel
theorem dX3_make_28 : decode cX3_make 28 = .ok (.iconst 0, 1) := by decide +kernel
theorem dX3_make_29 : decode cX3_make 29 = .ok (.iconst 4, 1) := by decide +kernel
theorem dX3_make_30 : decode cX3_make 30 = .ok (.invokestatic 43, 3) := by decide +kernel
theorem dX3_make_33 : decode cX3_make 33 = .ok (.aload_n 0, 1) := by decide +kernel
theorem dX3_make_34 : decode cX3_make 34 = .ok (.aload_n 1, 1) := by decide +kernel
theorem dX3_make_35 : decode cX3_make 35 = .ok (.getfield 65, 3) := by decide +kernel
theorem dX3_make_38 : decode cX3_make 38 = .ok (.getfield 69, 3) := by decide +kernel
theorem dX3_make_41 : decode cX3_make 41 = .ok (.invokevirtual 75, 3) := by decide +kernel
theorem dX3_make_44 : decode cX3_make 44 = .ok (.aload_n 0, 1) := by decide +kernel
theorem dX3_make_45 : decode cX3_make 45 = .ok (.invokevirtual 79, 3) := by decide +kernel
theorem dX3_make_48 : decode cX3_make 48 = .ok (.istore_n 3, 1) := by decide +kernel
theorem dX3_make_49 : decode cX3_make 49 = .ok (.iconst 0, 1) := by decide +kernel
theorem dX3_make_50 : decode cX3_make 50 = .ok (.istore 4, 2) := by decide +kernel
theorem dX3_make_52 : decode cX3_make 52 = .ok (.iload 4, 2) := by decide +kernel
theorem dX3_make_54 : decode cX3_make 54 = .ok (.aload_n 1, 1) := by decide +kernel
theorem dX3_make_55 : decode cX3_make 55 = .ok (.getfield 65, 3) := by decide +kernel
theorem dX3_make_58 : decode cX3_make 58 = .ok (.getfield 69, 3) := by decide +kernel
theorem dX3_make_61 : decode cX3_make 61 = .ok (.if_icmp .ge 54, 3) := by decide +kernel
theorem dX3_make_64 : decode cX3_make 64 = .ok (.aload_n 0, 1) := by decide +kernel
theorem dX3_make_65 : decode cX3_make 65 = .ok (.aload_n 0, 1) := by decide +kernel
theorem dX3_make_66 : decode cX3_make 66 = .ok (.getfield 15, 3) := by decide +kernel
theorem dX3_make_69 : decode cX3_make 69 = .ok (.iload 4, 2) := by decide +kernel
theorem dX3_make_71 : decode cX3_make 71 = .ok (.iaload, 1) := by decide +kernel
theorem dX3_make_72 : decode cX3_make 72 = .ok (.iload_n 3, 1) := by decide +kernel
theorem dX3_make_73 : decode cX3_make 73 = .ok (.invokevirtual 83, 3) := by decide +kernel
theorem dX3_make_76 : decode cX3_make 76 = .ok (.istore 5, 2) := by decide +kernel
theorem dX3_make_78 : decode cX3_make 78 = .ok (.aload_n 0, 1) := by decide +kernel
theorem dX3_make_79 : decode cX3_make 79 = .ok (.getfield 9, 3) := by decide +kernel
theorem dX3_make_82 : decode cX3_make 82 = .ok (.iload 4, 2) := by decide +kernel
theorem dX3_make_84 : decode cX3_make 84 = .ok (.iload 5, 2) := by decide +kernel
theorem dX3_make_86 : decode cX3_make 86 = .ok (.iastore, 1) := by decide +kernel
theorem dX3_make_87 : decode cX3_make 87 = .ok (.aload_n 0, 1) := by decide +kernel
theorem dX3_make_88 : decode cX3_make 88 = .ok (.aload_n 0, 1) := by decide +kernel
theorem dX3_make_89 : decode cX3_make 89 = .ok (.getfield 15, 3) := by decide +kernel
theorem dX3_make_92 : decode cX3_make 92 = .ok (.iload 4, 2) := by decide +kernel
theorem dX3_make_94 : decode cX3_make 94 = .ok (.iaload, 1) := by decide +kernel
theorem dX3_make_95 : decode cX3_make 95 = .ok (.iload 5, 2) := by decide +kernel
theorem dX3_make_97 : decode cX3_make 97 = .ok (.invokevirtual 87, 3) := by decide +kernel
theorem dX3_make_100 : decode cX3_make 100 = .ok (.iload 5, 2) := by decide +kernel
theorem dX3_make_102 : decode cX3_make 102 = .ok (.iconst (-1), 1) := by decide +kernel
theorem dX3_make_103 : decode cX3_make 103 = .ok (.if_icmp .eq 6, 3) := by decide +kernel
theorem dX3_make_106 : decode cX3_make 106 = .ok (.iinc 3 (-1), 3) := by decide +kernel
theorem dX3_make_109 : decode cX3_make 109 = .ok (.iinc 4 1, 3) := by decide +kernel
theorem dX3_make_112 : decode cX3_make 112 = .ok (.goto (-60), 3) := by decide +kernel
theorem dX3_make_115 : decode cX3_make 115 = .ok (.return_, 1) := by decide +kernel
set_option maxRecDepth 20000 in
theorem ggX3_listWhoCanSing_X0_hindrance : GoodIn wsX3_listWhoCanSing wsX0_hindrance := goodIn_r _ [10, 11, 12, 13, 14, 15, 16, 17, 18, 19, 20, 21, 22, 23, 24, 25, 26, 27, 28, 29, 30, 31, 32, 33, 34, 35, 36, 37, 52, 53, 54, 55, 56, 57, 58, 59, 60, 61, 62, 63, 64, 65, 66, 67, 68, 69, 70, 71, 72, 73, 87, 88, 89, 90] (by decide +kernel) (by decide +kernel)
set_option maxRecDepth 20000 in
theorem gX3_listWhoCanSing_X0_hindrance : GoodIn wsX3_listWhoCanSing (wsV RX3 94 RX0 yX0_hindrance wsX0_hindrance) := goodIn_app (goodIn_of _ (by decide +kernel)) ggX3_listWhoCanSing_X0_hindrance
set_option maxRecDepth 20000 in
theorem ggX3_listWhoCanSing_X0_misfit : GoodIn wsX3_listWhoCanSing wsX0_misfit := goodIn_r _ [41, 42, 43, 44, 11, 45, 46, 47, 48, 49, 50, 16, 51, 37, 52, 53, 54, 55, 56, 57, 58, 59, 60, 61, 79, 80, 81, 82, 83, 84, 85, 86, 62, 63, 64, 65, 66, 67, 68, 69, 70, 71, 72, 73] (by decide +kernel) (by decide +kernel)
set_option maxRecDepth 20000 in
theorem gX3_listWhoCanSing_X0_misfit : GoodIn wsX3_listWhoCanSing (wsV RX3 97 RX0 yX0_misfit wsX0_misfit) := goodIn_app (goodIn_of _ (by decide +kernel)) ggX3_listWhoCanSing_X0_misfit
theorem dX3_listWhoCanSing_0 : decode cX3_listWhoCanSing 0 = .ok (.iconst 0, 1) := by decide +kernel
theorem dX3_listWhoCanSing_1 : decode cX3_listWhoCanSing 1 = .ok (.istore_n 3, 1) := by decide +kernel
theorem dX3_listWhoCanSing_2 : decode cX3_listWhoCanSing 2 = .ok (.iload_n 3, 1) := by decide +kernel
theorem dX3_listWhoCanSing_3 : decode cX3_listWhoCanSing 3 = .ok (.aload_n 1, 1) := by decide +kernel
theorem dX3_listWhoCanSing_4 : decode cX3_listWhoCanSing 4 = .ok (.getfield 65, 3) := by decide +kernel
theorem dX3_listWhoCanSing_7 : decode cX3_listWhoCanSing 7 = .ok (.getfield 69, 3) := by decide +kernel
theorem dX3_listWhoCanSing_10 : decode cX3_listWhoCanSing 10 = .ok (.if_icmp .ge 75, 3) := by decide +kernel
theorem dX3_listWhoCanSing_13 : decode cX3_listWhoCanSing 13 = .ok (.aload_n 0, 1) := by decide +kernel
theorem dX3_listWhoCanSing_14 : decode cX3_listWhoCanSing 14 = .ok (.getfield 15, 3) := by decide +kernel
theorem dX3_listWhoCanSing_17 : decode cX3_listWhoCanSing 17 = .ok (.iload_n 3, 1) := by decide +kernel
theorem dX3_listWhoCanSing_18 : decode cX3_listWhoCanSing 18 = .ok (.iconst 0, 1) := by decide +kernel
theorem dX3_listWhoCanSing_19 : decode cX3_listWhoCanSing 19 = .ok (.iastore, 1) := by decide +kernel
theorem dX3_listWhoCanSing_20 : decode cX3_listWhoCanSing 20 = .ok (.aload_n 1, 1) := by decide +kernel
theorem dX3_listWhoCanSing_21 : decode cX3_listWhoCanSing 21 = .ok (.iload_n 3, 1) := by decide +kernel
theorem dX3_listWhoCanSing_22 : decode cX3_listWhoCanSing 22 = .ok (.aload_n 1, 1) := by decide +kernel
theorem dX3_listWhoCanSing_23 : decode cX3_listWhoCanSing 23 = .ok (.getfield 33, 3) := by decide +kernel
theorem dX3_listWhoCanSing_26 : decode cX3_listWhoCanSing 26 = .ok (.getfield 91, 3) := by decide +kernel
theorem dX3_listWhoCanSing_29 : decode cX3_listWhoCanSing 29 = .ok (.iload_n 2, 1) := by decide +kernel
theorem dX3_listWhoCanSing_30 : decode cX3_listWhoCanSing 30 = .ok (.iaload, 1) := by decide +kernel
theorem dX3_listWhoCanSing_31 : decode cX3_listWhoCanSing 31 = .ok (.invokevirtual 94, 3) := by decide +kernel
theorem dX3_listWhoCanSing_34 : decode cX3_listWhoCanSing 34 = .ok (.ifCond .eq 6, 3) := by decide +kernel
theorem dX3_listWhoCanSing_37 : decode cX3_listWhoCanSing 37 = .ok (.goto 42, 3) := by decide +kernel
theorem dX3_listWhoCanSing_40 : decode cX3_listWhoCanSing 40 = .ok (.iconst 0, 1) := by decide +kernel
theorem dX3_listWhoCanSing_41 : decode cX3_listWhoCanSing 41 = .ok (.istore 4, 2) := by decide +kernel
theorem dX3_listWhoCanSing_43 : decode cX3_listWhoCanSing 43 = .ok (.iload 4, 2) := by decide +kernel
theorem dX3_listWhoCanSing_45 : decode cX3_listWhoCanSing 45 = .ok (.iconst 4, 1) := by decide +kernel
theorem dX3_listWhoCanSing_46 : decode cX3_listWhoCanSing 46 = .ok (.if_icmp .ge 33, 3) := by decide +kernel
theorem dX3_listWhoCanSing_49 : decode cX3_listWhoCanSing 49 = .ok (.aload_n 1, 1) := by decide +kernel
theorem dX3_listWhoCanSing_50 : decode cX3_listWhoCanSing 50 = .ok (.iload_n 2, 1) := by decide +kernel
theorem dX3_listWhoCanSing_51 : decode cX3_listWhoCanSing 51 = .ok (.iload_n 3, 1) := by decide +kernel
theorem dX3_listWhoCanSing_52 : decode cX3_listWhoCanSing 52 = .ok (.iload 4, 2) := by decide +kernel
theorem dX3_listWhoCanSing_54 : decode cX3_listWhoCanSing 54 = .ok (.invokevirtual 97, 3) := by decide +kernel
theorem dX3_listWhoCanSing_57 : decode cX3_listWhoCanSing 57 = .ok (.ifCond .ne 16, 3) := by decide +kernel
theorem dX3_listWhoCanSing_60 : decode cX3_listWhoCanSing 60 = .ok (.aload_n 0, 1) := by decide +kernel
theorem dX3_listWhoCanSing_61 : decode cX3_listWhoCanSing 61 = .ok (.getfield 15, 3) := by decide +kernel
theorem dX3_listWhoCanSing_64 : decode cX3_listWhoCanSing 64 = .ok (.iload_n 3, 1) := by decide +kernel
theorem dX3_listWhoCanSing_65 : decode cX3_listWhoCanSing 65 = .ok (.dup2, 1) := by decide +kernel
theorem dX3_listWhoCanSing_66 : decode cX3_listWhoCanSing 66 = .ok (.iaload, 1) := by decide +kernel
theorem dX3_listWhoCanSing_67 : decode cX3_listWhoCanSing 67 = .ok (.iconst 1, 1) := by decide +kernel
theorem dX3_listWhoCanSing_68 : decode cX3_listWhoCanSing 68 = .ok (.iload 4, 2) := by decide +kernel
theorem dX3_listWhoCanSing_70 : decode cX3_listWhoCanSing 70 = .ok (.ishl, 1) := by decide +kernel
theorem dX3_listWhoCanSing_71 : decode cX3_listWhoCanSing 71 = .ok (.ior, 1) := by decide +kernel
theorem dX3_listWhoCanSing_72 : decode cX3_listWhoCanSing 72 = .ok (.iastore, 1) := by decide +kernel
theorem dX3_listWhoCanSing_73 : decode cX3_listWhoCanSing 73 = .ok (.iinc 4 1, 3) := by decide +kernel
theorem dX3_listWhoCanSing_76 : decode cX3_listWhoCanSing 76 = .ok (.goto (-33), 3) := by decide +kernel
theorem dX3_listWhoCanSing_79 : decode cX3_listWhoCanSing 79 = .ok (.iinc 3 1, 3) := by decide +kernel
theorem dX3_listWhoCanSing_82 : decode cX3_listWhoCanSing 82 = .ok (.goto (-80), 3) := by decide +kernel
theorem dX3_listWhoCanSing_85 : decode cX3_listWhoCanSing 85 = .ok (.return_, 1) := by decide +kernel
set_option maxRecDepth 20000 in
theorem ggX3_setBounds_X3_countWhoCanSing : GoodIn wsX3_setBounds wsX3_countWhoCanSing := goodIn_r _ [7, 8, 12, 13, 14, 15, 16] (by decide +kernel) (by decide +kernel)
set_option maxRecDepth 20000 in
theorem gX3_setBounds_X3_countWhoCanSing : GoodIn wsX3_setBounds (wsV RX3 101 RX3 yX3_countWhoCanSing wsX3_countWhoCanSing) := goodIn_app (goodIn_of _ (by decide +kernel)) ggX3_setBounds_X3_countWhoCanSing
set_option maxRecDepth 20000 in
theorem ggX3_setBounds_X3_contains : GoodIn wsX3_setBounds wsX3_contains := goodIn_r _ [11] (by decide +kernel) (by decide +kernel)
set_option maxRecDepth 20000 in
theorem gX3_setBounds_X3_contains : GoodIn wsX3_setBounds (va_wsS RX3 104 yX3_contains wsX3_contains) := goodIn_app (goodIn_of _ (by decide +kernel)) ggX3_setBounds_X3_contains
theorem dX3_setBounds_0 : decode cX3_setBounds 0 = .ok (.iconst 0, 1) := by decide +kernel
theorem dX3_setBounds_1 : decode cX3_setBounds 1 = .ok (.istore_n 2, 1) := by decide +kernel
theorem dX3_setBounds_2 : decode cX3_setBounds 2 = .ok (.iload_n 2, 1) := by decide +kernel
theorem dX3_setBounds_3 : decode cX3_setBounds 3 = .ok (.bipush 16, 2) := by decide +kernel
theorem dX3_setBounds_5 : decode cX3_setBounds 5 = .ok (.if_icmp .ge 57, 3) := by decide +kernel
theorem dX3_setBounds_8 : decode cX3_setBounds 8 = .ok (.aload_n 0, 1) := by decide +kernel
theorem dX3_setBounds_9 : decode cX3_setBounds 9 = .ok (.getfield 21, 3) := by decide +kernel
theorem dX3_setBounds_12 : decode cX3_setBounds 12 = .ok (.iload_n 2, 1) := by decide +kernel
theorem dX3_setBounds_13 : decode cX3_setBounds 13 = .ok (.aload_n 0, 1) := by decide +kernel
theorem dX3_setBounds_14 : decode cX3_setBounds 14 = .ok (.iload_n 2, 1) := by decide +kernel
theorem dX3_setBounds_15 : decode cX3_setBounds 15 = .ok (.iload_n 1, 1) := by decide +kernel
theorem dX3_setBounds_16 : decode cX3_setBounds 16 = .ok (.invokevirtual 101, 3) := by decide +kernel
theorem dX3_setBounds_19 : decode cX3_setBounds 19 = .ok (.iastore, 1) := by decide +kernel
theorem dX3_setBounds_20 : decode cX3_setBounds 20 = .ok (.iconst 0, 1) := by decide +kernel
theorem dX3_setBounds_21 : decode cX3_setBounds 21 = .ok (.istore_n 3, 1) := by decide +kernel
theorem dX3_setBounds_22 : decode cX3_setBounds 22 = .ok (.iload_n 3, 1) := by decide +kernel
theorem dX3_setBounds_23 : decode cX3_setBounds 23 = .ok (.iconst 4, 1) := by decide +kernel
theorem dX3_setBounds_24 : decode cX3_setBounds 24 = .ok (.if_icmp .ge 32, 3) := by decide +kernel
theorem dX3_setBounds_27 : decode cX3_setBounds 27 = .ok (.iload_n 2, 1) := by decide +kernel
theorem dX3_setBounds_28 : decode cX3_setBounds 28 = .ok (.iload_n 3, 1) := by decide +kernel
theorem dX3_setBounds_29 : decode cX3_setBounds 29 = .ok (.invokestatic 104, 3) := by decide +kernel
theorem dX3_setBounds_32 : decode cX3_setBounds 32 = .ok (.ifCond .ne 18, 3) := by decide +kernel
theorem dX3_setBounds_35 : decode cX3_setBounds 35 = .ok (.aload_n 0, 1) := by decide +kernel
theorem dX3_setBounds_36 : decode cX3_setBounds 36 = .ok (.getfield 21, 3) := by decide +kernel
theorem dX3_setBounds_39 : decode cX3_setBounds 39 = .ok (.iload_n 2, 1) := by decide +kernel
theorem dX3_setBounds_40 : decode cX3_setBounds 40 = .ok (.dup2, 1) := by decide +kernel
theorem dX3_setBounds_41 : decode cX3_setBounds 41 = .ok (.iaload, 1) := by decide +kernel
theorem dX3_setBounds_42 : decode cX3_setBounds 42 = .ok (.aload_n 0, 1) := by decide +kernel
theorem dX3_setBounds_43 : decode cX3_setBounds 43 = .ok (.getfield 18, 3) := by decide +kernel
theorem dX3_setBounds_46 : decode cX3_setBounds 46 = .ok (.iload_n 3, 1) := by decide +kernel
theorem dX3_setBounds_47 : decode cX3_setBounds 47 = .ok (.iaload, 1) := by decide +kernel
theorem dX3_setBounds_48 : decode cX3_setBounds 48 = .ok (.iadd, 1) := by decide +kernel
theorem dX3_setBounds_49 : decode cX3_setBounds 49 = .ok (.iastore, 1) := by decide +kernel
theorem dX3_setBounds_50 : decode cX3_setBounds 50 = .ok (.iinc 3 1, 3) := by decide +kernel
theorem dX3_setBounds_53 : decode cX3_setBounds 53 = .ok (.goto (-31), 3) := by decide +kernel
theorem dX3_setBounds_56 : decode cX3_setBounds 56 = .ok (.iinc 2 1, 3) := by decide +kernel
theorem dX3_setBounds_59 : decode cX3_setBounds 59 = .ok (.goto (-57), 3) := by decide +kernel
theorem dX3_setBounds_62 : decode cX3_setBounds 62 = .ok (.return_, 1) := by decide +kernel
theorem dX3_leastBound_0 : decode cX3_leastBound 0 = .ok (.aload_n 0, 1) := by decide +kernel
theorem dX3_leastBound_1 : decode cX3_leastBound 1 = .ok (.getfield 21, 3) := by decide +kernel
theorem dX3_leastBound_4 : decode cX3_leastBound 4 = .ok (.iconst 0, 1) := by decide +kernel
theorem dX3_leastBound_5 : decode cX3_leastBound 5 = .ok (.iaload, 1) := by decide +kernel
theorem dX3_leastBound_6 : decode cX3_leastBound 6 = .ok (.istore_n 1, 1) := by decide +kernel
theorem dX3_leastBound_7 : decode cX3_leastBound 7 = .ok (.iconst 1, 1) := by decide +kernel
theorem dX3_leastBound_8 : decode cX3_leastBound 8 = .ok (.istore_n 2, 1) := by decide +kernel
theorem dX3_leastBound_9 : decode cX3_leastBound 9 = .ok (.iload_n 2, 1) := by decide +kernel
theorem dX3_leastBound_10 : decode cX3_leastBound 10 = .ok (.bipush 16, 2) := by decide +kernel
theorem dX3_leastBound_12 : decode cX3_leastBound 12 = .ok (.if_icmp .ge 30, 3) := by decide +kernel
theorem dX3_leastBound_15 : decode cX3_leastBound 15 = .ok (.aload_n 0, 1) := by decide +kernel
theorem dX3_leastBound_16 : decode cX3_leastBound 16 = .ok (.getfield 21, 3) := by decide +kernel
theorem dX3_leastBound_19 : decode cX3_leastBound 19 = .ok (.iload_n 2, 1) := by decide +kernel
theorem dX3_leastBound_20 : decode cX3_leastBound 20 = .ok (.iaload, 1) := by decide +kernel
theorem dX3_leastBound_21 : decode cX3_leastBound 21 = .ok (.iload_n 1, 1) := by decide +kernel
theorem dX3_leastBound_22 : decode cX3_leastBound 22 = .ok (.if_icmp .ge 12, 3) := by decide +kernel
theorem dX3_leastBound_25 : decode cX3_leastBound 25 = .ok (.aload_n 0, 1) := by decide +kernel
theorem dX3_leastBound_26 : decode cX3_leastBound 26 = .ok (.getfield 21, 3) := by decide +kernel
theorem dX3_leastBound_29 : decode cX3_leastBound 29 = .ok (.iload_n 2, 1) := by decide +kernel
theorem dX3_leastBound_30 : decode cX3_leastBound 30 = .ok (.iaload, 1) := by decide +kernel
theorem dX3_leastBound_31 : decode cX3_leastBound 31 = .ok (.goto 4, 3) := by decide +kernel
theorem dX3_leastBound_34 : decode cX3_leastBound 34 = .ok (.iload_n 1, 1) := by decide +kernel
theorem dX3_leastBound_35 : decode cX3_leastBound 35 = .ok (.istore_n 1, 1) := by decide +kernel
theorem dX3_leastBound_36 : decode cX3_leastBound 36 = .ok (.iinc 2 1, 3) := by decide +kernel
theorem dX3_leastBound_39 : decode cX3_leastBound 39 = .ok (.goto (-30), 3) := by decide +kernel
theorem dX3_leastBound_42 : decode cX3_leastBound 42 = .ok (.iload_n 1, 1) := by decide +kernel
theorem dX3_leastBound_43 : decode cX3_leastBound 43 = .ok (.ireturn, 1) := by decide +kernel
set_option maxRecDepth 20000 in
theorem ggX3_firstGoodLine_X3_contains : GoodIn wsX3_firstGoodLine wsX3_contains := goodIn_r _ [5] (by decide +kernel) (by decide +kernel)
set_option maxRecDepth 20000 in
theorem gX3_firstGoodLine_X3_contains : GoodIn wsX3_firstGoodLine (va_wsS RX3 104 yX3_contains wsX3_contains) := goodIn_app (goodIn_of _ (by decide +kernel)) ggX3_firstGoodLine_X3_contains
set_option maxRecDepth 20000 in
theorem ggX3_firstGoodLine_X3_keepsFillable : GoodIn wsX3_firstGoodLine wsX3_keepsFillable := goodIn_r _ [9, 10, 11, 12, 4, 13, 14, 15, 16, 17, 18] (by decide +kernel) (by decide +kernel)
set_option maxRecDepth 20000 in
theorem gX3_firstGoodLine_X3_keepsFillable : GoodIn wsX3_firstGoodLine (wsV RX3 108 RX3 yX3_keepsFillable wsX3_keepsFillable) := goodIn_app (goodIn_of _ (by decide +kernel)) ggX3_firstGoodLine_X3_keepsFillable
theorem dX3_firstGoodLine_0 : decode cX3_firstGoodLine 0 = .ok (.iconst 0, 1) := by decide +kernel
theorem dX3_firstGoodLine_1 : decode cX3_firstGoodLine 1 = .ok (.istore_n 3, 1) := by decide +kernel
theorem dX3_firstGoodLine_2 : decode cX3_firstGoodLine 2 = .ok (.iload_n 3, 1) := by decide +kernel
theorem dX3_firstGoodLine_3 : decode cX3_firstGoodLine 3 = .ok (.iconst 4, 1) := by decide +kernel
theorem dX3_firstGoodLine_4 : decode cX3_firstGoodLine 4 = .ok (.if_icmp .ge 38, 3) := by decide +kernel
theorem dX3_firstGoodLine_7 : decode cX3_firstGoodLine 7 = .ok (.iload_n 1, 1) := by decide +kernel
theorem dX3_firstGoodLine_8 : decode cX3_firstGoodLine 8 = .ok (.iload_n 3, 1) := by decide +kernel
theorem dX3_firstGoodLine_9 : decode cX3_firstGoodLine 9 = .ok (.invokestatic 104, 3) := by decide +kernel
theorem dX3_firstGoodLine_12 : decode cX3_firstGoodLine 12 = .ok (.ifCond .eq 24, 3) := by decide +kernel
theorem dX3_firstGoodLine_15 : decode cX3_firstGoodLine 15 = .ok (.aload_n 0, 1) := by decide +kernel
theorem dX3_firstGoodLine_16 : decode cX3_firstGoodLine 16 = .ok (.getfield 18, 3) := by decide +kernel
theorem dX3_firstGoodLine_19 : decode cX3_firstGoodLine 19 = .ok (.iload_n 3, 1) := by decide +kernel
theorem dX3_firstGoodLine_20 : decode cX3_firstGoodLine 20 = .ok (.iaload, 1) := by decide +kernel
theorem dX3_firstGoodLine_21 : decode cX3_firstGoodLine 21 = .ok (.ifCond .le 15, 3) := by decide +kernel
theorem dX3_firstGoodLine_24 : decode cX3_firstGoodLine 24 = .ok (.aload_n 0, 1) := by decide +kernel
theorem dX3_firstGoodLine_25 : decode cX3_firstGoodLine 25 = .ok (.iload_n 1, 1) := by decide +kernel
theorem dX3_firstGoodLine_26 : decode cX3_firstGoodLine 26 = .ok (.iload_n 3, 1) := by decide +kernel
theorem dX3_firstGoodLine_27 : decode cX3_firstGoodLine 27 = .ok (.iload_n 2, 1) := by decide +kernel
theorem dX3_firstGoodLine_28 : decode cX3_firstGoodLine 28 = .ok (.invokevirtual 108, 3) := by decide +kernel
theorem dX3_firstGoodLine_31 : decode cX3_firstGoodLine 31 = .ok (.ifCond .eq 5, 3) := by decide +kernel
theorem dX3_firstGoodLine_34 : decode cX3_firstGoodLine 34 = .ok (.iload_n 3, 1) := by decide +kernel
theorem dX3_firstGoodLine_35 : decode cX3_firstGoodLine 35 = .ok (.ireturn, 1) := by decide +kernel
theorem dX3_firstGoodLine_36 : decode cX3_firstGoodLine 36 = .ok (.iinc 3 1, 3) := by decide +kernel
theorem dX3_firstGoodLine_39 : decode cX3_firstGoodLine 39 = .ok (.goto (-37), 3) := by decide +kernel
theorem dX3_firstGoodLine_42 : decode cX3_firstGoodLine 42 = .ok (.iconst (-1), 1) := by decide +kernel
theorem dX3_firstGoodLine_43 : decode cX3_firstGoodLine 43 = .ok (.ireturn, 1) := by decide +kernel
set_option maxRecDepth 20000 in
theorem ggX3_keepsFillable_X3_cost : GoodIn wsX3_keepsFillable wsX3_cost := goodIn_r _ [5] (by decide +kernel) (by decide +kernel)
set_option maxRecDepth 20000 in
theorem gX3_keepsFillable_X3_cost : GoodIn wsX3_keepsFillable (va_wsS RX3 112 yX3_cost wsX3_cost) := goodIn_app (goodIn_of _ (by decide +kernel)) ggX3_keepsFillable_X3_cost
theorem dX3_keepsFillable_0 : decode cX3_keepsFillable 0 = .ok (.iconst 0, 1) := by decide +kernel
theorem dX3_keepsFillable_1 : decode cX3_keepsFillable 1 = .ok (.istore 4, 2) := by decide +kernel
theorem dX3_keepsFillable_3 : decode cX3_keepsFillable 3 = .ok (.iload 4, 2) := by decide +kernel
theorem dX3_keepsFillable_5 : decode cX3_keepsFillable 5 = .ok (.bipush 16, 2) := by decide +kernel
theorem dX3_keepsFillable_7 : decode cX3_keepsFillable 7 = .ok (.if_icmp .ge 32, 3) := by decide +kernel
theorem dX3_keepsFillable_10 : decode cX3_keepsFillable 10 = .ok (.aload_n 0, 1) := by decide +kernel
theorem dX3_keepsFillable_11 : decode cX3_keepsFillable 11 = .ok (.getfield 21, 3) := by decide +kernel
theorem dX3_keepsFillable_14 : decode cX3_keepsFillable 14 = .ok (.iload 4, 2) := by decide +kernel
theorem dX3_keepsFillable_16 : decode cX3_keepsFillable 16 = .ok (.iaload, 1) := by decide +kernel
theorem dX3_keepsFillable_17 : decode cX3_keepsFillable 17 = .ok (.iload 4, 2) := by decide +kernel
theorem dX3_keepsFillable_19 : decode cX3_keepsFillable 19 = .ok (.iload_n 1, 1) := by decide +kernel
theorem dX3_keepsFillable_20 : decode cX3_keepsFillable 20 = .ok (.iload_n 2, 1) := by decide +kernel
theorem dX3_keepsFillable_21 : decode cX3_keepsFillable 21 = .ok (.invokestatic 112, 3) := by decide +kernel
theorem dX3_keepsFillable_24 : decode cX3_keepsFillable 24 = .ok (.isub, 1) := by decide +kernel
theorem dX3_keepsFillable_25 : decode cX3_keepsFillable 25 = .ok (.iload_n 3, 1) := by decide +kernel
theorem dX3_keepsFillable_26 : decode cX3_keepsFillable 26 = .ok (.iconst 1, 1) := by decide +kernel
theorem dX3_keepsFillable_27 : decode cX3_keepsFillable 27 = .ok (.isub, 1) := by decide +kernel
theorem dX3_keepsFillable_28 : decode cX3_keepsFillable 28 = .ok (.if_icmp .ge 5, 3) := by decide +kernel
theorem dX3_keepsFillable_31 : decode cX3_keepsFillable 31 = .ok (.iconst 0, 1) := by decide +kernel
theorem dX3_keepsFillable_32 : decode cX3_keepsFillable 32 = .ok (.ireturn, 1) := by decide +kernel
theorem dX3_keepsFillable_33 : decode cX3_keepsFillable 33 = .ok (.iinc 4 1, 3) := by decide +kernel
theorem dX3_keepsFillable_36 : decode cX3_keepsFillable 36 = .ok (.goto (-33), 3) := by decide +kernel
theorem dX3_keepsFillable_39 : decode cX3_keepsFillable 39 = .ok (.iconst 1, 1) := by decide +kernel
theorem dX3_keepsFillable_40 : decode cX3_keepsFillable 40 = .ok (.ireturn, 1) := by decide +kernel
set_option maxRecDepth 20000 in
theorem ggX3_strikeOut_X3_cost : GoodIn wsX3_strikeOut wsX3_cost := goodIn_r _ [6] (by decide +kernel) (by decide +kernel)
set_option maxRecDepth 20000 in
theorem gX3_strikeOut_X3_cost : GoodIn wsX3_strikeOut (va_wsS RX3 112 yX3_cost wsX3_cost) := goodIn_app (goodIn_of _ (by decide +kernel)) ggX3_strikeOut_X3_cost
theorem dX3_strikeOut_0 : decode cX3_strikeOut 0 = .ok (.iconst 0, 1) := by decide +kernel
theorem dX3_strikeOut_1 : decode cX3_strikeOut 1 = .ok (.istore_n 3, 1) := by decide +kernel
theorem dX3_strikeOut_2 : decode cX3_strikeOut 2 = .ok (.iload_n 3, 1) := by decide +kernel
theorem dX3_strikeOut_3 : decode cX3_strikeOut 3 = .ok (.bipush 16, 2) := by decide +kernel
theorem dX3_strikeOut_5 : decode cX3_strikeOut 5 = .ok (.if_icmp .ge 24, 3) := by decide +kernel
theorem dX3_strikeOut_8 : decode cX3_strikeOut 8 = .ok (.aload_n 0, 1) := by decide +kernel
theorem dX3_strikeOut_9 : decode cX3_strikeOut 9 = .ok (.getfield 21, 3) := by decide +kernel
theorem dX3_strikeOut_12 : decode cX3_strikeOut 12 = .ok (.iload_n 3, 1) := by decide +kernel
theorem dX3_strikeOut_13 : decode cX3_strikeOut 13 = .ok (.dup2, 1) := by decide +kernel
theorem dX3_strikeOut_14 : decode cX3_strikeOut 14 = .ok (.iaload, 1) := by decide +kernel
theorem dX3_strikeOut_15 : decode cX3_strikeOut 15 = .ok (.iload_n 3, 1) := by decide +kernel
theorem dX3_strikeOut_16 : decode cX3_strikeOut 16 = .ok (.iload_n 1, 1) := by decide +kernel
theorem dX3_strikeOut_17 : decode cX3_strikeOut 17 = .ok (.iload_n 2, 1) := by decide +kernel
theorem dX3_strikeOut_18 : decode cX3_strikeOut 18 = .ok (.invokestatic 112, 3) := by decide +kernel
theorem dX3_strikeOut_21 : decode cX3_strikeOut 21 = .ok (.isub, 1) := by decide +kernel
theorem dX3_strikeOut_22 : decode cX3_strikeOut 22 = .ok (.iastore, 1) := by decide +kernel
theorem dX3_strikeOut_23 : decode cX3_strikeOut 23 = .ok (.iinc 3 1, 3) := by decide +kernel
theorem dX3_strikeOut_26 : decode cX3_strikeOut 26 = .ok (.goto (-24), 3) := by decide +kernel
theorem dX3_strikeOut_29 : decode cX3_strikeOut 29 = .ok (.iload_n 2, 1) := by decide +kernel
theorem dX3_strikeOut_30 : decode cX3_strikeOut 30 = .ok (.iconst (-1), 1) := by decide +kernel
theorem dX3_strikeOut_31 : decode cX3_strikeOut 31 = .ok (.if_icmp .eq 13, 3) := by decide +kernel
theorem dX3_strikeOut_34 : decode cX3_strikeOut 34 = .ok (.aload_n 0, 1) := by decide +kernel
theorem dX3_strikeOut_35 : decode cX3_strikeOut 35 = .ok (.getfield 18, 3) := by decide +kernel
theorem dX3_strikeOut_38 : decode cX3_strikeOut 38 = .ok (.iload_n 2, 1) := by decide +kernel
theorem dX3_strikeOut_39 : decode cX3_strikeOut 39 = .ok (.dup2, 1) := by decide +kernel
theorem dX3_strikeOut_40 : decode cX3_strikeOut 40 = .ok (.iaload, 1) := by decide +kernel
theorem dX3_strikeOut_41 : decode cX3_strikeOut 41 = .ok (.iconst 1, 1) := by decide +kernel
theorem dX3_strikeOut_42 : decode cX3_strikeOut 42 = .ok (.isub, 1) := by decide +kernel
theorem dX3_strikeOut_43 : decode cX3_strikeOut 43 = .ok (.iastore, 1) := by decide +kernel
theorem dX3_strikeOut_44 : decode cX3_strikeOut 44 = .ok (.return_, 1) := by decide +kernel
theorem dX3_cost_0 : decode cX3_cost 0 = .ok (.iload_n 1, 1) := by decide +kernel
theorem dX3_cost_1 : decode cX3_cost 1 = .ok (.iload_n 0, 1) := by decide +kernel
theorem dX3_cost_2 : decode cX3_cost 2 = .ok (.iand, 1) := by decide +kernel
theorem dX3_cost_3 : decode cX3_cost 3 = .ok (.ifCond .eq 7, 3) := by decide +kernel
theorem dX3_cost_6 : decode cX3_cost 6 = .ok (.iconst 1, 1) := by decide +kernel
theorem dX3_cost_7 : decode cX3_cost 7 = .ok (.goto 4, 3) := by decide +kernel
theorem dX3_cost_10 : decode cX3_cost 10 = .ok (.iconst 0, 1) := by decide +kernel
theorem dX3_cost_11 : decode cX3_cost 11 = .ok (.istore_n 3, 1) := by decide +kernel
theorem dX3_cost_12 : decode cX3_cost 12 = .ok (.iload_n 2, 1) := by decide +kernel
theorem dX3_cost_13 : decode cX3_cost 13 = .ok (.iconst (-1), 1) := by decide +kernel
theorem dX3_cost_14 : decode cX3_cost 14 = .ok (.if_icmp .eq 17, 3) := by decide +kernel
theorem dX3_cost_17 : decode cX3_cost 17 = .ok (.iload_n 0, 1) := by decide +kernel
theorem dX3_cost_18 : decode cX3_cost 18 = .ok (.iconst 1, 1) := by decide +kernel
theorem dX3_cost_19 : decode cX3_cost 19 = .ok (.iload_n 2, 1) := by decide +kernel
theorem dX3_cost_20 : decode cX3_cost 20 = .ok (.ishl, 1) := by decide +kernel
theorem dX3_cost_21 : decode cX3_cost 21 = .ok (.iand, 1) := by decide +kernel
theorem dX3_cost_22 : decode cX3_cost 22 = .ok (.ifCond .ne 9, 3) := by decide +kernel
theorem dX3_cost_25 : decode cX3_cost 25 = .ok (.iload_n 3, 1) := by decide +kernel
theorem dX3_cost_26 : decode cX3_cost 26 = .ok (.iconst 1, 1) := by decide +kernel
theorem dX3_cost_27 : decode cX3_cost 27 = .ok (.iadd, 1) := by decide +kernel
theorem dX3_cost_28 : decode cX3_cost 28 = .ok (.goto 4, 3) := by decide +kernel
theorem dX3_cost_31 : decode cX3_cost 31 = .ok (.iload_n 3, 1) := by decide +kernel
theorem dX3_cost_32 : decode cX3_cost 32 = .ok (.ireturn, 1) := by decide +kernel
theorem dX3_contains_0 : decode cX3_contains 0 = .ok (.iload_n 0, 1) := by decide +kernel
theorem dX3_contains_1 : decode cX3_contains 1 = .ok (.iconst 1, 1) := by decide +kernel
theorem dX3_contains_2 : decode cX3_contains 2 = .ok (.iload_n 1, 1) := by decide +kernel
theorem dX3_contains_3 : decode cX3_contains 3 = .ok (.ishl, 1) := by decide +kernel
theorem dX3_contains_4 : decode cX3_contains 4 = .ok (.iand, 1) := by decide +kernel
theorem dX3_contains_5 : decode cX3_contains 5 = .ok (.ifCond .eq 7, 3) := by decide +kernel
theorem dX3_contains_8 : decode cX3_contains 8 = .ok (.iconst 1, 1) := by decide +kernel
theorem dX3_contains_9 : decode cX3_contains 9 = .ok (.goto 4, 3) := by decide +kernel
theorem dX3_contains_12 : decode cX3_contains 12 = .ok (.iconst 0, 1) := by decide +kernel
theorem dX3_contains_13 : decode cX3_contains 13 = .ok (.ireturn, 1) := by decide +kernel
theorem dX3_countWhoCanSing_0 : decode cX3_countWhoCanSing 0 = .ok (.iconst 0, 1) := by decide +kernel
theorem dX3_countWhoCanSing_1 : decode cX3_countWhoCanSing 1 = .ok (.istore_n 3, 1) := by decide +kernel
theorem dX3_countWhoCanSing_2 : decode cX3_countWhoCanSing 2 = .ok (.iconst 0, 1) := by decide +kernel
theorem dX3_countWhoCanSing_3 : decode cX3_countWhoCanSing 3 = .ok (.istore 4, 2) := by decide +kernel
theorem dX3_countWhoCanSing_5 : decode cX3_countWhoCanSing 5 = .ok (.iload 4, 2) := by decide +kernel
theorem dX3_countWhoCanSing_7 : decode cX3_countWhoCanSing 7 = .ok (.iload_n 2, 1) := by decide +kernel
theorem dX3_countWhoCanSing_8 : decode cX3_countWhoCanSing 8 = .ok (.if_icmp .ge 24, 3) := by decide +kernel
theorem dX3_countWhoCanSing_11 : decode cX3_countWhoCanSing 11 = .ok (.aload_n 0, 1) := by decide +kernel
theorem dX3_countWhoCanSing_12 : decode cX3_countWhoCanSing 12 = .ok (.getfield 15, 3) := by decide +kernel
theorem dX3_countWhoCanSing_15 : decode cX3_countWhoCanSing 15 = .ok (.iload 4, 2) := by decide +kernel
theorem dX3_countWhoCanSing_17 : decode cX3_countWhoCanSing 17 = .ok (.iaload, 1) := by decide +kernel
theorem dX3_countWhoCanSing_18 : decode cX3_countWhoCanSing 18 = .ok (.iload_n 1, 1) := by decide +kernel
theorem dX3_countWhoCanSing_19 : decode cX3_countWhoCanSing 19 = .ok (.iand, 1) := by decide +kernel
theorem dX3_countWhoCanSing_20 : decode cX3_countWhoCanSing 20 = .ok (.ifCond .eq 6, 3) := by decide +kernel
theorem dX3_countWhoCanSing_23 : decode cX3_countWhoCanSing 23 = .ok (.iinc 3 1, 3) := by decide +kernel
theorem dX3_countWhoCanSing_26 : decode cX3_countWhoCanSing 26 = .ok (.iinc 4 1, 3) := by decide +kernel
theorem dX3_countWhoCanSing_29 : decode cX3_countWhoCanSing 29 = .ok (.goto (-24), 3) := by decide +kernel
theorem dX3_countWhoCanSing_32 : decode cX3_countWhoCanSing 32 = .ok (.iload_n 3, 1) := by decide +kernel
theorem dX3_countWhoCanSing_33 : decode cX3_countWhoCanSing 33 = .ok (.ireturn, 1) := by decide +kernel
set_option maxRecDepth 20000 in
theorem ggX3_lackBySets_X3_listWhoCanSing_q1 : GoodIn wsX3_lackBySets ([Cond.code yX3_listWhoCanSing cX3_listWhoCanSing 5 none]) := goodIn_r _ [9] (by decide +kernel) (by decide +kernel)
set_option maxRecDepth 20000 in
theorem ggX3_lackBySets_X3_listWhoCanSing_q2 : GoodIn wsX3_lackBySets (wsX3_listWhoCanSing_r1) := goodIn_r _ [1, 2, 10, 3, 11, 12, 13, 14, 15, 16, 17, 18, 19, 20, 21, 22, 23, 24, 25, 26, 27, 28, 29, 30] (by decide +kernel) (by decide +kernel)
set_option maxRecDepth 20000 in
theorem ggX3_lackBySets_X3_listWhoCanSing_q3 : GoodIn wsX3_lackBySets (wsX3_listWhoCanSing_r2) := goodIn_r _ [31, 32, 33, 34, 35, 36, 37, 38, 39, 40, 41, 42, 43, 44, 45, 46, 47, 48, 49, 50, 51, 52, 53, 54] (by decide +kernel) (by decide +kernel)
set_option maxRecDepth 20000 in
theorem ggX3_lackBySets_X3_listWhoCanSing_q4 : GoodIn wsX3_lackBySets (wsX3_listWhoCanSing_r3) := goodIn_r _ [55, 56, 57] (by decide +kernel) (by decide +kernel)
set_option maxRecDepth 20000 in
theorem ggX3_lackBySets_X3_listWhoCanSing_q5 : GoodIn wsX3_lackBySets (wsX00) := goodIn_r _ [65, 66, 67, 68, 69, 70, 71, 72, 73, 74] (by decide +kernel) (by decide +kernel)
set_option maxRecDepth 20000 in
theorem ggX3_lackBySets_X3_listWhoCanSing_q6 : GoodIn wsX3_lackBySets (wsX50) := goodIn_r _ [75, 76, 77, 78, 79, 80, 81, 82, 83, 84, 85, 86] (by decide +kernel) (by decide +kernel)
set_option maxRecDepth 20000 in
theorem ggX3_lackBySets_X3_listWhoCanSing_q7 : GoodIn wsX3_lackBySets (wsX30) := goodIn_r _ [95, 96, 97, 98, 99] (by decide +kernel) (by decide +kernel)
set_option maxRecDepth 20000 in
theorem ggX3_lackBySets_X3_listWhoCanSing_q8 : GoodIn wsX3_lackBySets (wsX10) := goodIn_r _ [87, 88, 89, 90, 91, 92, 93, 94] (by decide +kernel) (by decide +kernel)
set_option maxRecDepth 20000 in
theorem ggX3_lackBySets_X3_listWhoCanSing_q9 : GoodIn wsX3_lackBySets (wsX40) := goodIn_r _ [100, 101, 102, 103] (by decide +kernel) (by decide +kernel)
theorem ggX3_lackBySets_X3_listWhoCanSing : GoodIn wsX3_lackBySets wsX3_listWhoCanSing := (goodIn_app (a := [Cond.code yX3_listWhoCanSing cX3_listWhoCanSing 5 none]) ggX3_lackBySets_X3_listWhoCanSing_q1 (goodIn_app (goodIn_app (goodIn_app (goodIn_app (goodIn_app (goodIn_app ggX3_lackBySets_X3_listWhoCanSing_q2 (goodIn_app ggX3_lackBySets_X3_listWhoCanSing_q3 ggX3_lackBySets_X3_listWhoCanSing_q4)) ggX3_lackBySets_X3_listWhoCanSing_q5) ggX3_lackBySets_X3_listWhoCanSing_q6) ggX3_lackBySets_X3_listWhoCanSing_q7) ggX3_lackBySets_X3_listWhoCanSing_q8) ggX3_lackBySets_X3_listWhoCanSing_q9))
set_option maxRecDepth 20000 in
theorem gX3_lackBySets_X3_listWhoCanSing : GoodIn wsX3_lackBySets (wsV RX3 53 RX3 yX3_listWhoCanSing wsX3_listWhoCanSing) := goodIn_app (goodIn_of _ (by decide +kernel)) ggX3_lackBySets_X3_listWhoCanSing
set_option maxRecDepth 20000 in
theorem ggX3_lackBySets_X3_countWhoCanSing : GoodIn wsX3_lackBySets wsX3_countWhoCanSing := goodIn_r _ [61, 10, 95, 96, 97, 98, 99] (by decide +kernel) (by decide +kernel)
set_option maxRecDepth 20000 in
theorem gX3_lackBySets_X3_countWhoCanSing : GoodIn wsX3_lackBySets (wsV RX3 101 RX3 yX3_countWhoCanSing wsX3_countWhoCanSing) := goodIn_app (goodIn_of _ (by decide +kernel)) ggX3_lackBySets_X3_countWhoCanSing
set_option maxRecDepth 20000 in
theorem ggX3_lackBySets_X3_contains : GoodIn wsX3_lackBySets wsX3_contains := goodIn_r _ [64] (by decide +kernel) (by decide +kernel)
set_option maxRecDepth 20000 in
theorem gX3_lackBySets_X3_contains : GoodIn wsX3_lackBySets (va_wsS RX3 104 yX3_contains wsX3_contains) := goodIn_app (goodIn_of _ (by decide +kernel)) ggX3_lackBySets_X3_contains
theorem dX3_lackBySets_0 : decode cX3_lackBySets 0 = .ok (.aload_n 0, 1) := by decide +kernel
theorem dX3_lackBySets_1 : decode cX3_lackBySets 1 = .ok (.aload_n 1, 1) := by decide +kernel
theorem dX3_lackBySets_2 : decode cX3_lackBySets 2 = .ok (.iload_n 2, 1) := by decide +kernel
theorem dX3_lackBySets_3 : decode cX3_lackBySets 3 = .ok (.invokevirtual 53, 3) := by decide +kernel
theorem dX3_lackBySets_6 : decode cX3_lackBySets 6 = .ok (.iconst 0, 1) := by decide +kernel
theorem dX3_lackBySets_7 : decode cX3_lackBySets 7 = .ok (.istore 4, 2) := by decide +kernel
theorem dX3_lackBySets_9 : decode cX3_lackBySets 9 = .ok (.iconst 0, 1) := by decide +kernel
theorem dX3_lackBySets_10 : decode cX3_lackBySets 10 = .ok (.istore 5, 2) := by decide +kernel
theorem dX3_lackBySets_12 : decode cX3_lackBySets 12 = .ok (.iload 5, 2) := by decide +kernel
theorem dX3_lackBySets_14 : decode cX3_lackBySets 14 = .ok (.bipush 16, 2) := by decide +kernel
theorem dX3_lackBySets_16 : decode cX3_lackBySets 16 = .ok (.if_icmp .ge 95, 3) := by decide +kernel
theorem dX3_lackBySets_19 : decode cX3_lackBySets 19 = .ok (.aload_n 0, 1) := by decide +kernel
theorem dX3_lackBySets_20 : decode cX3_lackBySets 20 = .ok (.iload 5, 2) := by decide +kernel
theorem dX3_lackBySets_22 : decode cX3_lackBySets 22 = .ok (.aload_n 1, 1) := by decide +kernel
theorem dX3_lackBySets_23 : decode cX3_lackBySets 23 = .ok (.getfield 65, 3) := by decide +kernel
theorem dX3_lackBySets_26 : decode cX3_lackBySets 26 = .ok (.getfield 69, 3) := by decide +kernel
theorem dX3_lackBySets_29 : decode cX3_lackBySets 29 = .ok (.invokevirtual 101, 3) := by decide +kernel
theorem dX3_lackBySets_32 : decode cX3_lackBySets 32 = .ok (.ineg, 1) := by decide +kernel
theorem dX3_lackBySets_33 : decode cX3_lackBySets 33 = .ok (.istore 6, 2) := by decide +kernel
theorem dX3_lackBySets_35 : decode cX3_lackBySets 35 = .ok (.iconst 0, 1) := by decide +kernel
theorem dX3_lackBySets_36 : decode cX3_lackBySets 36 = .ok (.istore 7, 2) := by decide +kernel
theorem dX3_lackBySets_38 : decode cX3_lackBySets 38 = .ok (.iload 7, 2) := by decide +kernel
theorem dX3_lackBySets_40 : decode cX3_lackBySets 40 = .ok (.iconst 4, 1) := by decide +kernel
theorem dX3_lackBySets_41 : decode cX3_lackBySets 41 = .ok (.if_icmp .ge 48, 3) := by decide +kernel
theorem dX3_lackBySets_44 : decode cX3_lackBySets 44 = .ok (.iload 5, 2) := by decide +kernel
theorem dX3_lackBySets_46 : decode cX3_lackBySets 46 = .ok (.iload 7, 2) := by decide +kernel
theorem dX3_lackBySets_48 : decode cX3_lackBySets 48 = .ok (.invokestatic 104, 3) := by decide +kernel
theorem dX3_lackBySets_51 : decode cX3_lackBySets 51 = .ok (.ifCond .eq 32, 3) := by decide +kernel
theorem dX3_lackBySets_54 : decode cX3_lackBySets 54 = .ok (.iload 6, 2) := by decide +kernel
theorem dX3_lackBySets_56 : decode cX3_lackBySets 56 = .ok (.aload_n 1, 1) := by decide +kernel
theorem dX3_lackBySets_57 : decode cX3_lackBySets 57 = .ok (.getfield 33, 3) := by decide +kernel
theorem dX3_lackBySets_60 : decode cX3_lackBySets 60 = .ok (.getfield 62, 3) := by decide +kernel
theorem dX3_lackBySets_63 : decode cX3_lackBySets 63 = .ok (.iload_n 2, 1) := by decide +kernel
theorem dX3_lackBySets_64 : decode cX3_lackBySets 64 = .ok (.aaload, 1) := by decide +kernel
theorem dX3_lackBySets_65 : decode cX3_lackBySets 65 = .ok (.iload 7, 2) := by decide +kernel
theorem dX3_lackBySets_67 : decode cX3_lackBySets 67 = .ok (.iaload, 1) := by decide +kernel
theorem dX3_lackBySets_68 : decode cX3_lackBySets 68 = .ok (.iload 7, 2) := by decide +kernel
theorem dX3_lackBySets_70 : decode cX3_lackBySets 70 = .ok (.iload_n 3, 1) := by decide +kernel
theorem dX3_lackBySets_71 : decode cX3_lackBySets 71 = .ok (.if_icmp .ne 7, 3) := by decide +kernel
theorem dX3_lackBySets_74 : decode cX3_lackBySets 74 = .ok (.iconst 1, 1) := by decide +kernel
theorem dX3_lackBySets_75 : decode cX3_lackBySets 75 = .ok (.goto 4, 3) := by decide +kernel
theorem dX3_lackBySets_78 : decode cX3_lackBySets 78 = .ok (.iconst 0, 1) := by decide +kernel
theorem dX3_lackBySets_79 : decode cX3_lackBySets 79 = .ok (.isub, 1) := by decide +kernel
theorem dX3_lackBySets_80 : decode cX3_lackBySets 80 = .ok (.iadd, 1) := by decide +kernel
theorem dX3_lackBySets_81 : decode cX3_lackBySets 81 = .ok (.istore 6, 2) := by decide +kernel
theorem dX3_lackBySets_83 : decode cX3_lackBySets 83 = .ok (.iinc 7 1, 3) := by decide +kernel
theorem dX3_lackBySets_86 : decode cX3_lackBySets 86 = .ok (.goto (-48), 3) := by decide +kernel
theorem dX3_lackBySets_89 : decode cX3_lackBySets 89 = .ok (.iload 6, 2) := by decide +kernel
theorem dX3_lackBySets_91 : decode cX3_lackBySets 91 = .ok (.iload 4, 2) := by decide +kernel
theorem dX3_lackBySets_93 : decode cX3_lackBySets 93 = .ok (.if_icmp .le 8, 3) := by decide +kernel
theorem dX3_lackBySets_96 : decode cX3_lackBySets 96 = .ok (.iload 6, 2) := by decide +kernel
theorem dX3_lackBySets_98 : decode cX3_lackBySets 98 = .ok (.goto 5, 3) := by decide +kernel
theorem dX3_lackBySets_101 : decode cX3_lackBySets 101 = .ok (.iload 4, 2) := by decide +kernel
theorem dX3_lackBySets_103 : decode cX3_lackBySets 103 = .ok (.istore 4, 2) := by decide +kernel
theorem dX3_lackBySets_105 : decode cX3_lackBySets 105 = .ok (.iinc 5 1, 3) := by decide +kernel
theorem dX3_lackBySets_108 : decode cX3_lackBySets 108 = .ok (.goto (-96), 3) := by decide +kernel
theorem dX3_lackBySets_111 : decode cX3_lackBySets 111 = .ok (.iload 4, 2) := by decide +kernel
theorem dX3_lackBySets_113 : decode cX3_lackBySets 113 = .ok (.ireturn, 1) := by decide +kernel
theorem dX3_countIn_0 : decode cX3_countIn 0 = .ok (.iconst 0, 1) := by decide +kernel
theorem dX3_countIn_1 : decode cX3_countIn 1 = .ok (.istore_n 2, 1) := by decide +kernel
theorem dX3_countIn_2 : decode cX3_countIn 2 = .ok (.iconst 0, 1) := by decide +kernel
theorem dX3_countIn_3 : decode cX3_countIn 3 = .ok (.istore_n 3, 1) := by decide +kernel
theorem dX3_countIn_4 : decode cX3_countIn 4 = .ok (.iload_n 3, 1) := by decide +kernel
theorem dX3_countIn_5 : decode cX3_countIn 5 = .ok (.bipush 30, 2) := by decide +kernel
theorem dX3_countIn_7 : decode cX3_countIn 7 = .ok (.if_icmp .ge 22, 3) := by decide +kernel
theorem dX3_countIn_10 : decode cX3_countIn 10 = .ok (.aload_n 0, 1) := by decide +kernel
theorem dX3_countIn_11 : decode cX3_countIn 11 = .ok (.getfield 9, 3) := by decide +kernel
theorem dX3_countIn_14 : decode cX3_countIn 14 = .ok (.iload_n 3, 1) := by decide +kernel
theorem dX3_countIn_15 : decode cX3_countIn 15 = .ok (.iaload, 1) := by decide +kernel
theorem dX3_countIn_16 : decode cX3_countIn 16 = .ok (.iload_n 1, 1) := by decide +kernel
theorem dX3_countIn_17 : decode cX3_countIn 17 = .ok (.if_icmp .ne 6, 3) := by decide +kernel
theorem dX3_countIn_20 : decode cX3_countIn 20 = .ok (.iinc 2 1, 3) := by decide +kernel
theorem dX3_countIn_23 : decode cX3_countIn 23 = .ok (.iinc 3 1, 3) := by decide +kernel
theorem dX3_countIn_26 : decode cX3_countIn 26 = .ok (.goto (-22), 3) := by decide +kernel
theorem dX3_countIn_29 : decode cX3_countIn 29 = .ok (.iload_n 2, 1) := by decide +kernel
theorem dX3_countIn_30 : decode cX3_countIn 30 = .ok (.ireturn, 1) := by decide +kernel
set_option maxRecDepth 20000 in
theorem ggX3_countAll_X3_countIn : GoodIn wsX3_countAll wsX3_countIn := goodIn_r _ [5, 6, 7, 8, 9, 10, 11] (by decide +kernel) (by decide +kernel)
set_option maxRecDepth 20000 in
theorem gX3_countAll_X3_countIn : GoodIn wsX3_countAll (wsV RX3 115 RX3 yX3_countIn wsX3_countIn) := goodIn_app (goodIn_of _ (by decide +kernel)) ggX3_countAll_X3_countIn
theorem dX3_countAll_0 : decode cX3_countAll 0 = .ok (.bipush 30, 2) := by decide +kernel
theorem dX3_countAll_2 : decode cX3_countAll 2 = .ok (.aload_n 0, 1) := by decide +kernel
theorem dX3_countAll_3 : decode cX3_countAll 3 = .ok (.iconst (-1), 1) := by decide +kernel
theorem dX3_countAll_4 : decode cX3_countAll 4 = .ok (.invokevirtual 115, 3) := by decide +kernel
theorem dX3_countAll_7 : decode cX3_countAll 7 = .ok (.isub, 1) := by decide +kernel
theorem dX3_countAll_8 : decode cX3_countAll 8 = .ok (.ireturn, 1) := by decide +kernel
set_option maxRecDepth 20000 in
theorem ggX3_chooseDescant_X5_isOlder : GoodIn wsX3_chooseDescant wsX5_isOlder := goodIn_r _ [7, 8, 9, 10, 11, 12, 13, 14, 15, 16, 17, 18, 19, 20] (by decide +kernel) (by decide +kernel)
set_option maxRecDepth 20000 in
theorem gX3_chooseDescant_X5_isOlder : GoodIn wsX3_chooseDescant (wsV RX3 119 RX5 yX5_isOlder wsX5_isOlder) := goodIn_app (goodIn_of _ (by decide +kernel)) ggX3_chooseDescant_X5_isOlder
theorem dX3_chooseDescant_0 : decode cX3_chooseDescant 0 = .ok (.iconst (-1), 1) := by decide +kernel
theorem dX3_chooseDescant_1 : decode cX3_chooseDescant 1 = .ok (.istore_n 3, 1) := by decide +kernel
theorem dX3_chooseDescant_2 : decode cX3_chooseDescant 2 = .ok (.iconst 0, 1) := by decide +kernel
theorem dX3_chooseDescant_3 : decode cX3_chooseDescant 3 = .ok (.istore 4, 2) := by decide +kernel
theorem dX3_chooseDescant_5 : decode cX3_chooseDescant 5 = .ok (.iload 4, 2) := by decide +kernel
theorem dX3_chooseDescant_7 : decode cX3_chooseDescant 7 = .ok (.aload_n 1, 1) := by decide +kernel
theorem dX3_chooseDescant_8 : decode cX3_chooseDescant 8 = .ok (.getfield 69, 3) := by decide +kernel
theorem dX3_chooseDescant_11 : decode cX3_chooseDescant 11 = .ok (.if_icmp .ge 60, 3) := by decide +kernel
theorem dX3_chooseDescant_14 : decode cX3_chooseDescant 14 = .ok (.aload_n 0, 1) := by decide +kernel
theorem dX3_chooseDescant_15 : decode cX3_chooseDescant 15 = .ok (.getfield 9, 3) := by decide +kernel
theorem dX3_chooseDescant_18 : decode cX3_chooseDescant 18 = .ok (.iload 4, 2) := by decide +kernel
theorem dX3_chooseDescant_20 : decode cX3_chooseDescant 20 = .ok (.iaload, 1) := by decide +kernel
theorem dX3_chooseDescant_21 : decode cX3_chooseDescant 21 = .ok (.ifCond .eq 6, 3) := by decide +kernel
theorem dX3_chooseDescant_24 : decode cX3_chooseDescant 24 = .ok (.goto 41, 3) := by decide +kernel
theorem dX3_chooseDescant_27 : decode cX3_chooseDescant 27 = .ok (.iload_n 3, 1) := by decide +kernel
theorem dX3_chooseDescant_28 : decode cX3_chooseDescant 28 = .ok (.iconst (-1), 1) := by decide +kernel
theorem dX3_chooseDescant_29 : decode cX3_chooseDescant 29 = .ok (.if_icmp .eq 33, 3) := by decide +kernel
theorem dX3_chooseDescant_32 : decode cX3_chooseDescant 32 = .ok (.aload_n 2, 1) := by decide +kernel
theorem dX3_chooseDescant_33 : decode cX3_chooseDescant 33 = .ok (.iload 4, 2) := by decide +kernel
theorem dX3_chooseDescant_35 : decode cX3_chooseDescant 35 = .ok (.iaload, 1) := by decide +kernel
theorem dX3_chooseDescant_36 : decode cX3_chooseDescant 36 = .ok (.aload_n 2, 1) := by decide +kernel
theorem dX3_chooseDescant_37 : decode cX3_chooseDescant 37 = .ok (.iload_n 3, 1) := by decide +kernel
theorem dX3_chooseDescant_38 : decode cX3_chooseDescant 38 = .ok (.iaload, 1) := by decide +kernel
theorem dX3_chooseDescant_39 : decode cX3_chooseDescant 39 = .ok (.if_icmp .lt 23, 3) := by decide +kernel
theorem dX3_chooseDescant_42 : decode cX3_chooseDescant 42 = .ok (.aload_n 2, 1) := by decide +kernel
theorem dX3_chooseDescant_43 : decode cX3_chooseDescant 43 = .ok (.iload 4, 2) := by decide +kernel
theorem dX3_chooseDescant_45 : decode cX3_chooseDescant 45 = .ok (.iaload, 1) := by decide +kernel
theorem dX3_chooseDescant_46 : decode cX3_chooseDescant 46 = .ok (.aload_n 2, 1) := by decide +kernel
theorem dX3_chooseDescant_47 : decode cX3_chooseDescant 47 = .ok (.iload_n 3, 1) := by decide +kernel
theorem dX3_chooseDescant_48 : decode cX3_chooseDescant 48 = .ok (.iaload, 1) := by decide +kernel
theorem dX3_chooseDescant_49 : decode cX3_chooseDescant 49 = .ok (.if_icmp .ne 16, 3) := by decide +kernel
theorem dX3_chooseDescant_52 : decode cX3_chooseDescant 52 = .ok (.aload_n 1, 1) := by decide +kernel
theorem dX3_chooseDescant_53 : decode cX3_chooseDescant 53 = .ok (.iload 4, 2) := by decide +kernel
theorem dX3_chooseDescant_55 : decode cX3_chooseDescant 55 = .ok (.iload_n 3, 1) := by decide +kernel
theorem dX3_chooseDescant_56 : decode cX3_chooseDescant 56 = .ok (.invokevirtual 119, 3) := by decide +kernel
theorem dX3_chooseDescant_59 : decode cX3_chooseDescant 59 = .ok (.ifCond .eq 6, 3) := by decide +kernel
theorem dX3_chooseDescant_62 : decode cX3_chooseDescant 62 = .ok (.iload 4, 2) := by decide +kernel
theorem dX3_chooseDescant_64 : decode cX3_chooseDescant 64 = .ok (.istore_n 3, 1) := by decide +kernel
theorem dX3_chooseDescant_65 : decode cX3_chooseDescant 65 = .ok (.iinc 4 1, 3) := by decide +kernel
theorem dX3_chooseDescant_68 : decode cX3_chooseDescant 68 = .ok (.goto (-63), 3) := by decide +kernel
theorem dX3_chooseDescant_71 : decode cX3_chooseDescant 71 = .ok (.iload_n 3, 1) := by decide +kernel
theorem dX3_chooseDescant_72 : decode cX3_chooseDescant 72 = .ok (.ireturn, 1) := by decide +kernel
set_option maxRecDepth 20000 in
theorem ggX3_descantToCome_X1_nextAfter : GoodIn wsX3_descantToCome wsX1_nextAfter := goodIn_r _ [15, 16, 17, 149, 150, 151, 152, 153, 154, 155, 156] (by decide +kernel) (by decide +kernel)
set_option maxRecDepth 20000 in
theorem gX3_descantToCome_X1_nextAfter : GoodIn wsX3_descantToCome (wsV RX3 127 RX1 yX1_nextAfter wsX1_nextAfter) := goodIn_app (goodIn_of _ (by decide +kernel)) ggX3_descantToCome_X1_nextAfter
set_option maxRecDepth 20000 in
theorem ggX3_descantToCome_X3_make_q1 : GoodIn wsX3_descantToCome ([Cond.code yX3_make cX3_make 6 none]) := goodIn_r _ [22] (by decide +kernel) (by decide +kernel)
