set_option maxRecDepth 20000 in
theorem ggX6_neededLine_X3_lackBySets_q2 : GoodIn wsX6_neededLine (wsX3_lackBySets_r1) := goodIn_r _ [38, 39, 40, 41, 42, 43, 44, 36, 45, 46, 47, 48, 49, 50, 28, 51, 52, 53, 54, 55, 56, 57, 58, 59] (by decide +kernel) (by decide +kernel)
set_option maxRecDepth 20000 in
theorem ggX6_neededLine_X3_lackBySets_q3 : GoodIn wsX6_neededLine (wsX3_lackBySets_r2) := goodIn_r _ [60, 61, 62, 63, 64, 65, 66, 67, 68, 69, 70, 71, 72, 73, 74, 75, 76, 77, 78, 79, 80, 81, 82, 30] (by decide +kernel) (by decide +kernel)
set_option maxRecDepth 20000 in
theorem ggX6_neededLine_X3_lackBySets_q4 : GoodIn wsX6_neededLine (wsX3_lackBySets_r3) := goodIn_r _ [31, 83, 84, 85, 86, 87, 88, 89, 90, 91, 92, 93, 94, 95, 96, 97] (by decide +kernel) (by decide +kernel)
set_option maxRecDepth 20000 in
theorem ggX6_neededLine_X3_lackBySets_q5 : GoodIn wsX6_neededLine (wsX00) := goodIn_r _ [106, 107, 108, 109, 110, 111, 112, 113, 114, 115] (by decide +kernel) (by decide +kernel)
set_option maxRecDepth 20000 in
theorem ggX6_neededLine_X3_lackBySets_q6 : GoodIn wsX6_neededLine (wsX50) := goodIn_r _ [124, 125, 126, 127, 128, 129, 130, 131, 132, 133, 134, 135] (by decide +kernel) (by decide +kernel)
set_option maxRecDepth 20000 in
theorem ggX6_neededLine_X3_lackBySets_q7 : GoodIn wsX6_neededLine (wsX10) := goodIn_r _ [116, 117, 118, 119, 120, 121, 122, 123] (by decide +kernel) (by decide +kernel)
set_option maxRecDepth 20000 in
theorem ggX6_neededLine_X3_lackBySets_q8 : GoodIn wsX6_neededLine (wsX30) := goodIn_r _ [136, 137, 138, 139, 140] (by decide +kernel) (by decide +kernel)
set_option maxRecDepth 20000 in
theorem ggX6_neededLine_X3_lackBySets_q9 : GoodIn wsX6_neededLine (wsX40) := goodIn_r _ [141, 142, 143, 144] (by decide +kernel) (by decide +kernel)
theorem ggX6_neededLine_X3_lackBySets : GoodIn wsX6_neededLine wsX3_lackBySets := (goodIn_app (a := [Cond.code yX3_lackBySets cX3_lackBySets 8 (some .int)]) ggX6_neededLine_X3_lackBySets_q1 (goodIn_app (goodIn_app (goodIn_app (goodIn_app (goodIn_app (goodIn_app ggX6_neededLine_X3_lackBySets_q2 (goodIn_app ggX6_neededLine_X3_lackBySets_q3 ggX6_neededLine_X3_lackBySets_q4)) ggX6_neededLine_X3_lackBySets_q5) ggX6_neededLine_X3_lackBySets_q6) ggX6_neededLine_X3_lackBySets_q7) ggX6_neededLine_X3_lackBySets_q8) ggX6_neededLine_X3_lackBySets_q9))
set_option maxRecDepth 20000 in
theorem gX6_neededLine_X3_lackBySets : GoodIn wsX6_neededLine (wsV RX6 245 RX3 yX3_lackBySets wsX3_lackBySets) := goodIn_app (goodIn_of _ (by decide +kernel)) ggX6_neededLine_X3_lackBySets
theorem dX6_neededLine_0 : decode cX6_neededLine 0 = .ok (.aload_n 0, 1) := by decide +kernel
theorem dX6_neededLine_1 : decode cX6_neededLine 1 = .ok (.iload_n 1, 1) := by decide +kernel
theorem dX6_neededLine_2 : decode cX6_neededLine 2 = .ok (.invokevirtual 207, 3) := by decide +kernel
theorem dX6_neededLine_5 : decode cX6_neededLine 5 = .ok (.aload_n 0, 1) := by decide +kernel
theorem dX6_neededLine_6 : decode cX6_neededLine 6 = .ok (.getfield 10, 3) := by decide +kernel
theorem dX6_neededLine_9 : decode cX6_neededLine 9 = .ok (.iload_n 1, 1) := by decide +kernel
theorem dX6_neededLine_10 : decode cX6_neededLine 10 = .ok (.invokevirtual 212, 3) := by decide +kernel
theorem dX6_neededLine_13 : decode cX6_neededLine 13 = .ok (.ifCond .eq 7, 3) := by decide +kernel
theorem dX6_neededLine_16 : decode cX6_neededLine 16 = .ok (.iconst 3, 1) := by decide +kernel
theorem dX6_neededLine_17 : decode cX6_neededLine 17 = .ok (.goto 4, 3) := by decide +kernel
theorem dX6_neededLine_20 : decode cX6_neededLine 20 = .ok (.iconst 0, 1) := by decide +kernel
theorem dX6_neededLine_21 : decode cX6_neededLine 21 = .ok (.invokestatic 52, 3) := by decide +kernel
theorem dX6_neededLine_24 : decode cX6_neededLine 24 = .ok (.aload_n 0, 1) := by decide +kernel
theorem dX6_neededLine_25 : decode cX6_neededLine 25 = .ok (.getfield 44, 3) := by decide +kernel
theorem dX6_neededLine_28 : decode cX6_neededLine 28 = .ok (.aload_n 0, 1) := by decide +kernel
theorem dX6_neededLine_29 : decode cX6_neededLine 29 = .ok (.getfield 10, 3) := by decide +kernel
theorem dX6_neededLine_32 : decode cX6_neededLine 32 = .ok (.iload_n 1, 1) := by decide +kernel
theorem dX6_neededLine_33 : decode cX6_neededLine 33 = .ok (.iconst (-1), 1) := by decide +kernel
theorem dX6_neededLine_34 : decode cX6_neededLine 34 = .ok (.invokevirtual 245, 3) := by decide +kernel
theorem dX6_neededLine_37 : decode cX6_neededLine 37 = .ok (.istore_n 2, 1) := by decide +kernel
theorem dX6_neededLine_38 : decode cX6_neededLine 38 = .ok (.iconst 0, 1) := by decide +kernel
theorem dX6_neededLine_39 : decode cX6_neededLine 39 = .ok (.istore_n 3, 1) := by decide +kernel
theorem dX6_neededLine_40 : decode cX6_neededLine 40 = .ok (.iload_n 3, 1) := by decide +kernel
theorem dX6_neededLine_41 : decode cX6_neededLine 41 = .ok (.iconst 4, 1) := by decide +kernel
theorem dX6_neededLine_42 : decode cX6_neededLine 42 = .ok (.if_icmp .ge 45, 3) := by decide +kernel
theorem dX6_neededLine_45 : decode cX6_neededLine 45 = .ok (.aload_n 0, 1) := by decide +kernel
theorem dX6_neededLine_46 : decode cX6_neededLine 46 = .ok (.getfield 10, 3) := by decide +kernel
theorem dX6_neededLine_49 : decode cX6_neededLine 49 = .ok (.getfield 200, 3) := by decide +kernel
theorem dX6_neededLine_52 : decode cX6_neededLine 52 = .ok (.getfield 219, 3) := by decide +kernel
theorem dX6_neededLine_55 : decode cX6_neededLine 55 = .ok (.iload_n 1, 1) := by decide +kernel
theorem dX6_neededLine_56 : decode cX6_neededLine 56 = .ok (.aaload, 1) := by decide +kernel
theorem dX6_neededLine_57 : decode cX6_neededLine 57 = .ok (.iload_n 3, 1) := by decide +kernel
theorem dX6_neededLine_58 : decode cX6_neededLine 58 = .ok (.iaload, 1) := by decide +kernel
theorem dX6_neededLine_59 : decode cX6_neededLine 59 = .ok (.ifCond .le 22, 3) := by decide +kernel
theorem dX6_neededLine_62 : decode cX6_neededLine 62 = .ok (.aload_n 0, 1) := by decide +kernel
theorem dX6_neededLine_63 : decode cX6_neededLine 63 = .ok (.getfield 44, 3) := by decide +kernel
theorem dX6_neededLine_66 : decode cX6_neededLine 66 = .ok (.aload_n 0, 1) := by decide +kernel
theorem dX6_neededLine_67 : decode cX6_neededLine 67 = .ok (.getfield 10, 3) := by decide +kernel
theorem dX6_neededLine_70 : decode cX6_neededLine 70 = .ok (.iload_n 1, 1) := by decide +kernel
theorem dX6_neededLine_71 : decode cX6_neededLine 71 = .ok (.iload_n 3, 1) := by decide +kernel
theorem dX6_neededLine_72 : decode cX6_neededLine 72 = .ok (.invokevirtual 245, 3) := by decide +kernel
theorem dX6_neededLine_75 : decode cX6_neededLine 75 = .ok (.iload_n 2, 1) := by decide +kernel
theorem dX6_neededLine_76 : decode cX6_neededLine 76 = .ok (.if_icmp .ge 5, 3) := by decide +kernel
theorem dX6_neededLine_79 : decode cX6_neededLine 79 = .ok (.iload_n 3, 1) := by decide +kernel
theorem dX6_neededLine_80 : decode cX6_neededLine 80 = .ok (.ireturn, 1) := by decide +kernel
theorem dX6_neededLine_81 : decode cX6_neededLine 81 = .ok (.iinc 3 1, 3) := by decide +kernel
theorem dX6_neededLine_84 : decode cX6_neededLine 84 = .ok (.goto (-44), 3) := by decide +kernel
theorem dX6_neededLine_87 : decode cX6_neededLine 87 = .ok (.iconst (-1), 1) := by decide +kernel
theorem dX6_neededLine_88 : decode cX6_neededLine 88 = .ok (.ireturn, 1) := by decide +kernel
set_option maxRecDepth 20000 in
theorem ggX6_descantIn_X6_requireFeast : GoodIn wsX6_descantIn wsX6_requireFeast := goodIn_ca (goodIn_ca (goodIn_ca (goodIn_r _ [9, 1, 2, 10, 11, 12, 13, 14, 15, 16, 17, 8, 18, 19, 20, 21, 22, 23, 24, 153, 154, 155, 156, 157, 158, 159, 160, 161, 162, 163, 164, 165, 166, 167, 168, 169, 170, 171, 172, 173, 174, 175, 176, 177, 178] (by decide +kernel) (by decide +kernel)) (goodIn_sub (fun _ h => List.mem_cons_of_mem _ (List.mem_append_left _ (List.mem_append_left _ (List.mem_append_right _ h)))) (by decide +kernel))) (goodIn_sub (fun _ h => List.mem_cons_of_mem _ (List.mem_append_left _ (List.mem_append_right _ h))) (by decide +kernel))) (goodIn_sub (fun _ h => List.mem_cons_of_mem _ (List.mem_append_right _ h)) (by decide +kernel))
set_option maxRecDepth 20000 in
theorem gX6_descantIn_X6_requireFeast : GoodIn wsX6_descantIn (wsV RX6 207 RX6 yX6_requireFeast wsX6_requireFeast) := goodIn_app (goodIn_of _ (by decide +kernel)) ggX6_descantIn_X6_requireFeast
set_option maxRecDepth 20000 in
theorem ggX6_descantIn_X0_hasHeld : GoodIn wsX6_descantIn wsX0_hasHeld := goodIn_r _ [29, 30, 31, 32, 161, 162, 163, 164, 165, 166, 167, 168, 169, 170, 171, 172, 173, 174, 175, 176, 177, 178] (by decide +kernel) (by decide +kernel)
set_option maxRecDepth 20000 in
theorem gX6_descantIn_X0_hasHeld : GoodIn wsX6_descantIn (wsV RX6 212 RX0 yX0_hasHeld wsX0_hasHeld) := goodIn_app (goodIn_of _ (by decide +kernel)) ggX6_descantIn_X0_hasHeld
set_option maxRecDepth 20000 in
theorem ggX6_descantIn_X3_descantToCome_q1 : GoodIn wsX6_descantIn ([Cond.code yX3_descantToCome cX3_descantToCome 6 (some .int)]) := goodIn_r _ [37] (by decide +kernel) (by decide +kernel)
set_option maxRecDepth 20000 in
theorem ggX6_descantIn_X3_descantToCome_q2 : GoodIn wsX6_descantIn (wsX3_descantToCome_r1) := goodIn_r _ [38, 39, 40, 41, 42, 43, 44, 45, 46, 47, 48, 49, 50, 13, 51, 15, 52, 53, 54, 55, 36, 56, 57, 58] (by decide +kernel) (by decide +kernel)
set_option maxRecDepth 20000 in
theorem ggX6_descantIn_X3_descantToCome_q3 : GoodIn wsX6_descantIn (wsX3_descantToCome_r2) := goodIn_r _ [59, 60, 61, 62, 63, 64, 65, 66, 67, 68, 28, 69, 70, 71, 72, 73, 74, 75, 76, 77, 78, 79, 80, 81] (by decide +kernel) (by decide +kernel)
set_option maxRecDepth 20000 in
theorem ggX6_descantIn_X3_descantToCome_q4 : GoodIn wsX6_descantIn (wsX3_descantToCome_r3) := goodIn_r _ [82, 83, 84, 85, 86, 87, 88, 89, 90, 91, 92, 93, 94, 95, 96, 97, 98, 99, 100, 30, 31, 101, 102, 103] (by decide +kernel) (by decide +kernel)
set_option maxRecDepth 20000 in
theorem ggX6_descantIn_X3_descantToCome_q5 : GoodIn wsX6_descantIn (wsX3_descantToCome_r4) := goodIn_r _ [104, 105, 106, 107, 108, 109, 110, 111, 112, 113, 114, 115, 116, 117, 118, 119, 120, 121, 122, 123, 124, 125, 126, 127] (by decide +kernel) (by decide +kernel)
set_option maxRecDepth 20000 in
theorem ggX6_descantIn_X3_descantToCome_q6 : GoodIn wsX6_descantIn (wsX3_descantToCome_r5) := goodIn_r _ [128, 129, 130, 131, 132, 133, 134, 135, 136, 137, 138, 139, 140, 141, 142, 143, 144, 145, 146, 147, 148, 149, 150, 151] (by decide +kernel) (by decide +kernel)
set_option maxRecDepth 20000 in
theorem ggX6_descantIn_X3_descantToCome_q7 : GoodIn wsX6_descantIn (wsX3_descantToCome_r6) := goodIn_r _ [152] (by decide +kernel) (by decide +kernel)
set_option maxRecDepth 20000 in
theorem ggX6_descantIn_X3_descantToCome_q8 : GoodIn wsX6_descantIn (wsX00) := goodIn_r _ [161, 162, 163, 164, 165, 166, 167, 168, 169, 170] (by decide +kernel) (by decide +kernel)
set_option maxRecDepth 20000 in
theorem ggX6_descantIn_X3_descantToCome_q9 : GoodIn wsX6_descantIn (wsX50) := goodIn_r _ [179, 180, 181, 182, 183, 184, 185, 186, 187, 188, 189, 190] (by decide +kernel) (by decide +kernel)
set_option maxRecDepth 20000 in
theorem ggX6_descantIn_X3_descantToCome_q10 : GoodIn wsX6_descantIn (wsX30) := goodIn_r _ [191, 192, 193, 194, 195] (by decide +kernel) (by decide +kernel)
set_option maxRecDepth 20000 in
theorem ggX6_descantIn_X3_descantToCome_q11 : GoodIn wsX6_descantIn (wsX10) := goodIn_r _ [171, 172, 173, 174, 175, 176, 177, 178] (by decide +kernel) (by decide +kernel)
set_option maxRecDepth 20000 in
theorem ggX6_descantIn_X3_descantToCome_q12 : GoodIn wsX6_descantIn (wsX40) := goodIn_r _ [196, 197, 198, 199] (by decide +kernel) (by decide +kernel)
theorem ggX6_descantIn_X3_descantToCome : GoodIn wsX6_descantIn wsX3_descantToCome := (goodIn_app (a := [Cond.code yX3_descantToCome cX3_descantToCome 6 (some .int)]) ggX6_descantIn_X3_descantToCome_q1 (goodIn_app (goodIn_app (goodIn_app (goodIn_app (goodIn_app (goodIn_app ggX6_descantIn_X3_descantToCome_q2 (goodIn_app ggX6_descantIn_X3_descantToCome_q3 (goodIn_app ggX6_descantIn_X3_descantToCome_q4 (goodIn_app ggX6_descantIn_X3_descantToCome_q5 (goodIn_app ggX6_descantIn_X3_descantToCome_q6 ggX6_descantIn_X3_descantToCome_q7))))) ggX6_descantIn_X3_descantToCome_q8) ggX6_descantIn_X3_descantToCome_q9) ggX6_descantIn_X3_descantToCome_q10) ggX6_descantIn_X3_descantToCome_q11) ggX6_descantIn_X3_descantToCome_q12))
set_option maxRecDepth 20000 in
theorem gX6_descantIn_X3_descantToCome : GoodIn wsX6_descantIn (wsV RX6 252 RX3 yX3_descantToCome wsX3_descantToCome) := goodIn_app (goodIn_of _ (by decide +kernel)) ggX6_descantIn_X3_descantToCome
theorem dX6_descantIn_0 : decode cX6_descantIn 0 = .ok (.aload_n 0, 1) := by decide +kernel
theorem dX6_descantIn_1 : decode cX6_descantIn 1 = .ok (.iload_n 1, 1) := by decide +kernel
theorem dX6_descantIn_2 : decode cX6_descantIn 2 = .ok (.invokevirtual 207, 3) := by decide +kernel
theorem dX6_descantIn_5 : decode cX6_descantIn 5 = .ok (.aload_n 0, 1) := by decide +kernel
theorem dX6_descantIn_6 : decode cX6_descantIn 6 = .ok (.getfield 10, 3) := by decide +kernel
theorem dX6_descantIn_9 : decode cX6_descantIn 9 = .ok (.iload_n 1, 1) := by decide +kernel
theorem dX6_descantIn_10 : decode cX6_descantIn 10 = .ok (.invokevirtual 212, 3) := by decide +kernel
theorem dX6_descantIn_13 : decode cX6_descantIn 13 = .ok (.ifCond .eq 18, 3) := by decide +kernel
theorem dX6_descantIn_16 : decode cX6_descantIn 16 = .ok (.aload_n 0, 1) := by decide +kernel
theorem dX6_descantIn_17 : decode cX6_descantIn 17 = .ok (.getfield 10, 3) := by decide +kernel
theorem dX6_descantIn_20 : decode cX6_descantIn 20 = .ok (.getfield 200, 3) := by decide +kernel
theorem dX6_descantIn_23 : decode cX6_descantIn 23 = .ok (.getfield 249, 3) := by decide +kernel
theorem dX6_descantIn_26 : decode cX6_descantIn 26 = .ok (.iload_n 1, 1) := by decide +kernel
theorem dX6_descantIn_27 : decode cX6_descantIn 27 = .ok (.iaload, 1) := by decide +kernel
theorem dX6_descantIn_28 : decode cX6_descantIn 28 = .ok (.goto 15, 3) := by decide +kernel
theorem dX6_descantIn_31 : decode cX6_descantIn 31 = .ok (.aload_n 0, 1) := by decide +kernel
theorem dX6_descantIn_32 : decode cX6_descantIn 32 = .ok (.getfield 44, 3) := by decide +kernel
theorem dX6_descantIn_35 : decode cX6_descantIn 35 = .ok (.aload_n 0, 1) := by decide +kernel
theorem dX6_descantIn_36 : decode cX6_descantIn 36 = .ok (.getfield 10, 3) := by decide +kernel
theorem dX6_descantIn_39 : decode cX6_descantIn 39 = .ok (.iload_n 1, 1) := by decide +kernel
theorem dX6_descantIn_40 : decode cX6_descantIn 40 = .ok (.invokevirtual 252, 3) := by decide +kernel
theorem dX6_descantIn_43 : decode cX6_descantIn 43 = .ok (.ireturn, 1) := by decide +kernel
set_option maxRecDepth 20000 in
theorem ggX6_pewOf_X6_requireFeast : GoodIn wsX6_pewOf wsX6_requireFeast := goodIn_ca (goodIn_ca (goodIn_ca (goodIn_r _ [8, 2, 9, 10, 11, 12, 13, 14, 15, 16, 17, 7, 18, 19, 20, 21, 22, 23, 24, 155, 156, 157, 158, 159, 160, 161, 162, 163, 164, 165, 166, 167, 168, 169, 170, 171, 172, 173, 174, 175, 176, 177, 178, 179, 180] (by decide +kernel) (by decide +kernel)) (goodIn_sub (fun _ h => List.mem_cons_of_mem _ (List.mem_append_left _ (List.mem_append_left _ (List.mem_append_right _ h)))) (by decide +kernel))) (goodIn_sub (fun _ h => List.mem_cons_of_mem _ (List.mem_append_left _ (List.mem_append_right _ h))) (by decide +kernel))) (goodIn_sub (fun _ h => List.mem_cons_of_mem _ (List.mem_append_right _ h)) (by decide +kernel))
set_option maxRecDepth 20000 in
theorem gX6_pewOf_X6_requireFeast : GoodIn wsX6_pewOf (wsV RX6 207 RX6 yX6_requireFeast wsX6_requireFeast) := goodIn_app (goodIn_of _ (by decide +kernel)) ggX6_pewOf_X6_requireFeast
set_option maxRecDepth 20000 in
theorem ggX6_pewOf_X6_requireSinger : GoodIn wsX6_pewOf wsX6_requireSinger := goodIn_ca (goodIn_ca (goodIn_ca (goodIn_r _ [28, 2, 3, 29, 30, 31, 32, 33, 34, 16, 17, 7, 18, 19, 20, 21, 22, 23, 24, 155, 156, 157, 158, 159, 160, 161, 162, 163, 164, 165, 166, 167, 168, 169, 170, 171, 172, 181, 182, 183, 184, 185, 186, 187, 188, 189, 190, 191, 192] (by decide +kernel) (by decide +kernel)) (goodIn_sub (fun _ h => List.mem_cons_of_mem _ (List.mem_append_left _ (List.mem_append_left _ (List.mem_append_right _ h)))) (by decide +kernel))) (goodIn_sub (fun _ h => List.mem_cons_of_mem _ (List.mem_append_left _ (List.mem_append_right _ h))) (by decide +kernel))) (goodIn_sub (fun _ h => List.mem_cons_of_mem _ (List.mem_append_right _ h)) (by decide +kernel))
set_option maxRecDepth 20000 in
theorem gX6_pewOf_X6_requireSinger : GoodIn wsX6_pewOf (wsV RX6 146 RX6 yX6_requireSinger wsX6_requireSinger) := goodIn_app (goodIn_of _ (by decide +kernel)) ggX6_pewOf_X6_requireSinger
set_option maxRecDepth 20000 in
theorem ggX6_pewOf_X3_tell_q1 : GoodIn wsX6_pewOf ([Cond.code yX3_tell cX3_tell 3 none]) := goodIn_r _ [39] (by decide +kernel) (by decide +kernel)
set_option maxRecDepth 20000 in
theorem ggX6_pewOf_X3_tell_q2 : GoodIn wsX6_pewOf (wsX3_tell_r1) := goodIn_r _ [40, 41, 42, 43, 44, 45, 46, 47, 48, 49, 50, 51, 52, 53, 54, 55, 56, 57, 38, 58, 59, 60, 61, 62] (by decide +kernel) (by decide +kernel)
set_option maxRecDepth 20000 in
theorem ggX6_pewOf_X3_tell_q3 : GoodIn wsX6_pewOf (wsX3_tell_r2) := goodIn_r _ [63, 64, 65, 66, 67, 68, 69, 70, 71, 72, 73, 74, 75, 76, 77, 32, 78, 79, 80, 81, 82, 83, 84, 85] (by decide +kernel) (by decide +kernel)
set_option maxRecDepth 20000 in
theorem ggX6_pewOf_X3_tell_q4 : GoodIn wsX6_pewOf (wsX3_tell_r3) := goodIn_r _ [86, 87, 88, 89, 90, 91, 92, 93, 94, 95, 96, 97, 98, 99, 100, 101, 102, 103, 104, 105, 106, 107, 108, 109] (by decide +kernel) (by decide +kernel)
set_option maxRecDepth 20000 in
theorem ggX6_pewOf_X3_tell_q5 : GoodIn wsX6_pewOf (wsX3_tell_r4) := goodIn_r _ [110, 111, 112, 113, 114, 115, 116, 117, 118, 119, 120, 121, 122, 123, 124, 125, 126, 127, 128, 129, 130, 131, 132, 133] (by decide +kernel) (by decide +kernel)
set_option maxRecDepth 20000 in
theorem ggX6_pewOf_X3_tell_q6 : GoodIn wsX6_pewOf (wsX3_tell_r5) := goodIn_r _ [134, 135, 136, 137, 138, 139, 140, 141, 142, 143, 144, 145] (by decide +kernel) (by decide +kernel)
set_option maxRecDepth 20000 in
theorem ggX6_pewOf_X3_tell_q7 : GoodIn wsX6_pewOf (wsX00) := goodIn_r _ [163, 164, 165, 166, 167, 168, 169, 170, 171, 172] (by decide +kernel) (by decide +kernel)
set_option maxRecDepth 20000 in
theorem ggX6_pewOf_X3_tell_q8 : GoodIn wsX6_pewOf (wsX10) := goodIn_r _ [173, 174, 175, 176, 177, 178, 179, 180] (by decide +kernel) (by decide +kernel)
set_option maxRecDepth 20000 in
theorem ggX6_pewOf_X3_tell_q9 : GoodIn wsX6_pewOf (wsX30) := goodIn_r _ [193, 194, 195, 196, 197] (by decide +kernel) (by decide +kernel)
set_option maxRecDepth 20000 in
theorem ggX6_pewOf_X3_tell_q10 : GoodIn wsX6_pewOf (wsX50) := goodIn_r _ [181, 182, 183, 184, 185, 186, 187, 188, 189, 190, 191, 192] (by decide +kernel) (by decide +kernel)
set_option maxRecDepth 20000 in
theorem ggX6_pewOf_X3_tell_q11 : GoodIn wsX6_pewOf (wsX40) := goodIn_r _ [198, 199, 200, 201] (by decide +kernel) (by decide +kernel)
theorem ggX6_pewOf_X3_tell : GoodIn wsX6_pewOf wsX3_tell := (goodIn_app (a := [Cond.code yX3_tell cX3_tell 3 none]) ggX6_pewOf_X3_tell_q1 (goodIn_app (goodIn_app (goodIn_app (goodIn_app (goodIn_app (goodIn_app ggX6_pewOf_X3_tell_q2 (goodIn_app ggX6_pewOf_X3_tell_q3 (goodIn_app ggX6_pewOf_X3_tell_q4 (goodIn_app ggX6_pewOf_X3_tell_q5 ggX6_pewOf_X3_tell_q6)))) ggX6_pewOf_X3_tell_q7) ggX6_pewOf_X3_tell_q8) ggX6_pewOf_X3_tell_q9) ggX6_pewOf_X3_tell_q10) ggX6_pewOf_X3_tell_q11))
set_option maxRecDepth 20000 in
theorem gX6_pewOf_X3_tell : GoodIn wsX6_pewOf (wsV RX6 229 RX3 yX3_tell wsX3_tell) := goodIn_app (goodIn_of _ (by decide +kernel)) ggX6_pewOf_X3_tell
set_option maxRecDepth 20000 in
theorem ggX6_pewOf_X3_rankByHeight : GoodIn wsX6_pewOf wsX3_rankByHeight := goodIn_r _ [149, 42, 62, 150, 151, 152, 32, 153, 154, 193, 194, 195, 196, 197, 181, 182, 183, 184, 185, 186, 187, 188, 189, 190, 191, 192] (by decide +kernel) (by decide +kernel)
set_option maxRecDepth 20000 in
theorem gX6_pewOf_X3_rankByHeight : GoodIn wsX6_pewOf (wsV RX6 256 RX3 yX3_rankByHeight wsX3_rankByHeight) := goodIn_app (goodIn_of _ (by decide +kernel)) ggX6_pewOf_X3_rankByHeight
theorem dX6_pewOf_0 : decode cX6_pewOf 0 = .ok (.aload_n 0, 1) := by decide +kernel
theorem dX6_pewOf_1 : decode cX6_pewOf 1 = .ok (.iload_n 1, 1) := by decide +kernel
theorem dX6_pewOf_2 : decode cX6_pewOf 2 = .ok (.invokevirtual 207, 3) := by decide +kernel
theorem dX6_pewOf_5 : decode cX6_pewOf 5 = .ok (.aload_n 0, 1) := by decide +kernel
theorem dX6_pewOf_6 : decode cX6_pewOf 6 = .ok (.iload_n 2, 1) := by decide +kernel
theorem dX6_pewOf_7 : decode cX6_pewOf 7 = .ok (.invokevirtual 146, 3) := by decide +kernel
theorem dX6_pewOf_10 : decode cX6_pewOf 10 = .ok (.aload_n 0, 1) := by decide +kernel
theorem dX6_pewOf_11 : decode cX6_pewOf 11 = .ok (.getfield 44, 3) := by decide +kernel
theorem dX6_pewOf_14 : decode cX6_pewOf 14 = .ok (.aload_n 0, 1) := by decide +kernel
theorem dX6_pewOf_15 : decode cX6_pewOf 15 = .ok (.getfield 10, 3) := by decide +kernel
theorem dX6_pewOf_18 : decode cX6_pewOf 18 = .ok (.iload_n 1, 1) := by decide +kernel
theorem dX6_pewOf_19 : decode cX6_pewOf 19 = .ok (.invokevirtual 229, 3) := by decide +kernel
theorem dX6_pewOf_22 : decode cX6_pewOf 22 = .ok (.aload_n 0, 1) := by decide +kernel
theorem dX6_pewOf_23 : decode cX6_pewOf 23 = .ok (.getfield 44, 3) := by decide +kernel
theorem dX6_pewOf_26 : decode cX6_pewOf 26 = .ok (.aload_n 0, 1) := by decide +kernel
theorem dX6_pewOf_27 : decode cX6_pewOf 27 = .ok (.getfield 10, 3) := by decide +kernel
theorem dX6_pewOf_30 : decode cX6_pewOf 30 = .ok (.getfield 137, 3) := by decide +kernel
theorem dX6_pewOf_33 : decode cX6_pewOf 33 = .ok (.iload_n 2, 1) := by decide +kernel
theorem dX6_pewOf_34 : decode cX6_pewOf 34 = .ok (.invokevirtual 256, 3) := by decide +kernel
theorem dX6_pewOf_37 : decode cX6_pewOf 37 = .ok (.istore_n 3, 1) := by decide +kernel
theorem dX6_pewOf_38 : decode cX6_pewOf 38 = .ok (.iload_n 3, 1) := by decide +kernel
theorem dX6_pewOf_39 : decode cX6_pewOf 39 = .ok (.iconst (-1), 1) := by decide +kernel
theorem dX6_pewOf_40 : decode cX6_pewOf 40 = .ok (.if_icmp .ne 7, 3) := by decide +kernel
theorem dX6_pewOf_43 : decode cX6_pewOf 43 = .ok (.iconst (-1), 1) := by decide +kernel
theorem dX6_pewOf_44 : decode cX6_pewOf 44 = .ok (.goto 6, 3) := by decide +kernel
theorem dX6_pewOf_47 : decode cX6_pewOf 47 = .ok (.iload_n 3, 1) := by decide +kernel
theorem dX6_pewOf_48 : decode cX6_pewOf 48 = .ok (.iconst 2, 1) := by decide +kernel
theorem dX6_pewOf_49 : decode cX6_pewOf 49 = .ok (.idiv, 1) := by decide +kernel
theorem dX6_pewOf_50 : decode cX6_pewOf 50 = .ok (.ireturn, 1) := by decide +kernel
set_option maxRecDepth 20000 in
theorem ggX6_seatOf_X6_requireFeast : GoodIn wsX6_seatOf wsX6_requireFeast := goodIn_ca (goodIn_ca (goodIn_ca (goodIn_r _ [8, 2, 9, 10, 11, 12, 13, 14, 15, 16, 17, 7, 18, 19, 20, 21, 22, 23, 24, 155, 156, 157, 158, 159, 160, 161, 162, 163, 164, 165, 166, 167, 168, 169, 170, 171, 172, 173, 174, 175, 176, 177, 178, 179, 180] (by decide +kernel) (by decide +kernel)) (goodIn_sub (fun _ h => List.mem_cons_of_mem _ (List.mem_append_left _ (List.mem_append_left _ (List.mem_append_right _ h)))) (by decide +kernel))) (goodIn_sub (fun _ h => List.mem_cons_of_mem _ (List.mem_append_left _ (List.mem_append_right _ h))) (by decide +kernel))) (goodIn_sub (fun _ h => List.mem_cons_of_mem _ (List.mem_append_right _ h)) (by decide +kernel))
set_option maxRecDepth 20000 in
theorem gX6_seatOf_X6_requireFeast : GoodIn wsX6_seatOf (wsV RX6 207 RX6 yX6_requireFeast wsX6_requireFeast) := goodIn_app (goodIn_of _ (by decide +kernel)) ggX6_seatOf_X6_requireFeast
set_option maxRecDepth 20000 in
theorem ggX6_seatOf_X6_requireSinger : GoodIn wsX6_seatOf wsX6_requireSinger := goodIn_ca (goodIn_ca (goodIn_ca (goodIn_r _ [28, 2, 3, 29, 30, 31, 32, 33, 34, 16, 17, 7, 18, 19, 20, 21, 22, 23, 24, 155, 156, 157, 158, 159, 160, 161, 162, 163, 164, 165, 166, 167, 168, 169, 170, 171, 172, 181, 182, 183, 184, 185, 186, 187, 188, 189, 190, 191, 192] (by decide +kernel) (by decide +kernel)) (goodIn_sub (fun _ h => List.mem_cons_of_mem _ (List.mem_append_left _ (List.mem_append_left _ (List.mem_append_right _ h)))) (by decide +kernel))) (goodIn_sub (fun _ h => List.mem_cons_of_mem _ (List.mem_append_left _ (List.mem_append_right _ h))) (by decide +kernel))) (goodIn_sub (fun _ h => List.mem_cons_of_mem _ (List.mem_append_right _ h)) (by decide +kernel))
set_option maxRecDepth 20000 in
theorem gX6_seatOf_X6_requireSinger : GoodIn wsX6_seatOf (wsV RX6 146 RX6 yX6_requireSinger wsX6_requireSinger) := goodIn_app (goodIn_of _ (by decide +kernel)) ggX6_seatOf_X6_requireSinger
set_option maxRecDepth 20000 in
theorem ggX6_seatOf_X3_tell_q1 : GoodIn wsX6_seatOf ([Cond.code yX3_tell cX3_tell 3 none]) := goodIn_r _ [39] (by decide +kernel) (by decide +kernel)
set_option maxRecDepth 20000 in
theorem ggX6_seatOf_X3_tell_q2 : GoodIn wsX6_seatOf (wsX3_tell_r1) := goodIn_r _ [40, 41, 42, 43, 44, 45, 46, 47, 48, 49, 50, 51, 52, 53, 54, 55, 56, 57, 38, 58, 59, 60, 61, 62] (by decide +kernel) (by decide +kernel)
set_option maxRecDepth 20000 in
theorem ggX6_seatOf_X3_tell_q3 : GoodIn wsX6_seatOf (wsX3_tell_r2) := goodIn_r _ [63, 64, 65, 66, 67, 68, 69, 70, 71, 72, 73, 74, 75, 76, 77, 32, 78, 79, 80, 81, 82, 83, 84, 85] (by decide +kernel) (by decide +kernel)
set_option maxRecDepth 20000 in
theorem ggX6_seatOf_X3_tell_q4 : GoodIn wsX6_seatOf (wsX3_tell_r3) := goodIn_r _ [86, 87, 88, 89, 90, 91, 92, 93, 94, 95, 96, 97, 98, 99, 100, 101, 102, 103, 104, 105, 106, 107, 108, 109] (by decide +kernel) (by decide +kernel)
set_option maxRecDepth 20000 in
theorem ggX6_seatOf_X3_tell_q5 : GoodIn wsX6_seatOf (wsX3_tell_r4) := goodIn_r _ [110, 111, 112, 113, 114, 115, 116, 117, 118, 119, 120, 121, 122, 123, 124, 125, 126, 127, 128, 129, 130, 131, 132, 133] (by decide +kernel) (by decide +kernel)
set_option maxRecDepth 20000 in
theorem ggX6_seatOf_X3_tell_q6 : GoodIn wsX6_seatOf (wsX3_tell_r5) := goodIn_r _ [134, 135, 136, 137, 138, 139, 140, 141, 142, 143, 144, 145] (by decide +kernel) (by decide +kernel)
set_option maxRecDepth 20000 in
theorem ggX6_seatOf_X3_tell_q7 : GoodIn wsX6_seatOf (wsX00) := goodIn_r _ [163, 164, 165, 166, 167, 168, 169, 170, 171, 172] (by decide +kernel) (by decide +kernel)
set_option maxRecDepth 20000 in
theorem ggX6_seatOf_X3_tell_q8 : GoodIn wsX6_seatOf (wsX10) := goodIn_r _ [173, 174, 175, 176, 177, 178, 179, 180] (by decide +kernel) (by decide +kernel)
set_option maxRecDepth 20000 in
theorem ggX6_seatOf_X3_tell_q9 : GoodIn wsX6_seatOf (wsX30) := goodIn_r _ [193, 194, 195, 196, 197] (by decide +kernel) (by decide +kernel)
set_option maxRecDepth 20000 in
theorem ggX6_seatOf_X3_tell_q10 : GoodIn wsX6_seatOf (wsX50) := goodIn_r _ [181, 182, 183, 184, 185, 186, 187, 188, 189, 190, 191, 192] (by decide +kernel) (by decide +kernel)
set_option maxRecDepth 20000 in
theorem ggX6_seatOf_X3_tell_q11 : GoodIn wsX6_seatOf (wsX40) := goodIn_r _ [198, 199, 200, 201] (by decide +kernel) (by decide +kernel)
theorem ggX6_seatOf_X3_tell : GoodIn wsX6_seatOf wsX3_tell := (goodIn_app (a := [Cond.code yX3_tell cX3_tell 3 none]) ggX6_seatOf_X3_tell_q1 (goodIn_app (goodIn_app (goodIn_app (goodIn_app (goodIn_app (goodIn_app ggX6_seatOf_X3_tell_q2 (goodIn_app ggX6_seatOf_X3_tell_q3 (goodIn_app ggX6_seatOf_X3_tell_q4 (goodIn_app ggX6_seatOf_X3_tell_q5 ggX6_seatOf_X3_tell_q6)))) ggX6_seatOf_X3_tell_q7) ggX6_seatOf_X3_tell_q8) ggX6_seatOf_X3_tell_q9) ggX6_seatOf_X3_tell_q10) ggX6_seatOf_X3_tell_q11))
set_option maxRecDepth 20000 in
theorem gX6_seatOf_X3_tell : GoodIn wsX6_seatOf (wsV RX6 229 RX3 yX3_tell wsX3_tell) := goodIn_app (goodIn_of _ (by decide +kernel)) ggX6_seatOf_X3_tell
set_option maxRecDepth 20000 in
theorem ggX6_seatOf_X3_rankByHeight : GoodIn wsX6_seatOf wsX3_rankByHeight := goodIn_r _ [149, 42, 62, 150, 151, 152, 32, 153, 154, 193, 194, 195, 196, 197, 181, 182, 183, 184, 185, 186, 187, 188, 189, 190, 191, 192] (by decide +kernel) (by decide +kernel)
set_option maxRecDepth 20000 in
theorem gX6_seatOf_X3_rankByHeight : GoodIn wsX6_seatOf (wsV RX6 256 RX3 yX3_rankByHeight wsX3_rankByHeight) := goodIn_app (goodIn_of _ (by decide +kernel)) ggX6_seatOf_X3_rankByHeight
theorem dX6_seatOf_0 : decode cX6_seatOf 0 = .ok (.aload_n 0, 1) := by decide +kernel
theorem dX6_seatOf_1 : decode cX6_seatOf 1 = .ok (.iload_n 1, 1) := by decide +kernel
theorem dX6_seatOf_2 : decode cX6_seatOf 2 = .ok (.invokevirtual 207, 3) := by decide +kernel
theorem dX6_seatOf_5 : decode cX6_seatOf 5 = .ok (.aload_n 0, 1) := by decide +kernel
theorem dX6_seatOf_6 : decode cX6_seatOf 6 = .ok (.iload_n 2, 1) := by decide +kernel
theorem dX6_seatOf_7 : decode cX6_seatOf 7 = .ok (.invokevirtual 146, 3) := by decide +kernel
theorem dX6_seatOf_10 : decode cX6_seatOf 10 = .ok (.aload_n 0, 1) := by decide +kernel
theorem dX6_seatOf_11 : decode cX6_seatOf 11 = .ok (.getfield 44, 3) := by decide +kernel
theorem dX6_seatOf_14 : decode cX6_seatOf 14 = .ok (.aload_n 0, 1) := by decide +kernel
theorem dX6_seatOf_15 : decode cX6_seatOf 15 = .ok (.getfield 10, 3) := by decide +kernel
theorem dX6_seatOf_18 : decode cX6_seatOf 18 = .ok (.iload_n 1, 1) := by decide +kernel
theorem dX6_seatOf_19 : decode cX6_seatOf 19 = .ok (.invokevirtual 229, 3) := by decide +kernel
theorem dX6_seatOf_22 : decode cX6_seatOf 22 = .ok (.aload_n 0, 1) := by decide +kernel
theorem dX6_seatOf_23 : decode cX6_seatOf 23 = .ok (.getfield 44, 3) := by decide +kernel
theorem dX6_seatOf_26 : decode cX6_seatOf 26 = .ok (.aload_n 0, 1) := by decide +kernel
theorem dX6_seatOf_27 : decode cX6_seatOf 27 = .ok (.getfield 10, 3) := by decide +kernel
theorem dX6_seatOf_30 : decode cX6_seatOf 30 = .ok (.getfield 137, 3) := by decide +kernel
theorem dX6_seatOf_33 : decode cX6_seatOf 33 = .ok (.iload_n 2, 1) := by decide +kernel
theorem dX6_seatOf_34 : decode cX6_seatOf 34 = .ok (.invokevirtual 256, 3) := by decide +kernel
theorem dX6_seatOf_37 : decode cX6_seatOf 37 = .ok (.istore_n 3, 1) := by decide +kernel
theorem dX6_seatOf_38 : decode cX6_seatOf 38 = .ok (.iload_n 3, 1) := by decide +kernel
theorem dX6_seatOf_39 : decode cX6_seatOf 39 = .ok (.iconst (-1), 1) := by decide +kernel
theorem dX6_seatOf_40 : decode cX6_seatOf 40 = .ok (.if_icmp .ne 7, 3) := by decide +kernel
theorem dX6_seatOf_43 : decode cX6_seatOf 43 = .ok (.iconst (-1), 1) := by decide +kernel
theorem dX6_seatOf_44 : decode cX6_seatOf 44 = .ok (.goto 6, 3) := by decide +kernel
theorem dX6_seatOf_47 : decode cX6_seatOf 47 = .ok (.iload_n 3, 1) := by decide +kernel
theorem dX6_seatOf_48 : decode cX6_seatOf 48 = .ok (.iconst 2, 1) := by decide +kernel
theorem dX6_seatOf_49 : decode cX6_seatOf 49 = .ok (.irem, 1) := by decide +kernel
theorem dX6_seatOf_50 : decode cX6_seatOf 50 = .ok (.ireturn, 1) := by decide +kernel
set_option maxRecDepth 20000 in
theorem ggX6_firstShortFeast_X1_nextAfter : GoodIn wsX6_firstShortFeast wsX1_nextAfter := goodIn_r _ [10, 11, 12, 99, 100, 101, 102, 103, 104, 105, 106] (by decide +kernel) (by decide +kernel)
set_option maxRecDepth 20000 in
theorem gX6_firstShortFeast_X1_nextAfter : GoodIn wsX6_firstShortFeast (wsV RX6 260 RX1 yX1_nextAfter wsX1_nextAfter) := goodIn_app (goodIn_of _ (by decide +kernel)) ggX6_firstShortFeast_X1_nextAfter
set_option maxRecDepth 20000 in
theorem ggX6_firstShortFeast_X3_lackBySets_q1 : GoodIn wsX6_firstShortFeast ([Cond.code yX3_lackBySets cX3_lackBySets 8 (some .int)]) := goodIn_r _ [17] (by decide +kernel) (by decide +kernel)
set_option maxRecDepth 20000 in
theorem ggX6_firstShortFeast_X3_lackBySets_q2 : GoodIn wsX6_firstShortFeast (wsX3_lackBySets_r1) := goodIn_r _ [18, 19, 20, 21, 22, 23, 24, 16, 25, 26, 27, 28, 29, 30, 31, 32, 33, 34, 35, 36, 37, 38, 39, 40] (by decide +kernel) (by decide +kernel)
set_option maxRecDepth 20000 in
theorem ggX6_firstShortFeast_X3_lackBySets_q3 : GoodIn wsX6_firstShortFeast (wsX3_lackBySets_r2) := goodIn_r _ [41, 42, 43, 44, 45, 46, 47, 48, 49, 50, 51, 52, 53, 54, 55, 56, 57, 58, 59, 60, 61, 62, 63, 64] (by decide +kernel) (by decide +kernel)
set_option maxRecDepth 20000 in
theorem ggX6_firstShortFeast_X3_lackBySets_q4 : GoodIn wsX6_firstShortFeast (wsX3_lackBySets_r3) := goodIn_r _ [65, 66, 67, 68, 69, 70, 71, 72, 73, 74, 75, 76, 77, 78, 79, 80] (by decide +kernel) (by decide +kernel)
set_option maxRecDepth 20000 in
theorem ggX6_firstShortFeast_X3_lackBySets_q5 : GoodIn wsX6_firstShortFeast (wsX00) := goodIn_r _ [89, 90, 91, 92, 93, 94, 95, 96, 97, 98] (by decide +kernel) (by decide +kernel)
set_option maxRecDepth 20000 in
theorem ggX6_firstShortFeast_X3_lackBySets_q6 : GoodIn wsX6_firstShortFeast (wsX50) := goodIn_r _ [107, 108, 109, 110, 111, 112, 113, 114, 115, 116, 117, 118] (by decide +kernel) (by decide +kernel)
set_option maxRecDepth 20000 in
theorem ggX6_firstShortFeast_X3_lackBySets_q7 : GoodIn wsX6_firstShortFeast (wsX10) := goodIn_r _ [99, 100, 101, 102, 103, 104, 105, 106] (by decide +kernel) (by decide +kernel)
set_option maxRecDepth 20000 in
theorem ggX6_firstShortFeast_X3_lackBySets_q8 : GoodIn wsX6_firstShortFeast (wsX30) := goodIn_r _ [119, 120, 121, 122, 123] (by decide +kernel) (by decide +kernel)
set_option maxRecDepth 20000 in
theorem ggX6_firstShortFeast_X3_lackBySets_q9 : GoodIn wsX6_firstShortFeast (wsX40) := goodIn_r _ [124, 125, 126, 127] (by decide +kernel) (by decide +kernel)
theorem ggX6_firstShortFeast_X3_lackBySets : GoodIn wsX6_firstShortFeast wsX3_lackBySets := (goodIn_app (a := [Cond.code yX3_lackBySets cX3_lackBySets 8 (some .int)]) ggX6_firstShortFeast_X3_lackBySets_q1 (goodIn_app (goodIn_app (goodIn_app (goodIn_app (goodIn_app (goodIn_app ggX6_firstShortFeast_X3_lackBySets_q2 (goodIn_app ggX6_firstShortFeast_X3_lackBySets_q3 ggX6_firstShortFeast_X3_lackBySets_q4)) ggX6_firstShortFeast_X3_lackBySets_q5) ggX6_firstShortFeast_X3_lackBySets_q6) ggX6_firstShortFeast_X3_lackBySets_q7) ggX6_firstShortFeast_X3_lackBySets_q8) ggX6_firstShortFeast_X3_lackBySets_q9))
set_option maxRecDepth 20000 in
theorem gX6_firstShortFeast_X3_lackBySets : GoodIn wsX6_firstShortFeast (wsV RX6 245 RX3 yX3_lackBySets wsX3_lackBySets) := goodIn_app (goodIn_of _ (by decide +kernel)) ggX6_firstShortFeast_X3_lackBySets
theorem dX6_firstShortFeast_0 : decode cX6_firstShortFeast 0 = .ok (.aload_n 0, 1) := by decide +kernel
theorem dX6_firstShortFeast_1 : decode cX6_firstShortFeast 1 = .ok (.getfield 10, 3) := by decide +kernel
theorem dX6_firstShortFeast_4 : decode cX6_firstShortFeast 4 = .ok (.getfield 200, 3) := by decide +kernel
theorem dX6_firstShortFeast_7 : decode cX6_firstShortFeast 7 = .ok (.aload_n 0, 1) := by decide +kernel
theorem dX6_firstShortFeast_8 : decode cX6_firstShortFeast 8 = .ok (.getfield 10, 3) := by decide +kernel
theorem dX6_firstShortFeast_11 : decode cX6_firstShortFeast 11 = .ok (.getfield 134, 3) := by decide +kernel
theorem dX6_firstShortFeast_14 : decode cX6_firstShortFeast 14 = .ok (.invokevirtual 260, 3) := by decide +kernel
theorem dX6_firstShortFeast_17 : decode cX6_firstShortFeast 17 = .ok (.istore_n 1, 1) := by decide +kernel
theorem dX6_firstShortFeast_18 : decode cX6_firstShortFeast 18 = .ok (.iconst 0, 1) := by decide +kernel
theorem dX6_firstShortFeast_19 : decode cX6_firstShortFeast 19 = .ok (.istore_n 2, 1) := by decide +kernel
theorem dX6_firstShortFeast_20 : decode cX6_firstShortFeast 20 = .ok (.iload_n 2, 1) := by decide +kernel
theorem dX6_firstShortFeast_21 : decode cX6_firstShortFeast 21 = .ok (.bipush 20, 2) := by decide +kernel
theorem dX6_firstShortFeast_23 : decode cX6_firstShortFeast 23 = .ok (.if_icmp .ge 55, 3) := by decide +kernel
theorem dX6_firstShortFeast_26 : decode cX6_firstShortFeast 26 = .ok (.iload_n 1, 1) := by decide +kernel
theorem dX6_firstShortFeast_27 : decode cX6_firstShortFeast 27 = .ok (.iconst (-1), 1) := by decide +kernel
theorem dX6_firstShortFeast_28 : decode cX6_firstShortFeast 28 = .ok (.if_icmp .eq 50, 3) := by decide +kernel
theorem dX6_firstShortFeast_31 : decode cX6_firstShortFeast 31 = .ok (.aload_n 0, 1) := by decide +kernel
theorem dX6_firstShortFeast_32 : decode cX6_firstShortFeast 32 = .ok (.getfield 44, 3) := by decide +kernel
theorem dX6_firstShortFeast_35 : decode cX6_firstShortFeast 35 = .ok (.aload_n 0, 1) := by decide +kernel
theorem dX6_firstShortFeast_36 : decode cX6_firstShortFeast 36 = .ok (.getfield 10, 3) := by decide +kernel
theorem dX6_firstShortFeast_39 : decode cX6_firstShortFeast 39 = .ok (.iload_n 1, 1) := by decide +kernel
theorem dX6_firstShortFeast_40 : decode cX6_firstShortFeast 40 = .ok (.iconst (-1), 1) := by decide +kernel
theorem dX6_firstShortFeast_41 : decode cX6_firstShortFeast 41 = .ok (.invokevirtual 245, 3) := by decide +kernel
theorem dX6_firstShortFeast_44 : decode cX6_firstShortFeast 44 = .ok (.ifCond .le 5, 3) := by decide +kernel
theorem dX6_firstShortFeast_47 : decode cX6_firstShortFeast 47 = .ok (.iload_n 1, 1) := by decide +kernel
theorem dX6_firstShortFeast_48 : decode cX6_firstShortFeast 48 = .ok (.ireturn, 1) := by decide +kernel
theorem dX6_firstShortFeast_49 : decode cX6_firstShortFeast 49 = .ok (.aload_n 0, 1) := by decide +kernel
theorem dX6_firstShortFeast_50 : decode cX6_firstShortFeast 50 = .ok (.getfield 10, 3) := by decide +kernel
theorem dX6_firstShortFeast_53 : decode cX6_firstShortFeast 53 = .ok (.getfield 200, 3) := by decide +kernel
theorem dX6_firstShortFeast_56 : decode cX6_firstShortFeast 56 = .ok (.aload_n 0, 1) := by decide +kernel
theorem dX6_firstShortFeast_57 : decode cX6_firstShortFeast 57 = .ok (.getfield 10, 3) := by decide +kernel
theorem dX6_firstShortFeast_60 : decode cX6_firstShortFeast 60 = .ok (.getfield 200, 3) := by decide +kernel
theorem dX6_firstShortFeast_63 : decode cX6_firstShortFeast 63 = .ok (.getfield 210, 3) := by decide +kernel
theorem dX6_firstShortFeast_66 : decode cX6_firstShortFeast 66 = .ok (.iload_n 1, 1) := by decide +kernel
theorem dX6_firstShortFeast_67 : decode cX6_firstShortFeast 67 = .ok (.iaload, 1) := by decide +kernel
theorem dX6_firstShortFeast_68 : decode cX6_firstShortFeast 68 = .ok (.invokevirtual 260, 3) := by decide +kernel
theorem dX6_firstShortFeast_71 : decode cX6_firstShortFeast 71 = .ok (.istore_n 1, 1) := by decide +kernel
theorem dX6_firstShortFeast_72 : decode cX6_firstShortFeast 72 = .ok (.iinc 2 1, 3) := by decide +kernel
theorem dX6_firstShortFeast_75 : decode cX6_firstShortFeast 75 = .ok (.goto (-55), 3) := by decide +kernel
theorem dX6_firstShortFeast_78 : decode cX6_firstShortFeast 78 = .ok (.iconst (-1), 1) := by decide +kernel
theorem dX6_firstShortFeast_79 : decode cX6_firstShortFeast 79 = .ok (.ireturn, 1) := by decide +kernel
set_option maxRecDepth 20000 in
theorem ggX6_favoursOf_X6_isWithin : GoodIn wsX6_favoursOf wsX6_isWithin := goodIn_r _ [6] (by decide +kernel) (by decide +kernel)
set_option maxRecDepth 20000 in
theorem gX6_favoursOf_X6_isWithin : GoodIn wsX6_favoursOf (va_wsS RX6 181 yX6_isWithin wsX6_isWithin) := goodIn_app (goodIn_of _ (by decide +kernel)) ggX6_favoursOf_X6_isWithin
set_option maxRecDepth 20000 in
theorem ggX6_favoursOf_X6_refuseIf : GoodIn wsX6_favoursOf wsX6_refuseIf := goodIn_ca (goodIn_ca (goodIn_ca (goodIn_r _ [9, 10, 11, 12, 13, 14, 15] (by decide +kernel) (by decide +kernel)) (goodIn_sub (fun _ h => List.mem_cons_of_mem _ (List.mem_append_left _ (List.mem_append_left _ (List.mem_append_right _ h)))) (by decide +kernel))) (goodIn_sub (fun _ h => List.mem_cons_of_mem _ (List.mem_append_left _ (List.mem_append_right _ h))) (by decide +kernel))) (goodIn_sub (fun _ h => List.mem_cons_of_mem _ (List.mem_append_right _ h)) (by decide +kernel))
set_option maxRecDepth 20000 in
theorem gX6_favoursOf_X6_refuseIf : GoodIn wsX6_favoursOf (va_wsS RX6 52 yX6_refuseIf wsX6_refuseIf) := goodIn_app (goodIn_of _ (by decide +kernel)) ggX6_favoursOf_X6_refuseIf
theorem dX6_favoursOf_0 : decode cX6_favoursOf 0 = .ok (.iload_n 1, 1) := by decide +kernel
theorem dX6_favoursOf_1 : decode cX6_favoursOf 1 = .ok (.iconst 0, 1) := by decide +kernel
theorem dX6_favoursOf_2 : decode cX6_favoursOf 2 = .ok (.iconst 4, 1) := by decide +kernel
theorem dX6_favoursOf_3 : decode cX6_favoursOf 3 = .ok (.invokestatic 181, 3) := by decide +kernel
theorem dX6_favoursOf_6 : decode cX6_favoursOf 6 = .ok (.ifCond .eq 7, 3) := by decide +kernel
theorem dX6_favoursOf_9 : decode cX6_favoursOf 9 = .ok (.iconst 0, 1) := by decide +kernel
theorem dX6_favoursOf_10 : decode cX6_favoursOf 10 = .ok (.goto 4, 3) := by decide +kernel
theorem dX6_favoursOf_13 : decode cX6_favoursOf 13 = .ok (.iconst 1, 1) := by decide +kernel
theorem dX6_favoursOf_14 : decode cX6_favoursOf 14 = .ok (.invokestatic 52, 3) := by decide +kernel
theorem dX6_favoursOf_17 : decode cX6_favoursOf 17 = .ok (.aload_n 0, 1) := by decide +kernel
theorem dX6_favoursOf_18 : decode cX6_favoursOf 18 = .ok (.getfield 10, 3) := by decide +kernel
theorem dX6_favoursOf_21 : decode cX6_favoursOf 21 = .ok (.getfield 263, 3) := by decide +kernel
theorem dX6_favoursOf_24 : decode cX6_favoursOf 24 = .ok (.iload_n 1, 1) := by decide +kernel
theorem dX6_favoursOf_25 : decode cX6_favoursOf 25 = .ok (.iaload, 1) := by decide +kernel
theorem dX6_favoursOf_26 : decode cX6_favoursOf 26 = .ok (.ireturn, 1) := by decide +kernel
theorem dX6_purse_0 : decode cX6_purse 0 = .ok (.aload_n 0, 1) := by decide +kernel
theorem dX6_purse_1 : decode cX6_purse 1 = .ok (.getfield 10, 3) := by decide +kernel
theorem dX6_purse_4 : decode cX6_purse 4 = .ok (.getfield 266, 3) := by decide +kernel
theorem dX6_purse_7 : decode cX6_purse 7 = .ok (.ireturn, 1) := by decide +kernel
theorem dX6_purseByAccounts_0 : decode cX6_purseByAccounts 0 = .ok (.bipush 50, 2) := by decide +kernel
theorem dX6_purseByAccounts_2 : decode cX6_purseByAccounts 2 = .ok (.aload_n 0, 1) := by decide +kernel
theorem dX6_purseByAccounts_3 : decode cX6_purseByAccounts 3 = .ok (.getfield 10, 3) := by decide +kernel
theorem dX6_purseByAccounts_6 : decode cX6_purseByAccounts 6 = .ok (.getfield 269, 3) := by decide +kernel
theorem dX6_purseByAccounts_9 : decode cX6_purseByAccounts 9 = .ok (.iadd, 1) := by decide +kernel
theorem dX6_purseByAccounts_10 : decode cX6_purseByAccounts 10 = .ok (.aload_n 0, 1) := by decide +kernel
theorem dX6_purseByAccounts_11 : decode cX6_purseByAccounts 11 = .ok (.getfield 10, 3) := by decide +kernel
theorem dX6_purseByAccounts_14 : decode cX6_purseByAccounts 14 = .ok (.getfield 272, 3) := by decide +kernel
theorem dX6_purseByAccounts_17 : decode cX6_purseByAccounts 17 = .ok (.iadd, 1) := by decide +kernel
theorem dX6_purseByAccounts_18 : decode cX6_purseByAccounts 18 = .ok (.aload_n 0, 1) := by decide +kernel
theorem dX6_purseByAccounts_19 : decode cX6_purseByAccounts 19 = .ok (.getfield 10, 3) := by decide +kernel
theorem dX6_purseByAccounts_22 : decode cX6_purseByAccounts 22 = .ok (.getfield 275, 3) := by decide +kernel
theorem dX6_purseByAccounts_25 : decode cX6_purseByAccounts 25 = .ok (.isub, 1) := by decide +kernel
theorem dX6_purseByAccounts_26 : decode cX6_purseByAccounts 26 = .ok (.aload_n 0, 1) := by decide +kernel
theorem dX6_purseByAccounts_27 : decode cX6_purseByAccounts 27 = .ok (.getfield 10, 3) := by decide +kernel
theorem dX6_purseByAccounts_30 : decode cX6_purseByAccounts 30 = .ok (.getfield 278, 3) := by decide +kernel
theorem dX6_purseByAccounts_33 : decode cX6_purseByAccounts 33 = .ok (.isub, 1) := by decide +kernel
theorem dX6_purseByAccounts_34 : decode cX6_purseByAccounts 34 = .ok (.ireturn, 1) := by decide +kernel
theorem dX6_collected_0 : decode cX6_collected 0 = .ok (.aload_n 0, 1) := by decide +kernel
theorem dX6_collected_1 : decode cX6_collected 1 = .ok (.getfield 10, 3) := by decide +kernel
theorem dX6_collected_4 : decode cX6_collected 4 = .ok (.getfield 269, 3) := by decide +kernel
theorem dX6_collected_7 : decode cX6_collected 7 = .ok (.ireturn, 1) := by decide +kernel
theorem dX6_fees_0 : decode cX6_fees 0 = .ok (.aload_n 0, 1) := by decide +kernel
theorem dX6_fees_1 : decode cX6_fees 1 = .ok (.getfield 10, 3) := by decide +kernel
theorem dX6_fees_4 : decode cX6_fees 4 = .ok (.getfield 275, 3) := by decide +kernel
theorem dX6_fees_7 : decode cX6_fees 7 = .ok (.ireturn, 1) := by decide +kernel
theorem dX6_fines_0 : decode cX6_fines 0 = .ok (.aload_n 0, 1) := by decide +kernel
theorem dX6_fines_1 : decode cX6_fines 1 = .ok (.getfield 10, 3) := by decide +kernel
theorem dX6_fines_4 : decode cX6_fines 4 = .ok (.getfield 278, 3) := by decide +kernel
theorem dX6_fines_7 : decode cX6_fines 7 = .ok (.ireturn, 1) := by decide +kernel
theorem dX6_day_0 : decode cX6_day 0 = .ok (.aload_n 0, 1) := by decide +kernel
theorem dX6_day_1 : decode cX6_day 1 = .ok (.getfield 10, 3) := by decide +kernel
theorem dX6_day_4 : decode cX6_day 4 = .ok (.getfield 134, 3) := by decide +kernel
theorem dX6_day_7 : decode cX6_day 7 = .ok (.ireturn, 1) := by decide +kernel
theorem dX6_recordedStates_0 : decode cX6_recordedStates 0 = .ok (.aload_n 0, 1) := by decide +kernel
theorem dX6_recordedStates_1 : decode cX6_recordedStates 1 = .ok (.getfield 30, 3) := by decide +kernel
theorem dX6_recordedStates_4 : decode cX6_recordedStates 4 = .ok (.ireturn, 1) := by decide +kernel
theorem dX6_refuseIf_0 : decode cX6_refuseIf 0 = .ok (.iload_n 0, 1) := by decide +kernel
theorem dX6_refuseIf_1 : decode cX6_refuseIf 1 = .ok (.iconst 1, 1) := by decide +kernel
theorem dX6_refuseIf_2 : decode cX6_refuseIf 2 = .ok (.if_icmp .ne 14, 3) := by decide +kernel
theorem dX6_refuseIf_5 : decode cX6_refuseIf 5 = .ok (.new 281, 3) := by decide +kernel
theorem dX6_refuseIf_8 : decode cX6_refuseIf 8 = .ok (.dup, 1) := by decide +kernel
theorem dX6_refuseIf_9 : decode cX6_refuseIf 9 = .ok (.ldc_w 283, 3) := by decide +kernel
theorem dX6_refuseIf_12 : decode cX6_refuseIf 12 = .ok (.invokespecial 285, 3) := by decide +kernel
theorem dX6_refuseIf_15 : decode cX6_refuseIf 15 = .ok (.athrow, 1) := by decide +kernel
theorem dX6_refuseIf_16 : decode cX6_refuseIf 16 = .ok (.iload_n 0, 1) := by decide +kernel
theorem dX6_refuseIf_17 : decode cX6_refuseIf 17 = .ok (.iconst 2, 1) := by decide +kernel
theorem dX6_refuseIf_18 : decode cX6_refuseIf 18 = .ok (.if_icmp .ne 14, 3) := by decide +kernel
theorem dX6_refuseIf_21 : decode cX6_refuseIf 21 = .ok (.new 288, 3) := by decide +kernel
theorem dX6_refuseIf_24 : decode cX6_refuseIf 24 = .ok (.dup, 1) := by decide +kernel
theorem dX6_refuseIf_25 : decode cX6_refuseIf 25 = .ok (.ldc_w 290, 3) := by decide +kernel
theorem dX6_refuseIf_28 : decode cX6_refuseIf 28 = .ok (.invokespecial 292, 3) := by decide +kernel
theorem dX6_refuseIf_31 : decode cX6_refuseIf 31 = .ok (.athrow, 1) := by decide +kernel
theorem dX6_refuseIf_32 : decode cX6_refuseIf 32 = .ok (.iload_n 0, 1) := by decide +kernel
theorem dX6_refuseIf_33 : decode cX6_refuseIf 33 = .ok (.iconst 3, 1) := by decide +kernel
theorem dX6_refuseIf_34 : decode cX6_refuseIf 34 = .ok (.if_icmp .ne 14, 3) := by decide +kernel
theorem dX6_refuseIf_37 : decode cX6_refuseIf 37 = .ok (.new 293, 3) := by decide +kernel
theorem dX6_refuseIf_40 : decode cX6_refuseIf 40 = .ok (.dup, 1) := by decide +kernel
theorem dX6_refuseIf_41 : decode cX6_refuseIf 41 = .ok (.ldc_w 295, 3) := by decide +kernel
theorem dX6_refuseIf_44 : decode cX6_refuseIf 44 = .ok (.invokespecial 297, 3) := by decide +kernel
theorem dX6_refuseIf_47 : decode cX6_refuseIf 47 = .ok (.athrow, 1) := by decide +kernel
theorem dX6_refuseIf_48 : decode cX6_refuseIf 48 = .ok (.return_, 1) := by decide +kernel
set_option maxRecDepth 20000 in
theorem ggX6_requireSinger_X5_has : GoodIn wsX6_requireSinger wsX5_has := goodIn_r _ [7, 8, 37, 38, 39, 40, 41, 42, 43, 44, 45, 46, 47, 48] (by decide +kernel) (by decide +kernel)
set_option maxRecDepth 20000 in
theorem gX6_requireSinger_X5_has : GoodIn wsX6_requireSinger (wsV RX6 298 RX5 yX5_has wsX5_has) := goodIn_app (goodIn_of _ (by decide +kernel)) ggX6_requireSinger_X5_has
set_option maxRecDepth 20000 in
theorem ggX6_requireSinger_X6_refuseIf : GoodIn wsX6_requireSinger wsX6_refuseIf := goodIn_ca (goodIn_ca (goodIn_ca (goodIn_r _ [12, 13, 14, 15, 16, 17, 18] (by decide +kernel) (by decide +kernel)) (goodIn_sub (fun _ h => List.mem_cons_of_mem _ (List.mem_append_left _ (List.mem_append_left _ (List.mem_append_right _ h)))) (by decide +kernel))) (goodIn_sub (fun _ h => List.mem_cons_of_mem _ (List.mem_append_left _ (List.mem_append_right _ h))) (by decide +kernel))) (goodIn_sub (fun _ h => List.mem_cons_of_mem _ (List.mem_append_right _ h)) (by decide +kernel))
set_option maxRecDepth 20000 in
theorem gX6_requireSinger_X6_refuseIf : GoodIn wsX6_requireSinger (va_wsS RX6 52 yX6_refuseIf wsX6_refuseIf) := goodIn_app (goodIn_of _ (by decide +kernel)) ggX6_requireSinger_X6_refuseIf
theorem dX6_requireSinger_0 : decode cX6_requireSinger 0 = .ok (.aload_n 0, 1) := by decide +kernel
theorem dX6_requireSinger_1 : decode cX6_requireSinger 1 = .ok (.getfield 10, 3) := by decide +kernel
theorem dX6_requireSinger_4 : decode cX6_requireSinger 4 = .ok (.getfield 137, 3) := by decide +kernel
theorem dX6_requireSinger_7 : decode cX6_requireSinger 7 = .ok (.iload_n 1, 1) := by decide +kernel
theorem dX6_requireSinger_8 : decode cX6_requireSinger 8 = .ok (.invokevirtual 298, 3) := by decide +kernel
theorem dX6_requireSinger_11 : decode cX6_requireSinger 11 = .ok (.ifCond .eq 7, 3) := by decide +kernel
theorem dX6_requireSinger_14 : decode cX6_requireSinger 14 = .ok (.iconst 0, 1) := by decide +kernel
theorem dX6_requireSinger_15 : decode cX6_requireSinger 15 = .ok (.goto 4, 3) := by decide +kernel
theorem dX6_requireSinger_18 : decode cX6_requireSinger 18 = .ok (.iconst 1, 1) := by decide +kernel
theorem dX6_requireSinger_19 : decode cX6_requireSinger 19 = .ok (.invokestatic 52, 3) := by decide +kernel
theorem dX6_requireSinger_22 : decode cX6_requireSinger 22 = .ok (.return_, 1) := by decide +kernel
set_option maxRecDepth 20000 in
theorem ggX6_requireFeast_X1_has : GoodIn wsX6_requireFeast wsX1_has := goodIn_r _ [7, 8, 37, 38, 39, 40, 41, 42, 43, 44] (by decide +kernel) (by decide +kernel)
set_option maxRecDepth 20000 in
theorem gX6_requireFeast_X1_has : GoodIn wsX6_requireFeast (wsV RX6 301 RX1 yX1_has wsX1_has) := goodIn_app (goodIn_of _ (by decide +kernel)) ggX6_requireFeast_X1_has
set_option maxRecDepth 20000 in
theorem ggX6_requireFeast_X6_refuseIf : GoodIn wsX6_requireFeast wsX6_refuseIf := goodIn_ca (goodIn_ca (goodIn_ca (goodIn_r _ [12, 13, 14, 15, 16, 17, 18] (by decide +kernel) (by decide +kernel)) (goodIn_sub (fun _ h => List.mem_cons_of_mem _ (List.mem_append_left _ (List.mem_append_left _ (List.mem_append_right _ h)))) (by decide +kernel))) (goodIn_sub (fun _ h => List.mem_cons_of_mem _ (List.mem_append_left _ (List.mem_append_right _ h))) (by decide +kernel))) (goodIn_sub (fun _ h => List.mem_cons_of_mem _ (List.mem_append_right _ h)) (by decide +kernel))
set_option maxRecDepth 20000 in
theorem gX6_requireFeast_X6_refuseIf : GoodIn wsX6_requireFeast (va_wsS RX6 52 yX6_refuseIf wsX6_refuseIf) := goodIn_app (goodIn_of _ (by decide +kernel)) ggX6_requireFeast_X6_refuseIf
theorem dX6_requireFeast_0 : decode cX6_requireFeast 0 = .ok (.aload_n 0, 1) := by decide +kernel
theorem dX6_requireFeast_1 : decode cX6_requireFeast 1 = .ok (.getfield 10, 3) := by decide +kernel
theorem dX6_requireFeast_4 : decode cX6_requireFeast 4 = .ok (.getfield 200, 3) := by decide +kernel
theorem dX6_requireFeast_7 : decode cX6_requireFeast 7 = .ok (.iload_n 1, 1) := by decide +kernel
theorem dX6_requireFeast_8 : decode cX6_requireFeast 8 = .ok (.invokevirtual 301, 3) := by decide +kernel
theorem dX6_requireFeast_11 : decode cX6_requireFeast 11 = .ok (.ifCond .eq 7, 3) := by decide +kernel
theorem dX6_requireFeast_14 : decode cX6_requireFeast 14 = .ok (.iconst 0, 1) := by decide +kernel
theorem dX6_requireFeast_15 : decode cX6_requireFeast 15 = .ok (.goto 4, 3) := by decide +kernel
theorem dX6_requireFeast_18 : decode cX6_requireFeast 18 = .ok (.iconst 1, 1) := by decide +kernel
theorem dX6_requireFeast_19 : decode cX6_requireFeast 19 = .ok (.invokestatic 52, 3) := by decide +kernel
theorem dX6_requireFeast_22 : decode cX6_requireFeast 22 = .ok (.return_, 1) := by decide +kernel
set_option maxRecDepth 20000 in
theorem ggX6_requireLine_X6_isLine : GoodIn wsX6_requireLine wsX6_isLine := goodIn_r _ [4, 5, 6, 3, 7] (by decide +kernel) (by decide +kernel)
set_option maxRecDepth 20000 in
theorem gX6_requireLine_X6_isLine : GoodIn wsX6_requireLine (va_wsS RX6 302 yX6_isLine wsX6_isLine) := goodIn_app (goodIn_of _ (by decide +kernel)) ggX6_requireLine_X6_isLine
set_option maxRecDepth 20000 in
theorem ggX6_requireLine_X6_refuseIf : GoodIn wsX6_requireLine wsX6_refuseIf := goodIn_ca (goodIn_ca (goodIn_ca (goodIn_r _ [10, 11, 12, 13, 14, 15, 16] (by decide +kernel) (by decide +kernel)) (goodIn_sub (fun _ h => List.mem_cons_of_mem _ (List.mem_append_left _ (List.mem_append_left _ (List.mem_append_right _ h)))) (by decide +kernel))) (goodIn_sub (fun _ h => List.mem_cons_of_mem _ (List.mem_append_left _ (List.mem_append_right _ h))) (by decide +kernel))) (goodIn_sub (fun _ h => List.mem_cons_of_mem _ (List.mem_append_right _ h)) (by decide +kernel))
set_option maxRecDepth 20000 in
theorem gX6_requireLine_X6_refuseIf : GoodIn wsX6_requireLine (va_wsS RX6 52 yX6_refuseIf wsX6_refuseIf) := goodIn_app (goodIn_of _ (by decide +kernel)) ggX6_requireLine_X6_refuseIf
theorem dX6_requireLine_0 : decode cX6_requireLine 0 = .ok (.iload_n 0, 1) := by decide +kernel
theorem dX6_requireLine_1 : decode cX6_requireLine 1 = .ok (.invokestatic 302, 3) := by decide +kernel
theorem dX6_requireLine_4 : decode cX6_requireLine 4 = .ok (.ifCond .eq 7, 3) := by decide +kernel
theorem dX6_requireLine_7 : decode cX6_requireLine 7 = .ok (.iconst 0, 1) := by decide +kernel
theorem dX6_requireLine_8 : decode cX6_requireLine 8 = .ok (.goto 4, 3) := by decide +kernel
theorem dX6_requireLine_11 : decode cX6_requireLine 11 = .ok (.iconst 1, 1) := by decide +kernel
theorem dX6_requireLine_12 : decode cX6_requireLine 12 = .ok (.invokestatic 52, 3) := by decide +kernel
theorem dX6_requireLine_15 : decode cX6_requireLine 15 = .ok (.return_, 1) := by decide +kernel
theorem dX6_isWithin_0 : decode cX6_isWithin 0 = .ok (.iload_n 0, 1) := by decide +kernel
theorem dX6_isWithin_1 : decode cX6_isWithin 1 = .ok (.iload_n 1, 1) := by decide +kernel
theorem dX6_isWithin_2 : decode cX6_isWithin 2 = .ok (.if_icmp .lt 12, 3) := by decide +kernel
theorem dX6_isWithin_5 : decode cX6_isWithin 5 = .ok (.iload_n 0, 1) := by decide +kernel
theorem dX6_isWithin_6 : decode cX6_isWithin 6 = .ok (.iload_n 2, 1) := by decide +kernel
theorem dX6_isWithin_7 : decode cX6_isWithin 7 = .ok (.if_icmp .gt 7, 3) := by decide +kernel
theorem dX6_isWithin_10 : decode cX6_isWithin 10 = .ok (.iconst 1, 1) := by decide +kernel
theorem dX6_isWithin_11 : decode cX6_isWithin 11 = .ok (.goto 4, 3) := by decide +kernel
theorem dX6_isWithin_14 : decode cX6_isWithin 14 = .ok (.iconst 0, 1) := by decide +kernel
theorem dX6_isWithin_15 : decode cX6_isWithin 15 = .ok (.ireturn, 1) := by decide +kernel
set_option maxRecDepth 20000 in
theorem ggX6_isLine_X6_isWithin : GoodIn wsX6_isLine wsX6_isWithin := goodIn_r _ [4] (by decide +kernel) (by decide +kernel)
set_option maxRecDepth 20000 in
theorem gX6_isLine_X6_isWithin : GoodIn wsX6_isLine (va_wsS RX6 181 yX6_isWithin wsX6_isWithin) := goodIn_app (goodIn_of _ (by decide +kernel)) ggX6_isLine_X6_isWithin
theorem dX6_isLine_0 : decode cX6_isLine 0 = .ok (.iload_n 0, 1) := by decide +kernel
theorem dX6_isLine_1 : decode cX6_isLine 1 = .ok (.iconst 0, 1) := by decide +kernel
theorem dX6_isLine_2 : decode cX6_isLine 2 = .ok (.iconst 3, 1) := by decide +kernel
theorem dX6_isLine_3 : decode cX6_isLine 3 = .ok (.invokestatic 181, 3) := by decide +kernel
theorem dX6_isLine_6 : decode cX6_isLine 6 = .ok (.ireturn, 1) := by decide +kernel
set_option maxRecDepth 20000 in
theorem ggX6_isHeightAndRange_X6_isWithin : GoodIn wsX6_isHeightAndRange wsX6_isWithin := goodIn_r _ [4] (by decide +kernel) (by decide +kernel)
set_option maxRecDepth 20000 in
theorem gX6_isHeightAndRange_X6_isWithin : GoodIn wsX6_isHeightAndRange (va_wsS RX6 181 yX6_isWithin wsX6_isWithin) := goodIn_app (goodIn_of _ (by decide +kernel)) ggX6_isHeightAndRange_X6_isWithin
set_option maxRecDepth 20000 in
theorem ggX6_isHeightAndRange_X6_isRange : GoodIn wsX6_isHeightAndRange wsX6_isRange := goodIn_r _ [7, 1, 2, 3, 4] (by decide +kernel) (by decide +kernel)
set_option maxRecDepth 20000 in
theorem gX6_isHeightAndRange_X6_isRange : GoodIn wsX6_isHeightAndRange (va_wsS RX6 305 yX6_isRange wsX6_isRange) := goodIn_app (goodIn_of _ (by decide +kernel)) ggX6_isHeightAndRange_X6_isRange
theorem dX6_isHeightAndRange_0 : decode cX6_isHeightAndRange 0 = .ok (.iload_n 0, 1) := by decide +kernel
theorem dX6_isHeightAndRange_1 : decode cX6_isHeightAndRange 1 = .ok (.bipush 90, 2) := by decide +kernel
theorem dX6_isHeightAndRange_3 : decode cX6_isHeightAndRange 3 = .ok (.sipush 210, 3) := by decide +kernel
theorem dX6_isHeightAndRange_6 : decode cX6_isHeightAndRange 6 = .ok (.invokestatic 181, 3) := by decide +kernel
theorem dX6_isHeightAndRange_9 : decode cX6_isHeightAndRange 9 = .ok (.ifCond .eq 15, 3) := by decide +kernel
theorem dX6_isHeightAndRange_12 : decode cX6_isHeightAndRange 12 = .ok (.iload_n 1, 1) := by decide +kernel
theorem dX6_isHeightAndRange_13 : decode cX6_isHeightAndRange 13 = .ok (.iload_n 2, 1) := by decide +kernel
theorem dX6_isHeightAndRange_14 : decode cX6_isHeightAndRange 14 = .ok (.invokestatic 305, 3) := by decide +kernel
theorem dX6_isHeightAndRange_17 : decode cX6_isHeightAndRange 17 = .ok (.ifCond .eq 7, 3) := by decide +kernel
theorem dX6_isHeightAndRange_20 : decode cX6_isHeightAndRange 20 = .ok (.iconst 1, 1) := by decide +kernel
theorem dX6_isHeightAndRange_21 : decode cX6_isHeightAndRange 21 = .ok (.goto 4, 3) := by decide +kernel
theorem dX6_isHeightAndRange_24 : decode cX6_isHeightAndRange 24 = .ok (.iconst 0, 1) := by decide +kernel
theorem dX6_isHeightAndRange_25 : decode cX6_isHeightAndRange 25 = .ok (.ireturn, 1) := by decide +kernel
set_option maxRecDepth 20000 in
theorem ggX6_isRange_X6_isWithin : GoodIn wsX6_isRange wsX6_isWithin := goodIn_r _ [4] (by decide +kernel) (by decide +kernel)
set_option maxRecDepth 20000 in
theorem gX6_isRange_X6_isWithin : GoodIn wsX6_isRange (va_wsS RX6 181 yX6_isWithin wsX6_isWithin) := goodIn_app (goodIn_of _ (by decide +kernel)) ggX6_isRange_X6_isWithin
theorem dX6_isRange_0 : decode cX6_isRange 0 = .ok (.iload_n 0, 1) := by decide +kernel
theorem dX6_isRange_1 : decode cX6_isRange 1 = .ok (.iconst 0, 1) := by decide +kernel
theorem dX6_isRange_2 : decode cX6_isRange 2 = .ok (.bipush 48, 2) := by decide +kernel
theorem dX6_isRange_4 : decode cX6_isRange 4 = .ok (.invokestatic 181, 3) := by decide +kernel
theorem dX6_isRange_7 : decode cX6_isRange 7 = .ok (.ifCond .eq 17, 3) := by decide +kernel
theorem dX6_isRange_10 : decode cX6_isRange 10 = .ok (.iload_n 1, 1) := by decide +kernel
theorem dX6_isRange_11 : decode cX6_isRange 11 = .ok (.iload_n 0, 1) := by decide +kernel
theorem dX6_isRange_12 : decode cX6_isRange 12 = .ok (.bipush 48, 2) := by decide +kernel
theorem dX6_isRange_14 : decode cX6_isRange 14 = .ok (.invokestatic 181, 3) := by decide +kernel
theorem dX6_isRange_17 : decode cX6_isRange 17 = .ok (.ifCond .eq 7, 3) := by decide +kernel
theorem dX6_isRange_20 : decode cX6_isRange 20 = .ok (.iconst 1, 1) := by decide +kernel
theorem dX6_isRange_21 : decode cX6_isRange 21 = .ok (.goto 4, 3) := by decide +kernel
theorem dX6_isRange_24 : decode cX6_isRange 24 = .ok (.iconst 0, 1) := by decide +kernel
theorem dX6_isRange_25 : decode cX6_isRange 25 = .ok (.ireturn, 1) := by decide +kernel
set_option maxRecDepth 20000 in
theorem ggX6_keepState_X6_forgetOldestState : GoodIn wsX6_keepState wsX6_forgetOldestState := goodIn_r _ [8, 2, 1, 70, 71, 72, 73, 74, 75, 76, 77] (by decide +kernel) (by decide +kernel)
set_option maxRecDepth 20000 in
theorem gX6_keepState_X6_forgetOldestState : GoodIn wsX6_keepState (wsV RX6 308 RX6 yX6_forgetOldestState wsX6_forgetOldestState) := goodIn_app (goodIn_of _ (by decide +kernel)) ggX6_keepState_X6_forgetOldestState
set_option maxRecDepth 20000 in
theorem ggX6_keepState_X0_copyFrom_q1 : GoodIn wsX6_keepState ([Cond.code yX0_copyFrom cX0_copyFrom 2 none]) := goodIn_r _ [13] (by decide +kernel) (by decide +kernel)
set_option maxRecDepth 20000 in
theorem ggX6_keepState_X0_copyFrom_q2 : GoodIn wsX6_keepState (wsX0_copyFrom_r1) := goodIn_r _ [14, 15, 16, 17, 18, 19, 20, 21, 22, 23, 24, 25, 26, 27, 28, 29, 30, 31, 32, 33, 34, 35, 36, 37] (by decide +kernel) (by decide +kernel)
set_option maxRecDepth 20000 in
theorem ggX6_keepState_X0_copyFrom_q3 : GoodIn wsX6_keepState (wsX0_copyFrom_r2) := goodIn_r _ [38, 39, 40, 41, 42, 43, 44, 45, 46, 47, 48, 49, 50, 51, 52, 53, 54, 55, 56, 57, 58, 59, 60, 61] (by decide +kernel) (by decide +kernel)
set_option maxRecDepth 20000 in
theorem ggX6_keepState_X0_copyFrom_q4 : GoodIn wsX6_keepState (wsX0_copyFrom_r3) := goodIn_r _ [62, 63, 64, 65, 66, 67, 68, 69] (by decide +kernel) (by decide +kernel)
set_option maxRecDepth 20000 in
theorem ggX6_keepState_X0_copyFrom_q5 : GoodIn wsX6_keepState (wsX00) := goodIn_r _ [78, 79, 80, 81, 82, 83, 84, 85, 86, 87] (by decide +kernel) (by decide +kernel)
set_option maxRecDepth 20000 in
theorem ggX6_keepState_X0_copyFrom_q6 : GoodIn wsX6_keepState (wsX50) := goodIn_r _ [88, 89, 90, 91, 92, 93, 94, 95, 96, 97, 98, 99] (by decide +kernel) (by decide +kernel)
set_option maxRecDepth 20000 in
theorem ggX6_keepState_X0_copyFrom_q7 : GoodIn wsX6_keepState (wsX40) := goodIn_r _ [100, 101, 102, 103] (by decide +kernel) (by decide +kernel)
set_option maxRecDepth 20000 in
theorem ggX6_keepState_X0_copyFrom_q8 : GoodIn wsX6_keepState (wsX10) := goodIn_r _ [104, 105, 106, 107, 108, 109, 110, 111] (by decide +kernel) (by decide +kernel)
theorem ggX6_keepState_X0_copyFrom : GoodIn wsX6_keepState wsX0_copyFrom := (goodIn_app (a := [Cond.code yX0_copyFrom cX0_copyFrom 2 none]) ggX6_keepState_X0_copyFrom_q1 (goodIn_app (goodIn_app (goodIn_app (goodIn_app (goodIn_app ggX6_keepState_X0_copyFrom_q2 (goodIn_app ggX6_keepState_X0_copyFrom_q3 ggX6_keepState_X0_copyFrom_q4)) ggX6_keepState_X0_copyFrom_q5) ggX6_keepState_X0_copyFrom_q6) ggX6_keepState_X0_copyFrom_q7) ggX6_keepState_X0_copyFrom_q8))
set_option maxRecDepth 20000 in
theorem gX6_keepState_X0_copyFrom : GoodIn wsX6_keepState (wsV RX6 127 RX0 yX0_copyFrom wsX0_copyFrom) := goodIn_app (goodIn_of _ (by decide +kernel)) ggX6_keepState_X0_copyFrom
theorem dX6_keepState_0 : decode cX6_keepState 0 = .ok (.aload_n 0, 1) := by decide +kernel
theorem dX6_keepState_1 : decode cX6_keepState 1 = .ok (.getfield 30, 3) := by decide +kernel
theorem dX6_keepState_4 : decode cX6_keepState 4 = .ok (.iconst 4, 1) := by decide +kernel
theorem dX6_keepState_5 : decode cX6_keepState 5 = .ok (.if_icmp .lt 7, 3) := by decide +kernel
theorem dX6_keepState_8 : decode cX6_keepState 8 = .ok (.aload_n 0, 1) := by decide +kernel
theorem dX6_keepState_9 : decode cX6_keepState 9 = .ok (.invokevirtual 308, 3) := by decide +kernel
theorem dX6_keepState_12 : decode cX6_keepState 12 = .ok (.aload_n 0, 1) := by decide +kernel
theorem dX6_keepState_13 : decode cX6_keepState 13 = .ok (.getfield 26, 3) := by decide +kernel
theorem dX6_keepState_16 : decode cX6_keepState 16 = .ok (.aload_n 0, 1) := by decide +kernel
theorem dX6_keepState_17 : decode cX6_keepState 17 = .ok (.getfield 30, 3) := by decide +kernel
theorem dX6_keepState_20 : decode cX6_keepState 20 = .ok (.aaload, 1) := by decide +kernel
theorem dX6_keepState_21 : decode cX6_keepState 21 = .ok (.aload_n 0, 1) := by decide +kernel
theorem dX6_keepState_22 : decode cX6_keepState 22 = .ok (.getfield 10, 3) := by decide +kernel
theorem dX6_keepState_25 : decode cX6_keepState 25 = .ok (.invokevirtual 127, 3) := by decide +kernel
theorem dX6_keepState_28 : decode cX6_keepState 28 = .ok (.aload_n 0, 1) := by decide +kernel
theorem dX6_keepState_29 : decode cX6_keepState 29 = .ok (.dup, 1) := by decide +kernel
theorem dX6_keepState_30 : decode cX6_keepState 30 = .ok (.getfield 30, 3) := by decide +kernel
theorem dX6_keepState_33 : decode cX6_keepState 33 = .ok (.iconst 1, 1) := by decide +kernel
theorem dX6_keepState_34 : decode cX6_keepState 34 = .ok (.iadd, 1) := by decide +kernel
theorem dX6_keepState_35 : decode cX6_keepState 35 = .ok (.putfield 30, 3) := by decide +kernel
theorem dX6_keepState_38 : decode cX6_keepState 38 = .ok (.return_, 1) := by decide +kernel
theorem dX6_forgetOldestState_0 : decode cX6_forgetOldestState 0 = .ok (.aload_n 0, 1) := by decide +kernel
theorem dX6_forgetOldestState_1 : decode cX6_forgetOldestState 1 = .ok (.getfield 26, 3) := by decide +kernel
theorem dX6_forgetOldestState_4 : decode cX6_forgetOldestState 4 = .ok (.iconst 0, 1) := by decide +kernel
theorem dX6_forgetOldestState_5 : decode cX6_forgetOldestState 5 = .ok (.aaload, 1) := by decide +kernel
theorem dX6_forgetOldestState_6 : decode cX6_forgetOldestState 6 = .ok (.astore_n 1, 1) := by decide +kernel
theorem dX6_forgetOldestState_7 : decode cX6_forgetOldestState 7 = .ok (.iconst 1, 1) := by decide +kernel
theorem dX6_forgetOldestState_8 : decode cX6_forgetOldestState 8 = .ok (.istore_n 2, 1) := by decide +kernel
theorem dX6_forgetOldestState_9 : decode cX6_forgetOldestState 9 = .ok (.iload_n 2, 1) := by decide +kernel
theorem dX6_forgetOldestState_10 : decode cX6_forgetOldestState 10 = .ok (.iconst 4, 1) := by decide +kernel
theorem dX6_forgetOldestState_11 : decode cX6_forgetOldestState 11 = .ok (.if_icmp .ge 23, 3) := by decide +kernel
theorem dX6_forgetOldestState_14 : decode cX6_forgetOldestState 14 = .ok (.aload_n 0, 1) := by decide +kernel
theorem dX6_forgetOldestState_15 : decode cX6_forgetOldestState 15 = .ok (.getfield 26, 3) := by decide +kernel
theorem dX6_forgetOldestState_18 : decode cX6_forgetOldestState 18 = .ok (.iload_n 2, 1) := by decide +kernel
theorem dX6_forgetOldestState_19 : decode cX6_forgetOldestState 19 = .ok (.iconst 1, 1) := by decide +kernel
theorem dX6_forgetOldestState_20 : decode cX6_forgetOldestState 20 = .ok (.isub, 1) := by decide +kernel
theorem dX6_forgetOldestState_21 : decode cX6_forgetOldestState 21 = .ok (.aload_n 0, 1) := by decide +kernel
theorem dX6_forgetOldestState_22 : decode cX6_forgetOldestState 22 = .ok (.getfield 26, 3) := by decide +kernel
theorem dX6_forgetOldestState_25 : decode cX6_forgetOldestState 25 = .ok (.iload_n 2, 1) := by decide +kernel
theorem dX6_forgetOldestState_26 : decode cX6_forgetOldestState 26 = .ok (.aaload, 1) := by decide +kernel
theorem dX6_forgetOldestState_27 : decode cX6_forgetOldestState 27 = .ok (.aastore, 1) := by decide +kernel
theorem dX6_forgetOldestState_28 : decode cX6_forgetOldestState 28 = .ok (.iinc 2 1, 3) := by decide +kernel
theorem dX6_forgetOldestState_31 : decode cX6_forgetOldestState 31 = .ok (.goto (-22), 3) := by decide +kernel
theorem dX6_forgetOldestState_34 : decode cX6_forgetOldestState 34 = .ok (.aload_n 0, 1) := by decide +kernel
theorem dX6_forgetOldestState_35 : decode cX6_forgetOldestState 35 = .ok (.getfield 26, 3) := by decide +kernel
theorem dX6_forgetOldestState_38 : decode cX6_forgetOldestState 38 = .ok (.iconst 3, 1) := by decide +kernel
theorem dX6_forgetOldestState_39 : decode cX6_forgetOldestState 39 = .ok (.aload_n 1, 1) := by decide +kernel
theorem dX6_forgetOldestState_40 : decode cX6_forgetOldestState 40 = .ok (.aastore, 1) := by decide +kernel
theorem dX6_forgetOldestState_41 : decode cX6_forgetOldestState 41 = .ok (.aload_n 0, 1) := by decide +kernel
theorem dX6_forgetOldestState_42 : decode cX6_forgetOldestState 42 = .ok (.iconst 3, 1) := by decide +kernel
theorem dX6_forgetOldestState_43 : decode cX6_forgetOldestState 43 = .ok (.putfield 30, 3) := by decide +kernel
theorem dX6_forgetOldestState_46 : decode cX6_forgetOldestState 46 = .ok (.return_, 1) := by decide +kernel
set_option maxRecDepth 20000 in
theorem ggX6_tryOrders_X0_copyFrom_q1 : GoodIn wsX6_tryOrders ([Cond.code yX0_copyFrom cX0_copyFrom 2 none]) := goodIn_r _ [11] (by decide +kernel) (by decide +kernel)
set_option maxRecDepth 20000 in
theorem ggX6_tryOrders_X0_copyFrom_q2 : GoodIn wsX6_tryOrders (wsX0_copyFrom_r1) := goodIn_r _ [12, 13, 14, 15, 16, 17, 18, 19, 20, 21, 22, 23, 24, 25, 26, 27, 28, 29, 30, 31, 32, 33, 34, 35] (by decide +kernel) (by decide +kernel)
set_option maxRecDepth 20000 in
theorem ggX6_tryOrders_X0_copyFrom_q3 : GoodIn wsX6_tryOrders (wsX0_copyFrom_r2) := goodIn_r _ [36, 37, 38, 39, 40, 41, 42, 43, 44, 45, 46, 47, 48, 49, 50, 51, 52, 53, 54, 55, 56, 57, 58, 59] (by decide +kernel) (by decide +kernel)
set_option maxRecDepth 20000 in
theorem ggX6_tryOrders_X0_copyFrom_q4 : GoodIn wsX6_tryOrders (wsX0_copyFrom_r3) := goodIn_r _ [60, 61, 62, 63, 64, 65, 66, 67] (by decide +kernel) (by decide +kernel)
set_option maxRecDepth 20000 in
theorem ggX6_tryOrders_X0_copyFrom_q5 : GoodIn wsX6_tryOrders (wsX00) := goodIn_r _ [480, 481, 482, 483, 484, 485, 486, 487, 488, 489] (by decide +kernel) (by decide +kernel)
set_option maxRecDepth 20000 in
theorem ggX6_tryOrders_X0_copyFrom_q6 : GoodIn wsX6_tryOrders (wsX50) := goodIn_r _ [490, 491, 492, 493, 494, 495, 496, 497, 498, 499, 500, 501] (by decide +kernel) (by decide +kernel)
set_option maxRecDepth 20000 in
theorem ggX6_tryOrders_X0_copyFrom_q7 : GoodIn wsX6_tryOrders (wsX40) := goodIn_r _ [502, 503, 504, 505] (by decide +kernel) (by decide +kernel)
set_option maxRecDepth 20000 in
theorem ggX6_tryOrders_X0_copyFrom_q8 : GoodIn wsX6_tryOrders (wsX10) := goodIn_r _ [506, 507, 508, 509, 510, 511, 512, 513] (by decide +kernel) (by decide +kernel)
theorem ggX6_tryOrders_X0_copyFrom : GoodIn wsX6_tryOrders wsX0_copyFrom := (goodIn_app (a := [Cond.code yX0_copyFrom cX0_copyFrom 2 none]) ggX6_tryOrders_X0_copyFrom_q1 (goodIn_app (goodIn_app (goodIn_app (goodIn_app (goodIn_app ggX6_tryOrders_X0_copyFrom_q2 (goodIn_app ggX6_tryOrders_X0_copyFrom_q3 ggX6_tryOrders_X0_copyFrom_q4)) ggX6_tryOrders_X0_copyFrom_q5) ggX6_tryOrders_X0_copyFrom_q6) ggX6_tryOrders_X0_copyFrom_q7) ggX6_tryOrders_X0_copyFrom_q8))
set_option maxRecDepth 20000 in
theorem gX6_tryOrders_X0_copyFrom : GoodIn wsX6_tryOrders (wsV RX6 127 RX0 yX0_copyFrom wsX0_copyFrom) := goodIn_app (goodIn_of _ (by decide +kernel)) ggX6_tryOrders_X0_copyFrom
set_option maxRecDepth 20000 in
theorem ggX6_tryOrders_X2_goTo : GoodIn wsX6_tryOrders wsX2_goTo := goodIn_r _ [72, 73, 474, 475, 476, 477, 478, 479] (by decide +kernel) (by decide +kernel)
set_option maxRecDepth 20000 in
theorem gX6_tryOrders_X2_goTo : GoodIn wsX6_tryOrders (wsV RX6 311 RX2 yX2_goTo wsX2_goTo) := goodIn_app (goodIn_of _ (by decide +kernel)) ggX6_tryOrders_X2_goTo
set_option maxRecDepth 20000 in
theorem ggX6_tryOrders_X2_isAtEnd : GoodIn wsX6_tryOrders wsX2_isAtEnd := goodIn_r _ [77, 73, 78, 474, 475, 476, 477, 478, 479] (by decide +kernel) (by decide +kernel)
set_option maxRecDepth 20000 in
theorem gX6_tryOrders_X2_isAtEnd : GoodIn wsX6_tryOrders (wsV RX6 314 RX2 yX2_isAtEnd wsX2_isAtEnd) := goodIn_app (goodIn_of _ (by decide +kernel)) ggX6_tryOrders_X2_isAtEnd
set_option maxRecDepth 20000 in
theorem ggX6_tryOrders_X2_readOrder_q1 : GoodIn wsX6_tryOrders ([Cond.code yX2_readOrder cX2_readOrder 3 (some .boolean)]) := goodIn_r _ [82] (by decide +kernel) (by decide +kernel)
set_option maxRecDepth 20000 in
theorem ggX6_tryOrders_X2_readOrder_q2 : GoodIn wsX6_tryOrders (wsX2_readOrder_r1) := goodIn_r _ [83, 73, 84, 85, 86, 87, 75, 76, 71, 77, 78, 88, 89, 90, 91, 92, 93, 94, 95, 96, 97, 98, 99, 100] (by decide +kernel) (by decide +kernel)
set_option maxRecDepth 20000 in
theorem ggX6_tryOrders_X2_readOrder_q3 : GoodIn wsX6_tryOrders (wsX2_readOrder_r2) := goodIn_r _ [101, 102, 103, 104, 105, 106, 107, 108, 109, 110, 111, 112, 113, 114, 115, 116, 117, 118, 119, 120, 121, 122, 123, 124] (by decide +kernel) (by decide +kernel)
set_option maxRecDepth 20000 in
theorem ggX6_tryOrders_X2_readOrder_q4 : GoodIn wsX6_tryOrders (wsX2_readOrder_r3) := goodIn_r _ [125, 126, 127, 128, 129, 130, 131, 132, 133, 134, 135, 136, 137, 138, 139, 140, 141, 142, 143, 144, 145, 146, 147, 148] (by decide +kernel) (by decide +kernel)
set_option maxRecDepth 20000 in
theorem ggX6_tryOrders_X2_readOrder_q5 : GoodIn wsX6_tryOrders (wsX2_readOrder_r4) := goodIn_r _ [149, 150, 151, 152, 153, 154, 155, 156, 157, 158, 159, 160, 161, 162, 163, 164, 165, 166, 167, 168, 169, 170, 171, 172] (by decide +kernel) (by decide +kernel)
set_option maxRecDepth 20000 in
theorem ggX6_tryOrders_X2_readOrder_q6 : GoodIn wsX6_tryOrders (wsX2_readOrder_r5) := goodIn_r _ [173, 174, 175, 176, 177, 178, 179, 180, 181, 182, 183, 184, 185, 186, 187, 188, 189, 190, 191, 192, 193, 194, 195, 196] (by decide +kernel) (by decide +kernel)
set_option maxRecDepth 20000 in
theorem ggX6_tryOrders_X2_readOrder_q7 : GoodIn wsX6_tryOrders (wsX2_readOrder_r6) := goodIn_r _ [197, 198, 199, 200, 201, 202, 203, 204, 205, 206, 207, 208, 209, 210, 211, 212, 213, 214] (by decide +kernel) (by decide +kernel)
set_option maxRecDepth 20000 in
theorem ggX6_tryOrders_X2_readOrder_q8 : GoodIn wsX6_tryOrders (wsX20) := goodIn_r _ [474, 475, 476, 477, 478, 479] (by decide +kernel) (by decide +kernel)
theorem ggX6_tryOrders_X2_readOrder : GoodIn wsX6_tryOrders wsX2_readOrder := (goodIn_app (a := [Cond.code yX2_readOrder cX2_readOrder 3 (some .boolean)]) ggX6_tryOrders_X2_readOrder_q1 (goodIn_app (goodIn_app ggX6_tryOrders_X2_readOrder_q2 (goodIn_app ggX6_tryOrders_X2_readOrder_q3 (goodIn_app ggX6_tryOrders_X2_readOrder_q4 (goodIn_app ggX6_tryOrders_X2_readOrder_q5 (goodIn_app ggX6_tryOrders_X2_readOrder_q6 ggX6_tryOrders_X2_readOrder_q7))))) ggX6_tryOrders_X2_readOrder_q8))
set_option maxRecDepth 20000 in
theorem gX6_tryOrders_X2_readOrder : GoodIn wsX6_tryOrders (wsV RX6 317 RX2 yX2_readOrder wsX2_readOrder) := goodIn_app (goodIn_of _ (by decide +kernel)) ggX6_tryOrders_X2_readOrder
set_option maxRecDepth 20000 in
theorem ggX6_tryOrders_X6_refusalOf_q1 : GoodIn wsX6_tryOrders ([Cond.code yX6_refusalOf cX6_refusalOf 3 (some .int)]) := goodIn_r _ [218] (by decide +kernel) (by decide +kernel)
set_option maxRecDepth 20000 in
theorem ggX6_tryOrders_X6_refusalOf_q2 : GoodIn wsX6_tryOrders (wsX6_refusalOf_r1) := goodIn_r _ [1, 219, 220, 221, 10, 222, 13, 209, 210, 211, 223, 224, 225, 226, 227, 228, 229, 230, 231, 29, 232, 31, 233, 234] (by decide +kernel) (by decide +kernel)
set_option maxRecDepth 20000 in
theorem ggX6_tryOrders_X6_refusalOf_q3 : GoodIn wsX6_tryOrders (wsX6_refusalOf_r2) := goodIn_r _ [235, 236, 12, 15, 237, 238, 239, 57, 240, 59, 241, 242, 243, 244, 60, 245, 246, 247, 248, 249, 250, 251, 252, 253] (by decide +kernel) (by decide +kernel)
set_option maxRecDepth 20000 in
theorem ggX6_tryOrders_X6_refusalOf_q4 : GoodIn wsX6_tryOrders (wsX6_refusalOf_r3) := goodIn_r _ [254, 255, 256, 257, 258, 259, 260, 261, 262, 263, 14, 264, 265, 266, 267, 268, 269, 270, 47, 271, 49, 272, 273, 274] (by decide +kernel) (by decide +kernel)
set_option maxRecDepth 20000 in
theorem ggX6_tryOrders_X6_refusalOf_q5 : GoodIn wsX6_tryOrders (wsX6_refusalOf_r4) := goodIn_r _ [275, 50, 52, 53, 276, 277, 278, 279, 40, 280, 281, 282, 283, 284, 285, 286, 287, 288, 41, 289, 290, 291, 292, 293] (by decide +kernel) (by decide +kernel)
set_option maxRecDepth 20000 in
theorem ggX6_tryOrders_X6_refusalOf_q6 : GoodIn wsX6_tryOrders (wsX6_refusalOf_r5) := goodIn_r _ [294, 295, 296] (by decide +kernel) (by decide +kernel)
set_option maxRecDepth 20000 in
theorem ggX6_tryOrders_X6_refusalOf_q7 : GoodIn wsX6_tryOrders (wsX60) := goodIn_r _ [466, 467, 468, 469, 470, 471, 472, 473] (by decide +kernel) (by decide +kernel)
set_option maxRecDepth 20000 in
theorem ggX6_tryOrders_X6_refusalOf_q8 : GoodIn wsX6_tryOrders (wsX00) := goodIn_r _ [480, 481, 482, 483, 484, 485, 486, 487, 488, 489] (by decide +kernel) (by decide +kernel)
set_option maxRecDepth 20000 in
theorem ggX6_tryOrders_X6_refusalOf_q9 : GoodIn wsX6_tryOrders (wsX50) := goodIn_r _ [490, 491, 492, 493, 494, 495, 496, 497, 498, 499, 500, 501] (by decide +kernel) (by decide +kernel)
set_option maxRecDepth 20000 in
theorem ggX6_tryOrders_X6_refusalOf_q10 : GoodIn wsX6_tryOrders (wsX10) := goodIn_r _ [506, 507, 508, 509, 510, 511, 512, 513] (by decide +kernel) (by decide +kernel)
set_option maxRecDepth 20000 in
theorem ggX6_tryOrders_X6_refusalOf_q11 : GoodIn wsX6_tryOrders (wsX40) := goodIn_r _ [502, 503, 504, 505] (by decide +kernel) (by decide +kernel)
theorem ggX6_tryOrders_X6_refusalOf : GoodIn wsX6_tryOrders wsX6_refusalOf := (goodIn_app (a := [Cond.code yX6_refusalOf cX6_refusalOf 3 (some .int)]) ggX6_tryOrders_X6_refusalOf_q1 (goodIn_app (goodIn_app (goodIn_app (goodIn_app (goodIn_app (goodIn_app ggX6_tryOrders_X6_refusalOf_q2 (goodIn_app ggX6_tryOrders_X6_refusalOf_q3 (goodIn_app ggX6_tryOrders_X6_refusalOf_q4 (goodIn_app ggX6_tryOrders_X6_refusalOf_q5 ggX6_tryOrders_X6_refusalOf_q6)))) ggX6_tryOrders_X6_refusalOf_q7) ggX6_tryOrders_X6_refusalOf_q8) ggX6_tryOrders_X6_refusalOf_q9) ggX6_tryOrders_X6_refusalOf_q10) ggX6_tryOrders_X6_refusalOf_q11))
set_option maxRecDepth 20000 in
theorem gX6_tryOrders_X6_refusalOf : GoodIn wsX6_tryOrders (wsV RX6 326 RX6 yX6_refusalOf wsX6_refusalOf) := goodIn_app (goodIn_of _ (by decide +kernel)) ggX6_tryOrders_X6_refusalOf
set_option maxRecDepth 20000 in
theorem ggX6_tryOrders_X6_obey_q1 : GoodIn wsX6_tryOrders ([Cond.code yX6_obey cX6_obey 3 none]) := goodIn_r _ [300] (by decide +kernel) (by decide +kernel)
set_option maxRecDepth 20000 in
theorem ggX6_tryOrders_X6_obey_q2 : GoodIn wsX6_tryOrders (wsX6_obey_r1) := goodIn_r _ [1, 301, 302, 303, 304, 10, 305, 13, 12, 306, 307, 308, 309, 29, 310, 31, 32, 34, 35, 36, 37, 38, 39, 40] (by decide +kernel) (by decide +kernel)
set_option maxRecDepth 20000 in
theorem ggX6_tryOrders_X6_obey_q3 : GoodIn wsX6_tryOrders (wsX6_obey_r2) := goodIn_r _ [311, 41, 42, 43, 312, 313, 314, 315, 15, 316, 317, 318, 57, 319, 59, 60, 62, 64, 65, 66, 320, 321, 322, 323] (by decide +kernel) (by decide +kernel)
set_option maxRecDepth 20000 in
theorem ggX6_tryOrders_X6_obey_q4 : GoodIn wsX6_tryOrders (wsX6_obey_r3) := goodIn_r _ [324, 325, 326, 327, 328, 329, 330, 331, 332, 333, 334, 335, 336, 337, 338, 14, 339, 340, 341, 47, 342, 50, 49, 52] (by decide +kernel) (by decide +kernel)
set_option maxRecDepth 20000 in
theorem ggX6_tryOrders_X6_obey_q5 : GoodIn wsX6_tryOrders (wsX6_obey_r4) := goodIn_r _ [53, 343, 344, 345, 346, 347, 16, 22, 21, 348, 349, 350, 351, 352, 353, 354, 355, 356, 357, 277, 278, 279, 358, 359] (by decide +kernel) (by decide +kernel)
set_option maxRecDepth 20000 in
theorem ggX6_tryOrders_X6_obey_q6 : GoodIn wsX6_tryOrders (wsX6_obey_r5) := goodIn_r _ [360, 361, 259, 362, 363, 364, 365, 366, 367, 368, 369, 370, 371, 372, 373, 374, 375, 18, 19, 20, 376, 377, 378, 379] (by decide +kernel) (by decide +kernel)
set_option maxRecDepth 20000 in
theorem ggX6_tryOrders_X6_obey_q7 : GoodIn wsX6_tryOrders (wsX6_obey_r6) := goodIn_r _ [380, 381, 382, 383, 384, 385, 386, 387, 276, 285, 286, 287, 288, 272, 273, 274, 275, 388, 389, 390, 391, 392, 393, 394] (by decide +kernel) (by decide +kernel)
set_option maxRecDepth 20000 in
theorem ggX6_tryOrders_X6_obey_q8 : GoodIn wsX6_tryOrders (wsX6_obey_r7) := goodIn_r _ [395, 396, 397, 398, 399, 400, 401, 402, 403, 404, 405, 406, 407, 408, 409, 410, 411, 412, 413, 414, 415, 416, 417, 418] (by decide +kernel) (by decide +kernel)
set_option maxRecDepth 20000 in
theorem ggX6_tryOrders_X6_obey_q9 : GoodIn wsX6_tryOrders (wsX6_obey_r8) := goodIn_r _ [419, 420, 421, 422, 423, 424, 425, 426, 427, 428, 429, 430, 431, 432, 433, 434, 435, 436, 437, 438, 439, 440, 441, 17] (by decide +kernel) (by decide +kernel)
set_option maxRecDepth 20000 in
theorem ggX6_tryOrders_X6_obey_q10 : GoodIn wsX6_tryOrders (wsX6_obey_r9) := goodIn_r _ [442, 443, 444, 445, 446, 447, 448, 449, 450, 451, 452, 453, 454, 455, 456, 457, 23, 24, 25, 458, 459, 460, 461, 462] (by decide +kernel) (by decide +kernel)
set_option maxRecDepth 20000 in
theorem ggX6_tryOrders_X6_obey_q11 : GoodIn wsX6_tryOrders (wsX6_obey_r10) := goodIn_r _ [463, 464, 465] (by decide +kernel) (by decide +kernel)
set_option maxRecDepth 20000 in
theorem ggX6_tryOrders_X6_obey_q12 : GoodIn wsX6_tryOrders (wsX60) := goodIn_r _ [466, 467, 468, 469, 470, 471, 472, 473] (by decide +kernel) (by decide +kernel)
set_option maxRecDepth 20000 in
theorem ggX6_tryOrders_X6_obey_q13 : GoodIn wsX6_tryOrders (wsX00) := goodIn_r _ [480, 481, 482, 483, 484, 485, 486, 487, 488, 489] (by decide +kernel) (by decide +kernel)
set_option maxRecDepth 20000 in
theorem ggX6_tryOrders_X6_obey_q14 : GoodIn wsX6_tryOrders (wsX50) := goodIn_r _ [490, 491, 492, 493, 494, 495, 496, 497, 498, 499, 500, 501] (by decide +kernel) (by decide +kernel)
set_option maxRecDepth 20000 in
theorem ggX6_tryOrders_X6_obey_q15 : GoodIn wsX6_tryOrders (wsX10) := goodIn_r _ [506, 507, 508, 509, 510, 511, 512, 513] (by decide +kernel) (by decide +kernel)
set_option maxRecDepth 20000 in
theorem ggX6_tryOrders_X6_obey_q16 : GoodIn wsX6_tryOrders (wsX40) := goodIn_r _ [502, 503, 504, 505] (by decide +kernel) (by decide +kernel)
set_option maxRecDepth 20000 in
theorem ggX6_tryOrders_X6_obey_q17 : GoodIn wsX6_tryOrders (wsX30) := goodIn_r _ [514, 515, 516, 517, 518] (by decide +kernel) (by decide +kernel)
theorem ggX6_tryOrders_X6_obey : GoodIn wsX6_tryOrders wsX6_obey := (goodIn_app (a := [Cond.code yX6_obey cX6_obey 3 none]) ggX6_tryOrders_X6_obey_q1 (goodIn_app (goodIn_app (goodIn_app (goodIn_app (goodIn_app (goodIn_app (goodIn_app ggX6_tryOrders_X6_obey_q2 (goodIn_app ggX6_tryOrders_X6_obey_q3 (goodIn_app ggX6_tryOrders_X6_obey_q4 (goodIn_app ggX6_tryOrders_X6_obey_q5 (goodIn_app ggX6_tryOrders_X6_obey_q6 (goodIn_app ggX6_tryOrders_X6_obey_q7 (goodIn_app ggX6_tryOrders_X6_obey_q8 (goodIn_app ggX6_tryOrders_X6_obey_q9 (goodIn_app ggX6_tryOrders_X6_obey_q10 ggX6_tryOrders_X6_obey_q11))))))))) ggX6_tryOrders_X6_obey_q12) ggX6_tryOrders_X6_obey_q13) ggX6_tryOrders_X6_obey_q14) ggX6_tryOrders_X6_obey_q15) ggX6_tryOrders_X6_obey_q16) ggX6_tryOrders_X6_obey_q17))
set_option maxRecDepth 20000 in
theorem gX6_tryOrders_X6_obey : GoodIn wsX6_tryOrders (wsV RX6 330 RX6 yX6_obey wsX6_obey) := goodIn_app (goodIn_of _ (by decide +kernel)) ggX6_tryOrders_X6_obey
theorem dX6_tryOrders_0 : decode cX6_tryOrders 0 = .ok (.aload_n 0, 1) := by decide +kernel
theorem dX6_tryOrders_1 : decode cX6_tryOrders 1 = .ok (.getfield 16, 3) := by decide +kernel
theorem dX6_tryOrders_4 : decode cX6_tryOrders 4 = .ok (.aload_n 0, 1) := by decide +kernel
theorem dX6_tryOrders_5 : decode cX6_tryOrders 5 = .ok (.getfield 10, 3) := by decide +kernel
theorem dX6_tryOrders_8 : decode cX6_tryOrders 8 = .ok (.invokevirtual 127, 3) := by decide +kernel
theorem dX6_tryOrders_11 : decode cX6_tryOrders 11 = .ok (.aload_n 0, 1) := by decide +kernel
theorem dX6_tryOrders_12 : decode cX6_tryOrders 12 = .ok (.getfield 37, 3) := by decide +kernel
theorem dX6_tryOrders_15 : decode cX6_tryOrders 15 = .ok (.iconst 0, 1) := by decide +kernel
theorem dX6_tryOrders_16 : decode cX6_tryOrders 16 = .ok (.invokevirtual 311, 3) := by decide +kernel
theorem dX6_tryOrders_19 : decode cX6_tryOrders 19 = .ok (.iconst 0, 1) := by decide +kernel
theorem dX6_tryOrders_20 : decode cX6_tryOrders 20 = .ok (.istore_n 1, 1) := by decide +kernel
theorem dX6_tryOrders_21 : decode cX6_tryOrders 21 = .ok (.iload_n 1, 1) := by decide +kernel
theorem dX6_tryOrders_22 : decode cX6_tryOrders 22 = .ok (.bipush 80, 2) := by decide +kernel
theorem dX6_tryOrders_24 : decode cX6_tryOrders 24 = .ok (.if_icmp .ge 86, 3) := by decide +kernel
theorem dX6_tryOrders_27 : decode cX6_tryOrders 27 = .ok (.aload_n 0, 1) := by decide +kernel
theorem dX6_tryOrders_28 : decode cX6_tryOrders 28 = .ok (.getfield 37, 3) := by decide +kernel
theorem dX6_tryOrders_31 : decode cX6_tryOrders 31 = .ok (.invokevirtual 314, 3) := by decide +kernel
theorem dX6_tryOrders_34 : decode cX6_tryOrders 34 = .ok (.ifCond .ne 76, 3) := by decide +kernel
theorem dX6_tryOrders_37 : decode cX6_tryOrders 37 = .ok (.aload_n 0, 1) := by decide +kernel
theorem dX6_tryOrders_38 : decode cX6_tryOrders 38 = .ok (.getfield 37, 3) := by decide +kernel
theorem dX6_tryOrders_41 : decode cX6_tryOrders 41 = .ok (.invokevirtual 317, 3) := by decide +kernel
theorem dX6_tryOrders_44 : decode cX6_tryOrders 44 = .ok (.ifCond .eq 24, 3) := by decide +kernel
theorem dX6_tryOrders_47 : decode cX6_tryOrders 47 = .ok (.aload_n 0, 1) := by decide +kernel
theorem dX6_tryOrders_48 : decode cX6_tryOrders 48 = .ok (.aload_n 0, 1) := by decide +kernel
theorem dX6_tryOrders_49 : decode cX6_tryOrders 49 = .ok (.getfield 37, 3) := by decide +kernel
theorem dX6_tryOrders_52 : decode cX6_tryOrders 52 = .ok (.getfield 320, 3) := by decide +kernel
theorem dX6_tryOrders_55 : decode cX6_tryOrders 55 = .ok (.aload_n 0, 1) := by decide +kernel
theorem dX6_tryOrders_56 : decode cX6_tryOrders 56 = .ok (.getfield 37, 3) := by decide +kernel
theorem dX6_tryOrders_59 : decode cX6_tryOrders 59 = .ok (.getfield 323, 3) := by decide +kernel
theorem dX6_tryOrders_62 : decode cX6_tryOrders 62 = .ok (.invokevirtual 326, 3) := by decide +kernel
theorem dX6_tryOrders_65 : decode cX6_tryOrders 65 = .ok (.ifCond .eq 5, 3) := by decide +kernel
theorem dX6_tryOrders_68 : decode cX6_tryOrders 68 = .ok (.iload_n 1, 1) := by decide +kernel
theorem dX6_tryOrders_69 : decode cX6_tryOrders 69 = .ok (.ireturn, 1) := by decide +kernel
theorem dX6_tryOrders_70 : decode cX6_tryOrders 70 = .ok (.aload_n 0, 1) := by decide +kernel
theorem dX6_tryOrders_71 : decode cX6_tryOrders 71 = .ok (.aload_n 0, 1) := by decide +kernel
theorem dX6_tryOrders_72 : decode cX6_tryOrders 72 = .ok (.getfield 37, 3) := by decide +kernel
theorem dX6_tryOrders_75 : decode cX6_tryOrders 75 = .ok (.getfield 320, 3) := by decide +kernel
theorem dX6_tryOrders_78 : decode cX6_tryOrders 78 = .ok (.aload_n 0, 1) := by decide +kernel
theorem dX6_tryOrders_79 : decode cX6_tryOrders 79 = .ok (.getfield 37, 3) := by decide +kernel
theorem dX6_tryOrders_82 : decode cX6_tryOrders 82 = .ok (.getfield 323, 3) := by decide +kernel
theorem dX6_tryOrders_85 : decode cX6_tryOrders 85 = .ok (.invokevirtual 330, 3) := by decide +kernel
theorem dX6_tryOrders_88 : decode cX6_tryOrders 88 = .ok (.aload_n 0, 1) := by decide +kernel
theorem dX6_tryOrders_89 : decode cX6_tryOrders 89 = .ok (.getfield 37, 3) := by decide +kernel
theorem dX6_tryOrders_92 : decode cX6_tryOrders 92 = .ok (.aload_n 0, 1) := by decide +kernel
theorem dX6_tryOrders_93 : decode cX6_tryOrders 93 = .ok (.getfield 37, 3) := by decide +kernel
theorem dX6_tryOrders_96 : decode cX6_tryOrders 96 = .ok (.getfield 334, 3) := by decide +kernel
theorem dX6_tryOrders_99 : decode cX6_tryOrders 99 = .ok (.iconst 1, 1) := by decide +kernel
theorem dX6_tryOrders_100 : decode cX6_tryOrders 100 = .ok (.iadd, 1) := by decide +kernel
theorem dX6_tryOrders_101 : decode cX6_tryOrders 101 = .ok (.invokevirtual 311, 3) := by decide +kernel
theorem dX6_tryOrders_104 : decode cX6_tryOrders 104 = .ok (.iinc 1 1, 3) := by decide +kernel
theorem dX6_tryOrders_107 : decode cX6_tryOrders 107 = .ok (.goto (-86), 3) := by decide +kernel
theorem dX6_tryOrders_110 : decode cX6_tryOrders 110 = .ok (.iconst (-1), 1) := by decide +kernel
theorem dX6_tryOrders_111 : decode cX6_tryOrders 111 = .ok (.ireturn, 1) := by decide +kernel
set_option maxRecDepth 20000 in
theorem ggX6_refusalOf_X0_refusalToEnrol : GoodIn wsX6_refusalOf wsX0_refusalToEnrol := goodIn_r _ [6, 7, 8, 9, 10, 11, 12, 13, 14, 15, 16, 17, 18, 19, 20, 21, 22, 108, 109, 110, 111, 112, 113, 114, 115, 116, 117, 118, 119, 120, 121, 122, 123, 124, 125, 126, 127, 128, 129] (by decide +kernel) (by decide +kernel)
set_option maxRecDepth 20000 in
theorem gX6_refusalOf_X0_refusalToEnrol : GoodIn wsX6_refusalOf (wsV RX6 48 RX0 yX0_refusalToEnrol wsX0_refusalToEnrol) := goodIn_app (goodIn_of _ (by decide +kernel)) ggX6_refusalOf_X0_refusalToEnrol
set_option maxRecDepth 20000 in
theorem ggX6_refusalOf_X0_refusalToAddFeast : GoodIn wsX6_refusalOf wsX0_refusalToAddFeast := goodIn_r _ [26, 27, 28, 8, 9, 10, 29, 30, 31, 32, 33, 34, 35, 36, 37, 38, 39, 108, 109, 110, 111, 112, 113, 114, 115, 116, 117, 130, 131, 132, 133, 134, 135, 136, 137] (by decide +kernel) (by decide +kernel)
set_option maxRecDepth 20000 in
theorem gX6_refusalOf_X0_refusalToAddFeast : GoodIn wsX6_refusalOf (wsV RX6 89 RX0 yX0_refusalToAddFeast wsX0_refusalToAddFeast) := goodIn_app (goodIn_of _ (by decide +kernel)) ggX6_refusalOf_X0_refusalToAddFeast
set_option maxRecDepth 20000 in
theorem ggX6_refusalOf_X0_refusalToArrange : GoodIn wsX6_refusalOf wsX0_refusalToArrange := goodIn_r _ [43, 28, 44, 45, 46, 32, 47, 34, 48, 9, 49, 13, 8, 10, 15, 16, 50, 51, 52, 5, 53, 54, 27, 108, 109, 110, 111, 112, 113, 114, 115, 116, 117, 130, 131, 132, 133, 134, 135, 136, 137] (by decide +kernel) (by decide +kernel)
set_option maxRecDepth 20000 in
theorem gX6_refusalOf_X0_refusalToArrange : GoodIn wsX6_refusalOf (wsV RX6 96 RX0 yX0_refusalToArrange wsX0_refusalToArrange) := goodIn_app (goodIn_of _ (by decide +kernel)) ggX6_refusalOf_X0_refusalToArrange
set_option maxRecDepth 20000 in
theorem ggX6_refusalOf_X0_refusalToTakeNote : GoodIn wsX6_refusalOf wsX0_refusalToTakeNote := goodIn_r _ [58, 7, 27, 59, 60, 61, 62, 20, 63, 22, 8, 9, 10, 64, 65, 66, 67, 68, 69, 70, 71, 72, 73, 74, 75, 76, 77, 78, 79, 80, 81, 108, 109, 110, 111, 112, 113, 114, 115, 116, 117, 118, 119, 120, 121, 122, 123, 124, 125, 126, 127, 128, 129, 138, 139, 140, 141] (by decide +kernel) (by decide +kernel)
set_option maxRecDepth 20000 in
theorem gX6_refusalOf_X0_refusalToTakeNote : GoodIn wsX6_refusalOf (wsV RX6 83 RX0 yX0_refusalToTakeNote wsX0_refusalToTakeNote) := goodIn_app (goodIn_of _ (by decide +kernel)) ggX6_refusalOf_X0_refusalToTakeNote
set_option maxRecDepth 20000 in
theorem ggX6_refusalOf_X0_refusalToSendAway : GoodIn wsX6_refusalOf wsX0_refusalToSendAway := goodIn_r _ [85, 7, 27, 86, 60, 61, 62, 20, 63, 22, 8, 9, 10, 77, 78, 79, 80, 81, 87, 88, 89, 90, 91, 108, 109, 110, 111, 112, 113, 114, 115, 116, 117, 118, 119, 120, 121, 122, 123, 124, 125, 126, 127, 128, 129] (by decide +kernel) (by decide +kernel)
set_option maxRecDepth 20000 in
theorem gX6_refusalOf_X0_refusalToSendAway : GoodIn wsX6_refusalOf (wsV RX6 76 RX0 yX0_refusalToSendAway wsX0_refusalToSendAway) := goodIn_app (goodIn_of _ (by decide +kernel)) ggX6_refusalOf_X0_refusalToSendAway
set_option maxRecDepth 20000 in
theorem ggX6_refusalOf_X0_refusalToDismiss : GoodIn wsX6_refusalOf wsX0_refusalToDismiss := goodIn_r _ [95, 7, 27, 60, 61, 62, 20, 63, 22, 77, 78, 79, 80, 81, 108, 109, 110, 111, 112, 113, 114, 115, 116, 117, 118, 119, 120, 121, 122, 123, 124, 125, 126, 127, 128, 129] (by decide +kernel) (by decide +kernel)
set_option maxRecDepth 20000 in
theorem gX6_refusalOf_X0_refusalToDismiss : GoodIn wsX6_refusalOf (wsV RX6 62 RX0 yX0_refusalToDismiss wsX0_refusalToDismiss) := goodIn_app (goodIn_of _ (by decide +kernel)) ggX6_refusalOf_X0_refusalToDismiss
set_option maxRecDepth 20000 in
theorem ggX6_refusalOf_X0_refusalToAdvance : GoodIn wsX6_refusalOf wsX0_refusalToAdvance := goodIn_r _ [99, 27, 8, 9, 10, 108, 109, 110, 111, 112, 113, 114, 115, 116, 117] (by decide +kernel) (by decide +kernel)
set_option maxRecDepth 20000 in
theorem gX6_refusalOf_X0_refusalToAdvance : GoodIn wsX6_refusalOf (wsV RX6 102 RX0 yX0_refusalToAdvance wsX0_refusalToAdvance) := goodIn_app (goodIn_of _ (by decide +kernel)) ggX6_refusalOf_X0_refusalToAdvance
theorem dX6_refusalOf_0 : decode cX6_refusalOf 0 = .ok (.iload_n 1, 1) := by decide +kernel
theorem dX6_refusalOf_1 : decode cX6_refusalOf 1 = .ok (.tableswitch 159 0 6 #[43, 66, 80, 103, 120, 137, 148], 43) := by decide +kernel
theorem dX6_refusalOf_44 : decode cX6_refusalOf 44 = .ok (.aload_n 0, 1) := by decide +kernel
theorem dX6_refusalOf_45 : decode cX6_refusalOf 45 = .ok (.getfield 16, 3) := by decide +kernel
theorem dX6_refusalOf_48 : decode cX6_refusalOf 48 = .ok (.aload_n 2, 1) := by decide +kernel
theorem dX6_refusalOf_49 : decode cX6_refusalOf 49 = .ok (.iconst 0, 1) := by decide +kernel
theorem dX6_refusalOf_50 : decode cX6_refusalOf 50 = .ok (.iaload, 1) := by decide +kernel
theorem dX6_refusalOf_51 : decode cX6_refusalOf 51 = .ok (.aload_n 2, 1) := by decide +kernel
theorem dX6_refusalOf_52 : decode cX6_refusalOf 52 = .ok (.iconst 1, 1) := by decide +kernel
theorem dX6_refusalOf_53 : decode cX6_refusalOf 53 = .ok (.iaload, 1) := by decide +kernel
theorem dX6_refusalOf_54 : decode cX6_refusalOf 54 = .ok (.aload_n 2, 1) := by decide +kernel
theorem dX6_refusalOf_55 : decode cX6_refusalOf 55 = .ok (.iconst 2, 1) := by decide +kernel
theorem dX6_refusalOf_56 : decode cX6_refusalOf 56 = .ok (.iaload, 1) := by decide +kernel
theorem dX6_refusalOf_57 : decode cX6_refusalOf 57 = .ok (.aload_n 2, 1) := by decide +kernel
theorem dX6_refusalOf_58 : decode cX6_refusalOf 58 = .ok (.iconst 3, 1) := by decide +kernel
theorem dX6_refusalOf_59 : decode cX6_refusalOf 59 = .ok (.iaload, 1) := by decide +kernel
theorem dX6_refusalOf_60 : decode cX6_refusalOf 60 = .ok (.aload_n 2, 1) := by decide +kernel
theorem dX6_refusalOf_61 : decode cX6_refusalOf 61 = .ok (.iconst 4, 1) := by decide +kernel
theorem dX6_refusalOf_62 : decode cX6_refusalOf 62 = .ok (.iaload, 1) := by decide +kernel
theorem dX6_refusalOf_63 : decode cX6_refusalOf 63 = .ok (.invokevirtual 48, 3) := by decide +kernel
theorem dX6_refusalOf_66 : decode cX6_refusalOf 66 = .ok (.ireturn, 1) := by decide +kernel
theorem dX6_refusalOf_67 : decode cX6_refusalOf 67 = .ok (.aload_n 0, 1) := by decide +kernel
theorem dX6_refusalOf_68 : decode cX6_refusalOf 68 = .ok (.getfield 16, 3) := by decide +kernel
theorem dX6_refusalOf_71 : decode cX6_refusalOf 71 = .ok (.aload_n 2, 1) := by decide +kernel
theorem dX6_refusalOf_72 : decode cX6_refusalOf 72 = .ok (.iconst 0, 1) := by decide +kernel
theorem dX6_refusalOf_73 : decode cX6_refusalOf 73 = .ok (.iaload, 1) := by decide +kernel
theorem dX6_refusalOf_74 : decode cX6_refusalOf 74 = .ok (.aload_n 2, 1) := by decide +kernel
theorem dX6_refusalOf_75 : decode cX6_refusalOf 75 = .ok (.iconst 1, 1) := by decide +kernel
theorem dX6_refusalOf_76 : decode cX6_refusalOf 76 = .ok (.iaload, 1) := by decide +kernel
theorem dX6_refusalOf_77 : decode cX6_refusalOf 77 = .ok (.invokevirtual 89, 3) := by decide +kernel
theorem dX6_refusalOf_80 : decode cX6_refusalOf 80 = .ok (.ireturn, 1) := by decide +kernel
theorem dX6_refusalOf_81 : decode cX6_refusalOf 81 = .ok (.aload_n 0, 1) := by decide +kernel
theorem dX6_refusalOf_82 : decode cX6_refusalOf 82 = .ok (.getfield 16, 3) := by decide +kernel
theorem dX6_refusalOf_85 : decode cX6_refusalOf 85 = .ok (.aload_n 2, 1) := by decide +kernel
theorem dX6_refusalOf_86 : decode cX6_refusalOf 86 = .ok (.iconst 0, 1) := by decide +kernel
theorem dX6_refusalOf_87 : decode cX6_refusalOf 87 = .ok (.iaload, 1) := by decide +kernel
theorem dX6_refusalOf_88 : decode cX6_refusalOf 88 = .ok (.aload_n 2, 1) := by decide +kernel
theorem dX6_refusalOf_89 : decode cX6_refusalOf 89 = .ok (.iconst 1, 1) := by decide +kernel
theorem dX6_refusalOf_90 : decode cX6_refusalOf 90 = .ok (.iaload, 1) := by decide +kernel
theorem dX6_refusalOf_91 : decode cX6_refusalOf 91 = .ok (.aload_n 2, 1) := by decide +kernel
theorem dX6_refusalOf_92 : decode cX6_refusalOf 92 = .ok (.iconst 2, 1) := by decide +kernel
theorem dX6_refusalOf_93 : decode cX6_refusalOf 93 = .ok (.iaload, 1) := by decide +kernel
theorem dX6_refusalOf_94 : decode cX6_refusalOf 94 = .ok (.aload_n 2, 1) := by decide +kernel
theorem dX6_refusalOf_95 : decode cX6_refusalOf 95 = .ok (.iconst 3, 1) := by decide +kernel
theorem dX6_refusalOf_96 : decode cX6_refusalOf 96 = .ok (.iaload, 1) := by decide +kernel
theorem dX6_refusalOf_97 : decode cX6_refusalOf 97 = .ok (.aload_n 2, 1) := by decide +kernel
theorem dX6_refusalOf_98 : decode cX6_refusalOf 98 = .ok (.iconst 4, 1) := by decide +kernel
theorem dX6_refusalOf_99 : decode cX6_refusalOf 99 = .ok (.iaload, 1) := by decide +kernel
theorem dX6_refusalOf_100 : decode cX6_refusalOf 100 = .ok (.invokevirtual 96, 3) := by decide +kernel
theorem dX6_refusalOf_103 : decode cX6_refusalOf 103 = .ok (.ireturn, 1) := by decide +kernel
theorem dX6_refusalOf_104 : decode cX6_refusalOf 104 = .ok (.aload_n 0, 1) := by decide +kernel
theorem dX6_refusalOf_105 : decode cX6_refusalOf 105 = .ok (.getfield 16, 3) := by decide +kernel
theorem dX6_refusalOf_108 : decode cX6_refusalOf 108 = .ok (.aload_n 2, 1) := by decide +kernel
theorem dX6_refusalOf_109 : decode cX6_refusalOf 109 = .ok (.iconst 0, 1) := by decide +kernel
theorem dX6_refusalOf_110 : decode cX6_refusalOf 110 = .ok (.iaload, 1) := by decide +kernel
theorem dX6_refusalOf_111 : decode cX6_refusalOf 111 = .ok (.aload_n 2, 1) := by decide +kernel
theorem dX6_refusalOf_112 : decode cX6_refusalOf 112 = .ok (.iconst 1, 1) := by decide +kernel
theorem dX6_refusalOf_113 : decode cX6_refusalOf 113 = .ok (.iaload, 1) := by decide +kernel
theorem dX6_refusalOf_114 : decode cX6_refusalOf 114 = .ok (.aload_n 2, 1) := by decide +kernel
theorem dX6_refusalOf_115 : decode cX6_refusalOf 115 = .ok (.iconst 2, 1) := by decide +kernel
theorem dX6_refusalOf_116 : decode cX6_refusalOf 116 = .ok (.iaload, 1) := by decide +kernel
theorem dX6_refusalOf_117 : decode cX6_refusalOf 117 = .ok (.invokevirtual 83, 3) := by decide +kernel
theorem dX6_refusalOf_120 : decode cX6_refusalOf 120 = .ok (.ireturn, 1) := by decide +kernel
theorem dX6_refusalOf_121 : decode cX6_refusalOf 121 = .ok (.aload_n 0, 1) := by decide +kernel
theorem dX6_refusalOf_122 : decode cX6_refusalOf 122 = .ok (.getfield 16, 3) := by decide +kernel
theorem dX6_refusalOf_125 : decode cX6_refusalOf 125 = .ok (.aload_n 2, 1) := by decide +kernel
theorem dX6_refusalOf_126 : decode cX6_refusalOf 126 = .ok (.iconst 0, 1) := by decide +kernel
theorem dX6_refusalOf_127 : decode cX6_refusalOf 127 = .ok (.iaload, 1) := by decide +kernel
theorem dX6_refusalOf_128 : decode cX6_refusalOf 128 = .ok (.aload_n 2, 1) := by decide +kernel
theorem dX6_refusalOf_129 : decode cX6_refusalOf 129 = .ok (.iconst 1, 1) := by decide +kernel
theorem dX6_refusalOf_130 : decode cX6_refusalOf 130 = .ok (.iaload, 1) := by decide +kernel
theorem dX6_refusalOf_131 : decode cX6_refusalOf 131 = .ok (.aload_n 2, 1) := by decide +kernel
theorem dX6_refusalOf_132 : decode cX6_refusalOf 132 = .ok (.iconst 2, 1) := by decide +kernel
theorem dX6_refusalOf_133 : decode cX6_refusalOf 133 = .ok (.iaload, 1) := by decide +kernel
theorem dX6_refusalOf_134 : decode cX6_refusalOf 134 = .ok (.invokevirtual 76, 3) := by decide +kernel
theorem dX6_refusalOf_137 : decode cX6_refusalOf 137 = .ok (.ireturn, 1) := by decide +kernel
theorem dX6_refusalOf_138 : decode cX6_refusalOf 138 = .ok (.aload_n 0, 1) := by decide +kernel
theorem dX6_refusalOf_139 : decode cX6_refusalOf 139 = .ok (.getfield 16, 3) := by decide +kernel
theorem dX6_refusalOf_142 : decode cX6_refusalOf 142 = .ok (.aload_n 2, 1) := by decide +kernel
theorem dX6_refusalOf_143 : decode cX6_refusalOf 143 = .ok (.iconst 0, 1) := by decide +kernel
theorem dX6_refusalOf_144 : decode cX6_refusalOf 144 = .ok (.iaload, 1) := by decide +kernel
theorem dX6_refusalOf_145 : decode cX6_refusalOf 145 = .ok (.invokevirtual 62, 3) := by decide +kernel
theorem dX6_refusalOf_148 : decode cX6_refusalOf 148 = .ok (.ireturn, 1) := by decide +kernel
theorem dX6_refusalOf_149 : decode cX6_refusalOf 149 = .ok (.aload_n 0, 1) := by decide +kernel
theorem dX6_refusalOf_150 : decode cX6_refusalOf 150 = .ok (.getfield 16, 3) := by decide +kernel
theorem dX6_refusalOf_153 : decode cX6_refusalOf 153 = .ok (.aload_n 2, 1) := by decide +kernel
theorem dX6_refusalOf_154 : decode cX6_refusalOf 154 = .ok (.iconst 0, 1) := by decide +kernel
theorem dX6_refusalOf_155 : decode cX6_refusalOf 155 = .ok (.iaload, 1) := by decide +kernel
theorem dX6_refusalOf_156 : decode cX6_refusalOf 156 = .ok (.invokevirtual 102, 3) := by decide +kernel
theorem dX6_refusalOf_159 : decode cX6_refusalOf 159 = .ok (.ireturn, 1) := by decide +kernel
theorem dX6_refusalOf_160 : decode cX6_refusalOf 160 = .ok (.iconst 3, 1) := by decide +kernel
theorem dX6_refusalOf_161 : decode cX6_refusalOf 161 = .ok (.ireturn, 1) := by decide +kernel
set_option maxRecDepth 20000 in
theorem ggX6_obey_X0_enrol : GoodIn wsX6_obey wsX0_enrol := goodIn_r _ [7, 8, 9, 10, 11, 12, 13, 14, 15, 16, 17, 18, 19, 20, 21, 22, 23, 24, 25, 26, 27, 28, 228, 229, 230, 231, 232, 233, 234, 235, 236, 237, 238, 239, 240, 241, 242, 243, 244, 245, 246, 247, 248, 249] (by decide +kernel) (by decide +kernel)
set_option maxRecDepth 20000 in
theorem gX6_obey_X0_enrol : GoodIn wsX6_obey (wsV RX6 59 RX0 yX0_enrol wsX0_enrol) := goodIn_app (goodIn_of _ (by decide +kernel)) ggX6_obey_X0_enrol
set_option maxRecDepth 20000 in
theorem ggX6_obey_X0_addFeast : GoodIn wsX6_obey wsX0_addFeast := goodIn_r _ [32, 33, 34, 35, 36, 37, 38, 39, 40, 41, 42, 43, 44, 45, 46, 47, 48, 228, 229, 230, 231, 232, 233, 234, 235, 236, 237, 250, 251, 252, 253, 254, 255, 256, 257] (by decide +kernel) (by decide +kernel)
set_option maxRecDepth 20000 in
theorem gX6_obey_X0_addFeast : GoodIn wsX6_obey (wsV RX6 93 RX0 yX0_addFeast wsX0_addFeast) := goodIn_app (goodIn_of _ (by decide +kernel)) ggX6_obey_X0_addFeast
set_option maxRecDepth 20000 in
theorem ggX6_obey_X0_arrange : GoodIn wsX6_obey wsX0_arrange := goodIn_r _ [52, 33, 53, 54, 55, 56, 57, 58, 37, 59, 42, 228, 229, 230, 231, 232, 233, 234, 235, 236, 237, 250, 251, 252, 253, 254, 255, 256, 257] (by decide +kernel) (by decide +kernel)
set_option maxRecDepth 20000 in
theorem gX6_obey_X0_arrange : GoodIn wsX6_obey (wsV RX6 99 RX0 yX0_arrange wsX0_arrange) := goodIn_app (goodIn_of _ (by decide +kernel)) ggX6_obey_X0_arrange
set_option maxRecDepth 20000 in
theorem ggX6_obey_X0_takeNote : GoodIn wsX6_obey wsX0_takeNote := goodIn_r _ [63, 64, 65, 66, 67, 68, 69, 70, 71, 72, 73, 228, 229, 230, 231, 232, 233, 234, 235, 236, 237, 258, 259, 260, 261] (by decide +kernel) (by decide +kernel)
set_option maxRecDepth 20000 in
theorem gX6_obey_X0_takeNote : GoodIn wsX6_obey (wsV RX6 86 RX0 yX0_takeNote wsX0_takeNote) := goodIn_app (goodIn_of _ (by decide +kernel)) ggX6_obey_X0_takeNote
set_option maxRecDepth 20000 in
theorem ggX6_obey_X0_sendAway : GoodIn wsX6_obey wsX0_sendAway := goodIn_r _ [77, 8, 78, 9, 79, 80, 81, 228, 229, 230, 231, 232, 233, 234, 235, 236, 237, 238, 239, 240, 241, 242, 243, 244, 245, 246, 247, 248, 249] (by decide +kernel) (by decide +kernel)
set_option maxRecDepth 20000 in
theorem gX6_obey_X0_sendAway : GoodIn wsX6_obey (wsV RX6 80 RX0 yX0_sendAway wsX0_sendAway) := goodIn_app (goodIn_of _ (by decide +kernel)) ggX6_obey_X0_sendAway
set_option maxRecDepth 20000 in
theorem ggX6_obey_X0_dismiss : GoodIn wsX6_obey wsX0_dismiss := goodIn_r _ [85, 8, 86, 9, 87, 88, 89, 14, 90, 16, 91, 92, 93, 94, 24, 228, 229, 230, 231, 232, 233, 234, 235, 236, 237, 238, 239, 240, 241, 242, 243, 244, 245, 246, 247, 248, 249] (by decide +kernel) (by decide +kernel)
set_option maxRecDepth 20000 in
theorem gX6_obey_X0_dismiss : GoodIn wsX6_obey (wsV RX6 66 RX0 yX0_dismiss wsX0_dismiss) := goodIn_app (goodIn_of _ (by decide +kernel)) ggX6_obey_X0_dismiss
set_option maxRecDepth 20000 in
theorem ggX6_obey_X0_advance_q1 : GoodIn wsX6_obey ([Cond.code yX0_advance cX0_advance 7 (some .int)]) := goodIn_r _ [98] (by decide +kernel) (by decide +kernel)
set_option maxRecDepth 20000 in
theorem ggX6_obey_X0_advance_q2 : GoodIn wsX6_obey (wsX0_advance_r1) := goodIn_r _ [9, 33, 99, 100, 101, 102, 37, 103, 39, 40, 104, 105, 106, 107, 108, 109, 110, 111, 112, 113, 114, 115, 116, 117] (by decide +kernel) (by decide +kernel)
set_option maxRecDepth 20000 in
theorem ggX6_obey_X0_advance_q3 : GoodIn wsX6_obey (wsX0_advance_r2) := goodIn_r _ [118, 119, 120, 121, 122, 123, 124, 125, 126, 127, 6, 128, 8, 64, 129, 92, 93, 14, 94, 24, 130, 131, 132, 133] (by decide +kernel) (by decide +kernel)
set_option maxRecDepth 20000 in
theorem ggX6_obey_X0_advance_q4 : GoodIn wsX6_obey (wsX0_advance_r3) := goodIn_r _ [26, 134, 135, 136, 68, 137, 71, 70, 72, 73, 138, 139, 140, 141, 21, 142, 143, 144, 145, 54, 146, 55, 147, 148] (by decide +kernel) (by decide +kernel)
set_option maxRecDepth 20000 in
theorem ggX6_obey_X0_advance_q5 : GoodIn wsX6_obey (wsX0_advance_r4) := goodIn_r _ [149, 150, 151, 152, 46, 47, 48, 153, 154, 155, 156, 157, 158, 159, 160, 161, 162, 163, 164, 165, 166, 167, 168, 169] (by decide +kernel) (by decide +kernel)
set_option maxRecDepth 20000 in
theorem ggX6_obey_X0_advance_q6 : GoodIn wsX6_obey (wsX0_advance_r5) := goodIn_r _ [170, 171, 172, 173, 174, 175, 176, 177, 178, 179, 180, 181, 182, 183, 184, 185, 186, 187, 188, 189, 190, 191, 192, 193] (by decide +kernel) (by decide +kernel)
set_option maxRecDepth 20000 in
theorem ggX6_obey_X0_advance_q7 : GoodIn wsX6_obey (wsX0_advance_r6) := goodIn_r _ [194, 195, 196, 197, 198, 199, 200, 201, 202, 20, 203, 204, 205, 206, 207, 208, 209, 210, 211, 81, 212, 213, 214, 215] (by decide +kernel) (by decide +kernel)
set_option maxRecDepth 20000 in
theorem ggX6_obey_X0_advance_q8 : GoodIn wsX6_obey (wsX0_advance_r7) := goodIn_r _ [216, 217, 218, 219, 56, 57, 58, 59, 42] (by decide +kernel) (by decide +kernel)
set_option maxRecDepth 20000 in
theorem ggX6_obey_X0_advance_q9 : GoodIn wsX6_obey (wsX00) := goodIn_r _ [228, 229, 230, 231, 232, 233, 234, 235, 236, 237] (by decide +kernel) (by decide +kernel)
set_option maxRecDepth 20000 in
theorem ggX6_obey_X0_advance_q10 : GoodIn wsX6_obey (wsX10) := goodIn_r _ [250, 251, 252, 253, 254, 255, 256, 257] (by decide +kernel) (by decide +kernel)
set_option maxRecDepth 20000 in
theorem ggX6_obey_X0_advance_q11 : GoodIn wsX6_obey (wsX30) := goodIn_r _ [262, 263, 264, 265, 266] (by decide +kernel) (by decide +kernel)
set_option maxRecDepth 20000 in
theorem ggX6_obey_X0_advance_q12 : GoodIn wsX6_obey (wsX50) := goodIn_r _ [238, 239, 240, 241, 242, 243, 244, 245, 246, 247, 248, 249] (by decide +kernel) (by decide +kernel)
set_option maxRecDepth 20000 in
theorem ggX6_obey_X0_advance_q13 : GoodIn wsX6_obey (wsX40) := goodIn_r _ [258, 259, 260, 261] (by decide +kernel) (by decide +kernel)
theorem ggX6_obey_X0_advance : GoodIn wsX6_obey wsX0_advance := (goodIn_app (a := [Cond.code yX0_advance cX0_advance 7 (some .int)]) ggX6_obey_X0_advance_q1 (goodIn_app (goodIn_app (goodIn_app (goodIn_app (goodIn_app (goodIn_app ggX6_obey_X0_advance_q2 (goodIn_app ggX6_obey_X0_advance_q3 (goodIn_app ggX6_obey_X0_advance_q4 (goodIn_app ggX6_obey_X0_advance_q5 (goodIn_app ggX6_obey_X0_advance_q6 (goodIn_app ggX6_obey_X0_advance_q7 ggX6_obey_X0_advance_q8)))))) ggX6_obey_X0_advance_q9) ggX6_obey_X0_advance_q10) ggX6_obey_X0_advance_q11) ggX6_obey_X0_advance_q12) ggX6_obey_X0_advance_q13))
set_option maxRecDepth 20000 in
theorem gX6_obey_X0_advance : GoodIn wsX6_obey (wsV RX6 105 RX0 yX0_advance wsX0_advance) := goodIn_app (goodIn_of _ (by decide +kernel)) ggX6_obey_X0_advance
theorem dX6_obey_0 : decode cX6_obey 0 = .ok (.iload_n 1, 1) := by decide +kernel
theorem dX6_obey_1 : decode cX6_obey 1 = .ok (.tableswitch 184 0 6 #[43, 69, 86, 112, 132, 152, 166], 43) := by decide +kernel
theorem dX6_obey_44 : decode cX6_obey 44 = .ok (.aload_n 0, 1) := by decide +kernel
theorem dX6_obey_45 : decode cX6_obey 45 = .ok (.getfield 16, 3) := by decide +kernel
theorem dX6_obey_48 : decode cX6_obey 48 = .ok (.aload_n 2, 1) := by decide +kernel
theorem dX6_obey_49 : decode cX6_obey 49 = .ok (.iconst 0, 1) := by decide +kernel
theorem dX6_obey_50 : decode cX6_obey 50 = .ok (.iaload, 1) := by decide +kernel
theorem dX6_obey_51 : decode cX6_obey 51 = .ok (.aload_n 2, 1) := by decide +kernel
theorem dX6_obey_52 : decode cX6_obey 52 = .ok (.iconst 1, 1) := by decide +kernel
theorem dX6_obey_53 : decode cX6_obey 53 = .ok (.iaload, 1) := by decide +kernel
theorem dX6_obey_54 : decode cX6_obey 54 = .ok (.aload_n 2, 1) := by decide +kernel
theorem dX6_obey_55 : decode cX6_obey 55 = .ok (.iconst 2, 1) := by decide +kernel
theorem dX6_obey_56 : decode cX6_obey 56 = .ok (.iaload, 1) := by decide +kernel
theorem dX6_obey_57 : decode cX6_obey 57 = .ok (.aload_n 2, 1) := by decide +kernel
theorem dX6_obey_58 : decode cX6_obey 58 = .ok (.iconst 3, 1) := by decide +kernel
theorem dX6_obey_59 : decode cX6_obey 59 = .ok (.iaload, 1) := by decide +kernel
theorem dX6_obey_60 : decode cX6_obey 60 = .ok (.aload_n 2, 1) := by decide +kernel
theorem dX6_obey_61 : decode cX6_obey 61 = .ok (.iconst 4, 1) := by decide +kernel
theorem dX6_obey_62 : decode cX6_obey 62 = .ok (.iaload, 1) := by decide +kernel
theorem dX6_obey_63 : decode cX6_obey 63 = .ok (.invokevirtual 59, 3) := by decide +kernel
theorem dX6_obey_66 : decode cX6_obey 66 = .ok (.pop, 1) := by decide +kernel
theorem dX6_obey_67 : decode cX6_obey 67 = .ok (.goto 118, 3) := by decide +kernel
theorem dX6_obey_70 : decode cX6_obey 70 = .ok (.aload_n 0, 1) := by decide +kernel
theorem dX6_obey_71 : decode cX6_obey 71 = .ok (.getfield 16, 3) := by decide +kernel
theorem dX6_obey_74 : decode cX6_obey 74 = .ok (.aload_n 2, 1) := by decide +kernel
theorem dX6_obey_75 : decode cX6_obey 75 = .ok (.iconst 0, 1) := by decide +kernel
theorem dX6_obey_76 : decode cX6_obey 76 = .ok (.iaload, 1) := by decide +kernel
theorem dX6_obey_77 : decode cX6_obey 77 = .ok (.aload_n 2, 1) := by decide +kernel
theorem dX6_obey_78 : decode cX6_obey 78 = .ok (.iconst 1, 1) := by decide +kernel
theorem dX6_obey_79 : decode cX6_obey 79 = .ok (.iaload, 1) := by decide +kernel
theorem dX6_obey_80 : decode cX6_obey 80 = .ok (.invokevirtual 93, 3) := by decide +kernel
theorem dX6_obey_83 : decode cX6_obey 83 = .ok (.pop, 1) := by decide +kernel
theorem dX6_obey_84 : decode cX6_obey 84 = .ok (.goto 101, 3) := by decide +kernel
theorem dX6_obey_87 : decode cX6_obey 87 = .ok (.aload_n 0, 1) := by decide +kernel
theorem dX6_obey_88 : decode cX6_obey 88 = .ok (.getfield 16, 3) := by decide +kernel
theorem dX6_obey_91 : decode cX6_obey 91 = .ok (.aload_n 2, 1) := by decide +kernel
theorem dX6_obey_92 : decode cX6_obey 92 = .ok (.iconst 0, 1) := by decide +kernel
theorem dX6_obey_93 : decode cX6_obey 93 = .ok (.iaload, 1) := by decide +kernel
theorem dX6_obey_94 : decode cX6_obey 94 = .ok (.aload_n 2, 1) := by decide +kernel
theorem dX6_obey_95 : decode cX6_obey 95 = .ok (.iconst 1, 1) := by decide +kernel
theorem dX6_obey_96 : decode cX6_obey 96 = .ok (.iaload, 1) := by decide +kernel
theorem dX6_obey_97 : decode cX6_obey 97 = .ok (.aload_n 2, 1) := by decide +kernel
theorem dX6_obey_98 : decode cX6_obey 98 = .ok (.iconst 2, 1) := by decide +kernel
theorem dX6_obey_99 : decode cX6_obey 99 = .ok (.iaload, 1) := by decide +kernel
theorem dX6_obey_100 : decode cX6_obey 100 = .ok (.aload_n 2, 1) := by decide +kernel
theorem dX6_obey_101 : decode cX6_obey 101 = .ok (.iconst 3, 1) := by decide +kernel
theorem dX6_obey_102 : decode cX6_obey 102 = .ok (.iaload, 1) := by decide +kernel
theorem dX6_obey_103 : decode cX6_obey 103 = .ok (.aload_n 2, 1) := by decide +kernel
theorem dX6_obey_104 : decode cX6_obey 104 = .ok (.iconst 4, 1) := by decide +kernel
theorem dX6_obey_105 : decode cX6_obey 105 = .ok (.iaload, 1) := by decide +kernel
theorem dX6_obey_106 : decode cX6_obey 106 = .ok (.invokevirtual 99, 3) := by decide +kernel
theorem dX6_obey_109 : decode cX6_obey 109 = .ok (.pop, 1) := by decide +kernel
theorem dX6_obey_110 : decode cX6_obey 110 = .ok (.goto 75, 3) := by decide +kernel
theorem dX6_obey_113 : decode cX6_obey 113 = .ok (.aload_n 0, 1) := by decide +kernel
theorem dX6_obey_114 : decode cX6_obey 114 = .ok (.getfield 16, 3) := by decide +kernel
theorem dX6_obey_117 : decode cX6_obey 117 = .ok (.aload_n 2, 1) := by decide +kernel
theorem dX6_obey_118 : decode cX6_obey 118 = .ok (.iconst 0, 1) := by decide +kernel
theorem dX6_obey_119 : decode cX6_obey 119 = .ok (.iaload, 1) := by decide +kernel
theorem dX6_obey_120 : decode cX6_obey 120 = .ok (.aload_n 2, 1) := by decide +kernel
theorem dX6_obey_121 : decode cX6_obey 121 = .ok (.iconst 1, 1) := by decide +kernel
theorem dX6_obey_122 : decode cX6_obey 122 = .ok (.iaload, 1) := by decide +kernel
theorem dX6_obey_123 : decode cX6_obey 123 = .ok (.aload_n 2, 1) := by decide +kernel
theorem dX6_obey_124 : decode cX6_obey 124 = .ok (.iconst 2, 1) := by decide +kernel
theorem dX6_obey_125 : decode cX6_obey 125 = .ok (.iaload, 1) := by decide +kernel
theorem dX6_obey_126 : decode cX6_obey 126 = .ok (.invokevirtual 86, 3) := by decide +kernel
theorem dX6_obey_129 : decode cX6_obey 129 = .ok (.pop, 1) := by decide +kernel
theorem dX6_obey_130 : decode cX6_obey 130 = .ok (.goto 55, 3) := by decide +kernel
theorem dX6_obey_133 : decode cX6_obey 133 = .ok (.aload_n 0, 1) := by decide +kernel
theorem dX6_obey_134 : decode cX6_obey 134 = .ok (.getfield 16, 3) := by decide +kernel
theorem dX6_obey_137 : decode cX6_obey 137 = .ok (.aload_n 2, 1) := by decide +kernel
theorem dX6_obey_138 : decode cX6_obey 138 = .ok (.iconst 0, 1) := by decide +kernel
theorem dX6_obey_139 : decode cX6_obey 139 = .ok (.iaload, 1) := by decide +kernel
theorem dX6_obey_140 : decode cX6_obey 140 = .ok (.aload_n 2, 1) := by decide +kernel
theorem dX6_obey_141 : decode cX6_obey 141 = .ok (.iconst 1, 1) := by decide +kernel
theorem dX6_obey_142 : decode cX6_obey 142 = .ok (.iaload, 1) := by decide +kernel
theorem dX6_obey_143 : decode cX6_obey 143 = .ok (.aload_n 2, 1) := by decide +kernel
theorem dX6_obey_144 : decode cX6_obey 144 = .ok (.iconst 2, 1) := by decide +kernel
theorem dX6_obey_145 : decode cX6_obey 145 = .ok (.iaload, 1) := by decide +kernel
theorem dX6_obey_146 : decode cX6_obey 146 = .ok (.invokevirtual 80, 3) := by decide +kernel
theorem dX6_obey_149 : decode cX6_obey 149 = .ok (.pop, 1) := by decide +kernel
theorem dX6_obey_150 : decode cX6_obey 150 = .ok (.goto 35, 3) := by decide +kernel
theorem dX6_obey_153 : decode cX6_obey 153 = .ok (.aload_n 0, 1) := by decide +kernel
theorem dX6_obey_154 : decode cX6_obey 154 = .ok (.getfield 16, 3) := by decide +kernel
theorem dX6_obey_157 : decode cX6_obey 157 = .ok (.aload_n 2, 1) := by decide +kernel
theorem dX6_obey_158 : decode cX6_obey 158 = .ok (.iconst 0, 1) := by decide +kernel
theorem dX6_obey_159 : decode cX6_obey 159 = .ok (.iaload, 1) := by decide +kernel
theorem dX6_obey_160 : decode cX6_obey 160 = .ok (.invokevirtual 66, 3) := by decide +kernel
theorem dX6_obey_163 : decode cX6_obey 163 = .ok (.pop, 1) := by decide +kernel
theorem dX6_obey_164 : decode cX6_obey 164 = .ok (.goto 21, 3) := by decide +kernel
theorem dX6_obey_167 : decode cX6_obey 167 = .ok (.aload_n 0, 1) := by decide +kernel
theorem dX6_obey_168 : decode cX6_obey 168 = .ok (.getfield 16, 3) := by decide +kernel
theorem dX6_obey_171 : decode cX6_obey 171 = .ok (.aload_n 2, 1) := by decide +kernel
theorem dX6_obey_172 : decode cX6_obey 172 = .ok (.iconst 0, 1) := by decide +kernel
theorem dX6_obey_173 : decode cX6_obey 173 = .ok (.iaload, 1) := by decide +kernel
theorem dX6_obey_174 : decode cX6_obey 174 = .ok (.aload_n 0, 1) := by decide +kernel
theorem dX6_obey_175 : decode cX6_obey 175 = .ok (.getfield 44, 3) := by decide +kernel
theorem dX6_obey_178 : decode cX6_obey 178 = .ok (.invokevirtual 105, 3) := by decide +kernel
theorem dX6_obey_181 : decode cX6_obey 181 = .ok (.pop, 1) := by decide +kernel
theorem dX6_obey_182 : decode cX6_obey 182 = .ok (.goto 3, 3) := by decide +kernel
theorem dX6_obey_185 : decode cX6_obey 185 = .ok (.return_, 1) := by decide +kernel
