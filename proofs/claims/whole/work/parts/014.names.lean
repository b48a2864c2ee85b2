set_option maxRecDepth 20000 in
theorem ggX6_neededLine_X3_lackBySets_q2 : GoodIn wsX6_neededLine (wsX3_lackBySets_r1) := goodIn_r _ [38, 39, 40, 41, 42, 43, 44, 36, 45, 46, 47, 48, 49, 50, 28, 51, 52, 53, 54, 55, 56, 57, 58, 59] (by decide +kernel) (by decide +kernel)
set_option maxRecDepth 20000 in
theorem ggX6_neededLine_X3_lackBySets_q3 : GoodIn wsX6_neededLine (wsX3_lackBySets_r2) := goodIn_r _ [60, 61, 62, 63, 64, 65, 66, 67, 68, 69, 70, 71, 72, 73, 74, 75, 76, 77, 78, 79, 80, 81, 82, 30] (by decide +kernel) (by decide +kernel)
set_option maxRecDepth 20000 in
theorem ggX6_neededLine_X3_lackBySets_q4 : GoodIn wsX6_neededLine (wsX3_lackBySets_r3) := goodIn_r _ [31, 83, 84, 85, 86, 87, 88, 89, 90, 91, 92, 93, 94, 95, 96, 97] (by decide +kernel) (by decide +kernel)
set_option maxRecDepth 20000 in
theorem ggX6_neededLine_X3_lackBySets_q5 : GoodIn wsX6_neededLine (wsX00) := goodIn_r _ [106, 107, 108, 109, 110, 111, 112, 113, 114, 115] (by decide +kernel) (by decide +kernel)
set_option maxRecDepth 20000 in
theorem ggX6_neededLine_X3_lackBySets_q6 : GoodIn wsX6_neededLine (wsX50) := goodIn_r _ [124, 125, 126, 127, 128, 129, 130, 131, 132, 133, 134, 135] (by decide +kernel) (by decide +kernel)
set_option maxRecDepth 20000 in
theorem ggX6_neededLine_X3_lackBySets_q7 : GoodIn wsX6_neededLine (wsX10) := goodIn_r _ [116, 117, 118, 119, 120, 121, 122, 123] (by decide +kernel) (by decide +kernel)
set_option maxRecDepth 20000 in
theorem ggX6_neededLine_X3_lackBySets_q8 : GoodIn wsX6_neededLine (wsX30) := goodIn_r _ [136, 137, 138, 139, 140] (by decide +kernel) (by decide +kernel)
set_option maxRecDepth 20000 in
theorem ggX6_neededLine_X3_lackBySets_q9 : GoodIn wsX6_neededLine (wsX40) := goodIn_r _ [141, 142, 143, 144] (by decide +kernel) (by decide +kernel)
theorem ggX6_neededLine_X3_lackBySets : GoodIn wsX6_neededLine wsX3_lackBySets := (goodIn_app (a := [Cond.code yX3_lackBySets cX3_lackBySets 8 (some .int)]) ggX6_neededLine_X3_lackBySets_q1 (goodIn_app (goodIn_app (goodIn_app (goodIn_app (goodIn_app (goodIn_app ggX6_neededLine_X3_lackBySets_q2 (goodIn_app ggX6_neededLine_X3_lackBySets_q3 ggX6_neededLine_X3_lackBySets_q4)) ggX6_neededLine_X3_lackBySets_q5) ggX6_neededLine_X3_lackBySets_q6) ggX6_neededLine_X3_lackBySets_q7) ggX6_neededLine_X3_lackBySets_q8) ggX6_neededLine_X3_lackBySets_q9))
set_option maxRecDepth 20000 in
theorem gX6_neededLine_X3_lackBySets : GoodIn wsX6_neededLine (wsV RX6 245 RX3 yX3_lackBySets wsX3_lackBySets) := goodIn_app (goodIn_of _ (by decide +kernel)) ggX6_neededLine_X3_lackBySets
theorem dX6_neededLine_0 : decode cX6_neededLine 0 = .ok (.aload_n 0, 1) := by decide +kernel
theorem dX6_neededLine_1 : decode cX6_neededLine 1 = .ok (.iload_n 1, 1) := by decide +kernel
theorem dX6_neededLine_2 : decode cX6_neededLine 2 = .ok (.invokevirtual 207, 3) := by decide +kernel
theorem dX6_neededLine_5 : decode cX6_neededLine 5 = .ok (.aload_n 0, 1) := by decide +kernel
theorem dX6_neededLine_6 : decode cX6_neededLine 6 = .ok (.getfield 10, 3) := by decide +kernel
theorem dX6_neededLine_9 : decode cX6_neededLine 9 = .ok (.iload_n 1, 1) := by decide +kernel
theorem dX6_neededLine_10 : decode cX6_neededLine 10 = .ok (.invokevirtual 212, 3) := by decide +kernel
theorem dX6_neededLine_13 : decode cX6_neededLine 13 = .ok (.ifCond .eq 7, 3) := by decide +kernel
theorem dX6_neededLine_16 : decode cX6_neededLine 16 = .ok (.iconst 3, 1) := by decide +kernel
theorem dX6_neededLine_17 : decode cX6_neededLine 17 = .ok (.goto 4, 3) := by decide +kernel
theorem dX6_neededLine_20 : decode cX6_neededLine 20 = .ok (.iconst 0, 1) := by decide +kernel
theorem dX6_neededLine_21 : decode cX6_neededLine 21 = .ok (.invokestatic 52, 3) := by decide +kernel
theorem dX6_neededLine_24 : decode cX6_neededLine 24 = .ok (.aload_n 0, 1) := by decide +kernel
theorem dX6_neededLine_25 : decode cX6_neededLine 25 = .ok (.getfield 44, 3) := by decide +kernel
theorem dX6_neededLine_28 : decode cX6_neededLine 28 = .ok (.aload_n 0, 1) := by decide +kernel
theorem dX6_neededLine_29 : decode cX6_neededLine 29 = .ok (.getfield 10, 3) := by decide +kernel
theorem dX6_neededLine_32 : decode cX6_neededLine 32 = .ok (.iload_n 1, 1) := by decide +kernel
theorem dX6_neededLine_33 : decode cX6_neededLine 33 = .ok (.iconst (-1), 1) := by decide +kernel
theorem dX6_neededLine_34 : decode cX6_neededLine 34 = .ok (.invokevirtual 245, 3) := by decide +kernel
theorem dX6_neededLine_37 : decode cX6_neededLine 37 = .ok (.istore_n 2, 1) := by decide +kernel
theorem dX6_neededLine_38 : decode cX6_neededLine 38 = .ok (.iconst 0, 1) := by decide +kernel
theorem dX6_neededLine_39 : decode cX6_neededLine 39 = .ok (.istore_n 3, 1) := by decide +kernel
theorem dX6_neededLine_40 : decode cX6_neededLine 40 = .ok (.iload_n 3, 1) := by decide +kernel
theorem dX6_neededLine_41 : decode cX6_neededLine 41 = .ok (.iconst 4, 1) := by decide +kernel
theorem dX6_neededLine_42 : decode cX6_neededLine 42 = .ok (.if_icmp .ge 45, 3) := by decide +kernel
theorem dX6_neededLine_45 : decode cX6_neededLine 45 = .ok (.aload_n 0, 1) := by decide +kernel
theorem dX6_neededLine_46 : decode cX6_neededLine 46 = .ok (.getfield 10, 3) := by decide +kernel
theorem dX6_neededLine_49 : decode cX6_neededLine 49 = .ok (.getfield 200, 3) := by decide +kernel
theorem dX6_neededLine_52 : decode cX6_neededLine 52 = .ok (.getfield 219, 3) := by decide +kernel
theorem dX6_neededLine_55 : decode cX6_neededLine 55 = .ok (.iload_n 1, 1) := by decide +kernel
theorem dX6_neededLine_56 : decode cX6_neededLine 56 = .ok (.aaload, 1) := by decide +kernel
theorem dX6_neededLine_57 : decode cX6_neededLine 57 = .ok (.iload_n 3, 1) := by decide +kernel
theorem dX6_neededLine_58 : decode cX6_neededLine 58 = .ok (.iaload, 1) := by decide +kernel
theorem dX6_neededLine_59 : decode cX6_neededLine 59 = .ok (.ifCond .le 22, 3) := by decide +kernel
theorem dX6_neededLine_62 : decode cX6_neededLine 62 = .ok (.aload_n 0, 1) := by decide +kernel
theorem dX6_neededLine_63 : decode cX6_neededLine 63 = .ok (.getfield 44, 3) := by decide +kernel
theorem dX6_neededLine_66 : decode cX6_neededLine 66 = .ok (.aload_n 0, 1) := by decide +kernel
theorem dX6_neededLine_67 : decode cX6_neededLine 67 = .ok (.getfield 10, 3) := by decide +kernel
theorem dX6_neededLine_70 : decode cX6_neededLine 70 = .ok (.iload_n 1, 1) := by decide +kernel
theorem dX6_neededLine_71 : decode cX6_neededLine 71 = .ok (.iload_n 3, 1) := by decide +kernel
theorem dX6_neededLine_72 : decode cX6_neededLine 72 = .ok (.invokevirtual 245, 3) := by decide +kernel
theorem dX6_neededLine_75 : decode cX6_neededLine 75 = .ok (.iload_n 2, 1) := by decide +kernel
theorem dX6_neededLine_76 : decode cX6_neededLine 76 = .ok (.if_icmp .ge 5, 3) := by decide +kernel
theorem dX6_neededLine_79 : decode cX6_neededLine 79 = .ok (.iload_n 3, 1) := by decide +kernel
theorem dX6_neededLine_80 : decode cX6_neededLine 80 = .ok (.ireturn, 1) := by decide +kernel
theorem dX6_neededLine_81 : decode cX6_neededLine 81 = .ok (.iinc 3 1, 3) := by decide +kernel
theorem dX6_neededLine_84 : decode cX6_neededLine 84 = .ok (.goto (-44), 3) := by decide +kernel
theorem dX6_neededLine_87 : decode cX6_neededLine 87 = .ok (.iconst (-1), 1) := by decide +kernel
theorem dX6_neededLine_88 : decode cX6_neededLine 88 = .ok (.ireturn, 1) := by decide +kernel
set_option maxRecDepth 20000 in
theorem ggX6_descantIn_X6_requireFeast : GoodIn wsX6_descantIn wsX6_requireFeast := goodIn_ca (goodIn_ca (goodIn_ca (goodIn_r _ [9, 1, 2, 10, 11, 12, 13, 14, 15, 16, 17, 8, 18, 19, 20, 21, 22, 23, 24, 153, 154, 155, 156, 157, 158, 159, 160, 161, 162, 163, 164, 165, 166, 167, 168, 169, 170, 171, 172, 173, 174, 175, 176, 177, 178] (by decide +kernel) (by decide +kernel)) (goodIn_sub (fun _ h => List.mem_cons_of_mem _ (List.mem_append_left _ (List.mem_append_left _ (List.mem_append_right _ h)))) (by decide +kernel))) (goodIn_sub (fun _ h => List.mem_cons_of_mem _ (List.mem_append_left _ (List.mem_append_right _ h))) (by decide +kernel))) (goodIn_sub (fun _ h => List.mem_cons_of_mem _ (List.mem_append_right _ h)) (by decide +kernel))
set_option maxRecDepth 20000 in
theorem gX6_descantIn_X6_requireFeast : GoodIn wsX6_descantIn (wsV RX6 207 RX6 yX6_requireFeast wsX6_requireFeast) := goodIn_app (goodIn_of _ (by decide +kernel)) ggX6_descantIn_X6_requireFeast
set_option maxRecDepth 20000 in
theorem ggX6_descantIn_X0_hasHeld : GoodIn wsX6_descantIn wsX0_hasHeld := goodIn_r _ [29, 30, 31, 32, 161, 162, 163, 164, 165, 166, 167, 168, 169, 170, 171, 172, 173, 174, 175, 176, 177, 178] (by decide +kernel) (by decide +kernel)
set_option maxRecDepth 20000 in
theorem gX6_descantIn_X0_hasHeld : GoodIn wsX6_descantIn (wsV RX6 212 RX0 yX0_hasHeld wsX0_hasHeld) := goodIn_app (goodIn_of _ (by decide +kernel)) ggX6_descantIn_X0_hasHeld
set_option maxRecDepth 20000 in
theorem ggX6_descantIn_X3_descantToCome_q1 : GoodIn wsX6_descantIn ([Cond.code yX3_descantToCome cX3_descantToCome 6 (some .int)]) := goodIn_r _ [37] (by decide +kernel) (by decide +kernel)
set_option maxRecDepth 20000 in
theorem ggX6_descantIn_X3_descantToCome_q2 : GoodIn wsX6_descantIn (wsX3_descantToCome_r1) := goodIn_r _ [38, 39, 40, 41, 42, 43, 44, 45, 46, 47, 48, 49, 50, 13, 51, 15, 52, 53, 54, 55, 36, 56, 57, 58] (by decide +kernel) (by decide +kernel)
set_option maxRecDepth 20000 in
theorem ggX6_descantIn_X3_descantToCome_q3 : GoodIn wsX6_descantIn (wsX3_descantToCome_r2) := goodIn_r _ [59, 60, 61, 62, 63, 64, 65, 66, 67, 68, 28, 69, 70, 71, 72, 73, 74, 75, 76, 77, 78, 79, 80, 81] (by decide +kernel) (by decide +kernel)
set_option maxRecDepth 20000 in
theorem ggX6_descantIn_X3_descantToCome_q4 : GoodIn wsX6_descantIn (wsX3_descantToCome_r3) := goodIn_r _ [82, 83, 84, 85, 86, 87, 88, 89, 90, 91, 92, 93, 94, 95, 96, 97, 98, 99, 100, 30, 31, 101, 102, 103] (by decide +kernel) (by decide +kernel)
set_option maxRecDepth 20000 in
theorem ggX6_descantIn_X3_descantToCome_q5 : GoodIn wsX6_descantIn (wsX3_descantToCome_r4) := goodIn_r _ [104, 105, 106, 107, 108, 109, 110, 111, 112, 113, 114, 115, 116, 117, 118, 119, 120, 121, 122, 123, 124, 125, 126, 127] (by decide +kernel) (by decide +kernel)
set_option maxRecDepth 20000 in
theorem ggX6_descantIn_X3_descantToCome_q6 : GoodIn wsX6_descantIn (wsX3_descantToCome_r5) := goodIn_r _ [128, 129, 130, 131, 132, 133, 134, 135, 136, 137, 138, 139, 140, 141, 142, 143, 144, 145, 146, 147, 148, 149, 150, 151] (by decide +kernel) (by decide +kernel)
set_option maxRecDepth 20000 in
theorem ggX6_descantIn_X3_descantToCome_q7 : GoodIn wsX6_descantIn (wsX3_descantToCome_r6) := goodIn_r _ [152] (by decide +kernel) (by decide +kernel)
set_option maxRecDepth 20000 in
theorem ggX6_descantIn_X3_descantToCome_q8 : GoodIn wsX6_descantIn (wsX00) := goodIn_r _ [161, 162, 163, 164, 165, 166, 167, 168, 169, 170] (by decide +kernel) (by decide +kernel)
set_option maxRecDepth 20000 in
theorem ggX6_descantIn_X3_descantToCome_q9 : GoodIn wsX6_descantIn (wsX50) := goodIn_r _ [179, 180, 181, 182, 183, 184, 185, 186, 187, 188, 189, 190] (by decide +kernel) (by decide +kernel)
set_option maxRecDepth 20000 in
theorem ggX6_descantIn_X3_descantToCome_q10 : GoodIn wsX6_descantIn (wsX30) := goodIn_r _ [191, 192, 193, 194, 195] (by decide +kernel) (by decide +kernel)
set_option maxRecDepth 20000 in
theorem ggX6_descantIn_X3_descantToCome_q11 : GoodIn wsX6_descantIn (wsX10) := goodIn_r _ [171, 172, 173, 174, 175, 176, 177, 178] (by decide +kernel) (by decide +kernel)
set_option maxRecDepth 20000 in
theorem ggX6_descantIn_X3_descantToCome_q12 : GoodIn wsX6_descantIn (wsX40) := goodIn_r _ [196, 197, 198, 199] (by decide +kernel) (by decide +kernel)
theorem ggX6_descantIn_X3_descantToCome : GoodIn wsX6_descantIn wsX3_descantToCome := (goodIn_app (a := [Cond.code yX3_descantToCome cX3_descantToCome 6 (some .int)]) ggX6_descantIn_X3_descantToCome_q1 (goodIn_app (goodIn_app (goodIn_app (goodIn_app (goodIn_app (goodIn_app ggX6_descantIn_X3_descantToCome_q2 (goodIn_app ggX6_descantIn_X3_descantToCome_q3 (goodIn_app ggX6_descantIn_X3_descantToCome_q4 (goodIn_app ggX6_descantIn_X3_descantToCome_q5 (goodIn_app ggX6_descantIn_X3_descantToCome_q6 ggX6_descantIn_X3_descantToCome_q7))))) ggX6_descantIn_X3_descantToCome_q8) ggX6_descantIn_X3_descantToCome_q9) ggX6_descantIn_X3_descantToCome_q10) ggX6_descantIn_X3_descantToCome_q11) ggX6_descantIn_X3_descantToCome_q12))
set_option maxRecDepth 20000 in
theorem gX6_descantIn_X3_descantToCome : GoodIn wsX6_descantIn (wsV RX6 252 RX3 yX3_descantToCome wsX3_descantToCome) := goodIn_app (goodIn_of _ (by decide +kernel)) ggX6_descantIn_X3_descantToCome
theorem dX6_descantIn_0 : decode cX6_descantIn 0 = .ok (.aload_n 0, 1) := by decide +kernel
theorem dX6_descantIn_1 : decode cX6_descantIn 1 = .ok (.iload_n 1, 1) := by decide +kernel
theorem dX6_descantIn_2 : decode cX6_descantIn 2 = .ok (.invokevirtual 207, 3) := by decide +kernel
theorem dX6_descantIn_5 : decode cX6_descantIn 5 = .ok (.aload_n 0, 1) := by decide +kernel
theorem dX6_descantIn_6 : decode cX6_descantIn 6 = .ok (.getfield 10, 3) := by decide +kernel
theorem dX6_descantIn_9 : decode cX6_descantIn 9 = .ok (.iload_n 1, 1) := by decide +kernel
theorem dX6_descantIn_10 : decode cX6_descantIn 10 = .ok (.invokevirtual 212, 3) := by decide +kernel
theorem dX6_descantIn_13 : decode cX6_descantIn 13 = .ok (.ifCond .eq 18, 3) := by decide +kernel
theorem dX6_descantIn_16 : decode cX6_descantIn 16 = .ok (.aload_n 0, 1) := by decide +kernel
theorem dX6_descantIn_17 : decode cX6_descantIn 17 = .ok (.getfield 10, 3) := by decide +kernel
theorem dX6_descantIn_20 : decode cX6_descantIn 20 = .ok (.getfield 200, 3) := by decide +kernel
theorem dX6_descantIn_23 : decode cX6_descantIn 23 = .ok (.getfield 249, 3) := by decide +kernel
theorem dX6_descantIn_26 : decode cX6_descantIn 26 = .ok (.iload_n 1, 1) := by decide +kernel
theorem dX6_descantIn_27 : decode cX6_descantIn 27 = .ok (.iaload, 1) := by decide +kernel
theorem dX6_descantIn_28 : decode cX6_descantIn 28 = .ok (.goto 15, 3) := by decide +kernel
theorem dX6_descantIn_31 : decode cX6_descantIn 31 = .ok (.aload_n 0, 1) := by decide +kernel
theorem dX6_descantIn_32 : decode cX6_descantIn 32 = .ok (.getfield 44, 3) := by decide +kernel
theorem dX6_descantIn_35 : decode cX6_descantIn 35 = .ok (.aload_n 0, 1) := by decide +kernel
theorem dX6_descantIn_36 : decode cX6_descantIn 36 = .ok (.getfield 10, 3) := by decide +kernel
theorem dX6_descantIn_39 : decode cX6_descantIn 39 = .ok (.iload_n 1, 1) := by decide +kernel
theorem dX6_descantIn_40 : decode cX6_descantIn 40 = .ok (.invokevirtual 252, 3) := by decide +kernel
theorem dX6_descantIn_43 : decode cX6_descantIn 43 = .ok (.ireturn, 1) := by decide +kernel
set_option maxRecDepth 20000 in
theorem ggX6_pewOf_X6_requireFeast : GoodIn wsX6_pewOf wsX6_requireFeast := goodIn_ca (goodIn_ca (goodIn_ca (goodIn_r _ [8, 2, 9, 10, 11, 12, 13, 14, 15, 16, 17, 7, 18, 19, 20, 21, 22, 23, 24, 155, 156, 157, 158, 159, 160, 161, 162, 163, 164, 165, 166, 167, 168, 169, 170, 171, 172, 173, 174, 175, 176, 177, 178, 179, 180] (by decide +kernel) (by decide +kernel)) (goodIn_sub (fun _ h => List.mem_cons_of_mem _ (List.mem_append_left _ (List.mem_append_left _ (List.mem_append_right _ h)))) (by decide +kernel))) (goodIn_sub (fun _ h => List.mem_cons_of_mem _ (List.mem_append_left _ (List.mem_append_right _ h))) (by decide +kernel))) (goodIn_sub (fun _ h => List.mem_cons_of_mem _ (List.mem_append_right _ h)) (by decide +kernel))
set_option maxRecDepth 20000 in
theorem gX6_pewOf_X6_requireFeast : GoodIn wsX6_pewOf (wsV RX6 207 RX6 yX6_requireFeast wsX6_requireFeast) := goodIn_app (goodIn_of _ (by decide +kernel)) ggX6_pewOf_X6_requireFeast
set_option maxRecDepth 20000 in
theorem ggX6_pewOf_X6_requireSinger : GoodIn wsX6_pewOf wsX6_requireSinger := goodIn_ca (goodIn_ca (goodIn_ca (goodIn_r _ [28, 2, 3, 29, 30, 31, 32, 33, 34, 16, 17, 7, 18, 19, 20, 21, 22, 23, 24, 155, 156, 157, 158, 159, 160, 161, 162, 163, 164, 165, 166, 167, 168, 169, 170, 171, 172, 181, 182, 183, 184, 185, 186, 187, 188, 189, 190, 191, 192] (by decide +kernel) (by decide +kernel)) (goodIn_sub (fun _ h => List.mem_cons_of_mem _ (List.mem_append_left _ (List.mem_append_left _ (List.mem_append_right _ h)))) (by decide +kernel))) (goodIn_sub (fun _ h => List.mem_cons_of_mem _ (List.mem_append_left _ (List.mem_append_right _ h))) (by decide +kernel))) (goodIn_sub (fun _ h => List.mem_cons_of_mem _ (List.mem_append_right _ h)) (by decide +kernel))
set_option maxRecDepth 20000 in
theorem gX6_pewOf_X6_requireSinger : GoodIn wsX6_pewOf (wsV RX6 146 RX6 yX6_requireSinger wsX6_requireSinger) := goodIn_app (goodIn_of _ (by decide +kernel)) ggX6_pewOf_X6_requireSinger
set_option maxRecDepth 20000 in
theorem ggX6_pewOf_X3_tell_q1 : GoodIn wsX6_pewOf ([Cond.code yX3_tell cX3_tell 3 none]) := goodIn_r _ [39] (by decide +kernel) (by decide +kernel)
set_option maxRecDepth 20000 in
theorem ggX6_pewOf_X3_tell_q2 : GoodIn wsX6_pewOf (wsX3_tell_r1) := goodIn_r _ [40, 41, 42, 43, 44, 45, 46, 47, 48, 49, 50, 51, 52, 53, 54, 55, 56, 57, 38, 58, 59, 60, 61, 62] (by decide +kernel) (by decide +kernel)
set_option maxRecDepth 20000 in
theorem ggX6_pewOf_X3_tell_q3 : GoodIn wsX6_pewOf (wsX3_tell_r2) := goodIn_r _ [63, 64, 65, 66, 67, 68, 69, 70, 71, 72, 73, 74, 75, 76, 77, 32, 78, 79, 80, 81, 82, 83, 84, 85] (by decide +kernel) (by decide +kernel)
set_option maxRecDepth 20000 in
theorem ggX6_pewOf_X3_tell_q4 : GoodIn wsX6_pewOf (wsX3_tell_r3) := goodIn_r _ [86, 87, 88, 89, 90, 91, 92, 93, 94, 95, 96, 97, 98, 99, 100, 101, 102, 103, 104, 105, 106, 107, 108, 109] (by decide +kernel) (by decide +kernel)
set_option maxRecDepth 20000 in
theorem ggX6_pewOf_X3_tell_q5 : GoodIn wsX6_pewOf (wsX3_tell_r4) := goodIn_r _ [110, 111, 112, 113, 114, 115, 116, 117, 118, 119, 120, 121, 122, 123, 124, 125, 126, 127, 128, 129, 130, 131, 132, 133] (by decide +kernel) (by decide +kernel)
set_option maxRecDepth 20000 in
theorem ggX6_pewOf_X3_tell_q6 : GoodIn wsX6_pewOf (wsX3_tell_r5) := goodIn_r _ [134, 135, 136, 137, 138, 139, 140, 141, 142, 143, 144, 145] (by decide +kernel) (by decide +kernel)
set_option maxRecDepth 20000 in
theorem ggX6_pewOf_X3_tell_q7 : GoodIn wsX6_pewOf (wsX00) := goodIn_r _ [163, 164, 165, 166, 167, 168, 169, 170, 171, 172] (by decide +kernel) (by decide +kernel)
set_option maxRecDepth 20000 in
theorem ggX6_pewOf_X3_tell_q8 : GoodIn wsX6_pewOf (wsX10) := goodIn_r _ [173, 174, 175, 176, 177, 178, 179, 180] (by decide +kernel) (by decide +kernel)
set_option maxRecDepth 20000 in
theorem ggX6_pewOf_X3_tell_q9 : GoodIn wsX6_pewOf (wsX30) := goodIn_r _ [193, 194, 195, 196, 197] (by decide +kernel) (by decide +kernel)
set_option maxRecDepth 20000 in
theorem ggX6_pewOf_X3_tell_q10 : GoodIn wsX6_pewOf (wsX50) := goodIn_r _ [181, 182, 183, 184, 185, 186, 187, 188, 189, 190, 191, 192] (by decide +kernel) (by decide +kernel)
set_option maxRecDepth 20000 in
theorem ggX6_pewOf_X3_tell_q11 : GoodIn wsX6_pewOf (wsX40) := goodIn_r _ [198, 199, 200, 201] (by decide +kernel) (by decide +kernel)
theorem ggX6_pewOf_X3_tell : GoodIn wsX6_pewOf wsX3_tell := (goodIn_app (a := [Cond.code yX3_tell cX3_tell 3 none]) ggX6_pewOf_X3_tell_q1 (goodIn_app (goodIn_app (goodIn_app (goodIn_app (goodIn_app (goodIn_app ggX6_pewOf_X3_tell_q2 (goodIn_app ggX6_pewOf_X3_tell_q3 (goodIn_app ggX6_pewOf_X3_tell_q4 (goodIn_app ggX6_pewOf_X3_tell_q5 ggX6_pewOf_X3_tell_q6)))) ggX6_pewOf_X3_tell_q7) ggX6_pewOf_X3_tell_q8) ggX6_pewOf_X3_tell_q9) ggX6_pewOf_X3_tell_q10) ggX6_pewOf_X3_tell_q11))
set_option maxRecDepth 20000 in
theorem gX6_pewOf_X3_tell : GoodIn wsX6_pewOf (wsV RX6 229 RX3 yX3_tell wsX3_tell) := goodIn_app (goodIn_of _ (by decide +kernel)) ggX6_pewOf_X3_tell
set_option maxRecDepth 20000 in
theorem ggX6_pewOf_X3_rankByHeight : GoodIn wsX6_pewOf wsX3_rankByHeight := goodIn_r _ [149, 42, 62, 150, 151, 152, 32, 153, 154, 193, 194, 195, 196, 197, 181, 182, 183, 184, 185, 186, 187, 188, 189, 190, 191, 192] (by decide +kernel) (by decide +kernel)
set_option maxRecDepth 20000 in
theorem gX6_pewOf_X3_rankByHeight : GoodIn wsX6_pewOf (wsV RX6 256 RX3 yX3_rankByHeight wsX3_rankByHeight) := goodIn_app (goodIn_of _ (by decide +kernel)) ggX6_pewOf_X3_rankByHeight
theorem dX6_pewOf_0 : decode cX6_pewOf 0 = .ok (.aload_n 0, 1) := by decide +kernel
theorem dX6_pewOf_1 : decode cX6_pewOf 1 = .ok (.iload_n 1, 1) := by decide +kernel
theorem dX6_pewOf_2 : decode cX6_pewOf 2 = .ok (.invokevirtual 207, 3) := by decide +kernel
theorem dX6_pewOf_5 : decode cX6_pewOf 5 = .ok (.aload_n 0, 1) := by decide +kernel
theorem dX6_pewOf_6 : decode cX6_pewOf 6 = .ok (.iload_n 2, 1) := by decide +kernel
theorem dX6_pewOf_7 : decode cX6_pewOf 7 = .ok (.invokevirtual 146, 3) := by decide +kernel
theorem dX6_pewOf_10 : decode cX6_pewOf 10 = .ok (.aload_n 0, 1) := by decide +kernel
theorem dX6_pewOf_11 : decode cX6_pewOf 11 = .ok (.getfield 44, 3) := by decide +kernel
theorem dX6_pewOf_14 : decode cX6_pewOf 14 = .ok (.aload_n 0, 1) := by decide +kernel
theorem dX6_pewOf_15 : decode cX6_pewOf 15 = .ok (.getfield 10, 3) := by decide +kernel
theorem dX6_pewOf_18 : decode cX6_pewOf 18 = .ok (.iload_n 1, 1) := by decide +kernel
theorem dX6_pewOf_19 : decode cX6_pewOf 19 = .ok (.invokevirtual 229, 3) := by decide +kernel
theorem dX6_pewOf_22 : decode cX6_pewOf 22 = .ok (.aload_n 0, 1) := by decide +kernel
theorem dX6_pewOf_23 : decode cX6_pewOf 23 = .ok (.getfield 44, 3) := by decide +kernel
theorem dX6_pewOf_26 : decode cX6_pewOf 26 = .ok (.aload_n 0, 1) := by decide +kernel
theorem dX6_pewOf_27 : decode cX6_pewOf 27 = .ok (.getfield 10, 3) := by decide +kernel
theorem dX6_pewOf_30 : decode cX6_pewOf 30 = .ok (.getfield 137, 3) := by decide +kernel
theorem dX6_pewOf_33 : decode cX6_pewOf 33 = .ok (.iload_n 2, 1) := by decide +kernel
theorem dX6_pewOf_34 : decode cX6_pewOf 34 = .ok (.invokevirtual 256, 3) := by decide +kernel
theorem dX6_pewOf_37 : decode cX6_pewOf 37 = .ok (.istore_n 3, 1) := by decide +kernel
theorem dX6_pewOf_38 : decode cX6_pewOf 38 = .ok (.iload_n 3, 1) := by decide +kernel
theorem dX6_pewOf_39 : decode cX6_pewOf 39 = .ok (.iconst (-1), 1) := by decide +kernel
theorem dX6_pewOf_40 : decode cX6_pewOf 40 = .ok (.if_icmp .ne 7, 3) := by decide +kernel
theorem dX6_pewOf_43 : decode cX6_pewOf 43 = .ok (.iconst (-1), 1) := by decide +kernel
theorem dX6_pewOf_44 : decode cX6_pewOf 44 = .ok (.goto 6, 3) := by decide +kernel
theorem dX6_pewOf_47 : decode cX6_pewOf 47 = .ok (.iload_n 3, 1) := by decide +kernel
theorem dX6_pewOf_48 : decode cX6_pewOf 48 = .ok (.iconst 2, 1) := by decide +kernel
theorem dX6_pewOf_49 : decode cX6_pewOf 49 = .ok (.idiv, 1) := by decide +kernel
theorem dX6_pewOf_50 : decode cX6_pewOf 50 = .ok (.ireturn, 1) := by decide +kernel
set_option maxRecDepth 20000 in
theorem ggX6_seatOf_X6_requireFeast : GoodIn wsX6_seatOf wsX6_requireFeast := goodIn_ca (goodIn_ca (goodIn_ca (goodIn_r _ [8, 2, 9, 10, 11, 12, 13, 14, 15, 16, 17, 7, 18, 19, 20, 21, 22, 23, 24, 155, 156, 157, 158, 159, 160, 161, 162, 163, 164, 165, 166, 167, 168, 169, 170, 171, 172, 173, 174, 175, 176, 177, 178, 179, 180] (by decide +kernel) (by decide +kernel)) (goodIn_sub (fun _ h => List.mem_cons_of_mem _ (List.mem_append_left _ (List.mem_append_left _ (List.mem_append_right _ h)))) (by decide +kernel))) (goodIn_sub (fun _ h => List.mem_cons_of_mem _ (List.mem_append_left _ (List.mem_append_right _ h))) (by decide +kernel))) (goodIn_sub (fun _ h => List.mem_cons_of_mem _ (List.mem_append_right _ h)) (by decide +kernel))
set_option maxRecDepth 20000 in
theorem gX6_seatOf_X6_requireFeast : GoodIn wsX6_seatOf (wsV RX6 207 RX6 yX6_requireFeast wsX6_requireFeast) := goodIn_app (goodIn_of _ (by decide +kernel)) ggX6_seatOf_X6_requireFeast
set_option maxRecDepth 20000 in
theorem ggX6_seatOf_X6_requireSinger : GoodIn wsX6_seatOf wsX6_requireSinger := goodIn_ca (goodIn_ca (goodIn_ca (goodIn_r _ [28, 2, 3, 29, 30, 31, 32, 33, 34, 16, 17, 7, 18, 19, 20, 21, 22, 23, 24, 155, 156, 157, 158, 159, 160, 161, 162, 163, 164, 165, 166, 167, 168, 169, 170, 171, 172, 181, 182, 183, 184, 185, 186, 187, 188, 189, 190, 191, 192] (by decide +kernel) (by decide +kernel)) (goodIn_sub (fun _ h => List.mem_cons_of_mem _ (List.mem_append_left _ (List.mem_append_left _ (List.mem_append_right _ h)))) (by decide +kernel))) (goodIn_sub (fun _ h => List.mem_cons_of_mem _ (List.mem_append_left _ (List.mem_append_right _ h))) (by decide +kernel))) (goodIn_sub (fun _ h => List.mem_cons_of_mem _ (List.mem_append_right _ h)) (by decide +kernel))
set_option maxRecDepth 20000 in
theorem gX6_seatOf_X6_requireSinger : GoodIn wsX6_seatOf (wsV RX6 146 RX6 yX6_requireSinger wsX6_requireSinger) := goodIn_app (goodIn_of _ (by decide +kernel)) ggX6_seatOf_X6_requireSinger
set_option maxRecDepth 20000 in
theorem ggX6_seatOf_X3_tell_q1 : GoodIn wsX6_seatOf ([Cond.code yX3_tell cX3_tell 3 none]) := goodIn_r _ [39] (by decide +kernel) (by decide +kernel)
set_option maxRecDepth 20000 in
theorem ggX6_seatOf_X3_tell_q2 : GoodIn wsX6_seatOf (wsX3_tell_r1) := goodIn_r _ [40, 41, 42, 43, 44, 45, 46, 47, 48, 49, 50, 51, 52, 53, 54, 55, 56, 57, 38, 58, 59, 60, 61, 62] (by decide +kernel) (by decide +kernel)
set_option maxRecDepth 20000 in
theorem ggX6_seatOf_X3_tell_q3 : GoodIn wsX6_seatOf (wsX3_tell_r2) := goodIn_r _ [63, 64, 65, 66, 67, 68, 69, 70, 71, 72, 73, 74, 75, 76, 77, 32, 78, 79, 80, 81, 82, 83, 84, 85] (by decide +kernel) (by decide +kernel)
set_option maxRecDepth 20000 in
theorem ggX6_seatOf_X3_tell_q4 : GoodIn wsX6_seatOf (wsX3_tell_r3) := goodIn_r _ [86, 87, 88, 89, 90, 91, 92, 93, 94, 95, 96, 97, 98, 99, 100, 101, 102, 103, 104, 105, 106, 107, 108, 109] (by decide +kernel) (by decide +kernel)
set_option maxRecDepth 20000 in
theorem ggX6_seatOf_X3_tell_q5 : GoodIn wsX6_seatOf (wsX3_tell_r4) := goodIn_r _ [110, 111, 112, 113, 114, 115, 116, 117, 118, 119, 120, 121, 122, 123, 124, 125, 126, 127, 128, 129, 130, 131, 132, 133] (by decide +kernel) (by decide +kernel)
set_option maxRecDepth 20000 in
theorem ggX6_seatOf_X3_tell_q6 : GoodIn wsX6_seatOf (wsX3_tell_r5) := goodIn_r _ [134, 135, 136, 137, 138, 139, 140, 141, 142, 143, 144, 145] (by decide +kernel) (by decide +kernel)
set_option maxRecDepth 20000 in
theorem ggX6_seatOf_X3_tell_q7 : GoodIn wsX6_seatOf (wsX00) := goodIn_r _ [163, 164, 165, 166, 167, 168, 169, 170, 171, 172] (by decide +kernel) (by decide +kernel)
set_option maxRecDepth 20000 in
theorem ggX6_seatOf_X3_tell_q8 : GoodIn wsX6_seatOf (wsX10) := goodIn_r _ [173, 174, 175, 176, 177, 178, 179, 180] (by decide +kernel) (by decide +kernel)
set_option maxRecDepth 20000 in
theorem ggX6_seatOf_X3_tell_q9 : GoodIn wsX6_seatOf (wsX30) := goodIn_r _ [193, 194, 195, 196, 197] (by decide +kernel) (by decide +kernel)
set_option maxRecDepth 20000 in
theorem ggX6_seatOf_X3_tell_q10 : GoodIn wsX6_seatOf (wsX50) := goodIn_r _ [181, 182, 183, 184, 185, 186, 187, 188, 189, 190, 191, 192] (by decide +kernel) (by decide +kernel)
set_option maxRecDepth 20000 in
theorem ggX6_seatOf_X3_tell_q11 : GoodIn wsX6_seatOf (wsX40) := goodIn_r _ [198, 199, 200, 201] (by decide +kernel) (by decide +kernel)
theorem ggX6_seatOf_X3_tell : GoodIn wsX6_seatOf wsX3_tell := (goodIn_app (a := [Cond.code yX3_tell cX3_tell 3 none]) ggX6_seatOf_X3_tell_q1 (goodIn_app (goodIn_app (goodIn_app (goodIn_app (goodIn_app (goodIn_app ggX6_seatOf_X3_tell_q2 (goodIn_app ggX6_seatOf_X3_tell_q3 (goodIn_app ggX6_seatOf_X3_tell_q4 (goodIn_app ggX6_seatOf_X3_tell_q5 ggX6_seatOf_X3_tell_q6)))) ggX6_seatOf_X3_tell_q7) ggX6_seatOf_X3_tell_q8) ggX6_seatOf_X3_tell_q9) ggX6_seatOf_X3_tell_q10) ggX6_seatOf_X3_tell_q11))
set_option maxRecDepth 20000 in
theorem gX6_seatOf_X3_tell : GoodIn wsX6_seatOf (wsV RX6 229 RX3 yX3_tell wsX3_tell) := goodIn_app (goodIn_of _ (by decide +kernel)) ggX6_seatOf_X3_tell
set_option maxRecDepth 20000 in
theorem ggX6_seatOf_X3_rankByHeight : GoodIn wsX6_seatOf wsX3_rankByHeight := goodIn_r _ [149, 42, 62, 150, 151, 152, 32, 153, 154, 193, 194, 195, 196, 197, 181, 182, 183, 184, 185, 186, 187, 188, 189, 190, 191, 192] (by decide +kernel) (by decide +kernel)
set_option maxRecDepth 20000 in
theorem gX6_seatOf_X3_rankByHeight : GoodIn wsX6_seatOf (wsV RX6 256 RX3 yX3_rankByHeight wsX3_rankByHeight) := goodIn_app (goodIn_of _ (by decide +kernel)) ggX6_seatOf_X3_rankByHeight
theorem dX6_seatOf_0 : decode cX6_seatOf 0 = .ok (.aload_n 0, 1) := by decide +kernel
theorem dX6_seatOf_1 : decode cX6_seatOf 1 = .ok (.iload_n 1, 1) := by decide +kernel
theorem dX6_seatOf_2 : decode cX6_seatOf 2 = .ok (.invokevirtual 207, 3) := by decide +kernel
theorem dX6_seatOf_5 : decode cX6_seatOf 5 = .ok (.aload_n 0, 1) := by decide +kernel
theorem dX6_seatOf_6 : decode cX6_seatOf 6 = .ok (.iload_n 2, 1) := by decide +kernel
theorem dX6_seatOf_7 : decode cX6_seatOf 7 = .ok (.invokevirtual 146, 3) := by decide +kernel
theorem dX6_seatOf_10 : decode cX6_seatOf 10 = .ok (.aload_n 0, 1) := by decide +kernel
theorem dX6_seatOf_11 : decode cX6_seatOf 11 = .ok (.getfield 44, 3) := by decide +kernel
theorem dX6_seatOf_14 : decode cX6_seatOf 14 = .ok (.aload_n 0, 1) := by decide +kernel
theorem dX6_seatOf_15 : decode cX6_seatOf 15 = .ok (.getfield 10, 3) := by decide +kernel
theorem dX6_seatOf_18 : decode cX6_seatOf 18 = .ok (.iload_n 1, 1) := by decide +kernel
theorem dX6_seatOf_19 : decode cX6_seatOf 19 = .ok (.invokevirtual 229, 3) := by decide +kernel
theorem dX6_seatOf_22 : decode cX6_seatOf 22 = .ok (.aload_n 0, 1) := by decide +kernel
theorem dX6_seatOf_23 : decode cX6_seatOf 23 = .ok (.getfield 44, 3) := by decide +kernel
theorem dX6_seatOf_26 : decode cX6_seatOf 26 = .ok (.aload_n 0, 1) := by decide +kernel
theorem dX6_seatOf_27 : decode cX6_seatOf 27 = .ok (.getfield 10, 3) := by decide +kernel
theorem dX6_seatOf_30 : decode cX6_seatOf 30 = .ok (.getfield 137, 3) := by decide +kernel
theorem dX6_seatOf_33 : decode cX6_seatOf 33 = .ok (.iload_n 2, 1) := by decide +kernel
theorem dX6_seatOf_34 : decode cX6_seatOf 34 = .ok (.invokevirtual 256, 3) := by decide +kernel
theorem dX6_seatOf_37 : decode cX6_seatOf 37 = .ok (.istore_n 3, 1) := by decide +kernel
theorem dX6_seatOf_38 : decode cX6_seatOf 38 = .ok (.iload_n 3, 1) := by decide +kernel
theorem dX6_seatOf_39 : decode cX6_seatOf 39 = .ok (.iconst (-1), 1) := by decide +kernel
theorem dX6_seatOf_40 : decode cX6_seatOf 40 = .ok (.if_icmp .ne 7, 3) := by decide +kernel
theorem dX6_seatOf_43 : decode cX6_seatOf 43 = .ok (.iconst (-1), 1) := by decide +kernel
theorem dX6_seatOf_44 : decode cX6_seatOf 44 = .ok (.goto 6, 3) := by decide +kernel
theorem dX6_seatOf_47 : decode cX6_seatOf 47 = .ok (.iload_n 3, 1) := by decide +kernel
theorem dX6_seatOf_48 : decode cX6_seatOf 48 = .ok (.iconst 2, 1) := by decide +kernel
theorem dX6_seatOf_49 : decode cX6_seatOf 49 = .ok (.irem, 1) := by decide +kernel
theorem dX6_seatOf_50 : decode cX6_seatOf 50 = .ok (.ireturn, 1) := by decide +kernel
set_option maxRecDepth 20000 in
theorem ggX6_firstShortFeast_X1_nextAfter : GoodIn wsX6_firstShortFeast wsX1_nextAfter := goodIn_r _ [10, 11, 12, 99, 100, 101, 102, 103, 104, 105, 106] (by decide +kernel) (by decide +kernel)
set_option maxRecDepth 20000 in
theorem gX6_firstShortFeast_X1_nextAfter : GoodIn wsX6_firstShortFeast (wsV RX6 260 RX1 yX1_nextAfter wsX1_nextAfter) := goodIn_app (goodIn_of _ (by decide +kernel)) ggX6_firstShortFeast_X1_nextAfter
set_option maxRecDepth 20000 in
theorem ggX6_firstShortFeast_X3_lackBySets_q1 : GoodIn wsX6_firstShortFeast ([Cond.code yX3_lackBySets cX3_lackBySets 8 (some .int)]) := goodIn_r _ [17] (by decide +kernel) (by decide +kernel)
set_option maxRecDepth 20000 in
theorem ggX6_firstShortFeast_X3_lackBySets_q2 : GoodIn wsX6_firstShortFeast (wsX3_lackBySets_r1) := goodIn_r _ [18, 19, 20, 21, 22, 23, 24, 16, 25, 26, 27, 28, 29, 30, 31, 32, 33, 34, 35, 36, 37, 38, 39, 40] (by decide +kernel) (by decide +kernel)
set_option maxRecDepth 20000 in
theorem ggX6_firstShortFeast_X3_lackBySets_q3 : GoodIn wsX6_firstShortFeast (wsX3_lackBySets_r2) := goodIn_r _ [41, 42, 43, 44, 45, 46, 47, 48, 49, 50, 51, 52, 53, 54, 55, 56, 57, 58, 59, 60, 61, 62, 63, 64] (by decide +kernel) (by decide +kernel)
set_option maxRecDepth 20000 in
theorem ggX6_firstShortFeast_X3_lackBySets_q4 : GoodIn wsX6_firstShortFeast (wsX3_lackBySets_r3) := goodIn_r _ [65, 66, 67, 68, 69, 70, 71, 72, 73, 74, 75, 76, 77, 78, 79, 80] (by decide +kernel) (by decide +kernel)
set_option maxRecDepth 20000 in
theorem ggX6_firstShortFeast_X3_lackBySets_q5 : GoodIn wsX6_firstShortFeast (wsX00) := goodIn_r _ [89, 90, 91, 92, 93, 94, 95, 96, 97, 98] (by decide +kernel) (by decide +kernel)
set_option maxRecDepth 20000 in
theorem ggX6_firstShortFeast_X3_lackBySets_q6 : GoodIn wsX6_firstShortFeast (wsX50) := goodIn_r _ [107, 108, 109, 110, 111, 112, 113, 114, 115, 116, 117, 118] (by decide +kernel) (by decide +kernel)
set_option maxRecDepth 20000 in
theorem ggX6_firstShortFeast_X3_lackBySets_q7 : GoodIn wsX6_firstShortFeast (wsX10) := goodIn_r _ [99, 100, 101, 102, 103, 104, 105, 106] (by decide +kernel) (by decide +kernel)
set_option maxRecDepth 20000 in
theorem ggX6_firstShortFeast_X3_lackBySets_q8 : GoodIn wsX6_firstShortFeast (wsX30) := goodIn_r _ [119, 120, 121, 122, 123] (by decide +kernel) (by decide +kernel)
set_option maxRecDepth 20000 in
theorem ggX6_firstShortFeast_X3_lackBySets_q9 : GoodIn wsX6_firstShortFeast (wsX40) := goodIn_r _ [124, 125, 126, 127] (by decide +kernel) (by decide +kernel)
theorem ggX6_firstShortFeast_X3_lackBySets : GoodIn wsX6_firstShortFeast wsX3_lackBySets := (goodIn_app (a := [Cond.code yX3_lackBySets cX3_lackBySets 8 (some .int)]) ggX6_firstShortFeast_X3_lackBySets_q1 (goodIn_app (goodIn_app (goodIn_app (goodIn_app (goodIn_app (goodIn_app ggX6_firstShortFeast_X3_lackBySets_q2 (goodIn_app ggX6_firstShortFeast_X3_lackBySets_q3 ggX6_firstShortFeast_X3_lackBySets_q4)) ggX6_firstShortFeast_X3_lackBySets_q5) ggX6_firstShortFeast_X3_lackBySets_q6) ggX6_firstShortFeast_X3_lackBySets_q7) ggX6_firstShortFeast_X3_lackBySets_q8) ggX6_firstShortFeast_X3_lackBySets_q9))
set_option maxRecDepth 20000 in
theorem gX6_firstShortFeast_X3_lackBySets : GoodIn wsX6_firstShortFeast (wsV RX6 245 RX3 yX3_lackBySets wsX3_lackBySets) := goodIn_app (goodIn_of _ (by decide +kernel)) ggX6_firstShortFeast_X3_lackBySets
theorem dX6_firstShortFeast_0 : decode cX6_firstShortFeast 0 = .ok (.aload_n 0, 1) := by decide +kernel
theorem dX6_firstShortFeast_1 : decode cX6_firstShortFeast 1 = .ok (.getfield 10, 3) := by decide +kernel
theorem dX6_firstShortFeast_4 : decode cX6_firstShortFeast 4 = .ok (.getfield 200, 3) := by decide +kernel
theorem dX6_firstShortFeast_7 : decode cX6_firstShortFeast 7 = .ok (.aload_n 0, 1) := by decide +kernel
theorem dX6_firstShortFeast_8 : decode cX6_firstShortFeast 8 = .ok (.getfield 10, 3) := by decide +kernel
theorem dX6_firstShortFeast_11 : decode cX6_firstShortFeast 11 = .ok (.getfield 134, 3) := by decide +kernel
theorem dX6_firstShortFeast_14 : decode cX6_firstShortFeast 14 = .ok (.invokevirtual 260, 3) := by decide +kernel
theorem dX6_firstShortFeast_17 : decode cX6_firstShortFeast 17 = .ok (.istore_n 1, 1) := by decide +kernel
theorem dX6_firstShortFeast_18 : decode cX6_firstShortFeast 18 = .ok (.iconst 0, 1) := by decide +kernel
theorem dX6_firstShortFeast_19 : decode cX6_firstShortFeast 19 = .ok (.istore_n 2, 1) := by decide +kernel
theorem dX6_firstShortFeast_20 : decode cX6_firstShortFeast 20 = .ok (.iload_n 2, 1) := by decide +kernel
theorem dX6_firstShortFeast_21 : decode cX6_firstShortFeast 21 = .ok (.bipush 20, 2) := by decide +kernel
theorem dX6_firstShortFeast_23 : decode cX6_firstShortFeast 23 = .ok (.if_icmp .ge 55, 3) := by decide +kernel
theorem dX6_firstShortFeast_26 : decode cX6_firstShortFeast 26 = .ok (.iload_n 1, 1) := by decide +kernel
theorem dX6_firstShortFeast_27 : decode cX6_firstShortFeast 27 = .ok (.iconst (-1), 1) := by decide +kernel
theorem dX6_firstShortFeast_28 : decode cX6_firstShortFeast 28 = .ok (.if_icmp .eq 50, 3) := by decide +kernel
theorem dX6_firstShortFeast_31 : decode cX6_firstShortFeast 31 = .ok (.aload_n 0, 1) := by decide +kernel
theorem dX6_firstShortFeast_32 : decode cX6_firstShortFeast 32 = .ok (.getfield 44, 3) := by decide +kernel
theorem dX6_firstShortFeast_35 : decode cX6_firstShortFeast 35 = .ok (.aload_n 0, 1) := by decide +kernel
theorem dX6_firstShortFeast_36 : decode cX6_firstShortFeast 36 = .ok (.getfield 10, 3) := by decide +kernel
theorem dX6_firstShortFeast_39 : decode cX6_firstShortFeast 39 = .ok (.iload_n 1, 1) := by decide +kernel
theorem dX6_firstShortFeast_40 : decode cX6_firstShortFeast 40 = .ok (.iconst (-1), 1) := by decide +kernel
theorem dX6_firstShortFeast_41 : decode cX6_firstShortFeast 41 = .ok (.invokevirtual 245, 3) := by decide +kernel
theorem dX6_firstShortFeast_44 : decode cX6_firstShortFeast 44 = .ok (.ifCond .le 5, 3) := by decide +kernel
theorem dX6_firstShortFeast_47 : decode cX6_firstShortFeast 47 = .ok (.iload_n 1, 1) := by decide +kernel
theorem dX6_firstShortFeast_48 : decode cX6_firstShortFeast 48 = .ok (.ireturn, 1) := by decide +kernel
theorem dX6_firstShortFeast_49 : decode cX6_firstShortFeast 49 = .ok (.aload_n 0, 1) := by decide +kernel
theorem dX6_firstShortFeast_50 : decode cX6_firstShortFeast 50 = .ok (.getfield 10, 3) := by decide +kernel
theorem dX6_firstShortFeast_53 : decode cX6_firstShortFeast 53 = .ok (.getfield 200, 3) := by decide +kernel
theorem dX6_firstShortFeast_56 : decode cX6_firstShortFeast 56 = .ok (.aload_n 0, 1) := by decide +kernel
theorem dX6_firstShortFeast_57 : decode cX6_firstShortFeast 57 = .ok (.getfield 10, 3) := by decide +kernel
theorem dX6_firstShortFeast_60 : decode cX6_firstShortFeast 60 = .ok (.getfield 200, 3) := by decide +kernel
theorem dX6_firstShortFeast_63 : decode cX6_firstShortFeast 63 = .ok (.getfield 210, 3) := by decide +kernel
theorem dX6_firstShortFeast_66 : decode cX6_firstShortFeast 66 = .ok (.iload_n 1, 1) := by decide +kernel
theorem dX6_firstShortFeast_67 : decode cX6_firstShortFeast 67 = .ok (.iaload, 1) := by decide +kernel
theorem dX6_firstShortFeast_68 : decode cX6_firstShortFeast 68 = .ok (.invokevirtual 260, 3) := by decide +kernel
theorem dX6_firstShortFeast_71 : decode cX6_firstShortFeast 71 = .ok (.istore_n 1, 1) := by decide +kernel
theorem dX6_firstShortFeast_72 : decode cX6_firstShortFeast 72 = .ok (.iinc 2 1, 3) := by decide +kernel
theorem dX6_firstShortFeast_75 : decode cX6_firstShortFeast 75 = .ok (.goto (-55), 3) := by decide +kernel
theorem dX6_firstShortFeast_78 : decode cX6_firstShortFeast 78 = .ok (.iconst (-1), 1) := by decide +kernel
theorem dX6_firstShortFeast_79 : decode cX6_firstShortFeast 79 = .ok (.ireturn, 1) := by decide +kernel
set_option maxRecDepth 20000 in
theorem ggX6_favoursOf_X6_isWithin : GoodIn wsX6_favoursOf wsX6_isWithin := goodIn_r _ [6] (by decide +kernel) (by decide +kernel)
set_option maxRecDepth 20000 in
theorem gX6_favoursOf_X6_isWithin : GoodIn wsX6_favoursOf (va_wsS RX6 181 yX6_isWithin wsX6_isWithin) := goodIn_app (goodIn_of _ (by decide +kernel)) ggX6_favoursOf_X6_isWithin
set_option maxRecDepth 20000 in
theorem ggX6_favoursOf_X6_refuseIf : GoodIn wsX6_favoursOf wsX6_refuseIf := goodIn_ca (goodIn_ca (goodIn_ca (goodIn_r _ [9, 10, 11, 12, 13, 14, 15] (by decide +kernel) (by decide +kernel)) (goodIn_sub (fun _ h => List.mem_cons_of_mem _ (List.mem_append_left _ (List.mem_append_left _ (List.mem_append_right _ h)))) (by decide +kernel))) (goodIn_sub (fun _ h => List.mem_cons_of_mem _ (List.mem_append_left _ (List.mem_append_right _ h))) (by decide +kernel))) (goodIn_sub (fun _ h => List.mem_cons_of_mem _ (List.mem_append_right _ h)) (by decide +kernel))
set_option maxRecDepth 20000 in
theorem gX6_favoursOf_X6_refuseIf : GoodIn wsX6_favoursOf (va_wsS RX6 52 yX6_refuseIf wsX6_refuseIf) := goodIn_app (goodIn_of _ (by decide +kernel)) ggX6_favoursOf_X6_refuseIf
theorem dX6_favoursOf_0 : decode cX6_favoursOf 0 = .ok (.iload_n 1, 1) := by decide +kernel
theorem dX6_favoursOf_1 : decode cX6_favoursOf 1 = .ok (.iconst 0, 1) := by decide +kernel
theorem dX6_favoursOf_2 : decode cX6_favoursOf 2 = .ok (.iconst 4, 1) := by decide +kernel
theorem dX6_favoursOf_3 : decode cX6_favoursOf 3 = .ok (.invokestatic 181, 3) := by decide +kernel
theorem dX6_favoursOf_6 : decode cX6_favoursOf 6 = .ok (.ifCond .eq 7, 3) := by decide +kernel
theorem dX6_favoursOf_9 : decode cX6_favoursOf 9 = .ok (.iconst 0, 1) := by decide +kernel
theorem dX6_favoursOf_10 : decode cX6_favoursOf 10 = .ok (.goto 4, 3) := by decide +kernel
theorem dX6_favoursOf_13 : decode cX6_favoursOf 13 = .ok (.iconst 1, 1) := by decide +kernel
theorem dX6_favoursOf_14 : decode cX6_favoursOf 14 = .ok (.invokestatic 52, 3) := by decide +kernel
theorem dX6_favoursOf_17 : decode cX6_favoursOf 17 = .ok (.aload_n 0, 1) := by decide +kernel
theorem dX6_favoursOf_18 : decode cX6_favoursOf 18 = .ok (.getfield 10, 3) := by decide +kernel
theorem dX6_favoursOf_21 : decode cX6_favoursOf 21 = .ok (.getfield 263, 3) := by decide +kernel
theorem dX6_favoursOf_24 : decode cX6_favoursOf 24 = .ok (.iload_n 1, 1) := by decide +kernel
theorem dX6_favoursOf_25 : decode cX6_favoursOf 25 = .ok (.iaload, 1) := by decide +kernel
theorem dX6_favoursOf_26 : decode cX6_favoursOf 26 = .ok (.ireturn, 1) := by decide +kernel
theorem dX6_purse_0 : decode cX6_purse 0 = .ok (.aload_n 0, 1) := by decide +kernel
theorem dX6_purse_1 : decode cX6_purse 1 = .ok (.getfield 10, 3) := by decide +kernel
theorem dX6_purse_4 : decode cX6_purse 4 = .ok (.getfield 266, 3) := by decide +kernel
theorem dX6_purse_7 : decode cX6_purse 7 = .ok (.ireturn, 1) := by decide +kernel
theorem dX6_purseByAccounts_0 : decode cX6_purseByAccounts 0 = .ok (.bipush 50, 2) := by decide +kernel
theorem dX6_purseByAccounts_2 : decode cX6_purseByAccounts 2 = .ok (.aload_n 0, 1) := by decide +kernel
theorem dX6_purseByAccounts_3 : decode cX6_purseByAccounts 3 = .ok (.getfield 10, 3) := by decide +kernel
theorem dX6_purseByAccounts_6 : decode cX6_purseByAccounts 6 = .ok (.getfield 269, 3) := by decide +kernel
theorem dX6_purseByAccounts_9 : decode cX6_purseByAccounts 9 = .ok (.iadd, 1) := by decide +kernel
theorem dX6_purseByAccounts_10 : decode cX6_purseByAccounts 10 = .ok (.aload_n 0, 1) := by decide +kernel
theorem dX6_purseByAccounts_11 : decode cX6_purseByAccounts 11 = .ok (.getfield 10, 3) := by decide +kernel
theorem dX6_purseByAccounts_14 : decode cX6_purseByAccounts 14 = .ok (.getfield 272, 3) := by decide +kernel
theorem dX6_purseByAccounts_17 : decode cX6_purseByAccounts 17 = .ok (.iadd, 1) := by decide +kernel
theorem dX6_purseByAccounts_18 : decode cX6_purseByAccounts 18 = .ok (.aload_n 0, 1) := by decide +kernel
theorem dX6_purseByAccounts_19 : decode cX6_purseByAccounts 19 = .ok (.getfield 10, 3) := by decide +kernel
theorem dX6_purseByAccounts_22 : decode cX6_purseByAccounts 22 = .ok (.getfield 275, 3) := by decide +kernel
theorem dX6_purseByAccounts_25 : decode cX6_purseByAccounts 25 = .ok (.isub, 1) := by decide +kernel
theorem dX6_purseByAccounts_26 : decode cX6_purseByAccounts 26 = .ok (.aload_n 0, 1) := by decide +kernel
theorem dX6_purseByAccounts_27 : decode cX6_purseByAccounts 27 = .ok (.getfield 10, 3) := by decide +kernel
theorem dX6_purseByAccounts_30 : decode cX6_purseByAccounts 30 = .ok (.getfield 278, 3) := by decide +kernel
theorem dX6_purseByAccounts_33 : decode cX6_purseByAccounts 33 = .ok (.isub, 1) := by decide +kernel
theorem dX6_purseByAccounts_34 : decode cX6_purseByAccounts 34 = .ok (.ireturn, 1) := by decide +kernel
theorem dX6_collected_0 : decode cX6_collected 0 = .ok (.aload_n 0, 1) := by decide +kernel
theorem dX6_collected_1 : decode cX6_collected 1 = .ok (.getfield 10, 3) := by decide +kernel
theorem dX6_collected_4 : decode cX6_collected 4 = .ok (.getfield 269, 3) := by decide +kernel
theorem dX6_collected_7 : decode cX6_collected 7 = .ok (.ireturn, 1) := by decide +kernel
theorem dX6_fees_0 : decode cX6_fees 0 = .ok (.aload_n 0, 1) := by decide +kernel
theorem dX6_fees_1 : decode cX6_fees 1 = .ok (.getfield 10, 3) := by decide +kernel
theorem dX6_fees_4 : decode cX6_fees 4 = .ok (.getfield 275, 3) := by decide +kernel
theorem dX6_fees_7 : decode cX6_fees 7 = .ok (.ireturn, 1) := by decide +kernel
theorem dX6_fines_0 : decode cX6_fines 0 = .ok (.aload_n 0, 1) := by decide +kernel
theorem dX6_fines_1 : decode cX6_fines 1 = .ok (.getfield 10, 3) := by decide +kernel
theorem dX6_fines_4 : decode cX6_fines 4 = .ok (.getfield 278, 3) := by decide +kernel
theorem dX6_fines_7 : decode cX6_fines 7 = .ok (.ireturn, 1) := by decide +kernel
theorem dX6_day_0 : decode cX6_day 0 = .ok (.aload_n 0, 1) := by decide +kernel
theorem dX6_day_1 : decode cX6_day 1 = .ok (.getfield 10, 3) := by decide +kernel
theorem dX6_day_4 : decode cX6_day 4 = .ok (.getfield 134, 3) := by decide +kernel
theorem dX6_day_7 : decode cX6_day 7 = .ok (.ireturn, 1) := by decide +kernel
theorem dX6_recordedStates_0 : decode cX6_recordedStates 0 = .ok (.aload_n 0, 1) := by decide +kernel
theorem dX6_recordedStates_1 : decode cX6_recordedStates 1 = .ok (.getfield 30, 3) := by decide +kernel
theorem dX6_recordedStates_4 : decode cX6_recordedStates 4 = .ok (.ireturn, 1) := by decide +kernel
theorem dX6_refuseIf_0 : decode cX6_refuseIf 0 = .ok (.iload_n 0, 1) := by decide +kernel
theorem dX6_refuseIf_1 : decode cX6_refuseIf 1 = .ok (.iconst 1, 1) := by decide +kernel
theorem dX6_refuseIf_2 : decode cX6_refuseIf 2 = .ok (.if_icmp .ne 14, 3) := by decide +kernel
theorem dX6_refuseIf_5 : decode cX6_refuseIf 5 = .ok (.new 281, 3) := by decide +kernel
theorem dX6_refuseIf_8 : decode cX6_refuseIf 8 = .ok (.dup, 1) := by decide +kernel
theorem dX6_refuseIf_9 : decode cX6_refuseIf 9 = .ok (.ldc_w 283, 3) := by decide +kernel
theorem dX6_refuseIf_12 : decode cX6_refuseIf 12 = .ok (.invokespecial 285, 3) := by decide +kernel
theorem dX6_refuseIf_15 : decode cX6_refuseIf 15 = .ok (.athrow, 1) := by decide +kernel
theorem dX6_refuseIf_16 : decode cX6_refuseIf 16 = .ok (.iload_n 0, 1) := by decide +kernel
theorem dX6_refuseIf_17 : decode cX6_refuseIf 17 = .ok (.iconst 2, 1) := by decide +kernel
theorem dX6_refuseIf_18 : decode cX6_refuseIf 18 = .ok (.if_icmp .ne 14, 3) := by decide +kernel
theorem dX6_refuseIf_21 : decode cX6_refuseIf 21 = .ok (.new 288, 3) := by decide +kernel
theorem dX6_refuseIf_24 : decode cX6_refuseIf 24 = .ok (.dup, 1) := by decide +kernel
theorem dX6_refuseIf_25 : decode cX6_refuseIf 25 = .ok (.ldc_w 290, 3) := by decide +kernel
theorem dX6_refuseIf_28 : decode cX6_refuseIf 28 = .ok (.invokespecial 292, 3) := by decide +kernel
theorem dX6_refuseIf_31 : decode cX6_refuseIf 31 = .ok (.athrow, 1) := by decide +kernel
theorem dX6_refuseIf_32 : decode cX6_refuseIf 32 = .ok (.iload_n 0, 1) := by decide +kernel
theorem dX6_refuseIf_33 : decode cX6_refuseIf 33 = .ok (.iconst 3, 1) := by decide +kernel
theorem dX6_refuseIf_34 : decode cX6_refuseIf 34 = .ok (.if_icmp .ne 14, 3) := by decide +kernel
theorem dX6_refuseIf_37 : decode cX6_refuseIf 37 = .ok (.new 293, 3) := by decide +kernel
theorem dX6_refuseIf_40 : decode cX6_refuseIf 40 = .ok (.dup, 1) := by decide +kernel
theorem dX6_refuseIf_41 : decode cX6_refuseIf 41 = .ok (.ldc_w 295, 3) := by decide +kernel
theorem dX6_refuseIf_44 : decode cX6_refuseIf 44 = .ok (.invokespecial 297, 3) := by decide +kernel
theorem dX6_refuseIf_47 : decode cX6_refuseIf 47 = .ok (.athrow, 1) := by decide +kernel
theorem dX6_refuseIf_48 : decode cX6_refuseIf 48 = .ok (.return_, 1) := by decide +kernel
set_option maxRecDepth 20000 in
theorem ggX6_requireSinger_X5_has : GoodIn wsX6_requireSinger wsX5_has := goodIn_r _ [7, 8, 37, 38, 39, 40, 41, 42, 43, 44, 45, 46, 47, 48] (by decide +kernel) (by decide +kernel)
set_option maxRecDepth 20000 in
theorem gX6_requireSinger_X5_has : GoodIn wsX6_requireSinger (wsV RX6 298 RX5 yX5_has wsX5_has) := goodIn_app (goodIn_of _ (by decide +kernel)) ggX6_requireSinger_X5_has
set_option maxRecDepth 20000 in
theorem ggX6_requireSinger_X6_refuseIf : GoodIn wsX6_requireSinger wsX6_refuseIf := goodIn_ca (goodIn_ca (goodIn_ca (goodIn_r _ [12, 13, 14, 15, 16, 17, 18] (by decide +kernel) (by decide +kernel)) (goodIn_sub (fun _ h => List.mem_cons_of_mem _ (List.mem_append_left _ (List.mem_append_left _ (List.mem_append_right _ h)))) (by decide +kernel))) (goodIn_sub (fun _ h => List.mem_cons_of_mem _ (List.mem_append_left _ (List.mem_append_right _ h))) (by decide +kernel))) (goodIn_sub (fun _ h => List.mem_cons_of_mem _ (List.mem_append_right _ h)) (by decide +kernel))
set_option maxRecDepth 20000 in
theorem gX6_requireSinger_X6_refuseIf : GoodIn wsX6_requireSinger (va_wsS RX6 52 yX6_refuseIf wsX6_refuseIf) := goodIn_app (goodIn_of _ (by decide +kernel)) ggX6_requireSinger_X6_refuseIf
theorem dX6_requireSinger_0 : decode cX6_requireSinger 0 = .ok (.aload_n 0, 1) := by decide +kernel
theorem dX6_requireSinger_1 : decode cX6_requireSinger 1 = .ok (.getfield 10, 3) := by decide +kernel
theorem dX6_requireSinger_4 : decode cX6_requireSinger 4 = .ok (.getfield 137, 3) := by decide +kernel
theorem dX6_requireSinger_7 : decode cX6_requireSinger 7 = .ok (.iload_n 1, 1) := by decide +kernel
theorem dX6_requireSinger_8 : decode cX6_requireSinger 8 = .ok (.invokevirtual 298, 3) := by decide +kernel
theorem dX6_requireSinger_11 : decode cX6_requireSinger 11 = .ok (.ifCond .eq 7, 3) := by decide +kernel
theorem dX6_requireSinger_14 : decode cX6_requireSinger 14 = .ok (.iconst 0, 1) := by decide +kernel
theorem dX6_requireSinger_15 : decode cX6_requireSinger 15 = .ok (.goto 4, 3) := by decide +kernel
theorem dX6_requireSinger_18 : decode cX6_requireSinger 18 = .ok (.iconst 1, 1) := by decide +kernel
theorem dX6_requireSinger_19 : decode cX6_requireSinger 19 = .ok (.invokestatic 52, 3) := by decide +kernel
theorem dX6_requireSinger_22 : decode cX6_requireSinger 22 = .ok (.return_, 1) := by decide +kernel
set_option maxRecDepth 20000 in
theorem ggX6_requireFeast_X1_has : GoodIn wsX6_requireFeast wsX1_has := goodIn_r _ [7, 8, 37, 38, 39, 40, 41, 42, 43, 44] (by decide +kernel) (by decide +kernel)
set_option maxRecDepth 20000 in
theorem gX6_requireFeast_X1_has : GoodIn wsX6_requireFeast (wsV RX6 301 RX1 yX1_has wsX1_has) := goodIn_app (goodIn_of _ (by decide +kernel)) ggX6_requireFeast_X1_has
set_option maxRecDepth 20000 in
theorem ggX6_requireFeast_X6_refuseIf : GoodIn wsX6_requireFeast wsX6_refuseIf := goodIn_ca (goodIn_ca (goodIn_ca (goodIn_r _ [12, 13, 14, 15, 16, 17, 18] (by decide +kernel) (by decide +kernel)) (goodIn_sub (fun _ h => List.mem_cons_of_mem _ (List.mem_append_left _ (List.mem_append_left _ (List.mem_append_right _ h)))) (by decide +kernel))) (goodIn_sub (fun _ h => List.mem_cons_of_mem _ (List.mem_append_left _ (List.mem_append_right _ h))) (by decide +kernel))) (goodIn_sub (fun _ h => List.mem_cons_of_mem _ (List.mem_append_right _ h)) (by decide +kernel))
set_option maxRecDepth 20000 in
theorem gX6_requireFeast_X6_refuseIf : GoodIn wsX6_requireFeast (va_wsS RX6 52 yX6_refuseIf wsX6_refuseIf) := goodIn_app (goodIn_of _ (by decide +kernel)) ggX6_requireFeast_X6_refuseIf
theorem dX6_requireFeast_0 : decode cX6_requireFeast 0 = .ok (.aload_n 0, 1) := by decide +kernel
theorem dX6_requireFeast_1 : decode cX6_requireFeast 1 = .ok (.getfield 10, 3) := by decide +kernel
theorem dX6_requireFeast_4 : decode cX6_requireFeast 4 = .ok (.getfield 200, 3) := by decide +kernel
theorem dX6_requireFeast_7 : decode cX6_requireFeast 7 = .ok (.iload_n 1, 1) := by decide +kernel
theorem dX6_requireFeast_8 : decode cX6_requireFeast 8 = .ok (.invokevirtual 301, 3) := by decide +kernel
theorem dX6_requireFeast_11 : decode cX6_requireFeast 11 = .ok (.ifCond .eq 7, 3) := by decide +kernel
theorem dX6_requireFeast_14 : decode cX6_requireFeast 14 = .ok (.iconst 0, 1) := by decide +kernel
theorem dX6_requireFeast_15 : decode cX6_requireFeast 15 = .ok (.goto 4, 3) := by decide +kernel
theorem dX6_requireFeast_18 : decode cX6_requireFeast 18 = .ok (.iconst 1, 1) := by decide +kernel
theorem dX6_requireFeast_19 : decode cX6_requireFeast 19 = .ok (.invokestatic 52, 3) := by decide +kernel
theorem dX6_requireFeast_22 : decode cX6_requireFeast 22 = .ok (.return_, 1) := by decide +kernel
set_option maxRecDepth 20000 in
theorem ggX6_requireLine_X6_isLine : GoodIn wsX6_requireLine wsX6_isLine := goodIn_r _ [4, 5, 6, 3, 7] (by decide +kernel) (by decide +kernel)
set_option maxRecDepth 20000 in
theorem gX6_requireLine_X6_isLine : GoodIn wsX6_requireLine (va_wsS RX6 302 yX6_isLine wsX6_isLine) := goodIn_app (goodIn_of _ (by decide +kernel)) ggX6_requireLine_X6_isLine
set_option maxRecDepth 20000 in
theorem ggX6_requireLine_X6_refuseIf : GoodIn wsX6_requireLine wsX6_refuseIf := goodIn_ca (goodIn_ca (goodIn_ca (goodIn_r _ [10, 11, 12, 13, 14, 15, 16] (by decide +kernel) (by decide +kernel)) (goodIn_sub (fun _ h => List.mem_cons_of_mem _ (List.mem_append_left _ (List.mem_append_left _ (List.mem_append_right _ h)))) (by decide +kernel))) (goodIn_sub (fun _ h => List.mem_cons_of_mem _ (List.mem_append_left _ (List.mem_append_right _ h))) (by decide +kernel))) (goodIn_sub (fun _ h => List.mem_cons_of_mem _ (List.mem_append_right _ h)) (by decide +kernel))
set_option maxRecDepth 20000 in
theorem gX6_requireLine_X6_refuseIf : GoodIn wsX6_requireLine (va_wsS RX6 52 yX6_refuseIf wsX6_refuseIf) := goodIn_app (goodIn_of _ (by decide +kernel)) ggX6_requireLine_X6_refuseIf
theorem dX6_requireLine_0 : decode cX6_requireLine 0 = .ok (.iload_n 0, 1) := by decide +kernel
theorem dX6_requireLine_1 : decode cX6_requireLine 1 = .ok (.invokestatic 302, 3) := by decide +kernel
theorem dX6_requireLine_4 : decode cX6_requireLine 4 = .ok (.ifCond .eq 7, 3) := by decide +kernel
theorem dX6_requireLine_7 : decode cX6_requireLine 7 = .ok (.iconst 0, 1) := by decide +kernel
theorem dX6_requireLine_8 : decode cX6_requireLine 8 = .ok (.goto 4, 3) := by decide +kernel
theorem dX6_requireLine_11 : decode cX6_requireLine 11 = .ok (.iconst 1, 1) := by decide +kernel
theorem dX6_requireLine_12 : decode cX6_requireLine 12 = .ok (.invokestatic 52, 3) := by decide +kernel
theorem dX6_requireLine_15 : decode cX6_requireLine 15 = .ok (.return_, 1) := by decide +kernel
theorem dX6_isWithin_0 : decode cX6_isWithin 0 = .ok (.iload_n 0, 1) := by decide +kernel
theorem dX6_isWithin_1 : decode cX6_isWithin 1 = .ok (.iload_n 1, 1) := by decide +kernel
theorem dX6_isWithin_2 : decode cX6_isWithin 2 = .ok (.if_icmp .lt 12, 3) := by decide +kernel
theorem dX6_isWithin_5 : decode cX6_isWithin 5 = .ok (.iload_n 0, 1) := by decide +kernel
theorem dX6_isWithin_6 : decode cX6_isWithin 6 = .ok (.iload_n 2, 1) := by decide +kernel
theorem dX6_isWithin_7 : decode cX6_isWithin 7 = .ok (.if_icmp .gt 7, 3) := by decide +kernel
theorem dX6_isWithin_10 : decode cX6_isWithin 10 = .ok (.iconst 1, 1) := by decide +kernel
theorem dX6_isWithin_11 : decode cX6_isWithin 11 = .ok (.goto 4, 3) := by decide +kernel
theorem dX6_isWithin_14 : decode cX6_isWithin 14 = .ok (.iconst 0, 1) := by decide +kernel
theorem dX6_isWithin_15 : decode cX6_isWithin 15 = .ok (.ireturn, 1) := by decide +kernel
set_option maxRecDepth 20000 in
theorem ggX6_isLine_X6_isWithin : GoodIn wsX6_isLine wsX6_isWithin := goodIn_r _ [4] (by decide +kernel) (by decide +kernel)
set_option maxRecDepth 20000 in
theorem gX6_isLine_X6_isWithin : GoodIn wsX6_isLine (va_wsS RX6 181 yX6_isWithin wsX6_isWithin) := goodIn_app (goodIn_of _ (by decide +kernel)) ggX6_isLine_X6_isWithin
theorem dX6_isLine_0 : decode cX6_isLine 0 = .ok (.iload_n 0, 1) := by decide +kernel
theorem dX6_isLine_1 : decode cX6_isLine 1 = .ok (.iconst 0, 1) := by decide +kernel
theorem dX6_isLine_2 : decode cX6_isLine 2 = .ok (.iconst 3, 1) := by decide +kernel
theorem dX6_isLine_3 : decode cX6_isLine 3 = .ok (.invokestatic 181, 3) := by decide +kernel
theorem dX6_isLine_6 : decode cX6_isLine 6 = .ok (.ireturn, 1) := by decide +kernel
set_option maxRecDepth 20000 in
theorem ggX6_isHeightAndRange_X6_isWithin : GoodIn wsX6_isHeightAndRange wsX6_isWithin := goodIn_r _ [4] (by decide +kernel) (by decide +kernel)
set_option maxRecDepth 20000 in
theorem gX6_isHeightAndRange_X6_isWithin : GoodIn wsX6_isHeightAndRange (va_wsS RX6 181 yX6_isWithin wsX6_isWithin) := goodIn_app (goodIn_of _ (by decide +kernel)) ggX6_isHeightAndRange_X6_isWithin
set_option maxRecDepth 20000 in
theorem ggX6_isHeightAndRange_X6_isRange : GoodIn wsX6_isHeightAndRange wsX6_isRange := goodIn_r _ [7, 1, 2, 3, 4] (by decide +kernel) (by decide +kernel)
set_option maxRecDepth 20000 in
theorem gX6_isHeightAndRange_X6_isRange : GoodIn wsX6_isHeightAndRange (va_wsS RX6 305 yX6_isRange wsX6_isRange) := goodIn_app (goodIn_of _ (by decide +kernel)) ggX6_isHeightAndRange_X6_isRange
theorem dX6_isHeightAndRange_0 : decode cX6_isHeightAndRange 0 = .ok (.iload_n 0, 1) := by decide +kernel
theorem dX6_isHeightAndRange_1 : decode cX6_isHeightAndRange 1 = .ok (.bipush 90, 2) := by decide +kernel
theorem dX6_isHeightAndRange_3 : decode cX6_isHeightAndRange 3 = .ok (.sipush 210, 3) := by decide +kernel
theorem dX6_isHeightAndRange_6 : decode cX6_isHeightAndRange 6 = .ok (.invokestatic 181, 3) := by decide +kernel
theorem dX6_isHeightAndRange_9 : decode cX6_isHeightAndRange 9 = .ok (.ifCond .eq 15, 3) := by decide +kernel
theorem dX6_isHeightAndRange_12 : decode cX6_isHeightAndRange 12 = .ok (.iload_n 1, 1) := by decide +kernel
theorem dX6_isHeightAndRange_13 : decode cX6_isHeightAndRange 13 = .ok (.iload_n 2, 1) := by decide +kernel
theorem dX6_isHeightAndRange_14 : decode cX6_isHeightAndRange 14 = .ok (.invokestatic 305, 3) := by decide +kernel
theorem dX6_isHeightAndRange_17 : decode cX6_isHeightAndRange 17 = .ok (.ifCond .eq 7, 3) := by decide +kernel
theorem dX6_isHeightAndRange_20 : decode cX6_isHeightAndRange 20 = .ok (.iconst 1, 1) := by decide +kernel
theorem dX6_isHeightAndRange_21 : decode cX6_isHeightAndRange 21 = .ok (.goto 4, 3) := by decide +kernel
theorem dX6_isHeightAndRange_24 : decode cX6_isHeightAndRange 24 = .ok (.iconst 0, 1) := by decide +kernel
theorem dX6_isHeightAndRange_25 : decode cX6_isHeightAndRange 25 = .ok (.ireturn, 1) := by decide +kernel
set_option maxRecDepth 20000 in
theorem ggX6_isRange_X6_isWithin : GoodIn wsX6_isRange wsX6_isWithin := goodIn_r _ [4] (by decide +kernel) (by decide +kernel)
set_option maxRecDepth 20000 in
theorem gX6_isRange_X6_isWithin : GoodIn wsX6_isRange (va_wsS RX6 181 yX6_isWithin wsX6_isWithin) := goodIn_app (goodIn_of _ (by decide +kernel)) ggX6_isRange_X6_isWithin
theorem dX6_isRange_0 : decode cX6_isRange 0 = .ok (.iload_n 0, 1) := by decide +kernel
theorem dX6_isRange_1 : decode cX6_isRange 1 = .ok (.iconst 0, 1) := by decide +kernel
theorem dX6_isRange_2 : decode cX6_isRange 2 = .ok (.bipush 48, 2) := by decide +kernel
theorem dX6_isRange_4 : decode cX6_isRange 4 = .ok (.invokestatic 181, 3) := by decide +kernel
theorem dX6_isRange_7 : decode cX6_isRange 7 = .ok (.ifCond .eq 17, 3) := by decide +kernel
theorem dX6_isRange_10 : decode cX6_isRange 10 = .ok (.iload_n 1, 1) := by decide +kernel
theorem dX6_isRange_11 : decode cX6_isRange 11 = .ok (.iload_n 0, 1) := by decide +kernel
theorem dX6_isRange_12 : decode cX6_isRange 12 = .ok (.bipush 48, 2) := by decide +kernel
theorem dX6_isRange_14 : decode cX6_isRange 14 = .ok (.invokestatic 181, 3) := by decide +kernel
theorem dX6_isRange_17 : decode cX6_isRange 17 = .ok (.ifCond .eq 7, 3) := by decide +kernel
theorem dX6_isRange_20 : decode cX6_isRange 20 = .ok (.iconst 1, 1) := by decide +kernel
theorem dX6_isRange_21 : decode cX6_isRange 21 = .ok (.goto 4, 3) := by decide +kernel
theorem dX6_isRange_24 : decode cX6_isRange 24 = .ok (.iconst 0, 1) := by decide +kernel
theorem dX6_isRange_25 : decode cX6_isRange 25 = .ok (.ireturn, 1) := by decide +kernel
set_option maxRecDepth 20000 in
theorem ggX6_keepState_X6_forgetOldestState : GoodIn wsX6_keepState wsX6_forgetOldestState := goodIn_r _ [8, 2, 1, 70, 71, 72, 73, 74, 75, 76, 77] (by decide +kernel) (by decide +kernel)
set_option maxRecDepth 20000 in
theorem gX6_keepState_X6_forgetOldestState : GoodIn wsX6_keepState (wsV RX6 308 RX6 yX6_forgetOldestState wsX6_forgetOldestState) := goodIn_app (goodIn_of _ (by decide +kernel)) ggX6_keepState_X6_forgetOldestState
set_option maxRecDepth 20000 in
theorem ggX6_keepState_X0_copyFrom_q1 : GoodIn wsX6_keepState ([Cond.code yX0_copyFrom cX0_copyFrom 2 none]) := goodIn_r _ [13] (by decide +kernel) (by decide +kernel)
set_option maxRecDepth 20000 in
theorem ggX6_keepState_X0_copyFrom_q2 : GoodIn wsX6_keepState (wsX0_copyFrom_r1) := goodIn_r _ [14, 15, 16, 17, 18, 19, 20, 21, 22, 23, 24, 25, 26, 27, 28, 29, 30, 31, 32, 33, 34, 35, 36, 37] (by decide +kernel) (by decide +kernel)
set_option maxRecDepth 20000 in
theorem ggX6_keepState_X0_copyFrom_q3 : GoodIn wsX6_keepState (wsX0_copyFrom_r2) := goodIn_r _ [38, 39, 40, 41, 42, 43, 44, 45, 46, 47, 48, 49, 50, 51, 52, 53, 54, 55, 56, 57, 58, 59, 60, 61] (by decide +kernel) (by decide +kernel)
set_option maxRecDepth 20000 in
theorem ggX6_keepState_X0_copyFrom_q4 : GoodIn wsX6_keepState (wsX0_copyFrom_r3) := goodIn_r _ [62, 63, 64, 65, 66, 67, 68, 69] (by decide +kernel) (by decide +kernel)
set_option maxRecDepth 20000 in
theorem ggX6_keepState_X0_copyFrom_q5 : GoodIn wsX6_keepState (wsX00) := goodIn_r _ [78, 79, 80, 81, 82, 83, 84, 85, 86, 87] (by decide +kernel) (by decide +kernel)
set_option maxRecDepth 20000 in
theorem ggX6_keepState_X0_copyFrom_q6 : GoodIn wsX6_keepState (wsX50) := goodIn_r _ [88, 89, 90, 91, 92, 93, 94, 95, 96, 97, 98, 99] (by decide +kernel) (by decide +kernel)
set_option maxRecDepth 20000 in
theorem ggX6_keepState_X0_copyFrom_q7 : GoodIn wsX6_keepState (wsX40) := goodIn_r _ [100, 101, 102, 103] (by decide +kernel) (by decide +kernel)
set_option maxRecDepth 20000 in
theorem ggX6_keepState_X0_copyFrom_q8 : GoodIn wsX6_keepState (wsX10) := goodIn_r _ [104, 105, 106, 107, 108, 109, 110, 111] (by decide +kernel) (by decide +kernel)
theorem ggX6_keepState_X0_copyFrom : GoodIn wsX6_keepState wsX0_copyFrom := (goodIn_app (a := [Cond.code yX0_copyFrom cX0_copyFrom 2 none]) ggX6_keepState_X0_copyFrom_q1 (goodIn_app (goodIn_app (goodIn_app (goodIn_app (goodIn_app ggX6_keepState_X0_copyFrom_q2 (goodIn_app ggX6_keepState_X0_copyFrom_q3 ggX6_keepState_X0_copyFrom_q4)) ggX6_keepState_X0_copyFrom_q5) ggX6_keepState_X0_copyFrom_q6) ggX6_keepState_X0_copyFrom_q7) ggX6_keepState_X0_copyFrom_q8))
set_option maxRecDepth 20000 in
theorem gX6_keepState_X0_copyFrom : GoodIn wsX6_keepState (wsV RX6 127 RX0 yX0_copyFrom wsX0_copyFrom) := goodIn_app (goodIn_of _ (by decide +kernel)) ggX6_keepState_X0_copyFrom
theorem dX6_keepState_0 : decode cX6_keepState 0 = .ok (.aload_n 0, 1) := by decide +kernel
theorem dX6_keepState_1 : decode cX6_keepState 1 = .ok (.getfield 30, 3) := by decide +kernel
theorem dX6_keepState_4 : decode cX6_keepState 4 = .ok (.iconst 4, 1) := by decide +kernel
theorem dX6_keepState_5 : decode cX6_keepState 5 = .ok (.if_icmp .lt 7, 3) := by decide +kernel
theorem dX6_keepState_8 : decode cX6_keepState 8 = .ok (.aload_n 0, 1) := by decide +kernel
theorem dX6_keepState_9 : decode cX6_keepState 9 = .ok (.invokevirtual 308, 3) := by decide +kernel
theorem dX6_keepState_12 : decode cX6_keepState 12 = .ok (.aload_n 0, 1) := by decide +kernel
theorem dX6_keepState_13 : decode cX6_keepState 13 = .ok (.getfield 26, 3) := by decide +kernel
theorem dX6_keepState_16 : decode cX6_keepState 16 = .ok (.aload_n 0, 1) := by decide +kernel
theorem dX6_keepState_17 : decode cX6_keepState 17 = .ok (.getfield 30, 3) := by decide +kernel
theorem dX6_keepState_20 : decode cX6_keepState 20 = .ok (.aaload, 1) := by decide +kernel
theorem dX6_keepState_21 : decode cX6_keepState 21 = .ok (.aload_n 0, 1) := by decide +kernel
theorem dX6_keepState_22 : decode cX6_keepState 22 = .ok (.getfield 10, 3) := by decide +kernel
theorem dX6_keepState_25 : decode cX6_keepState 25 = .ok (.invokevirtual 127, 3) := by decide +kernel
theorem dX6_keepState_28 : decode cX6_keepState 28 = .ok (.aload_n 0, 1) := by decide +kernel
theorem dX6_keepState_29 : decode cX6_keepState 29 = .ok (.dup, 1) := by decide +kernel
theorem dX6_keepState_30 : decode cX6_keepState 30 = .ok (.getfield 30, 3) := by decide +kernel
theorem dX6_keepState_33 : decode cX6_keepState 33 = .ok (.iconst 1, 1) := by decide +kernel
theorem dX6_keepState_34 : decode cX6_keepState 34 = .ok (.iadd, 1) := by decide +kernel
theorem dX6_keepState_35 : decode cX6_keepState 35 = .ok (.putfield 30, 3) := by decide +kernel
theorem dX6_keepState_38 : decode cX6_keepState 38 = .ok (.return_, 1) := by decide +kernel
theorem dX6_forgetOldestState_0 : decode cX6_forgetOldestState 0 = .ok (.aload_n 0, 1) := by decide +kernel
theorem dX6_forgetOldestState_1 : decode cX6_forgetOldestState 1 = .ok (.getfield 26, 3) := by decide +kernel
theorem dX6_forgetOldestState_4 : decode cX6_forgetOldestState 4 = .ok (.iconst 0, 1) := by decide +kernel
theorem dX6_forgetOldestState_5 : decode cX6_forgetOldestState 5 = .ok (.aaload, 1) := by decide +kernel
theorem dX6_forgetOldestState_6 : decode cX6_forgetOldestState 6 = .ok (.astore_n 1, 1) := by decide +kernel
theorem dX6_forgetOldestState_7 : decode cX6_forgetOldestState 7 = .ok (.iconst 1, 1) := by decide +kernel
theorem dX6_forgetOldestState_8 : decode cX6_forgetOldestState 8 = .ok (.istore_n 2, 1) := by decide +kernel
theorem dX6_forgetOldestState_9 : decode cX6_forgetOldestState 9 = .ok (.iload_n 2, 1) := by decide +kernel
theorem dX6_forgetOldestState_10 : decode cX6_forgetOldestState 10 = .ok (.iconst 4, 1) := by decide +kernel
theorem dX6_forgetOldestState_11 : decode cX6_forgetOldestState 11 = .ok (.if_icmp .ge 23, 3) := by decide +kernel
theorem dX6_forgetOldestState_14 : decode cX6_forgetOldestState 14 = .ok (.aload_n 0, 1) := by decide +kernel
theorem dX6_forgetOldestState_15 : decode cX6_forgetOldestState 15 = .ok (.getfield 26, 3) := by decide +kernel
theorem dX6_forgetOldestState_18 : decode cX6_forgetOldestState 18 = .ok (.iload_n 2, 1) := by decide +kernel
theorem dX6_forgetOldestState_19 : decode cX6_forgetOldestState 19 = .ok (.iconst 1, 1) := by decide +kernel
theorem dX6_forgetOldestState_20 : decode cX6_forgetOldestState 20 = .ok (.isub, 1) := by decide +kernel
theorem dX6_forgetOldestState_21 : decode cX6_forgetOldestState 21 = .ok (.aload_n 0, 1) := by decide +kernel
theorem dX6_forgetOldestState_22 : decode cX6_forgetOldestState 22 = .ok (.getfield 26, 3) := by decide +kernel
theorem dX6_forgetOldestState_25 : decode cX6_forgetOldestState 25 = .ok (.iload_n 2, 1) := by decide +kernel
theorem dX6_forgetOldestState_26 : decode cX6_forgetOldestState 26 = .ok (.aaload, 1) := by decide +kernel
theorem dX6_forgetOldestState_27 : decode cX6_forgetOldestState 27 = .ok (.aastore, 1) := by decide +kernel
theorem dX6_forgetOldestState_28 : decode cX6_forgetOldestState 28 = .ok (.iinc 2 1, 3) := by decide +kernel
theorem dX6_forgetOldestState_31 : decode cX6_forgetOldestState 31 = .ok (.goto (-22), 3) := by decide +kernel
theorem dX6_forgetOldestState_34 : decode cX6_forgetOldestState 34 = .ok (.aload_n 0, 1) := by decide +kernel
theorem dX6_forgetOldestState_35 : decode cX6_forgetOldestState 35 = .ok (.getfield 26, 3) := by decide +kernel
theorem dX6_forgetOldestState_38 : decode cX6_forgetOldestState 38 = .ok (.iconst 3, 1) := by decide +kernel
theorem dX6_forgetOldestState_39 : decode cX6_forgetOldestState 39 = .ok (.aload_n 1, 1) := by decide +kernel
theorem dX6_forgetOldestState_40 : decode cX6_forgetOldestState 40 = .ok (.aastore, 1) := by decide +kernel
theorem dX6_forgetOldestState_41 : decode cX6_forgetOldestState 41 = .ok (.aload_n 0, 1) := by decide +kernel
theorem dX6_forgetOldestState_42 : decode cX6_forgetOldestState 42 = .ok (.iconst 3, 1) := by decide +kernel
theorem dX6_forgetOldestState_43 : decode cX6_forgetOldestState 43 = .ok (.putfield 30, 3) := by decide +kernel
theorem dX6_forgetOldestState_46 : decode cX6_forgetOldestState 46 = .ok (.return_, 1) := by decide +kernel
set_option maxRecDepth 20000 in
theorem ggX6_tryOrders_X0_copyFrom_q1 : GoodIn wsX6_tryOrders ([Cond.code yX0_copyFrom cX0_copyFrom 2 none]) := goodIn_r _ [11] (by decide +kernel) (by decide +kernel)
set_option maxRecDepth 20000 in
theorem ggX6_tryOrders_X0_copyFrom_q2 : GoodIn wsX6_tryOrders (wsX0_copyFrom_r1) := goodIn_r _ [12, 13, 14, 15, 16, 17, 18, 19, 20, 21, 22, 23, 24, 25, 26, 27, 28, 29, 30, 31, 32, 33, 34, 35] (by decide +kernel) (by decide +kernel)
set_option maxRecDepth 20000 in
theorem ggX6_tryOrders_X0_copyFrom_q3 : GoodIn wsX6_tryOrders (wsX0_copyFrom_r2) := goodIn_r _ [36, 37, 38, 39, 40, 41, 42, 43, 44, 45, 46, 47, 48, 49, 50, 51, 52, 53, 54, 55, 56, 57, 58, 59] (by decide +kernel) (by decide +kernel)
set_option maxRecDepth 20000 in
theorem ggX6_tryOrders_X0_copyFrom_q4 : GoodIn wsX6_tryOrders (wsX0_copyFrom_r3) := goodIn_r _ [60, 61, 62, 63, 64, 65, 66, 67] (by decide +kernel) (by decide +kernel)
set_option maxRecDepth 20000 in
theorem ggX6_tryOrders_X0_copyFrom_q5 : GoodIn wsX6_tryOrders (wsX00) := goodIn_r _ [480, 481, 482, 483, 484, 485, 486, 487, 488, 489] (by decide +kernel) (by decide +kernel)
set_option maxRecDepth 20000 in
theorem ggX6_tryOrders_X0_copyFrom_q6 : GoodIn wsX6_tryOrders (wsX50) := goodIn_r _ [490, 491, 492, 493, 494, 495, 496, 497, 498, 499, 500, 501] (by decide +kernel) (by decide +kernel)
set_option maxRecDepth 20000 in
theorem ggX6_tryOrders_X0_copyFrom_q7 : GoodIn wsX6_tryOrders (wsX40) := goodIn_r _ [502, 503, 504, 505] (by decide +kernel) (by decide +kernel)
set_option maxRecDepth 20000 in
theorem ggX6_tryOrders_X0_copyFrom_q8 : GoodIn wsX6_tryOrders (wsX10) := goodIn_r _ [506, 507, 508, 509, 510, 511, 512, 513] (by decide +kernel) (by decide +kernel)
theorem ggX6_tryOrders_X0_copyFrom : GoodIn wsX6_tryOrders wsX0_copyFrom := (goodIn_app (a := [Cond.code yX0_copyFrom cX0_copyFrom 2 none]) ggX6_tryOrders_X0_copyFrom_q1 (goodIn_app (goodIn_app (goodIn_app (goodIn_app (goodIn_app ggX6_tryOrders_X0_copyFrom_q2 (goodIn_app ggX6_tryOrders_X0_copyFrom_q3 ggX6_tryOrders_X0_copyFrom_q4)) ggX6_tryOrders_X0_copyFrom_q5) ggX6_tryOrders_X0_copyFrom_q6) ggX6_tryOrders_X0_copyFrom_q7) ggX6_tryOrders_X0_copyFrom_q8))
set_option maxRecDepth 20000 in
theorem gX6_tryOrders_X0_copyFrom : GoodIn wsX6_tryOrders (wsV RX6 127 RX0 yX0_copyFrom wsX0_copyFrom) := goodIn_app (goodIn_of _ (by decide +kernel)) ggX6_tryOrders_X0_copyFrom
set_option maxRecDepth 20000 in
theorem ggX6_tryOrders_X2_goTo : GoodIn wsX6_tryOrders wsX2_goTo := goodIn_r _ [72, 73, 474, 475, 476, 477, 478, 479] (by decide +kernel) (by decide +kernel)
set_option maxRecDepth 20000 in
theorem gX6_tryOrders_X2_goTo : GoodIn wsX6_tryOrders (wsV RX6 311 RX2 yX2_goTo wsX2_goTo) := goodIn_app (goodIn_of _ (by decide +kernel)) ggX6_tryOrders_X2_goTo
set_option maxRecDepth 20000 in
theorem ggX6_tryOrders_X2_isAtEnd : GoodIn wsX6_tryOrders wsX2_isAtEnd := goodIn_r _ [77, 73, 78, 474, 475, 476, 477, 478, 479] (by decide +kernel) (by decide +kernel)
set_option maxRecDepth 20000 in
theorem gX6_tryOrders_X2_isAtEnd : GoodIn wsX6_tryOrders (wsV RX6 314 RX2 yX2_isAtEnd wsX2_isAtEnd) := goodIn_app (goodIn_of _ (by decide +kernel)) ggX6_tryOrders_X2_isAtEnd
set_option maxRecDepth 20000 in
theorem ggX6_tryOrders_X2_readOrder_q1 : GoodIn wsX6_tryOrders ([Cond.code yX2_readOrder cX2_readOrder 3 (some .boolean)]) := goodIn_r _ [82] (by decide +kernel) (by decide +kernel)
set_option maxRecDepth 20000 in
theorem ggX6_tryOrders_X2_readOrder_q2 : GoodIn wsX6_tryOrders (wsX2_readOrder_r1) := goodIn_r _ [83, 73, 84, 85, 86, 87, 75, 76, 71, 77, 78, 88, 89, 90, 91, 92, 93, 94, 95, 96, 97, 98, 99, 100] (by decide +kernel) (by decide +kernel)
set_option maxRecDepth 20000 in
theorem ggX6_tryOrders_X2_readOrder_q3 : GoodIn wsX6_tryOrders (wsX2_readOrder_r2) := goodIn_r _ [101, 102, 103, 104, 105, 106, 107, 108, 109, 110, 111, 112, 113, 114, 115, 116, 117, 118, 119, 120, 121, 122, 123, 124] (by decide +kernel) (by decide +kernel)
set_option maxRecDepth 20000 in
theorem ggX6_tryOrders_X2_readOrder_q4 : GoodIn wsX6_tryOrders (wsX2_readOrder_r3) := goodIn_r _ [125, 126, 127, 128, 129, 130, 131, 132, 133, 134, 135, 136, 137, 138, 139, 140, 141, 142, 143, 144, 145, 146, 147, 148] (by decide +kernel) (by decide +kernel)
set_option maxRecDepth 20000 in
theorem ggX6_tryOrders_X2_readOrder_q5 : GoodIn wsX6_tryOrders (wsX2_readOrder_r4) := goodIn_r _ [149, 150, 151, 152, 153, 154, 155, 156, 157, 158, 159, 160, 161, 162, 163, 164, 165, 166, 167, 168, 169, 170, 171, 172] (by decide +kernel) (by decide +kernel)
set_option maxRecDepth 20000 in
theorem ggX6_tryOrders_X2_readOrder_q6 : GoodIn wsX6_tryOrders (wsX2_readOrder_r5) := goodIn_r _ [173, 174, 175, 176, 177, 178, 179, 180, 181, 182, 183, 184, 185, 186, 187, 188, 189, 190, 191, 192, 193, 194, 195, 196] (by decide +kernel) (by decide +kernel)
set_option maxRecDepth 20000 in
theorem ggX6_tryOrders_X2_readOrder_q7 : GoodIn wsX6_tryOrders (wsX2_readOrder_r6) := goodIn_r _ [197, 198, 199, 200, 201, 202, 203, 204, 205, 206, 207, 208, 209, 210, 211, 212, 213, 214] (by decide +kernel) (by decide +kernel)
set_option maxRecDepth 20000 in
theorem ggX6_tryOrders_X2_readOrder_q8 : GoodIn wsX6_tryOrders (wsX20) := goodIn_r _ [474, 475, 476, 477, 478, 479] (by decide +kernel) (by decide +kernel)
theorem ggX6_tryOrders_X2_readOrder : GoodIn wsX6_tryOrders wsX2_readOrder := (goodIn_app (a := [Cond.code yX2_readOrder cX2_readOrder 3 (some .boolean)]) ggX6_tryOrders_X2_readOrder_q1 (goodIn_app (goodIn_app ggX6_tryOrders_X2_readOrder_q2 (goodIn_app ggX6_tryOrders_X2_readOrder_q3 (goodIn_app ggX6_tryOrders_X2_readOrder_q4 (goodIn_app ggX6_tryOrders_X2_readOrder_q5 (goodIn_app ggX6_tryOrders_X2_readOrder_q6 ggX6_tryOrders_X2_readOrder_q7))))) ggX6_tryOrders_X2_readOrder_q8))
set_option maxRecDepth 20000 in
theorem gX6_tryOrders_X2_readOrder : GoodIn wsX6_tryOrders (wsV RX6 317 RX2 yX2_readOrder wsX2_readOrder) := goodIn_app (goodIn_of _ (by decide +kernel)) ggX6_tryOrders_X2_readOrder
set_option maxRecDepth 20000 in
theorem ggX6_tryOrders_X6_refusalOf_q1 : GoodIn wsX6_tryOrders ([Cond.code yX6_refusalOf cX6_refusalOf 3 (some .int)]) := goodIn_r _ [218] (by decide +kernel) (by decide +kernel)
set_option maxRecDepth 20000 in
theorem ggX6_tryOrders_X6_refusalOf_q2 : GoodIn wsX6_tryOrders (wsX6_refusalOf_r1) := goodIn_r _ [1, 219, 220, 221, 10, 222, 13, 209, 210, 211, 223, 224, 225, 226, 227, 228, 229, 230, 231, 29, 232, 31, 233, 234] (by decide +kernel) (by decide +kernel)
set_option maxRecDepth 20000 in
theorem ggX6_tryOrders_X6_refusalOf_q3 : GoodIn wsX6_tryOrders (wsX6_refusalOf_r2) := goodIn_r _ [235, 236, 12, 15, 237, 238, 239, 57, 240, 59, 241, 242, 243, 244, 60, 245, 246, 247, 248, 249, 250, 251, 252, 253] (by decide +kernel) (by decide +kernel)
set_option maxRecDepth 20000 in
theorem ggX6_tryOrders_X6_refusalOf_q4 : GoodIn wsX6_tryOrders (wsX6_refusalOf_r3) := goodIn_r _ [254, 255, 256, 257, 258, 259, 260, 261, 262, 263, 14, 264, 265, 266, 267, 268, 269, 270, 47, 271, 49, 272, 273, 274] (by decide +kernel) (by decide +kernel)
set_option maxRecDepth 20000 in
theorem ggX6_tryOrders_X6_refusalOf_q5 : GoodIn wsX6_tryOrders (wsX6_refusalOf_r4) := goodIn_r _ [275, 50, 52, 53, 276, 277, 278, 279, 40, 280, 281, 282, 283, 284, 285, 286, 287, 288, 41, 289, 290, 291, 292, 293] (by decide +kernel) (by decide +kernel)
set_option maxRecDepth 20000 in
theorem ggX6_tryOrders_X6_refusalOf_q6 : GoodIn wsX6_tryOrders (wsX6_refusalOf_r5) := goodIn_r _ [294, 295, 296] (by decide +kernel) (by decide +kernel)
set_option maxRecDepth 20000 in
theorem ggX6_tryOrders_X6_refusalOf_q7 : GoodIn wsX6_tryOrders (wsX60) := goodIn_r _ [466, 467, 468, 469, 470, 471, 472, 473] (by decide +kernel) (by decide +kernel)
set_option maxRecDepth 20000 in
theorem ggX6_tryOrders_X6_refusalOf_q8 : GoodIn wsX6_tryOrders (wsX00) := goodIn_r _ [480, 481, 482, 483, 484, 485, 486, 487, 488, 489] (by decide +kernel) (by decide +kernel)
set_option maxRecDepth 20000 in
theorem ggX6_tryOrders_X6_refusalOf_q9 : GoodIn wsX6_tryOrders (wsX50) := goodIn_r _ [490, 491, 492, 493, 494, 495, 496, 497, 498, 499, 500, 501] (by decide +kernel) (by decide +kernel)
set_option maxRecDepth 20000 in
theorem ggX6_tryOrders_X6_refusalOf_q10 : GoodIn wsX6_tryOrders (wsX10) := goodIn_r _ [506, 507, 508, 509, 510, 511, 512, 513] (by decide +kernel) (by decide +kernel)
set_option maxRecDepth 20000 in
theorem ggX6_tryOrders_X6_refusalOf_q11 : GoodIn wsX6_tryOrders (wsX40) := goodIn_r _ [502, 503, 504, 505] (by decide +kernel) (by decide +kernel)
theorem ggX6_tryOrders_X6_refusalOf : GoodIn wsX6_tryOrders wsX6_refusalOf := (goodIn_app (a := [Cond.code yX6_refusalOf cX6_refusalOf 3 (some .int)]) ggX6_tryOrders_X6_refusalOf_q1 (goodIn_app (goodIn_app (goodIn_app (goodIn_app (goodIn_app (goodIn_app ggX6_tryOrders_X6_refusalOf_q2 (goodIn_app ggX6_tryOrders_X6_refusalOf_q3 (goodIn_app ggX6_tryOrders_X6_refusalOf_q4 (goodIn_app ggX6_tryOrders_X6_refusalOf_q5 ggX6_tryOrders_X6_refusalOf_q6)))) ggX6_tryOrders_X6_refusalOf_q7) ggX6_tryOrders_X6_refusalOf_q8) ggX6_tryOrders_X6_refusalOf_q9) ggX6_tryOrders_X6_refusalOf_q10) ggX6_tryOrders_X6_refusalOf_q11))
set_option maxRecDepth 20000 in
theorem gX6_tryOrders_X6_refusalOf : GoodIn wsX6_tryOrders (wsV RX6 326 RX6 yX6_refusalOf wsX6_refusalOf) := goodIn_app (goodIn_of _ (by decide +kernel)) ggX6_tryOrders_X6_refusalOf
set_option maxRecDepth 20000 in
theorem ggX6_tryOrders_X6_obey_q1 : GoodIn wsX6_tryOrders ([Cond.code yX6_obey cX6_obey 3 none]) := goodIn_r _ [300] (by decide +kernel) (by decide +kernel)
set_option maxRecDepth 20000 in
theorem ggX6_tryOrders_X6_obey_q2 : GoodIn wsX6_tryOrders (wsX6_obey_r1) := goodIn_r _ [1, 301, 302, 303, 304, 10, 305, 13, 12, 306, 307, 308, 309, 29, 310, 31, 32, 34, 35, 36, 37, 38, 39, 40] (by decide +kernel) (by decide +kernel)
set_option maxRecDepth 20000 in
theorem ggX6_tryOrders_X6_obey_q3 : GoodIn wsX6_tryOrders (wsX6_obey_r2) := goodIn_r _ [311, 41, 42, 43, 312, 313, 314, 315, 15, 316, 317, 318, 57, 319, 59, 60, 62, 64, 65, 66, 320, 321, 322, 323] (by decide +kernel) (by decide +kernel)
set_option maxRecDepth 20000 in
theorem ggX6_tryOrders_X6_obey_q4 : GoodIn wsX6_tryOrders (wsX6_obey_r3) := goodIn_r _ [324, 325, 326, 327, 328, 329, 330, 331, 332, 333, 334, 335, 336, 337, 338, 14, 339, 340, 341, 47, 342, 50, 49, 52] (by decide +kernel) (by decide +kernel)
set_option maxRecDepth 20000 in
theorem ggX6_tryOrders_X6_obey_q5 : GoodIn wsX6_tryOrders (wsX6_obey_r4) := goodIn_r _ [53, 343, 344, 345, 346, 347, 16, 22, 21, 348, 349, 350, 351, 352, 353, 354, 355, 356, 357, 277, 278, 279, 358, 359] (by decide +kernel) (by decide +kernel)
set_option maxRecDepth 20000 in
theorem ggX6_tryOrders_X6_obey_q6 : GoodIn wsX6_tryOrders (wsX6_obey_r5) := goodIn_r _ [360, 361, 259, 362, 363, 364, 365, 366, 367, 368, 369, 370, 371, 372, 373, 374, 375, 18, 19, 20, 376, 377, 378, 379] (by decide +kernel) (by decide +kernel)
set_option maxRecDepth 20000 in
theorem ggX6_tryOrders_X6_obey_q7 : GoodIn wsX6_tryOrders (wsX6_obey_r6) := goodIn_r _ [380, 381, 382, 383, 384, 385, 386, 387, 276, 285, 286, 287, 288, 272, 273, 274, 275, 388, 389, 390, 391, 392, 393, 394] (by decide +kernel) (by decide +kernel)
set_option maxRecDepth 20000 in
theorem ggX6_tryOrders_X6_obey_q8 : GoodIn wsX6_tryOrders (wsX6_obey_r7) := goodIn_r _ [395, 396, 397, 398, 399, 400, 401, 402, 403, 404, 405, 406, 407, 408, 409, 410, 411, 412, 413, 414, 415, 416, 417, 418] (by decide +kernel) (by decide +kernel)
set_option maxRecDepth 20000 in
theorem ggX6_tryOrders_X6_obey_q9 : GoodIn wsX6_tryOrders (wsX6_obey_r8) := goodIn_r _ [419, 420, 421, 422, 423, 424, 425, 426, 427, 428, 429, 430, 431, 432, 433, 434, 435, 436, 437, 438, 439, 440, 441, 17] (by decide +kernel) (by decide +kernel)
set_option maxRecDepth 20000 in
theorem ggX6_tryOrders_X6_obey_q10 : GoodIn wsX6_tryOrders (wsX6_obey_r9) := goodIn_r _ [442, 443, 444, 445, 446, 447, 448, 449, 450, 451, 452, 453, 454, 455, 456, 457, 23, 24, 25, 458, 459, 460, 461, 462] (by decide +kernel) (by decide +kernel)
set_option maxRecDepth 20000 in
theorem ggX6_tryOrders_X6_obey_q11 : GoodIn wsX6_tryOrders (wsX6_obey_r10) := goodIn_r _ [463, 464, 465] (by decide +kernel) (by decide +kernel)
set_option maxRecDepth 20000 in
theorem ggX6_tryOrders_X6_obey_q12 : GoodIn wsX6_tryOrders (wsX60) := goodIn_r _ [466, 467, 468, 469, 470, 471, 472, 473] (by decide +kernel) (by decide +kernel)
set_option maxRecDepth 20000 in
theorem ggX6_tryOrders_X6_obey_q13 : GoodIn wsX6_tryOrders (wsX00) := goodIn_r _ [480, 481, 482, 483, 484, 485, 486, 487, 488, 489] (by decide +kernel) (by decide +kernel)
set_option maxRecDepth 20000 in
theorem ggX6_tryOrders_X6_obey_q14 : GoodIn wsX6_tryOrders (wsX50) := goodIn_r _ [490, 491, 492, 493, 494, 495, 496, 497, 498, 499, 500, 501] (by decide +kernel) (by decide +kernel)
set_option maxRecDepth 20000 in
theorem ggX6_tryOrders_X6_obey_q15 : GoodIn wsX6_tryOrders (wsX10) := goodIn_r _ [506, 507, 508, 509, 510, 511, 512, 513] (by decide +kernel) (by decide +kernel)
set_option maxRecDepth 20000 in
theorem ggX6_tryOrders_X6_obey_q16 : GoodIn wsX6_tryOrders (wsX40) := goodIn_r _ [502, 503, 504, 505] (by decide +kernel) (by decide +kernel)
set_option maxRecDepth 20000 in
theorem ggX6_tryOrders_X6_obey_q17 : GoodIn wsX6_tryOrders (wsX30) := goodIn_r _ [514, 515, 516, 517, 518] (by decide +kernel) (by decide +kernel)
theorem ggX6_tryOrders_X6_obey : GoodIn wsX6_tryOrders wsX6_obey := (goodIn_app (a := [Cond.code yX6_obey cX6_obey 3 none]) ggX6_tryOrders_X6_obey_q1 (goodIn_app (goodIn_app (goodIn_app (goodIn_app (goodIn_app (goodIn_app (goodIn_app ggX6_tryOrders_X6_obey_q2 (goodIn_app ggX6_tryOrders_X6_obey_q3 (goodIn_app ggX6_tryOrders_X6_obey_q4 (goodIn_app ggX6_tryOrders_X6_obey_q5 (goodIn_app ggX6_tryOrders_X6_obey_q6 (goodIn_app ggX6_tryOrders_X6_obey_q7 (goodIn_app ggX6_tryOrders_X6_obey_q8 (goodIn_app ggX6_tryOrders_X6_obey_q9 (goodIn_app ggX6_tryOrders_X6_obey_q10 ggX6_tryOrders_X6_obey_q11))))))))) ggX6_tryOrders_X6_obey_q12) ggX6_tryOrders_X6_obey_q13) ggX6_tryOrders_X6_obey_q14) ggX6_tryOrders_X6_obey_q15) ggX6_tryOrders_X6_obey_q16) ggX6_tryOrders_X6_obey_q17))
set_option maxRecDepth 20000 in
theorem gX6_tryOrders_X6_obey : GoodIn wsX6_tryOrders (wsV RX6 330 RX6 yX6_obey wsX6_obey) := goodIn_app (goodIn_of _ (by decide +kernel)) ggX6_tryOrders_X6_obey
theorem dX6_tryOrders_0 : decode cX6_tryOrders 0 = .ok (.aload_n 0, 1) := by decide +kernel
theorem dX6_tryOrders_1 : decode cX6_tryOrders 1 = .ok (.getfield 16, 3) := by decide +kernel
theorem dX6_tryOrders_4 : decode cX6_tryOrders 4 = .ok (.aload_n 0, 1) := by decide +kernel
theorem dX6_tryOrders_5 : decode cX6_tryOrders 5 = .ok (.getfield 10, 3) := by decide +kernel
theorem dX6_tryOrders_8 : decode cX6_tryOrders 8 = .ok (.invokevirtual 127, 3) := by decide +kernel
theorem dX6_tryOrders_11 : decode cX6_tryOrders 11 = .ok (.aload_n 0, 1) := by decide +kernel
theorem dX6_tryOrders_12 : decode cX6_tryOrders 12 = .ok (.getfield 37, 3) := by decide +kernel
theorem dX6_tryOrders_15 : decode cX6_tryOrders 15 = .ok (.iconst 0, 1) := by decide +kernel
theorem dX6_tryOrders_16 : decode cX6_tryOrders 16 = .ok (.invokevirtual 311, 3) := by decide +kernel
theorem dX6_tryOrders_19 : decode cX6_tryOrders 19 = .ok (.iconst 0, 1) := by decide +kernel
theorem dX6_tryOrders_20 : decode cX6_tryOrders 20 = .ok (.istore_n 1, 1) := by decide +kernel
theorem dX6_tryOrders_21 : decode cX6_tryOrders 21 = .ok (.iload_n 1, 1) := by decide +kernel
theorem dX6_tryOrders_22 : decode cX6_tryOrders 22 = .ok (.bipush 80, 2) := by decide +kernel
theorem dX6_tryOrders_24 : decode cX6_tryOrders 24 = .ok (.if_icmp .ge 86, 3) := by decide +kernel
theorem dX6_tryOrders_27 : decode cX6_tryOrders 27 = .ok (.aload_n 0, 1) := by decide +kernel
theorem dX6_tryOrders_28 : decode cX6_tryOrders 28 = .ok (.getfield 37, 3) := by decide +kernel
theorem dX6_tryOrders_31 : decode cX6_tryOrders 31 = .ok (.invokevirtual 314, 3) := by decide +kernel
theorem dX6_tryOrders_34 : decode cX6_tryOrders 34 = .ok (.ifCond .ne 76, 3) := by decide +kernel
theorem dX6_tryOrders_37 : decode cX6_tryOrders 37 = .ok (.aload_n 0, 1) := by decide +kernel
theorem dX6_tryOrders_38 : decode cX6_tryOrders 38 = .ok (.getfield 37, 3) := by decide +kernel
theorem dX6_tryOrders_41 : decode cX6_tryOrders 41 = .ok (.invokevirtual 317, 3) := by decide +kernel
theorem dX6_tryOrders_44 : decode cX6_tryOrders 44 = .ok (.ifCond .eq 24, 3) := by decide +kernel
theorem dX6_tryOrders_47 : decode cX6_tryOrders 47 = .ok (.aload_n 0, 1) := by decide +kernel
theorem dX6_tryOrders_48 : decode cX6_tryOrders 48 = .ok (.aload_n 0, 1) := by decide +kernel
theorem dX6_tryOrders_49 : decode cX6_tryOrders 49 = .ok (.getfield 37, 3) := by decide +kernel
theorem dX6_tryOrders_52 : decode cX6_tryOrders 52 = .ok (.getfield 320, 3) := by decide +kernel
theorem dX6_tryOrders_55 : decode cX6_tryOrders 55 = .ok (.aload_n 0, 1) := by decide +kernel
theorem dX6_tryOrders_56 : decode cX6_tryOrders 56 = .ok (.getfield 37, 3) := by decide +kernel
theorem dX6_tryOrders_59 : decode cX6_tryOrders 59 = .ok (.getfield 323, 3) := by decide +kernel
theorem dX6_tryOrders_62 : decode cX6_tryOrders 62 = .ok (.invokevirtual 326, 3) := by decide +kernel
theorem dX6_tryOrders_65 : decode cX6_tryOrders 65 = .ok (.ifCond .eq 5, 3) := by decide +kernel
theorem dX6_tryOrders_68 : decode cX6_tryOrders 68 = .ok (.iload_n 1, 1) := by decide +kernel
theorem dX6_tryOrders_69 : decode cX6_tryOrders 69 = .ok (.ireturn, 1) := by decide +kernel
theorem dX6_tryOrders_70 : decode cX6_tryOrders 70 = .ok (.aload_n 0, 1) := by decide +kernel
theorem dX6_tryOrders_71 : decode cX6_tryOrders 71 = .ok (.aload_n 0, 1) := by decide +kernel
theorem dX6_tryOrders_72 : decode cX6_tryOrders 72 = .ok (.getfield 37, 3) := by decide +kernel
theorem dX6_tryOrders_75 : decode cX6_tryOrders 75 = .ok (.getfield 320, 3) := by decide +kernel
theorem dX6_tryOrders_78 : decode cX6_tryOrders 78 = .ok (.aload_n 0, 1) := by decide +kernel
theorem dX6_tryOrders_79 : decode cX6_tryOrders 79 = .ok (.getfield 37, 3) := by decide +kernel
theorem dX6_tryOrders_82 : decode cX6_tryOrders 82 = .ok (.getfield 323, 3) := by decide +kernel
theorem dX6_tryOrders_85 : decode cX6_tryOrders 85 = .ok (.invokevirtual 330, 3) := by decide +kernel
theorem dX6_tryOrders_88 : decode cX6_tryOrders 88 = .ok (.aload_n 0, 1) := by decide +kernel
theorem dX6_tryOrders_89 : decode cX6_tryOrders 89 = .ok (.getfield 37, 3) := by decide +kernel
theorem dX6_tryOrders_92 : decode cX6_tryOrders 92 = .ok (.aload_n 0, 1) := by decide +kernel
theorem dX6_tryOrders_93 : decode cX6_tryOrders 93 = .ok (.getfield 37, 3) := by decide +kernel
theorem dX6_tryOrders_96 : decode cX6_tryOrders 96 = .ok (.getfield 334, 3) := by decide +kernel
theorem dX6_tryOrders_99 : decode cX6_tryOrders 99 = .ok (.iconst 1, 1) := by decide +kernel
theorem dX6_tryOrders_100 : decode cX6_tryOrders 100 = .ok (.iadd, 1) := by decide +kernel
theorem dX6_tryOrders_101 : decode cX6_tryOrders 101 = .ok (.invokevirtual 311, 3) := by decide +kernel
theorem dX6_tryOrders_104 : decode cX6_tryOrders 104 = .ok (.iinc 1 1, 3) := by decide +kernel
theorem dX6_tryOrders_107 : decode cX6_tryOrders 107 = .ok (.goto (-86), 3) := by decide +kernel
theorem dX6_tryOrders_110 : decode cX6_tryOrders 110 = .ok (.iconst (-1), 1) := by decide +kernel
theorem dX6_tryOrders_111 : decode cX6_tryOrders 111 = .ok (.ireturn, 1) := by decide +kernel
set_option maxRecDepth 20000 in
theorem ggX6_refusalOf_X0_refusalToEnrol : GoodIn wsX6_refusalOf wsX0_refusalToEnrol := goodIn_r _ [6, 7, 8, 9, 10, 11, 12, 13, 14, 15, 16, 17, 18, 19, 20, 21, 22, 108, 109, 110, 111, 112, 113, 114, 115, 116, 117, 118, 119, 120, 121, 122, 123, 124, 125, 126, 127, 128, 129] (by decide +kernel) (by decide +kernel)
set_option maxRecDepth 20000 in
theorem gX6_refusalOf_X0_refusalToEnrol : GoodIn wsX6_refusalOf (wsV RX6 48 RX0 yX0_refusalToEnrol wsX0_refusalToEnrol) := goodIn_app (goodIn_of _ (by decide +kernel)) ggX6_refusalOf_X0_refusalToEnrol
set_option maxRecDepth 20000 in
theorem ggX6_refusalOf_X0_refusalToAddFeast : GoodIn wsX6_refusalOf wsX0_refusalToAddFeast := goodIn_r _ [26, 27, 28, 8, 9, 10, 29, 30, 31, 32, 33, 34, 35, 36, 37, 38, 39, 108, 109, 110, 111, 112, 113, 114, 115, 116, 117, 130, 131, 132, 133, 134, 135, 136, 137] (by decide +kernel) (by decide +kernel)
set_option maxRecDepth 20000 in
theorem gX6_refusalOf_X0_refusalToAddFeast : GoodIn wsX6_refusalOf (wsV RX6 89 RX0 yX0_refusalToAddFeast wsX0_refusalToAddFeast) := goodIn_app (goodIn_of _ (by decide +kernel)) ggX6_refusalOf_X0_refusalToAddFeast
set_option maxRecDepth 20000 in
theorem ggX6_refusalOf_X0_refusalToArrange : GoodIn wsX6_refusalOf wsX0_refusalToArrange := goodIn_r _ [43, 28, 44, 45, 46, 32, 47, 34, 48, 9, 49, 13, 8, 10, 15, 16, 50, 51, 52, 5, 53, 54, 27, 108, 109, 110, 111, 112, 113, 114, 115, 116, 117, 130, 131, 132, 133, 134, 135, 136, 137] (by decide +kernel) (by decide +kernel)
set_option maxRecDepth 20000 in
theorem gX6_refusalOf_X0_refusalToArrange : GoodIn wsX6_refusalOf (wsV RX6 96 RX0 yX0_refusalToArrange wsX0_refusalToArrange) := goodIn_app (goodIn_of _ (by decide +kernel)) ggX6_refusalOf_X0_refusalToArrange
set_option maxRecDepth 20000 in
theorem ggX6_refusalOf_X0_refusalToTakeNote : GoodIn wsX6_refusalOf wsX0_refusalToTakeNote := goodIn_r _ [58, 7, 27, 59, 60, 61, 62, 20, 63, 22, 8, 9, 10, 64, 65, 66, 67, 68, 69, 70, 71, 72, 73, 74, 75, 76, 77, 78, 79, 80, 81, 108, 109, 110, 111, 112, 113, 114, 115, 116, 117, 118, 119, 120, 121, 122, 123, 124, 125, 126, 127, 128, 129, 138, 139, 140, 141] (by decide +kernel) (by decide +kernel)
set_option maxRecDepth 20000 in
theorem gX6_refusalOf_X0_refusalToTakeNote : GoodIn wsX6_refusalOf (wsV RX6 83 RX0 yX0_refusalToTakeNote wsX0_refusalToTakeNote) := goodIn_app (goodIn_of _ (by decide +kernel)) ggX6_refusalOf_X0_refusalToTakeNote
set_option maxRecDepth 20000 in
theorem ggX6_refusalOf_X0_refusalToSendAway : GoodIn wsX6_refusalOf wsX0_refusalToSendAway := goodIn_r _ [85, 7, 27, 86, 60, 61, 62, 20, 63, 22, 8, 9, 10, 77, 78, 79, 80, 81, 87, 88, 89, 90, 91, 108, 109, 110, 111, 112, 113, 114, 115, 116, 117, 118, 119, 120, 121, 122, 123, 124, 125, 126, 127, 128, 129] (by decide +kernel) (by decide +kernel)
set_option maxRecDepth 20000 in
theorem gX6_refusalOf_X0_refusalToSendAway : GoodIn wsX6_refusalOf (wsV RX6 76 RX0 yX0_refusalToSendAway wsX0_refusalToSendAway) := goodIn_app (goodIn_of _ (by decide +kernel)) ggX6_refusalOf_X0_refusalToSendAway
set_option maxRecDepth 20000 in
theorem ggX6_refusalOf_X0_refusalToDismiss : GoodIn wsX6_refusalOf wsX0_refusalToDismiss := goodIn_r _ [95, 7, 27, 60, 61, 62, 20, 63, 22, 77, 78, 79, 80, 81, 108, 109, 110, 111, 112, 113, 114, 115, 116, 117, 118, 119, 120, 121, 122, 123, 124, 125, 126, 127, 128, 129] (by decide +kernel) (by decide +kernel)
set_option maxRecDepth 20000 in
theorem gX6_refusalOf_X0_refusalToDismiss : GoodIn wsX6_refusalOf (wsV RX6 62 RX0 yX0_refusalToDismiss wsX0_refusalToDismiss) := goodIn_app (goodIn_of _ (by decide +kernel)) ggX6_refusalOf_X0_refusalToDismiss
set_option maxRecDepth 20000 in
theorem ggX6_refusalOf_X0_refusalToAdvance : GoodIn wsX6_refusalOf wsX0_refusalToAdvance := goodIn_r _ [99, 27, 8, 9, 10, 108, 109, 110, 111, 112, 113, 114, 115, 116, 117] (by decide +kernel) (by decide +kernel)
set_option maxRecDepth 20000 in
theorem gX6_refusalOf_X0_refusalToAdvance : GoodIn wsX6_refusalOf (wsV RX6 102 RX0 yX0_refusalToAdvance wsX0_refusalToAdvance) := goodIn_app (goodIn_of _ (by decide +kernel)) ggX6_refusalOf_X0_refusalToAdvance
theorem dX6_refusalOf_0 : decode cX6_refusalOf 0 = .ok (.iload_n 1, 1) := by decide +kernel
theorem dX6_refusalOf_1 : decode cX6_refusalOf 1 = .ok (.tableswitch 159 0 6 #[43, 66, 80, 103, 120, 137, 148], 43) := by decide +kernel
theorem dX6_refusalOf_44 : decode cX6_refusalOf 44 = .ok (.aload_n 0, 1) := by decide +kernel
theorem dX6_refusalOf_45 : decode cX6_refusalOf 45 = .ok (.getfield 16, 3) := by decide +kernel
theorem dX6_refusalOf_48 : decode cX6_refusalOf 48 = .ok (.aload_n 2, 1) := by decide +kernel
theorem dX6_refusalOf_49 : decode cX6_refusalOf 49 = .ok (.iconst 0, 1) := by decide +kernel
theorem dX6_refusalOf_50 : decode cX6_refusalOf 50 = .ok (.iaload, 1) := by decide +kernel
theorem dX6_refusalOf_51 : decode cX6_refusalOf 51 = .ok (.aload_n 2, 1) := by decide +kernel
theorem dX6_refusalOf_52 : decode cX6_refusalOf 52 = .ok (.iconst 1, 1) := by decide +kernel
theorem dX6_refusalOf_53 : decode cX6_refusalOf 53 = .ok (.iaload, 1) := by decide +kernel
theorem dX6_refusalOf_54 : decode cX6_refusalOf 54 = .ok (.aload_n 2, 1) := by decide +kernel
theorem dX6_refusalOf_55 : decode cX6_refusalOf 55 = .ok (.iconst 2, 1) := by decide +kernel
theorem dX6_refusalOf_56 : decode cX6_refusalOf 56 = .ok (.iaload, 1) := by decide +kernel
theorem dX6_refusalOf_57 : decode cX6_refusalOf 57 = .ok (.aload_n 2, 1) := by decide +kernel
theorem dX6_refusalOf_58 : decode cX6_refusalOf 58 = .ok (.iconst 3, 1) := by decide +kernel
theorem dX6_refusalOf_59 : decode cX6_refusalOf 59 = .ok (.iaload, 1) := by decide +kernel
theorem dX6_refusalOf_60 : decode cX6_refusalOf 60 = .ok (.aload_n 2, 1) := by decide +kernel
theorem dX6_refusalOf_61 : decode cX6_refusalOf 61 = .ok (.iconst 4, 1) := by decide +kernel
theorem dX6_refusalOf_62 : decode cX6_refusalOf 62 = .ok (.iaload, 1) := by decide +kernel
theorem dX6_refusalOf_63 : decode cX6_refusalOf 63 = .ok (.invokevirtual 48, 3) := by decide +kernel
theorem dX6_refusalOf_66 : decode cX6_refusalOf 66 = .ok (.ireturn, 1) := by decide +kernel
theorem dX6_refusalOf_67 : decode cX6_refusalOf 67 = .ok (.aload_n 0, 1) := by decide +kernel
theorem dX6_refusalOf_68 : decode cX6_refusalOf 68 = .ok (.getfield 16, 3) := by decide +kernel
theorem dX6_refusalOf_71 : decode cX6_refusalOf 71 = .ok (.aload_n 2, 1) := by decide +kernel
theorem dX6_refusalOf_72 : decode cX6_refusalOf 72 = .ok (.iconst 0, 1) := by decide +kernel
theorem dX6_refusalOf_73 : decode cX6_refusalOf 73 = .ok (.iaload, 1) := by decide +kernel
theorem dX6_refusalOf_74 : decode cX6_refusalOf 74 = .ok (.aload_n 2, 1) := by decide +kernel
theorem dX6_refusalOf_75 : decode cX6_refusalOf 75 = .ok (.iconst 1, 1) := by decide +kernel
theorem dX6_refusalOf_76 : decode cX6_refusalOf 76 = .ok (.iaload, 1) := by decide +kernel
theorem dX6_refusalOf_77 : decode cX6_refusalOf 77 = .ok (.invokevirtual 89, 3) := by decide +kernel
theorem dX6_refusalOf_80 : decode cX6_refusalOf 80 = .ok (.ireturn, 1) := by decide +kernel
theorem dX6_refusalOf_81 : decode cX6_refusalOf 81 = .ok (.aload_n 0, 1) := by decide +kernel
theorem dX6_refusalOf_82 : decode cX6_refusalOf 82 = .ok (.getfield 16, 3) := by decide +kernel
theorem dX6_refusalOf_85 : decode cX6_refusalOf 85 = .ok (.aload_n 2, 1) := by decide +kernel
theorem dX6_refusalOf_86 : decode cX6_refusalOf 86 = .ok (.iconst 0, 1) := by decide +kernel
theorem dX6_refusalOf_87 : decode cX6_refusalOf 87 = .ok (.iaload, 1) := by decide +kernel
theorem dX6_refusalOf_88 : decode cX6_refusalOf 88 = .ok (.aload_n 2, 1) := by decide +kernel
theorem dX6_refusalOf_89 : decode cX6_refusalOf 89 = .ok (.iconst 1, 1) := by decide +kernel
theorem dX6_refusalOf_90 : decode cX6_refusalOf 90 = .ok (.iaload, 1) := by decide +kernel
theorem dX6_refusalOf_91 : decode cX6_refusalOf 91 = .ok (.aload_n 2, 1) := by decide +kernel
theorem dX6_refusalOf_92 : decode cX6_refusalOf 92 = .ok (.iconst 2, 1) := by decide +kernel
theorem dX6_refusalOf_93 : decode cX6_refusalOf 93 = .ok (.iaload, 1) := by decide +kernel
theorem dX6_refusalOf_94 : decode cX6_refusalOf 94 = .ok (.aload_n 2, 1) := by decide +kernel
theorem dX6_refusalOf_95 : decode cX6_refusalOf 95 = .ok (.iconst 3, 1) := by decide +kernel
theorem dX6_refusalOf_96 : decode cX6_refusalOf 96 = .ok (.iaload, 1) := by decide +kernel
theorem dX6_refusalOf_97 : decode cX6_refusalOf 97 = .ok (.aload_n 2, 1) := by decide +kernel
theorem dX6_refusalOf_98 : decode cX6_refusalOf 98 = .ok (.iconst 4, 1) := by decide +kernel
theorem dX6_refusalOf_99 : decode cX6_refusalOf 99 = .ok (.iaload, 1) := by decide +kernel
theorem dX6_refusalOf_100 : decode cX6_refusalOf 100 = .ok (.invokevirtual 96, 3) := by decide +kernel
theorem dX6_refusalOf_103 : decode cX6_refusalOf 103 = .ok (.ireturn, 1) := by decide +kernel
theorem dX6_refusalOf_104 : decode cX6_refusalOf 104 = .ok (.aload_n 0, 1) := by decide +kernel
theorem dX6_refusalOf_105 : decode cX6_refusalOf 105 = .ok (.getfield 16, 3) := by decide +kernel
theorem dX6_refusalOf_108 : decode cX6_refusalOf 108 = .ok (.aload_n 2, 1) := by decide +kernel
theorem dX6_refusalOf_109 : decode cX6_refusalOf 109 = .ok (.iconst 0, 1) := by decide +kernel
theorem dX6_refusalOf_110 : decode cX6_refusalOf 110 = .ok (.iaload, 1) := by decide +kernel
theorem dX6_refusalOf_111 : decode cX6_refusalOf 111 = .ok (.aload_n 2, 1) := by decide +kernel
theorem dX6_refusalOf_112 : decode cX6_refusalOf 112 = .ok (.iconst 1, 1) := by decide +kernel
theorem dX6_refusalOf_113 : decode cX6_refusalOf 113 = .ok (.iaload, 1) := by decide +kernel
theorem dX6_refusalOf_114 : decode cX6_refusalOf 114 = .ok (.aload_n 2, 1) := by decide +kernel
theorem dX6_refusalOf_115 : decode cX6_refusalOf 115 = .ok (.iconst 2, 1) := by decide +kernel
theorem dX6_refusalOf_116 : decode cX6_refusalOf 116 = .ok (.iaload, 1) := by decide +kernel
theorem dX6_refusalOf_117 : decode cX6_refusalOf 117 = .ok (.invokevirtual 83, 3) := by decide +kernel
theorem dX6_refusalOf_120 : decode cX6_refusalOf 120 = .ok (.ireturn, 1) := by decide +kernel
theorem dX6_refusalOf_121 : decode cX6_refusalOf 121 = .ok (.aload_n 0, 1) := by decide +kernel
theorem dX6_refusalOf_122 : decode cX6_refusalOf 122 = .ok (.getfield 16, 3) := by decide +kernel
theorem dX6_refusalOf_125 : decode cX6_refusalOf 125 = .ok (.aload_n 2, 1) := by decide +kernel
theorem dX6_refusalOf_126 : decode cX6_refusalOf 126 = .ok (.iconst 0, 1) := by decide +kernel
theorem dX6_refusalOf_127 : decode cX6_refusalOf 127 = .ok (.iaload, 1) := by decide +kernel
theorem dX6_refusalOf_128 : decode cX6_refusalOf 128 = .ok (.aload_n 2, 1) := by decide +kernel
theorem dX6_refusalOf_129 : decode cX6_refusalOf 129 = .ok (.iconst 1, 1) := by decide +kernel
theorem dX6_refusalOf_130 : decode cX6_refusalOf 130 = .ok (.iaload, 1) := by decide +kernel
theorem dX6_refusalOf_131 : decode cX6_refusalOf 131 = .ok (.aload_n 2, 1) := by decide +kernel
theorem dX6_refusalOf_132 : decode cX6_refusalOf 132 = .ok (.iconst 2, 1) := by decide +kernel
theorem dX6_refusalOf_133 : decode cX6_refusalOf 133 = .ok (.iaload, 1) := by decide +kernel
theorem dX6_refusalOf_134 : decode cX6_refusalOf 134 = .ok (.invokevirtual 76, 3) := by decide +kernel
theorem dX6_refusalOf_137 : decode cX6_refusalOf 137 = .ok (.ireturn, 1) := by decide +kernel
theorem dX6_refusalOf_138 : decode cX6_refusalOf 138 = .ok (.aload_n 0, 1) := by decide +kernel
theorem dX6_refusalOf_139 : decode cX6_refusalOf 139 = .ok (.getfield 16, 3) := by decide +kernel
theorem dX6_refusalOf_142 : decode cX6_refusalOf 142 = .ok (.aload_n 2, 1) := by decide +kernel
theorem dX6_refusalOf_143 : decode cX6_refusalOf 143 = .ok (.iconst 0, 1) := by decide +kernel
theorem dX6_refusalOf_144 : decode cX6_refusalOf 144 = .ok (.iaload, 1) := by decide +kernel
theorem dX6_refusalOf_145 : decode cX6_refusalOf 145 = .ok (.invokevirtual 62, 3) := by decide +kernel
theorem dX6_refusalOf_148 : decode cX6_refusalOf 148 = .ok (.ireturn, 1) := by decide +kernel
theorem dX6_refusalOf_149 : decode cX6_refusalOf 149 = .ok (.aload_n 0, 1) := by decide +kernel
theorem dX6_refusalOf_150 : decode cX6_refusalOf 150 = .ok (.getfield 16, 3) := by decide +kernel
theorem dX6_refusalOf_153 : decode cX6_refusalOf 153 = .ok (.aload_n 2, 1) := by decide +kernel
theorem dX6_refusalOf_154 : decode cX6_refusalOf 154 = .ok (.iconst 0, 1) := by decide +kernel
theorem dX6_refusalOf_155 : decode cX6_refusalOf 155 = .ok (.iaload, 1) := by decide +kernel
theorem dX6_refusalOf_156 : decode cX6_refusalOf 156 = .ok (.invokevirtual 102, 3) := by decide +kernel
theorem dX6_refusalOf_159 : decode cX6_refusalOf 159 = .ok (.ireturn, 1) := by decide +kernel
theorem dX6_refusalOf_160 : decode cX6_refusalOf 160 = .ok (.iconst 3, 1) := by decide +kernel
theorem dX6_refusalOf_161 : decode cX6_refusalOf 161 = .ok (.ireturn, 1) := by decide +kernel
set_option maxRecDepth 20000 in
theorem ggX6_obey_X0_enrol : GoodIn wsX6_obey wsX0_enrol := goodIn_r _ [7, 8, 9, 10, 11, 12, 13, 14, 15, 16, 17, 18, 19, 20, 21, 22, 23, 24, 25, 26, 27, 28, 228, 229, 230, 231, 232, 233, 234, 235, 236, 237, 238, 239, 240, 241, 242, 243, 244, 245, 246, 247, 248, 249] (by decide +kernel) (by decide +kernel)
set_option maxRecDepth 20000 in
theorem gX6_obey_X0_enrol : GoodIn wsX6_obey (wsV RX6 59 RX0 yX0_enrol wsX0_enrol) := goodIn_app (goodIn_of _ (by decide +kernel)) ggX6_obey_X0_enrol
set_option maxRecDepth 20000 in
theorem ggX6_obey_X0_addFeast : GoodIn wsX6_obey wsX0_addFeast := goodIn_r _ [32, 33, 34, 35, 36, 37, 38, 39, 40, 41, 42, 43, 44, 45, 46, 47, 48, 228, 229, 230, 231, 232, 233, 234, 235, 236, 237, 250, 251, 252, 253, 254, 255, 256, 257] (by decide +kernel) (by decide +kernel)
set_option maxRecDepth 20000 in
theorem gX6_obey_X0_addFeast : GoodIn wsX6_obey (wsV RX6 93 RX0 yX0_addFeast wsX0_addFeast) := goodIn_app (goodIn_of _ (by decide +kernel)) ggX6_obey_X0_addFeast
set_option maxRecDepth 20000 in
theorem ggX6_obey_X0_arrange : GoodIn wsX6_obey wsX0_arrange := goodIn_r _ [52, 33, 53, 54, 55, 56, 57, 58, 37, 59, 42, 228, 229, 230, 231, 232, 233, 234, 235, 236, 237, 250, 251, 252, 253, 254, 255, 256, 257] (by decide +kernel) (by decide +kernel)
set_option maxRecDepth 20000 in
theorem gX6_obey_X0_arrange : GoodIn wsX6_obey (wsV RX6 99 RX0 yX0_arrange wsX0_arrange) := goodIn_app (goodIn_of _ (by decide +kernel)) ggX6_obey_X0_arrange
set_option maxRecDepth 20000 in
theorem ggX6_obey_X0_takeNote : GoodIn wsX6_obey wsX0_takeNote := goodIn_r _ [63, 64, 65, 66, 67, 68, 69, 70, 71, 72, 73, 228, 229, 230, 231, 232, 233, 234, 235, 236, 237, 258, 259, 260, 261] (by decide +kernel) (by decide +kernel)
set_option maxRecDepth 20000 in
theorem gX6_obey_X0_takeNote : GoodIn wsX6_obey (wsV RX6 86 RX0 yX0_takeNote wsX0_takeNote) := goodIn_app (goodIn_of _ (by decide +kernel)) ggX6_obey_X0_takeNote
set_option maxRecDepth 20000 in
theorem ggX6_obey_X0_sendAway : GoodIn wsX6_obey wsX0_sendAway := goodIn_r _ [77, 8, 78, 9, 79, 80, 81, 228, 229, 230, 231, 232, 233, 234, 235, 236, 237, 238, 239, 240, 241, 242, 243, 244, 245, 246, 247, 248, 249] (by decide +kernel) (by decide +kernel)
set_option maxRecDepth 20000 in
theorem gX6_obey_X0_sendAway : GoodIn wsX6_obey (wsV RX6 80 RX0 yX0_sendAway wsX0_sendAway) := goodIn_app (goodIn_of _ (by decide +kernel)) ggX6_obey_X0_sendAway
set_option maxRecDepth 20000 in
theorem ggX6_obey_X0_dismiss : GoodIn wsX6_obey wsX0_dismiss := goodIn_r _ [85, 8, 86, 9, 87, 88, 89, 14, 90, 16, 91, 92, 93, 94, 24, 228, 229, 230, 231, 232, 233, 234, 235, 236, 237, 238, 239, 240, 241, 242, 243, 244, 245, 246, 247, 248, 249] (by decide +kernel) (by decide +kernel)
set_option maxRecDepth 20000 in
theorem gX6_obey_X0_dismiss : GoodIn wsX6_obey (wsV RX6 66 RX0 yX0_dismiss wsX0_dismiss) := goodIn_app (goodIn_of _ (by decide +kernel)) ggX6_obey_X0_dismiss
set_option maxRecDepth 20000 in
theorem ggX6_obey_X0_advance_q1 : GoodIn wsX6_obey ([Cond.code yX0_advance cX0_advance 7 (some .int)]) := goodIn_r _ [98] (by decide +kernel) (by decide +kernel)
set_option maxRecDepth 20000 in
theorem ggX6_obey_X0_advance_q2 : GoodIn wsX6_obey (wsX0_advance_r1) := goodIn_r _ [9, 33, 99, 100, 101, 102, 37, 103, 39, 40, 104, 105, 106, 107, 108, 109, 110, 111, 112, 113, 114, 115, 116, 117] (by decide +kernel) (by decide +kernel)
set_option maxRecDepth 20000 in
theorem ggX6_obey_X0_advance_q3 : GoodIn wsX6_obey (wsX0_advance_r2) := goodIn_r _ [118, 119, 120, 121, 122, 123, 124, 125, 126, 127, 6, 128, 8, 64, 129, 92, 93, 14, 94, 24, 130, 131, 132, 133] (by decide +kernel) (by decide +kernel)
set_option maxRecDepth 20000 in
theorem ggX6_obey_X0_advance_q4 : GoodIn wsX6_obey (wsX0_advance_r3) := goodIn_r _ [26, 134, 135, 136, 68, 137, 71, 70, 72, 73, 138, 139, 140, 141, 21, 142, 143, 144, 145, 54, 146, 55, 147, 148] (by decide +kernel) (by decide +kernel)
set_option maxRecDepth 20000 in
theorem ggX6_obey_X0_advance_q5 : GoodIn wsX6_obey (wsX0_advance_r4) := goodIn_r _ [149, 150, 151, 152, 46, 47, 48, 153, 154, 155, 156, 157, 158, 159, 160, 161, 162, 163, 164, 165, 166, 167, 168, 169] (by decide +kernel) (by decide +kernel)
set_option maxRecDepth 20000 in
theorem ggX6_obey_X0_advance_q6 : GoodIn wsX6_obey (wsX0_advance_r5) := goodIn_r _ [170, 171, 172, 173, 174, 175, 176, 177, 178, 179, 180, 181, 182, 183, 184, 185, 186, 187, 188, 189, 190, 191, 192, 193] (by decide +kernel) (by decide +kernel)
set_option maxRecDepth 20000 in
theorem ggX6_obey_X0_advance_q7 : GoodIn wsX6_obey (wsX0_advance_r6) := goodIn_r _ [194, 195, 196, 197, 198, 199, 200, 201, 202, 20, 203, 204, 205, 206, 207, 208, 209, 210, 211, 81, 212, 213, 214, 215] (by decide +kernel) (by decide +kernel)
set_option maxRecDepth 20000 in
theorem ggX6_obey_X0_advance_q8 : GoodIn wsX6_obey (wsX0_advance_r7) := goodIn_r _ [216, 217, 218, 219, 56, 57, 58, 59, 42] (by decide +kernel) (by decide +kernel)
set_option maxRecDepth 20000 in
theorem ggX6_obey_X0_advance_q9 : GoodIn wsX6_obey (wsX00) := goodIn_r _ [228, 229, 230, 231, 232, 233, 234, 235, 236, 237] (by decide +kernel) (by decide +kernel)
set_option maxRecDepth 20000 in
theorem ggX6_obey_X0_advance_q10 : GoodIn wsX6_obey (wsX10) := goodIn_r _ [250, 251, 252, 253, 254, 255, 256, 257] (by decide +kernel) (by decide +kernel)
set_option maxRecDepth 20000 in
theorem ggX6_obey_X0_advance_q11 : GoodIn wsX6_obey (wsX30) := goodIn_r _ [262, 263, 264, 265, 266] (by decide +kernel) (by decide +kernel)
set_option maxRecDepth 20000 in
theorem ggX6_obey_X0_advance_q12 : GoodIn wsX6_obey (wsX50) := goodIn_r _ [238, 239, 240, 241, 242, 243, 244, 245, 246, 247, 248, 249] (by decide +kernel) (by decide +kernel)
set_option maxRecDepth 20000 in
theorem ggX6_obey_X0_advance_q13 : GoodIn wsX6_obey (wsX40) := goodIn_r _ [258, 259, 260, 261] (by decide +kernel) (by decide +kernel)
theorem ggX6_obey_X0_advance : GoodIn wsX6_obey wsX0_advance := (goodIn_app (a := [Cond.code yX0_advance cX0_advance 7 (some .int)]) ggX6_obey_X0_advance_q1 (goodIn_app (goodIn_app (goodIn_app (goodIn_app (goodIn_app (goodIn_app ggX6_obey_X0_advance_q2 (goodIn_app ggX6_obey_X0_advance_q3 (goodIn_app ggX6_obey_X0_advance_q4 (goodIn_app ggX6_obey_X0_advance_q5 (goodIn_app ggX6_obey_X0_advance_q6 (goodIn_app ggX6_obey_X0_advance_q7 ggX6_obey_X0_advance_q8)))))) ggX6_obey_X0_advance_q9) ggX6_obey_X0_advance_q10) ggX6_obey_X0_advance_q11) ggX6_obey_X0_advance_q12) ggX6_obey_X0_advance_q13))
set_option maxRecDepth 20000 in
theorem gX6_obey_X0_advance : GoodIn wsX6_obey (wsV RX6 105 RX0 yX0_advance wsX0_advance) := goodIn_app (goodIn_of _ (by decide +kernel)) ggX6_obey_X0_advance
theorem dX6_obey_0 : decode cX6_obey 0 = .ok (.iload_n 1, 1) := by decide +kernel
theorem dX6_obey_1 : decode cX6_obey 1 = .ok (.tableswitch 184 0 6 #[43, 69, 86, 112, 132, 152, 166], 43) := by decide +kernel
theorem dX6_obey_44 : decode cX6_obey 44 = .ok (.aload_n 0, 1) := by decide +kernel
theorem dX6_obey_45 : decode cX6_obey 45 = .ok (.getfield 16, 3) := by decide +kernel
theorem dX6_obey_48 : decode cX6_obey 48 = .ok (.aload_n 2, 1) := by decide +kernel
theorem dX6_obey_49 : decode cX6_obey 49 = .ok (.iconst 0, 1) := by decide +kernel
theorem dX6_obey_50 : decode cX6_obey 50 = .ok (.iaload, 1) := by decide +kernel
theorem dX6_obey_51 : decode cX6_obey 51 = .ok (.aload_n 2, 1) := by decide +kernel
theorem dX6_obey_52 : decode cX6_obey 52 = .ok (.iconst 1, 1) := by decide +kernel
theorem dX6_obey_53 : decode cX6_obey 53 = .ok (.iaload, 1) := by decide +kernel
theorem dX6_obey_54 : decode cX6_obey 54 = .ok (.aload_n 2, 1) := by decide +kernel
theorem dX6_obey_55 : decode cX6_obey 55 = .ok (.iconst 2, 1) := by decide +kernel
theorem dX6_obey_56 : decode cX6_obey 56 = .ok (.iaload, 1) := by decide +kernel
theorem dX6_obey_57 : decode cX6_obey 57 = .ok (.aload_n 2, 1) := by decide +kernel
theorem dX6_obey_58 : decode cX6_obey 58 = .ok (.iconst 3, 1) := by decide +kernel
theorem dX6_obey_59 : decode cX6_obey 59 = .ok (.iaload, 1) := by decide +kernel
theorem dX6_obey_60 : decode cX6_obey 60 = .ok (.aload_n 2, 1) := by decide +kernel
theorem dX6_obey_61 : decode cX6_obey 61 = .ok (.iconst 4, 1) := by decide +kernel
theorem dX6_obey_62 : decode cX6_obey 62 = .ok (.iaload, 1) := by decide +kernel
theorem dX6_obey_63 : decode cX6_obey 63 = .ok (.invokevirtual 59, 3) := by decide +kernel
theorem dX6_obey_66 : decode cX6_obey 66 = .ok (.pop, 1) := by decide +kernel
theorem dX6_obey_67 : decode cX6_obey 67 = .ok (.goto 118, 3) := by decide +kernel
theorem dX6_obey_70 : decode cX6_obey 70 = .ok (.aload_n 0, 1) := by decide +kernel
theorem dX6_obey_71 : decode cX6_obey 71 = .ok (.getfield 16, 3) := by decide +kernel
theorem dX6_obey_74 : decode cX6_obey 74 = .ok (.aload_n 2, 1) := by decide +kernel
theorem dX6_obey_75 : decode cX6_obey 75 = .ok (.iconst 0, 1) := by decide +kernel
theorem dX6_obey_76 : decode cX6_obey 76 = .ok (.iaload, 1) := by decide +kernel
theorem dX6_obey_77 : decode cX6_obey 77 = .ok (.aload_n 2, 1) := by decide +kernel
theorem dX6_obey_78 : decode cX6_obey 78 = .ok (.iconst 1, 1) := by decide +kernel
theorem dX6_obey_79 : decode cX6_obey 79 = .ok (.iaload, 1) := by decide +kernel
theorem dX6_obey_80 : decode cX6_obey 80 = .ok (.invokevirtual 93, 3) := by decide +kernel
theorem dX6_obey_83 : decode cX6_obey 83 = .ok (.pop, 1) := by decide +kernel
theorem dX6_obey_84 : decode cX6_obey 84 = .ok (.goto 101, 3) := by decide +kernel
theorem dX6_obey_87 : decode cX6_obey 87 = .ok (.aload_n 0, 1) := by decide +kernel
theorem dX6_obey_88 : decode cX6_obey 88 = .ok (.getfield 16, 3) := by decide +kernel
theorem dX6_obey_91 : decode cX6_obey 91 = .ok (.aload_n 2, 1) := by decide +kernel
theorem dX6_obey_92 : decode cX6_obey 92 = .ok (.iconst 0, 1) := by decide +kernel
theorem dX6_obey_93 : decode cX6_obey 93 = .ok (.iaload, 1) := by decide +kernel
theorem dX6_obey_94 : decode cX6_obey 94 = .ok (.aload_n 2, 1) := by decide +kernel
theorem dX6_obey_95 : decode cX6_obey 95 = .ok (.iconst 1, 1) := by decide +kernel
theorem dX6_obey_96 : decode cX6_obey 96 = .ok (.iaload, 1) := by decide +kernel
theorem dX6_obey_97 : decode cX6_obey 97 = .ok (.aload_n 2, 1) := by decide +kernel
theorem dX6_obey_98 : decode cX6_obey 98 = .ok (.iconst 2, 1) := by decide +kernel
theorem dX6_obey_99 : decode cX6_obey 99 = .ok (.iaload, 1) := by decide +kernel
theorem dX6_obey_100 : decode cX6_obey 100 = .ok (.aload_n 2, 1) := by decide +kernel
theorem dX6_obey_101 : decode cX6_obey 101 = .ok (.iconst 3, 1) := by decide +kernel
theorem dX6_obey_102 : decode cX6_obey 102 = .ok (.iaload, 1) := by decide +kernel
theorem dX6_obey_103 : decode cX6_obey 103 = .ok (.aload_n 2, 1) := by decide +kernel
theorem dX6_obey_104 : decode cX6_obey 104 = .ok (.iconst 4, 1) := by decide +kernel
theorem dX6_obey_105 : decode cX6_obey 105 = .ok (.iaload, 1) := by decide +kernel
theorem dX6_obey_106 : decode cX6_obey 106 = .ok (.invokevirtual 99, 3) := by decide +kernel
theorem dX6_obey_109 : decode cX6_obey 109 = .ok (.pop, 1) := by decide +kernel
theorem dX6_obey_110 : decode cX6_obey 110 = .ok (.goto 75, 3) := by decide +kernel
theorem dX6_obey_113 : decode cX6_obey 113 = .ok (.aload_n 0, 1) := by decide +kernel
theorem dX6_obey_114 : decode cX6_obey 114 = .ok (.getfield 16, 3) := by decide +kernel
theorem dX6_obey_117 : decode cX6_obey 117 = .ok (.aload_n 2, 1) := by decide +kernel
theorem dX6_obey_118 : decode cX6_obey 118 = .ok (.iconst 0, 1) := by decide +kernel
theorem dX6_obey_119 : decode cX6_obey 119 = .ok (.iaload, 1) := by decide +kernel
theorem dX6_obey_120 : decode cX6_obey 120 = .ok (.aload_n 2, 1) := by decide +kernel
theorem dX6_obey_121 : decode cX6_obey 121 = .ok (.iconst 1, 1) := by decide +kernel
theorem dX6_obey_122 : decode cX6_obey 122 = .ok (.iaload, 1) := by decide +kernel
theorem dX6_obey_123 : decode cX6_obey 123 = .ok (.aload_n 2, 1) := by decide +kernel
theorem dX6_obey_124 : decode cX6_obey 124 = .ok (.iconst 2, 1) := by decide +kernel
theorem dX6_obey_125 : decode cX6_obey 125 = .ok (.iaload, 1) := by decide +kernel
theorem dX6_obey_126 : decode cX6_obey 126 = .ok (.invokevirtual 86, 3) := by decide +kernel
theorem dX6_obey_129 : decode cX6_obey 129 = .ok (.pop, 1) := by decide +kernel
theorem dX6_obey_130 : decode cX6_obey 130 = .ok (.goto 55, 3) := by decide +kernel
theorem dX6_obey_133 : decode cX6_obey 133 = .ok (.aload_n 0, 1) := by decide +kernel
theorem dX6_obey_134 : decode cX6_obey 134 = .ok (.getfield 16, 3) := by decide +kernel
theorem dX6_obey_137 : decode cX6_obey 137 = .ok (.aload_n 2, 1) := by decide +kernel
theorem dX6_obey_138 : decode cX6_obey 138 = .ok (.iconst 0, 1) := by decide +kernel
theorem dX6_obey_139 : decode cX6_obey 139 = .ok (.iaload, 1) := by decide +kernel
theorem dX6_obey_140 : decode cX6_obey 140 = .ok (.aload_n 2, 1) := by decide +kernel
theorem dX6_obey_141 : decode cX6_obey 141 = .ok (.iconst 1, 1) := by decide +kernel
theorem dX6_obey_142 : decode cX6_obey 142 = .ok (.iaload, 1) := by decide +kernel
theorem dX6_obey_143 : decode cX6_obey 143 = .ok (.aload_n 2, 1) := by decide +kernel
theorem dX6_obey_144 : decode cX6_obey 144 = .ok (.iconst 2, 1) := by decide +kernel
theorem dX6_obey_145 : decode cX6_obey 145 = .ok (.iaload, 1) := by decide +kernel
theorem dX6_obey_146 : decode cX6_obey 146 = .ok (.invokevirtual 80, 3) := by decide +kernel
theorem dX6_obey_149 : decode cX6_obey 149 = .ok (.pop, 1) := by decide +kernel
theorem dX6_obey_150 : decode cX6_obey 150 = .ok (.goto 35, 3) := by decide +kernel
theorem dX6_obey_153 : decode cX6_obey 153 = .ok (.aload_n 0, 1) := by decide +kernel
theorem dX6_obey_154 : decode cX6_obey 154 = .ok (.getfield 16, 3) := by decide +kernel
theorem dX6_obey_157 : decode cX6_obey 157 = .ok (.aload_n 2, 1) := by decide +kernel
theorem dX6_obey_158 : decode cX6_obey 158 = .ok (.iconst 0, 1) := by decide +kernel
theorem dX6_obey_159 : decode cX6_obey 159 = .ok (.iaload, 1) := by decide +kernel
theorem dX6_obey_160 : decode cX6_obey 160 = .ok (.invokevirtual 66, 3) := by decide +kernel
theorem dX6_obey_163 : decode cX6_obey 163 = .ok (.pop, 1) := by decide +kernel
theorem dX6_obey_164 : decode cX6_obey 164 = .ok (.goto 21, 3) := by decide +kernel
theorem dX6_obey_167 : decode cX6_obey 167 = .ok (.aload_n 0, 1) := by decide +kernel
theorem dX6_obey_168 : decode cX6_obey 168 = .ok (.getfield 16, 3) := by decide +kernel
theorem dX6_obey_171 : decode cX6_obey 171 = .ok (.aload_n 2, 1) := by decide +kernel
theorem dX6_obey_172 : decode cX6_obey 172 = .ok (.iconst 0, 1) := by decide +kernel
theorem dX6_obey_173 : decode cX6_obey 173 = .ok (.iaload, 1) := by decide +kernel
theorem dX6_obey_174 : decode cX6_obey 174 = .ok (.aload_n 0, 1) := by decide +kernel
theorem dX6_obey_175 : decode cX6_obey 175 = .ok (.getfield 44, 3) := by decide +kernel
theorem dX6_obey_178 : decode cX6_obey 178 = .ok (.invokevirtual 105, 3) := by decide +kernel
theorem dX6_obey_181 : decode cX6_obey 181 = .ok (.pop, 1) := by decide +kernel
theorem dX6_obey_182 : decode cX6_obey 182 = .ok (.goto 3, 3) := by decide +kernel
theorem dX6_obey_185 : decode cX6_obey 185 = .ok (.return_, 1) := by decide +kernel
theorem dX7_init_0 : decode cX7_init 0 = .ok (.aload_n 0, 1) := by decide +kernel
theorem dX7_init_1 : decode cX7_init 1 = .ok (.invokespecial 1, 3) := by decide +kernel
theorem dX7_init_4 : decode cX7_init 4 = .ok (.aload_n 0, 1) := by decide +kernel
theorem dX7_init_5 : decode cX7_init 5 = .ok (.sipush 1483, 3) := by decide +kernel
theorem dX7_init_8 : decode cX7_init 8 = .ok (.newarray .int, 2) := by decide +kernel
theorem dX7_init_10 : decode cX7_init 10 = .ok (.putfield 7, 3) := by decide +kernel
theorem dX7_init_13 : decode cX7_init 13 = .ok (.aload_n 0, 1) := by decide +kernel
theorem dX7_init_14 : decode cX7_init 14 = .ok (.sipush 5932, 3) := by decide +kernel
theorem dX7_init_17 : decode cX7_init 17 = .ok (.newarray .int, 2) := by decide +kernel
theorem dX7_init_19 : decode cX7_init 19 = .ok (.putfield 13, 3) := by decide +kernel
theorem dX7_init_22 : decode cX7_init 22 = .ok (.aload_n 0, 1) := by decide +kernel
theorem dX7_init_23 : decode cX7_init 23 = .ok (.sipush 1483, 3) := by decide +kernel
theorem dX7_init_26 : decode cX7_init 26 = .ok (.newarray .int, 2) := by decide +kernel
theorem dX7_init_28 : decode cX7_init 28 = .ok (.putfield 16, 3) := by decide +kernel
theorem dX7_init_31 : decode cX7_init 31 = .ok (.aload_n 0, 1) := by decide +kernel
theorem dX7_init_32 : decode cX7_init 32 = .ok (.sipush 1483, 3) := by decide +kernel
theorem dX7_init_35 : decode cX7_init 35 = .ok (.newarray .int, 2) := by decide +kernel
theorem dX7_init_37 : decode cX7_init 37 = .ok (.putfield 19, 3) := by decide +kernel
theorem dX7_init_40 : decode cX7_init 40 = .ok (.aload_n 0, 1) := by decide +kernel
theorem dX7_init_41 : decode cX7_init 41 = .ok (.bipush 30, 2) := by decide +kernel
theorem dX7_init_43 : decode cX7_init 43 = .ok (.newarray .int, 2) := by decide +kernel
theorem dX7_init_45 : decode cX7_init 45 = .ok (.putfield 22, 3) := by decide +kernel
theorem dX7_init_48 : decode cX7_init 48 = .ok (.aload_n 0, 1) := by decide +kernel
theorem dX7_init_49 : decode cX7_init 49 = .ok (.iconst 4, 1) := by decide +kernel
theorem dX7_init_50 : decode cX7_init 50 = .ok (.newarray .int, 2) := by decide +kernel
theorem dX7_init_52 : decode cX7_init 52 = .ok (.putfield 25, 3) := by decide +kernel
theorem dX7_init_55 : decode cX7_init 55 = .ok (.aload_n 0, 1) := by decide +kernel
theorem dX7_init_56 : decode cX7_init 56 = .ok (.bipush 16, 2) := by decide +kernel
theorem dX7_init_58 : decode cX7_init 58 = .ok (.newarray .int, 2) := by decide +kernel
theorem dX7_init_60 : decode cX7_init 60 = .ok (.putfield 28, 3) := by decide +kernel
theorem dX7_init_63 : decode cX7_init 63 = .ok (.aload_n 0, 1) := by decide +kernel
theorem dX7_init_64 : decode cX7_init 64 = .ok (.bipush 30, 2) := by decide +kernel
theorem dX7_init_66 : decode cX7_init 66 = .ok (.newarray .int, 2) := by decide +kernel
theorem dX7_init_68 : decode cX7_init 68 = .ok (.putfield 31, 3) := by decide +kernel
theorem dX7_init_71 : decode cX7_init 71 = .ok (.aload_n 0, 1) := by decide +kernel
theorem dX7_init_72 : decode cX7_init 72 = .ok (.bipush 80, 2) := by decide +kernel
theorem dX7_init_74 : decode cX7_init 74 = .ok (.newarray .int, 2) := by decide +kernel
theorem dX7_init_76 : decode cX7_init 76 = .ok (.putfield 34, 3) := by decide +kernel
theorem dX7_init_79 : decode cX7_init 79 = .ok (.aload_n 0, 1) := by decide +kernel
theorem dX7_init_80 : decode cX7_init 80 = .ok (.sipush 168, 3) := by decide +kernel
theorem dX7_init_83 : decode cX7_init 83 = .ok (.newarray .int, 2) := by decide +kernel
theorem dX7_init_85 : decode cX7_init 85 = .ok (.putfield 37, 3) := by decide +kernel
theorem dX7_init_88 : decode cX7_init 88 = .ok (.return_, 1) := by decide +kernel
theorem dX7_thrown_0 : decode cX7_thrown 0 = .ok (.aload_n 0, 1) := by decide +kernel
theorem dX7_thrown_1 : decode cX7_thrown 1 = .ok (.getfield 40, 3) := by decide +kernel
theorem dX7_thrown_4 : decode cX7_thrown 4 = .ok (.ireturn, 1) := by decide +kernel
theorem dX7_refuses_0 : decode cX7_refuses 0 = .ok (.aload_n 0, 1) := by decide +kernel
theorem dX7_refuses_1 : decode cX7_refuses 1 = .ok (.iload_n 1, 1) := by decide +kernel
theorem dX7_refuses_2 : decode cX7_refuses 2 = .ok (.putfield 40, 3) := by decide +kernel
theorem dX7_refuses_5 : decode cX7_refuses 5 = .ok (.iconst 0, 1) := by decide +kernel
theorem dX7_refuses_6 : decode cX7_refuses 6 = .ok (.ireturn, 1) := by decide +kernel
theorem dX7_in_0 : decode cX7_in 0 = .ok (.iload_n 0, 1) := by decide +kernel
theorem dX7_in_1 : decode cX7_in 1 = .ok (.iload_n 1, 1) := by decide +kernel
theorem dX7_in_2 : decode cX7_in 2 = .ok (.if_icmp .lt 12, 3) := by decide +kernel
theorem dX7_in_5 : decode cX7_in 5 = .ok (.iload_n 0, 1) := by decide +kernel
theorem dX7_in_6 : decode cX7_in 6 = .ok (.iload_n 2, 1) := by decide +kernel
theorem dX7_in_7 : decode cX7_in 7 = .ok (.if_icmp .gt 7, 3) := by decide +kernel
theorem dX7_in_10 : decode cX7_in 10 = .ok (.iconst 1, 1) := by decide +kernel
theorem dX7_in_11 : decode cX7_in 11 = .ok (.goto 4, 3) := by decide +kernel
theorem dX7_in_14 : decode cX7_in 14 = .ok (.iconst 0, 1) := by decide +kernel
theorem dX7_in_15 : decode cX7_in 15 = .ok (.ireturn, 1) := by decide +kernel
theorem dX7_lays_0 : decode cX7_lays 0 = .ok (.iconst 0, 1) := by decide +kernel
theorem dX7_lays_1 : decode cX7_lays 1 = .ok (.istore 4, 2) := by decide +kernel
theorem dX7_lays_3 : decode cX7_lays 3 = .ok (.iload 4, 2) := by decide +kernel
theorem dX7_lays_5 : decode cX7_lays 5 = .ok (.sipush 1483, 3) := by decide +kernel
theorem dX7_lays_8 : decode cX7_lays 8 = .ok (.if_icmp .ge 21, 3) := by decide +kernel
theorem dX7_lays_11 : decode cX7_lays 11 = .ok (.aload_n 2, 1) := by decide +kernel
theorem dX7_lays_12 : decode cX7_lays 12 = .ok (.iload_n 3, 1) := by decide +kernel
theorem dX7_lays_13 : decode cX7_lays 13 = .ok (.iload 4, 2) := by decide +kernel
theorem dX7_lays_15 : decode cX7_lays 15 = .ok (.iadd, 1) := by decide +kernel
theorem dX7_lays_16 : decode cX7_lays 16 = .ok (.aload_n 0, 1) := by decide +kernel
theorem dX7_lays_17 : decode cX7_lays 17 = .ok (.iload_n 1, 1) := by decide +kernel
theorem dX7_lays_18 : decode cX7_lays 18 = .ok (.iload 4, 2) := by decide +kernel
theorem dX7_lays_20 : decode cX7_lays 20 = .ok (.iadd, 1) := by decide +kernel
theorem dX7_lays_21 : decode cX7_lays 21 = .ok (.iaload, 1) := by decide +kernel
theorem dX7_lays_22 : decode cX7_lays 22 = .ok (.iastore, 1) := by decide +kernel
theorem dX7_lays_23 : decode cX7_lays 23 = .ok (.iinc 4 1, 3) := by decide +kernel
theorem dX7_lays_26 : decode cX7_lays 26 = .ok (.goto (-23), 3) := by decide +kernel
theorem dX7_lays_29 : decode cX7_lays 29 = .ok (.return_, 1) := by decide +kernel
set_option maxRecDepth 20000 in
theorem ggX7_saves_X7_lays : GoodIn wsX7_saves wsX7_lays := goodIn_r _ [6] (by decide +kernel) (by decide +kernel)
set_option maxRecDepth 20000 in
theorem gX7_saves_X7_lays : GoodIn wsX7_saves (va_wsS RX7 47 yX7_lays wsX7_lays) := goodIn_app (goodIn_of _ (by decide +kernel)) ggX7_saves_X7_lays
theorem dX7_saves_0 : decode cX7_saves 0 = .ok (.aload_n 0, 1) := by decide +kernel
theorem dX7_saves_1 : decode cX7_saves 1 = .ok (.getfield 44, 3) := by decide +kernel
theorem dX7_saves_4 : decode cX7_saves 4 = .ok (.iconst 4, 1) := by decide +kernel
theorem dX7_saves_5 : decode cX7_saves 5 = .ok (.if_icmp .ne 44, 3) := by decide +kernel
theorem dX7_saves_8 : decode cX7_saves 8 = .ok (.iconst 0, 1) := by decide +kernel
theorem dX7_saves_9 : decode cX7_saves 9 = .ok (.istore_n 2, 1) := by decide +kernel
theorem dX7_saves_10 : decode cX7_saves 10 = .ok (.iload_n 2, 1) := by decide +kernel
theorem dX7_saves_11 : decode cX7_saves 11 = .ok (.sipush 4449, 3) := by decide +kernel
theorem dX7_saves_14 : decode cX7_saves 14 = .ok (.if_icmp .ge 25, 3) := by decide +kernel
theorem dX7_saves_17 : decode cX7_saves 17 = .ok (.aload_n 0, 1) := by decide +kernel
theorem dX7_saves_18 : decode cX7_saves 18 = .ok (.getfield 13, 3) := by decide +kernel
theorem dX7_saves_21 : decode cX7_saves 21 = .ok (.iload_n 2, 1) := by decide +kernel
theorem dX7_saves_22 : decode cX7_saves 22 = .ok (.aload_n 0, 1) := by decide +kernel
theorem dX7_saves_23 : decode cX7_saves 23 = .ok (.getfield 13, 3) := by decide +kernel
theorem dX7_saves_26 : decode cX7_saves 26 = .ok (.iload_n 2, 1) := by decide +kernel
theorem dX7_saves_27 : decode cX7_saves 27 = .ok (.sipush 1483, 3) := by decide +kernel
theorem dX7_saves_30 : decode cX7_saves 30 = .ok (.iadd, 1) := by decide +kernel
theorem dX7_saves_31 : decode cX7_saves 31 = .ok (.iaload, 1) := by decide +kernel
theorem dX7_saves_32 : decode cX7_saves 32 = .ok (.iastore, 1) := by decide +kernel
theorem dX7_saves_33 : decode cX7_saves 33 = .ok (.iinc 2 1, 3) := by decide +kernel
theorem dX7_saves_36 : decode cX7_saves 36 = .ok (.goto (-26), 3) := by decide +kernel
theorem dX7_saves_39 : decode cX7_saves 39 = .ok (.aload_n 0, 1) := by decide +kernel
theorem dX7_saves_40 : decode cX7_saves 40 = .ok (.dup, 1) := by decide +kernel
theorem dX7_saves_41 : decode cX7_saves 41 = .ok (.getfield 44, 3) := by decide +kernel
theorem dX7_saves_44 : decode cX7_saves 44 = .ok (.iconst 1, 1) := by decide +kernel
theorem dX7_saves_45 : decode cX7_saves 45 = .ok (.isub, 1) := by decide +kernel
theorem dX7_saves_46 : decode cX7_saves 46 = .ok (.putfield 44, 3) := by decide +kernel
theorem dX7_saves_49 : decode cX7_saves 49 = .ok (.aload_n 1, 1) := by decide +kernel
theorem dX7_saves_50 : decode cX7_saves 50 = .ok (.iconst 0, 1) := by decide +kernel
theorem dX7_saves_51 : decode cX7_saves 51 = .ok (.aload_n 0, 1) := by decide +kernel
theorem dX7_saves_52 : decode cX7_saves 52 = .ok (.getfield 13, 3) := by decide +kernel
theorem dX7_saves_55 : decode cX7_saves 55 = .ok (.sipush 1483, 3) := by decide +kernel
theorem dX7_saves_58 : decode cX7_saves 58 = .ok (.aload_n 0, 1) := by decide +kernel
theorem dX7_saves_59 : decode cX7_saves 59 = .ok (.getfield 44, 3) := by decide +kernel
theorem dX7_saves_62 : decode cX7_saves 62 = .ok (.imul, 1) := by decide +kernel
theorem dX7_saves_63 : decode cX7_saves 63 = .ok (.invokestatic 47, 3) := by decide +kernel
theorem dX7_saves_66 : decode cX7_saves 66 = .ok (.aload_n 0, 1) := by decide +kernel
theorem dX7_saves_67 : decode cX7_saves 67 = .ok (.dup, 1) := by decide +kernel
theorem dX7_saves_68 : decode cX7_saves 68 = .ok (.getfield 44, 3) := by decide +kernel
theorem dX7_saves_71 : decode cX7_saves 71 = .ok (.iconst 1, 1) := by decide +kernel
theorem dX7_saves_72 : decode cX7_saves 72 = .ok (.iadd, 1) := by decide +kernel
theorem dX7_saves_73 : decode cX7_saves 73 = .ok (.putfield 44, 3) := by decide +kernel
theorem dX7_saves_76 : decode cX7_saves 76 = .ok (.return_, 1) := by decide +kernel
set_option maxRecDepth 20000 in
theorem ggX7_isSinger_X7_in : GoodIn wsX7_isSinger wsX7_in := goodIn_r _ [5] (by decide +kernel) (by decide +kernel)
set_option maxRecDepth 20000 in
theorem gX7_isSinger_X7_in : GoodIn wsX7_isSinger (va_wsS RX7 51 yX7_in wsX7_in) := goodIn_app (goodIn_of _ (by decide +kernel)) ggX7_isSinger_X7_in
theorem dX7_isSinger_0 : decode cX7_isSinger 0 = .ok (.iload_n 1, 1) := by decide +kernel
theorem dX7_isSinger_1 : decode cX7_isSinger 1 = .ok (.iconst 0, 1) := by decide +kernel
theorem dX7_isSinger_2 : decode cX7_isSinger 2 = .ok (.aload_n 0, 1) := by decide +kernel
theorem dX7_isSinger_3 : decode cX7_isSinger 3 = .ok (.getfield 7, 3) := by decide +kernel
theorem dX7_isSinger_6 : decode cX7_isSinger 6 = .ok (.iconst 1, 1) := by decide +kernel
theorem dX7_isSinger_7 : decode cX7_isSinger 7 = .ok (.iaload, 1) := by decide +kernel
theorem dX7_isSinger_8 : decode cX7_isSinger 8 = .ok (.iconst 1, 1) := by decide +kernel
theorem dX7_isSinger_9 : decode cX7_isSinger 9 = .ok (.isub, 1) := by decide +kernel
theorem dX7_isSinger_10 : decode cX7_isSinger 10 = .ok (.invokestatic 51, 3) := by decide +kernel
theorem dX7_isSinger_13 : decode cX7_isSinger 13 = .ok (.ireturn, 1) := by decide +kernel
theorem dX7_its_0 : decode cX7_its 0 = .ok (.aload_n 0, 1) := by decide +kernel
theorem dX7_its_1 : decode cX7_its 1 = .ok (.getfield 7, 3) := by decide +kernel
theorem dX7_its_4 : decode cX7_its 4 = .ok (.bipush 13, 2) := by decide +kernel
theorem dX7_its_6 : decode cX7_its 6 = .ok (.bipush 13, 2) := by decide +kernel
theorem dX7_its_8 : decode cX7_its 8 = .ok (.iload_n 1, 1) := by decide +kernel
theorem dX7_its_9 : decode cX7_its 9 = .ok (.imul, 1) := by decide +kernel
theorem dX7_its_10 : decode cX7_its 10 = .ok (.iadd, 1) := by decide +kernel
theorem dX7_its_11 : decode cX7_its 11 = .ok (.iload_n 2, 1) := by decide +kernel
theorem dX7_its_12 : decode cX7_its 12 = .ok (.iadd, 1) := by decide +kernel
theorem dX7_its_13 : decode cX7_its 13 = .ok (.iaload, 1) := by decide +kernel
theorem dX7_its_14 : decode cX7_its 14 = .ok (.ireturn, 1) := by decide +kernel
theorem dX7_lay_0 : decode cX7_lay 0 = .ok (.aload_n 0, 1) := by decide +kernel
theorem dX7_lay_1 : decode cX7_lay 1 = .ok (.getfield 7, 3) := by decide +kernel
theorem dX7_lay_4 : decode cX7_lay 4 = .ok (.bipush 13, 2) := by decide +kernel
theorem dX7_lay_6 : decode cX7_lay 6 = .ok (.bipush 13, 2) := by decide +kernel
theorem dX7_lay_8 : decode cX7_lay 8 = .ok (.iload_n 1, 1) := by decide +kernel
theorem dX7_lay_9 : decode cX7_lay 9 = .ok (.imul, 1) := by decide +kernel
theorem dX7_lay_10 : decode cX7_lay 10 = .ok (.iadd, 1) := by decide +kernel
theorem dX7_lay_11 : decode cX7_lay 11 = .ok (.iload_n 2, 1) := by decide +kernel
theorem dX7_lay_12 : decode cX7_lay 12 = .ok (.iadd, 1) := by decide +kernel
theorem dX7_lay_13 : decode cX7_lay 13 = .ok (.iload_n 3, 1) := by decide +kernel
theorem dX7_lay_14 : decode cX7_lay 14 = .ok (.iastore, 1) := by decide +kernel
theorem dX7_lay_15 : decode cX7_lay 15 = .ok (.return_, 1) := by decide +kernel
set_option maxRecDepth 20000 in
theorem ggX7_isChoir_X7_in : GoodIn wsX7_isChoir wsX7_in := goodIn_r _ [4] (by decide +kernel) (by decide +kernel)
set_option maxRecDepth 20000 in
theorem gX7_isChoir_X7_in : GoodIn wsX7_isChoir (va_wsS RX7 51 yX7_in wsX7_in) := goodIn_app (goodIn_of _ (by decide +kernel)) ggX7_isChoir_X7_in
theorem dX7_isChoir_0 : decode cX7_isChoir 0 = .ok (.iload_n 0, 1) := by decide +kernel
theorem dX7_isChoir_1 : decode cX7_isChoir 1 = .ok (.iconst 0, 1) := by decide +kernel
theorem dX7_isChoir_2 : decode cX7_isChoir 2 = .ok (.iconst 4, 1) := by decide +kernel
theorem dX7_isChoir_3 : decode cX7_isChoir 3 = .ok (.invokestatic 51, 3) := by decide +kernel
theorem dX7_isChoir_6 : decode cX7_isChoir 6 = .ok (.ireturn, 1) := by decide +kernel
set_option maxRecDepth 20000 in
theorem ggX7_areNotes_X7_in : GoodIn wsX7_areNotes wsX7_in := goodIn_r _ [4] (by decide +kernel) (by decide +kernel)
set_option maxRecDepth 20000 in
theorem gX7_areNotes_X7_in : GoodIn wsX7_areNotes (va_wsS RX7 51 yX7_in wsX7_in) := goodIn_app (goodIn_of _ (by decide +kernel)) ggX7_areNotes_X7_in
theorem dX7_areNotes_0 : decode cX7_areNotes 0 = .ok (.iload_n 0, 1) := by decide +kernel
theorem dX7_areNotes_1 : decode cX7_areNotes 1 = .ok (.iconst 0, 1) := by decide +kernel
theorem dX7_areNotes_2 : decode cX7_areNotes 2 = .ok (.bipush 48, 2) := by decide +kernel
theorem dX7_areNotes_4 : decode cX7_areNotes 4 = .ok (.invokestatic 51, 3) := by decide +kernel
theorem dX7_areNotes_7 : decode cX7_areNotes 7 = .ok (.ifCond .eq 17, 3) := by decide +kernel
theorem dX7_areNotes_10 : decode cX7_areNotes 10 = .ok (.iload_n 1, 1) := by decide +kernel
theorem dX7_areNotes_11 : decode cX7_areNotes 11 = .ok (.iload_n 0, 1) := by decide +kernel
theorem dX7_areNotes_12 : decode cX7_areNotes 12 = .ok (.bipush 48, 2) := by decide +kernel
theorem dX7_areNotes_14 : decode cX7_areNotes 14 = .ok (.invokestatic 51, 3) := by decide +kernel
theorem dX7_areNotes_17 : decode cX7_areNotes 17 = .ok (.ifCond .eq 7, 3) := by decide +kernel
theorem dX7_areNotes_20 : decode cX7_areNotes 20 = .ok (.iconst 1, 1) := by decide +kernel
theorem dX7_areNotes_21 : decode cX7_areNotes 21 = .ok (.goto 4, 3) := by decide +kernel
theorem dX7_areNotes_24 : decode cX7_areNotes 24 = .ok (.iconst 0, 1) := by decide +kernel
theorem dX7_areNotes_25 : decode cX7_areNotes 25 = .ok (.ireturn, 1) := by decide +kernel
set_option maxRecDepth 20000 in
theorem ggX7_isHigh_X7_in : GoodIn wsX7_isHigh wsX7_in := goodIn_r _ [4] (by decide +kernel) (by decide +kernel)
set_option maxRecDepth 20000 in
theorem gX7_isHigh_X7_in : GoodIn wsX7_isHigh (va_wsS RX7 51 yX7_in wsX7_in) := goodIn_app (goodIn_of _ (by decide +kernel)) ggX7_isHigh_X7_in
theorem dX7_isHigh_0 : decode cX7_isHigh 0 = .ok (.iload_n 0, 1) := by decide +kernel
theorem dX7_isHigh_1 : decode cX7_isHigh 1 = .ok (.bipush 90, 2) := by decide +kernel
theorem dX7_isHigh_3 : decode cX7_isHigh 3 = .ok (.sipush 210, 3) := by decide +kernel
theorem dX7_isHigh_6 : decode cX7_isHigh 6 = .ok (.invokestatic 51, 3) := by decide +kernel
theorem dX7_isHigh_9 : decode cX7_isHigh 9 = .ok (.ireturn, 1) := by decide +kernel
set_option maxRecDepth 20000 in
theorem ggX7_enters_X7_lay : GoodIn wsX7_enters wsX7_lay := goodIn_r _ [6, 1, 7, 8, 9, 10, 11, 12, 13, 14, 15, 16, 17, 18, 19, 20, 21, 22] (by decide +kernel) (by decide +kernel)
set_option maxRecDepth 20000 in
theorem gX7_enters_X7_lay : GoodIn wsX7_enters (wsV RX7 55 RX7 yX7_lay wsX7_lay) := goodIn_app (goodIn_of _ (by decide +kernel)) ggX7_enters_X7_lay
theorem dX7_enters_0 : decode cX7_enters 0 = .ok (.aload_n 0, 1) := by decide +kernel
theorem dX7_enters_1 : decode cX7_enters 1 = .ok (.getfield 7, 3) := by decide +kernel
theorem dX7_enters_4 : decode cX7_enters 4 = .ok (.iconst 1, 1) := by decide +kernel
theorem dX7_enters_5 : decode cX7_enters 5 = .ok (.iaload, 1) := by decide +kernel
theorem dX7_enters_6 : decode cX7_enters 6 = .ok (.istore 6, 2) := by decide +kernel
theorem dX7_enters_8 : decode cX7_enters 8 = .ok (.aload_n 0, 1) := by decide +kernel
theorem dX7_enters_9 : decode cX7_enters 9 = .ok (.iload 6, 2) := by decide +kernel
theorem dX7_enters_11 : decode cX7_enters 11 = .ok (.iconst 0, 1) := by decide +kernel
theorem dX7_enters_12 : decode cX7_enters 12 = .ok (.iload_n 1, 1) := by decide +kernel
theorem dX7_enters_13 : decode cX7_enters 13 = .ok (.invokevirtual 55, 3) := by decide +kernel
theorem dX7_enters_16 : decode cX7_enters 16 = .ok (.aload_n 0, 1) := by decide +kernel
theorem dX7_enters_17 : decode cX7_enters 17 = .ok (.iload 6, 2) := by decide +kernel
theorem dX7_enters_19 : decode cX7_enters 19 = .ok (.iconst 1, 1) := by decide +kernel
theorem dX7_enters_20 : decode cX7_enters 20 = .ok (.iload_n 2, 1) := by decide +kernel
theorem dX7_enters_21 : decode cX7_enters 21 = .ok (.invokevirtual 55, 3) := by decide +kernel
theorem dX7_enters_24 : decode cX7_enters 24 = .ok (.aload_n 0, 1) := by decide +kernel
theorem dX7_enters_25 : decode cX7_enters 25 = .ok (.iload 6, 2) := by decide +kernel
theorem dX7_enters_27 : decode cX7_enters 27 = .ok (.iconst 2, 1) := by decide +kernel
theorem dX7_enters_28 : decode cX7_enters 28 = .ok (.aload_n 0, 1) := by decide +kernel
theorem dX7_enters_29 : decode cX7_enters 29 = .ok (.getfield 7, 3) := by decide +kernel
theorem dX7_enters_32 : decode cX7_enters 32 = .ok (.iconst 0, 1) := by decide +kernel
theorem dX7_enters_33 : decode cX7_enters 33 = .ok (.iaload, 1) := by decide +kernel
theorem dX7_enters_34 : decode cX7_enters 34 = .ok (.invokevirtual 55, 3) := by decide +kernel
theorem dX7_enters_37 : decode cX7_enters 37 = .ok (.aload_n 0, 1) := by decide +kernel
theorem dX7_enters_38 : decode cX7_enters 38 = .ok (.iload 6, 2) := by decide +kernel
theorem dX7_enters_40 : decode cX7_enters 40 = .ok (.iconst 3, 1) := by decide +kernel
theorem dX7_enters_41 : decode cX7_enters 41 = .ok (.iload_n 3, 1) := by decide +kernel
theorem dX7_enters_42 : decode cX7_enters 42 = .ok (.invokevirtual 55, 3) := by decide +kernel
theorem dX7_enters_45 : decode cX7_enters 45 = .ok (.aload_n 0, 1) := by decide +kernel
theorem dX7_enters_46 : decode cX7_enters 46 = .ok (.iload 6, 2) := by decide +kernel
theorem dX7_enters_48 : decode cX7_enters 48 = .ok (.iconst 4, 1) := by decide +kernel
theorem dX7_enters_49 : decode cX7_enters 49 = .ok (.iload 4, 2) := by decide +kernel
theorem dX7_enters_51 : decode cX7_enters 51 = .ok (.invokevirtual 55, 3) := by decide +kernel
theorem dX7_enters_54 : decode cX7_enters 54 = .ok (.aload_n 0, 1) := by decide +kernel
theorem dX7_enters_55 : decode cX7_enters 55 = .ok (.iload 6, 2) := by decide +kernel
theorem dX7_enters_57 : decode cX7_enters 57 = .ok (.iconst 5, 1) := by decide +kernel
theorem dX7_enters_58 : decode cX7_enters 58 = .ok (.iload 5, 2) := by decide +kernel
theorem dX7_enters_60 : decode cX7_enters 60 = .ok (.invokevirtual 55, 3) := by decide +kernel
theorem dX7_enters_63 : decode cX7_enters 63 = .ok (.aload_n 0, 1) := by decide +kernel
theorem dX7_enters_64 : decode cX7_enters 64 = .ok (.iload 6, 2) := by decide +kernel
theorem dX7_enters_66 : decode cX7_enters 66 = .ok (.bipush 6, 2) := by decide +kernel
theorem dX7_enters_68 : decode cX7_enters 68 = .ok (.iconst (-1), 1) := by decide +kernel
theorem dX7_enters_69 : decode cX7_enters 69 = .ok (.invokevirtual 55, 3) := by decide +kernel
theorem dX7_enters_72 : decode cX7_enters 72 = .ok (.bipush 7, 2) := by decide +kernel
theorem dX7_enters_74 : decode cX7_enters 74 = .ok (.istore 7, 2) := by decide +kernel
theorem dX7_enters_76 : decode cX7_enters 76 = .ok (.iload 7, 2) := by decide +kernel
theorem dX7_enters_78 : decode cX7_enters 78 = .ok (.bipush 13, 2) := by decide +kernel
theorem dX7_enters_80 : decode cX7_enters 80 = .ok (.if_icmp .ge 18, 3) := by decide +kernel
theorem dX7_enters_83 : decode cX7_enters 83 = .ok (.aload_n 0, 1) := by decide +kernel
theorem dX7_enters_84 : decode cX7_enters 84 = .ok (.iload 6, 2) := by decide +kernel
theorem dX7_enters_86 : decode cX7_enters 86 = .ok (.iload 7, 2) := by decide +kernel
theorem dX7_enters_88 : decode cX7_enters 88 = .ok (.iconst 0, 1) := by decide +kernel
theorem dX7_enters_89 : decode cX7_enters 89 = .ok (.invokevirtual 55, 3) := by decide +kernel
theorem dX7_enters_92 : decode cX7_enters 92 = .ok (.iinc 7 1, 3) := by decide +kernel
theorem dX7_enters_95 : decode cX7_enters 95 = .ok (.goto (-19), 3) := by decide +kernel
theorem dX7_enters_98 : decode cX7_enters 98 = .ok (.aload_n 0, 1) := by decide +kernel
theorem dX7_enters_99 : decode cX7_enters 99 = .ok (.iload 6, 2) := by decide +kernel
theorem dX7_enters_101 : decode cX7_enters 101 = .ok (.bipush 10, 2) := by decide +kernel
theorem dX7_enters_103 : decode cX7_enters 103 = .ok (.iconst (-1), 1) := by decide +kernel
theorem dX7_enters_104 : decode cX7_enters 104 = .ok (.invokevirtual 55, 3) := by decide +kernel
theorem dX7_enters_107 : decode cX7_enters 107 = .ok (.aload_n 0, 1) := by decide +kernel
theorem dX7_enters_108 : decode cX7_enters 108 = .ok (.getfield 7, 3) := by decide +kernel
theorem dX7_enters_111 : decode cX7_enters 111 = .ok (.iconst 1, 1) := by decide +kernel
theorem dX7_enters_112 : decode cX7_enters 112 = .ok (.dup2, 1) := by decide +kernel
theorem dX7_enters_113 : decode cX7_enters 113 = .ok (.iaload, 1) := by decide +kernel
theorem dX7_enters_114 : decode cX7_enters 114 = .ok (.iconst 1, 1) := by decide +kernel
theorem dX7_enters_115 : decode cX7_enters 115 = .ok (.iadd, 1) := by decide +kernel
theorem dX7_enters_116 : decode cX7_enters 116 = .ok (.iastore, 1) := by decide +kernel
theorem dX7_enters_117 : decode cX7_enters 117 = .ok (.iload 6, 2) := by decide +kernel
theorem dX7_enters_119 : decode cX7_enters 119 = .ok (.ireturn, 1) := by decide +kernel
set_option maxRecDepth 20000 in
theorem ggX7_isBreakAge_X7_in : GoodIn wsX7_isBreakAge wsX7_in := goodIn_r _ [4] (by decide +kernel) (by decide +kernel)
set_option maxRecDepth 20000 in
theorem gX7_isBreakAge_X7_in : GoodIn wsX7_isBreakAge (va_wsS RX7 51 yX7_in wsX7_in) := goodIn_app (goodIn_of _ (by decide +kernel)) ggX7_isBreakAge_X7_in
theorem dX7_isBreakAge_0 : decode cX7_isBreakAge 0 = .ok (.iload_n 0, 1) := by decide +kernel
theorem dX7_isBreakAge_1 : decode cX7_isBreakAge 1 = .ok (.ifCond .eq 14, 3) := by decide +kernel
theorem dX7_isBreakAge_4 : decode cX7_isBreakAge 4 = .ok (.iload_n 0, 1) := by decide +kernel
theorem dX7_isBreakAge_5 : decode cX7_isBreakAge 5 = .ok (.bipush 12, 2) := by decide +kernel
theorem dX7_isBreakAge_7 : decode cX7_isBreakAge 7 = .ok (.bipush 17, 2) := by decide +kernel
theorem dX7_isBreakAge_9 : decode cX7_isBreakAge 9 = .ok (.invokestatic 51, 3) := by decide +kernel
theorem dX7_isBreakAge_12 : decode cX7_isBreakAge 12 = .ok (.ifCond .eq 7, 3) := by decide +kernel
theorem dX7_isBreakAge_15 : decode cX7_isBreakAge 15 = .ok (.iconst 1, 1) := by decide +kernel
theorem dX7_isBreakAge_16 : decode cX7_isBreakAge 16 = .ok (.goto 4, 3) := by decide +kernel
theorem dX7_isBreakAge_19 : decode cX7_isBreakAge 19 = .ok (.iconst 0, 1) := by decide +kernel
theorem dX7_isBreakAge_20 : decode cX7_isBreakAge 20 = .ok (.ireturn, 1) := by decide +kernel
set_option maxRecDepth 20000 in
theorem ggX7_isOwn_X7_in : GoodIn wsX7_isOwn wsX7_in := goodIn_r _ [4] (by decide +kernel) (by decide +kernel)
set_option maxRecDepth 20000 in
theorem gX7_isOwn_X7_in : GoodIn wsX7_isOwn (va_wsS RX7 51 yX7_in wsX7_in) := goodIn_app (goodIn_of _ (by decide +kernel)) ggX7_isOwn_X7_in
set_option maxRecDepth 20000 in
theorem ggX7_isOwn_X7_isHigh : GoodIn wsX7_isOwn wsX7_isHigh := goodIn_r _ [7, 1, 2, 3, 4] (by decide +kernel) (by decide +kernel)
set_option maxRecDepth 20000 in
theorem gX7_isOwn_X7_isHigh : GoodIn wsX7_isOwn (va_wsS RX7 59 yX7_isHigh wsX7_isHigh) := goodIn_app (goodIn_of _ (by decide +kernel)) ggX7_isOwn_X7_isHigh
set_option maxRecDepth 20000 in
theorem ggX7_isOwn_X7_isBreakAge : GoodIn wsX7_isOwn wsX7_isBreakAge := goodIn_r _ [10, 1, 2, 3, 4] (by decide +kernel) (by decide +kernel)
set_option maxRecDepth 20000 in
theorem gX7_isOwn_X7_isBreakAge : GoodIn wsX7_isOwn (va_wsS RX7 63 yX7_isBreakAge wsX7_isBreakAge) := goodIn_app (goodIn_of _ (by decide +kernel)) ggX7_isOwn_X7_isBreakAge
theorem dX7_isOwn_0 : decode cX7_isOwn 0 = .ok (.iload_n 0, 1) := by decide +kernel
theorem dX7_isOwn_1 : decode cX7_isOwn 1 = .ok (.bipush 7, 2) := by decide +kernel
theorem dX7_isOwn_3 : decode cX7_isOwn 3 = .ok (.bipush 70, 2) := by decide +kernel
theorem dX7_isOwn_5 : decode cX7_isOwn 5 = .ok (.invokestatic 51, 3) := by decide +kernel
theorem dX7_isOwn_8 : decode cX7_isOwn 8 = .ok (.ifCond .eq 21, 3) := by decide +kernel
theorem dX7_isOwn_11 : decode cX7_isOwn 11 = .ok (.iload_n 1, 1) := by decide +kernel
theorem dX7_isOwn_12 : decode cX7_isOwn 12 = .ok (.invokestatic 59, 3) := by decide +kernel
theorem dX7_isOwn_15 : decode cX7_isOwn 15 = .ok (.ifCond .eq 14, 3) := by decide +kernel
theorem dX7_isOwn_18 : decode cX7_isOwn 18 = .ok (.iload_n 2, 1) := by decide +kernel
theorem dX7_isOwn_19 : decode cX7_isOwn 19 = .ok (.invokestatic 63, 3) := by decide +kernel
theorem dX7_isOwn_22 : decode cX7_isOwn 22 = .ok (.ifCond .eq 7, 3) := by decide +kernel
theorem dX7_isOwn_25 : decode cX7_isOwn 25 = .ok (.iconst 1, 1) := by decide +kernel
theorem dX7_isOwn_26 : decode cX7_isOwn 26 = .ok (.goto 4, 3) := by decide +kernel
theorem dX7_isOwn_29 : decode cX7_isOwn 29 = .ok (.iconst 0, 1) := by decide +kernel
theorem dX7_isOwn_30 : decode cX7_isOwn 30 = .ok (.ireturn, 1) := by decide +kernel
set_option maxRecDepth 20000 in
theorem ggX7_registers_X7_enters : GoodIn wsX7_registers wsX7_enters := goodIn_r _ [6, 1, 7, 8, 9, 5, 10, 11, 12, 13, 14, 15, 16, 17, 18, 19, 20, 21, 22, 23, 24, 25, 26] (by decide +kernel) (by decide +kernel)
set_option maxRecDepth 20000 in
theorem gX7_registers_X7_enters : GoodIn wsX7_registers (wsV RX7 66 RX7 yX7_enters wsX7_enters) := goodIn_app (goodIn_of _ (by decide +kernel)) ggX7_registers_X7_enters
set_option maxRecDepth 20000 in
theorem ggX7_registers_X7_lay : GoodIn wsX7_registers wsX7_lay := goodIn_r _ [10, 1, 11, 12, 13, 14, 15, 16, 17, 18, 19, 20, 21, 22, 23, 24, 25, 26] (by decide +kernel) (by decide +kernel)
set_option maxRecDepth 20000 in
theorem gX7_registers_X7_lay : GoodIn wsX7_registers (wsV RX7 55 RX7 yX7_lay wsX7_lay) := goodIn_app (goodIn_of _ (by decide +kernel)) ggX7_registers_X7_lay
theorem dX7_registers_0 : decode cX7_registers 0 = .ok (.aload_n 0, 1) := by decide +kernel
theorem dX7_registers_1 : decode cX7_registers 1 = .ok (.iconst (-1), 1) := by decide +kernel
theorem dX7_registers_2 : decode cX7_registers 2 = .ok (.iload_n 1, 1) := by decide +kernel
theorem dX7_registers_3 : decode cX7_registers 3 = .ok (.iload_n 2, 1) := by decide +kernel
theorem dX7_registers_4 : decode cX7_registers 4 = .ok (.iload_n 3, 1) := by decide +kernel
theorem dX7_registers_5 : decode cX7_registers 5 = .ok (.iload 4, 2) := by decide +kernel
theorem dX7_registers_7 : decode cX7_registers 7 = .ok (.invokevirtual 66, 3) := by decide +kernel
theorem dX7_registers_10 : decode cX7_registers 10 = .ok (.istore 6, 2) := by decide +kernel
theorem dX7_registers_12 : decode cX7_registers 12 = .ok (.aload_n 0, 1) := by decide +kernel
theorem dX7_registers_13 : decode cX7_registers 13 = .ok (.iload 6, 2) := by decide +kernel
theorem dX7_registers_15 : decode cX7_registers 15 = .ok (.bipush 6, 2) := by decide +kernel
theorem dX7_registers_17 : decode cX7_registers 17 = .ok (.iload_n 1, 1) := by decide +kernel
theorem dX7_registers_18 : decode cX7_registers 18 = .ok (.iload 5, 2) := by decide +kernel
theorem dX7_registers_20 : decode cX7_registers 20 = .ok (.if_icmp .ge 21, 3) := by decide +kernel
theorem dX7_registers_23 : decode cX7_registers 23 = .ok (.aload_n 0, 1) := by decide +kernel
theorem dX7_registers_24 : decode cX7_registers 24 = .ok (.getfield 7, 3) := by decide +kernel
theorem dX7_registers_27 : decode cX7_registers 27 = .ok (.iconst 0, 1) := by decide +kernel
theorem dX7_registers_28 : decode cX7_registers 28 = .ok (.iaload, 1) := by decide +kernel
theorem dX7_registers_29 : decode cX7_registers 29 = .ok (.sipush 360, 3) := by decide +kernel
theorem dX7_registers_32 : decode cX7_registers 32 = .ok (.iload 5, 2) := by decide +kernel
theorem dX7_registers_34 : decode cX7_registers 34 = .ok (.iload_n 1, 1) := by decide +kernel
theorem dX7_registers_35 : decode cX7_registers 35 = .ok (.isub, 1) := by decide +kernel
theorem dX7_registers_36 : decode cX7_registers 36 = .ok (.imul, 1) := by decide +kernel
theorem dX7_registers_37 : decode cX7_registers 37 = .ok (.iadd, 1) := by decide +kernel
theorem dX7_registers_38 : decode cX7_registers 38 = .ok (.goto 4, 3) := by decide +kernel
theorem dX7_registers_41 : decode cX7_registers 41 = .ok (.iconst (-1), 1) := by decide +kernel
theorem dX7_registers_42 : decode cX7_registers 42 = .ok (.invokevirtual 55, 3) := by decide +kernel
theorem dX7_registers_45 : decode cX7_registers 45 = .ok (.iload 6, 2) := by decide +kernel
theorem dX7_registers_47 : decode cX7_registers 47 = .ok (.ireturn, 1) := by decide +kernel
set_option maxRecDepth 20000 in
theorem ggX7_there_X7_its : GoodIn wsX7_there wsX7_its := goodIn_r _ [6, 1, 7, 8, 9, 10, 11, 12, 13, 14, 15, 16, 17, 18, 19, 20, 21, 22] (by decide +kernel) (by decide +kernel)
set_option maxRecDepth 20000 in
theorem gX7_there_X7_its : GoodIn wsX7_there (wsV RX7 70 RX7 yX7_its wsX7_its) := goodIn_app (goodIn_of _ (by decide +kernel)) ggX7_there_X7_its
theorem dX7_there_0 : decode cX7_there 0 = .ok (.iconst 0, 1) := by decide +kernel
theorem dX7_there_1 : decode cX7_there 1 = .ok (.istore_n 1, 1) := by decide +kernel
theorem dX7_there_2 : decode cX7_there 2 = .ok (.iconst 0, 1) := by decide +kernel
theorem dX7_there_3 : decode cX7_there 3 = .ok (.istore_n 2, 1) := by decide +kernel
theorem dX7_there_4 : decode cX7_there 4 = .ok (.iload_n 2, 1) := by decide +kernel
theorem dX7_there_5 : decode cX7_there 5 = .ok (.aload_n 0, 1) := by decide +kernel
theorem dX7_there_6 : decode cX7_there 6 = .ok (.getfield 7, 3) := by decide +kernel
theorem dX7_there_9 : decode cX7_there 9 = .ok (.iconst 1, 1) := by decide +kernel
theorem dX7_there_10 : decode cX7_there 10 = .ok (.iaload, 1) := by decide +kernel
theorem dX7_there_11 : decode cX7_there 11 = .ok (.if_icmp .ge 21, 3) := by decide +kernel
theorem dX7_there_14 : decode cX7_there 14 = .ok (.iload_n 1, 1) := by decide +kernel
theorem dX7_there_15 : decode cX7_there 15 = .ok (.iconst 1, 1) := by decide +kernel
theorem dX7_there_16 : decode cX7_there 16 = .ok (.aload_n 0, 1) := by decide +kernel
theorem dX7_there_17 : decode cX7_there 17 = .ok (.iload_n 2, 1) := by decide +kernel
theorem dX7_there_18 : decode cX7_there 18 = .ok (.bipush 7, 2) := by decide +kernel
theorem dX7_there_20 : decode cX7_there 20 = .ok (.invokevirtual 70, 3) := by decide +kernel
theorem dX7_there_23 : decode cX7_there 23 = .ok (.isub, 1) := by decide +kernel
theorem dX7_there_24 : decode cX7_there 24 = .ok (.iadd, 1) := by decide +kernel
theorem dX7_there_25 : decode cX7_there 25 = .ok (.istore_n 1, 1) := by decide +kernel
theorem dX7_there_26 : decode cX7_there 26 = .ok (.iinc 2 1, 3) := by decide +kernel
theorem dX7_there_29 : decode cX7_there 29 = .ok (.goto (-25), 3) := by decide +kernel
theorem dX7_there_32 : decode cX7_there 32 = .ok (.iload_n 1, 1) := by decide +kernel
theorem dX7_there_33 : decode cX7_there 33 = .ok (.ireturn, 1) := by decide +kernel
set_option maxRecDepth 20000 in
theorem ggX7_leaves_X7_lay : GoodIn wsX7_leaves wsX7_lay := goodIn_r _ [5, 6, 15, 16, 17, 18, 19, 20, 21, 22, 23, 24, 25, 26, 27, 28, 29, 30] (by decide +kernel) (by decide +kernel)
set_option maxRecDepth 20000 in
theorem gX7_leaves_X7_lay : GoodIn wsX7_leaves (wsV RX7 55 RX7 yX7_lay wsX7_lay) := goodIn_app (goodIn_of _ (by decide +kernel)) ggX7_leaves_X7_lay
set_option maxRecDepth 20000 in
theorem ggX7_leaves_X7_there : GoodIn wsX7_leaves wsX7_there := goodIn_r _ [10, 6, 11, 12, 13, 4, 14, 15, 16, 17, 18, 19, 20, 21, 22, 23, 24, 25, 26, 27, 28, 29, 30] (by decide +kernel) (by decide +kernel)
set_option maxRecDepth 20000 in
theorem gX7_leaves_X7_there : GoodIn wsX7_leaves (wsV RX7 74 RX7 yX7_there wsX7_there) := goodIn_app (goodIn_of _ (by decide +kernel)) ggX7_leaves_X7_there
theorem dX7_leaves_0 : decode cX7_leaves 0 = .ok (.aload_n 0, 1) := by decide +kernel
theorem dX7_leaves_1 : decode cX7_leaves 1 = .ok (.iload_n 1, 1) := by decide +kernel
theorem dX7_leaves_2 : decode cX7_leaves 2 = .ok (.bipush 7, 2) := by decide +kernel
theorem dX7_leaves_4 : decode cX7_leaves 4 = .ok (.iconst 1, 1) := by decide +kernel
theorem dX7_leaves_5 : decode cX7_leaves 5 = .ok (.invokevirtual 55, 3) := by decide +kernel
theorem dX7_leaves_8 : decode cX7_leaves 8 = .ok (.aload_n 0, 1) := by decide +kernel
theorem dX7_leaves_9 : decode cX7_leaves 9 = .ok (.invokevirtual 74, 3) := by decide +kernel
theorem dX7_leaves_12 : decode cX7_leaves 12 = .ok (.ireturn, 1) := by decide +kernel
set_option maxRecDepth 20000 in
theorem ggX7_canLend_X7_its : GoodIn wsX7_canLend wsX7_its := goodIn_r _ [6, 1, 7, 8, 9, 10, 11, 12, 13, 14, 15, 16, 17, 18, 19, 20, 21, 22] (by decide +kernel) (by decide +kernel)
set_option maxRecDepth 20000 in
theorem gX7_canLend_X7_its : GoodIn wsX7_canLend (wsV RX7 70 RX7 yX7_its wsX7_its) := goodIn_app (goodIn_of _ (by decide +kernel)) ggX7_canLend_X7_its
theorem dX7_canLend_0 : decode cX7_canLend 0 = .ok (.aload_n 0, 1) := by decide +kernel
theorem dX7_canLend_1 : decode cX7_canLend 1 = .ok (.iload_n 1, 1) := by decide +kernel
theorem dX7_canLend_2 : decode cX7_canLend 2 = .ok (.bipush 7, 2) := by decide +kernel
theorem dX7_canLend_4 : decode cX7_canLend 4 = .ok (.invokevirtual 70, 3) := by decide +kernel
theorem dX7_canLend_7 : decode cX7_canLend 7 = .ok (.ifCond .ne 33, 3) := by decide +kernel
theorem dX7_canLend_10 : decode cX7_canLend 10 = .ok (.aload_n 0, 1) := by decide +kernel
theorem dX7_canLend_11 : decode cX7_canLend 11 = .ok (.iload_n 1, 1) := by decide +kernel
theorem dX7_canLend_12 : decode cX7_canLend 12 = .ok (.iconst 0, 1) := by decide +kernel
theorem dX7_canLend_13 : decode cX7_canLend 13 = .ok (.invokevirtual 70, 3) := by decide +kernel
theorem dX7_canLend_16 : decode cX7_canLend 16 = .ok (.iconst (-1), 1) := by decide +kernel
theorem dX7_canLend_17 : decode cX7_canLend 17 = .ok (.if_icmp .ne 23, 3) := by decide +kernel
theorem dX7_canLend_20 : decode cX7_canLend 20 = .ok (.aload_n 0, 1) := by decide +kernel
theorem dX7_canLend_21 : decode cX7_canLend 21 = .ok (.iload_n 1, 1) := by decide +kernel
theorem dX7_canLend_22 : decode cX7_canLend 22 = .ok (.bipush 10, 2) := by decide +kernel
theorem dX7_canLend_24 : decode cX7_canLend 24 = .ok (.invokevirtual 70, 3) := by decide +kernel
theorem dX7_canLend_27 : decode cX7_canLend 27 = .ok (.aload_n 0, 1) := by decide +kernel
theorem dX7_canLend_28 : decode cX7_canLend 28 = .ok (.getfield 7, 3) := by decide +kernel
theorem dX7_canLend_31 : decode cX7_canLend 31 = .ok (.iconst 0, 1) := by decide +kernel
theorem dX7_canLend_32 : decode cX7_canLend 32 = .ok (.iaload, 1) := by decide +kernel
theorem dX7_canLend_33 : decode cX7_canLend 33 = .ok (.if_icmp .ge 7, 3) := by decide +kernel
theorem dX7_canLend_36 : decode cX7_canLend 36 = .ok (.iconst 1, 1) := by decide +kernel
theorem dX7_canLend_37 : decode cX7_canLend 37 = .ok (.goto 4, 3) := by decide +kernel
theorem dX7_canLend_40 : decode cX7_canLend 40 = .ok (.iconst 0, 1) := by decide +kernel
theorem dX7_canLend_41 : decode cX7_canLend 41 = .ok (.ireturn, 1) := by decide +kernel
set_option maxRecDepth 20000 in
theorem ggX7_lends_X7_lay : GoodIn wsX7_lends wsX7_lay := goodIn_r _ [6, 1, 7, 8, 9, 10, 11, 12, 13, 14, 15, 16, 17, 18, 19, 20, 21, 22] (by decide +kernel) (by decide +kernel)
set_option maxRecDepth 20000 in
theorem gX7_lends_X7_lay : GoodIn wsX7_lends (wsV RX7 55 RX7 yX7_lay wsX7_lay) := goodIn_app (goodIn_of _ (by decide +kernel)) ggX7_lends_X7_lay
theorem dX7_lends_0 : decode cX7_lends 0 = .ok (.aload_n 0, 1) := by decide +kernel
theorem dX7_lends_1 : decode cX7_lends 1 = .ok (.iload_n 1, 1) := by decide +kernel
theorem dX7_lends_2 : decode cX7_lends 2 = .ok (.bipush 10, 2) := by decide +kernel
theorem dX7_lends_4 : decode cX7_lends 4 = .ok (.aload_n 0, 1) := by decide +kernel
theorem dX7_lends_5 : decode cX7_lends 5 = .ok (.getfield 7, 3) := by decide +kernel
theorem dX7_lends_8 : decode cX7_lends 8 = .ok (.iconst 0, 1) := by decide +kernel
theorem dX7_lends_9 : decode cX7_lends 9 = .ok (.iaload, 1) := by decide +kernel
theorem dX7_lends_10 : decode cX7_lends 10 = .ok (.iload_n 3, 1) := by decide +kernel
theorem dX7_lends_11 : decode cX7_lends 11 = .ok (.iadd, 1) := by decide +kernel
theorem dX7_lends_12 : decode cX7_lends 12 = .ok (.invokevirtual 55, 3) := by decide +kernel
theorem dX7_lends_15 : decode cX7_lends 15 = .ok (.aload_n 0, 1) := by decide +kernel
theorem dX7_lends_16 : decode cX7_lends 16 = .ok (.getfield 7, 3) := by decide +kernel
theorem dX7_lends_19 : decode cX7_lends 19 = .ok (.bipush 8, 2) := by decide +kernel
theorem dX7_lends_21 : decode cX7_lends 21 = .ok (.iload_n 2, 1) := by decide +kernel
theorem dX7_lends_22 : decode cX7_lends 22 = .ok (.iadd, 1) := by decide +kernel
theorem dX7_lends_23 : decode cX7_lends 23 = .ok (.dup2, 1) := by decide +kernel
theorem dX7_lends_24 : decode cX7_lends 24 = .ok (.iaload, 1) := by decide +kernel
theorem dX7_lends_25 : decode cX7_lends 25 = .ok (.iconst 1, 1) := by decide +kernel
theorem dX7_lends_26 : decode cX7_lends 26 = .ok (.iadd, 1) := by decide +kernel
theorem dX7_lends_27 : decode cX7_lends 27 = .ok (.iastore, 1) := by decide +kernel
theorem dX7_lends_28 : decode cX7_lends 28 = .ok (.aload_n 0, 1) := by decide +kernel
theorem dX7_lends_29 : decode cX7_lends 29 = .ok (.getfield 7, 3) := by decide +kernel
theorem dX7_lends_32 : decode cX7_lends 32 = .ok (.iconst 5, 1) := by decide +kernel
theorem dX7_lends_33 : decode cX7_lends 33 = .ok (.dup2, 1) := by decide +kernel
theorem dX7_lends_34 : decode cX7_lends 34 = .ok (.iaload, 1) := by decide +kernel
theorem dX7_lends_35 : decode cX7_lends 35 = .ok (.iconst 2, 1) := by decide +kernel
theorem dX7_lends_36 : decode cX7_lends 36 = .ok (.iload_n 3, 1) := by decide +kernel
theorem dX7_lends_37 : decode cX7_lends 37 = .ok (.imul, 1) := by decide +kernel
theorem dX7_lends_38 : decode cX7_lends 38 = .ok (.iadd, 1) := by decide +kernel
theorem dX7_lends_39 : decode cX7_lends 39 = .ok (.iastore, 1) := by decide +kernel
theorem dX7_lends_40 : decode cX7_lends 40 = .ok (.aload_n 0, 1) := by decide +kernel
theorem dX7_lends_41 : decode cX7_lends 41 = .ok (.getfield 7, 3) := by decide +kernel
theorem dX7_lends_44 : decode cX7_lends 44 = .ok (.iconst 0, 1) := by decide +kernel
theorem dX7_lends_45 : decode cX7_lends 45 = .ok (.iaload, 1) := by decide +kernel
theorem dX7_lends_46 : decode cX7_lends 46 = .ok (.iload_n 3, 1) := by decide +kernel
theorem dX7_lends_47 : decode cX7_lends 47 = .ok (.iadd, 1) := by decide +kernel
theorem dX7_lends_48 : decode cX7_lends 48 = .ok (.ireturn, 1) := by decide +kernel
theorem dX7_areDays_0 : decode cX7_areDays 0 = .ok (.iload_n 1, 1) := by decide +kernel
theorem dX7_areDays_1 : decode cX7_areDays 1 = .ok (.aload_n 0, 1) := by decide +kernel
theorem dX7_areDays_2 : decode cX7_areDays 2 = .ok (.getfield 7, 3) := by decide +kernel
theorem dX7_areDays_5 : decode cX7_areDays 5 = .ok (.iconst 0, 1) := by decide +kernel
theorem dX7_areDays_6 : decode cX7_areDays 6 = .ok (.iaload, 1) := by decide +kernel
theorem dX7_areDays_7 : decode cX7_areDays 7 = .ok (.if_icmp .le 27, 3) := by decide +kernel
theorem dX7_areDays_10 : decode cX7_areDays 10 = .ok (.iload_n 1, 1) := by decide +kernel
theorem dX7_areDays_11 : decode cX7_areDays 11 = .ok (.sipush 9999, 3) := by decide +kernel
theorem dX7_areDays_14 : decode cX7_areDays 14 = .ok (.if_icmp .gt 20, 3) := by decide +kernel
theorem dX7_areDays_17 : decode cX7_areDays 17 = .ok (.iload_n 2, 1) := by decide +kernel
theorem dX7_areDays_18 : decode cX7_areDays 18 = .ok (.iload_n 1, 1) := by decide +kernel
theorem dX7_areDays_19 : decode cX7_areDays 19 = .ok (.if_icmp .lt 15, 3) := by decide +kernel
theorem dX7_areDays_22 : decode cX7_areDays 22 = .ok (.iload_n 2, 1) := by decide +kernel
theorem dX7_areDays_23 : decode cX7_areDays 23 = .ok (.iload_n 1, 1) := by decide +kernel
theorem dX7_areDays_24 : decode cX7_areDays 24 = .ok (.isub, 1) := by decide +kernel
theorem dX7_areDays_25 : decode cX7_areDays 25 = .ok (.bipush 60, 2) := by decide +kernel
theorem dX7_areDays_27 : decode cX7_areDays 27 = .ok (.if_icmp .gt 7, 3) := by decide +kernel
theorem dX7_areDays_30 : decode cX7_areDays 30 = .ok (.iconst 1, 1) := by decide +kernel
theorem dX7_areDays_31 : decode cX7_areDays 31 = .ok (.goto 4, 3) := by decide +kernel
theorem dX7_areDays_34 : decode cX7_areDays 34 = .ok (.iconst 0, 1) := by decide +kernel
theorem dX7_areDays_35 : decode cX7_areDays 35 = .ok (.ireturn, 1) := by decide +kernel
theorem dX7_notes_0 : decode cX7_notes 0 = .ok (.iconst 0, 1) := by decide +kernel
theorem dX7_notes_1 : decode cX7_notes 1 = .ok (.istore 4, 2) := by decide +kernel
theorem dX7_notes_3 : decode cX7_notes 3 = .ok (.iconst 0, 1) := by decide +kernel
theorem dX7_notes_4 : decode cX7_notes 4 = .ok (.istore 5, 2) := by decide +kernel
theorem dX7_notes_6 : decode cX7_notes 6 = .ok (.iload 5, 2) := by decide +kernel
theorem dX7_notes_8 : decode cX7_notes 8 = .ok (.aload_n 0, 1) := by decide +kernel
theorem dX7_notes_9 : decode cX7_notes 9 = .ok (.getfield 7, 3) := by decide +kernel
theorem dX7_notes_12 : decode cX7_notes 12 = .ok (.iconst 2, 1) := by decide +kernel
theorem dX7_notes_13 : decode cX7_notes 13 = .ok (.iaload, 1) := by decide +kernel
theorem dX7_notes_14 : decode cX7_notes 14 = .ok (.if_icmp .ge 66, 3) := by decide +kernel
theorem dX7_notes_17 : decode cX7_notes 17 = .ok (.sipush 403, 3) := by decide +kernel
theorem dX7_notes_20 : decode cX7_notes 20 = .ok (.iconst 3, 1) := by decide +kernel
theorem dX7_notes_21 : decode cX7_notes 21 = .ok (.iload 5, 2) := by decide +kernel
theorem dX7_notes_23 : decode cX7_notes 23 = .ok (.imul, 1) := by decide +kernel
theorem dX7_notes_24 : decode cX7_notes 24 = .ok (.iadd, 1) := by decide +kernel
theorem dX7_notes_25 : decode cX7_notes 25 = .ok (.istore 6, 2) := by decide +kernel
theorem dX7_notes_27 : decode cX7_notes 27 = .ok (.iload 4, 2) := by decide +kernel
theorem dX7_notes_29 : decode cX7_notes 29 = .ok (.aload_n 0, 1) := by decide +kernel
theorem dX7_notes_30 : decode cX7_notes 30 = .ok (.getfield 7, 3) := by decide +kernel
theorem dX7_notes_33 : decode cX7_notes 33 = .ok (.iload 6, 2) := by decide +kernel
theorem dX7_notes_35 : decode cX7_notes 35 = .ok (.iaload, 1) := by decide +kernel
theorem dX7_notes_36 : decode cX7_notes 36 = .ok (.iload_n 1, 1) := by decide +kernel
theorem dX7_notes_37 : decode cX7_notes 37 = .ok (.if_icmp .ne 33, 3) := by decide +kernel
theorem dX7_notes_40 : decode cX7_notes 40 = .ok (.aload_n 0, 1) := by decide +kernel
theorem dX7_notes_41 : decode cX7_notes 41 = .ok (.getfield 7, 3) := by decide +kernel
theorem dX7_notes_44 : decode cX7_notes 44 = .ok (.iload 6, 2) := by decide +kernel
theorem dX7_notes_46 : decode cX7_notes 46 = .ok (.iconst 1, 1) := by decide +kernel
theorem dX7_notes_47 : decode cX7_notes 47 = .ok (.iadd, 1) := by decide +kernel
theorem dX7_notes_48 : decode cX7_notes 48 = .ok (.iaload, 1) := by decide +kernel
theorem dX7_notes_49 : decode cX7_notes 49 = .ok (.iload_n 3, 1) := by decide +kernel
theorem dX7_notes_50 : decode cX7_notes 50 = .ok (.if_icmp .gt 20, 3) := by decide +kernel
theorem dX7_notes_53 : decode cX7_notes 53 = .ok (.aload_n 0, 1) := by decide +kernel
theorem dX7_notes_54 : decode cX7_notes 54 = .ok (.getfield 7, 3) := by decide +kernel
theorem dX7_notes_57 : decode cX7_notes 57 = .ok (.iload 6, 2) := by decide +kernel
theorem dX7_notes_59 : decode cX7_notes 59 = .ok (.iconst 2, 1) := by decide +kernel
theorem dX7_notes_60 : decode cX7_notes 60 = .ok (.iadd, 1) := by decide +kernel
theorem dX7_notes_61 : decode cX7_notes 61 = .ok (.iaload, 1) := by decide +kernel
theorem dX7_notes_62 : decode cX7_notes 62 = .ok (.iload_n 2, 1) := by decide +kernel
theorem dX7_notes_63 : decode cX7_notes 63 = .ok (.if_icmp .lt 7, 3) := by decide +kernel
theorem dX7_notes_66 : decode cX7_notes 66 = .ok (.iconst 1, 1) := by decide +kernel
theorem dX7_notes_67 : decode cX7_notes 67 = .ok (.goto 4, 3) := by decide +kernel
theorem dX7_notes_70 : decode cX7_notes 70 = .ok (.iconst 0, 1) := by decide +kernel
theorem dX7_notes_71 : decode cX7_notes 71 = .ok (.iadd, 1) := by decide +kernel
theorem dX7_notes_72 : decode cX7_notes 72 = .ok (.istore 4, 2) := by decide +kernel
theorem dX7_notes_74 : decode cX7_notes 74 = .ok (.iinc 5 1, 3) := by decide +kernel
theorem dX7_notes_77 : decode cX7_notes 77 = .ok (.goto (-71), 3) := by decide +kernel
theorem dX7_notes_80 : decode cX7_notes 80 = .ok (.iload 4, 2) := by decide +kernel
theorem dX7_notes_82 : decode cX7_notes 82 = .ok (.ireturn, 1) := by decide +kernel
set_option maxRecDepth 20000 in
theorem ggX7_canExcuse_X7_its : GoodIn wsX7_canExcuse wsX7_its := goodIn_r _ [6, 1, 11, 12, 13, 14, 15, 16, 17, 18, 19, 20, 21, 22, 23, 24, 25, 26] (by decide +kernel) (by decide +kernel)
set_option maxRecDepth 20000 in
theorem gX7_canExcuse_X7_its : GoodIn wsX7_canExcuse (wsV RX7 70 RX7 yX7_its wsX7_its) := goodIn_app (goodIn_of _ (by decide +kernel)) ggX7_canExcuse_X7_its
set_option maxRecDepth 20000 in
theorem ggX7_canExcuse_X7_notes : GoodIn wsX7_canExcuse wsX7_notes := goodIn_r _ [10, 1, 11, 12, 13, 14, 15, 16, 17, 18, 19, 20, 21, 22, 23, 24, 25, 26] (by decide +kernel) (by decide +kernel)
set_option maxRecDepth 20000 in
theorem gX7_canExcuse_X7_notes : GoodIn wsX7_canExcuse (wsV RX7 78 RX7 yX7_notes wsX7_notes) := goodIn_app (goodIn_of _ (by decide +kernel)) ggX7_canExcuse_X7_notes
theorem dX7_canExcuse_0 : decode cX7_canExcuse 0 = .ok (.aload_n 0, 1) := by decide +kernel
theorem dX7_canExcuse_1 : decode cX7_canExcuse 1 = .ok (.iload_n 1, 1) := by decide +kernel
theorem dX7_canExcuse_2 : decode cX7_canExcuse 2 = .ok (.bipush 7, 2) := by decide +kernel
theorem dX7_canExcuse_4 : decode cX7_canExcuse 4 = .ok (.invokevirtual 70, 3) := by decide +kernel
theorem dX7_canExcuse_7 : decode cX7_canExcuse 7 = .ok (.ifCond .ne 28, 3) := by decide +kernel
theorem dX7_canExcuse_10 : decode cX7_canExcuse 10 = .ok (.aload_n 0, 1) := by decide +kernel
theorem dX7_canExcuse_11 : decode cX7_canExcuse 11 = .ok (.iload_n 1, 1) := by decide +kernel
theorem dX7_canExcuse_12 : decode cX7_canExcuse 12 = .ok (.iload_n 2, 1) := by decide +kernel
theorem dX7_canExcuse_13 : decode cX7_canExcuse 13 = .ok (.iload_n 3, 1) := by decide +kernel
theorem dX7_canExcuse_14 : decode cX7_canExcuse 14 = .ok (.invokevirtual 78, 3) := by decide +kernel
theorem dX7_canExcuse_17 : decode cX7_canExcuse 17 = .ok (.ifCond .ne 18, 3) := by decide +kernel
theorem dX7_canExcuse_20 : decode cX7_canExcuse 20 = .ok (.aload_n 0, 1) := by decide +kernel
theorem dX7_canExcuse_21 : decode cX7_canExcuse 21 = .ok (.getfield 7, 3) := by decide +kernel
theorem dX7_canExcuse_24 : decode cX7_canExcuse 24 = .ok (.iconst 2, 1) := by decide +kernel
theorem dX7_canExcuse_25 : decode cX7_canExcuse 25 = .ok (.iaload, 1) := by decide +kernel
theorem dX7_canExcuse_26 : decode cX7_canExcuse 26 = .ok (.bipush 60, 2) := by decide +kernel
theorem dX7_canExcuse_28 : decode cX7_canExcuse 28 = .ok (.if_icmp .ge 7, 3) := by decide +kernel
theorem dX7_canExcuse_31 : decode cX7_canExcuse 31 = .ok (.iconst 1, 1) := by decide +kernel
theorem dX7_canExcuse_32 : decode cX7_canExcuse 32 = .ok (.goto 4, 3) := by decide +kernel
theorem dX7_canExcuse_35 : decode cX7_canExcuse 35 = .ok (.iconst 0, 1) := by decide +kernel
theorem dX7_canExcuse_36 : decode cX7_canExcuse 36 = .ok (.ireturn, 1) := by decide +kernel
set_option maxRecDepth 20000 in
theorem ggX7_excuses_X7_notes : GoodIn wsX7_excuses wsX7_notes := goodIn_r _ [7, 1, 8, 9, 10, 11, 12, 13, 14, 15, 16, 17, 18, 19, 20, 21, 22, 23] (by decide +kernel) (by decide +kernel)
set_option maxRecDepth 20000 in
theorem gX7_excuses_X7_notes : GoodIn wsX7_excuses (wsV RX7 78 RX7 yX7_notes wsX7_notes) := goodIn_app (goodIn_of _ (by decide +kernel)) ggX7_excuses_X7_notes
theorem dX7_excuses_0 : decode cX7_excuses 0 = .ok (.sipush 403, 3) := by decide +kernel
theorem dX7_excuses_3 : decode cX7_excuses 3 = .ok (.iconst 3, 1) := by decide +kernel
theorem dX7_excuses_4 : decode cX7_excuses 4 = .ok (.aload_n 0, 1) := by decide +kernel
theorem dX7_excuses_5 : decode cX7_excuses 5 = .ok (.getfield 7, 3) := by decide +kernel
theorem dX7_excuses_8 : decode cX7_excuses 8 = .ok (.iconst 2, 1) := by decide +kernel
theorem dX7_excuses_9 : decode cX7_excuses 9 = .ok (.iaload, 1) := by decide +kernel
theorem dX7_excuses_10 : decode cX7_excuses 10 = .ok (.imul, 1) := by decide +kernel
theorem dX7_excuses_11 : decode cX7_excuses 11 = .ok (.iadd, 1) := by decide +kernel
theorem dX7_excuses_12 : decode cX7_excuses 12 = .ok (.istore 4, 2) := by decide +kernel
theorem dX7_excuses_14 : decode cX7_excuses 14 = .ok (.aload_n 0, 1) := by decide +kernel
theorem dX7_excuses_15 : decode cX7_excuses 15 = .ok (.getfield 7, 3) := by decide +kernel
theorem dX7_excuses_18 : decode cX7_excuses 18 = .ok (.iload 4, 2) := by decide +kernel
theorem dX7_excuses_20 : decode cX7_excuses 20 = .ok (.iload_n 1, 1) := by decide +kernel
theorem dX7_excuses_21 : decode cX7_excuses 21 = .ok (.iastore, 1) := by decide +kernel
theorem dX7_excuses_22 : decode cX7_excuses 22 = .ok (.aload_n 0, 1) := by decide +kernel
theorem dX7_excuses_23 : decode cX7_excuses 23 = .ok (.getfield 7, 3) := by decide +kernel
theorem dX7_excuses_26 : decode cX7_excuses 26 = .ok (.iload 4, 2) := by decide +kernel
theorem dX7_excuses_28 : decode cX7_excuses 28 = .ok (.iconst 1, 1) := by decide +kernel
theorem dX7_excuses_29 : decode cX7_excuses 29 = .ok (.iadd, 1) := by decide +kernel
theorem dX7_excuses_30 : decode cX7_excuses 30 = .ok (.iload_n 2, 1) := by decide +kernel
theorem dX7_excuses_31 : decode cX7_excuses 31 = .ok (.iastore, 1) := by decide +kernel
theorem dX7_excuses_32 : decode cX7_excuses 32 = .ok (.aload_n 0, 1) := by decide +kernel
theorem dX7_excuses_33 : decode cX7_excuses 33 = .ok (.getfield 7, 3) := by decide +kernel
theorem dX7_excuses_36 : decode cX7_excuses 36 = .ok (.iload 4, 2) := by decide +kernel
theorem dX7_excuses_38 : decode cX7_excuses 38 = .ok (.iconst 2, 1) := by decide +kernel
theorem dX7_excuses_39 : decode cX7_excuses 39 = .ok (.iadd, 1) := by decide +kernel
theorem dX7_excuses_40 : decode cX7_excuses 40 = .ok (.iload_n 3, 1) := by decide +kernel
theorem dX7_excuses_41 : decode cX7_excuses 41 = .ok (.iastore, 1) := by decide +kernel
theorem dX7_excuses_42 : decode cX7_excuses 42 = .ok (.aload_n 0, 1) := by decide +kernel
theorem dX7_excuses_43 : decode cX7_excuses 43 = .ok (.getfield 7, 3) := by decide +kernel
theorem dX7_excuses_46 : decode cX7_excuses 46 = .ok (.iconst 2, 1) := by decide +kernel
theorem dX7_excuses_47 : decode cX7_excuses 47 = .ok (.dup2, 1) := by decide +kernel
theorem dX7_excuses_48 : decode cX7_excuses 48 = .ok (.iaload, 1) := by decide +kernel
theorem dX7_excuses_49 : decode cX7_excuses 49 = .ok (.iconst 1, 1) := by decide +kernel
theorem dX7_excuses_50 : decode cX7_excuses 50 = .ok (.iadd, 1) := by decide +kernel
theorem dX7_excuses_51 : decode cX7_excuses 51 = .ok (.iastore, 1) := by decide +kernel
theorem dX7_excuses_52 : decode cX7_excuses 52 = .ok (.aload_n 0, 1) := by decide +kernel
theorem dX7_excuses_53 : decode cX7_excuses 53 = .ok (.iload_n 1, 1) := by decide +kernel
theorem dX7_excuses_54 : decode cX7_excuses 54 = .ok (.iconst 0, 1) := by decide +kernel
theorem dX7_excuses_55 : decode cX7_excuses 55 = .ok (.ldc 82, 2) := by decide +kernel
theorem dX7_excuses_57 : decode cX7_excuses 57 = .ok (.invokevirtual 78, 3) := by decide +kernel
theorem dX7_excuses_60 : decode cX7_excuses 60 = .ok (.ireturn, 1) := by decide +kernel
set_option maxRecDepth 20000 in
theorem ggX7_lower_X7_its : GoodIn wsX7_lower wsX7_its := goodIn_r _ [5, 6, 7, 8, 9, 10, 11, 12, 13, 14, 15, 16, 17, 18, 19, 20, 21, 22] (by decide +kernel) (by decide +kernel)
set_option maxRecDepth 20000 in
theorem gX7_lower_X7_its : GoodIn wsX7_lower (wsV RX7 70 RX7 yX7_its wsX7_its) := goodIn_app (goodIn_of _ (by decide +kernel)) ggX7_lower_X7_its
theorem dX7_lower_0 : decode cX7_lower 0 = .ok (.aload_n 0, 1) := by decide +kernel
theorem dX7_lower_1 : decode cX7_lower 1 = .ok (.iload_n 1, 1) := by decide +kernel
theorem dX7_lower_2 : decode cX7_lower 2 = .ok (.bipush 6, 2) := by decide +kernel
theorem dX7_lower_4 : decode cX7_lower 4 = .ok (.invokevirtual 70, 3) := by decide +kernel
theorem dX7_lower_7 : decode cX7_lower 7 = .ok (.istore_n 3, 1) := by decide +kernel
theorem dX7_lower_8 : decode cX7_lower 8 = .ok (.iload_n 3, 1) := by decide +kernel
theorem dX7_lower_9 : decode cX7_lower 9 = .ok (.iconst (-1), 1) := by decide +kernel
theorem dX7_lower_10 : decode cX7_lower 10 = .ok (.if_icmp .eq 16, 3) := by decide +kernel
theorem dX7_lower_13 : decode cX7_lower 13 = .ok (.iload_n 2, 1) := by decide +kernel
theorem dX7_lower_14 : decode cX7_lower 14 = .ok (.iload_n 3, 1) := by decide +kernel
theorem dX7_lower_15 : decode cX7_lower 15 = .ok (.bipush 89, 2) := by decide +kernel
theorem dX7_lower_17 : decode cX7_lower 17 = .ok (.iadd, 1) := by decide +kernel
theorem dX7_lower_18 : decode cX7_lower 18 = .ok (.if_icmp .le 8, 3) := by decide +kernel
theorem dX7_lower_21 : decode cX7_lower 21 = .ok (.bipush 12, 2) := by decide +kernel
theorem dX7_lower_23 : decode cX7_lower 23 = .ok (.goto 4, 3) := by decide +kernel
theorem dX7_lower_26 : decode cX7_lower 26 = .ok (.iconst 0, 1) := by decide +kernel
theorem dX7_lower_27 : decode cX7_lower 27 = .ok (.ireturn, 1) := by decide +kernel
set_option maxRecDepth 20000 in
theorem ggX7_note_X7_its : GoodIn wsX7_note wsX7_its := goodIn_r _ [5, 6, 11, 12, 13, 14, 15, 16, 17, 18, 19, 20, 21, 22, 23, 24, 25, 26] (by decide +kernel) (by decide +kernel)
set_option maxRecDepth 20000 in
theorem gX7_note_X7_its : GoodIn wsX7_note (wsV RX7 70 RX7 yX7_its wsX7_its) := goodIn_app (goodIn_of _ (by decide +kernel)) ggX7_note_X7_its
set_option maxRecDepth 20000 in
theorem ggX7_note_X7_lower : GoodIn wsX7_note wsX7_lower := goodIn_r _ [10, 1, 2, 3, 4, 5, 6, 11, 12, 13, 14, 15, 16, 17, 18, 19, 20, 21, 22, 23, 24, 25, 26] (by decide +kernel) (by decide +kernel)
set_option maxRecDepth 20000 in
theorem gX7_note_X7_lower : GoodIn wsX7_note (wsV RX7 83 RX7 yX7_lower wsX7_lower) := goodIn_app (goodIn_of _ (by decide +kernel)) ggX7_note_X7_lower
theorem dX7_note_0 : decode cX7_note 0 = .ok (.aload_n 0, 1) := by decide +kernel
theorem dX7_note_1 : decode cX7_note 1 = .ok (.iload_n 1, 1) := by decide +kernel
theorem dX7_note_2 : decode cX7_note 2 = .ok (.iload_n 2, 1) := by decide +kernel
theorem dX7_note_3 : decode cX7_note 3 = .ok (.invokevirtual 70, 3) := by decide +kernel
theorem dX7_note_6 : decode cX7_note 6 = .ok (.aload_n 0, 1) := by decide +kernel
theorem dX7_note_7 : decode cX7_note 7 = .ok (.iload_n 1, 1) := by decide +kernel
theorem dX7_note_8 : decode cX7_note 8 = .ok (.iload_n 3, 1) := by decide +kernel
theorem dX7_note_9 : decode cX7_note 9 = .ok (.invokevirtual 83, 3) := by decide +kernel
theorem dX7_note_12 : decode cX7_note 12 = .ok (.isub, 1) := by decide +kernel
theorem dX7_note_13 : decode cX7_note 13 = .ok (.istore 4, 2) := by decide +kernel
theorem dX7_note_15 : decode cX7_note 15 = .ok (.iload 4, 2) := by decide +kernel
theorem dX7_note_17 : decode cX7_note 17 = .ok (.ifCond .ge 7, 3) := by decide +kernel
theorem dX7_note_20 : decode cX7_note 20 = .ok (.iconst 0, 1) := by decide +kernel
theorem dX7_note_21 : decode cX7_note 21 = .ok (.goto 5, 3) := by decide +kernel
theorem dX7_note_24 : decode cX7_note 24 = .ok (.iload 4, 2) := by decide +kernel
theorem dX7_note_26 : decode cX7_note 26 = .ok (.ireturn, 1) := by decide +kernel
set_option maxRecDepth 20000 in
theorem ggX7_isBreaking_X7_its : GoodIn wsX7_isBreaking wsX7_its := goodIn_r _ [5, 6, 10, 11, 12, 13, 14, 15, 16, 17, 18, 19, 20, 21, 22, 23, 24, 25] (by decide +kernel) (by decide +kernel)
set_option maxRecDepth 20000 in
theorem gX7_isBreaking_X7_its : GoodIn wsX7_isBreaking (wsV RX7 70 RX7 yX7_its wsX7_its) := goodIn_app (goodIn_of _ (by decide +kernel)) ggX7_isBreaking_X7_its
set_option maxRecDepth 20000 in
theorem ggX7_isBreaking_X7_in : GoodIn wsX7_isBreaking wsX7_in := goodIn_r _ [9] (by decide +kernel) (by decide +kernel)
set_option maxRecDepth 20000 in
theorem gX7_isBreaking_X7_in : GoodIn wsX7_isBreaking (va_wsS RX7 51 yX7_in wsX7_in) := goodIn_app (goodIn_of _ (by decide +kernel)) ggX7_isBreaking_X7_in
theorem dX7_isBreaking_0 : decode cX7_isBreaking 0 = .ok (.aload_n 0, 1) := by decide +kernel
theorem dX7_isBreaking_1 : decode cX7_isBreaking 1 = .ok (.iload_n 1, 1) := by decide +kernel
theorem dX7_isBreaking_2 : decode cX7_isBreaking 2 = .ok (.bipush 6, 2) := by decide +kernel
theorem dX7_isBreaking_4 : decode cX7_isBreaking 4 = .ok (.invokevirtual 70, 3) := by decide +kernel
theorem dX7_isBreaking_7 : decode cX7_isBreaking 7 = .ok (.istore_n 3, 1) := by decide +kernel
theorem dX7_isBreaking_8 : decode cX7_isBreaking 8 = .ok (.iload_n 3, 1) := by decide +kernel
theorem dX7_isBreaking_9 : decode cX7_isBreaking 9 = .ok (.iconst (-1), 1) := by decide +kernel
theorem dX7_isBreaking_10 : decode cX7_isBreaking 10 = .ok (.if_icmp .eq 19, 3) := by decide +kernel
theorem dX7_isBreaking_13 : decode cX7_isBreaking 13 = .ok (.iload_n 2, 1) := by decide +kernel
theorem dX7_isBreaking_14 : decode cX7_isBreaking 14 = .ok (.iload_n 3, 1) := by decide +kernel
theorem dX7_isBreaking_15 : decode cX7_isBreaking 15 = .ok (.iload_n 3, 1) := by decide +kernel
theorem dX7_isBreaking_16 : decode cX7_isBreaking 16 = .ok (.bipush 89, 2) := by decide +kernel
theorem dX7_isBreaking_18 : decode cX7_isBreaking 18 = .ok (.iadd, 1) := by decide +kernel
theorem dX7_isBreaking_19 : decode cX7_isBreaking 19 = .ok (.invokestatic 51, 3) := by decide +kernel
theorem dX7_isBreaking_22 : decode cX7_isBreaking 22 = .ok (.ifCond .eq 7, 3) := by decide +kernel
theorem dX7_isBreaking_25 : decode cX7_isBreaking 25 = .ok (.iconst 1, 1) := by decide +kernel
theorem dX7_isBreaking_26 : decode cX7_isBreaking 26 = .ok (.goto 4, 3) := by decide +kernel
theorem dX7_isBreaking_29 : decode cX7_isBreaking 29 = .ok (.iconst 0, 1) := by decide +kernel
theorem dX7_isBreaking_30 : decode cX7_isBreaking 30 = .ok (.ireturn, 1) := by decide +kernel
set_option maxRecDepth 20000 in
theorem ggX7_willHaveLeft_X7_its : GoodIn wsX7_willHaveLeft wsX7_its := goodIn_r _ [5, 6, 7, 8, 9, 10, 11, 12, 13, 14, 15, 16, 17, 18, 19, 20, 21, 22] (by decide +kernel) (by decide +kernel)
set_option maxRecDepth 20000 in
theorem gX7_willHaveLeft_X7_its : GoodIn wsX7_willHaveLeft (wsV RX7 70 RX7 yX7_its wsX7_its) := goodIn_app (goodIn_of _ (by decide +kernel)) ggX7_willHaveLeft_X7_its
theorem dX7_willHaveLeft_0 : decode cX7_willHaveLeft 0 = .ok (.aload_n 0, 1) := by decide +kernel
theorem dX7_willHaveLeft_1 : decode cX7_willHaveLeft 1 = .ok (.iload_n 1, 1) := by decide +kernel
theorem dX7_willHaveLeft_2 : decode cX7_willHaveLeft 2 = .ok (.bipush 7, 2) := by decide +kernel
theorem dX7_willHaveLeft_4 : decode cX7_willHaveLeft 4 = .ok (.invokevirtual 70, 3) := by decide +kernel
theorem dX7_willHaveLeft_7 : decode cX7_willHaveLeft 7 = .ok (.iconst 1, 1) := by decide +kernel
theorem dX7_willHaveLeft_8 : decode cX7_willHaveLeft 8 = .ok (.if_icmp .eq 24, 3) := by decide +kernel
theorem dX7_willHaveLeft_11 : decode cX7_willHaveLeft 11 = .ok (.aload_n 0, 1) := by decide +kernel
theorem dX7_willHaveLeft_12 : decode cX7_willHaveLeft 12 = .ok (.iload_n 1, 1) := by decide +kernel
theorem dX7_willHaveLeft_13 : decode cX7_willHaveLeft 13 = .ok (.iconst 0, 1) := by decide +kernel
theorem dX7_willHaveLeft_14 : decode cX7_willHaveLeft 14 = .ok (.invokevirtual 70, 3) := by decide +kernel
theorem dX7_willHaveLeft_17 : decode cX7_willHaveLeft 17 = .ok (.iconst (-1), 1) := by decide +kernel
theorem dX7_willHaveLeft_18 : decode cX7_willHaveLeft 18 = .ok (.if_icmp .eq 18, 3) := by decide +kernel
theorem dX7_willHaveLeft_21 : decode cX7_willHaveLeft 21 = .ok (.iload_n 2, 1) := by decide +kernel
theorem dX7_willHaveLeft_22 : decode cX7_willHaveLeft 22 = .ok (.aload_n 0, 1) := by decide +kernel
theorem dX7_willHaveLeft_23 : decode cX7_willHaveLeft 23 = .ok (.iload_n 1, 1) := by decide +kernel
theorem dX7_willHaveLeft_24 : decode cX7_willHaveLeft 24 = .ok (.bipush 8, 2) := by decide +kernel
theorem dX7_willHaveLeft_26 : decode cX7_willHaveLeft 26 = .ok (.invokevirtual 70, 3) := by decide +kernel
theorem dX7_willHaveLeft_29 : decode cX7_willHaveLeft 29 = .ok (.if_icmp .le 7, 3) := by decide +kernel
theorem dX7_willHaveLeft_32 : decode cX7_willHaveLeft 32 = .ok (.iconst 1, 1) := by decide +kernel
theorem dX7_willHaveLeft_33 : decode cX7_willHaveLeft 33 = .ok (.goto 4, 3) := by decide +kernel
theorem dX7_willHaveLeft_36 : decode cX7_willHaveLeft 36 = .ok (.iconst 0, 1) := by decide +kernel
theorem dX7_willHaveLeft_37 : decode cX7_willHaveLeft 37 = .ok (.ireturn, 1) := by decide +kernel
set_option maxRecDepth 20000 in
theorem ggX7_isFeast_X7_in : GoodIn wsX7_isFeast wsX7_in := goodIn_r _ [5] (by decide +kernel) (by decide +kernel)
set_option maxRecDepth 20000 in
theorem gX7_isFeast_X7_in : GoodIn wsX7_isFeast (va_wsS RX7 51 yX7_in wsX7_in) := goodIn_app (goodIn_of _ (by decide +kernel)) ggX7_isFeast_X7_in
theorem dX7_isFeast_0 : decode cX7_isFeast 0 = .ok (.iload_n 1, 1) := by decide +kernel
theorem dX7_isFeast_1 : decode cX7_isFeast 1 = .ok (.iconst 0, 1) := by decide +kernel
theorem dX7_isFeast_2 : decode cX7_isFeast 2 = .ok (.aload_n 0, 1) := by decide +kernel
theorem dX7_isFeast_3 : decode cX7_isFeast 3 = .ok (.getfield 7, 3) := by decide +kernel
theorem dX7_isFeast_6 : decode cX7_isFeast 6 = .ok (.iconst 3, 1) := by decide +kernel
theorem dX7_isFeast_7 : decode cX7_isFeast 7 = .ok (.iaload, 1) := by decide +kernel
theorem dX7_isFeast_8 : decode cX7_isFeast 8 = .ok (.iconst 1, 1) := by decide +kernel
theorem dX7_isFeast_9 : decode cX7_isFeast 9 = .ok (.isub, 1) := by decide +kernel
theorem dX7_isFeast_10 : decode cX7_isFeast 10 = .ok (.invokestatic 51, 3) := by decide +kernel
theorem dX7_isFeast_13 : decode cX7_isFeast 13 = .ok (.ireturn, 1) := by decide +kernel
set_option maxRecDepth 20000 in
theorem ggX7_isLine_X7_in : GoodIn wsX7_isLine wsX7_in := goodIn_r _ [4] (by decide +kernel) (by decide +kernel)
set_option maxRecDepth 20000 in
theorem gX7_isLine_X7_in : GoodIn wsX7_isLine (va_wsS RX7 51 yX7_in wsX7_in) := goodIn_app (goodIn_of _ (by decide +kernel)) ggX7_isLine_X7_in
theorem dX7_isLine_0 : decode cX7_isLine 0 = .ok (.iload_n 0, 1) := by decide +kernel
theorem dX7_isLine_1 : decode cX7_isLine 1 = .ok (.iconst 0, 1) := by decide +kernel
theorem dX7_isLine_2 : decode cX7_isLine 2 = .ok (.iconst 3, 1) := by decide +kernel
theorem dX7_isLine_3 : decode cX7_isLine 3 = .ok (.invokestatic 51, 3) := by decide +kernel
theorem dX7_isLine_6 : decode cX7_isLine 6 = .ok (.ireturn, 1) := by decide +kernel
theorem dX7_dayAt_0 : decode cX7_dayAt 0 = .ok (.aload_n 0, 1) := by decide +kernel
theorem dX7_dayAt_1 : decode cX7_dayAt 1 = .ok (.getfield 7, 3) := by decide +kernel
theorem dX7_dayAt_4 : decode cX7_dayAt 4 = .ok (.sipush 583, 3) := by decide +kernel
theorem dX7_dayAt_7 : decode cX7_dayAt 7 = .ok (.bipush 45, 2) := by decide +kernel
theorem dX7_dayAt_9 : decode cX7_dayAt 9 = .ok (.iload_n 1, 1) := by decide +kernel
theorem dX7_dayAt_10 : decode cX7_dayAt 10 = .ok (.imul, 1) := by decide +kernel
theorem dX7_dayAt_11 : decode cX7_dayAt 11 = .ok (.iadd, 1) := by decide +kernel
theorem dX7_dayAt_12 : decode cX7_dayAt 12 = .ok (.iaload, 1) := by decide +kernel
theorem dX7_dayAt_13 : decode cX7_dayAt 13 = .ok (.ireturn, 1) := by decide +kernel
set_option maxRecDepth 20000 in
theorem ggX7_held_X7_dayAt : GoodIn wsX7_held wsX7_dayAt := goodIn_r _ [6, 1, 7, 8, 9, 10, 11, 12, 13, 14, 15, 16, 17, 18, 19, 20, 21, 22] (by decide +kernel) (by decide +kernel)
set_option maxRecDepth 20000 in
theorem gX7_held_X7_dayAt : GoodIn wsX7_held (wsV RX7 86 RX7 yX7_dayAt wsX7_dayAt) := goodIn_app (goodIn_of _ (by decide +kernel)) ggX7_held_X7_dayAt
theorem dX7_held_0 : decode cX7_held 0 = .ok (.aload_n 0, 1) := by decide +kernel
theorem dX7_held_1 : decode cX7_held 1 = .ok (.iload_n 1, 1) := by decide +kernel
theorem dX7_held_2 : decode cX7_held 2 = .ok (.invokevirtual 86, 3) := by decide +kernel
theorem dX7_held_5 : decode cX7_held 5 = .ok (.aload_n 0, 1) := by decide +kernel
theorem dX7_held_6 : decode cX7_held 6 = .ok (.getfield 7, 3) := by decide +kernel
theorem dX7_held_9 : decode cX7_held 9 = .ok (.iconst 0, 1) := by decide +kernel
theorem dX7_held_10 : decode cX7_held 10 = .ok (.iaload, 1) := by decide +kernel
theorem dX7_held_11 : decode cX7_held 11 = .ok (.if_icmp .gt 7, 3) := by decide +kernel
theorem dX7_held_14 : decode cX7_held 14 = .ok (.iconst 1, 1) := by decide +kernel
theorem dX7_held_15 : decode cX7_held 15 = .ok (.goto 4, 3) := by decide +kernel
theorem dX7_held_18 : decode cX7_held 18 = .ok (.iconst 0, 1) := by decide +kernel
theorem dX7_held_19 : decode cX7_held 19 = .ok (.ireturn, 1) := by decide +kernel
theorem dX7_places_0 : decode cX7_places 0 = .ok (.aload_n 0, 1) := by decide +kernel
theorem dX7_places_1 : decode cX7_places 1 = .ok (.getfield 7, 3) := by decide +kernel
theorem dX7_places_4 : decode cX7_places 4 = .ok (.sipush 583, 3) := by decide +kernel
theorem dX7_places_7 : decode cX7_places 7 = .ok (.bipush 45, 2) := by decide +kernel
theorem dX7_places_9 : decode cX7_places 9 = .ok (.iload_n 1, 1) := by decide +kernel
theorem dX7_places_10 : decode cX7_places 10 = .ok (.imul, 1) := by decide +kernel
theorem dX7_places_11 : decode cX7_places 11 = .ok (.iadd, 1) := by decide +kernel
theorem dX7_places_12 : decode cX7_places 12 = .ok (.iconst 2, 1) := by decide +kernel
theorem dX7_places_13 : decode cX7_places 13 = .ok (.iadd, 1) := by decide +kernel
theorem dX7_places_14 : decode cX7_places 14 = .ok (.iconst 3, 1) := by decide +kernel
theorem dX7_places_15 : decode cX7_places 15 = .ok (.iload_n 2, 1) := by decide +kernel
theorem dX7_places_16 : decode cX7_places 16 = .ok (.imul, 1) := by decide +kernel
theorem dX7_places_17 : decode cX7_places 17 = .ok (.iadd, 1) := by decide +kernel
theorem dX7_places_18 : decode cX7_places 18 = .ok (.iaload, 1) := by decide +kernel
theorem dX7_places_19 : decode cX7_places 19 = .ok (.ireturn, 1) := by decide +kernel
set_option maxRecDepth 20000 in
theorem ggX7_allPlaces_X7_places : GoodIn wsX7_allPlaces wsX7_places := goodIn_r _ [5, 6, 7, 8, 9, 10, 11, 12, 13, 14, 15, 16, 17, 18, 19, 20, 21, 22] (by decide +kernel) (by decide +kernel)
set_option maxRecDepth 20000 in
theorem gX7_allPlaces_X7_places : GoodIn wsX7_allPlaces (wsV RX7 90 RX7 yX7_places wsX7_places) := goodIn_app (goodIn_of _ (by decide +kernel)) ggX7_allPlaces_X7_places
theorem dX7_allPlaces_0 : decode cX7_allPlaces 0 = .ok (.aload_n 0, 1) := by decide +kernel
theorem dX7_allPlaces_1 : decode cX7_allPlaces 1 = .ok (.iload_n 1, 1) := by decide +kernel
theorem dX7_allPlaces_2 : decode cX7_allPlaces 2 = .ok (.iconst 0, 1) := by decide +kernel
theorem dX7_allPlaces_3 : decode cX7_allPlaces 3 = .ok (.invokevirtual 90, 3) := by decide +kernel
theorem dX7_allPlaces_6 : decode cX7_allPlaces 6 = .ok (.aload_n 0, 1) := by decide +kernel
theorem dX7_allPlaces_7 : decode cX7_allPlaces 7 = .ok (.iload_n 1, 1) := by decide +kernel
theorem dX7_allPlaces_8 : decode cX7_allPlaces 8 = .ok (.iconst 1, 1) := by decide +kernel
theorem dX7_allPlaces_9 : decode cX7_allPlaces 9 = .ok (.invokevirtual 90, 3) := by decide +kernel
theorem dX7_allPlaces_12 : decode cX7_allPlaces 12 = .ok (.iadd, 1) := by decide +kernel
theorem dX7_allPlaces_13 : decode cX7_allPlaces 13 = .ok (.aload_n 0, 1) := by decide +kernel
theorem dX7_allPlaces_14 : decode cX7_allPlaces 14 = .ok (.iload_n 1, 1) := by decide +kernel
theorem dX7_allPlaces_15 : decode cX7_allPlaces 15 = .ok (.iconst 2, 1) := by decide +kernel
theorem dX7_allPlaces_16 : decode cX7_allPlaces 16 = .ok (.invokevirtual 90, 3) := by decide +kernel
theorem dX7_allPlaces_19 : decode cX7_allPlaces 19 = .ok (.iadd, 1) := by decide +kernel
theorem dX7_allPlaces_20 : decode cX7_allPlaces 20 = .ok (.aload_n 0, 1) := by decide +kernel
theorem dX7_allPlaces_21 : decode cX7_allPlaces 21 = .ok (.iload_n 1, 1) := by decide +kernel
theorem dX7_allPlaces_22 : decode cX7_allPlaces 22 = .ok (.iconst 3, 1) := by decide +kernel
theorem dX7_allPlaces_23 : decode cX7_allPlaces 23 = .ok (.invokevirtual 90, 3) := by decide +kernel
theorem dX7_allPlaces_26 : decode cX7_allPlaces 26 = .ok (.iadd, 1) := by decide +kernel
theorem dX7_allPlaces_27 : decode cX7_allPlaces 27 = .ok (.ireturn, 1) := by decide +kernel
set_option maxRecDepth 20000 in
theorem ggX7_why_X7_dayAt : GoodIn wsX7_why wsX7_dayAt := goodIn_r _ [6, 1, 34, 35, 36, 37, 38, 39, 40, 41, 42, 43, 44, 45, 46, 47, 48, 49] (by decide +kernel) (by decide +kernel)
set_option maxRecDepth 20000 in
theorem gX7_why_X7_dayAt : GoodIn wsX7_why (wsV RX7 86 RX7 yX7_dayAt wsX7_dayAt) := goodIn_app (goodIn_of _ (by decide +kernel)) ggX7_why_X7_dayAt
set_option maxRecDepth 20000 in
theorem ggX7_why_X7_willHaveLeft : GoodIn wsX7_why wsX7_willHaveLeft := goodIn_r _ [10, 11, 12, 13, 5, 14, 1, 34, 35, 36, 37, 38, 39, 40, 41, 42, 43, 44, 45, 46, 47, 48, 49] (by decide +kernel) (by decide +kernel)
set_option maxRecDepth 20000 in
theorem gX7_why_X7_willHaveLeft : GoodIn wsX7_why (wsV RX7 93 RX7 yX7_willHaveLeft wsX7_willHaveLeft) := goodIn_app (goodIn_of _ (by decide +kernel)) ggX7_why_X7_willHaveLeft
set_option maxRecDepth 20000 in
theorem ggX7_why_X7_its : GoodIn wsX7_why wsX7_its := goodIn_r _ [14, 1, 34, 35, 36, 37, 38, 39, 40, 41, 42, 43, 44, 45, 46, 47, 48, 49] (by decide +kernel) (by decide +kernel)
set_option maxRecDepth 20000 in
theorem gX7_why_X7_its : GoodIn wsX7_why (wsV RX7 70 RX7 yX7_its wsX7_its) := goodIn_app (goodIn_of _ (by decide +kernel)) ggX7_why_X7_its
set_option maxRecDepth 20000 in
theorem ggX7_why_X7_notes : GoodIn wsX7_why wsX7_notes := goodIn_r _ [18, 1, 34, 35, 36, 37, 38, 39, 40, 41, 42, 43, 44, 45, 46, 47, 48, 49] (by decide +kernel) (by decide +kernel)
set_option maxRecDepth 20000 in
theorem gX7_why_X7_notes : GoodIn wsX7_why (wsV RX7 78 RX7 yX7_notes wsX7_notes) := goodIn_app (goodIn_of _ (by decide +kernel)) ggX7_why_X7_notes
set_option maxRecDepth 20000 in
theorem ggX7_why_X7_isBreaking : GoodIn wsX7_why wsX7_isBreaking := goodIn_r _ [22, 11, 12, 13, 5, 14, 1, 23, 24, 25, 34, 35, 36, 37, 38, 39, 40, 41, 42, 43, 44, 45, 46, 47, 48, 49] (by decide +kernel) (by decide +kernel)
set_option maxRecDepth 20000 in
theorem gX7_why_X7_isBreaking : GoodIn wsX7_why (wsV RX7 97 RX7 yX7_isBreaking wsX7_isBreaking) := goodIn_app (goodIn_of _ (by decide +kernel)) ggX7_why_X7_isBreaking
set_option maxRecDepth 20000 in
theorem ggX7_why_X7_note : GoodIn wsX7_why wsX7_note := goodIn_r _ [29, 11, 12, 13, 5, 14, 1, 30, 31, 32, 33, 34, 35, 36, 37, 38, 39, 40, 41, 42, 43, 44, 45, 46, 47, 48, 49] (by decide +kernel) (by decide +kernel)
set_option maxRecDepth 20000 in
theorem gX7_why_X7_note : GoodIn wsX7_why (wsV RX7 100 RX7 yX7_note wsX7_note) := goodIn_app (goodIn_of _ (by decide +kernel)) ggX7_why_X7_note
theorem dX7_why_0 : decode cX7_why 0 = .ok (.aload_n 0, 1) := by decide +kernel
theorem dX7_why_1 : decode cX7_why 1 = .ok (.iload_n 1, 1) := by decide +kernel
theorem dX7_why_2 : decode cX7_why 2 = .ok (.invokevirtual 86, 3) := by decide +kernel
theorem dX7_why_5 : decode cX7_why 5 = .ok (.istore 4, 2) := by decide +kernel
theorem dX7_why_7 : decode cX7_why 7 = .ok (.sipush 583, 3) := by decide +kernel
theorem dX7_why_10 : decode cX7_why 10 = .ok (.bipush 45, 2) := by decide +kernel
theorem dX7_why_12 : decode cX7_why 12 = .ok (.iload_n 1, 1) := by decide +kernel
theorem dX7_why_13 : decode cX7_why 13 = .ok (.imul, 1) := by decide +kernel
theorem dX7_why_14 : decode cX7_why 14 = .ok (.iadd, 1) := by decide +kernel
theorem dX7_why_15 : decode cX7_why 15 = .ok (.iconst 2, 1) := by decide +kernel
theorem dX7_why_16 : decode cX7_why 16 = .ok (.iadd, 1) := by decide +kernel
theorem dX7_why_17 : decode cX7_why 17 = .ok (.iconst 3, 1) := by decide +kernel
theorem dX7_why_18 : decode cX7_why 18 = .ok (.iload_n 3, 1) := by decide +kernel
theorem dX7_why_19 : decode cX7_why 19 = .ok (.imul, 1) := by decide +kernel
theorem dX7_why_20 : decode cX7_why 20 = .ok (.iadd, 1) := by decide +kernel
theorem dX7_why_21 : decode cX7_why 21 = .ok (.istore 5, 2) := by decide +kernel
theorem dX7_why_23 : decode cX7_why 23 = .ok (.aload_n 0, 1) := by decide +kernel
theorem dX7_why_24 : decode cX7_why 24 = .ok (.iload_n 2, 1) := by decide +kernel
theorem dX7_why_25 : decode cX7_why 25 = .ok (.iload 4, 2) := by decide +kernel
theorem dX7_why_27 : decode cX7_why 27 = .ok (.invokevirtual 93, 3) := by decide +kernel
theorem dX7_why_30 : decode cX7_why 30 = .ok (.ifCond .eq 5, 3) := by decide +kernel
theorem dX7_why_33 : decode cX7_why 33 = .ok (.iconst 1, 1) := by decide +kernel
theorem dX7_why_34 : decode cX7_why 34 = .ok (.ireturn, 1) := by decide +kernel
theorem dX7_why_35 : decode cX7_why 35 = .ok (.aload_n 0, 1) := by decide +kernel
theorem dX7_why_36 : decode cX7_why 36 = .ok (.iload_n 2, 1) := by decide +kernel
theorem dX7_why_37 : decode cX7_why 37 = .ok (.bipush 10, 2) := by decide +kernel
theorem dX7_why_39 : decode cX7_why 39 = .ok (.invokevirtual 70, 3) := by decide +kernel
theorem dX7_why_42 : decode cX7_why 42 = .ok (.iload 4, 2) := by decide +kernel
theorem dX7_why_44 : decode cX7_why 44 = .ok (.if_icmp .lt 5, 3) := by decide +kernel
theorem dX7_why_47 : decode cX7_why 47 = .ok (.iconst 2, 1) := by decide +kernel
theorem dX7_why_48 : decode cX7_why 48 = .ok (.ireturn, 1) := by decide +kernel
theorem dX7_why_49 : decode cX7_why 49 = .ok (.aload_n 0, 1) := by decide +kernel
theorem dX7_why_50 : decode cX7_why 50 = .ok (.iload_n 2, 1) := by decide +kernel
theorem dX7_why_51 : decode cX7_why 51 = .ok (.iload 4, 2) := by decide +kernel
theorem dX7_why_53 : decode cX7_why 53 = .ok (.iload 4, 2) := by decide +kernel
theorem dX7_why_55 : decode cX7_why 55 = .ok (.invokevirtual 78, 3) := by decide +kernel
theorem dX7_why_58 : decode cX7_why 58 = .ok (.ifCond .le 5, 3) := by decide +kernel
theorem dX7_why_61 : decode cX7_why 61 = .ok (.iconst 3, 1) := by decide +kernel
theorem dX7_why_62 : decode cX7_why 62 = .ok (.ireturn, 1) := by decide +kernel
theorem dX7_why_63 : decode cX7_why 63 = .ok (.aload_n 0, 1) := by decide +kernel
theorem dX7_why_64 : decode cX7_why 64 = .ok (.iload_n 2, 1) := by decide +kernel
theorem dX7_why_65 : decode cX7_why 65 = .ok (.iload 4, 2) := by decide +kernel
theorem dX7_why_67 : decode cX7_why 67 = .ok (.invokevirtual 97, 3) := by decide +kernel
theorem dX7_why_70 : decode cX7_why 70 = .ok (.ifCond .eq 5, 3) := by decide +kernel
theorem dX7_why_73 : decode cX7_why 73 = .ok (.iconst 4, 1) := by decide +kernel
theorem dX7_why_74 : decode cX7_why 74 = .ok (.ireturn, 1) := by decide +kernel
theorem dX7_why_75 : decode cX7_why 75 = .ok (.aload_n 0, 1) := by decide +kernel
theorem dX7_why_76 : decode cX7_why 76 = .ok (.getfield 7, 3) := by decide +kernel
theorem dX7_why_79 : decode cX7_why 79 = .ok (.iload 5, 2) := by decide +kernel
theorem dX7_why_81 : decode cX7_why 81 = .ok (.iconst 1, 1) := by decide +kernel
theorem dX7_why_82 : decode cX7_why 82 = .ok (.iadd, 1) := by decide +kernel
theorem dX7_why_83 : decode cX7_why 83 = .ok (.iaload, 1) := by decide +kernel
theorem dX7_why_84 : decode cX7_why 84 = .ok (.aload_n 0, 1) := by decide +kernel
theorem dX7_why_85 : decode cX7_why 85 = .ok (.iload_n 2, 1) := by decide +kernel
theorem dX7_why_86 : decode cX7_why 86 = .ok (.iconst 4, 1) := by decide +kernel
theorem dX7_why_87 : decode cX7_why 87 = .ok (.iload 4, 2) := by decide +kernel
theorem dX7_why_89 : decode cX7_why 89 = .ok (.invokevirtual 100, 3) := by decide +kernel
theorem dX7_why_92 : decode cX7_why 92 = .ok (.if_icmp .ge 5, 3) := by decide +kernel
theorem dX7_why_95 : decode cX7_why 95 = .ok (.iconst 5, 1) := by decide +kernel
theorem dX7_why_96 : decode cX7_why 96 = .ok (.ireturn, 1) := by decide +kernel
theorem dX7_why_97 : decode cX7_why 97 = .ok (.aload_n 0, 1) := by decide +kernel
theorem dX7_why_98 : decode cX7_why 98 = .ok (.getfield 7, 3) := by decide +kernel
theorem dX7_why_101 : decode cX7_why 101 = .ok (.iload 5, 2) := by decide +kernel
theorem dX7_why_103 : decode cX7_why 103 = .ok (.iconst 2, 1) := by decide +kernel
theorem dX7_why_104 : decode cX7_why 104 = .ok (.iadd, 1) := by decide +kernel
theorem dX7_why_105 : decode cX7_why 105 = .ok (.iaload, 1) := by decide +kernel
theorem dX7_why_106 : decode cX7_why 106 = .ok (.aload_n 0, 1) := by decide +kernel
theorem dX7_why_107 : decode cX7_why 107 = .ok (.iload_n 2, 1) := by decide +kernel
theorem dX7_why_108 : decode cX7_why 108 = .ok (.iconst 5, 1) := by decide +kernel
theorem dX7_why_109 : decode cX7_why 109 = .ok (.iload 4, 2) := by decide +kernel
theorem dX7_why_111 : decode cX7_why 111 = .ok (.invokevirtual 100, 3) := by decide +kernel
theorem dX7_why_114 : decode cX7_why 114 = .ok (.if_icmp .le 8, 3) := by decide +kernel
theorem dX7_why_117 : decode cX7_why 117 = .ok (.bipush 6, 2) := by decide +kernel
theorem dX7_why_119 : decode cX7_why 119 = .ok (.goto 4, 3) := by decide +kernel
theorem dX7_why_122 : decode cX7_why 122 = .ok (.iconst 0, 1) := by decide +kernel
theorem dX7_why_123 : decode cX7_why 123 = .ok (.ireturn, 1) := by decide +kernel
set_option maxRecDepth 20000 in
theorem ggX7_set_X7_why : GoodIn wsX7_set wsX7_why := goodIn_r _ [5, 6, 7, 8, 9, 4, 10, 11, 12, 13, 14, 15, 16, 17, 18, 19, 20, 21, 22, 23, 24, 25, 26, 27, 28, 29, 30, 31, 32, 33, 34, 35, 36, 37, 38, 39, 40, 41, 42, 43, 44, 45, 46, 47, 48, 49, 50, 51, 52, 53] (by decide +kernel) (by decide +kernel)
set_option maxRecDepth 20000 in
theorem gX7_set_X7_why : GoodIn wsX7_set (wsV RX7 103 RX7 yX7_why wsX7_why) := goodIn_app (goodIn_of _ (by decide +kernel)) ggX7_set_X7_why
theorem dX7_set_0 : decode cX7_set 0 = .ok (.iconst 0, 1) := by decide +kernel
theorem dX7_set_1 : decode cX7_set 1 = .ok (.istore_n 3, 1) := by decide +kernel
theorem dX7_set_2 : decode cX7_set 2 = .ok (.iconst 0, 1) := by decide +kernel
theorem dX7_set_3 : decode cX7_set 3 = .ok (.istore 4, 2) := by decide +kernel
theorem dX7_set_5 : decode cX7_set 5 = .ok (.iload 4, 2) := by decide +kernel
theorem dX7_set_7 : decode cX7_set 7 = .ok (.iconst 4, 1) := by decide +kernel
theorem dX7_set_8 : decode cX7_set 8 = .ok (.if_icmp .ge 31, 3) := by decide +kernel
theorem dX7_set_11 : decode cX7_set 11 = .ok (.iload_n 3, 1) := by decide +kernel
theorem dX7_set_12 : decode cX7_set 12 = .ok (.aload_n 0, 1) := by decide +kernel
theorem dX7_set_13 : decode cX7_set 13 = .ok (.iload_n 1, 1) := by decide +kernel
theorem dX7_set_14 : decode cX7_set 14 = .ok (.iload_n 2, 1) := by decide +kernel
theorem dX7_set_15 : decode cX7_set 15 = .ok (.iload 4, 2) := by decide +kernel
theorem dX7_set_17 : decode cX7_set 17 = .ok (.invokevirtual 103, 3) := by decide +kernel
theorem dX7_set_20 : decode cX7_set 20 = .ok (.ifCond .ne 10, 3) := by decide +kernel
theorem dX7_set_23 : decode cX7_set 23 = .ok (.iconst 1, 1) := by decide +kernel
theorem dX7_set_24 : decode cX7_set 24 = .ok (.iload 4, 2) := by decide +kernel
theorem dX7_set_26 : decode cX7_set 26 = .ok (.ishl, 1) := by decide +kernel
theorem dX7_set_27 : decode cX7_set 27 = .ok (.goto 4, 3) := by decide +kernel
theorem dX7_set_30 : decode cX7_set 30 = .ok (.iconst 0, 1) := by decide +kernel
theorem dX7_set_31 : decode cX7_set 31 = .ok (.ior, 1) := by decide +kernel
theorem dX7_set_32 : decode cX7_set 32 = .ok (.istore_n 3, 1) := by decide +kernel
theorem dX7_set_33 : decode cX7_set 33 = .ok (.iinc 4 1, 3) := by decide +kernel
theorem dX7_set_36 : decode cX7_set 36 = .ok (.goto (-31), 3) := by decide +kernel
theorem dX7_set_39 : decode cX7_set 39 = .ok (.iload_n 3, 1) := by decide +kernel
theorem dX7_set_40 : decode cX7_set 40 = .ok (.ireturn, 1) := by decide +kernel
theorem dX7_able_0 : decode cX7_able 0 = .ok (.iconst 0, 1) := by decide +kernel
theorem dX7_able_1 : decode cX7_able 1 = .ok (.istore_n 2, 1) := by decide +kernel
theorem dX7_able_2 : decode cX7_able 2 = .ok (.iconst 1, 1) := by decide +kernel
theorem dX7_able_3 : decode cX7_able 3 = .ok (.istore_n 3, 1) := by decide +kernel
theorem dX7_able_4 : decode cX7_able 4 = .ok (.iload_n 3, 1) := by decide +kernel
theorem dX7_able_5 : decode cX7_able 5 = .ok (.bipush 16, 2) := by decide +kernel
theorem dX7_able_7 : decode cX7_able 7 = .ok (.if_icmp .ge 28, 3) := by decide +kernel
theorem dX7_able_10 : decode cX7_able 10 = .ok (.iload_n 2, 1) := by decide +kernel
theorem dX7_able_11 : decode cX7_able 11 = .ok (.iload_n 3, 1) := by decide +kernel
theorem dX7_able_12 : decode cX7_able 12 = .ok (.iload_n 1, 1) := by decide +kernel
theorem dX7_able_13 : decode cX7_able 13 = .ok (.iand, 1) := by decide +kernel
theorem dX7_able_14 : decode cX7_able 14 = .ok (.ifCond .eq 12, 3) := by decide +kernel
theorem dX7_able_17 : decode cX7_able 17 = .ok (.aload_n 0, 1) := by decide +kernel
theorem dX7_able_18 : decode cX7_able 18 = .ok (.getfield 28, 3) := by decide +kernel
theorem dX7_able_21 : decode cX7_able 21 = .ok (.iload_n 3, 1) := by decide +kernel
theorem dX7_able_22 : decode cX7_able 22 = .ok (.iaload, 1) := by decide +kernel
theorem dX7_able_23 : decode cX7_able 23 = .ok (.goto 4, 3) := by decide +kernel
theorem dX7_able_26 : decode cX7_able 26 = .ok (.iconst 0, 1) := by decide +kernel
theorem dX7_able_27 : decode cX7_able 27 = .ok (.iadd, 1) := by decide +kernel
theorem dX7_able_28 : decode cX7_able 28 = .ok (.istore_n 2, 1) := by decide +kernel
theorem dX7_able_29 : decode cX7_able 29 = .ok (.iinc 3 1, 3) := by decide +kernel
theorem dX7_able_32 : decode cX7_able 32 = .ok (.goto (-28), 3) := by decide +kernel
theorem dX7_able_35 : decode cX7_able 35 = .ok (.iload_n 2, 1) := by decide +kernel
theorem dX7_able_36 : decode cX7_able 36 = .ok (.ireturn, 1) := by decide +kernel
theorem dX7_openIn_0 : decode cX7_openIn 0 = .ok (.iconst 0, 1) := by decide +kernel
theorem dX7_openIn_1 : decode cX7_openIn 1 = .ok (.istore_n 2, 1) := by decide +kernel
theorem dX7_openIn_2 : decode cX7_openIn 2 = .ok (.iconst 0, 1) := by decide +kernel
theorem dX7_openIn_3 : decode cX7_openIn 3 = .ok (.istore_n 3, 1) := by decide +kernel
theorem dX7_openIn_4 : decode cX7_openIn 4 = .ok (.iload_n 3, 1) := by decide +kernel
theorem dX7_openIn_5 : decode cX7_openIn 5 = .ok (.iconst 4, 1) := by decide +kernel
theorem dX7_openIn_6 : decode cX7_openIn 6 = .ok (.if_icmp .ge 31, 3) := by decide +kernel
theorem dX7_openIn_9 : decode cX7_openIn 9 = .ok (.iload_n 2, 1) := by decide +kernel
theorem dX7_openIn_10 : decode cX7_openIn 10 = .ok (.iload_n 1, 1) := by decide +kernel
theorem dX7_openIn_11 : decode cX7_openIn 11 = .ok (.iload_n 3, 1) := by decide +kernel
theorem dX7_openIn_12 : decode cX7_openIn 12 = .ok (.ishr, 1) := by decide +kernel
theorem dX7_openIn_13 : decode cX7_openIn 13 = .ok (.iconst 1, 1) := by decide +kernel
theorem dX7_openIn_14 : decode cX7_openIn 14 = .ok (.iand, 1) := by decide +kernel
theorem dX7_openIn_15 : decode cX7_openIn 15 = .ok (.iconst 1, 1) := by decide +kernel
theorem dX7_openIn_16 : decode cX7_openIn 16 = .ok (.if_icmp .ne 12, 3) := by decide +kernel
theorem dX7_openIn_19 : decode cX7_openIn 19 = .ok (.aload_n 0, 1) := by decide +kernel
theorem dX7_openIn_20 : decode cX7_openIn 20 = .ok (.getfield 25, 3) := by decide +kernel
theorem dX7_openIn_23 : decode cX7_openIn 23 = .ok (.iload_n 3, 1) := by decide +kernel
theorem dX7_openIn_24 : decode cX7_openIn 24 = .ok (.iaload, 1) := by decide +kernel
theorem dX7_openIn_25 : decode cX7_openIn 25 = .ok (.goto 4, 3) := by decide +kernel
theorem dX7_openIn_28 : decode cX7_openIn 28 = .ok (.iconst 0, 1) := by decide +kernel
theorem dX7_openIn_29 : decode cX7_openIn 29 = .ok (.iadd, 1) := by decide +kernel
theorem dX7_openIn_30 : decode cX7_openIn 30 = .ok (.istore_n 2, 1) := by decide +kernel
theorem dX7_openIn_31 : decode cX7_openIn 31 = .ok (.iinc 3 1, 3) := by decide +kernel
theorem dX7_openIn_34 : decode cX7_openIn 34 = .ok (.goto (-30), 3) := by decide +kernel
theorem dX7_openIn_37 : decode cX7_openIn 37 = .ok (.iload_n 2, 1) := by decide +kernel
theorem dX7_openIn_38 : decode cX7_openIn 38 = .ok (.ireturn, 1) := by decide +kernel
set_option maxRecDepth 20000 in
theorem ggX7_fillable_X7_openIn : GoodIn wsX7_fillable wsX7_openIn := goodIn_r _ [5, 6, 12, 13, 14, 15, 16, 17, 18, 19, 20, 21, 22, 23, 24, 25, 26, 27] (by decide +kernel) (by decide +kernel)
set_option maxRecDepth 20000 in
theorem gX7_fillable_X7_openIn : GoodIn wsX7_fillable (wsV RX7 106 RX7 yX7_openIn wsX7_openIn) := goodIn_app (goodIn_of _ (by decide +kernel)) ggX7_fillable_X7_openIn
set_option maxRecDepth 20000 in
theorem ggX7_fillable_X7_able : GoodIn wsX7_fillable wsX7_able := goodIn_r _ [10, 11, 12, 13, 14, 15, 16, 17, 18, 19, 20, 21, 22, 23, 24, 25, 26, 27] (by decide +kernel) (by decide +kernel)
set_option maxRecDepth 20000 in
theorem gX7_fillable_X7_able : GoodIn wsX7_fillable (wsV RX7 109 RX7 yX7_able wsX7_able) := goodIn_app (goodIn_of _ (by decide +kernel)) ggX7_fillable_X7_able
theorem dX7_fillable_0 : decode cX7_fillable 0 = .ok (.bipush 99, 2) := by decide +kernel
theorem dX7_fillable_2 : decode cX7_fillable 2 = .ok (.istore_n 1, 1) := by decide +kernel
theorem dX7_fillable_3 : decode cX7_fillable 3 = .ok (.iconst 0, 1) := by decide +kernel
theorem dX7_fillable_4 : decode cX7_fillable 4 = .ok (.istore_n 2, 1) := by decide +kernel
theorem dX7_fillable_5 : decode cX7_fillable 5 = .ok (.iload_n 2, 1) := by decide +kernel
theorem dX7_fillable_6 : decode cX7_fillable 6 = .ok (.bipush 16, 2) := by decide +kernel
theorem dX7_fillable_8 : decode cX7_fillable 8 = .ok (.if_icmp .ge 35, 3) := by decide +kernel
theorem dX7_fillable_11 : decode cX7_fillable 11 = .ok (.aload_n 0, 1) := by decide +kernel
theorem dX7_fillable_12 : decode cX7_fillable 12 = .ok (.bipush 15, 2) := by decide +kernel
theorem dX7_fillable_14 : decode cX7_fillable 14 = .ok (.iload_n 2, 1) := by decide +kernel
theorem dX7_fillable_15 : decode cX7_fillable 15 = .ok (.isub, 1) := by decide +kernel
theorem dX7_fillable_16 : decode cX7_fillable 16 = .ok (.invokevirtual 106, 3) := by decide +kernel
theorem dX7_fillable_19 : decode cX7_fillable 19 = .ok (.aload_n 0, 1) := by decide +kernel
theorem dX7_fillable_20 : decode cX7_fillable 20 = .ok (.iload_n 2, 1) := by decide +kernel
theorem dX7_fillable_21 : decode cX7_fillable 21 = .ok (.invokevirtual 109, 3) := by decide +kernel
theorem dX7_fillable_24 : decode cX7_fillable 24 = .ok (.iadd, 1) := by decide +kernel
theorem dX7_fillable_25 : decode cX7_fillable 25 = .ok (.istore_n 3, 1) := by decide +kernel
theorem dX7_fillable_26 : decode cX7_fillable 26 = .ok (.iload_n 3, 1) := by decide +kernel
theorem dX7_fillable_27 : decode cX7_fillable 27 = .ok (.iload_n 1, 1) := by decide +kernel
theorem dX7_fillable_28 : decode cX7_fillable 28 = .ok (.if_icmp .ge 7, 3) := by decide +kernel
theorem dX7_fillable_31 : decode cX7_fillable 31 = .ok (.iload_n 3, 1) := by decide +kernel
theorem dX7_fillable_32 : decode cX7_fillable 32 = .ok (.goto 4, 3) := by decide +kernel
theorem dX7_fillable_35 : decode cX7_fillable 35 = .ok (.iload_n 1, 1) := by decide +kernel
theorem dX7_fillable_36 : decode cX7_fillable 36 = .ok (.istore_n 1, 1) := by decide +kernel
theorem dX7_fillable_37 : decode cX7_fillable 37 = .ok (.iinc 2 1, 3) := by decide +kernel
theorem dX7_fillable_40 : decode cX7_fillable 40 = .ok (.goto (-35), 3) := by decide +kernel
theorem dX7_fillable_43 : decode cX7_fillable 43 = .ok (.iload_n 1, 1) := by decide +kernel
theorem dX7_fillable_44 : decode cX7_fillable 44 = .ok (.ireturn, 1) := by decide +kernel
set_option maxRecDepth 20000 in
theorem ggX7_counts_X7_places : GoodIn wsX7_counts wsX7_places := goodIn_r _ [8, 3, 48, 49, 50, 51, 52, 53, 54, 55, 56, 57, 58, 59, 60, 61, 62, 63] (by decide +kernel) (by decide +kernel)
set_option maxRecDepth 20000 in
theorem gX7_counts_X7_places : GoodIn wsX7_counts (wsV RX7 90 RX7 yX7_places wsX7_places) := goodIn_app (goodIn_of _ (by decide +kernel)) ggX7_counts_X7_places
