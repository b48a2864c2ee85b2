set_option maxRecDepth 20000 in
theorem ggX7_doesAll_X7_does_q2 : GoodIn wsX7_doesAll (wsX7_does_r1) := goodIn_r _ [7, 8, 9, 10, 5, 11, 12, 13, 14, 15, 16, 17, 18, 19, 20, 21, 22, 23, 24, 25, 26, 27, 28, 29] (by decide +kernel) (by decide +kernel)
set_option maxRecDepth 20000 in
theorem ggX7_doesAll_X7_does_q3 : GoodIn wsX7_doesAll (wsX7_does_r2) := goodIn_r _ [30, 31, 32, 33, 34, 35, 36, 37, 38, 39, 40, 41, 42, 43, 44, 45, 46, 47, 48, 49, 50, 51, 52, 53] (by decide +kernel) (by decide +kernel)
set_option maxRecDepth 20000 in
theorem ggX7_doesAll_X7_does_q4 : GoodIn wsX7_doesAll (wsX7_does_r3) := goodIn_r _ [54, 55, 56, 57, 58, 59, 60, 61, 62, 63, 64, 65, 66, 67, 68, 69, 70, 71, 72, 73, 74, 75, 76, 77] (by decide +kernel) (by decide +kernel)
set_option maxRecDepth 20000 in
theorem ggX7_doesAll_X7_does_q5 : GoodIn wsX7_doesAll (wsX7_does_r4) := goodIn_r _ [78, 79, 80, 81, 82, 83, 84, 85, 86, 87, 88, 89, 90, 91, 92, 93, 94, 95, 96, 97, 98, 99, 100, 101] (by decide +kernel) (by decide +kernel)
set_option maxRecDepth 20000 in
theorem ggX7_doesAll_X7_does_q6 : GoodIn wsX7_doesAll (wsX7_does_r5) := goodIn_r _ [102, 103, 104, 105, 106, 107, 108, 109, 110, 111, 112, 113, 114, 115, 116, 117, 118, 119, 120, 121, 122, 123, 124, 125] (by decide +kernel) (by decide +kernel)
set_option maxRecDepth 20000 in
theorem ggX7_doesAll_X7_does_q7 : GoodIn wsX7_doesAll (wsX7_does_r6) := goodIn_r _ [126, 127, 128, 129, 130, 131, 132, 133, 134, 135, 136, 137, 138, 139, 140, 141, 142, 143, 144, 145, 146, 147, 148, 149] (by decide +kernel) (by decide +kernel)
set_option maxRecDepth 20000 in
theorem ggX7_doesAll_X7_does_q8 : GoodIn wsX7_doesAll (wsX7_does_r7) := goodIn_r _ [150, 151, 152, 153, 154, 155, 156, 157, 158, 159, 160, 161, 162, 163, 164, 165, 166, 167, 168, 169, 170, 171, 172, 173] (by decide +kernel) (by decide +kernel)
set_option maxRecDepth 20000 in
theorem ggX7_doesAll_X7_does_q9 : GoodIn wsX7_doesAll (wsX7_does_r8) := goodIn_r _ [174, 175, 176, 177, 178, 179, 180, 181, 182, 183, 184, 185, 186, 187] (by decide +kernel) (by decide +kernel)
set_option maxRecDepth 20000 in
theorem ggX7_doesAll_X7_does_q10 : GoodIn wsX7_doesAll (wsX70) := goodIn_r _ [188, 189, 190, 191, 192, 193, 194, 195, 196, 197, 198, 199, 200, 201, 202, 203] (by decide +kernel) (by decide +kernel)
theorem ggX7_doesAll_X7_does : GoodIn wsX7_doesAll wsX7_does := (goodIn_app (a := [Cond.code yX7_does cX7_does 5 (some .boolean)]) ggX7_doesAll_X7_does_q1 (goodIn_app (goodIn_app ggX7_doesAll_X7_does_q2 (goodIn_app ggX7_doesAll_X7_does_q3 (goodIn_app ggX7_doesAll_X7_does_q4 (goodIn_app ggX7_doesAll_X7_does_q5 (goodIn_app ggX7_doesAll_X7_does_q6 (goodIn_app ggX7_doesAll_X7_does_q7 (goodIn_app ggX7_doesAll_X7_does_q8 ggX7_doesAll_X7_does_q9))))))) ggX7_doesAll_X7_does_q10))
set_option maxRecDepth 20000 in
theorem gX7_doesAll_X7_does : GoodIn wsX7_doesAll (wsV RX7 248 RX7 yX7_does wsX7_does) := goodIn_app (goodIn_of _ (by decide +kernel)) ggX7_doesAll_X7_does
theorem dX7_doesAll_0 : decode cX7_doesAll 0 = .ok (.iconst 0, 1) := by decide +kernel
theorem dX7_doesAll_1 : decode cX7_doesAll 1 = .ok (.istore_n 1, 1) := by decide +kernel
theorem dX7_doesAll_2 : decode cX7_doesAll 2 = .ok (.iload_n 1, 1) := by decide +kernel
theorem dX7_doesAll_3 : decode cX7_doesAll 3 = .ok (.aload_n 0, 1) := by decide +kernel
theorem dX7_doesAll_4 : decode cX7_doesAll 4 = .ok (.getfield 218, 3) := by decide +kernel
theorem dX7_doesAll_7 : decode cX7_doesAll 7 = .ok (.if_icmp .ge 17, 3) := by decide +kernel
theorem dX7_doesAll_10 : decode cX7_doesAll 10 = .ok (.aload_n 0, 1) := by decide +kernel
theorem dX7_doesAll_11 : decode cX7_doesAll 11 = .ok (.iload_n 1, 1) := by decide +kernel
theorem dX7_doesAll_12 : decode cX7_doesAll 12 = .ok (.invokevirtual 248, 3) := by decide +kernel
theorem dX7_doesAll_15 : decode cX7_doesAll 15 = .ok (.ifCond .eq 9, 3) := by decide +kernel
theorem dX7_doesAll_18 : decode cX7_doesAll 18 = .ok (.iinc 1 1, 3) := by decide +kernel
theorem dX7_doesAll_21 : decode cX7_doesAll 21 = .ok (.goto (-19), 3) := by decide +kernel
theorem dX7_doesAll_24 : decode cX7_doesAll 24 = .ok (.iload_n 1, 1) := by decide +kernel
theorem dX7_doesAll_25 : decode cX7_doesAll 25 = .ok (.ireturn, 1) := by decide +kernel
set_option maxRecDepth 20000 in
theorem ggX7_impossibleOrder_X7_isValid : GoodIn wsX7_impossibleOrder wsX7_isValid := goodIn_r _ [9, 10, 4, 11, 12, 13, 14, 8, 15, 16, 17, 18, 19, 20, 21, 22, 23, 24, 25, 26, 27, 28, 29, 30, 31, 32, 33, 34, 35, 36, 37, 38, 39, 231, 232, 233, 234, 235, 236, 237, 238, 239, 240, 241, 242, 243, 244, 245, 246] (by decide +kernel) (by decide +kernel)
set_option maxRecDepth 20000 in
theorem gX7_impossibleOrder_X7_isValid : GoodIn wsX7_impossibleOrder (wsV RX7 237 RX7 yX7_isValid wsX7_isValid) := goodIn_app (goodIn_of _ (by decide +kernel)) ggX7_impossibleOrder_X7_isValid
set_option maxRecDepth 20000 in
theorem ggX7_impossibleOrder_X7_refuses : GoodIn wsX7_impossibleOrder wsX7_refuses := goodIn_r _ [43, 1, 231, 232, 233, 234, 235, 236, 237, 238, 239, 240, 241, 242, 243, 244, 245, 246] (by decide +kernel) (by decide +kernel)
set_option maxRecDepth 20000 in
theorem gX7_impossibleOrder_X7_refuses : GoodIn wsX7_impossibleOrder (wsV RX7 154 RX7 yX7_refuses wsX7_refuses) := goodIn_app (goodIn_of _ (by decide +kernel)) ggX7_impossibleOrder_X7_refuses
set_option maxRecDepth 20000 in
theorem ggX7_impossibleOrder_X7_lays : GoodIn wsX7_impossibleOrder wsX7_lays := goodIn_r _ [46] (by decide +kernel) (by decide +kernel)
set_option maxRecDepth 20000 in
theorem gX7_impossibleOrder_X7_lays : GoodIn wsX7_impossibleOrder (va_wsS RX7 47 yX7_lays wsX7_lays) := goodIn_app (goodIn_of _ (by decide +kernel)) ggX7_impossibleOrder_X7_lays
set_option maxRecDepth 20000 in
theorem ggX7_impossibleOrder_X7_doesAll_q1 : GoodIn wsX7_impossibleOrder ([Cond.code yX7_doesAll cX7_doesAll 2 (some .int)]) := goodIn_r _ [50] (by decide +kernel) (by decide +kernel)
set_option maxRecDepth 20000 in
theorem ggX7_impossibleOrder_X7_doesAll_q2 : GoodIn wsX7_impossibleOrder (wsX7_doesAll_r1) := goodIn_r _ [4, 51, 52, 53, 8, 54, 2, 55, 56, 57, 58, 17, 59, 60, 61, 62, 63, 64, 65, 26, 27, 28, 66, 67] (by decide +kernel) (by decide +kernel)
set_option maxRecDepth 20000 in
theorem ggX7_impossibleOrder_X7_doesAll_q3 : GoodIn wsX7_impossibleOrder (wsX7_doesAll_r2) := goodIn_r _ [68, 69, 70, 71, 72, 73, 74, 75, 76, 77, 78, 79, 80, 81, 82, 83, 84, 85, 86, 87, 88, 89, 90, 91] (by decide +kernel) (by decide +kernel)
set_option maxRecDepth 20000 in
theorem ggX7_impossibleOrder_X7_doesAll_q4 : GoodIn wsX7_impossibleOrder (wsX7_doesAll_r3) := goodIn_r _ [92, 93, 94, 95, 96, 97, 98, 99, 100, 101, 102, 103, 104, 105, 106, 107, 108, 109, 110, 111, 112, 113, 114, 115] (by decide +kernel) (by decide +kernel)
set_option maxRecDepth 20000 in
theorem ggX7_impossibleOrder_X7_doesAll_q5 : GoodIn wsX7_impossibleOrder (wsX7_doesAll_r4) := goodIn_r _ [116, 117, 118, 119, 120, 121, 122, 123, 124, 125, 126, 127, 128, 129, 130, 131, 132, 133, 134, 135, 136, 137, 138, 139] (by decide +kernel) (by decide +kernel)
set_option maxRecDepth 20000 in
theorem ggX7_impossibleOrder_X7_doesAll_q6 : GoodIn wsX7_impossibleOrder (wsX7_doesAll_r5) := goodIn_r _ [140, 141, 142, 143, 144, 145, 146, 147, 148, 149, 150, 151, 152, 153, 154, 155, 156, 157, 158, 159, 160, 161, 162, 163] (by decide +kernel) (by decide +kernel)
set_option maxRecDepth 20000 in
theorem ggX7_impossibleOrder_X7_doesAll_q7 : GoodIn wsX7_impossibleOrder (wsX7_doesAll_r6) := goodIn_r _ [164, 165, 166, 167, 168, 169, 170, 171, 172, 173, 174, 175, 176, 177, 178, 179, 180, 181, 182, 183, 184, 185, 186, 187] (by decide +kernel) (by decide +kernel)
set_option maxRecDepth 20000 in
theorem ggX7_impossibleOrder_X7_doesAll_q8 : GoodIn wsX7_impossibleOrder (wsX7_doesAll_r7) := goodIn_r _ [188, 189, 190, 191, 192, 193, 194, 195, 196, 197, 198, 199, 200, 201, 202, 203, 204, 205, 206, 207, 208, 209, 210, 211] (by decide +kernel) (by decide +kernel)
set_option maxRecDepth 20000 in
theorem ggX7_impossibleOrder_X7_doesAll_q9 : GoodIn wsX7_impossibleOrder (wsX7_doesAll_r8) := goodIn_r _ [212, 213, 214, 215, 216, 217, 218, 219, 220, 221, 222, 223, 224, 225, 226, 227, 228, 229, 230] (by decide +kernel) (by decide +kernel)
set_option maxRecDepth 20000 in
theorem ggX7_impossibleOrder_X7_doesAll_q10 : GoodIn wsX7_impossibleOrder (wsX70) := goodIn_r _ [231, 232, 233, 234, 235, 236, 237, 238, 239, 240, 241, 242, 243, 244, 245, 246] (by decide +kernel) (by decide +kernel)
theorem ggX7_impossibleOrder_X7_doesAll : GoodIn wsX7_impossibleOrder wsX7_doesAll := (goodIn_app (a := [Cond.code yX7_doesAll cX7_doesAll 2 (some .int)]) ggX7_impossibleOrder_X7_doesAll_q1 (goodIn_app (goodIn_app ggX7_impossibleOrder_X7_doesAll_q2 (goodIn_app ggX7_impossibleOrder_X7_doesAll_q3 (goodIn_app ggX7_impossibleOrder_X7_doesAll_q4 (goodIn_app ggX7_impossibleOrder_X7_doesAll_q5 (goodIn_app ggX7_impossibleOrder_X7_doesAll_q6 (goodIn_app ggX7_impossibleOrder_X7_doesAll_q7 (goodIn_app ggX7_impossibleOrder_X7_doesAll_q8 ggX7_impossibleOrder_X7_doesAll_q9))))))) ggX7_impossibleOrder_X7_doesAll_q10))
set_option maxRecDepth 20000 in
theorem gX7_impossibleOrder_X7_doesAll : GoodIn wsX7_impossibleOrder (wsV RX7 251 RX7 yX7_doesAll wsX7_doesAll) := goodIn_app (goodIn_of _ (by decide +kernel)) ggX7_impossibleOrder_X7_doesAll
theorem dX7_impossibleOrder_0 : decode cX7_impossibleOrder 0 = .ok (.aload_n 0, 1) := by decide +kernel
theorem dX7_impossibleOrder_1 : decode cX7_impossibleOrder 1 = .ok (.iconst 0, 1) := by decide +kernel
theorem dX7_impossibleOrder_2 : decode cX7_impossibleOrder 2 = .ok (.putfield 40, 3) := by decide +kernel
theorem dX7_impossibleOrder_5 : decode cX7_impossibleOrder 5 = .ok (.aload_n 0, 1) := by decide +kernel
theorem dX7_impossibleOrder_6 : decode cX7_impossibleOrder 6 = .ok (.invokevirtual 237, 3) := by decide +kernel
theorem dX7_impossibleOrder_9 : decode cX7_impossibleOrder 9 = .ok (.ifCond .ne 9, 3) := by decide +kernel
theorem dX7_impossibleOrder_12 : decode cX7_impossibleOrder 12 = .ok (.aload_n 0, 1) := by decide +kernel
theorem dX7_impossibleOrder_13 : decode cX7_impossibleOrder 13 = .ok (.iconst 1, 1) := by decide +kernel
theorem dX7_impossibleOrder_14 : decode cX7_impossibleOrder 14 = .ok (.invokevirtual 154, 3) := by decide +kernel
theorem dX7_impossibleOrder_17 : decode cX7_impossibleOrder 17 = .ok (.ireturn, 1) := by decide +kernel
theorem dX7_impossibleOrder_18 : decode cX7_impossibleOrder 18 = .ok (.aload_n 0, 1) := by decide +kernel
theorem dX7_impossibleOrder_19 : decode cX7_impossibleOrder 19 = .ok (.getfield 7, 3) := by decide +kernel
theorem dX7_impossibleOrder_22 : decode cX7_impossibleOrder 22 = .ok (.iconst 0, 1) := by decide +kernel
theorem dX7_impossibleOrder_23 : decode cX7_impossibleOrder 23 = .ok (.aload_n 0, 1) := by decide +kernel
theorem dX7_impossibleOrder_24 : decode cX7_impossibleOrder 24 = .ok (.getfield 19, 3) := by decide +kernel
theorem dX7_impossibleOrder_27 : decode cX7_impossibleOrder 27 = .ok (.iconst 0, 1) := by decide +kernel
theorem dX7_impossibleOrder_28 : decode cX7_impossibleOrder 28 = .ok (.invokestatic 47, 3) := by decide +kernel
theorem dX7_impossibleOrder_31 : decode cX7_impossibleOrder 31 = .ok (.aload_n 0, 1) := by decide +kernel
theorem dX7_impossibleOrder_32 : decode cX7_impossibleOrder 32 = .ok (.invokevirtual 251, 3) := by decide +kernel
theorem dX7_impossibleOrder_35 : decode cX7_impossibleOrder 35 = .ok (.istore_n 1, 1) := by decide +kernel
theorem dX7_impossibleOrder_36 : decode cX7_impossibleOrder 36 = .ok (.aload_n 0, 1) := by decide +kernel
theorem dX7_impossibleOrder_37 : decode cX7_impossibleOrder 37 = .ok (.getfield 19, 3) := by decide +kernel
theorem dX7_impossibleOrder_40 : decode cX7_impossibleOrder 40 = .ok (.iconst 0, 1) := by decide +kernel
theorem dX7_impossibleOrder_41 : decode cX7_impossibleOrder 41 = .ok (.aload_n 0, 1) := by decide +kernel
theorem dX7_impossibleOrder_42 : decode cX7_impossibleOrder 42 = .ok (.getfield 7, 3) := by decide +kernel
theorem dX7_impossibleOrder_45 : decode cX7_impossibleOrder 45 = .ok (.iconst 0, 1) := by decide +kernel
theorem dX7_impossibleOrder_46 : decode cX7_impossibleOrder 46 = .ok (.invokestatic 47, 3) := by decide +kernel
theorem dX7_impossibleOrder_49 : decode cX7_impossibleOrder 49 = .ok (.iload_n 1, 1) := by decide +kernel
theorem dX7_impossibleOrder_50 : decode cX7_impossibleOrder 50 = .ok (.aload_n 0, 1) := by decide +kernel
theorem dX7_impossibleOrder_51 : decode cX7_impossibleOrder 51 = .ok (.getfield 218, 3) := by decide +kernel
theorem dX7_impossibleOrder_54 : decode cX7_impossibleOrder 54 = .ok (.if_icmp .ne 7, 3) := by decide +kernel
theorem dX7_impossibleOrder_57 : decode cX7_impossibleOrder 57 = .ok (.iconst (-1), 1) := by decide +kernel
theorem dX7_impossibleOrder_58 : decode cX7_impossibleOrder 58 = .ok (.goto 4, 3) := by decide +kernel
theorem dX7_impossibleOrder_61 : decode cX7_impossibleOrder 61 = .ok (.iload_n 1, 1) := by decide +kernel
theorem dX7_impossibleOrder_62 : decode cX7_impossibleOrder 62 = .ok (.ireturn, 1) := by decide +kernel
set_option maxRecDepth 20000 in
theorem ggX7_carryOut_X7_isValid : GoodIn wsX7_carryOut wsX7_isValid := goodIn_r _ [9, 10, 4, 11, 12, 13, 14, 8, 15, 16, 17, 18, 19, 20, 21, 22, 23, 24, 25, 26, 27, 28, 29, 30, 31, 32, 33, 34, 35, 36, 37, 38, 39, 237, 238, 239, 240, 241, 242, 243, 244, 245, 246, 247, 248, 249, 250, 251, 252] (by decide +kernel) (by decide +kernel)
set_option maxRecDepth 20000 in
theorem gX7_carryOut_X7_isValid : GoodIn wsX7_carryOut (wsV RX7 237 RX7 yX7_isValid wsX7_isValid) := goodIn_app (goodIn_of _ (by decide +kernel)) ggX7_carryOut_X7_isValid
set_option maxRecDepth 20000 in
theorem ggX7_carryOut_X7_refuses : GoodIn wsX7_carryOut wsX7_refuses := goodIn_r _ [43, 1, 237, 238, 239, 240, 241, 242, 243, 244, 245, 246, 247, 248, 249, 250, 251, 252] (by decide +kernel) (by decide +kernel)
set_option maxRecDepth 20000 in
theorem gX7_carryOut_X7_refuses : GoodIn wsX7_carryOut (wsV RX7 154 RX7 yX7_refuses wsX7_refuses) := goodIn_app (goodIn_of _ (by decide +kernel)) ggX7_carryOut_X7_refuses
set_option maxRecDepth 20000 in
theorem ggX7_carryOut_X7_lays : GoodIn wsX7_carryOut wsX7_lays := goodIn_r _ [46] (by decide +kernel) (by decide +kernel)
set_option maxRecDepth 20000 in
theorem gX7_carryOut_X7_lays : GoodIn wsX7_carryOut (va_wsS RX7 47 yX7_lays wsX7_lays) := goodIn_app (goodIn_of _ (by decide +kernel)) ggX7_carryOut_X7_lays
set_option maxRecDepth 20000 in
theorem ggX7_carryOut_X7_doesAll_q1 : GoodIn wsX7_carryOut ([Cond.code yX7_doesAll cX7_doesAll 2 (some .int)]) := goodIn_r _ [50] (by decide +kernel) (by decide +kernel)
set_option maxRecDepth 20000 in
theorem ggX7_carryOut_X7_doesAll_q2 : GoodIn wsX7_carryOut (wsX7_doesAll_r1) := goodIn_r _ [4, 51, 52, 53, 8, 54, 2, 55, 56, 57, 58, 17, 59, 60, 61, 62, 63, 64, 65, 26, 27, 28, 66, 67] (by decide +kernel) (by decide +kernel)
set_option maxRecDepth 20000 in
theorem ggX7_carryOut_X7_doesAll_q3 : GoodIn wsX7_carryOut (wsX7_doesAll_r2) := goodIn_r _ [68, 69, 70, 71, 72, 73, 74, 75, 76, 77, 78, 79, 80, 81, 82, 83, 84, 85, 86, 87, 88, 89, 90, 91] (by decide +kernel) (by decide +kernel)
set_option maxRecDepth 20000 in
theorem ggX7_carryOut_X7_doesAll_q4 : GoodIn wsX7_carryOut (wsX7_doesAll_r3) := goodIn_r _ [92, 93, 94, 95, 96, 97, 98, 99, 100, 101, 102, 103, 104, 105, 106, 107, 108, 109, 110, 111, 112, 113, 114, 115] (by decide +kernel) (by decide +kernel)
set_option maxRecDepth 20000 in
theorem ggX7_carryOut_X7_doesAll_q5 : GoodIn wsX7_carryOut (wsX7_doesAll_r4) := goodIn_r _ [116, 117, 118, 119, 120, 121, 122, 123, 124, 125, 126, 127, 128, 129, 130, 131, 132, 133, 134, 135, 136, 137, 138, 139] (by decide +kernel) (by decide +kernel)
set_option maxRecDepth 20000 in
theorem ggX7_carryOut_X7_doesAll_q6 : GoodIn wsX7_carryOut (wsX7_doesAll_r5) := goodIn_r _ [140, 141, 142, 143, 144, 145, 146, 147, 148, 149, 150, 151, 152, 153, 154, 155, 156, 157, 158, 159, 160, 161, 162, 163] (by decide +kernel) (by decide +kernel)
set_option maxRecDepth 20000 in
theorem ggX7_carryOut_X7_doesAll_q7 : GoodIn wsX7_carryOut (wsX7_doesAll_r6) := goodIn_r _ [164, 165, 166, 167, 168, 169, 170, 171, 172, 173, 174, 175, 176, 177, 178, 179, 180, 181, 182, 183, 184, 185, 186, 187] (by decide +kernel) (by decide +kernel)
set_option maxRecDepth 20000 in
theorem ggX7_carryOut_X7_doesAll_q8 : GoodIn wsX7_carryOut (wsX7_doesAll_r7) := goodIn_r _ [188, 189, 190, 191, 192, 193, 194, 195, 196, 197, 198, 199, 200, 201, 202, 203, 204, 205, 206, 207, 208, 209, 210, 211] (by decide +kernel) (by decide +kernel)
set_option maxRecDepth 20000 in
theorem ggX7_carryOut_X7_doesAll_q9 : GoodIn wsX7_carryOut (wsX7_doesAll_r8) := goodIn_r _ [212, 213, 214, 215, 216, 217, 218, 219, 220, 221, 222, 223, 224, 225, 226, 227, 228, 229, 230] (by decide +kernel) (by decide +kernel)
set_option maxRecDepth 20000 in
theorem ggX7_carryOut_X7_doesAll_q10 : GoodIn wsX7_carryOut (wsX70) := goodIn_r _ [237, 238, 239, 240, 241, 242, 243, 244, 245, 246, 247, 248, 249, 250, 251, 252] (by decide +kernel) (by decide +kernel)
theorem ggX7_carryOut_X7_doesAll : GoodIn wsX7_carryOut wsX7_doesAll := (goodIn_app (a := [Cond.code yX7_doesAll cX7_doesAll 2 (some .int)]) ggX7_carryOut_X7_doesAll_q1 (goodIn_app (goodIn_app ggX7_carryOut_X7_doesAll_q2 (goodIn_app ggX7_carryOut_X7_doesAll_q3 (goodIn_app ggX7_carryOut_X7_doesAll_q4 (goodIn_app ggX7_carryOut_X7_doesAll_q5 (goodIn_app ggX7_carryOut_X7_doesAll_q6 (goodIn_app ggX7_carryOut_X7_doesAll_q7 (goodIn_app ggX7_carryOut_X7_doesAll_q8 ggX7_carryOut_X7_doesAll_q9))))))) ggX7_carryOut_X7_doesAll_q10))
set_option maxRecDepth 20000 in
theorem gX7_carryOut_X7_doesAll : GoodIn wsX7_carryOut (wsV RX7 251 RX7 yX7_doesAll wsX7_doesAll) := goodIn_app (goodIn_of _ (by decide +kernel)) ggX7_carryOut_X7_doesAll
set_option maxRecDepth 20000 in
theorem ggX7_carryOut_X7_saves : GoodIn wsX7_carryOut wsX7_saves := goodIn_r _ [234, 235, 236, 44, 45, 8, 46, 237, 238, 239, 240, 241, 242, 243, 244, 245, 246, 247, 248, 249, 250, 251, 252] (by decide +kernel) (by decide +kernel)
set_option maxRecDepth 20000 in
theorem gX7_carryOut_X7_saves : GoodIn wsX7_carryOut (wsV RX7 157 RX7 yX7_saves wsX7_saves) := goodIn_app (goodIn_of _ (by decide +kernel)) ggX7_carryOut_X7_saves
theorem dX7_carryOut_0 : decode cX7_carryOut 0 = .ok (.aload_n 0, 1) := by decide +kernel
theorem dX7_carryOut_1 : decode cX7_carryOut 1 = .ok (.iconst 0, 1) := by decide +kernel
theorem dX7_carryOut_2 : decode cX7_carryOut 2 = .ok (.putfield 40, 3) := by decide +kernel
theorem dX7_carryOut_5 : decode cX7_carryOut 5 = .ok (.aload_n 0, 1) := by decide +kernel
theorem dX7_carryOut_6 : decode cX7_carryOut 6 = .ok (.invokevirtual 237, 3) := by decide +kernel
theorem dX7_carryOut_9 : decode cX7_carryOut 9 = .ok (.ifCond .ne 9, 3) := by decide +kernel
theorem dX7_carryOut_12 : decode cX7_carryOut 12 = .ok (.aload_n 0, 1) := by decide +kernel
theorem dX7_carryOut_13 : decode cX7_carryOut 13 = .ok (.iconst 1, 1) := by decide +kernel
theorem dX7_carryOut_14 : decode cX7_carryOut 14 = .ok (.invokevirtual 154, 3) := by decide +kernel
theorem dX7_carryOut_17 : decode cX7_carryOut 17 = .ok (.ireturn, 1) := by decide +kernel
theorem dX7_carryOut_18 : decode cX7_carryOut 18 = .ok (.aload_n 0, 1) := by decide +kernel
theorem dX7_carryOut_19 : decode cX7_carryOut 19 = .ok (.getfield 7, 3) := by decide +kernel
theorem dX7_carryOut_22 : decode cX7_carryOut 22 = .ok (.iconst 0, 1) := by decide +kernel
theorem dX7_carryOut_23 : decode cX7_carryOut 23 = .ok (.aload_n 0, 1) := by decide +kernel
theorem dX7_carryOut_24 : decode cX7_carryOut 24 = .ok (.getfield 19, 3) := by decide +kernel
theorem dX7_carryOut_27 : decode cX7_carryOut 27 = .ok (.iconst 0, 1) := by decide +kernel
theorem dX7_carryOut_28 : decode cX7_carryOut 28 = .ok (.invokestatic 47, 3) := by decide +kernel
theorem dX7_carryOut_31 : decode cX7_carryOut 31 = .ok (.aload_n 0, 1) := by decide +kernel
theorem dX7_carryOut_32 : decode cX7_carryOut 32 = .ok (.invokevirtual 251, 3) := by decide +kernel
theorem dX7_carryOut_35 : decode cX7_carryOut 35 = .ok (.aload_n 0, 1) := by decide +kernel
theorem dX7_carryOut_36 : decode cX7_carryOut 36 = .ok (.getfield 218, 3) := by decide +kernel
theorem dX7_carryOut_39 : decode cX7_carryOut 39 = .ok (.if_icmp .ge 22, 3) := by decide +kernel
theorem dX7_carryOut_42 : decode cX7_carryOut 42 = .ok (.aload_n 0, 1) := by decide +kernel
theorem dX7_carryOut_43 : decode cX7_carryOut 43 = .ok (.getfield 19, 3) := by decide +kernel
theorem dX7_carryOut_46 : decode cX7_carryOut 46 = .ok (.iconst 0, 1) := by decide +kernel
theorem dX7_carryOut_47 : decode cX7_carryOut 47 = .ok (.aload_n 0, 1) := by decide +kernel
theorem dX7_carryOut_48 : decode cX7_carryOut 48 = .ok (.getfield 7, 3) := by decide +kernel
theorem dX7_carryOut_51 : decode cX7_carryOut 51 = .ok (.iconst 0, 1) := by decide +kernel
theorem dX7_carryOut_52 : decode cX7_carryOut 52 = .ok (.invokestatic 47, 3) := by decide +kernel
theorem dX7_carryOut_55 : decode cX7_carryOut 55 = .ok (.aload_n 0, 1) := by decide +kernel
theorem dX7_carryOut_56 : decode cX7_carryOut 56 = .ok (.iconst 1, 1) := by decide +kernel
theorem dX7_carryOut_57 : decode cX7_carryOut 57 = .ok (.invokevirtual 154, 3) := by decide +kernel
theorem dX7_carryOut_60 : decode cX7_carryOut 60 = .ok (.ireturn, 1) := by decide +kernel
theorem dX7_carryOut_61 : decode cX7_carryOut 61 = .ok (.aload_n 0, 1) := by decide +kernel
theorem dX7_carryOut_62 : decode cX7_carryOut 62 = .ok (.aload_n 0, 1) := by decide +kernel
theorem dX7_carryOut_63 : decode cX7_carryOut 63 = .ok (.getfield 19, 3) := by decide +kernel
theorem dX7_carryOut_66 : decode cX7_carryOut 66 = .ok (.invokevirtual 157, 3) := by decide +kernel
theorem dX7_carryOut_69 : decode cX7_carryOut 69 = .ok (.aload_n 0, 1) := by decide +kernel
theorem dX7_carryOut_70 : decode cX7_carryOut 70 = .ok (.getfield 218, 3) := by decide +kernel
theorem dX7_carryOut_73 : decode cX7_carryOut 73 = .ok (.ireturn, 1) := by decide +kernel
set_option maxRecDepth 20000 in
theorem ggX7_undo_X7_refuses : GoodIn wsX7_undo wsX7_refuses := goodIn_r _ [9, 1, 13, 14, 15, 16, 17, 18, 19, 20, 21, 22, 23, 24, 25, 26, 27, 28] (by decide +kernel) (by decide +kernel)
set_option maxRecDepth 20000 in
theorem gX7_undo_X7_refuses : GoodIn wsX7_undo (wsV RX7 154 RX7 yX7_refuses wsX7_refuses) := goodIn_app (goodIn_of _ (by decide +kernel)) ggX7_undo_X7_refuses
set_option maxRecDepth 20000 in
theorem ggX7_undo_X7_lays : GoodIn wsX7_undo wsX7_lays := goodIn_r _ [12] (by decide +kernel) (by decide +kernel)
set_option maxRecDepth 20000 in
theorem gX7_undo_X7_lays : GoodIn wsX7_undo (va_wsS RX7 47 yX7_lays wsX7_lays) := goodIn_app (goodIn_of _ (by decide +kernel)) ggX7_undo_X7_lays
theorem dX7_undo_0 : decode cX7_undo 0 = .ok (.aload_n 0, 1) := by decide +kernel
theorem dX7_undo_1 : decode cX7_undo 1 = .ok (.iconst 0, 1) := by decide +kernel
theorem dX7_undo_2 : decode cX7_undo 2 = .ok (.putfield 40, 3) := by decide +kernel
theorem dX7_undo_5 : decode cX7_undo 5 = .ok (.aload_n 0, 1) := by decide +kernel
theorem dX7_undo_6 : decode cX7_undo 6 = .ok (.getfield 44, 3) := by decide +kernel
theorem dX7_undo_9 : decode cX7_undo 9 = .ok (.ifCond .ne 9, 3) := by decide +kernel
theorem dX7_undo_12 : decode cX7_undo 12 = .ok (.aload_n 0, 1) := by decide +kernel
theorem dX7_undo_13 : decode cX7_undo 13 = .ok (.iconst 1, 1) := by decide +kernel
theorem dX7_undo_14 : decode cX7_undo 14 = .ok (.invokevirtual 154, 3) := by decide +kernel
theorem dX7_undo_17 : decode cX7_undo 17 = .ok (.ireturn, 1) := by decide +kernel
theorem dX7_undo_18 : decode cX7_undo 18 = .ok (.aload_n 0, 1) := by decide +kernel
theorem dX7_undo_19 : decode cX7_undo 19 = .ok (.dup, 1) := by decide +kernel
theorem dX7_undo_20 : decode cX7_undo 20 = .ok (.getfield 44, 3) := by decide +kernel
theorem dX7_undo_23 : decode cX7_undo 23 = .ok (.iconst 1, 1) := by decide +kernel
theorem dX7_undo_24 : decode cX7_undo 24 = .ok (.isub, 1) := by decide +kernel
theorem dX7_undo_25 : decode cX7_undo 25 = .ok (.putfield 44, 3) := by decide +kernel
theorem dX7_undo_28 : decode cX7_undo 28 = .ok (.aload_n 0, 1) := by decide +kernel
theorem dX7_undo_29 : decode cX7_undo 29 = .ok (.getfield 13, 3) := by decide +kernel
theorem dX7_undo_32 : decode cX7_undo 32 = .ok (.sipush 1483, 3) := by decide +kernel
theorem dX7_undo_35 : decode cX7_undo 35 = .ok (.aload_n 0, 1) := by decide +kernel
theorem dX7_undo_36 : decode cX7_undo 36 = .ok (.getfield 44, 3) := by decide +kernel
theorem dX7_undo_39 : decode cX7_undo 39 = .ok (.imul, 1) := by decide +kernel
theorem dX7_undo_40 : decode cX7_undo 40 = .ok (.aload_n 0, 1) := by decide +kernel
theorem dX7_undo_41 : decode cX7_undo 41 = .ok (.getfield 7, 3) := by decide +kernel
theorem dX7_undo_44 : decode cX7_undo 44 = .ok (.iconst 0, 1) := by decide +kernel
theorem dX7_undo_45 : decode cX7_undo 45 = .ok (.invokestatic 47, 3) := by decide +kernel
theorem dX7_undo_48 : decode cX7_undo 48 = .ok (.aload_n 0, 1) := by decide +kernel
theorem dX7_undo_49 : decode cX7_undo 49 = .ok (.getfield 44, 3) := by decide +kernel
theorem dX7_undo_52 : decode cX7_undo 52 = .ok (.ireturn, 1) := by decide +kernel
set_option maxRecDepth 20000 in
theorem ggX7_takeSnapshot_X7_lays : GoodIn wsX7_takeSnapshot wsX7_lays := goodIn_r _ [8] (by decide +kernel) (by decide +kernel)
set_option maxRecDepth 20000 in
theorem gX7_takeSnapshot_X7_lays : GoodIn wsX7_takeSnapshot (va_wsS RX7 47 yX7_lays wsX7_lays) := goodIn_app (goodIn_of _ (by decide +kernel)) ggX7_takeSnapshot_X7_lays
theorem dX7_takeSnapshot_0 : decode cX7_takeSnapshot 0 = .ok (.aload_n 0, 1) := by decide +kernel
theorem dX7_takeSnapshot_1 : decode cX7_takeSnapshot 1 = .ok (.iconst 0, 1) := by decide +kernel
theorem dX7_takeSnapshot_2 : decode cX7_takeSnapshot 2 = .ok (.putfield 40, 3) := by decide +kernel
theorem dX7_takeSnapshot_5 : decode cX7_takeSnapshot 5 = .ok (.aload_n 0, 1) := by decide +kernel
theorem dX7_takeSnapshot_6 : decode cX7_takeSnapshot 6 = .ok (.getfield 7, 3) := by decide +kernel
theorem dX7_takeSnapshot_9 : decode cX7_takeSnapshot 9 = .ok (.iconst 0, 1) := by decide +kernel
theorem dX7_takeSnapshot_10 : decode cX7_takeSnapshot 10 = .ok (.aload_n 0, 1) := by decide +kernel
theorem dX7_takeSnapshot_11 : decode cX7_takeSnapshot 11 = .ok (.getfield 16, 3) := by decide +kernel
theorem dX7_takeSnapshot_14 : decode cX7_takeSnapshot 14 = .ok (.iconst 0, 1) := by decide +kernel
theorem dX7_takeSnapshot_15 : decode cX7_takeSnapshot 15 = .ok (.invokestatic 47, 3) := by decide +kernel
theorem dX7_takeSnapshot_18 : decode cX7_takeSnapshot 18 = .ok (.aload_n 0, 1) := by decide +kernel
theorem dX7_takeSnapshot_19 : decode cX7_takeSnapshot 19 = .ok (.iconst 1, 1) := by decide +kernel
theorem dX7_takeSnapshot_20 : decode cX7_takeSnapshot 20 = .ok (.putfield 254, 3) := by decide +kernel
theorem dX7_takeSnapshot_23 : decode cX7_takeSnapshot 23 = .ok (.aload_n 0, 1) := by decide +kernel
theorem dX7_takeSnapshot_24 : decode cX7_takeSnapshot 24 = .ok (.getfield 7, 3) := by decide +kernel
theorem dX7_takeSnapshot_27 : decode cX7_takeSnapshot 27 = .ok (.iconst 0, 1) := by decide +kernel
theorem dX7_takeSnapshot_28 : decode cX7_takeSnapshot 28 = .ok (.iaload, 1) := by decide +kernel
theorem dX7_takeSnapshot_29 : decode cX7_takeSnapshot 29 = .ok (.ireturn, 1) := by decide +kernel
set_option maxRecDepth 20000 in
theorem ggX7_restoreSnapshot_X7_refuses : GoodIn wsX7_restoreSnapshot wsX7_refuses := goodIn_r _ [9, 1, 19, 20, 21, 22, 23, 24, 25, 26, 27, 28, 29, 30, 31, 32, 33, 34] (by decide +kernel) (by decide +kernel)
set_option maxRecDepth 20000 in
theorem gX7_restoreSnapshot_X7_refuses : GoodIn wsX7_restoreSnapshot (wsV RX7 154 RX7 yX7_refuses wsX7_refuses) := goodIn_app (goodIn_of _ (by decide +kernel)) ggX7_restoreSnapshot_X7_refuses
set_option maxRecDepth 20000 in
theorem ggX7_restoreSnapshot_X7_saves : GoodIn wsX7_restoreSnapshot wsX7_saves := goodIn_r _ [13, 14, 15, 16, 17, 8, 18, 19, 20, 21, 22, 23, 24, 25, 26, 27, 28, 29, 30, 31, 32, 33, 34] (by decide +kernel) (by decide +kernel)
set_option maxRecDepth 20000 in
theorem gX7_restoreSnapshot_X7_saves : GoodIn wsX7_restoreSnapshot (wsV RX7 157 RX7 yX7_saves wsX7_saves) := goodIn_app (goodIn_of _ (by decide +kernel)) ggX7_restoreSnapshot_X7_saves
set_option maxRecDepth 20000 in
theorem ggX7_restoreSnapshot_X7_lays : GoodIn wsX7_restoreSnapshot wsX7_lays := goodIn_r _ [18] (by decide +kernel) (by decide +kernel)
set_option maxRecDepth 20000 in
theorem gX7_restoreSnapshot_X7_lays : GoodIn wsX7_restoreSnapshot (va_wsS RX7 47 yX7_lays wsX7_lays) := goodIn_app (goodIn_of _ (by decide +kernel)) ggX7_restoreSnapshot_X7_lays
theorem dX7_restoreSnapshot_0 : decode cX7_restoreSnapshot 0 = .ok (.aload_n 0, 1) := by decide +kernel
theorem dX7_restoreSnapshot_1 : decode cX7_restoreSnapshot 1 = .ok (.iconst 0, 1) := by decide +kernel
theorem dX7_restoreSnapshot_2 : decode cX7_restoreSnapshot 2 = .ok (.putfield 40, 3) := by decide +kernel
theorem dX7_restoreSnapshot_5 : decode cX7_restoreSnapshot 5 = .ok (.aload_n 0, 1) := by decide +kernel
theorem dX7_restoreSnapshot_6 : decode cX7_restoreSnapshot 6 = .ok (.getfield 254, 3) := by decide +kernel
theorem dX7_restoreSnapshot_9 : decode cX7_restoreSnapshot 9 = .ok (.ifCond .ne 9, 3) := by decide +kernel
theorem dX7_restoreSnapshot_12 : decode cX7_restoreSnapshot 12 = .ok (.aload_n 0, 1) := by decide +kernel
theorem dX7_restoreSnapshot_13 : decode cX7_restoreSnapshot 13 = .ok (.iconst 1, 1) := by decide +kernel
theorem dX7_restoreSnapshot_14 : decode cX7_restoreSnapshot 14 = .ok (.invokevirtual 154, 3) := by decide +kernel
theorem dX7_restoreSnapshot_17 : decode cX7_restoreSnapshot 17 = .ok (.ireturn, 1) := by decide +kernel
theorem dX7_restoreSnapshot_18 : decode cX7_restoreSnapshot 18 = .ok (.aload_n 0, 1) := by decide +kernel
theorem dX7_restoreSnapshot_19 : decode cX7_restoreSnapshot 19 = .ok (.aload_n 0, 1) := by decide +kernel
theorem dX7_restoreSnapshot_20 : decode cX7_restoreSnapshot 20 = .ok (.getfield 7, 3) := by decide +kernel
theorem dX7_restoreSnapshot_23 : decode cX7_restoreSnapshot 23 = .ok (.invokevirtual 157, 3) := by decide +kernel
theorem dX7_restoreSnapshot_26 : decode cX7_restoreSnapshot 26 = .ok (.aload_n 0, 1) := by decide +kernel
theorem dX7_restoreSnapshot_27 : decode cX7_restoreSnapshot 27 = .ok (.getfield 16, 3) := by decide +kernel
theorem dX7_restoreSnapshot_30 : decode cX7_restoreSnapshot 30 = .ok (.iconst 0, 1) := by decide +kernel
theorem dX7_restoreSnapshot_31 : decode cX7_restoreSnapshot 31 = .ok (.aload_n 0, 1) := by decide +kernel
theorem dX7_restoreSnapshot_32 : decode cX7_restoreSnapshot 32 = .ok (.getfield 7, 3) := by decide +kernel
theorem dX7_restoreSnapshot_35 : decode cX7_restoreSnapshot 35 = .ok (.iconst 0, 1) := by decide +kernel
theorem dX7_restoreSnapshot_36 : decode cX7_restoreSnapshot 36 = .ok (.invokestatic 47, 3) := by decide +kernel
theorem dX7_restoreSnapshot_39 : decode cX7_restoreSnapshot 39 = .ok (.aload_n 0, 1) := by decide +kernel
theorem dX7_restoreSnapshot_40 : decode cX7_restoreSnapshot 40 = .ok (.getfield 7, 3) := by decide +kernel
theorem dX7_restoreSnapshot_43 : decode cX7_restoreSnapshot 43 = .ok (.iconst 0, 1) := by decide +kernel
theorem dX7_restoreSnapshot_44 : decode cX7_restoreSnapshot 44 = .ok (.iaload, 1) := by decide +kernel
theorem dX7_restoreSnapshot_45 : decode cX7_restoreSnapshot 45 = .ok (.ireturn, 1) := by decide +kernel
theorem dX7_singers_0 : decode cX7_singers 0 = .ok (.aload_n 0, 1) := by decide +kernel
theorem dX7_singers_1 : decode cX7_singers 1 = .ok (.iconst 0, 1) := by decide +kernel
theorem dX7_singers_2 : decode cX7_singers 2 = .ok (.putfield 40, 3) := by decide +kernel
theorem dX7_singers_5 : decode cX7_singers 5 = .ok (.aload_n 0, 1) := by decide +kernel
theorem dX7_singers_6 : decode cX7_singers 6 = .ok (.getfield 7, 3) := by decide +kernel
theorem dX7_singers_9 : decode cX7_singers 9 = .ok (.iconst 1, 1) := by decide +kernel
theorem dX7_singers_10 : decode cX7_singers 10 = .ok (.iaload, 1) := by decide +kernel
theorem dX7_singers_11 : decode cX7_singers 11 = .ok (.ireturn, 1) := by decide +kernel
set_option maxRecDepth 20000 in
theorem ggX7_isInChoir_X7_isSinger : GoodIn wsX7_isInChoir wsX7_isSinger := goodIn_r _ [6, 7, 8, 9, 5, 10, 19, 20, 21, 22, 23, 24, 25, 26, 27, 28, 29, 30, 31, 32, 33, 34] (by decide +kernel) (by decide +kernel)
set_option maxRecDepth 20000 in
theorem gX7_isInChoir_X7_isSinger : GoodIn wsX7_isInChoir (wsV RX7 164 RX7 yX7_isSinger wsX7_isSinger) := goodIn_app (goodIn_of _ (by decide +kernel)) ggX7_isInChoir_X7_isSinger
set_option maxRecDepth 20000 in
theorem ggX7_isInChoir_X7_its : GoodIn wsX7_isInChoir wsX7_its := goodIn_r _ [14, 7, 19, 20, 21, 22, 23, 24, 25, 26, 27, 28, 29, 30, 31, 32, 33, 34] (by decide +kernel) (by decide +kernel)
set_option maxRecDepth 20000 in
theorem gX7_isInChoir_X7_its : GoodIn wsX7_isInChoir (wsV RX7 70 RX7 yX7_its wsX7_its) := goodIn_app (goodIn_of _ (by decide +kernel)) ggX7_isInChoir_X7_its
set_option maxRecDepth 20000 in
theorem ggX7_isInChoir_X7_refuses : GoodIn wsX7_isInChoir wsX7_refuses := goodIn_r _ [18, 1, 19, 20, 21, 22, 23, 24, 25, 26, 27, 28, 29, 30, 31, 32, 33, 34] (by decide +kernel) (by decide +kernel)
set_option maxRecDepth 20000 in
theorem gX7_isInChoir_X7_refuses : GoodIn wsX7_isInChoir (wsV RX7 154 RX7 yX7_refuses wsX7_refuses) := goodIn_app (goodIn_of _ (by decide +kernel)) ggX7_isInChoir_X7_refuses
theorem dX7_isInChoir_0 : decode cX7_isInChoir 0 = .ok (.aload_n 0, 1) := by decide +kernel
theorem dX7_isInChoir_1 : decode cX7_isInChoir 1 = .ok (.iconst 0, 1) := by decide +kernel
theorem dX7_isInChoir_2 : decode cX7_isInChoir 2 = .ok (.putfield 40, 3) := by decide +kernel
theorem dX7_isInChoir_5 : decode cX7_isInChoir 5 = .ok (.aload_n 0, 1) := by decide +kernel
theorem dX7_isInChoir_6 : decode cX7_isInChoir 6 = .ok (.iload_n 1, 1) := by decide +kernel
theorem dX7_isInChoir_7 : decode cX7_isInChoir 7 = .ok (.invokevirtual 164, 3) := by decide +kernel
theorem dX7_isInChoir_10 : decode cX7_isInChoir 10 = .ok (.ifCond .eq 21, 3) := by decide +kernel
theorem dX7_isInChoir_13 : decode cX7_isInChoir 13 = .ok (.aload_n 0, 1) := by decide +kernel
theorem dX7_isInChoir_14 : decode cX7_isInChoir 14 = .ok (.iload_n 1, 1) := by decide +kernel
theorem dX7_isInChoir_15 : decode cX7_isInChoir 15 = .ok (.bipush 7, 2) := by decide +kernel
theorem dX7_isInChoir_17 : decode cX7_isInChoir 17 = .ok (.invokevirtual 70, 3) := by decide +kernel
theorem dX7_isInChoir_20 : decode cX7_isInChoir 20 = .ok (.ifCond .ne 7, 3) := by decide +kernel
theorem dX7_isInChoir_23 : decode cX7_isInChoir 23 = .ok (.iconst 1, 1) := by decide +kernel
theorem dX7_isInChoir_24 : decode cX7_isInChoir 24 = .ok (.goto 20, 3) := by decide +kernel
theorem dX7_isInChoir_27 : decode cX7_isInChoir 27 = .ok (.iconst 0, 1) := by decide +kernel
theorem dX7_isInChoir_28 : decode cX7_isInChoir 28 = .ok (.goto 16, 3) := by decide +kernel
theorem dX7_isInChoir_31 : decode cX7_isInChoir 31 = .ok (.aload_n 0, 1) := by decide +kernel
theorem dX7_isInChoir_32 : decode cX7_isInChoir 32 = .ok (.iconst 1, 1) := by decide +kernel
theorem dX7_isInChoir_33 : decode cX7_isInChoir 33 = .ok (.invokevirtual 154, 3) := by decide +kernel
theorem dX7_isInChoir_36 : decode cX7_isInChoir 36 = .ok (.ifCond .le 7, 3) := by decide +kernel
theorem dX7_isInChoir_39 : decode cX7_isInChoir 39 = .ok (.iconst 1, 1) := by decide +kernel
theorem dX7_isInChoir_40 : decode cX7_isInChoir 40 = .ok (.goto 4, 3) := by decide +kernel
theorem dX7_isInChoir_43 : decode cX7_isInChoir 43 = .ok (.iconst 0, 1) := by decide +kernel
theorem dX7_isInChoir_44 : decode cX7_isInChoir 44 = .ok (.ireturn, 1) := by decide +kernel
set_option maxRecDepth 20000 in
theorem ggX7_ageOf_X7_isSinger : GoodIn wsX7_ageOf wsX7_isSinger := goodIn_r _ [7, 2, 8, 9, 6, 10, 19, 20, 21, 22, 23, 24, 25, 26, 27, 28, 29, 30, 31, 32, 33, 34] (by decide +kernel) (by decide +kernel)
set_option maxRecDepth 20000 in
theorem gX7_ageOf_X7_isSinger : GoodIn wsX7_ageOf (wsV RX7 164 RX7 yX7_isSinger wsX7_isSinger) := goodIn_app (goodIn_of _ (by decide +kernel)) ggX7_ageOf_X7_isSinger
set_option maxRecDepth 20000 in
theorem ggX7_ageOf_X7_its : GoodIn wsX7_ageOf wsX7_its := goodIn_r _ [14, 2, 19, 20, 21, 22, 23, 24, 25, 26, 27, 28, 29, 30, 31, 32, 33, 34] (by decide +kernel) (by decide +kernel)
set_option maxRecDepth 20000 in
theorem gX7_ageOf_X7_its : GoodIn wsX7_ageOf (wsV RX7 70 RX7 yX7_its wsX7_its) := goodIn_app (goodIn_of _ (by decide +kernel)) ggX7_ageOf_X7_its
set_option maxRecDepth 20000 in
theorem ggX7_ageOf_X7_refuses : GoodIn wsX7_ageOf wsX7_refuses := goodIn_r _ [18, 1, 19, 20, 21, 22, 23, 24, 25, 26, 27, 28, 29, 30, 31, 32, 33, 34] (by decide +kernel) (by decide +kernel)
set_option maxRecDepth 20000 in
theorem gX7_ageOf_X7_refuses : GoodIn wsX7_ageOf (wsV RX7 154 RX7 yX7_refuses wsX7_refuses) := goodIn_app (goodIn_of _ (by decide +kernel)) ggX7_ageOf_X7_refuses
theorem dX7_ageOf_0 : decode cX7_ageOf 0 = .ok (.aload_n 0, 1) := by decide +kernel
theorem dX7_ageOf_1 : decode cX7_ageOf 1 = .ok (.iconst 0, 1) := by decide +kernel
theorem dX7_ageOf_2 : decode cX7_ageOf 2 = .ok (.putfield 40, 3) := by decide +kernel
theorem dX7_ageOf_5 : decode cX7_ageOf 5 = .ok (.aload_n 0, 1) := by decide +kernel
theorem dX7_ageOf_6 : decode cX7_ageOf 6 = .ok (.iload_n 1, 1) := by decide +kernel
theorem dX7_ageOf_7 : decode cX7_ageOf 7 = .ok (.invokevirtual 164, 3) := by decide +kernel
theorem dX7_ageOf_10 : decode cX7_ageOf 10 = .ok (.ifCond .eq 30, 3) := by decide +kernel
theorem dX7_ageOf_13 : decode cX7_ageOf 13 = .ok (.aload_n 0, 1) := by decide +kernel
theorem dX7_ageOf_14 : decode cX7_ageOf 14 = .ok (.iload_n 1, 1) := by decide +kernel
theorem dX7_ageOf_15 : decode cX7_ageOf 15 = .ok (.iconst 1, 1) := by decide +kernel
theorem dX7_ageOf_16 : decode cX7_ageOf 16 = .ok (.invokevirtual 70, 3) := by decide +kernel
theorem dX7_ageOf_19 : decode cX7_ageOf 19 = .ok (.aload_n 0, 1) := by decide +kernel
theorem dX7_ageOf_20 : decode cX7_ageOf 20 = .ok (.getfield 7, 3) := by decide +kernel
theorem dX7_ageOf_23 : decode cX7_ageOf 23 = .ok (.iconst 0, 1) := by decide +kernel
theorem dX7_ageOf_24 : decode cX7_ageOf 24 = .ok (.iaload, 1) := by decide +kernel
theorem dX7_ageOf_25 : decode cX7_ageOf 25 = .ok (.aload_n 0, 1) := by decide +kernel
theorem dX7_ageOf_26 : decode cX7_ageOf 26 = .ok (.iload_n 1, 1) := by decide +kernel
theorem dX7_ageOf_27 : decode cX7_ageOf 27 = .ok (.iconst 2, 1) := by decide +kernel
theorem dX7_ageOf_28 : decode cX7_ageOf 28 = .ok (.invokevirtual 70, 3) := by decide +kernel
theorem dX7_ageOf_31 : decode cX7_ageOf 31 = .ok (.isub, 1) := by decide +kernel
theorem dX7_ageOf_32 : decode cX7_ageOf 32 = .ok (.sipush 360, 3) := by decide +kernel
theorem dX7_ageOf_35 : decode cX7_ageOf 35 = .ok (.idiv, 1) := by decide +kernel
theorem dX7_ageOf_36 : decode cX7_ageOf 36 = .ok (.iadd, 1) := by decide +kernel
theorem dX7_ageOf_37 : decode cX7_ageOf 37 = .ok (.goto 8, 3) := by decide +kernel
theorem dX7_ageOf_40 : decode cX7_ageOf 40 = .ok (.aload_n 0, 1) := by decide +kernel
theorem dX7_ageOf_41 : decode cX7_ageOf 41 = .ok (.iconst 1, 1) := by decide +kernel
theorem dX7_ageOf_42 : decode cX7_ageOf 42 = .ok (.invokevirtual 154, 3) := by decide +kernel
theorem dX7_ageOf_45 : decode cX7_ageOf 45 = .ok (.ireturn, 1) := by decide +kernel
set_option maxRecDepth 20000 in
theorem ggX7_lowestNoteOf_X7_isSinger : GoodIn wsX7_lowestNoteOf wsX7_isSinger := goodIn_r _ [7, 2, 8, 9, 6, 10, 27, 28, 29, 30, 31, 32, 33, 34, 35, 36, 37, 38, 39, 40, 41, 42] (by decide +kernel) (by decide +kernel)
set_option maxRecDepth 20000 in
theorem gX7_lowestNoteOf_X7_isSinger : GoodIn wsX7_lowestNoteOf (wsV RX7 164 RX7 yX7_isSinger wsX7_isSinger) := goodIn_app (goodIn_of _ (by decide +kernel)) ggX7_lowestNoteOf_X7_isSinger
set_option maxRecDepth 20000 in
theorem ggX7_lowestNoteOf_X7_note : GoodIn wsX7_lowestNoteOf wsX7_note := goodIn_r _ [14, 15, 16, 17, 6, 18, 2, 19, 20, 21, 22, 27, 28, 29, 30, 31, 32, 33, 34, 35, 36, 37, 38, 39, 40, 41, 42] (by decide +kernel) (by decide +kernel)
set_option maxRecDepth 20000 in
theorem gX7_lowestNoteOf_X7_note : GoodIn wsX7_lowestNoteOf (wsV RX7 100 RX7 yX7_note wsX7_note) := goodIn_app (goodIn_of _ (by decide +kernel)) ggX7_lowestNoteOf_X7_note
set_option maxRecDepth 20000 in
theorem ggX7_lowestNoteOf_X7_refuses : GoodIn wsX7_lowestNoteOf wsX7_refuses := goodIn_r _ [26, 1, 27, 28, 29, 30, 31, 32, 33, 34, 35, 36, 37, 38, 39, 40, 41, 42] (by decide +kernel) (by decide +kernel)
set_option maxRecDepth 20000 in
theorem gX7_lowestNoteOf_X7_refuses : GoodIn wsX7_lowestNoteOf (wsV RX7 154 RX7 yX7_refuses wsX7_refuses) := goodIn_app (goodIn_of _ (by decide +kernel)) ggX7_lowestNoteOf_X7_refuses
theorem dX7_lowestNoteOf_0 : decode cX7_lowestNoteOf 0 = .ok (.aload_n 0, 1) := by decide +kernel
theorem dX7_lowestNoteOf_1 : decode cX7_lowestNoteOf 1 = .ok (.iconst 0, 1) := by decide +kernel
theorem dX7_lowestNoteOf_2 : decode cX7_lowestNoteOf 2 = .ok (.putfield 40, 3) := by decide +kernel
theorem dX7_lowestNoteOf_5 : decode cX7_lowestNoteOf 5 = .ok (.aload_n 0, 1) := by decide +kernel
theorem dX7_lowestNoteOf_6 : decode cX7_lowestNoteOf 6 = .ok (.iload_n 1, 1) := by decide +kernel
theorem dX7_lowestNoteOf_7 : decode cX7_lowestNoteOf 7 = .ok (.invokevirtual 164, 3) := by decide +kernel
theorem dX7_lowestNoteOf_10 : decode cX7_lowestNoteOf 10 = .ok (.ifCond .eq 18, 3) := by decide +kernel
theorem dX7_lowestNoteOf_13 : decode cX7_lowestNoteOf 13 = .ok (.aload_n 0, 1) := by decide +kernel
theorem dX7_lowestNoteOf_14 : decode cX7_lowestNoteOf 14 = .ok (.iload_n 1, 1) := by decide +kernel
theorem dX7_lowestNoteOf_15 : decode cX7_lowestNoteOf 15 = .ok (.iconst 4, 1) := by decide +kernel
theorem dX7_lowestNoteOf_16 : decode cX7_lowestNoteOf 16 = .ok (.aload_n 0, 1) := by decide +kernel
theorem dX7_lowestNoteOf_17 : decode cX7_lowestNoteOf 17 = .ok (.getfield 7, 3) := by decide +kernel
theorem dX7_lowestNoteOf_20 : decode cX7_lowestNoteOf 20 = .ok (.iconst 0, 1) := by decide +kernel
theorem dX7_lowestNoteOf_21 : decode cX7_lowestNoteOf 21 = .ok (.iaload, 1) := by decide +kernel
theorem dX7_lowestNoteOf_22 : decode cX7_lowestNoteOf 22 = .ok (.invokevirtual 100, 3) := by decide +kernel
theorem dX7_lowestNoteOf_25 : decode cX7_lowestNoteOf 25 = .ok (.goto 8, 3) := by decide +kernel
theorem dX7_lowestNoteOf_28 : decode cX7_lowestNoteOf 28 = .ok (.aload_n 0, 1) := by decide +kernel
theorem dX7_lowestNoteOf_29 : decode cX7_lowestNoteOf 29 = .ok (.iconst 1, 1) := by decide +kernel
theorem dX7_lowestNoteOf_30 : decode cX7_lowestNoteOf 30 = .ok (.invokevirtual 154, 3) := by decide +kernel
theorem dX7_lowestNoteOf_33 : decode cX7_lowestNoteOf 33 = .ok (.ireturn, 1) := by decide +kernel
set_option maxRecDepth 20000 in
theorem ggX7_highestNoteOf_X7_isSinger : GoodIn wsX7_highestNoteOf wsX7_isSinger := goodIn_r _ [7, 2, 8, 9, 6, 10, 27, 28, 29, 30, 31, 32, 33, 34, 35, 36, 37, 38, 39, 40, 41, 42] (by decide +kernel) (by decide +kernel)
set_option maxRecDepth 20000 in
theorem gX7_highestNoteOf_X7_isSinger : GoodIn wsX7_highestNoteOf (wsV RX7 164 RX7 yX7_isSinger wsX7_isSinger) := goodIn_app (goodIn_of _ (by decide +kernel)) ggX7_highestNoteOf_X7_isSinger
set_option maxRecDepth 20000 in
theorem ggX7_highestNoteOf_X7_note : GoodIn wsX7_highestNoteOf wsX7_note := goodIn_r _ [14, 15, 16, 17, 6, 18, 2, 19, 20, 21, 22, 27, 28, 29, 30, 31, 32, 33, 34, 35, 36, 37, 38, 39, 40, 41, 42] (by decide +kernel) (by decide +kernel)
set_option maxRecDepth 20000 in
theorem gX7_highestNoteOf_X7_note : GoodIn wsX7_highestNoteOf (wsV RX7 100 RX7 yX7_note wsX7_note) := goodIn_app (goodIn_of _ (by decide +kernel)) ggX7_highestNoteOf_X7_note
set_option maxRecDepth 20000 in
theorem ggX7_highestNoteOf_X7_refuses : GoodIn wsX7_highestNoteOf wsX7_refuses := goodIn_r _ [26, 1, 27, 28, 29, 30, 31, 32, 33, 34, 35, 36, 37, 38, 39, 40, 41, 42] (by decide +kernel) (by decide +kernel)
set_option maxRecDepth 20000 in
theorem gX7_highestNoteOf_X7_refuses : GoodIn wsX7_highestNoteOf (wsV RX7 154 RX7 yX7_refuses wsX7_refuses) := goodIn_app (goodIn_of _ (by decide +kernel)) ggX7_highestNoteOf_X7_refuses
theorem dX7_highestNoteOf_0 : decode cX7_highestNoteOf 0 = .ok (.aload_n 0, 1) := by decide +kernel
theorem dX7_highestNoteOf_1 : decode cX7_highestNoteOf 1 = .ok (.iconst 0, 1) := by decide +kernel
theorem dX7_highestNoteOf_2 : decode cX7_highestNoteOf 2 = .ok (.putfield 40, 3) := by decide +kernel
theorem dX7_highestNoteOf_5 : decode cX7_highestNoteOf 5 = .ok (.aload_n 0, 1) := by decide +kernel
theorem dX7_highestNoteOf_6 : decode cX7_highestNoteOf 6 = .ok (.iload_n 1, 1) := by decide +kernel
theorem dX7_highestNoteOf_7 : decode cX7_highestNoteOf 7 = .ok (.invokevirtual 164, 3) := by decide +kernel
theorem dX7_highestNoteOf_10 : decode cX7_highestNoteOf 10 = .ok (.ifCond .eq 18, 3) := by decide +kernel
theorem dX7_highestNoteOf_13 : decode cX7_highestNoteOf 13 = .ok (.aload_n 0, 1) := by decide +kernel
theorem dX7_highestNoteOf_14 : decode cX7_highestNoteOf 14 = .ok (.iload_n 1, 1) := by decide +kernel
theorem dX7_highestNoteOf_15 : decode cX7_highestNoteOf 15 = .ok (.iconst 5, 1) := by decide +kernel
theorem dX7_highestNoteOf_16 : decode cX7_highestNoteOf 16 = .ok (.aload_n 0, 1) := by decide +kernel
theorem dX7_highestNoteOf_17 : decode cX7_highestNoteOf 17 = .ok (.getfield 7, 3) := by decide +kernel
theorem dX7_highestNoteOf_20 : decode cX7_highestNoteOf 20 = .ok (.iconst 0, 1) := by decide +kernel
theorem dX7_highestNoteOf_21 : decode cX7_highestNoteOf 21 = .ok (.iaload, 1) := by decide +kernel
theorem dX7_highestNoteOf_22 : decode cX7_highestNoteOf 22 = .ok (.invokevirtual 100, 3) := by decide +kernel
theorem dX7_highestNoteOf_25 : decode cX7_highestNoteOf 25 = .ok (.goto 8, 3) := by decide +kernel
theorem dX7_highestNoteOf_28 : decode cX7_highestNoteOf 28 = .ok (.aload_n 0, 1) := by decide +kernel
theorem dX7_highestNoteOf_29 : decode cX7_highestNoteOf 29 = .ok (.iconst 1, 1) := by decide +kernel
theorem dX7_highestNoteOf_30 : decode cX7_highestNoteOf 30 = .ok (.invokevirtual 154, 3) := by decide +kernel
theorem dX7_highestNoteOf_33 : decode cX7_highestNoteOf 33 = .ok (.ireturn, 1) := by decide +kernel
set_option maxRecDepth 20000 in
theorem ggX7_breakDayOf_X7_isSinger : GoodIn wsX7_breakDayOf wsX7_isSinger := goodIn_r _ [6, 7, 8, 9, 5, 10, 19, 20, 21, 22, 23, 24, 25, 26, 27, 28, 29, 30, 31, 32, 33, 34] (by decide +kernel) (by decide +kernel)
set_option maxRecDepth 20000 in
theorem gX7_breakDayOf_X7_isSinger : GoodIn wsX7_breakDayOf (wsV RX7 164 RX7 yX7_isSinger wsX7_isSinger) := goodIn_app (goodIn_of _ (by decide +kernel)) ggX7_breakDayOf_X7_isSinger
set_option maxRecDepth 20000 in
theorem ggX7_breakDayOf_X7_its : GoodIn wsX7_breakDayOf wsX7_its := goodIn_r _ [14, 7, 19, 20, 21, 22, 23, 24, 25, 26, 27, 28, 29, 30, 31, 32, 33, 34] (by decide +kernel) (by decide +kernel)
set_option maxRecDepth 20000 in
theorem gX7_breakDayOf_X7_its : GoodIn wsX7_breakDayOf (wsV RX7 70 RX7 yX7_its wsX7_its) := goodIn_app (goodIn_of _ (by decide +kernel)) ggX7_breakDayOf_X7_its
set_option maxRecDepth 20000 in
theorem ggX7_breakDayOf_X7_refuses : GoodIn wsX7_breakDayOf wsX7_refuses := goodIn_r _ [18, 1, 19, 20, 21, 22, 23, 24, 25, 26, 27, 28, 29, 30, 31, 32, 33, 34] (by decide +kernel) (by decide +kernel)
set_option maxRecDepth 20000 in
theorem gX7_breakDayOf_X7_refuses : GoodIn wsX7_breakDayOf (wsV RX7 154 RX7 yX7_refuses wsX7_refuses) := goodIn_app (goodIn_of _ (by decide +kernel)) ggX7_breakDayOf_X7_refuses
theorem dX7_breakDayOf_0 : decode cX7_breakDayOf 0 = .ok (.aload_n 0, 1) := by decide +kernel
theorem dX7_breakDayOf_1 : decode cX7_breakDayOf 1 = .ok (.iconst 0, 1) := by decide +kernel
theorem dX7_breakDayOf_2 : decode cX7_breakDayOf 2 = .ok (.putfield 40, 3) := by decide +kernel
theorem dX7_breakDayOf_5 : decode cX7_breakDayOf 5 = .ok (.aload_n 0, 1) := by decide +kernel
theorem dX7_breakDayOf_6 : decode cX7_breakDayOf 6 = .ok (.iload_n 1, 1) := by decide +kernel
theorem dX7_breakDayOf_7 : decode cX7_breakDayOf 7 = .ok (.invokevirtual 164, 3) := by decide +kernel
theorem dX7_breakDayOf_10 : decode cX7_breakDayOf 10 = .ok (.ifCond .eq 13, 3) := by decide +kernel
theorem dX7_breakDayOf_13 : decode cX7_breakDayOf 13 = .ok (.aload_n 0, 1) := by decide +kernel
theorem dX7_breakDayOf_14 : decode cX7_breakDayOf 14 = .ok (.iload_n 1, 1) := by decide +kernel
theorem dX7_breakDayOf_15 : decode cX7_breakDayOf 15 = .ok (.bipush 6, 2) := by decide +kernel
theorem dX7_breakDayOf_17 : decode cX7_breakDayOf 17 = .ok (.invokevirtual 70, 3) := by decide +kernel
theorem dX7_breakDayOf_20 : decode cX7_breakDayOf 20 = .ok (.goto 8, 3) := by decide +kernel
theorem dX7_breakDayOf_23 : decode cX7_breakDayOf 23 = .ok (.aload_n 0, 1) := by decide +kernel
theorem dX7_breakDayOf_24 : decode cX7_breakDayOf 24 = .ok (.iconst 1, 1) := by decide +kernel
theorem dX7_breakDayOf_25 : decode cX7_breakDayOf 25 = .ok (.invokevirtual 154, 3) := by decide +kernel
theorem dX7_breakDayOf_28 : decode cX7_breakDayOf 28 = .ok (.ireturn, 1) := by decide +kernel
set_option maxRecDepth 20000 in
theorem ggX7_nextToBreak_X7_its : GoodIn wsX7_nextToBreak wsX7_its := goodIn_r _ [7, 2, 8, 9, 10, 11, 12, 13, 14, 15, 16, 17, 18, 19, 20, 21, 22, 23] (by decide +kernel) (by decide +kernel)
set_option maxRecDepth 20000 in
theorem gX7_nextToBreak_X7_its : GoodIn wsX7_nextToBreak (wsV RX7 70 RX7 yX7_its wsX7_its) := goodIn_app (goodIn_of _ (by decide +kernel)) ggX7_nextToBreak_X7_its
theorem dX7_nextToBreak_0 : decode cX7_nextToBreak 0 = .ok (.aload_n 0, 1) := by decide +kernel
theorem dX7_nextToBreak_1 : decode cX7_nextToBreak 1 = .ok (.iconst 0, 1) := by decide +kernel
theorem dX7_nextToBreak_2 : decode cX7_nextToBreak 2 = .ok (.putfield 40, 3) := by decide +kernel
theorem dX7_nextToBreak_5 : decode cX7_nextToBreak 5 = .ok (.iconst (-1), 1) := by decide +kernel
theorem dX7_nextToBreak_6 : decode cX7_nextToBreak 6 = .ok (.istore_n 1, 1) := by decide +kernel
theorem dX7_nextToBreak_7 : decode cX7_nextToBreak 7 = .ok (.iconst 0, 1) := by decide +kernel
theorem dX7_nextToBreak_8 : decode cX7_nextToBreak 8 = .ok (.istore_n 2, 1) := by decide +kernel
theorem dX7_nextToBreak_9 : decode cX7_nextToBreak 9 = .ok (.iload_n 2, 1) := by decide +kernel
theorem dX7_nextToBreak_10 : decode cX7_nextToBreak 10 = .ok (.aload_n 0, 1) := by decide +kernel
theorem dX7_nextToBreak_11 : decode cX7_nextToBreak 11 = .ok (.getfield 7, 3) := by decide +kernel
theorem dX7_nextToBreak_14 : decode cX7_nextToBreak 14 = .ok (.iconst 1, 1) := by decide +kernel
theorem dX7_nextToBreak_15 : decode cX7_nextToBreak 15 = .ok (.iaload, 1) := by decide +kernel
theorem dX7_nextToBreak_16 : decode cX7_nextToBreak 16 = .ok (.if_icmp .ge 73, 3) := by decide +kernel
theorem dX7_nextToBreak_19 : decode cX7_nextToBreak 19 = .ok (.aload_n 0, 1) := by decide +kernel
theorem dX7_nextToBreak_20 : decode cX7_nextToBreak 20 = .ok (.iload_n 2, 1) := by decide +kernel
theorem dX7_nextToBreak_21 : decode cX7_nextToBreak 21 = .ok (.bipush 7, 2) := by decide +kernel
theorem dX7_nextToBreak_23 : decode cX7_nextToBreak 23 = .ok (.invokevirtual 70, 3) := by decide +kernel
theorem dX7_nextToBreak_26 : decode cX7_nextToBreak 26 = .ok (.ifCond .ne 23, 3) := by decide +kernel
theorem dX7_nextToBreak_29 : decode cX7_nextToBreak 29 = .ok (.aload_n 0, 1) := by decide +kernel
theorem dX7_nextToBreak_30 : decode cX7_nextToBreak 30 = .ok (.iload_n 2, 1) := by decide +kernel
theorem dX7_nextToBreak_31 : decode cX7_nextToBreak 31 = .ok (.bipush 6, 2) := by decide +kernel
theorem dX7_nextToBreak_33 : decode cX7_nextToBreak 33 = .ok (.invokevirtual 70, 3) := by decide +kernel
theorem dX7_nextToBreak_36 : decode cX7_nextToBreak 36 = .ok (.aload_n 0, 1) := by decide +kernel
theorem dX7_nextToBreak_37 : decode cX7_nextToBreak 37 = .ok (.getfield 7, 3) := by decide +kernel
theorem dX7_nextToBreak_40 : decode cX7_nextToBreak 40 = .ok (.iconst 0, 1) := by decide +kernel
theorem dX7_nextToBreak_41 : decode cX7_nextToBreak 41 = .ok (.iaload, 1) := by decide +kernel
theorem dX7_nextToBreak_42 : decode cX7_nextToBreak 42 = .ok (.if_icmp .le 7, 3) := by decide +kernel
theorem dX7_nextToBreak_45 : decode cX7_nextToBreak 45 = .ok (.iconst 1, 1) := by decide +kernel
theorem dX7_nextToBreak_46 : decode cX7_nextToBreak 46 = .ok (.goto 4, 3) := by decide +kernel
theorem dX7_nextToBreak_49 : decode cX7_nextToBreak 49 = .ok (.iconst 0, 1) := by decide +kernel
theorem dX7_nextToBreak_50 : decode cX7_nextToBreak 50 = .ok (.istore_n 3, 1) := by decide +kernel
theorem dX7_nextToBreak_51 : decode cX7_nextToBreak 51 = .ok (.iload_n 3, 1) := by decide +kernel
theorem dX7_nextToBreak_52 : decode cX7_nextToBreak 52 = .ok (.ifCond .eq 29, 3) := by decide +kernel
theorem dX7_nextToBreak_55 : decode cX7_nextToBreak 55 = .ok (.iload_n 1, 1) := by decide +kernel
theorem dX7_nextToBreak_56 : decode cX7_nextToBreak 56 = .ok (.iconst (-1), 1) := by decide +kernel
theorem dX7_nextToBreak_57 : decode cX7_nextToBreak 57 = .ok (.if_icmp .eq 20, 3) := by decide +kernel
theorem dX7_nextToBreak_60 : decode cX7_nextToBreak 60 = .ok (.aload_n 0, 1) := by decide +kernel
theorem dX7_nextToBreak_61 : decode cX7_nextToBreak 61 = .ok (.iload_n 2, 1) := by decide +kernel
theorem dX7_nextToBreak_62 : decode cX7_nextToBreak 62 = .ok (.bipush 6, 2) := by decide +kernel
theorem dX7_nextToBreak_64 : decode cX7_nextToBreak 64 = .ok (.invokevirtual 70, 3) := by decide +kernel
theorem dX7_nextToBreak_67 : decode cX7_nextToBreak 67 = .ok (.aload_n 0, 1) := by decide +kernel
theorem dX7_nextToBreak_68 : decode cX7_nextToBreak 68 = .ok (.iload_n 1, 1) := by decide +kernel
theorem dX7_nextToBreak_69 : decode cX7_nextToBreak 69 = .ok (.bipush 6, 2) := by decide +kernel
theorem dX7_nextToBreak_71 : decode cX7_nextToBreak 71 = .ok (.invokevirtual 70, 3) := by decide +kernel
theorem dX7_nextToBreak_74 : decode cX7_nextToBreak 74 = .ok (.if_icmp .ge 7, 3) := by decide +kernel
theorem dX7_nextToBreak_77 : decode cX7_nextToBreak 77 = .ok (.iload_n 2, 1) := by decide +kernel
theorem dX7_nextToBreak_78 : decode cX7_nextToBreak 78 = .ok (.goto 4, 3) := by decide +kernel
theorem dX7_nextToBreak_81 : decode cX7_nextToBreak 81 = .ok (.iload_n 1, 1) := by decide +kernel
theorem dX7_nextToBreak_82 : decode cX7_nextToBreak 82 = .ok (.istore_n 1, 1) := by decide +kernel
theorem dX7_nextToBreak_83 : decode cX7_nextToBreak 83 = .ok (.iinc 2 1, 3) := by decide +kernel
theorem dX7_nextToBreak_86 : decode cX7_nextToBreak 86 = .ok (.goto (-77), 3) := by decide +kernel
theorem dX7_nextToBreak_89 : decode cX7_nextToBreak 89 = .ok (.iload_n 1, 1) := by decide +kernel
theorem dX7_nextToBreak_90 : decode cX7_nextToBreak 90 = .ok (.ireturn, 1) := by decide +kernel
set_option maxRecDepth 20000 in
theorem ggX7_choirOf_X7_isSinger : GoodIn wsX7_choirOf wsX7_isSinger := goodIn_r _ [6, 7, 8, 9, 5, 10, 19, 20, 21, 22, 23, 24, 25, 26, 27, 28, 29, 30, 31, 32, 33, 34] (by decide +kernel) (by decide +kernel)
set_option maxRecDepth 20000 in
theorem gX7_choirOf_X7_isSinger : GoodIn wsX7_choirOf (wsV RX7 164 RX7 yX7_isSinger wsX7_isSinger) := goodIn_app (goodIn_of _ (by decide +kernel)) ggX7_choirOf_X7_isSinger
set_option maxRecDepth 20000 in
theorem ggX7_choirOf_X7_its : GoodIn wsX7_choirOf wsX7_its := goodIn_r _ [14, 7, 19, 20, 21, 22, 23, 24, 25, 26, 27, 28, 29, 30, 31, 32, 33, 34] (by decide +kernel) (by decide +kernel)
set_option maxRecDepth 20000 in
theorem gX7_choirOf_X7_its : GoodIn wsX7_choirOf (wsV RX7 70 RX7 yX7_its wsX7_its) := goodIn_app (goodIn_of _ (by decide +kernel)) ggX7_choirOf_X7_its
set_option maxRecDepth 20000 in
theorem ggX7_choirOf_X7_refuses : GoodIn wsX7_choirOf wsX7_refuses := goodIn_r _ [18, 1, 19, 20, 21, 22, 23, 24, 25, 26, 27, 28, 29, 30, 31, 32, 33, 34] (by decide +kernel) (by decide +kernel)
set_option maxRecDepth 20000 in
theorem gX7_choirOf_X7_refuses : GoodIn wsX7_choirOf (wsV RX7 154 RX7 yX7_refuses wsX7_refuses) := goodIn_app (goodIn_of _ (by decide +kernel)) ggX7_choirOf_X7_refuses
theorem dX7_choirOf_0 : decode cX7_choirOf 0 = .ok (.aload_n 0, 1) := by decide +kernel
theorem dX7_choirOf_1 : decode cX7_choirOf 1 = .ok (.iconst 0, 1) := by decide +kernel
theorem dX7_choirOf_2 : decode cX7_choirOf 2 = .ok (.putfield 40, 3) := by decide +kernel
theorem dX7_choirOf_5 : decode cX7_choirOf 5 = .ok (.aload_n 0, 1) := by decide +kernel
theorem dX7_choirOf_6 : decode cX7_choirOf 6 = .ok (.iload_n 1, 1) := by decide +kernel
theorem dX7_choirOf_7 : decode cX7_choirOf 7 = .ok (.invokevirtual 164, 3) := by decide +kernel
theorem dX7_choirOf_10 : decode cX7_choirOf 10 = .ok (.ifCond .eq 12, 3) := by decide +kernel
theorem dX7_choirOf_13 : decode cX7_choirOf 13 = .ok (.aload_n 0, 1) := by decide +kernel
theorem dX7_choirOf_14 : decode cX7_choirOf 14 = .ok (.iload_n 1, 1) := by decide +kernel
theorem dX7_choirOf_15 : decode cX7_choirOf 15 = .ok (.iconst 0, 1) := by decide +kernel
theorem dX7_choirOf_16 : decode cX7_choirOf 16 = .ok (.invokevirtual 70, 3) := by decide +kernel
theorem dX7_choirOf_19 : decode cX7_choirOf 19 = .ok (.goto 8, 3) := by decide +kernel
theorem dX7_choirOf_22 : decode cX7_choirOf 22 = .ok (.aload_n 0, 1) := by decide +kernel
theorem dX7_choirOf_23 : decode cX7_choirOf 23 = .ok (.iconst 1, 1) := by decide +kernel
theorem dX7_choirOf_24 : decode cX7_choirOf 24 = .ok (.invokevirtual 154, 3) := by decide +kernel
theorem dX7_choirOf_27 : decode cX7_choirOf 27 = .ok (.ireturn, 1) := by decide +kernel
set_option maxRecDepth 20000 in
theorem ggX7_awayUntil_X7_isSinger : GoodIn wsX7_awayUntil wsX7_isSinger := goodIn_r _ [7, 2, 8, 9, 6, 10, 19, 20, 21, 22, 23, 24, 25, 26, 27, 28, 29, 30, 31, 32, 33, 34] (by decide +kernel) (by decide +kernel)
set_option maxRecDepth 20000 in
theorem gX7_awayUntil_X7_isSinger : GoodIn wsX7_awayUntil (wsV RX7 164 RX7 yX7_isSinger wsX7_isSinger) := goodIn_app (goodIn_of _ (by decide +kernel)) ggX7_awayUntil_X7_isSinger
set_option maxRecDepth 20000 in
theorem ggX7_awayUntil_X7_refuses : GoodIn wsX7_awayUntil wsX7_refuses := goodIn_r _ [14, 1, 19, 20, 21, 22, 23, 24, 25, 26, 27, 28, 29, 30, 31, 32, 33, 34] (by decide +kernel) (by decide +kernel)
set_option maxRecDepth 20000 in
theorem gX7_awayUntil_X7_refuses : GoodIn wsX7_awayUntil (wsV RX7 154 RX7 yX7_refuses wsX7_refuses) := goodIn_app (goodIn_of _ (by decide +kernel)) ggX7_awayUntil_X7_refuses
set_option maxRecDepth 20000 in
theorem ggX7_awayUntil_X7_its : GoodIn wsX7_awayUntil wsX7_its := goodIn_r _ [18, 2, 19, 20, 21, 22, 23, 24, 25, 26, 27, 28, 29, 30, 31, 32, 33, 34] (by decide +kernel) (by decide +kernel)
set_option maxRecDepth 20000 in
theorem gX7_awayUntil_X7_its : GoodIn wsX7_awayUntil (wsV RX7 70 RX7 yX7_its wsX7_its) := goodIn_app (goodIn_of _ (by decide +kernel)) ggX7_awayUntil_X7_its
theorem dX7_awayUntil_0 : decode cX7_awayUntil 0 = .ok (.aload_n 0, 1) := by decide +kernel
theorem dX7_awayUntil_1 : decode cX7_awayUntil 1 = .ok (.iconst 0, 1) := by decide +kernel
theorem dX7_awayUntil_2 : decode cX7_awayUntil 2 = .ok (.putfield 40, 3) := by decide +kernel
theorem dX7_awayUntil_5 : decode cX7_awayUntil 5 = .ok (.aload_n 0, 1) := by decide +kernel
theorem dX7_awayUntil_6 : decode cX7_awayUntil 6 = .ok (.iload_n 1, 1) := by decide +kernel
theorem dX7_awayUntil_7 : decode cX7_awayUntil 7 = .ok (.invokevirtual 164, 3) := by decide +kernel
theorem dX7_awayUntil_10 : decode cX7_awayUntil 10 = .ok (.ifCond .ne 9, 3) := by decide +kernel
theorem dX7_awayUntil_13 : decode cX7_awayUntil 13 = .ok (.aload_n 0, 1) := by decide +kernel
theorem dX7_awayUntil_14 : decode cX7_awayUntil 14 = .ok (.iconst 1, 1) := by decide +kernel
theorem dX7_awayUntil_15 : decode cX7_awayUntil 15 = .ok (.invokevirtual 154, 3) := by decide +kernel
theorem dX7_awayUntil_18 : decode cX7_awayUntil 18 = .ok (.ireturn, 1) := by decide +kernel
theorem dX7_awayUntil_19 : decode cX7_awayUntil 19 = .ok (.aload_n 0, 1) := by decide +kernel
theorem dX7_awayUntil_20 : decode cX7_awayUntil 20 = .ok (.iload_n 1, 1) := by decide +kernel
theorem dX7_awayUntil_21 : decode cX7_awayUntil 21 = .ok (.bipush 10, 2) := by decide +kernel
theorem dX7_awayUntil_23 : decode cX7_awayUntil 23 = .ok (.invokevirtual 70, 3) := by decide +kernel
theorem dX7_awayUntil_26 : decode cX7_awayUntil 26 = .ok (.aload_n 0, 1) := by decide +kernel
theorem dX7_awayUntil_27 : decode cX7_awayUntil 27 = .ok (.getfield 7, 3) := by decide +kernel
theorem dX7_awayUntil_30 : decode cX7_awayUntil 30 = .ok (.iconst 0, 1) := by decide +kernel
theorem dX7_awayUntil_31 : decode cX7_awayUntil 31 = .ok (.iaload, 1) := by decide +kernel
theorem dX7_awayUntil_32 : decode cX7_awayUntil 32 = .ok (.if_icmp .ge 7, 3) := by decide +kernel
theorem dX7_awayUntil_35 : decode cX7_awayUntil 35 = .ok (.iconst (-1), 1) := by decide +kernel
theorem dX7_awayUntil_36 : decode cX7_awayUntil 36 = .ok (.goto 10, 3) := by decide +kernel
theorem dX7_awayUntil_39 : decode cX7_awayUntil 39 = .ok (.aload_n 0, 1) := by decide +kernel
theorem dX7_awayUntil_40 : decode cX7_awayUntil 40 = .ok (.iload_n 1, 1) := by decide +kernel
theorem dX7_awayUntil_41 : decode cX7_awayUntil 41 = .ok (.bipush 10, 2) := by decide +kernel
theorem dX7_awayUntil_43 : decode cX7_awayUntil 43 = .ok (.invokevirtual 70, 3) := by decide +kernel
theorem dX7_awayUntil_46 : decode cX7_awayUntil 46 = .ok (.ireturn, 1) := by decide +kernel
set_option maxRecDepth 20000 in
theorem ggX7_isExcused_X7_isSinger : GoodIn wsX7_isExcused wsX7_isSinger := goodIn_r _ [6, 7, 8, 9, 5, 10, 19, 20, 21, 22, 23, 24, 25, 26, 27, 28, 29, 30, 31, 32, 33, 34] (by decide +kernel) (by decide +kernel)
set_option maxRecDepth 20000 in
theorem gX7_isExcused_X7_isSinger : GoodIn wsX7_isExcused (wsV RX7 164 RX7 yX7_isSinger wsX7_isSinger) := goodIn_app (goodIn_of _ (by decide +kernel)) ggX7_isExcused_X7_isSinger
set_option maxRecDepth 20000 in
theorem ggX7_isExcused_X7_refuses : GoodIn wsX7_isExcused wsX7_refuses := goodIn_r _ [14, 1, 19, 20, 21, 22, 23, 24, 25, 26, 27, 28, 29, 30, 31, 32, 33, 34] (by decide +kernel) (by decide +kernel)
set_option maxRecDepth 20000 in
theorem gX7_isExcused_X7_refuses : GoodIn wsX7_isExcused (wsV RX7 154 RX7 yX7_refuses wsX7_refuses) := goodIn_app (goodIn_of _ (by decide +kernel)) ggX7_isExcused_X7_refuses
set_option maxRecDepth 20000 in
theorem ggX7_isExcused_X7_in : GoodIn wsX7_isExcused wsX7_in := goodIn_r _ [10] (by decide +kernel) (by decide +kernel)
set_option maxRecDepth 20000 in
theorem gX7_isExcused_X7_in : GoodIn wsX7_isExcused (va_wsS RX7 51 yX7_in wsX7_in) := goodIn_app (goodIn_of _ (by decide +kernel)) ggX7_isExcused_X7_in
set_option maxRecDepth 20000 in
theorem ggX7_isExcused_X7_notes : GoodIn wsX7_isExcused wsX7_notes := goodIn_r _ [18, 7, 19, 20, 21, 22, 23, 24, 25, 26, 27, 28, 29, 30, 31, 32, 33, 34] (by decide +kernel) (by decide +kernel)
set_option maxRecDepth 20000 in
theorem gX7_isExcused_X7_notes : GoodIn wsX7_isExcused (wsV RX7 78 RX7 yX7_notes wsX7_notes) := goodIn_app (goodIn_of _ (by decide +kernel)) ggX7_isExcused_X7_notes
theorem dX7_isExcused_0 : decode cX7_isExcused 0 = .ok (.aload_n 0, 1) := by decide +kernel
theorem dX7_isExcused_1 : decode cX7_isExcused 1 = .ok (.iconst 0, 1) := by decide +kernel
theorem dX7_isExcused_2 : decode cX7_isExcused 2 = .ok (.putfield 40, 3) := by decide +kernel
theorem dX7_isExcused_5 : decode cX7_isExcused 5 = .ok (.aload_n 0, 1) := by decide +kernel
theorem dX7_isExcused_6 : decode cX7_isExcused 6 = .ok (.iload_n 1, 1) := by decide +kernel
theorem dX7_isExcused_7 : decode cX7_isExcused 7 = .ok (.invokevirtual 164, 3) := by decide +kernel
theorem dX7_isExcused_10 : decode cX7_isExcused 10 = .ok (.ifCond .ne 17, 3) := by decide +kernel
theorem dX7_isExcused_13 : decode cX7_isExcused 13 = .ok (.aload_n 0, 1) := by decide +kernel
theorem dX7_isExcused_14 : decode cX7_isExcused 14 = .ok (.iconst 1, 1) := by decide +kernel
theorem dX7_isExcused_15 : decode cX7_isExcused 15 = .ok (.invokevirtual 154, 3) := by decide +kernel
theorem dX7_isExcused_18 : decode cX7_isExcused 18 = .ok (.ifCond .le 7, 3) := by decide +kernel
theorem dX7_isExcused_21 : decode cX7_isExcused 21 = .ok (.iconst 1, 1) := by decide +kernel
theorem dX7_isExcused_22 : decode cX7_isExcused 22 = .ok (.goto 4, 3) := by decide +kernel
theorem dX7_isExcused_25 : decode cX7_isExcused 25 = .ok (.iconst 0, 1) := by decide +kernel
theorem dX7_isExcused_26 : decode cX7_isExcused 26 = .ok (.ireturn, 1) := by decide +kernel
theorem dX7_isExcused_27 : decode cX7_isExcused 27 = .ok (.iload_n 2, 1) := by decide +kernel
theorem dX7_isExcused_28 : decode cX7_isExcused 28 = .ok (.iconst 0, 1) := by decide +kernel
theorem dX7_isExcused_29 : decode cX7_isExcused 29 = .ok (.sipush 9999, 3) := by decide +kernel
theorem dX7_isExcused_32 : decode cX7_isExcused 32 = .ok (.invokestatic 51, 3) := by decide +kernel
theorem dX7_isExcused_35 : decode cX7_isExcused 35 = .ok (.ifCond .eq 21, 3) := by decide +kernel
theorem dX7_isExcused_38 : decode cX7_isExcused 38 = .ok (.aload_n 0, 1) := by decide +kernel
theorem dX7_isExcused_39 : decode cX7_isExcused 39 = .ok (.iload_n 1, 1) := by decide +kernel
theorem dX7_isExcused_40 : decode cX7_isExcused 40 = .ok (.iload_n 2, 1) := by decide +kernel
theorem dX7_isExcused_41 : decode cX7_isExcused 41 = .ok (.iload_n 2, 1) := by decide +kernel
theorem dX7_isExcused_42 : decode cX7_isExcused 42 = .ok (.invokevirtual 78, 3) := by decide +kernel
theorem dX7_isExcused_45 : decode cX7_isExcused 45 = .ok (.ifCond .le 7, 3) := by decide +kernel
theorem dX7_isExcused_48 : decode cX7_isExcused 48 = .ok (.iconst 1, 1) := by decide +kernel
theorem dX7_isExcused_49 : decode cX7_isExcused 49 = .ok (.goto 20, 3) := by decide +kernel
theorem dX7_isExcused_52 : decode cX7_isExcused 52 = .ok (.iconst 0, 1) := by decide +kernel
theorem dX7_isExcused_53 : decode cX7_isExcused 53 = .ok (.goto 16, 3) := by decide +kernel
theorem dX7_isExcused_56 : decode cX7_isExcused 56 = .ok (.aload_n 0, 1) := by decide +kernel
theorem dX7_isExcused_57 : decode cX7_isExcused 57 = .ok (.iconst 2, 1) := by decide +kernel
theorem dX7_isExcused_58 : decode cX7_isExcused 58 = .ok (.invokevirtual 154, 3) := by decide +kernel
theorem dX7_isExcused_61 : decode cX7_isExcused 61 = .ok (.ifCond .le 7, 3) := by decide +kernel
theorem dX7_isExcused_64 : decode cX7_isExcused 64 = .ok (.iconst 1, 1) := by decide +kernel
theorem dX7_isExcused_65 : decode cX7_isExcused 65 = .ok (.goto 4, 3) := by decide +kernel
theorem dX7_isExcused_68 : decode cX7_isExcused 68 = .ok (.iconst 0, 1) := by decide +kernel
theorem dX7_isExcused_69 : decode cX7_isExcused 69 = .ok (.ireturn, 1) := by decide +kernel
set_option maxRecDepth 20000 in
theorem ggX7_feastsOf_X7_isSinger : GoodIn wsX7_feastsOf wsX7_isSinger := goodIn_r _ [6, 7, 8, 9, 5, 10, 19, 20, 21, 22, 23, 24, 25, 26, 27, 28, 29, 30, 31, 32, 33, 34] (by decide +kernel) (by decide +kernel)
set_option maxRecDepth 20000 in
theorem gX7_feastsOf_X7_isSinger : GoodIn wsX7_feastsOf (wsV RX7 164 RX7 yX7_isSinger wsX7_isSinger) := goodIn_app (goodIn_of _ (by decide +kernel)) ggX7_feastsOf_X7_isSinger
set_option maxRecDepth 20000 in
theorem ggX7_feastsOf_X7_its : GoodIn wsX7_feastsOf wsX7_its := goodIn_r _ [14, 7, 19, 20, 21, 22, 23, 24, 25, 26, 27, 28, 29, 30, 31, 32, 33, 34] (by decide +kernel) (by decide +kernel)
set_option maxRecDepth 20000 in
theorem gX7_feastsOf_X7_its : GoodIn wsX7_feastsOf (wsV RX7 70 RX7 yX7_its wsX7_its) := goodIn_app (goodIn_of _ (by decide +kernel)) ggX7_feastsOf_X7_its
set_option maxRecDepth 20000 in
theorem ggX7_feastsOf_X7_refuses : GoodIn wsX7_feastsOf wsX7_refuses := goodIn_r _ [18, 1, 19, 20, 21, 22, 23, 24, 25, 26, 27, 28, 29, 30, 31, 32, 33, 34] (by decide +kernel) (by decide +kernel)
set_option maxRecDepth 20000 in
theorem gX7_feastsOf_X7_refuses : GoodIn wsX7_feastsOf (wsV RX7 154 RX7 yX7_refuses wsX7_refuses) := goodIn_app (goodIn_of _ (by decide +kernel)) ggX7_feastsOf_X7_refuses
theorem dX7_feastsOf_0 : decode cX7_feastsOf 0 = .ok (.aload_n 0, 1) := by decide +kernel
theorem dX7_feastsOf_1 : decode cX7_feastsOf 1 = .ok (.iconst 0, 1) := by decide +kernel
theorem dX7_feastsOf_2 : decode cX7_feastsOf 2 = .ok (.putfield 40, 3) := by decide +kernel
theorem dX7_feastsOf_5 : decode cX7_feastsOf 5 = .ok (.aload_n 0, 1) := by decide +kernel
theorem dX7_feastsOf_6 : decode cX7_feastsOf 6 = .ok (.iload_n 1, 1) := by decide +kernel
theorem dX7_feastsOf_7 : decode cX7_feastsOf 7 = .ok (.invokevirtual 164, 3) := by decide +kernel
theorem dX7_feastsOf_10 : decode cX7_feastsOf 10 = .ok (.ifCond .eq 13, 3) := by decide +kernel
theorem dX7_feastsOf_13 : decode cX7_feastsOf 13 = .ok (.aload_n 0, 1) := by decide +kernel
theorem dX7_feastsOf_14 : decode cX7_feastsOf 14 = .ok (.iload_n 1, 1) := by decide +kernel
theorem dX7_feastsOf_15 : decode cX7_feastsOf 15 = .ok (.bipush 11, 2) := by decide +kernel
theorem dX7_feastsOf_17 : decode cX7_feastsOf 17 = .ok (.invokevirtual 70, 3) := by decide +kernel
theorem dX7_feastsOf_20 : decode cX7_feastsOf 20 = .ok (.goto 8, 3) := by decide +kernel
theorem dX7_feastsOf_23 : decode cX7_feastsOf 23 = .ok (.aload_n 0, 1) := by decide +kernel
theorem dX7_feastsOf_24 : decode cX7_feastsOf 24 = .ok (.iconst 1, 1) := by decide +kernel
theorem dX7_feastsOf_25 : decode cX7_feastsOf 25 = .ok (.invokevirtual 154, 3) := by decide +kernel
theorem dX7_feastsOf_28 : decode cX7_feastsOf 28 = .ok (.ireturn, 1) := by decide +kernel
set_option maxRecDepth 20000 in
theorem ggX7_descantsOf_X7_isSinger : GoodIn wsX7_descantsOf wsX7_isSinger := goodIn_r _ [6, 7, 8, 9, 5, 10, 19, 20, 21, 22, 23, 24, 25, 26, 27, 28, 29, 30, 31, 32, 33, 34] (by decide +kernel) (by decide +kernel)
set_option maxRecDepth 20000 in
theorem gX7_descantsOf_X7_isSinger : GoodIn wsX7_descantsOf (wsV RX7 164 RX7 yX7_isSinger wsX7_isSinger) := goodIn_app (goodIn_of _ (by decide +kernel)) ggX7_descantsOf_X7_isSinger
set_option maxRecDepth 20000 in
theorem ggX7_descantsOf_X7_its : GoodIn wsX7_descantsOf wsX7_its := goodIn_r _ [14, 7, 19, 20, 21, 22, 23, 24, 25, 26, 27, 28, 29, 30, 31, 32, 33, 34] (by decide +kernel) (by decide +kernel)
set_option maxRecDepth 20000 in
theorem gX7_descantsOf_X7_its : GoodIn wsX7_descantsOf (wsV RX7 70 RX7 yX7_its wsX7_its) := goodIn_app (goodIn_of _ (by decide +kernel)) ggX7_descantsOf_X7_its
set_option maxRecDepth 20000 in
theorem ggX7_descantsOf_X7_refuses : GoodIn wsX7_descantsOf wsX7_refuses := goodIn_r _ [18, 1, 19, 20, 21, 22, 23, 24, 25, 26, 27, 28, 29, 30, 31, 32, 33, 34] (by decide +kernel) (by decide +kernel)
set_option maxRecDepth 20000 in
theorem gX7_descantsOf_X7_refuses : GoodIn wsX7_descantsOf (wsV RX7 154 RX7 yX7_refuses wsX7_refuses) := goodIn_app (goodIn_of _ (by decide +kernel)) ggX7_descantsOf_X7_refuses
theorem dX7_descantsOf_0 : decode cX7_descantsOf 0 = .ok (.aload_n 0, 1) := by decide +kernel
theorem dX7_descantsOf_1 : decode cX7_descantsOf 1 = .ok (.iconst 0, 1) := by decide +kernel
theorem dX7_descantsOf_2 : decode cX7_descantsOf 2 = .ok (.putfield 40, 3) := by decide +kernel
theorem dX7_descantsOf_5 : decode cX7_descantsOf 5 = .ok (.aload_n 0, 1) := by decide +kernel
theorem dX7_descantsOf_6 : decode cX7_descantsOf 6 = .ok (.iload_n 1, 1) := by decide +kernel
theorem dX7_descantsOf_7 : decode cX7_descantsOf 7 = .ok (.invokevirtual 164, 3) := by decide +kernel
theorem dX7_descantsOf_10 : decode cX7_descantsOf 10 = .ok (.ifCond .eq 13, 3) := by decide +kernel
theorem dX7_descantsOf_13 : decode cX7_descantsOf 13 = .ok (.aload_n 0, 1) := by decide +kernel
theorem dX7_descantsOf_14 : decode cX7_descantsOf 14 = .ok (.iload_n 1, 1) := by decide +kernel
theorem dX7_descantsOf_15 : decode cX7_descantsOf 15 = .ok (.bipush 12, 2) := by decide +kernel
theorem dX7_descantsOf_17 : decode cX7_descantsOf 17 = .ok (.invokevirtual 70, 3) := by decide +kernel
theorem dX7_descantsOf_20 : decode cX7_descantsOf 20 = .ok (.goto 8, 3) := by decide +kernel
theorem dX7_descantsOf_23 : decode cX7_descantsOf 23 = .ok (.aload_n 0, 1) := by decide +kernel
theorem dX7_descantsOf_24 : decode cX7_descantsOf 24 = .ok (.iconst 1, 1) := by decide +kernel
theorem dX7_descantsOf_25 : decode cX7_descantsOf 25 = .ok (.invokevirtual 154, 3) := by decide +kernel
theorem dX7_descantsOf_28 : decode cX7_descantsOf 28 = .ok (.ireturn, 1) := by decide +kernel
theorem dX7_feasts_0 : decode cX7_feasts 0 = .ok (.aload_n 0, 1) := by decide +kernel
theorem dX7_feasts_1 : decode cX7_feasts 1 = .ok (.iconst 0, 1) := by decide +kernel
theorem dX7_feasts_2 : decode cX7_feasts 2 = .ok (.putfield 40, 3) := by decide +kernel
theorem dX7_feasts_5 : decode cX7_feasts 5 = .ok (.aload_n 0, 1) := by decide +kernel
theorem dX7_feasts_6 : decode cX7_feasts 6 = .ok (.getfield 7, 3) := by decide +kernel
theorem dX7_feasts_9 : decode cX7_feasts 9 = .ok (.iconst 3, 1) := by decide +kernel
theorem dX7_feasts_10 : decode cX7_feasts 10 = .ok (.iaload, 1) := by decide +kernel
theorem dX7_feasts_11 : decode cX7_feasts 11 = .ok (.ireturn, 1) := by decide +kernel
set_option maxRecDepth 20000 in
theorem ggX7_dayOf_X7_isFeast : GoodIn wsX7_dayOf wsX7_isFeast := goodIn_r _ [6, 7, 8, 9, 5, 10, 19, 20, 21, 22, 23, 24, 25, 26, 27, 28, 29, 30, 31, 32, 33, 34] (by decide +kernel) (by decide +kernel)
set_option maxRecDepth 20000 in
theorem gX7_dayOf_X7_isFeast : GoodIn wsX7_dayOf (wsV RX7 197 RX7 yX7_isFeast wsX7_isFeast) := goodIn_app (goodIn_of _ (by decide +kernel)) ggX7_dayOf_X7_isFeast
set_option maxRecDepth 20000 in
theorem ggX7_dayOf_X7_dayAt : GoodIn wsX7_dayOf wsX7_dayAt := goodIn_r _ [14, 7, 19, 20, 21, 22, 23, 24, 25, 26, 27, 28, 29, 30, 31, 32, 33, 34] (by decide +kernel) (by decide +kernel)
set_option maxRecDepth 20000 in
theorem gX7_dayOf_X7_dayAt : GoodIn wsX7_dayOf (wsV RX7 86 RX7 yX7_dayAt wsX7_dayAt) := goodIn_app (goodIn_of _ (by decide +kernel)) ggX7_dayOf_X7_dayAt
set_option maxRecDepth 20000 in
theorem ggX7_dayOf_X7_refuses : GoodIn wsX7_dayOf wsX7_refuses := goodIn_r _ [18, 1, 19, 20, 21, 22, 23, 24, 25, 26, 27, 28, 29, 30, 31, 32, 33, 34] (by decide +kernel) (by decide +kernel)
set_option maxRecDepth 20000 in
theorem gX7_dayOf_X7_refuses : GoodIn wsX7_dayOf (wsV RX7 154 RX7 yX7_refuses wsX7_refuses) := goodIn_app (goodIn_of _ (by decide +kernel)) ggX7_dayOf_X7_refuses
theorem dX7_dayOf_0 : decode cX7_dayOf 0 = .ok (.aload_n 0, 1) := by decide +kernel
theorem dX7_dayOf_1 : decode cX7_dayOf 1 = .ok (.iconst 0, 1) := by decide +kernel
theorem dX7_dayOf_2 : decode cX7_dayOf 2 = .ok (.putfield 40, 3) := by decide +kernel
theorem dX7_dayOf_5 : decode cX7_dayOf 5 = .ok (.aload_n 0, 1) := by decide +kernel
theorem dX7_dayOf_6 : decode cX7_dayOf 6 = .ok (.iload_n 1, 1) := by decide +kernel
theorem dX7_dayOf_7 : decode cX7_dayOf 7 = .ok (.invokevirtual 197, 3) := by decide +kernel
theorem dX7_dayOf_10 : decode cX7_dayOf 10 = .ok (.ifCond .eq 11, 3) := by decide +kernel
theorem dX7_dayOf_13 : decode cX7_dayOf 13 = .ok (.aload_n 0, 1) := by decide +kernel
theorem dX7_dayOf_14 : decode cX7_dayOf 14 = .ok (.iload_n 1, 1) := by decide +kernel
theorem dX7_dayOf_15 : decode cX7_dayOf 15 = .ok (.invokevirtual 86, 3) := by decide +kernel
theorem dX7_dayOf_18 : decode cX7_dayOf 18 = .ok (.goto 8, 3) := by decide +kernel
theorem dX7_dayOf_21 : decode cX7_dayOf 21 = .ok (.aload_n 0, 1) := by decide +kernel
theorem dX7_dayOf_22 : decode cX7_dayOf 22 = .ok (.iconst 1, 1) := by decide +kernel
theorem dX7_dayOf_23 : decode cX7_dayOf 23 = .ok (.invokevirtual 154, 3) := by decide +kernel
theorem dX7_dayOf_26 : decode cX7_dayOf 26 = .ok (.ireturn, 1) := by decide +kernel
set_option maxRecDepth 20000 in
theorem ggX7_isHeld_X7_isFeast : GoodIn wsX7_isHeld wsX7_isFeast := goodIn_r _ [6, 7, 8, 9, 5, 10, 23, 24, 25, 26, 27, 28, 29, 30, 31, 32, 33, 34, 35, 36, 37, 38] (by decide +kernel) (by decide +kernel)
set_option maxRecDepth 20000 in
theorem gX7_isHeld_X7_isFeast : GoodIn wsX7_isHeld (wsV RX7 197 RX7 yX7_isFeast wsX7_isFeast) := goodIn_app (goodIn_of _ (by decide +kernel)) ggX7_isHeld_X7_isFeast
set_option maxRecDepth 20000 in
theorem ggX7_isHeld_X7_held : GoodIn wsX7_isHeld wsX7_held := goodIn_r _ [14, 7, 15, 16, 17, 5, 18, 23, 24, 25, 26, 27, 28, 29, 30, 31, 32, 33, 34, 35, 36, 37, 38] (by decide +kernel) (by decide +kernel)
set_option maxRecDepth 20000 in
theorem gX7_isHeld_X7_held : GoodIn wsX7_isHeld (wsV RX7 136 RX7 yX7_held wsX7_held) := goodIn_app (goodIn_of _ (by decide +kernel)) ggX7_isHeld_X7_held
set_option maxRecDepth 20000 in
theorem ggX7_isHeld_X7_refuses : GoodIn wsX7_isHeld wsX7_refuses := goodIn_r _ [22, 1, 23, 24, 25, 26, 27, 28, 29, 30, 31, 32, 33, 34, 35, 36, 37, 38] (by decide +kernel) (by decide +kernel)
set_option maxRecDepth 20000 in
theorem gX7_isHeld_X7_refuses : GoodIn wsX7_isHeld (wsV RX7 154 RX7 yX7_refuses wsX7_refuses) := goodIn_app (goodIn_of _ (by decide +kernel)) ggX7_isHeld_X7_refuses
theorem dX7_isHeld_0 : decode cX7_isHeld 0 = .ok (.aload_n 0, 1) := by decide +kernel
theorem dX7_isHeld_1 : decode cX7_isHeld 1 = .ok (.iconst 0, 1) := by decide +kernel
theorem dX7_isHeld_2 : decode cX7_isHeld 2 = .ok (.putfield 40, 3) := by decide +kernel
theorem dX7_isHeld_5 : decode cX7_isHeld 5 = .ok (.aload_n 0, 1) := by decide +kernel
theorem dX7_isHeld_6 : decode cX7_isHeld 6 = .ok (.iload_n 1, 1) := by decide +kernel
theorem dX7_isHeld_7 : decode cX7_isHeld 7 = .ok (.invokevirtual 197, 3) := by decide +kernel
theorem dX7_isHeld_10 : decode cX7_isHeld 10 = .ok (.ifCond .eq 11, 3) := by decide +kernel
theorem dX7_isHeld_13 : decode cX7_isHeld 13 = .ok (.aload_n 0, 1) := by decide +kernel
theorem dX7_isHeld_14 : decode cX7_isHeld 14 = .ok (.iload_n 1, 1) := by decide +kernel
theorem dX7_isHeld_15 : decode cX7_isHeld 15 = .ok (.invokevirtual 136, 3) := by decide +kernel
theorem dX7_isHeld_18 : decode cX7_isHeld 18 = .ok (.goto 16, 3) := by decide +kernel
theorem dX7_isHeld_21 : decode cX7_isHeld 21 = .ok (.aload_n 0, 1) := by decide +kernel
theorem dX7_isHeld_22 : decode cX7_isHeld 22 = .ok (.iconst 1, 1) := by decide +kernel
theorem dX7_isHeld_23 : decode cX7_isHeld 23 = .ok (.invokevirtual 154, 3) := by decide +kernel
theorem dX7_isHeld_26 : decode cX7_isHeld 26 = .ok (.ifCond .le 7, 3) := by decide +kernel
theorem dX7_isHeld_29 : decode cX7_isHeld 29 = .ok (.iconst 1, 1) := by decide +kernel
theorem dX7_isHeld_30 : decode cX7_isHeld 30 = .ok (.goto 4, 3) := by decide +kernel
theorem dX7_isHeld_33 : decode cX7_isHeld 33 = .ok (.iconst 0, 1) := by decide +kernel
theorem dX7_isHeld_34 : decode cX7_isHeld 34 = .ok (.ireturn, 1) := by decide +kernel
set_option maxRecDepth 20000 in
theorem ggX7_placesIn_X7_isFeast : GoodIn wsX7_placesIn wsX7_isFeast := goodIn_r _ [6, 7, 8, 9, 5, 10, 22, 23, 24, 25, 26, 27, 28, 29, 30, 31, 32, 33, 34, 35, 36, 37] (by decide +kernel) (by decide +kernel)
set_option maxRecDepth 20000 in
theorem gX7_placesIn_X7_isFeast : GoodIn wsX7_placesIn (wsV RX7 197 RX7 yX7_isFeast wsX7_isFeast) := goodIn_app (goodIn_of _ (by decide +kernel)) ggX7_placesIn_X7_isFeast
set_option maxRecDepth 20000 in
theorem ggX7_placesIn_X7_isLine : GoodIn wsX7_placesIn wsX7_isLine := goodIn_r _ [13, 8, 9, 5, 10] (by decide +kernel) (by decide +kernel)
set_option maxRecDepth 20000 in
theorem gX7_placesIn_X7_isLine : GoodIn wsX7_placesIn (va_wsS RX7 200 yX7_isLine wsX7_isLine) := goodIn_app (goodIn_of _ (by decide +kernel)) ggX7_placesIn_X7_isLine
set_option maxRecDepth 20000 in
theorem ggX7_placesIn_X7_places : GoodIn wsX7_placesIn wsX7_places := goodIn_r _ [17, 7, 22, 23, 24, 25, 26, 27, 28, 29, 30, 31, 32, 33, 34, 35, 36, 37] (by decide +kernel) (by decide +kernel)
set_option maxRecDepth 20000 in
theorem gX7_placesIn_X7_places : GoodIn wsX7_placesIn (wsV RX7 90 RX7 yX7_places wsX7_places) := goodIn_app (goodIn_of _ (by decide +kernel)) ggX7_placesIn_X7_places
set_option maxRecDepth 20000 in
theorem ggX7_placesIn_X7_refuses : GoodIn wsX7_placesIn wsX7_refuses := goodIn_r _ [21, 1, 22, 23, 24, 25, 26, 27, 28, 29, 30, 31, 32, 33, 34, 35, 36, 37] (by decide +kernel) (by decide +kernel)
set_option maxRecDepth 20000 in
theorem gX7_placesIn_X7_refuses : GoodIn wsX7_placesIn (wsV RX7 154 RX7 yX7_refuses wsX7_refuses) := goodIn_app (goodIn_of _ (by decide +kernel)) ggX7_placesIn_X7_refuses
theorem dX7_placesIn_0 : decode cX7_placesIn 0 = .ok (.aload_n 0, 1) := by decide +kernel
theorem dX7_placesIn_1 : decode cX7_placesIn 1 = .ok (.iconst 0, 1) := by decide +kernel
theorem dX7_placesIn_2 : decode cX7_placesIn 2 = .ok (.putfield 40, 3) := by decide +kernel
theorem dX7_placesIn_5 : decode cX7_placesIn 5 = .ok (.aload_n 0, 1) := by decide +kernel
theorem dX7_placesIn_6 : decode cX7_placesIn 6 = .ok (.iload_n 1, 1) := by decide +kernel
theorem dX7_placesIn_7 : decode cX7_placesIn 7 = .ok (.invokevirtual 197, 3) := by decide +kernel
theorem dX7_placesIn_10 : decode cX7_placesIn 10 = .ok (.ifCond .eq 19, 3) := by decide +kernel
theorem dX7_placesIn_13 : decode cX7_placesIn 13 = .ok (.iload_n 2, 1) := by decide +kernel
theorem dX7_placesIn_14 : decode cX7_placesIn 14 = .ok (.invokestatic 200, 3) := by decide +kernel
theorem dX7_placesIn_17 : decode cX7_placesIn 17 = .ok (.ifCond .eq 12, 3) := by decide +kernel
theorem dX7_placesIn_20 : decode cX7_placesIn 20 = .ok (.aload_n 0, 1) := by decide +kernel
theorem dX7_placesIn_21 : decode cX7_placesIn 21 = .ok (.iload_n 1, 1) := by decide +kernel
theorem dX7_placesIn_22 : decode cX7_placesIn 22 = .ok (.iload_n 2, 1) := by decide +kernel
theorem dX7_placesIn_23 : decode cX7_placesIn 23 = .ok (.invokevirtual 90, 3) := by decide +kernel
theorem dX7_placesIn_26 : decode cX7_placesIn 26 = .ok (.goto 8, 3) := by decide +kernel
theorem dX7_placesIn_29 : decode cX7_placesIn 29 = .ok (.aload_n 0, 1) := by decide +kernel
theorem dX7_placesIn_30 : decode cX7_placesIn 30 = .ok (.iconst 1, 1) := by decide +kernel
theorem dX7_placesIn_31 : decode cX7_placesIn 31 = .ok (.invokevirtual 154, 3) := by decide +kernel
theorem dX7_placesIn_34 : decode cX7_placesIn 34 = .ok (.ireturn, 1) := by decide +kernel
set_option maxRecDepth 20000 in
theorem ggX7_whyNot_X7_isFeast : GoodIn wsX7_whyNot wsX7_isFeast := goodIn_r _ [6, 7, 8, 9, 5, 10, 58, 59, 60, 61, 62, 63, 64, 65, 66, 67, 68, 69, 70, 71, 72, 73] (by decide +kernel) (by decide +kernel)
set_option maxRecDepth 20000 in
theorem gX7_whyNot_X7_isFeast : GoodIn wsX7_whyNot (wsV RX7 197 RX7 yX7_isFeast wsX7_isFeast) := goodIn_app (goodIn_of _ (by decide +kernel)) ggX7_whyNot_X7_isFeast
set_option maxRecDepth 20000 in
theorem ggX7_whyNot_X7_isSinger : GoodIn wsX7_whyNot wsX7_isSinger := goodIn_r _ [14, 7, 8, 9, 5, 10, 58, 59, 60, 61, 62, 63, 64, 65, 66, 67, 68, 69, 70, 71, 72, 73] (by decide +kernel) (by decide +kernel)
set_option maxRecDepth 20000 in
theorem gX7_whyNot_X7_isSinger : GoodIn wsX7_whyNot (wsV RX7 164 RX7 yX7_isSinger wsX7_isSinger) := goodIn_app (goodIn_of _ (by decide +kernel)) ggX7_whyNot_X7_isSinger
set_option maxRecDepth 20000 in
theorem ggX7_whyNot_X7_isLine : GoodIn wsX7_whyNot wsX7_isLine := goodIn_r _ [17, 8, 9, 5, 10] (by decide +kernel) (by decide +kernel)
set_option maxRecDepth 20000 in
theorem gX7_whyNot_X7_isLine : GoodIn wsX7_whyNot (va_wsS RX7 200 yX7_isLine wsX7_isLine) := goodIn_app (goodIn_of _ (by decide +kernel)) ggX7_whyNot_X7_isLine
set_option maxRecDepth 20000 in
theorem ggX7_whyNot_X7_refuses : GoodIn wsX7_whyNot wsX7_refuses := goodIn_r _ [21, 1, 58, 59, 60, 61, 62, 63, 64, 65, 66, 67, 68, 69, 70, 71, 72, 73] (by decide +kernel) (by decide +kernel)
set_option maxRecDepth 20000 in
theorem gX7_whyNot_X7_refuses : GoodIn wsX7_whyNot (wsV RX7 154 RX7 yX7_refuses wsX7_refuses) := goodIn_app (goodIn_of _ (by decide +kernel)) ggX7_whyNot_X7_refuses
set_option maxRecDepth 20000 in
theorem ggX7_whyNot_X7_held : GoodIn wsX7_whyNot wsX7_held := goodIn_r _ [25, 7, 26, 27, 28, 5, 29, 58, 59, 60, 61, 62, 63, 64, 65, 66, 67, 68, 69, 70, 71, 72, 73] (by decide +kernel) (by decide +kernel)
set_option maxRecDepth 20000 in
theorem gX7_whyNot_X7_held : GoodIn wsX7_whyNot (wsV RX7 136 RX7 yX7_held wsX7_held) := goodIn_app (goodIn_of _ (by decide +kernel)) ggX7_whyNot_X7_held
set_option maxRecDepth 20000 in
theorem ggX7_whyNot_X7_why : GoodIn wsX7_whyNot wsX7_why := goodIn_r _ [33, 7, 26, 27, 28, 5, 29, 34, 35, 36, 37, 38, 39, 40, 41, 42, 43, 44, 45, 46, 47, 48, 49, 8, 9, 10, 50, 51, 52, 53, 54, 55, 56, 57, 58, 59, 60, 61, 62, 63, 64, 65, 66, 67, 68, 69, 70, 71, 72, 73] (by decide +kernel) (by decide +kernel)
set_option maxRecDepth 20000 in
theorem gX7_whyNot_X7_why : GoodIn wsX7_whyNot (wsV RX7 103 RX7 yX7_why wsX7_why) := goodIn_app (goodIn_of _ (by decide +kernel)) ggX7_whyNot_X7_why
theorem dX7_whyNot_0 : decode cX7_whyNot 0 = .ok (.aload_n 0, 1) := by decide +kernel
theorem dX7_whyNot_1 : decode cX7_whyNot 1 = .ok (.iconst 0, 1) := by decide +kernel
theorem dX7_whyNot_2 : decode cX7_whyNot 2 = .ok (.putfield 40, 3) := by decide +kernel
theorem dX7_whyNot_5 : decode cX7_whyNot 5 = .ok (.aload_n 0, 1) := by decide +kernel
theorem dX7_whyNot_6 : decode cX7_whyNot 6 = .ok (.iload_n 1, 1) := by decide +kernel
theorem dX7_whyNot_7 : decode cX7_whyNot 7 = .ok (.invokevirtual 197, 3) := by decide +kernel
theorem dX7_whyNot_10 : decode cX7_whyNot 10 = .ok (.ifCond .eq 18, 3) := by decide +kernel
theorem dX7_whyNot_13 : decode cX7_whyNot 13 = .ok (.aload_n 0, 1) := by decide +kernel
theorem dX7_whyNot_14 : decode cX7_whyNot 14 = .ok (.iload_n 2, 1) := by decide +kernel
theorem dX7_whyNot_15 : decode cX7_whyNot 15 = .ok (.invokevirtual 164, 3) := by decide +kernel
theorem dX7_whyNot_18 : decode cX7_whyNot 18 = .ok (.ifCond .eq 10, 3) := by decide +kernel
theorem dX7_whyNot_21 : decode cX7_whyNot 21 = .ok (.iload_n 3, 1) := by decide +kernel
theorem dX7_whyNot_22 : decode cX7_whyNot 22 = .ok (.invokestatic 200, 3) := by decide +kernel
theorem dX7_whyNot_25 : decode cX7_whyNot 25 = .ok (.ifCond .ne 9, 3) := by decide +kernel
theorem dX7_whyNot_28 : decode cX7_whyNot 28 = .ok (.aload_n 0, 1) := by decide +kernel
theorem dX7_whyNot_29 : decode cX7_whyNot 29 = .ok (.iconst 1, 1) := by decide +kernel
theorem dX7_whyNot_30 : decode cX7_whyNot 30 = .ok (.invokevirtual 154, 3) := by decide +kernel
theorem dX7_whyNot_33 : decode cX7_whyNot 33 = .ok (.ireturn, 1) := by decide +kernel
theorem dX7_whyNot_34 : decode cX7_whyNot 34 = .ok (.aload_n 0, 1) := by decide +kernel
theorem dX7_whyNot_35 : decode cX7_whyNot 35 = .ok (.iload_n 1, 1) := by decide +kernel
theorem dX7_whyNot_36 : decode cX7_whyNot 36 = .ok (.invokevirtual 136, 3) := by decide +kernel
theorem dX7_whyNot_39 : decode cX7_whyNot 39 = .ok (.ifCond .eq 11, 3) := by decide +kernel
theorem dX7_whyNot_42 : decode cX7_whyNot 42 = .ok (.aload_n 0, 1) := by decide +kernel
theorem dX7_whyNot_43 : decode cX7_whyNot 43 = .ok (.iconst 2, 1) := by decide +kernel
theorem dX7_whyNot_44 : decode cX7_whyNot 44 = .ok (.invokevirtual 154, 3) := by decide +kernel
theorem dX7_whyNot_47 : decode cX7_whyNot 47 = .ok (.goto 10, 3) := by decide +kernel
theorem dX7_whyNot_50 : decode cX7_whyNot 50 = .ok (.aload_n 0, 1) := by decide +kernel
theorem dX7_whyNot_51 : decode cX7_whyNot 51 = .ok (.iload_n 1, 1) := by decide +kernel
theorem dX7_whyNot_52 : decode cX7_whyNot 52 = .ok (.iload_n 2, 1) := by decide +kernel
theorem dX7_whyNot_53 : decode cX7_whyNot 53 = .ok (.iload_n 3, 1) := by decide +kernel
theorem dX7_whyNot_54 : decode cX7_whyNot 54 = .ok (.invokevirtual 103, 3) := by decide +kernel
theorem dX7_whyNot_57 : decode cX7_whyNot 57 = .ok (.ireturn, 1) := by decide +kernel
set_option maxRecDepth 20000 in
theorem ggX7_lineOf_X7_isFeast : GoodIn wsX7_lineOf wsX7_isFeast := goodIn_r _ [7, 8, 9, 10, 6, 11, 90, 91, 92, 93, 94, 95, 96, 97, 98, 99, 100, 101, 102, 103, 104, 105] (by decide +kernel) (by decide +kernel)
set_option maxRecDepth 20000 in
theorem gX7_lineOf_X7_isFeast : GoodIn wsX7_lineOf (wsV RX7 197 RX7 yX7_isFeast wsX7_isFeast) := goodIn_app (goodIn_of _ (by decide +kernel)) ggX7_lineOf_X7_isFeast
set_option maxRecDepth 20000 in
theorem ggX7_lineOf_X7_isSinger : GoodIn wsX7_lineOf wsX7_isSinger := goodIn_r _ [15, 8, 9, 10, 6, 11, 90, 91, 92, 93, 94, 95, 96, 97, 98, 99, 100, 101, 102, 103, 104, 105] (by decide +kernel) (by decide +kernel)
set_option maxRecDepth 20000 in
theorem gX7_lineOf_X7_isSinger : GoodIn wsX7_lineOf (wsV RX7 164 RX7 yX7_isSinger wsX7_isSinger) := goodIn_app (goodIn_of _ (by decide +kernel)) ggX7_lineOf_X7_isSinger
set_option maxRecDepth 20000 in
theorem ggX7_lineOf_X7_refuses : GoodIn wsX7_lineOf wsX7_refuses := goodIn_r _ [19, 1, 90, 91, 92, 93, 94, 95, 96, 97, 98, 99, 100, 101, 102, 103, 104, 105] (by decide +kernel) (by decide +kernel)
set_option maxRecDepth 20000 in
theorem gX7_lineOf_X7_refuses : GoodIn wsX7_lineOf (wsV RX7 154 RX7 yX7_refuses wsX7_refuses) := goodIn_app (goodIn_of _ (by decide +kernel)) ggX7_lineOf_X7_refuses
set_option maxRecDepth 20000 in
theorem ggX7_lineOf_X7_tells_q1 : GoodIn wsX7_lineOf ([Cond.code yX7_tells cX7_tells 4 (some .int)]) := goodIn_r _ [23] (by decide +kernel) (by decide +kernel)
set_option maxRecDepth 20000 in
theorem ggX7_lineOf_X7_tells_q2 : GoodIn wsX7_lineOf (wsX7_tells_r1) := goodIn_r _ [2, 8, 24, 25, 26, 6, 27, 28, 29, 30, 31, 32, 33, 34, 35, 36, 37, 38, 39, 40, 41, 42, 43, 44] (by decide +kernel) (by decide +kernel)
set_option maxRecDepth 20000 in
theorem ggX7_lineOf_X7_tells_q3 : GoodIn wsX7_lineOf (wsX7_tells_r2) := goodIn_r _ [45, 46, 47, 48, 49, 50, 51, 52, 53, 54, 55, 56, 57, 58, 59, 60, 61, 62, 63, 64, 65, 66, 67, 68] (by decide +kernel) (by decide +kernel)
set_option maxRecDepth 20000 in
theorem ggX7_lineOf_X7_tells_q4 : GoodIn wsX7_lineOf (wsX7_tells_r3) := goodIn_r _ [69, 9, 10, 11, 70, 71, 72, 73, 74, 75, 76, 77, 78, 79, 80, 81, 82, 83, 84, 85, 86, 87, 88, 89] (by decide +kernel) (by decide +kernel)
set_option maxRecDepth 20000 in
theorem ggX7_lineOf_X7_tells_q5 : GoodIn wsX7_lineOf (wsX70) := goodIn_r _ [90, 91, 92, 93, 94, 95, 96, 97, 98, 99, 100, 101, 102, 103, 104, 105] (by decide +kernel) (by decide +kernel)
theorem ggX7_lineOf_X7_tells : GoodIn wsX7_lineOf wsX7_tells := (goodIn_app (a := [Cond.code yX7_tells cX7_tells 4 (some .int)]) ggX7_lineOf_X7_tells_q1 (goodIn_app (goodIn_app ggX7_lineOf_X7_tells_q2 (goodIn_app ggX7_lineOf_X7_tells_q3 ggX7_lineOf_X7_tells_q4)) ggX7_lineOf_X7_tells_q5))
set_option maxRecDepth 20000 in
theorem gX7_lineOf_X7_tells : GoodIn wsX7_lineOf (wsV RX7 257 RX7 yX7_tells wsX7_tells) := goodIn_app (goodIn_of _ (by decide +kernel)) ggX7_lineOf_X7_tells
theorem dX7_lineOf_0 : decode cX7_lineOf 0 = .ok (.aload_n 0, 1) := by decide +kernel
theorem dX7_lineOf_1 : decode cX7_lineOf 1 = .ok (.iconst 0, 1) := by decide +kernel
theorem dX7_lineOf_2 : decode cX7_lineOf 2 = .ok (.putfield 40, 3) := by decide +kernel
theorem dX7_lineOf_5 : decode cX7_lineOf 5 = .ok (.aload_n 0, 1) := by decide +kernel
theorem dX7_lineOf_6 : decode cX7_lineOf 6 = .ok (.iload_n 1, 1) := by decide +kernel
theorem dX7_lineOf_7 : decode cX7_lineOf 7 = .ok (.invokevirtual 197, 3) := by decide +kernel
theorem dX7_lineOf_10 : decode cX7_lineOf 10 = .ok (.ifCond .eq 11, 3) := by decide +kernel
theorem dX7_lineOf_13 : decode cX7_lineOf 13 = .ok (.aload_n 0, 1) := by decide +kernel
theorem dX7_lineOf_14 : decode cX7_lineOf 14 = .ok (.iload_n 2, 1) := by decide +kernel
theorem dX7_lineOf_15 : decode cX7_lineOf 15 = .ok (.invokevirtual 164, 3) := by decide +kernel
theorem dX7_lineOf_18 : decode cX7_lineOf 18 = .ok (.ifCond .ne 9, 3) := by decide +kernel
theorem dX7_lineOf_21 : decode cX7_lineOf 21 = .ok (.aload_n 0, 1) := by decide +kernel
theorem dX7_lineOf_22 : decode cX7_lineOf 22 = .ok (.iconst 1, 1) := by decide +kernel
theorem dX7_lineOf_23 : decode cX7_lineOf 23 = .ok (.invokevirtual 154, 3) := by decide +kernel
theorem dX7_lineOf_26 : decode cX7_lineOf 26 = .ok (.ireturn, 1) := by decide +kernel
theorem dX7_lineOf_27 : decode cX7_lineOf 27 = .ok (.aload_n 0, 1) := by decide +kernel
theorem dX7_lineOf_28 : decode cX7_lineOf 28 = .ok (.iload_n 1, 1) := by decide +kernel
theorem dX7_lineOf_29 : decode cX7_lineOf 29 = .ok (.invokevirtual 257, 3) := by decide +kernel
theorem dX7_lineOf_32 : decode cX7_lineOf 32 = .ok (.ifCond .ge 7, 3) := by decide +kernel
theorem dX7_lineOf_35 : decode cX7_lineOf 35 = .ok (.iconst (-1), 1) := by decide +kernel
theorem dX7_lineOf_36 : decode cX7_lineOf 36 = .ok (.goto 9, 3) := by decide +kernel
theorem dX7_lineOf_39 : decode cX7_lineOf 39 = .ok (.aload_n 0, 1) := by decide +kernel
theorem dX7_lineOf_40 : decode cX7_lineOf 40 = .ok (.getfield 22, 3) := by decide +kernel
theorem dX7_lineOf_43 : decode cX7_lineOf 43 = .ok (.iload_n 2, 1) := by decide +kernel
theorem dX7_lineOf_44 : decode cX7_lineOf 44 = .ok (.iaload, 1) := by decide +kernel
theorem dX7_lineOf_45 : decode cX7_lineOf 45 = .ok (.ireturn, 1) := by decide +kernel
set_option maxRecDepth 20000 in
theorem ggX7_inLine_X7_tells_q1 : GoodIn wsX7_inLine ([Cond.code yX7_tells cX7_tells 4 (some .int)]) := goodIn_r _ [6] (by decide +kernel) (by decide +kernel)
set_option maxRecDepth 20000 in
theorem ggX7_inLine_X7_tells_q2 : GoodIn wsX7_inLine (wsX7_tells_r1) := goodIn_r _ [1, 7, 8, 9, 10, 5, 11, 12, 13, 14, 15, 16, 17, 18, 19, 20, 21, 22, 23, 24, 25, 26, 27, 28] (by decide +kernel) (by decide +kernel)
set_option maxRecDepth 20000 in
theorem ggX7_inLine_X7_tells_q3 : GoodIn wsX7_inLine (wsX7_tells_r2) := goodIn_r _ [29, 30, 31, 32, 33, 34, 35, 36, 37, 38, 39, 40, 41, 42, 43, 44, 45, 46, 47, 48, 49, 50, 51, 52] (by decide +kernel) (by decide +kernel)
set_option maxRecDepth 20000 in
theorem ggX7_inLine_X7_tells_q4 : GoodIn wsX7_inLine (wsX7_tells_r3) := goodIn_r _ [53, 54, 55, 56, 57, 58, 59, 60, 61, 62, 63, 64, 65, 66, 67, 68, 69, 70, 71, 72, 73, 74, 75, 76] (by decide +kernel) (by decide +kernel)
set_option maxRecDepth 20000 in
theorem ggX7_inLine_X7_tells_q5 : GoodIn wsX7_inLine (wsX70) := goodIn_r _ [77, 78, 79, 80, 81, 82, 83, 84, 85, 86, 87, 88, 89, 90, 91, 92] (by decide +kernel) (by decide +kernel)
theorem ggX7_inLine_X7_tells : GoodIn wsX7_inLine wsX7_tells := (goodIn_app (a := [Cond.code yX7_tells cX7_tells 4 (some .int)]) ggX7_inLine_X7_tells_q1 (goodIn_app (goodIn_app ggX7_inLine_X7_tells_q2 (goodIn_app ggX7_inLine_X7_tells_q3 ggX7_inLine_X7_tells_q4)) ggX7_inLine_X7_tells_q5))
set_option maxRecDepth 20000 in
theorem gX7_inLine_X7_tells : GoodIn wsX7_inLine (wsV RX7 257 RX7 yX7_tells wsX7_tells) := goodIn_app (goodIn_of _ (by decide +kernel)) ggX7_inLine_X7_tells
theorem dX7_inLine_0 : decode cX7_inLine 0 = .ok (.aload_n 0, 1) := by decide +kernel
theorem dX7_inLine_1 : decode cX7_inLine 1 = .ok (.iload_n 1, 1) := by decide +kernel
theorem dX7_inLine_2 : decode cX7_inLine 2 = .ok (.invokevirtual 257, 3) := by decide +kernel
theorem dX7_inLine_5 : decode cX7_inLine 5 = .ok (.ifCond .ge 7, 3) := by decide +kernel
theorem dX7_inLine_8 : decode cX7_inLine 8 = .ok (.iconst (-1), 1) := by decide +kernel
theorem dX7_inLine_9 : decode cX7_inLine 9 = .ok (.goto 4, 3) := by decide +kernel
theorem dX7_inLine_12 : decode cX7_inLine 12 = .ok (.iconst 0, 1) := by decide +kernel
theorem dX7_inLine_13 : decode cX7_inLine 13 = .ok (.istore_n 3, 1) := by decide +kernel
theorem dX7_inLine_14 : decode cX7_inLine 14 = .ok (.iconst 0, 1) := by decide +kernel
theorem dX7_inLine_15 : decode cX7_inLine 15 = .ok (.istore 4, 2) := by decide +kernel
theorem dX7_inLine_17 : decode cX7_inLine 17 = .ok (.iload 4, 2) := by decide +kernel
theorem dX7_inLine_19 : decode cX7_inLine 19 = .ok (.bipush 30, 2) := by decide +kernel
theorem dX7_inLine_21 : decode cX7_inLine 21 = .ok (.if_icmp .ge 28, 3) := by decide +kernel
theorem dX7_inLine_24 : decode cX7_inLine 24 = .ok (.iload_n 3, 1) := by decide +kernel
theorem dX7_inLine_25 : decode cX7_inLine 25 = .ok (.aload_n 0, 1) := by decide +kernel
theorem dX7_inLine_26 : decode cX7_inLine 26 = .ok (.getfield 22, 3) := by decide +kernel
theorem dX7_inLine_29 : decode cX7_inLine 29 = .ok (.iload 4, 2) := by decide +kernel
theorem dX7_inLine_31 : decode cX7_inLine 31 = .ok (.iaload, 1) := by decide +kernel
theorem dX7_inLine_32 : decode cX7_inLine 32 = .ok (.iload_n 2, 1) := by decide +kernel
theorem dX7_inLine_33 : decode cX7_inLine 33 = .ok (.if_icmp .ne 7, 3) := by decide +kernel
theorem dX7_inLine_36 : decode cX7_inLine 36 = .ok (.iconst 1, 1) := by decide +kernel
theorem dX7_inLine_37 : decode cX7_inLine 37 = .ok (.goto 4, 3) := by decide +kernel
theorem dX7_inLine_40 : decode cX7_inLine 40 = .ok (.iconst 0, 1) := by decide +kernel
theorem dX7_inLine_41 : decode cX7_inLine 41 = .ok (.iadd, 1) := by decide +kernel
theorem dX7_inLine_42 : decode cX7_inLine 42 = .ok (.istore_n 3, 1) := by decide +kernel
theorem dX7_inLine_43 : decode cX7_inLine 43 = .ok (.iinc 4 1, 3) := by decide +kernel
theorem dX7_inLine_46 : decode cX7_inLine 46 = .ok (.goto (-29), 3) := by decide +kernel
theorem dX7_inLine_49 : decode cX7_inLine 49 = .ok (.iload_n 3, 1) := by decide +kernel
theorem dX7_inLine_50 : decode cX7_inLine 50 = .ok (.ireturn, 1) := by decide +kernel
set_option maxRecDepth 20000 in
theorem ggX7_singersIn_X7_isFeast : GoodIn wsX7_singersIn wsX7_isFeast := goodIn_r _ [6, 7, 8, 9, 5, 10, 93, 94, 95, 96, 97, 98, 99, 100, 101, 102, 103, 104, 105, 106, 107, 108] (by decide +kernel) (by decide +kernel)
set_option maxRecDepth 20000 in
theorem gX7_singersIn_X7_isFeast : GoodIn wsX7_singersIn (wsV RX7 197 RX7 yX7_isFeast wsX7_isFeast) := goodIn_app (goodIn_of _ (by decide +kernel)) ggX7_singersIn_X7_isFeast
set_option maxRecDepth 20000 in
theorem ggX7_singersIn_X7_isLine : GoodIn wsX7_singersIn wsX7_isLine := goodIn_r _ [13, 8, 9, 5, 10] (by decide +kernel) (by decide +kernel)
set_option maxRecDepth 20000 in
theorem gX7_singersIn_X7_isLine : GoodIn wsX7_singersIn (va_wsS RX7 200 yX7_isLine wsX7_isLine) := goodIn_app (goodIn_of _ (by decide +kernel)) ggX7_singersIn_X7_isLine
set_option maxRecDepth 20000 in
theorem ggX7_singersIn_X7_inLine_q1 : GoodIn wsX7_singersIn ([Cond.code yX7_inLine cX7_inLine 5 (some .int)]) := goodIn_r _ [17] (by decide +kernel) (by decide +kernel)
set_option maxRecDepth 20000 in
theorem ggX7_singersIn_X7_inLine_q2 : GoodIn wsX7_singersIn (wsX7_inLine_r1) := goodIn_r _ [18, 19, 20, 21, 5, 22, 7, 23, 24, 25, 26, 27, 28, 29, 30, 31, 32, 33, 34, 35, 36, 37, 38, 39] (by decide +kernel) (by decide +kernel)
set_option maxRecDepth 20000 in
theorem ggX7_singersIn_X7_inLine_q3 : GoodIn wsX7_singersIn (wsX7_inLine_r2) := goodIn_r _ [40, 41, 42, 43, 44, 45, 46, 47, 48, 49, 50, 51, 52, 53, 54, 55, 56, 57, 58, 59, 60, 61, 62, 63] (by decide +kernel) (by decide +kernel)
set_option maxRecDepth 20000 in
theorem ggX7_singersIn_X7_inLine_q4 : GoodIn wsX7_singersIn (wsX7_inLine_r3) := goodIn_r _ [64, 65, 66, 67, 68, 8, 9, 10, 69, 70, 71, 72, 73, 74, 75, 76, 77, 78, 79, 80, 81, 82, 83, 84] (by decide +kernel) (by decide +kernel)
set_option maxRecDepth 20000 in
theorem ggX7_singersIn_X7_inLine_q5 : GoodIn wsX7_singersIn (wsX7_inLine_r4) := goodIn_r _ [85, 86, 87, 88] (by decide +kernel) (by decide +kernel)
set_option maxRecDepth 20000 in
theorem ggX7_singersIn_X7_inLine_q6 : GoodIn wsX7_singersIn (wsX70) := goodIn_r _ [93, 94, 95, 96, 97, 98, 99, 100, 101, 102, 103, 104, 105, 106, 107, 108] (by decide +kernel) (by decide +kernel)
theorem ggX7_singersIn_X7_inLine : GoodIn wsX7_singersIn wsX7_inLine := (goodIn_app (a := [Cond.code yX7_inLine cX7_inLine 5 (some .int)]) ggX7_singersIn_X7_inLine_q1 (goodIn_app (goodIn_app ggX7_singersIn_X7_inLine_q2 (goodIn_app ggX7_singersIn_X7_inLine_q3 (goodIn_app ggX7_singersIn_X7_inLine_q4 ggX7_singersIn_X7_inLine_q5))) ggX7_singersIn_X7_inLine_q6))
set_option maxRecDepth 20000 in
theorem gX7_singersIn_X7_inLine : GoodIn wsX7_singersIn (wsV RX7 260 RX7 yX7_inLine wsX7_inLine) := goodIn_app (goodIn_of _ (by decide +kernel)) ggX7_singersIn_X7_inLine
set_option maxRecDepth 20000 in
theorem ggX7_singersIn_X7_refuses : GoodIn wsX7_singersIn wsX7_refuses := goodIn_r _ [92, 1, 93, 94, 95, 96, 97, 98, 99, 100, 101, 102, 103, 104, 105, 106, 107, 108] (by decide +kernel) (by decide +kernel)
set_option maxRecDepth 20000 in
theorem gX7_singersIn_X7_refuses : GoodIn wsX7_singersIn (wsV RX7 154 RX7 yX7_refuses wsX7_refuses) := goodIn_app (goodIn_of _ (by decide +kernel)) ggX7_singersIn_X7_refuses
theorem dX7_singersIn_0 : decode cX7_singersIn 0 = .ok (.aload_n 0, 1) := by decide +kernel
theorem dX7_singersIn_1 : decode cX7_singersIn 1 = .ok (.iconst 0, 1) := by decide +kernel
theorem dX7_singersIn_2 : decode cX7_singersIn 2 = .ok (.putfield 40, 3) := by decide +kernel
theorem dX7_singersIn_5 : decode cX7_singersIn 5 = .ok (.aload_n 0, 1) := by decide +kernel
theorem dX7_singersIn_6 : decode cX7_singersIn 6 = .ok (.iload_n 1, 1) := by decide +kernel
theorem dX7_singersIn_7 : decode cX7_singersIn 7 = .ok (.invokevirtual 197, 3) := by decide +kernel
theorem dX7_singersIn_10 : decode cX7_singersIn 10 = .ok (.ifCond .eq 19, 3) := by decide +kernel
theorem dX7_singersIn_13 : decode cX7_singersIn 13 = .ok (.iload_n 2, 1) := by decide +kernel
theorem dX7_singersIn_14 : decode cX7_singersIn 14 = .ok (.invokestatic 200, 3) := by decide +kernel
theorem dX7_singersIn_17 : decode cX7_singersIn 17 = .ok (.ifCond .eq 12, 3) := by decide +kernel
theorem dX7_singersIn_20 : decode cX7_singersIn 20 = .ok (.aload_n 0, 1) := by decide +kernel
theorem dX7_singersIn_21 : decode cX7_singersIn 21 = .ok (.iload_n 1, 1) := by decide +kernel
theorem dX7_singersIn_22 : decode cX7_singersIn 22 = .ok (.iload_n 2, 1) := by decide +kernel
theorem dX7_singersIn_23 : decode cX7_singersIn 23 = .ok (.invokevirtual 260, 3) := by decide +kernel
theorem dX7_singersIn_26 : decode cX7_singersIn 26 = .ok (.goto 8, 3) := by decide +kernel
theorem dX7_singersIn_29 : decode cX7_singersIn 29 = .ok (.aload_n 0, 1) := by decide +kernel
theorem dX7_singersIn_30 : decode cX7_singersIn 30 = .ok (.iconst 1, 1) := by decide +kernel
theorem dX7_singersIn_31 : decode cX7_singersIn 31 = .ok (.invokevirtual 154, 3) := by decide +kernel
theorem dX7_singersIn_34 : decode cX7_singersIn 34 = .ok (.ireturn, 1) := by decide +kernel
set_option maxRecDepth 20000 in
theorem ggX7_shortfall_X7_isFeast : GoodIn wsX7_shortfall wsX7_isFeast := goodIn_r _ [6, 7, 8, 9, 5, 10, 90, 91, 92, 93, 94, 95, 96, 97, 98, 99, 100, 101, 102, 103, 104, 105] (by decide +kernel) (by decide +kernel)
set_option maxRecDepth 20000 in
theorem gX7_shortfall_X7_isFeast : GoodIn wsX7_shortfall (wsV RX7 197 RX7 yX7_isFeast wsX7_isFeast) := goodIn_app (goodIn_of _ (by decide +kernel)) ggX7_shortfall_X7_isFeast
set_option maxRecDepth 20000 in
theorem ggX7_shortfall_X7_allPlaces : GoodIn wsX7_shortfall wsX7_allPlaces := goodIn_r _ [14, 15, 16, 17, 5, 18, 7, 90, 91, 92, 93, 94, 95, 96, 97, 98, 99, 100, 101, 102, 103, 104, 105] (by decide +kernel) (by decide +kernel)
set_option maxRecDepth 20000 in
theorem gX7_shortfall_X7_allPlaces : GoodIn wsX7_shortfall (wsV RX7 139 RX7 yX7_allPlaces wsX7_allPlaces) := goodIn_app (goodIn_of _ (by decide +kernel)) ggX7_shortfall_X7_allPlaces
set_option maxRecDepth 20000 in
theorem ggX7_shortfall_X7_tells_q1 : GoodIn wsX7_shortfall ([Cond.code yX7_tells cX7_tells 4 (some .int)]) := goodIn_r _ [22] (by decide +kernel) (by decide +kernel)
set_option maxRecDepth 20000 in
theorem ggX7_shortfall_X7_tells_q2 : GoodIn wsX7_shortfall (wsX7_tells_r1) := goodIn_r _ [23, 7, 24, 25, 26, 5, 27, 28, 29, 30, 31, 32, 33, 34, 35, 36, 37, 38, 39, 40, 41, 15, 16, 17] (by decide +kernel) (by decide +kernel)
set_option maxRecDepth 20000 in
theorem ggX7_shortfall_X7_tells_q3 : GoodIn wsX7_shortfall (wsX7_tells_r2) := goodIn_r _ [18, 42, 43, 44, 45, 46, 47, 48, 49, 50, 51, 52, 53, 54, 55, 56, 57, 58, 59, 60, 61, 62, 63, 64] (by decide +kernel) (by decide +kernel)
set_option maxRecDepth 20000 in
theorem ggX7_shortfall_X7_tells_q4 : GoodIn wsX7_shortfall (wsX7_tells_r3) := goodIn_r _ [65, 8, 9, 10, 66, 67, 68, 69, 70, 71, 72, 73, 74, 75, 76, 77, 78, 79, 80, 81, 82, 83, 84, 85] (by decide +kernel) (by decide +kernel)
set_option maxRecDepth 20000 in
theorem ggX7_shortfall_X7_tells_q5 : GoodIn wsX7_shortfall (wsX70) := goodIn_r _ [90, 91, 92, 93, 94, 95, 96, 97, 98, 99, 100, 101, 102, 103, 104, 105] (by decide +kernel) (by decide +kernel)
theorem ggX7_shortfall_X7_tells : GoodIn wsX7_shortfall wsX7_tells := (goodIn_app (a := [Cond.code yX7_tells cX7_tells 4 (some .int)]) ggX7_shortfall_X7_tells_q1 (goodIn_app (goodIn_app ggX7_shortfall_X7_tells_q2 (goodIn_app ggX7_shortfall_X7_tells_q3 ggX7_shortfall_X7_tells_q4)) ggX7_shortfall_X7_tells_q5))
set_option maxRecDepth 20000 in
theorem gX7_shortfall_X7_tells : GoodIn wsX7_shortfall (wsV RX7 257 RX7 yX7_tells wsX7_tells) := goodIn_app (goodIn_of _ (by decide +kernel)) ggX7_shortfall_X7_tells
set_option maxRecDepth 20000 in
theorem ggX7_shortfall_X7_refuses : GoodIn wsX7_shortfall wsX7_refuses := goodIn_r _ [89, 1, 90, 91, 92, 93, 94, 95, 96, 97, 98, 99, 100, 101, 102, 103, 104, 105] (by decide +kernel) (by decide +kernel)
set_option maxRecDepth 20000 in
theorem gX7_shortfall_X7_refuses : GoodIn wsX7_shortfall (wsV RX7 154 RX7 yX7_refuses wsX7_refuses) := goodIn_app (goodIn_of _ (by decide +kernel)) ggX7_shortfall_X7_refuses
theorem dX7_shortfall_0 : decode cX7_shortfall 0 = .ok (.aload_n 0, 1) := by decide +kernel
theorem dX7_shortfall_1 : decode cX7_shortfall 1 = .ok (.iconst 0, 1) := by decide +kernel
theorem dX7_shortfall_2 : decode cX7_shortfall 2 = .ok (.putfield 40, 3) := by decide +kernel
theorem dX7_shortfall_5 : decode cX7_shortfall 5 = .ok (.aload_n 0, 1) := by decide +kernel
theorem dX7_shortfall_6 : decode cX7_shortfall 6 = .ok (.iload_n 1, 1) := by decide +kernel
theorem dX7_shortfall_7 : decode cX7_shortfall 7 = .ok (.invokevirtual 197, 3) := by decide +kernel
theorem dX7_shortfall_10 : decode cX7_shortfall 10 = .ok (.ifCond .eq 17, 3) := by decide +kernel
theorem dX7_shortfall_13 : decode cX7_shortfall 13 = .ok (.aload_n 0, 1) := by decide +kernel
theorem dX7_shortfall_14 : decode cX7_shortfall 14 = .ok (.iload_n 1, 1) := by decide +kernel
theorem dX7_shortfall_15 : decode cX7_shortfall 15 = .ok (.invokevirtual 139, 3) := by decide +kernel
theorem dX7_shortfall_18 : decode cX7_shortfall 18 = .ok (.aload_n 0, 1) := by decide +kernel
theorem dX7_shortfall_19 : decode cX7_shortfall 19 = .ok (.iload_n 1, 1) := by decide +kernel
theorem dX7_shortfall_20 : decode cX7_shortfall 20 = .ok (.invokevirtual 257, 3) := by decide +kernel
theorem dX7_shortfall_23 : decode cX7_shortfall 23 = .ok (.isub, 1) := by decide +kernel
theorem dX7_shortfall_24 : decode cX7_shortfall 24 = .ok (.goto 8, 3) := by decide +kernel
theorem dX7_shortfall_27 : decode cX7_shortfall 27 = .ok (.aload_n 0, 1) := by decide +kernel
theorem dX7_shortfall_28 : decode cX7_shortfall 28 = .ok (.iconst 1, 1) := by decide +kernel
theorem dX7_shortfall_29 : decode cX7_shortfall 29 = .ok (.invokevirtual 154, 3) := by decide +kernel
theorem dX7_shortfall_32 : decode cX7_shortfall 32 = .ok (.ireturn, 1) := by decide +kernel
set_option maxRecDepth 20000 in
theorem ggX7_toCome_X7_isFeast : GoodIn wsX7_toCome wsX7_isFeast := goodIn_r _ [5, 6, 7, 8, 4, 9, 18, 19, 20, 21, 22, 23, 24, 25, 26, 27, 28, 29, 30, 31, 32, 33] (by decide +kernel) (by decide +kernel)
set_option maxRecDepth 20000 in
theorem gX7_toCome_X7_isFeast : GoodIn wsX7_toCome (wsV RX7 197 RX7 yX7_isFeast wsX7_isFeast) := goodIn_app (goodIn_of _ (by decide +kernel)) ggX7_toCome_X7_isFeast
set_option maxRecDepth 20000 in
theorem ggX7_toCome_X7_held : GoodIn wsX7_toCome wsX7_held := goodIn_r _ [13, 6, 14, 15, 16, 4, 17, 18, 19, 20, 21, 22, 23, 24, 25, 26, 27, 28, 29, 30, 31, 32, 33] (by decide +kernel) (by decide +kernel)
set_option maxRecDepth 20000 in
theorem gX7_toCome_X7_held : GoodIn wsX7_toCome (wsV RX7 136 RX7 yX7_held wsX7_held) := goodIn_app (goodIn_of _ (by decide +kernel)) ggX7_toCome_X7_held
theorem dX7_toCome_0 : decode cX7_toCome 0 = .ok (.aload_n 0, 1) := by decide +kernel
theorem dX7_toCome_1 : decode cX7_toCome 1 = .ok (.iload_n 1, 1) := by decide +kernel
theorem dX7_toCome_2 : decode cX7_toCome 2 = .ok (.invokevirtual 197, 3) := by decide +kernel
theorem dX7_toCome_5 : decode cX7_toCome 5 = .ok (.ifCond .ne 7, 3) := by decide +kernel
theorem dX7_toCome_8 : decode cX7_toCome 8 = .ok (.iconst 1, 1) := by decide +kernel
theorem dX7_toCome_9 : decode cX7_toCome 9 = .ok (.goto 16, 3) := by decide +kernel
theorem dX7_toCome_12 : decode cX7_toCome 12 = .ok (.aload_n 0, 1) := by decide +kernel
theorem dX7_toCome_13 : decode cX7_toCome 13 = .ok (.iload_n 1, 1) := by decide +kernel
theorem dX7_toCome_14 : decode cX7_toCome 14 = .ok (.invokevirtual 136, 3) := by decide +kernel
theorem dX7_toCome_17 : decode cX7_toCome 17 = .ok (.ifCond .eq 7, 3) := by decide +kernel
theorem dX7_toCome_20 : decode cX7_toCome 20 = .ok (.iconst 2, 1) := by decide +kernel
theorem dX7_toCome_21 : decode cX7_toCome 21 = .ok (.goto 4, 3) := by decide +kernel
theorem dX7_toCome_24 : decode cX7_toCome 24 = .ok (.iconst 0, 1) := by decide +kernel
theorem dX7_toCome_25 : decode cX7_toCome 25 = .ok (.ireturn, 1) := by decide +kernel
set_option maxRecDepth 20000 in
theorem ggX7_missing_X7_counts_q1 : GoodIn wsX7_missing ([Cond.code yX7_counts cX7_counts 3 none]) := goodIn_r _ [5] (by decide +kernel) (by decide +kernel)
set_option maxRecDepth 20000 in
theorem ggX7_missing_X7_counts_q2 : GoodIn wsX7_missing (wsX7_counts_r1) := goodIn_r _ [6, 7, 8, 9, 10, 11, 4, 12, 13, 14, 15, 16, 17, 18, 19, 20, 21, 22, 23, 24, 25, 26, 27, 28] (by decide +kernel) (by decide +kernel)
set_option maxRecDepth 20000 in
theorem ggX7_missing_X7_counts_q3 : GoodIn wsX7_missing (wsX7_counts_r2) := goodIn_r _ [29, 30, 31, 32, 33, 34, 35, 36, 37, 38, 39, 40, 41, 42, 43, 44, 45, 46, 47, 48, 49, 50, 51] (by decide +kernel) (by decide +kernel)
set_option maxRecDepth 20000 in
theorem ggX7_missing_X7_counts_q4 : GoodIn wsX7_missing (wsX70) := goodIn_r _ [68, 69, 70, 71, 72, 73, 74, 75, 76, 77, 78, 79, 80, 81, 82, 83] (by decide +kernel) (by decide +kernel)
theorem ggX7_missing_X7_counts : GoodIn wsX7_missing wsX7_counts := (goodIn_app (a := [Cond.code yX7_counts cX7_counts 3 none]) ggX7_missing_X7_counts_q1 (goodIn_app (goodIn_app ggX7_missing_X7_counts_q2 ggX7_missing_X7_counts_q3) ggX7_missing_X7_counts_q4))
set_option maxRecDepth 20000 in
theorem gX7_missing_X7_counts : GoodIn wsX7_missing (wsV RX7 115 RX7 yX7_counts wsX7_counts) := goodIn_app (goodIn_of _ (by decide +kernel)) ggX7_missing_X7_counts
set_option maxRecDepth 20000 in
theorem ggX7_missing_X7_allPlaces : GoodIn wsX7_missing wsX7_allPlaces := goodIn_r _ [55, 9, 10, 11, 4, 12, 8, 68, 69, 70, 71, 72, 73, 74, 75, 76, 77, 78, 79, 80, 81, 82, 83] (by decide +kernel) (by decide +kernel)
set_option maxRecDepth 20000 in
theorem gX7_missing_X7_allPlaces : GoodIn wsX7_missing (wsV RX7 139 RX7 yX7_allPlaces wsX7_allPlaces) := goodIn_app (goodIn_of _ (by decide +kernel)) ggX7_missing_X7_allPlaces
set_option maxRecDepth 20000 in
theorem ggX7_missing_X7_fillable : GoodIn wsX7_missing wsX7_fillable := goodIn_r _ [59, 60, 61, 62, 4, 63, 7, 64, 65, 66, 67, 6, 68, 69, 70, 71, 72, 73, 74, 75, 76, 77, 78, 79, 80, 81, 82, 83] (by decide +kernel) (by decide +kernel)
set_option maxRecDepth 20000 in
theorem gX7_missing_X7_fillable : GoodIn wsX7_missing (wsV RX7 118 RX7 yX7_fillable wsX7_fillable) := goodIn_app (goodIn_of _ (by decide +kernel)) ggX7_missing_X7_fillable
theorem dX7_missing_0 : decode cX7_missing 0 = .ok (.aload_n 0, 1) := by decide +kernel
theorem dX7_missing_1 : decode cX7_missing 1 = .ok (.iload_n 1, 1) := by decide +kernel
theorem dX7_missing_2 : decode cX7_missing 2 = .ok (.invokevirtual 115, 3) := by decide +kernel
theorem dX7_missing_5 : decode cX7_missing 5 = .ok (.aload_n 0, 1) := by decide +kernel
theorem dX7_missing_6 : decode cX7_missing 6 = .ok (.iload_n 1, 1) := by decide +kernel
theorem dX7_missing_7 : decode cX7_missing 7 = .ok (.invokevirtual 139, 3) := by decide +kernel
theorem dX7_missing_10 : decode cX7_missing 10 = .ok (.aload_n 0, 1) := by decide +kernel
theorem dX7_missing_11 : decode cX7_missing 11 = .ok (.invokevirtual 118, 3) := by decide +kernel
theorem dX7_missing_14 : decode cX7_missing 14 = .ok (.isub, 1) := by decide +kernel
theorem dX7_missing_15 : decode cX7_missing 15 = .ok (.ireturn, 1) := by decide +kernel
set_option maxRecDepth 20000 in
theorem ggX7_shortfallBySets_X7_toCome : GoodIn wsX7_shortfallBySets wsX7_toCome := goodIn_r _ [6, 7, 8, 9, 5, 10, 11, 12, 13, 14, 15, 16, 17, 18, 19, 20, 21, 22, 89, 90, 91, 92, 93, 94, 95, 96, 97, 98, 99, 100, 101, 102, 103, 104] (by decide +kernel) (by decide +kernel)
set_option maxRecDepth 20000 in
theorem gX7_shortfallBySets_X7_toCome : GoodIn wsX7_shortfallBySets (wsV RX7 263 RX7 yX7_toCome wsX7_toCome) := goodIn_app (goodIn_of _ (by decide +kernel)) ggX7_shortfallBySets_X7_toCome
set_option maxRecDepth 20000 in
theorem ggX7_shortfallBySets_X7_missing_q1 : GoodIn wsX7_shortfallBySets ([Cond.code yX7_missing cX7_missing 2 (some .int)]) := goodIn_r _ [26] (by decide +kernel) (by decide +kernel)
set_option maxRecDepth 20000 in
theorem ggX7_shortfallBySets_X7_missing_q2 : GoodIn wsX7_shortfallBySets (wsX7_missing_r1) := goodIn_r _ [27, 28, 29, 5, 30, 31, 32, 11, 33, 34, 35, 36, 37, 38, 39, 40, 41, 42, 43, 44, 19, 20, 21, 22] (by decide +kernel) (by decide +kernel)
set_option maxRecDepth 20000 in
theorem ggX7_shortfallBySets_X7_missing_q3 : GoodIn wsX7_shortfallBySets (wsX7_missing_r2) := goodIn_r _ [45, 46, 47, 48, 49, 50, 51, 52, 53, 54, 55, 56, 57, 58, 59, 60, 12, 13, 14, 61, 62, 63, 64, 65] (by decide +kernel) (by decide +kernel)
set_option maxRecDepth 20000 in
theorem ggX7_shortfallBySets_X7_missing_q4 : GoodIn wsX7_shortfallBySets (wsX7_missing_r3) := goodIn_r _ [66, 67, 68, 69, 70, 71, 72, 73, 74, 75, 76, 77, 78, 79, 80, 81, 82, 83, 84] (by decide +kernel) (by decide +kernel)
set_option maxRecDepth 20000 in
theorem ggX7_shortfallBySets_X7_missing_q5 : GoodIn wsX7_shortfallBySets (wsX70) := goodIn_r _ [89, 90, 91, 92, 93, 94, 95, 96, 97, 98, 99, 100, 101, 102, 103, 104] (by decide +kernel) (by decide +kernel)
theorem ggX7_shortfallBySets_X7_missing : GoodIn wsX7_shortfallBySets wsX7_missing := (goodIn_app (a := [Cond.code yX7_missing cX7_missing 2 (some .int)]) ggX7_shortfallBySets_X7_missing_q1 (goodIn_app (goodIn_app ggX7_shortfallBySets_X7_missing_q2 (goodIn_app ggX7_shortfallBySets_X7_missing_q3 ggX7_shortfallBySets_X7_missing_q4)) ggX7_shortfallBySets_X7_missing_q5))
set_option maxRecDepth 20000 in
theorem gX7_shortfallBySets_X7_missing : GoodIn wsX7_shortfallBySets (wsV RX7 266 RX7 yX7_missing wsX7_missing) := goodIn_app (goodIn_of _ (by decide +kernel)) ggX7_shortfallBySets_X7_missing
set_option maxRecDepth 20000 in
theorem ggX7_shortfallBySets_X7_refuses : GoodIn wsX7_shortfallBySets wsX7_refuses := goodIn_r _ [88, 1, 89, 90, 91, 92, 93, 94, 95, 96, 97, 98, 99, 100, 101, 102, 103, 104] (by decide +kernel) (by decide +kernel)
set_option maxRecDepth 20000 in
theorem gX7_shortfallBySets_X7_refuses : GoodIn wsX7_shortfallBySets (wsV RX7 154 RX7 yX7_refuses wsX7_refuses) := goodIn_app (goodIn_of _ (by decide +kernel)) ggX7_shortfallBySets_X7_refuses
theorem dX7_shortfallBySets_0 : decode cX7_shortfallBySets 0 = .ok (.aload_n 0, 1) := by decide +kernel
theorem dX7_shortfallBySets_1 : decode cX7_shortfallBySets 1 = .ok (.iconst 0, 1) := by decide +kernel
theorem dX7_shortfallBySets_2 : decode cX7_shortfallBySets 2 = .ok (.putfield 40, 3) := by decide +kernel
theorem dX7_shortfallBySets_5 : decode cX7_shortfallBySets 5 = .ok (.aload_n 0, 1) := by decide +kernel
theorem dX7_shortfallBySets_6 : decode cX7_shortfallBySets 6 = .ok (.iload_n 1, 1) := by decide +kernel
theorem dX7_shortfallBySets_7 : decode cX7_shortfallBySets 7 = .ok (.invokevirtual 263, 3) := by decide +kernel
theorem dX7_shortfallBySets_10 : decode cX7_shortfallBySets 10 = .ok (.ifCond .ne 11, 3) := by decide +kernel
theorem dX7_shortfallBySets_13 : decode cX7_shortfallBySets 13 = .ok (.aload_n 0, 1) := by decide +kernel
theorem dX7_shortfallBySets_14 : decode cX7_shortfallBySets 14 = .ok (.iload_n 1, 1) := by decide +kernel
theorem dX7_shortfallBySets_15 : decode cX7_shortfallBySets 15 = .ok (.invokevirtual 266, 3) := by decide +kernel
theorem dX7_shortfallBySets_18 : decode cX7_shortfallBySets 18 = .ok (.goto 12, 3) := by decide +kernel
theorem dX7_shortfallBySets_21 : decode cX7_shortfallBySets 21 = .ok (.aload_n 0, 1) := by decide +kernel
theorem dX7_shortfallBySets_22 : decode cX7_shortfallBySets 22 = .ok (.aload_n 0, 1) := by decide +kernel
theorem dX7_shortfallBySets_23 : decode cX7_shortfallBySets 23 = .ok (.iload_n 1, 1) := by decide +kernel
theorem dX7_shortfallBySets_24 : decode cX7_shortfallBySets 24 = .ok (.invokevirtual 263, 3) := by decide +kernel
theorem dX7_shortfallBySets_27 : decode cX7_shortfallBySets 27 = .ok (.invokevirtual 154, 3) := by decide +kernel
theorem dX7_shortfallBySets_30 : decode cX7_shortfallBySets 30 = .ok (.ireturn, 1) := by decide +kernel
set_option maxRecDepth 20000 in
theorem ggX7_needed_X7_missing_q1 : GoodIn wsX7_needed ([Cond.code yX7_missing cX7_missing 2 (some .int)]) := goodIn_r _ [6] (by decide +kernel) (by decide +kernel)
set_option maxRecDepth 20000 in
theorem ggX7_needed_X7_missing_q2 : GoodIn wsX7_needed (wsX7_missing_r1) := goodIn_r _ [7, 8, 9, 5, 10, 11, 1, 12, 13, 14, 15, 16, 17, 18, 19, 20, 21, 22, 23, 24, 25, 26, 27, 28] (by decide +kernel) (by decide +kernel)
set_option maxRecDepth 20000 in
theorem ggX7_needed_X7_missing_q3 : GoodIn wsX7_needed (wsX7_missing_r2) := goodIn_r _ [29, 30, 31, 32, 33, 34, 35, 36, 37, 38, 39, 40, 41, 42, 43, 44, 45, 46, 47, 48, 49, 50, 51, 52] (by decide +kernel) (by decide +kernel)
set_option maxRecDepth 20000 in
theorem ggX7_needed_X7_missing_q4 : GoodIn wsX7_needed (wsX7_missing_r3) := goodIn_r _ [53, 54, 55, 56, 57, 58, 59, 60, 61, 62, 63, 64, 65, 66, 67, 68, 69, 70, 71] (by decide +kernel) (by decide +kernel)
set_option maxRecDepth 20000 in
theorem ggX7_needed_X7_missing_q5 : GoodIn wsX7_needed (wsX70) := goodIn_r _ [72, 73, 74, 75, 76, 77, 78, 79, 80, 81, 82, 83, 84, 85, 86, 87] (by decide +kernel) (by decide +kernel)
theorem ggX7_needed_X7_missing : GoodIn wsX7_needed wsX7_missing := (goodIn_app (a := [Cond.code yX7_missing cX7_missing 2 (some .int)]) ggX7_needed_X7_missing_q1 (goodIn_app (goodIn_app ggX7_needed_X7_missing_q2 (goodIn_app ggX7_needed_X7_missing_q3 ggX7_needed_X7_missing_q4)) ggX7_needed_X7_missing_q5))
set_option maxRecDepth 20000 in
theorem gX7_needed_X7_missing : GoodIn wsX7_needed (wsV RX7 266 RX7 yX7_missing wsX7_missing) := goodIn_app (goodIn_of _ (by decide +kernel)) ggX7_needed_X7_missing
set_option maxRecDepth 20000 in
theorem ggX7_needed_X7_places : GoodIn wsX7_needed wsX7_places := goodIn_r _ [16, 12, 72, 73, 74, 75, 76, 77, 78, 79, 80, 81, 82, 83, 84, 85, 86, 87] (by decide +kernel) (by decide +kernel)
set_option maxRecDepth 20000 in
theorem gX7_needed_X7_places : GoodIn wsX7_needed (wsV RX7 90 RX7 yX7_places wsX7_places) := goodIn_app (goodIn_of _ (by decide +kernel)) ggX7_needed_X7_places
set_option maxRecDepth 20000 in
theorem ggX7_needed_X7_allPlaces : GoodIn wsX7_needed wsX7_allPlaces := goodIn_r _ [59, 13, 14, 15, 5, 16, 12, 72, 73, 74, 75, 76, 77, 78, 79, 80, 81, 82, 83, 84, 85, 86, 87] (by decide +kernel) (by decide +kernel)
set_option maxRecDepth 20000 in
theorem gX7_needed_X7_allPlaces : GoodIn wsX7_needed (wsV RX7 139 RX7 yX7_allPlaces wsX7_allPlaces) := goodIn_app (goodIn_of _ (by decide +kernel)) ggX7_needed_X7_allPlaces
set_option maxRecDepth 20000 in
theorem ggX7_needed_X7_fillable : GoodIn wsX7_needed wsX7_fillable := goodIn_r _ [63, 64, 65, 66, 5, 67, 1, 68, 69, 70, 71, 11, 72, 73, 74, 75, 76, 77, 78, 79, 80, 81, 82, 83, 84, 85, 86, 87] (by decide +kernel) (by decide +kernel)
set_option maxRecDepth 20000 in
theorem gX7_needed_X7_fillable : GoodIn wsX7_needed (wsV RX7 118 RX7 yX7_fillable wsX7_fillable) := goodIn_app (goodIn_of _ (by decide +kernel)) ggX7_needed_X7_fillable
theorem dX7_needed_0 : decode cX7_needed 0 = .ok (.aload_n 0, 1) := by decide +kernel
theorem dX7_needed_1 : decode cX7_needed 1 = .ok (.iload_n 1, 1) := by decide +kernel
theorem dX7_needed_2 : decode cX7_needed 2 = .ok (.invokevirtual 266, 3) := by decide +kernel
theorem dX7_needed_5 : decode cX7_needed 5 = .ok (.istore_n 2, 1) := by decide +kernel
theorem dX7_needed_6 : decode cX7_needed 6 = .ok (.iconst (-1), 1) := by decide +kernel
theorem dX7_needed_7 : decode cX7_needed 7 = .ok (.istore_n 3, 1) := by decide +kernel
theorem dX7_needed_8 : decode cX7_needed 8 = .ok (.iconst 3, 1) := by decide +kernel
theorem dX7_needed_9 : decode cX7_needed 9 = .ok (.istore 4, 2) := by decide +kernel
theorem dX7_needed_11 : decode cX7_needed 11 = .ok (.iload 4, 2) := by decide +kernel
theorem dX7_needed_13 : decode cX7_needed 13 = .ok (.ifCond .lt 64, 3) := by decide +kernel
theorem dX7_needed_16 : decode cX7_needed 16 = .ok (.aload_n 0, 1) := by decide +kernel
theorem dX7_needed_17 : decode cX7_needed 17 = .ok (.iload_n 1, 1) := by decide +kernel
theorem dX7_needed_18 : decode cX7_needed 18 = .ok (.iload 4, 2) := by decide +kernel
theorem dX7_needed_20 : decode cX7_needed 20 = .ok (.invokevirtual 90, 3) := by decide +kernel
theorem dX7_needed_23 : decode cX7_needed 23 = .ok (.ifCond .le 48, 3) := by decide +kernel
theorem dX7_needed_26 : decode cX7_needed 26 = .ok (.aload_n 0, 1) := by decide +kernel
theorem dX7_needed_27 : decode cX7_needed 27 = .ok (.getfield 25, 3) := by decide +kernel
theorem dX7_needed_30 : decode cX7_needed 30 = .ok (.iload 4, 2) := by decide +kernel
theorem dX7_needed_32 : decode cX7_needed 32 = .ok (.dup2, 1) := by decide +kernel
theorem dX7_needed_33 : decode cX7_needed 33 = .ok (.iaload, 1) := by decide +kernel
theorem dX7_needed_34 : decode cX7_needed 34 = .ok (.iconst 1, 1) := by decide +kernel
theorem dX7_needed_35 : decode cX7_needed 35 = .ok (.isub, 1) := by decide +kernel
theorem dX7_needed_36 : decode cX7_needed 36 = .ok (.iastore, 1) := by decide +kernel
theorem dX7_needed_37 : decode cX7_needed 37 = .ok (.aload_n 0, 1) := by decide +kernel
theorem dX7_needed_38 : decode cX7_needed 38 = .ok (.iload_n 1, 1) := by decide +kernel
theorem dX7_needed_39 : decode cX7_needed 39 = .ok (.invokevirtual 139, 3) := by decide +kernel
theorem dX7_needed_42 : decode cX7_needed 42 = .ok (.iconst 1, 1) := by decide +kernel
theorem dX7_needed_43 : decode cX7_needed 43 = .ok (.isub, 1) := by decide +kernel
theorem dX7_needed_44 : decode cX7_needed 44 = .ok (.aload_n 0, 1) := by decide +kernel
theorem dX7_needed_45 : decode cX7_needed 45 = .ok (.invokevirtual 118, 3) := by decide +kernel
theorem dX7_needed_48 : decode cX7_needed 48 = .ok (.isub, 1) := by decide +kernel
theorem dX7_needed_49 : decode cX7_needed 49 = .ok (.iload_n 2, 1) := by decide +kernel
theorem dX7_needed_50 : decode cX7_needed 50 = .ok (.if_icmp .ge 8, 3) := by decide +kernel
theorem dX7_needed_53 : decode cX7_needed 53 = .ok (.iload 4, 2) := by decide +kernel
theorem dX7_needed_55 : decode cX7_needed 55 = .ok (.goto 4, 3) := by decide +kernel
theorem dX7_needed_58 : decode cX7_needed 58 = .ok (.iload_n 3, 1) := by decide +kernel
theorem dX7_needed_59 : decode cX7_needed 59 = .ok (.istore_n 3, 1) := by decide +kernel
theorem dX7_needed_60 : decode cX7_needed 60 = .ok (.aload_n 0, 1) := by decide +kernel
theorem dX7_needed_61 : decode cX7_needed 61 = .ok (.getfield 25, 3) := by decide +kernel
theorem dX7_needed_64 : decode cX7_needed 64 = .ok (.iload 4, 2) := by decide +kernel
theorem dX7_needed_66 : decode cX7_needed 66 = .ok (.dup2, 1) := by decide +kernel
theorem dX7_needed_67 : decode cX7_needed 67 = .ok (.iaload, 1) := by decide +kernel
theorem dX7_needed_68 : decode cX7_needed 68 = .ok (.iconst 1, 1) := by decide +kernel
theorem dX7_needed_69 : decode cX7_needed 69 = .ok (.iadd, 1) := by decide +kernel
theorem dX7_needed_70 : decode cX7_needed 70 = .ok (.iastore, 1) := by decide +kernel
theorem dX7_needed_71 : decode cX7_needed 71 = .ok (.iinc 4 (-1), 3) := by decide +kernel
theorem dX7_needed_74 : decode cX7_needed 74 = .ok (.goto (-63), 3) := by decide +kernel
theorem dX7_needed_77 : decode cX7_needed 77 = .ok (.iload_n 3, 1) := by decide +kernel
theorem dX7_needed_78 : decode cX7_needed 78 = .ok (.ireturn, 1) := by decide +kernel
set_option maxRecDepth 20000 in
theorem ggX7_neededLine_X7_toCome : GoodIn wsX7_neededLine wsX7_toCome := goodIn_r _ [6, 7, 8, 9, 5, 10, 11, 12, 13, 14, 15, 16, 17, 18, 19, 20, 21, 22, 93, 94, 95, 96, 97, 98, 99, 100, 101, 102, 103, 104, 105, 106, 107, 108] (by decide +kernel) (by decide +kernel)
set_option maxRecDepth 20000 in
theorem gX7_neededLine_X7_toCome : GoodIn wsX7_neededLine (wsV RX7 263 RX7 yX7_toCome wsX7_toCome) := goodIn_app (goodIn_of _ (by decide +kernel)) ggX7_neededLine_X7_toCome
set_option maxRecDepth 20000 in
theorem ggX7_neededLine_X7_needed_q1 : GoodIn wsX7_neededLine ([Cond.code yX7_needed cX7_needed 5 (some .int)]) := goodIn_r _ [26] (by decide +kernel) (by decide +kernel)
set_option maxRecDepth 20000 in
theorem ggX7_neededLine_X7_needed_q2 : GoodIn wsX7_neededLine (wsX7_needed_r1) := goodIn_r _ [27, 28, 29, 30, 5, 31, 32, 33, 34, 35, 36, 11, 37, 38, 39, 40, 41, 42, 43, 44, 45, 46, 47, 48] (by decide +kernel) (by decide +kernel)
set_option maxRecDepth 20000 in
theorem ggX7_neededLine_X7_needed_q3 : GoodIn wsX7_neededLine (wsX7_needed_r2) := goodIn_r _ [19, 20, 21, 22, 49, 50, 51, 52, 53, 54, 55, 56, 57, 58, 59, 60, 61, 62, 63, 64, 12, 13, 14, 65] (by decide +kernel) (by decide +kernel)
set_option maxRecDepth 20000 in
theorem ggX7_neededLine_X7_needed_q4 : GoodIn wsX7_neededLine (wsX7_needed_r3) := goodIn_r _ [66, 67, 68, 69, 70, 71, 72, 73, 74, 75, 76, 77, 78, 79, 80, 81, 82, 83, 84, 85, 86, 87, 88] (by decide +kernel) (by decide +kernel)
set_option maxRecDepth 20000 in
theorem ggX7_neededLine_X7_needed_q5 : GoodIn wsX7_neededLine (wsX70) := goodIn_r _ [93, 94, 95, 96, 97, 98, 99, 100, 101, 102, 103, 104, 105, 106, 107, 108] (by decide +kernel) (by decide +kernel)
theorem ggX7_neededLine_X7_needed : GoodIn wsX7_neededLine wsX7_needed := (goodIn_app (a := [Cond.code yX7_needed cX7_needed 5 (some .int)]) ggX7_neededLine_X7_needed_q1 (goodIn_app (goodIn_app ggX7_neededLine_X7_needed_q2 (goodIn_app ggX7_neededLine_X7_needed_q3 ggX7_neededLine_X7_needed_q4)) ggX7_neededLine_X7_needed_q5))
set_option maxRecDepth 20000 in
theorem gX7_neededLine_X7_needed : GoodIn wsX7_neededLine (wsV RX7 269 RX7 yX7_needed wsX7_needed) := goodIn_app (goodIn_of _ (by decide +kernel)) ggX7_neededLine_X7_needed
set_option maxRecDepth 20000 in
theorem ggX7_neededLine_X7_refuses : GoodIn wsX7_neededLine wsX7_refuses := goodIn_r _ [92, 1, 93, 94, 95, 96, 97, 98, 99, 100, 101, 102, 103, 104, 105, 106, 107, 108] (by decide +kernel) (by decide +kernel)
set_option maxRecDepth 20000 in
theorem gX7_neededLine_X7_refuses : GoodIn wsX7_neededLine (wsV RX7 154 RX7 yX7_refuses wsX7_refuses) := goodIn_app (goodIn_of _ (by decide +kernel)) ggX7_neededLine_X7_refuses
theorem dX7_neededLine_0 : decode cX7_neededLine 0 = .ok (.aload_n 0, 1) := by decide +kernel
theorem dX7_neededLine_1 : decode cX7_neededLine 1 = .ok (.iconst 0, 1) := by decide +kernel
theorem dX7_neededLine_2 : decode cX7_neededLine 2 = .ok (.putfield 40, 3) := by decide +kernel
theorem dX7_neededLine_5 : decode cX7_neededLine 5 = .ok (.aload_n 0, 1) := by decide +kernel
theorem dX7_neededLine_6 : decode cX7_neededLine 6 = .ok (.iload_n 1, 1) := by decide +kernel
theorem dX7_neededLine_7 : decode cX7_neededLine 7 = .ok (.invokevirtual 263, 3) := by decide +kernel
theorem dX7_neededLine_10 : decode cX7_neededLine 10 = .ok (.ifCond .ne 11, 3) := by decide +kernel
theorem dX7_neededLine_13 : decode cX7_neededLine 13 = .ok (.aload_n 0, 1) := by decide +kernel
theorem dX7_neededLine_14 : decode cX7_neededLine 14 = .ok (.iload_n 1, 1) := by decide +kernel
theorem dX7_neededLine_15 : decode cX7_neededLine 15 = .ok (.invokevirtual 269, 3) := by decide +kernel
theorem dX7_neededLine_18 : decode cX7_neededLine 18 = .ok (.goto 12, 3) := by decide +kernel
theorem dX7_neededLine_21 : decode cX7_neededLine 21 = .ok (.aload_n 0, 1) := by decide +kernel
theorem dX7_neededLine_22 : decode cX7_neededLine 22 = .ok (.aload_n 0, 1) := by decide +kernel
theorem dX7_neededLine_23 : decode cX7_neededLine 23 = .ok (.iload_n 1, 1) := by decide +kernel
theorem dX7_neededLine_24 : decode cX7_neededLine 24 = .ok (.invokevirtual 263, 3) := by decide +kernel
theorem dX7_neededLine_27 : decode cX7_neededLine 27 = .ok (.invokevirtual 154, 3) := by decide +kernel
theorem dX7_neededLine_30 : decode cX7_neededLine 30 = .ok (.ireturn, 1) := by decide +kernel
set_option maxRecDepth 20000 in
theorem ggX7_descantIn_X7_isFeast : GoodIn wsX7_descantIn wsX7_isFeast := goodIn_r _ [7, 2, 8, 9, 6, 10, 103, 104, 105, 106, 107, 108, 109, 110, 111, 112, 113, 114, 115, 116, 117, 118] (by decide +kernel) (by decide +kernel)
set_option maxRecDepth 20000 in
theorem gX7_descantIn_X7_isFeast : GoodIn wsX7_descantIn (wsV RX7 197 RX7 yX7_isFeast wsX7_isFeast) := goodIn_app (goodIn_of _ (by decide +kernel)) ggX7_descantIn_X7_isFeast
set_option maxRecDepth 20000 in
theorem ggX7_descantIn_X7_refuses : GoodIn wsX7_descantIn wsX7_refuses := goodIn_r _ [14, 1, 103, 104, 105, 106, 107, 108, 109, 110, 111, 112, 113, 114, 115, 116, 117, 118] (by decide +kernel) (by decide +kernel)
set_option maxRecDepth 20000 in
theorem gX7_descantIn_X7_refuses : GoodIn wsX7_descantIn (wsV RX7 154 RX7 yX7_refuses wsX7_refuses) := goodIn_app (goodIn_of _ (by decide +kernel)) ggX7_descantIn_X7_refuses
set_option maxRecDepth 20000 in
theorem ggX7_descantIn_X7_held : GoodIn wsX7_descantIn wsX7_held := goodIn_r _ [18, 2, 19, 20, 21, 6, 22, 103, 104, 105, 106, 107, 108, 109, 110, 111, 112, 113, 114, 115, 116, 117, 118] (by decide +kernel) (by decide +kernel)
set_option maxRecDepth 20000 in
theorem gX7_descantIn_X7_held : GoodIn wsX7_descantIn (wsV RX7 136 RX7 yX7_held wsX7_held) := goodIn_app (goodIn_of _ (by decide +kernel)) ggX7_descantIn_X7_held
set_option maxRecDepth 20000 in
theorem ggX7_descantIn_X7_descantToCome_q1 : GoodIn wsX7_descantIn ([Cond.code yX7_descantToCome cX7_descantToCome 5 (some .int)]) := goodIn_r _ [26] (by decide +kernel) (by decide +kernel)
set_option maxRecDepth 20000 in
theorem ggX7_descantIn_X7_descantToCome_q2 : GoodIn wsX7_descantIn (wsX7_descantToCome_r1) := goodIn_r _ [2, 27, 28, 29, 30, 6, 31, 32, 33, 34, 35, 19, 20, 21, 22, 36, 37, 38, 39, 40, 41, 42, 43, 44] (by decide +kernel) (by decide +kernel)
set_option maxRecDepth 20000 in
theorem ggX7_descantIn_X7_descantToCome_q3 : GoodIn wsX7_descantIn (wsX7_descantToCome_r2) := goodIn_r _ [45, 46, 47, 48, 49, 50, 51, 52, 53, 54, 55, 56, 57, 58, 59, 60, 61, 62, 63, 64, 65, 66, 67, 68] (by decide +kernel) (by decide +kernel)
set_option maxRecDepth 20000 in
theorem ggX7_descantIn_X7_descantToCome_q4 : GoodIn wsX7_descantIn (wsX7_descantToCome_r3) := goodIn_r _ [69, 70, 71, 72, 73, 74, 8, 9, 10, 75, 76, 77, 78, 79, 80, 81, 82, 83, 84, 85, 86, 87, 88, 89] (by decide +kernel) (by decide +kernel)
set_option maxRecDepth 20000 in
theorem ggX7_descantIn_X7_descantToCome_q5 : GoodIn wsX7_descantIn (wsX7_descantToCome_r4) := goodIn_r _ [90, 91, 92, 93, 94, 95, 96, 97, 98, 99, 100, 101, 102] (by decide +kernel) (by decide +kernel)
set_option maxRecDepth 20000 in
theorem ggX7_descantIn_X7_descantToCome_q6 : GoodIn wsX7_descantIn (wsX70) := goodIn_r _ [103, 104, 105, 106, 107, 108, 109, 110, 111, 112, 113, 114, 115, 116, 117, 118] (by decide +kernel) (by decide +kernel)
theorem ggX7_descantIn_X7_descantToCome : GoodIn wsX7_descantIn wsX7_descantToCome := (goodIn_app (a := [Cond.code yX7_descantToCome cX7_descantToCome 5 (some .int)]) ggX7_descantIn_X7_descantToCome_q1 (goodIn_app (goodIn_app ggX7_descantIn_X7_descantToCome_q2 (goodIn_app ggX7_descantIn_X7_descantToCome_q3 (goodIn_app ggX7_descantIn_X7_descantToCome_q4 ggX7_descantIn_X7_descantToCome_q5))) ggX7_descantIn_X7_descantToCome_q6))
set_option maxRecDepth 20000 in
theorem gX7_descantIn_X7_descantToCome : GoodIn wsX7_descantIn (wsV RX7 272 RX7 yX7_descantToCome wsX7_descantToCome) := goodIn_app (goodIn_of _ (by decide +kernel)) ggX7_descantIn_X7_descantToCome
theorem dX7_descantIn_0 : decode cX7_descantIn 0 = .ok (.aload_n 0, 1) := by decide +kernel
theorem dX7_descantIn_1 : decode cX7_descantIn 1 = .ok (.iconst 0, 1) := by decide +kernel
theorem dX7_descantIn_2 : decode cX7_descantIn 2 = .ok (.putfield 40, 3) := by decide +kernel
theorem dX7_descantIn_5 : decode cX7_descantIn 5 = .ok (.aload_n 0, 1) := by decide +kernel
theorem dX7_descantIn_6 : decode cX7_descantIn 6 = .ok (.iload_n 1, 1) := by decide +kernel
theorem dX7_descantIn_7 : decode cX7_descantIn 7 = .ok (.invokevirtual 197, 3) := by decide +kernel
theorem dX7_descantIn_10 : decode cX7_descantIn 10 = .ok (.ifCond .ne 9, 3) := by decide +kernel
theorem dX7_descantIn_13 : decode cX7_descantIn 13 = .ok (.aload_n 0, 1) := by decide +kernel
theorem dX7_descantIn_14 : decode cX7_descantIn 14 = .ok (.iconst 1, 1) := by decide +kernel
theorem dX7_descantIn_15 : decode cX7_descantIn 15 = .ok (.invokevirtual 154, 3) := by decide +kernel
theorem dX7_descantIn_18 : decode cX7_descantIn 18 = .ok (.ireturn, 1) := by decide +kernel
theorem dX7_descantIn_19 : decode cX7_descantIn 19 = .ok (.aload_n 0, 1) := by decide +kernel
theorem dX7_descantIn_20 : decode cX7_descantIn 20 = .ok (.iload_n 1, 1) := by decide +kernel
theorem dX7_descantIn_21 : decode cX7_descantIn 21 = .ok (.invokevirtual 136, 3) := by decide +kernel
theorem dX7_descantIn_24 : decode cX7_descantIn 24 = .ok (.ifCond .eq 22, 3) := by decide +kernel
theorem dX7_descantIn_27 : decode cX7_descantIn 27 = .ok (.aload_n 0, 1) := by decide +kernel
theorem dX7_descantIn_28 : decode cX7_descantIn 28 = .ok (.getfield 7, 3) := by decide +kernel
theorem dX7_descantIn_31 : decode cX7_descantIn 31 = .ok (.sipush 583, 3) := by decide +kernel
theorem dX7_descantIn_34 : decode cX7_descantIn 34 = .ok (.bipush 45, 2) := by decide +kernel
theorem dX7_descantIn_36 : decode cX7_descantIn 36 = .ok (.iload_n 1, 1) := by decide +kernel
theorem dX7_descantIn_37 : decode cX7_descantIn 37 = .ok (.imul, 1) := by decide +kernel
theorem dX7_descantIn_38 : decode cX7_descantIn 38 = .ok (.iadd, 1) := by decide +kernel
theorem dX7_descantIn_39 : decode cX7_descantIn 39 = .ok (.bipush 14, 2) := by decide +kernel
theorem dX7_descantIn_41 : decode cX7_descantIn 41 = .ok (.iadd, 1) := by decide +kernel
theorem dX7_descantIn_42 : decode cX7_descantIn 42 = .ok (.iaload, 1) := by decide +kernel
theorem dX7_descantIn_43 : decode cX7_descantIn 43 = .ok (.goto 8, 3) := by decide +kernel
theorem dX7_descantIn_46 : decode cX7_descantIn 46 = .ok (.aload_n 0, 1) := by decide +kernel
theorem dX7_descantIn_47 : decode cX7_descantIn 47 = .ok (.iload_n 1, 1) := by decide +kernel
theorem dX7_descantIn_48 : decode cX7_descantIn 48 = .ok (.invokevirtual 272, 3) := by decide +kernel
theorem dX7_descantIn_51 : decode cX7_descantIn 51 = .ok (.ireturn, 1) := by decide +kernel
set_option maxRecDepth 20000 in
theorem ggX7_ahead_X7_tells_q1 : GoodIn wsX7_ahead ([Cond.code yX7_tells cX7_tells 4 (some .int)]) := goodIn_r _ [7] (by decide +kernel) (by decide +kernel)
set_option maxRecDepth 20000 in
theorem ggX7_ahead_X7_tells_q2 : GoodIn wsX7_ahead (wsX7_tells_r1) := goodIn_r _ [1, 2, 8, 9, 10, 6, 11, 12, 13, 14, 15, 16, 17, 18, 19, 20, 21, 22, 23, 24, 25, 26, 27, 28] (by decide +kernel) (by decide +kernel)
set_option maxRecDepth 20000 in
theorem ggX7_ahead_X7_tells_q3 : GoodIn wsX7_ahead (wsX7_tells_r2) := goodIn_r _ [29, 30, 31, 32, 33, 34, 35, 36, 37, 38, 39, 40, 41, 42, 43, 44, 45, 46, 47, 48, 49, 50, 51, 52] (by decide +kernel) (by decide +kernel)
set_option maxRecDepth 20000 in
theorem ggX7_ahead_X7_tells_q4 : GoodIn wsX7_ahead (wsX7_tells_r3) := goodIn_r _ [53, 54, 55, 56, 57, 58, 59, 60, 61, 62, 63, 64, 65, 66, 67, 68, 69, 70, 71, 72, 73, 74, 75, 76] (by decide +kernel) (by decide +kernel)
set_option maxRecDepth 20000 in
theorem ggX7_ahead_X7_tells_q5 : GoodIn wsX7_ahead (wsX70) := goodIn_r _ [77, 78, 79, 80, 81, 82, 83, 84, 85, 86, 87, 88, 89, 90, 91, 92] (by decide +kernel) (by decide +kernel)
theorem ggX7_ahead_X7_tells : GoodIn wsX7_ahead wsX7_tells := (goodIn_app (a := [Cond.code yX7_tells cX7_tells 4 (some .int)]) ggX7_ahead_X7_tells_q1 (goodIn_app (goodIn_app ggX7_ahead_X7_tells_q2 (goodIn_app ggX7_ahead_X7_tells_q3 ggX7_ahead_X7_tells_q4)) ggX7_ahead_X7_tells_q5))
set_option maxRecDepth 20000 in
theorem gX7_ahead_X7_tells : GoodIn wsX7_ahead (wsV RX7 257 RX7 yX7_tells wsX7_tells) := goodIn_app (goodIn_of _ (by decide +kernel)) ggX7_ahead_X7_tells
set_option maxRecDepth 20000 in
theorem ggX7_ahead_X7_its : GoodIn wsX7_ahead wsX7_its := goodIn_r _ [45, 2, 77, 78, 79, 80, 81, 82, 83, 84, 85, 86, 87, 88, 89, 90, 91, 92] (by decide +kernel) (by decide +kernel)
set_option maxRecDepth 20000 in
theorem gX7_ahead_X7_its : GoodIn wsX7_ahead (wsV RX7 70 RX7 yX7_its wsX7_its) := goodIn_app (goodIn_of _ (by decide +kernel)) ggX7_ahead_X7_its
theorem dX7_ahead_0 : decode cX7_ahead 0 = .ok (.aload_n 0, 1) := by decide +kernel
theorem dX7_ahead_1 : decode cX7_ahead 1 = .ok (.iload_n 1, 1) := by decide +kernel
theorem dX7_ahead_2 : decode cX7_ahead 2 = .ok (.invokevirtual 257, 3) := by decide +kernel
theorem dX7_ahead_5 : decode cX7_ahead 5 = .ok (.ifCond .lt 13, 3) := by decide +kernel
theorem dX7_ahead_8 : decode cX7_ahead 8 = .ok (.aload_n 0, 1) := by decide +kernel
theorem dX7_ahead_9 : decode cX7_ahead 9 = .ok (.getfield 22, 3) := by decide +kernel
theorem dX7_ahead_12 : decode cX7_ahead 12 = .ok (.iload_n 2, 1) := by decide +kernel
theorem dX7_ahead_13 : decode cX7_ahead 13 = .ok (.iaload, 1) := by decide +kernel
theorem dX7_ahead_14 : decode cX7_ahead 14 = .ok (.iconst (-1), 1) := by decide +kernel
theorem dX7_ahead_15 : decode cX7_ahead 15 = .ok (.if_icmp .ne 5, 3) := by decide +kernel
theorem dX7_ahead_18 : decode cX7_ahead 18 = .ok (.iconst (-1), 1) := by decide +kernel
theorem dX7_ahead_19 : decode cX7_ahead 19 = .ok (.ireturn, 1) := by decide +kernel
theorem dX7_ahead_20 : decode cX7_ahead 20 = .ok (.iconst 0, 1) := by decide +kernel
theorem dX7_ahead_21 : decode cX7_ahead 21 = .ok (.istore_n 3, 1) := by decide +kernel
theorem dX7_ahead_22 : decode cX7_ahead 22 = .ok (.iconst 0, 1) := by decide +kernel
theorem dX7_ahead_23 : decode cX7_ahead 23 = .ok (.istore 4, 2) := by decide +kernel
theorem dX7_ahead_25 : decode cX7_ahead 25 = .ok (.iload 4, 2) := by decide +kernel
theorem dX7_ahead_27 : decode cX7_ahead 27 = .ok (.aload_n 0, 1) := by decide +kernel
theorem dX7_ahead_28 : decode cX7_ahead 28 = .ok (.getfield 7, 3) := by decide +kernel
theorem dX7_ahead_31 : decode cX7_ahead 31 = .ok (.iconst 1, 1) := by decide +kernel
theorem dX7_ahead_32 : decode cX7_ahead 32 = .ok (.iaload, 1) := by decide +kernel
theorem dX7_ahead_33 : decode cX7_ahead 33 = .ok (.if_icmp .ge 65, 3) := by decide +kernel
theorem dX7_ahead_36 : decode cX7_ahead 36 = .ok (.aload_n 0, 1) := by decide +kernel
theorem dX7_ahead_37 : decode cX7_ahead 37 = .ok (.iload_n 2, 1) := by decide +kernel
theorem dX7_ahead_38 : decode cX7_ahead 38 = .ok (.iconst 3, 1) := by decide +kernel
theorem dX7_ahead_39 : decode cX7_ahead 39 = .ok (.invokevirtual 70, 3) := by decide +kernel
theorem dX7_ahead_42 : decode cX7_ahead 42 = .ok (.aload_n 0, 1) := by decide +kernel
theorem dX7_ahead_43 : decode cX7_ahead 43 = .ok (.iload 4, 2) := by decide +kernel
theorem dX7_ahead_45 : decode cX7_ahead 45 = .ok (.iconst 3, 1) := by decide +kernel
theorem dX7_ahead_46 : decode cX7_ahead 46 = .ok (.invokevirtual 70, 3) := by decide +kernel
theorem dX7_ahead_49 : decode cX7_ahead 49 = .ok (.isub, 1) := by decide +kernel
theorem dX7_ahead_50 : decode cX7_ahead 50 = .ok (.istore 5, 2) := by decide +kernel
theorem dX7_ahead_52 : decode cX7_ahead 52 = .ok (.iload_n 3, 1) := by decide +kernel
theorem dX7_ahead_53 : decode cX7_ahead 53 = .ok (.aload_n 0, 1) := by decide +kernel
theorem dX7_ahead_54 : decode cX7_ahead 54 = .ok (.getfield 22, 3) := by decide +kernel
theorem dX7_ahead_57 : decode cX7_ahead 57 = .ok (.iload 4, 2) := by decide +kernel
theorem dX7_ahead_59 : decode cX7_ahead 59 = .ok (.iaload, 1) := by decide +kernel
theorem dX7_ahead_60 : decode cX7_ahead 60 = .ok (.aload_n 0, 1) := by decide +kernel
theorem dX7_ahead_61 : decode cX7_ahead 61 = .ok (.getfield 22, 3) := by decide +kernel
theorem dX7_ahead_64 : decode cX7_ahead 64 = .ok (.iload_n 2, 1) := by decide +kernel
theorem dX7_ahead_65 : decode cX7_ahead 65 = .ok (.iaload, 1) := by decide +kernel
theorem dX7_ahead_66 : decode cX7_ahead 66 = .ok (.if_icmp .ne 23, 3) := by decide +kernel
theorem dX7_ahead_69 : decode cX7_ahead 69 = .ok (.iload 5, 2) := by decide +kernel
theorem dX7_ahead_71 : decode cX7_ahead 71 = .ok (.ifCond .gt 14, 3) := by decide +kernel
theorem dX7_ahead_74 : decode cX7_ahead 74 = .ok (.iload 5, 2) := by decide +kernel
theorem dX7_ahead_76 : decode cX7_ahead 76 = .ok (.ifCond .ne 13, 3) := by decide +kernel
theorem dX7_ahead_79 : decode cX7_ahead 79 = .ok (.iload 4, 2) := by decide +kernel
theorem dX7_ahead_81 : decode cX7_ahead 81 = .ok (.iload_n 2, 1) := by decide +kernel
theorem dX7_ahead_82 : decode cX7_ahead 82 = .ok (.if_icmp .ge 7, 3) := by decide +kernel
theorem dX7_ahead_85 : decode cX7_ahead 85 = .ok (.iconst 1, 1) := by decide +kernel
theorem dX7_ahead_86 : decode cX7_ahead 86 = .ok (.goto 4, 3) := by decide +kernel
theorem dX7_ahead_89 : decode cX7_ahead 89 = .ok (.iconst 0, 1) := by decide +kernel
theorem dX7_ahead_90 : decode cX7_ahead 90 = .ok (.iadd, 1) := by decide +kernel
theorem dX7_ahead_91 : decode cX7_ahead 91 = .ok (.istore_n 3, 1) := by decide +kernel
theorem dX7_ahead_92 : decode cX7_ahead 92 = .ok (.iinc 4 1, 3) := by decide +kernel
theorem dX7_ahead_95 : decode cX7_ahead 95 = .ok (.goto (-70), 3) := by decide +kernel
theorem dX7_ahead_98 : decode cX7_ahead 98 = .ok (.iload_n 3, 1) := by decide +kernel
theorem dX7_ahead_99 : decode cX7_ahead 99 = .ok (.ireturn, 1) := by decide +kernel
set_option maxRecDepth 20000 in
theorem ggX7_pewOf_X7_isFeast : GoodIn wsX7_pewOf wsX7_isFeast := goodIn_r _ [6, 7, 8, 9, 5, 10, 94, 95, 96, 97, 98, 99, 100, 101, 102, 103, 104, 105, 106, 107, 108, 109] (by decide +kernel) (by decide +kernel)
set_option maxRecDepth 20000 in
theorem gX7_pewOf_X7_isFeast : GoodIn wsX7_pewOf (wsV RX7 197 RX7 yX7_isFeast wsX7_isFeast) := goodIn_app (goodIn_of _ (by decide +kernel)) ggX7_pewOf_X7_isFeast
set_option maxRecDepth 20000 in
theorem ggX7_pewOf_X7_isSinger : GoodIn wsX7_pewOf wsX7_isSinger := goodIn_r _ [14, 7, 8, 9, 5, 10, 94, 95, 96, 97, 98, 99, 100, 101, 102, 103, 104, 105, 106, 107, 108, 109] (by decide +kernel) (by decide +kernel)
set_option maxRecDepth 20000 in
theorem gX7_pewOf_X7_isSinger : GoodIn wsX7_pewOf (wsV RX7 164 RX7 yX7_isSinger wsX7_isSinger) := goodIn_app (goodIn_of _ (by decide +kernel)) ggX7_pewOf_X7_isSinger
set_option maxRecDepth 20000 in
theorem ggX7_pewOf_X7_refuses : GoodIn wsX7_pewOf wsX7_refuses := goodIn_r _ [18, 1, 94, 95, 96, 97, 98, 99, 100, 101, 102, 103, 104, 105, 106, 107, 108, 109] (by decide +kernel) (by decide +kernel)
set_option maxRecDepth 20000 in
theorem gX7_pewOf_X7_refuses : GoodIn wsX7_pewOf (wsV RX7 154 RX7 yX7_refuses wsX7_refuses) := goodIn_app (goodIn_of _ (by decide +kernel)) ggX7_pewOf_X7_refuses
set_option maxRecDepth 20000 in
theorem ggX7_pewOf_X7_ahead_q1 : GoodIn wsX7_pewOf ([Cond.code yX7_ahead cX7_ahead 6 (some .int)]) := goodIn_r _ [22] (by decide +kernel) (by decide +kernel)
set_option maxRecDepth 20000 in
theorem ggX7_pewOf_X7_ahead_q2 : GoodIn wsX7_pewOf (wsX7_ahead_r1) := goodIn_r _ [23, 7, 24, 25, 26, 5, 27, 28, 29, 30, 31, 32, 33, 34, 35, 36, 37, 38, 39, 40, 41, 42, 43, 44] (by decide +kernel) (by decide +kernel)
set_option maxRecDepth 20000 in
theorem ggX7_pewOf_X7_ahead_q3 : GoodIn wsX7_pewOf (wsX7_ahead_r2) := goodIn_r _ [45, 46, 47, 48, 49, 50, 51, 52, 53, 54, 55, 56, 57, 58, 59, 60, 61, 62, 63, 64, 65, 66, 67, 68] (by decide +kernel) (by decide +kernel)
set_option maxRecDepth 20000 in
theorem ggX7_pewOf_X7_ahead_q4 : GoodIn wsX7_pewOf (wsX7_ahead_r3) := goodIn_r _ [69, 70, 71, 72, 73, 8, 9, 10, 74, 75, 76, 77, 78, 79, 80, 81, 82, 83, 84, 85, 86, 87, 88, 89] (by decide +kernel) (by decide +kernel)
set_option maxRecDepth 20000 in
theorem ggX7_pewOf_X7_ahead_q5 : GoodIn wsX7_pewOf (wsX7_ahead_r4) := goodIn_r _ [90, 91, 92, 93] (by decide +kernel) (by decide +kernel)
set_option maxRecDepth 20000 in
theorem ggX7_pewOf_X7_ahead_q6 : GoodIn wsX7_pewOf (wsX70) := goodIn_r _ [94, 95, 96, 97, 98, 99, 100, 101, 102, 103, 104, 105, 106, 107, 108, 109] (by decide +kernel) (by decide +kernel)
theorem ggX7_pewOf_X7_ahead : GoodIn wsX7_pewOf wsX7_ahead := (goodIn_app (a := [Cond.code yX7_ahead cX7_ahead 6 (some .int)]) ggX7_pewOf_X7_ahead_q1 (goodIn_app (goodIn_app ggX7_pewOf_X7_ahead_q2 (goodIn_app ggX7_pewOf_X7_ahead_q3 (goodIn_app ggX7_pewOf_X7_ahead_q4 ggX7_pewOf_X7_ahead_q5))) ggX7_pewOf_X7_ahead_q6))
set_option maxRecDepth 20000 in
theorem gX7_pewOf_X7_ahead : GoodIn wsX7_pewOf (wsV RX7 275 RX7 yX7_ahead wsX7_ahead) := goodIn_app (goodIn_of _ (by decide +kernel)) ggX7_pewOf_X7_ahead
theorem dX7_pewOf_0 : decode cX7_pewOf 0 = .ok (.aload_n 0, 1) := by decide +kernel
theorem dX7_pewOf_1 : decode cX7_pewOf 1 = .ok (.iconst 0, 1) := by decide +kernel
theorem dX7_pewOf_2 : decode cX7_pewOf 2 = .ok (.putfield 40, 3) := by decide +kernel
theorem dX7_pewOf_5 : decode cX7_pewOf 5 = .ok (.aload_n 0, 1) := by decide +kernel
theorem dX7_pewOf_6 : decode cX7_pewOf 6 = .ok (.iload_n 1, 1) := by decide +kernel
theorem dX7_pewOf_7 : decode cX7_pewOf 7 = .ok (.invokevirtual 197, 3) := by decide +kernel
theorem dX7_pewOf_10 : decode cX7_pewOf 10 = .ok (.ifCond .eq 11, 3) := by decide +kernel
theorem dX7_pewOf_13 : decode cX7_pewOf 13 = .ok (.aload_n 0, 1) := by decide +kernel
theorem dX7_pewOf_14 : decode cX7_pewOf 14 = .ok (.iload_n 2, 1) := by decide +kernel
theorem dX7_pewOf_15 : decode cX7_pewOf 15 = .ok (.invokevirtual 164, 3) := by decide +kernel
theorem dX7_pewOf_18 : decode cX7_pewOf 18 = .ok (.ifCond .ne 9, 3) := by decide +kernel
theorem dX7_pewOf_21 : decode cX7_pewOf 21 = .ok (.aload_n 0, 1) := by decide +kernel
theorem dX7_pewOf_22 : decode cX7_pewOf 22 = .ok (.iconst 1, 1) := by decide +kernel
theorem dX7_pewOf_23 : decode cX7_pewOf 23 = .ok (.invokevirtual 154, 3) := by decide +kernel
theorem dX7_pewOf_26 : decode cX7_pewOf 26 = .ok (.ireturn, 1) := by decide +kernel
theorem dX7_pewOf_27 : decode cX7_pewOf 27 = .ok (.aload_n 0, 1) := by decide +kernel
theorem dX7_pewOf_28 : decode cX7_pewOf 28 = .ok (.iload_n 1, 1) := by decide +kernel
theorem dX7_pewOf_29 : decode cX7_pewOf 29 = .ok (.iload_n 2, 1) := by decide +kernel
theorem dX7_pewOf_30 : decode cX7_pewOf 30 = .ok (.invokevirtual 275, 3) := by decide +kernel
theorem dX7_pewOf_33 : decode cX7_pewOf 33 = .ok (.istore_n 3, 1) := by decide +kernel
theorem dX7_pewOf_34 : decode cX7_pewOf 34 = .ok (.iload_n 3, 1) := by decide +kernel
theorem dX7_pewOf_35 : decode cX7_pewOf 35 = .ok (.iconst (-1), 1) := by decide +kernel
theorem dX7_pewOf_36 : decode cX7_pewOf 36 = .ok (.if_icmp .ne 7, 3) := by decide +kernel
theorem dX7_pewOf_39 : decode cX7_pewOf 39 = .ok (.iconst (-1), 1) := by decide +kernel
theorem dX7_pewOf_40 : decode cX7_pewOf 40 = .ok (.goto 6, 3) := by decide +kernel
theorem dX7_pewOf_43 : decode cX7_pewOf 43 = .ok (.iload_n 3, 1) := by decide +kernel
theorem dX7_pewOf_44 : decode cX7_pewOf 44 = .ok (.iconst 2, 1) := by decide +kernel
theorem dX7_pewOf_45 : decode cX7_pewOf 45 = .ok (.idiv, 1) := by decide +kernel
theorem dX7_pewOf_46 : decode cX7_pewOf 46 = .ok (.ireturn, 1) := by decide +kernel
set_option maxRecDepth 20000 in
theorem ggX7_seatOf_X7_isFeast : GoodIn wsX7_seatOf wsX7_isFeast := goodIn_r _ [6, 7, 8, 9, 5, 10, 94, 95, 96, 97, 98, 99, 100, 101, 102, 103, 104, 105, 106, 107, 108, 109] (by decide +kernel) (by decide +kernel)
set_option maxRecDepth 20000 in
theorem gX7_seatOf_X7_isFeast : GoodIn wsX7_seatOf (wsV RX7 197 RX7 yX7_isFeast wsX7_isFeast) := goodIn_app (goodIn_of _ (by decide +kernel)) ggX7_seatOf_X7_isFeast
set_option maxRecDepth 20000 in
theorem ggX7_seatOf_X7_isSinger : GoodIn wsX7_seatOf wsX7_isSinger := goodIn_r _ [14, 7, 8, 9, 5, 10, 94, 95, 96, 97, 98, 99, 100, 101, 102, 103, 104, 105, 106, 107, 108, 109] (by decide +kernel) (by decide +kernel)
set_option maxRecDepth 20000 in
theorem gX7_seatOf_X7_isSinger : GoodIn wsX7_seatOf (wsV RX7 164 RX7 yX7_isSinger wsX7_isSinger) := goodIn_app (goodIn_of _ (by decide +kernel)) ggX7_seatOf_X7_isSinger
set_option maxRecDepth 20000 in
theorem ggX7_seatOf_X7_refuses : GoodIn wsX7_seatOf wsX7_refuses := goodIn_r _ [18, 1, 94, 95, 96, 97, 98, 99, 100, 101, 102, 103, 104, 105, 106, 107, 108, 109] (by decide +kernel) (by decide +kernel)
set_option maxRecDepth 20000 in
theorem gX7_seatOf_X7_refuses : GoodIn wsX7_seatOf (wsV RX7 154 RX7 yX7_refuses wsX7_refuses) := goodIn_app (goodIn_of _ (by decide +kernel)) ggX7_seatOf_X7_refuses
set_option maxRecDepth 20000 in
theorem ggX7_seatOf_X7_ahead_q1 : GoodIn wsX7_seatOf ([Cond.code yX7_ahead cX7_ahead 6 (some .int)]) := goodIn_r _ [22] (by decide +kernel) (by decide +kernel)
set_option maxRecDepth 20000 in
theorem ggX7_seatOf_X7_ahead_q2 : GoodIn wsX7_seatOf (wsX7_ahead_r1) := goodIn_r _ [23, 7, 24, 25, 26, 5, 27, 28, 29, 30, 31, 32, 33, 34, 35, 36, 37, 38, 39, 40, 41, 42, 43, 44] (by decide +kernel) (by decide +kernel)
set_option maxRecDepth 20000 in
theorem ggX7_seatOf_X7_ahead_q3 : GoodIn wsX7_seatOf (wsX7_ahead_r2) := goodIn_r _ [45, 46, 47, 48, 49, 50, 51, 52, 53, 54, 55, 56, 57, 58, 59, 60, 61, 62, 63, 64, 65, 66, 67, 68] (by decide +kernel) (by decide +kernel)
set_option maxRecDepth 20000 in
theorem ggX7_seatOf_X7_ahead_q4 : GoodIn wsX7_seatOf (wsX7_ahead_r3) := goodIn_r _ [69, 70, 71, 72, 73, 8, 9, 10, 74, 75, 76, 77, 78, 79, 80, 81, 82, 83, 84, 85, 86, 87, 88, 89] (by decide +kernel) (by decide +kernel)
set_option maxRecDepth 20000 in
theorem ggX7_seatOf_X7_ahead_q5 : GoodIn wsX7_seatOf (wsX7_ahead_r4) := goodIn_r _ [90, 91, 92, 93] (by decide +kernel) (by decide +kernel)
set_option maxRecDepth 20000 in
theorem ggX7_seatOf_X7_ahead_q6 : GoodIn wsX7_seatOf (wsX70) := goodIn_r _ [94, 95, 96, 97, 98, 99, 100, 101, 102, 103, 104, 105, 106, 107, 108, 109] (by decide +kernel) (by decide +kernel)
theorem ggX7_seatOf_X7_ahead : GoodIn wsX7_seatOf wsX7_ahead := (goodIn_app (a := [Cond.code yX7_ahead cX7_ahead 6 (some .int)]) ggX7_seatOf_X7_ahead_q1 (goodIn_app (goodIn_app ggX7_seatOf_X7_ahead_q2 (goodIn_app ggX7_seatOf_X7_ahead_q3 (goodIn_app ggX7_seatOf_X7_ahead_q4 ggX7_seatOf_X7_ahead_q5))) ggX7_seatOf_X7_ahead_q6))
set_option maxRecDepth 20000 in
theorem gX7_seatOf_X7_ahead : GoodIn wsX7_seatOf (wsV RX7 275 RX7 yX7_ahead wsX7_ahead) := goodIn_app (goodIn_of _ (by decide +kernel)) ggX7_seatOf_X7_ahead
theorem dX7_seatOf_0 : decode cX7_seatOf 0 = .ok (.aload_n 0, 1) := by decide +kernel
theorem dX7_seatOf_1 : decode cX7_seatOf 1 = .ok (.iconst 0, 1) := by decide +kernel
theorem dX7_seatOf_2 : decode cX7_seatOf 2 = .ok (.putfield 40, 3) := by decide +kernel
theorem dX7_seatOf_5 : decode cX7_seatOf 5 = .ok (.aload_n 0, 1) := by decide +kernel
theorem dX7_seatOf_6 : decode cX7_seatOf 6 = .ok (.iload_n 1, 1) := by decide +kernel
theorem dX7_seatOf_7 : decode cX7_seatOf 7 = .ok (.invokevirtual 197, 3) := by decide +kernel
theorem dX7_seatOf_10 : decode cX7_seatOf 10 = .ok (.ifCond .eq 11, 3) := by decide +kernel
theorem dX7_seatOf_13 : decode cX7_seatOf 13 = .ok (.aload_n 0, 1) := by decide +kernel
theorem dX7_seatOf_14 : decode cX7_seatOf 14 = .ok (.iload_n 2, 1) := by decide +kernel
theorem dX7_seatOf_15 : decode cX7_seatOf 15 = .ok (.invokevirtual 164, 3) := by decide +kernel
theorem dX7_seatOf_18 : decode cX7_seatOf 18 = .ok (.ifCond .ne 9, 3) := by decide +kernel
theorem dX7_seatOf_21 : decode cX7_seatOf 21 = .ok (.aload_n 0, 1) := by decide +kernel
theorem dX7_seatOf_22 : decode cX7_seatOf 22 = .ok (.iconst 1, 1) := by decide +kernel
theorem dX7_seatOf_23 : decode cX7_seatOf 23 = .ok (.invokevirtual 154, 3) := by decide +kernel
theorem dX7_seatOf_26 : decode cX7_seatOf 26 = .ok (.ireturn, 1) := by decide +kernel
theorem dX7_seatOf_27 : decode cX7_seatOf 27 = .ok (.aload_n 0, 1) := by decide +kernel
theorem dX7_seatOf_28 : decode cX7_seatOf 28 = .ok (.iload_n 1, 1) := by decide +kernel
theorem dX7_seatOf_29 : decode cX7_seatOf 29 = .ok (.iload_n 2, 1) := by decide +kernel
theorem dX7_seatOf_30 : decode cX7_seatOf 30 = .ok (.invokevirtual 275, 3) := by decide +kernel
theorem dX7_seatOf_33 : decode cX7_seatOf 33 = .ok (.istore_n 3, 1) := by decide +kernel
theorem dX7_seatOf_34 : decode cX7_seatOf 34 = .ok (.iload_n 3, 1) := by decide +kernel
theorem dX7_seatOf_35 : decode cX7_seatOf 35 = .ok (.iconst (-1), 1) := by decide +kernel
theorem dX7_seatOf_36 : decode cX7_seatOf 36 = .ok (.if_icmp .ne 7, 3) := by decide +kernel
theorem dX7_seatOf_39 : decode cX7_seatOf 39 = .ok (.iconst (-1), 1) := by decide +kernel
theorem dX7_seatOf_40 : decode cX7_seatOf 40 = .ok (.goto 6, 3) := by decide +kernel
theorem dX7_seatOf_43 : decode cX7_seatOf 43 = .ok (.iload_n 3, 1) := by decide +kernel
theorem dX7_seatOf_44 : decode cX7_seatOf 44 = .ok (.iconst 2, 1) := by decide +kernel
theorem dX7_seatOf_45 : decode cX7_seatOf 45 = .ok (.irem, 1) := by decide +kernel
theorem dX7_seatOf_46 : decode cX7_seatOf 46 = .ok (.ireturn, 1) := by decide +kernel
set_option maxRecDepth 20000 in
theorem ggX7_firstShortFeast_X7_nextFeast : GoodIn wsX7_firstShortFeast wsX7_nextFeast := goodIn_r _ [7, 2, 8, 9, 10, 6, 11, 77, 78, 79, 80, 81, 82, 83, 84, 85, 86, 87, 88, 89, 90, 91, 92] (by decide +kernel) (by decide +kernel)
set_option maxRecDepth 20000 in
theorem gX7_firstShortFeast_X7_nextFeast : GoodIn wsX7_firstShortFeast (wsV RX7 127 RX7 yX7_nextFeast wsX7_nextFeast) := goodIn_app (goodIn_of _ (by decide +kernel)) ggX7_firstShortFeast_X7_nextFeast
set_option maxRecDepth 20000 in
theorem ggX7_firstShortFeast_X7_missing_q1 : GoodIn wsX7_firstShortFeast ([Cond.code yX7_missing cX7_missing 2 (some .int)]) := goodIn_r _ [15] (by decide +kernel) (by decide +kernel)
set_option maxRecDepth 20000 in
theorem ggX7_firstShortFeast_X7_missing_q2 : GoodIn wsX7_firstShortFeast (wsX7_missing_r1) := goodIn_r _ [16, 17, 18, 6, 19, 20, 21, 2, 22, 23, 24, 25, 26, 27, 28, 29, 30, 31, 32, 33, 8, 9, 10, 11] (by decide +kernel) (by decide +kernel)
set_option maxRecDepth 20000 in
theorem ggX7_firstShortFeast_X7_missing_q3 : GoodIn wsX7_firstShortFeast (wsX7_missing_r2) := goodIn_r _ [34, 35, 36, 37, 38, 39, 40, 41, 42, 43, 44, 45, 46, 47, 48, 49, 50, 51, 52, 53, 54, 55, 56, 57] (by decide +kernel) (by decide +kernel)
set_option maxRecDepth 20000 in
theorem ggX7_firstShortFeast_X7_missing_q4 : GoodIn wsX7_firstShortFeast (wsX7_missing_r3) := goodIn_r _ [58, 59, 60, 61, 62, 63, 64, 65, 66, 67, 68, 69, 70, 71, 72, 73, 74, 75, 76] (by decide +kernel) (by decide +kernel)
set_option maxRecDepth 20000 in
theorem ggX7_firstShortFeast_X7_missing_q5 : GoodIn wsX7_firstShortFeast (wsX70) := goodIn_r _ [77, 78, 79, 80, 81, 82, 83, 84, 85, 86, 87, 88, 89, 90, 91, 92] (by decide +kernel) (by decide +kernel)
theorem ggX7_firstShortFeast_X7_missing : GoodIn wsX7_firstShortFeast wsX7_missing := (goodIn_app (a := [Cond.code yX7_missing cX7_missing 2 (some .int)]) ggX7_firstShortFeast_X7_missing_q1 (goodIn_app (goodIn_app ggX7_firstShortFeast_X7_missing_q2 (goodIn_app ggX7_firstShortFeast_X7_missing_q3 ggX7_firstShortFeast_X7_missing_q4)) ggX7_firstShortFeast_X7_missing_q5))
set_option maxRecDepth 20000 in
theorem gX7_firstShortFeast_X7_missing : GoodIn wsX7_firstShortFeast (wsV RX7 266 RX7 yX7_missing wsX7_missing) := goodIn_app (goodIn_of _ (by decide +kernel)) ggX7_firstShortFeast_X7_missing
set_option maxRecDepth 20000 in
theorem ggX7_firstShortFeast_X7_dayAt : GoodIn wsX7_firstShortFeast wsX7_dayAt := goodIn_r _ [11, 2, 77, 78, 79, 80, 81, 82, 83, 84, 85, 86, 87, 88, 89, 90, 91, 92] (by decide +kernel) (by decide +kernel)
set_option maxRecDepth 20000 in
theorem gX7_firstShortFeast_X7_dayAt : GoodIn wsX7_firstShortFeast (wsV RX7 86 RX7 yX7_dayAt wsX7_dayAt) := goodIn_app (goodIn_of _ (by decide +kernel)) ggX7_firstShortFeast_X7_dayAt
theorem dX7_firstShortFeast_0 : decode cX7_firstShortFeast 0 = .ok (.aload_n 0, 1) := by decide +kernel
theorem dX7_firstShortFeast_1 : decode cX7_firstShortFeast 1 = .ok (.iconst 0, 1) := by decide +kernel
theorem dX7_firstShortFeast_2 : decode cX7_firstShortFeast 2 = .ok (.putfield 40, 3) := by decide +kernel
theorem dX7_firstShortFeast_5 : decode cX7_firstShortFeast 5 = .ok (.aload_n 0, 1) := by decide +kernel
theorem dX7_firstShortFeast_6 : decode cX7_firstShortFeast 6 = .ok (.aload_n 0, 1) := by decide +kernel
theorem dX7_firstShortFeast_7 : decode cX7_firstShortFeast 7 = .ok (.getfield 7, 3) := by decide +kernel
theorem dX7_firstShortFeast_10 : decode cX7_firstShortFeast 10 = .ok (.iconst 0, 1) := by decide +kernel
theorem dX7_firstShortFeast_11 : decode cX7_firstShortFeast 11 = .ok (.iaload, 1) := by decide +kernel
theorem dX7_firstShortFeast_12 : decode cX7_firstShortFeast 12 = .ok (.invokevirtual 127, 3) := by decide +kernel
theorem dX7_firstShortFeast_15 : decode cX7_firstShortFeast 15 = .ok (.istore_n 1, 1) := by decide +kernel
theorem dX7_firstShortFeast_16 : decode cX7_firstShortFeast 16 = .ok (.iload_n 1, 1) := by decide +kernel
theorem dX7_firstShortFeast_17 : decode cX7_firstShortFeast 17 = .ok (.iconst (-1), 1) := by decide +kernel
theorem dX7_firstShortFeast_18 : decode cX7_firstShortFeast 18 = .ok (.if_icmp .eq 24, 3) := by decide +kernel
theorem dX7_firstShortFeast_21 : decode cX7_firstShortFeast 21 = .ok (.aload_n 0, 1) := by decide +kernel
theorem dX7_firstShortFeast_22 : decode cX7_firstShortFeast 22 = .ok (.iload_n 1, 1) := by decide +kernel
theorem dX7_firstShortFeast_23 : decode cX7_firstShortFeast 23 = .ok (.invokevirtual 266, 3) := by decide +kernel
theorem dX7_firstShortFeast_26 : decode cX7_firstShortFeast 26 = .ok (.ifCond .ne 16, 3) := by decide +kernel
theorem dX7_firstShortFeast_29 : decode cX7_firstShortFeast 29 = .ok (.aload_n 0, 1) := by decide +kernel
theorem dX7_firstShortFeast_30 : decode cX7_firstShortFeast 30 = .ok (.aload_n 0, 1) := by decide +kernel
theorem dX7_firstShortFeast_31 : decode cX7_firstShortFeast 31 = .ok (.iload_n 1, 1) := by decide +kernel
theorem dX7_firstShortFeast_32 : decode cX7_firstShortFeast 32 = .ok (.invokevirtual 86, 3) := by decide +kernel
theorem dX7_firstShortFeast_35 : decode cX7_firstShortFeast 35 = .ok (.invokevirtual 127, 3) := by decide +kernel
theorem dX7_firstShortFeast_38 : decode cX7_firstShortFeast 38 = .ok (.istore_n 1, 1) := by decide +kernel
theorem dX7_firstShortFeast_39 : decode cX7_firstShortFeast 39 = .ok (.goto (-23), 3) := by decide +kernel
theorem dX7_firstShortFeast_42 : decode cX7_firstShortFeast 42 = .ok (.iload_n 1, 1) := by decide +kernel
theorem dX7_firstShortFeast_43 : decode cX7_firstShortFeast 43 = .ok (.ireturn, 1) := by decide +kernel
set_option maxRecDepth 20000 in
theorem ggX7_favoursOf_X7_isChoir : GoodIn wsX7_favoursOf wsX7_isChoir := goodIn_r _ [6, 7, 8, 5, 9] (by decide +kernel) (by decide +kernel)
set_option maxRecDepth 20000 in
theorem gX7_favoursOf_X7_isChoir : GoodIn wsX7_favoursOf (va_wsS RX7 170 yX7_isChoir wsX7_isChoir) := goodIn_app (goodIn_of _ (by decide +kernel)) ggX7_favoursOf_X7_isChoir
set_option maxRecDepth 20000 in
theorem ggX7_favoursOf_X7_refuses : GoodIn wsX7_favoursOf wsX7_refuses := goodIn_r _ [13, 1, 14, 15, 16, 17, 18, 19, 20, 21, 22, 23, 24, 25, 26, 27, 28, 29] (by decide +kernel) (by decide +kernel)
set_option maxRecDepth 20000 in
theorem gX7_favoursOf_X7_refuses : GoodIn wsX7_favoursOf (wsV RX7 154 RX7 yX7_refuses wsX7_refuses) := goodIn_app (goodIn_of _ (by decide +kernel)) ggX7_favoursOf_X7_refuses
theorem dX7_favoursOf_0 : decode cX7_favoursOf 0 = .ok (.aload_n 0, 1) := by decide +kernel
theorem dX7_favoursOf_1 : decode cX7_favoursOf 1 = .ok (.iconst 0, 1) := by decide +kernel
theorem dX7_favoursOf_2 : decode cX7_favoursOf 2 = .ok (.putfield 40, 3) := by decide +kernel
theorem dX7_favoursOf_5 : decode cX7_favoursOf 5 = .ok (.iload_n 1, 1) := by decide +kernel
theorem dX7_favoursOf_6 : decode cX7_favoursOf 6 = .ok (.invokestatic 170, 3) := by decide +kernel
theorem dX7_favoursOf_9 : decode cX7_favoursOf 9 = .ok (.ifCond .eq 15, 3) := by decide +kernel
theorem dX7_favoursOf_12 : decode cX7_favoursOf 12 = .ok (.aload_n 0, 1) := by decide +kernel
theorem dX7_favoursOf_13 : decode cX7_favoursOf 13 = .ok (.getfield 7, 3) := by decide +kernel
theorem dX7_favoursOf_16 : decode cX7_favoursOf 16 = .ok (.bipush 8, 2) := by decide +kernel
theorem dX7_favoursOf_18 : decode cX7_favoursOf 18 = .ok (.iload_n 1, 1) := by decide +kernel
theorem dX7_favoursOf_19 : decode cX7_favoursOf 19 = .ok (.iadd, 1) := by decide +kernel
theorem dX7_favoursOf_20 : decode cX7_favoursOf 20 = .ok (.iaload, 1) := by decide +kernel
theorem dX7_favoursOf_21 : decode cX7_favoursOf 21 = .ok (.goto 8, 3) := by decide +kernel
theorem dX7_favoursOf_24 : decode cX7_favoursOf 24 = .ok (.aload_n 0, 1) := by decide +kernel
theorem dX7_favoursOf_25 : decode cX7_favoursOf 25 = .ok (.iconst 1, 1) := by decide +kernel
theorem dX7_favoursOf_26 : decode cX7_favoursOf 26 = .ok (.invokevirtual 154, 3) := by decide +kernel
theorem dX7_favoursOf_29 : decode cX7_favoursOf 29 = .ok (.ireturn, 1) := by decide +kernel
theorem dX7_coins_0 : decode cX7_coins 0 = .ok (.bipush 50, 2) := by decide +kernel
theorem dX7_coins_2 : decode cX7_coins 2 = .ok (.aload_n 0, 1) := by decide +kernel
theorem dX7_coins_3 : decode cX7_coins 3 = .ok (.getfield 7, 3) := by decide +kernel
theorem dX7_coins_6 : decode cX7_coins 6 = .ok (.iconst 4, 1) := by decide +kernel
theorem dX7_coins_7 : decode cX7_coins 7 = .ok (.iaload, 1) := by decide +kernel
theorem dX7_coins_8 : decode cX7_coins 8 = .ok (.iadd, 1) := by decide +kernel
theorem dX7_coins_9 : decode cX7_coins 9 = .ok (.aload_n 0, 1) := by decide +kernel
theorem dX7_coins_10 : decode cX7_coins 10 = .ok (.getfield 7, 3) := by decide +kernel
theorem dX7_coins_13 : decode cX7_coins 13 = .ok (.iconst 5, 1) := by decide +kernel
theorem dX7_coins_14 : decode cX7_coins 14 = .ok (.iaload, 1) := by decide +kernel
theorem dX7_coins_15 : decode cX7_coins 15 = .ok (.iadd, 1) := by decide +kernel
theorem dX7_coins_16 : decode cX7_coins 16 = .ok (.aload_n 0, 1) := by decide +kernel
theorem dX7_coins_17 : decode cX7_coins 17 = .ok (.getfield 7, 3) := by decide +kernel
theorem dX7_coins_20 : decode cX7_coins 20 = .ok (.bipush 6, 2) := by decide +kernel
theorem dX7_coins_22 : decode cX7_coins 22 = .ok (.iaload, 1) := by decide +kernel
theorem dX7_coins_23 : decode cX7_coins 23 = .ok (.isub, 1) := by decide +kernel
theorem dX7_coins_24 : decode cX7_coins 24 = .ok (.aload_n 0, 1) := by decide +kernel
theorem dX7_coins_25 : decode cX7_coins 25 = .ok (.getfield 7, 3) := by decide +kernel
theorem dX7_coins_28 : decode cX7_coins 28 = .ok (.bipush 7, 2) := by decide +kernel
theorem dX7_coins_30 : decode cX7_coins 30 = .ok (.iaload, 1) := by decide +kernel
theorem dX7_coins_31 : decode cX7_coins 31 = .ok (.isub, 1) := by decide +kernel
theorem dX7_coins_32 : decode cX7_coins 32 = .ok (.ireturn, 1) := by decide +kernel
set_option maxRecDepth 20000 in
theorem ggX7_purse_X7_coins : GoodIn wsX7_purse wsX7_coins := goodIn_r _ [6, 7, 8, 9, 10, 11, 12, 13, 14, 15, 16, 17, 18, 19, 20, 21, 22, 23] (by decide +kernel) (by decide +kernel)
set_option maxRecDepth 20000 in
theorem gX7_purse_X7_coins : GoodIn wsX7_purse (wsV RX7 278 RX7 yX7_coins wsX7_coins) := goodIn_app (goodIn_of _ (by decide +kernel)) ggX7_purse_X7_coins
theorem dX7_purse_0 : decode cX7_purse 0 = .ok (.aload_n 0, 1) := by decide +kernel
theorem dX7_purse_1 : decode cX7_purse 1 = .ok (.iconst 0, 1) := by decide +kernel
theorem dX7_purse_2 : decode cX7_purse 2 = .ok (.putfield 40, 3) := by decide +kernel
theorem dX7_purse_5 : decode cX7_purse 5 = .ok (.aload_n 0, 1) := by decide +kernel
theorem dX7_purse_6 : decode cX7_purse 6 = .ok (.invokevirtual 278, 3) := by decide +kernel
theorem dX7_purse_9 : decode cX7_purse 9 = .ok (.ireturn, 1) := by decide +kernel
set_option maxRecDepth 20000 in
theorem ggX7_purseByAccounts_X7_coins : GoodIn wsX7_purseByAccounts wsX7_coins := goodIn_r _ [6, 7, 8, 9, 10, 11, 12, 13, 14, 15, 16, 17, 18, 19, 20, 21, 22, 23] (by decide +kernel) (by decide +kernel)
set_option maxRecDepth 20000 in
theorem gX7_purseByAccounts_X7_coins : GoodIn wsX7_purseByAccounts (wsV RX7 278 RX7 yX7_coins wsX7_coins) := goodIn_app (goodIn_of _ (by decide +kernel)) ggX7_purseByAccounts_X7_coins
theorem dX7_purseByAccounts_0 : decode cX7_purseByAccounts 0 = .ok (.aload_n 0, 1) := by decide +kernel
theorem dX7_purseByAccounts_1 : decode cX7_purseByAccounts 1 = .ok (.iconst 0, 1) := by decide +kernel
theorem dX7_purseByAccounts_2 : decode cX7_purseByAccounts 2 = .ok (.putfield 40, 3) := by decide +kernel
theorem dX7_purseByAccounts_5 : decode cX7_purseByAccounts 5 = .ok (.aload_n 0, 1) := by decide +kernel
theorem dX7_purseByAccounts_6 : decode cX7_purseByAccounts 6 = .ok (.invokevirtual 278, 3) := by decide +kernel
theorem dX7_purseByAccounts_9 : decode cX7_purseByAccounts 9 = .ok (.ireturn, 1) := by decide +kernel
theorem dX7_collected_0 : decode cX7_collected 0 = .ok (.aload_n 0, 1) := by decide +kernel
theorem dX7_collected_1 : decode cX7_collected 1 = .ok (.iconst 0, 1) := by decide +kernel
theorem dX7_collected_2 : decode cX7_collected 2 = .ok (.putfield 40, 3) := by decide +kernel
theorem dX7_collected_5 : decode cX7_collected 5 = .ok (.aload_n 0, 1) := by decide +kernel
theorem dX7_collected_6 : decode cX7_collected 6 = .ok (.getfield 7, 3) := by decide +kernel
theorem dX7_collected_9 : decode cX7_collected 9 = .ok (.iconst 4, 1) := by decide +kernel
theorem dX7_collected_10 : decode cX7_collected 10 = .ok (.iaload, 1) := by decide +kernel
theorem dX7_collected_11 : decode cX7_collected 11 = .ok (.ireturn, 1) := by decide +kernel
theorem dX7_fees_0 : decode cX7_fees 0 = .ok (.aload_n 0, 1) := by decide +kernel
theorem dX7_fees_1 : decode cX7_fees 1 = .ok (.iconst 0, 1) := by decide +kernel
theorem dX7_fees_2 : decode cX7_fees 2 = .ok (.putfield 40, 3) := by decide +kernel
theorem dX7_fees_5 : decode cX7_fees 5 = .ok (.aload_n 0, 1) := by decide +kernel
theorem dX7_fees_6 : decode cX7_fees 6 = .ok (.getfield 7, 3) := by decide +kernel
theorem dX7_fees_9 : decode cX7_fees 9 = .ok (.bipush 6, 2) := by decide +kernel
theorem dX7_fees_11 : decode cX7_fees 11 = .ok (.iaload, 1) := by decide +kernel
theorem dX7_fees_12 : decode cX7_fees 12 = .ok (.ireturn, 1) := by decide +kernel
theorem dX7_fines_0 : decode cX7_fines 0 = .ok (.aload_n 0, 1) := by decide +kernel
theorem dX7_fines_1 : decode cX7_fines 1 = .ok (.iconst 0, 1) := by decide +kernel
theorem dX7_fines_2 : decode cX7_fines 2 = .ok (.putfield 40, 3) := by decide +kernel
theorem dX7_fines_5 : decode cX7_fines 5 = .ok (.aload_n 0, 1) := by decide +kernel
theorem dX7_fines_6 : decode cX7_fines 6 = .ok (.getfield 7, 3) := by decide +kernel
theorem dX7_fines_9 : decode cX7_fines 9 = .ok (.bipush 7, 2) := by decide +kernel
theorem dX7_fines_11 : decode cX7_fines 11 = .ok (.iaload, 1) := by decide +kernel
theorem dX7_fines_12 : decode cX7_fines 12 = .ok (.ireturn, 1) := by decide +kernel
theorem dX7_day_0 : decode cX7_day 0 = .ok (.aload_n 0, 1) := by decide +kernel
theorem dX7_day_1 : decode cX7_day 1 = .ok (.iconst 0, 1) := by decide +kernel
theorem dX7_day_2 : decode cX7_day 2 = .ok (.putfield 40, 3) := by decide +kernel
theorem dX7_day_5 : decode cX7_day 5 = .ok (.aload_n 0, 1) := by decide +kernel
theorem dX7_day_6 : decode cX7_day 6 = .ok (.getfield 7, 3) := by decide +kernel
theorem dX7_day_9 : decode cX7_day 9 = .ok (.iconst 0, 1) := by decide +kernel
theorem dX7_day_10 : decode cX7_day 10 = .ok (.iaload, 1) := by decide +kernel
theorem dX7_day_11 : decode cX7_day 11 = .ok (.ireturn, 1) := by decide +kernel
theorem dX7_recordedStates_0 : decode cX7_recordedStates 0 = .ok (.aload_n 0, 1) := by decide +kernel
theorem dX7_recordedStates_1 : decode cX7_recordedStates 1 = .ok (.iconst 0, 1) := by decide +kernel
theorem dX7_recordedStates_2 : decode cX7_recordedStates 2 = .ok (.putfield 40, 3) := by decide +kernel
theorem dX7_recordedStates_5 : decode cX7_recordedStates 5 = .ok (.aload_n 0, 1) := by decide +kernel
theorem dX7_recordedStates_6 : decode cX7_recordedStates 6 = .ok (.getfield 44, 3) := by decide +kernel
theorem dX7_recordedStates_9 : decode cX7_recordedStates 9 = .ok (.ireturn, 1) := by decide +kernel
theorem dJ11_isValidCodePoint_9a6ad_0 : decode cJ11_isValidCodePoint_9a6ad 0 = .ok (.iload_n 0, 1) := by decide +kernel
theorem dJ11_isValidCodePoint_9a6ad_1 : decode cJ11_isValidCodePoint_9a6ad 1 = .ok (.bipush 16, 2) := by decide +kernel
theorem dJ11_isValidCodePoint_9a6ad_3 : decode cJ11_isValidCodePoint_9a6ad 3 = .ok (.iushr, 1) := by decide +kernel
theorem dJ11_isValidCodePoint_9a6ad_4 : decode cJ11_isValidCodePoint_9a6ad 4 = .ok (.istore_n 1, 1) := by decide +kernel
theorem dJ11_isValidCodePoint_9a6ad_5 : decode cJ11_isValidCodePoint_9a6ad 5 = .ok (.iload_n 1, 1) := by decide +kernel
theorem dJ11_isValidCodePoint_9a6ad_6 : decode cJ11_isValidCodePoint_9a6ad 6 = .ok (.bipush 17, 2) := by decide +kernel
theorem dJ11_isValidCodePoint_9a6ad_8 : decode cJ11_isValidCodePoint_9a6ad 8 = .ok (.if_icmp .ge 7, 3) := by decide +kernel
theorem dJ11_isValidCodePoint_9a6ad_11 : decode cJ11_isValidCodePoint_9a6ad 11 = .ok (.iconst 1, 1) := by decide +kernel
theorem dJ11_isValidCodePoint_9a6ad_12 : decode cJ11_isValidCodePoint_9a6ad 12 = .ok (.goto 4, 3) := by decide +kernel
theorem dJ11_isValidCodePoint_9a6ad_15 : decode cJ11_isValidCodePoint_9a6ad 15 = .ok (.iconst 0, 1) := by decide +kernel
theorem dJ11_isValidCodePoint_9a6ad_16 : decode cJ11_isValidCodePoint_9a6ad 16 = .ok (.ireturn, 1) := by decide +kernel
theorem dJ11_highSurrogate_5068e_0 : decode cJ11_highSurrogate_5068e 0 = .ok (.iload_n 0, 1) := by decide +kernel
theorem dJ11_highSurrogate_5068e_1 : decode cJ11_highSurrogate_5068e 1 = .ok (.bipush 10, 2) := by decide +kernel
theorem dJ11_highSurrogate_5068e_3 : decode cJ11_highSurrogate_5068e 3 = .ok (.iushr, 1) := by decide +kernel
theorem dJ11_highSurrogate_5068e_4 : decode cJ11_highSurrogate_5068e 4 = .ok (.ldc 110, 2) := by decide +kernel
theorem dJ11_highSurrogate_5068e_6 : decode cJ11_highSurrogate_5068e 6 = .ok (.iadd, 1) := by decide +kernel
theorem dJ11_highSurrogate_5068e_7 : decode cJ11_highSurrogate_5068e 7 = .ok (.i2c, 1) := by decide +kernel
theorem dJ11_highSurrogate_5068e_8 : decode cJ11_highSurrogate_5068e 8 = .ok (.ireturn, 1) := by decide +kernel
theorem dJ11_lowSurrogate_5068e_0 : decode cJ11_lowSurrogate_5068e 0 = .ok (.iload_n 0, 1) := by decide +kernel
theorem dJ11_lowSurrogate_5068e_1 : decode cJ11_lowSurrogate_5068e 1 = .ok (.sipush 1023, 3) := by decide +kernel
theorem dJ11_lowSurrogate_5068e_4 : decode cJ11_lowSurrogate_5068e 4 = .ok (.iand, 1) := by decide +kernel
theorem dJ11_lowSurrogate_5068e_5 : decode cJ11_lowSurrogate_5068e 5 = .ok (.ldc 76, 2) := by decide +kernel
theorem dJ11_lowSurrogate_5068e_7 : decode cJ11_lowSurrogate_5068e 7 = .ok (.iadd, 1) := by decide +kernel
theorem dJ11_lowSurrogate_5068e_8 : decode cJ11_lowSurrogate_5068e 8 = .ok (.i2c, 1) := by decide +kernel
theorem dJ11_lowSurrogate_5068e_9 : decode cJ11_lowSurrogate_5068e 9 = .ok (.ireturn, 1) := by decide +kernel
theorem dJ9_max_7cf53_0 : decode cJ9_max_7cf53 0 = .ok (.iload_n 0, 1) := by decide +kernel
theorem dJ9_max_7cf53_1 : decode cJ9_max_7cf53 1 = .ok (.iload_n 1, 1) := by decide +kernel
theorem dJ9_max_7cf53_2 : decode cJ9_max_7cf53 2 = .ok (.if_icmp .lt 7, 3) := by decide +kernel
theorem dJ9_max_7cf53_5 : decode cJ9_max_7cf53 5 = .ok (.iload_n 0, 1) := by decide +kernel
theorem dJ9_max_7cf53_6 : decode cJ9_max_7cf53 6 = .ok (.goto 4, 3) := by decide +kernel
theorem dJ9_max_7cf53_9 : decode cJ9_max_7cf53 9 = .ok (.iload_n 1, 1) := by decide +kernel
theorem dJ9_max_7cf53_10 : decode cJ9_max_7cf53 10 = .ok (.ireturn, 1) := by decide +kernel
theorem dJ9_min_7cf53_0 : decode cJ9_min_7cf53 0 = .ok (.iload_n 0, 1) := by decide +kernel
theorem dJ9_min_7cf53_1 : decode cJ9_min_7cf53 1 = .ok (.iload_n 1, 1) := by decide +kernel
theorem dJ9_min_7cf53_2 : decode cJ9_min_7cf53 2 = .ok (.if_icmp .gt 7, 3) := by decide +kernel
theorem dJ9_min_7cf53_5 : decode cJ9_min_7cf53 5 = .ok (.iload_n 0, 1) := by decide +kernel
theorem dJ9_min_7cf53_6 : decode cJ9_min_7cf53 6 = .ok (.goto 4, 3) := by decide +kernel
theorem dJ9_min_7cf53_9 : decode cJ9_min_7cf53 9 = .ok (.iload_n 1, 1) := by decide +kernel
theorem dJ9_min_7cf53_10 : decode cJ9_min_7cf53 10 = .ok (.ireturn, 1) := by decide +kernel
set_option maxRecDepth 20000 in
theorem ggJ0_length_8abf5_J0_coder_7d493 : GoodIn wsJ0_length_8abf5 wsJ0_coder_7d493 := goodIn_r _ [6, 7, 8] (by decide +kernel) (by decide +kernel)
set_option maxRecDepth 20000 in
theorem gJ0_length_8abf5_J0_coder_7d493 : GoodIn wsJ0_length_8abf5 (wsV RJ0 335 RJ0 yJ0_coder_7d493 wsJ0_coder_7d493) := goodIn_app (goodIn_of _ (by decide +kernel)) ggJ0_length_8abf5_J0_coder_7d493
theorem dJ0_length_8abf5_0 : decode cJ0_length_8abf5 0 = .ok (.aload_n 0, 1) := by decide +kernel
theorem dJ0_length_8abf5_1 : decode cJ0_length_8abf5 1 = .ok (.getfield 9, 3) := by decide +kernel
theorem dJ0_length_8abf5_4 : decode cJ0_length_8abf5 4 = .ok (.arraylength, 1) := by decide +kernel
theorem dJ0_length_8abf5_5 : decode cJ0_length_8abf5 5 = .ok (.aload_n 0, 1) := by decide +kernel
theorem dJ0_length_8abf5_6 : decode cJ0_length_8abf5 6 = .ok (.invokevirtual 335, 3) := by decide +kernel
theorem dJ0_length_8abf5_9 : decode cJ0_length_8abf5 9 = .ok (.ishr, 1) := by decide +kernel
theorem dJ0_length_8abf5_10 : decode cJ0_length_8abf5 10 = .ok (.ireturn, 1) := by decide +kernel
set_option maxRecDepth 20000 in
theorem ggJ0_charAt_5068e_J0_isLatin1_aae02 : GoodIn wsJ0_charAt_5068e wsJ0_isLatin1_aae02 := goodIn_r _ [6, 7, 8] (by decide +kernel) (by decide +kernel)
set_option maxRecDepth 20000 in
theorem gJ0_charAt_5068e_J0_isLatin1_aae02 : GoodIn wsJ0_charAt_5068e (wsV RJ0 492 RJ0 yJ0_isLatin1_aae02 wsJ0_isLatin1_aae02) := goodIn_app (goodIn_of _ (by decide +kernel)) ggJ0_charAt_5068e_J0_isLatin1_aae02
set_option maxRecDepth 20000 in
theorem ggJ0_charAt_5068e_J1_charAt_3b067 : GoodIn wsJ0_charAt_5068e wsJ1_charAt_3b067 := goodIn_r _ [12, 13, 14, 5, 15, 16, 17, 18, 19, 20] (by decide +kernel) (by decide +kernel)
set_option maxRecDepth 20000 in
theorem gJ0_charAt_5068e_J1_charAt_3b067 : GoodIn wsJ0_charAt_5068e (va_wsS RJ0 495 yJ1_charAt_3b067 wsJ1_charAt_3b067) := goodIn_app (goodIn_of _ (by decide +kernel)) ggJ0_charAt_5068e_J1_charAt_3b067
set_option maxRecDepth 20000 in
theorem ggJ0_charAt_5068e_J2_charAt_3b067 : GoodIn wsJ0_charAt_5068e wsJ2_charAt_3b067 := goodIn_r _ [24, 25, 26, 23, 27, 28, 29, 30, 31, 14, 5, 15, 16, 17, 18, 19, 20, 32, 33, 34, 35, 36, 37] (by decide +kernel) (by decide +kernel)
set_option maxRecDepth 20000 in
theorem gJ0_charAt_5068e_J2_charAt_3b067 : GoodIn wsJ0_charAt_5068e (va_wsS RJ0 498 yJ2_charAt_3b067 wsJ2_charAt_3b067) := goodIn_app (goodIn_of _ (by decide +kernel)) ggJ0_charAt_5068e_J2_charAt_3b067
theorem dJ0_charAt_5068e_0 : decode cJ0_charAt_5068e 0 = .ok (.aload_n 0, 1) := by decide +kernel
theorem dJ0_charAt_5068e_1 : decode cJ0_charAt_5068e 1 = .ok (.invokevirtual 492, 3) := by decide +kernel
theorem dJ0_charAt_5068e_4 : decode cJ0_charAt_5068e 4 = .ok (.ifCond .eq 12, 3) := by decide +kernel
theorem dJ0_charAt_5068e_7 : decode cJ0_charAt_5068e 7 = .ok (.aload_n 0, 1) := by decide +kernel
theorem dJ0_charAt_5068e_8 : decode cJ0_charAt_5068e 8 = .ok (.getfield 9, 3) := by decide +kernel
theorem dJ0_charAt_5068e_11 : decode cJ0_charAt_5068e 11 = .ok (.iload_n 1, 1) := by decide +kernel
theorem dJ0_charAt_5068e_12 : decode cJ0_charAt_5068e 12 = .ok (.invokestatic 495, 3) := by decide +kernel
theorem dJ0_charAt_5068e_15 : decode cJ0_charAt_5068e 15 = .ok (.ireturn, 1) := by decide +kernel
theorem dJ0_charAt_5068e_16 : decode cJ0_charAt_5068e 16 = .ok (.aload_n 0, 1) := by decide +kernel
theorem dJ0_charAt_5068e_17 : decode cJ0_charAt_5068e 17 = .ok (.getfield 9, 3) := by decide +kernel
theorem dJ0_charAt_5068e_20 : decode cJ0_charAt_5068e 20 = .ok (.iload_n 1, 1) := by decide +kernel
theorem dJ0_charAt_5068e_21 : decode cJ0_charAt_5068e 21 = .ok (.invokestatic 498, 3) := by decide +kernel
theorem dJ0_charAt_5068e_24 : decode cJ0_charAt_5068e 24 = .ok (.ireturn, 1) := by decide +kernel
set_option maxRecDepth 20000 in
theorem ggJ0_indexOf_0f7a4_J0_indexOf_7cf53_q1 : GoodIn wsJ0_indexOf_0f7a4 ([Cond.code yJ0_indexOf_7cf53 cJ0_indexOf_7cf53 3 (some .int)]) := goodIn_r _ [5] (by decide +kernel) (by decide +kernel)
set_option maxRecDepth 20000 in
theorem ggJ0_indexOf_0f7a4_J0_indexOf_7cf53_q2 : GoodIn wsJ0_indexOf_0f7a4 (wsJ0_indexOf_7cf53_r1) := goodIn_r _ [6, 7, 8, 9, 4, 10, 11, 12, 13, 14, 15, 16, 17, 18, 19, 20, 21, 22, 23, 24, 25, 26, 27, 28] (by decide +kernel) (by decide +kernel)
set_option maxRecDepth 20000 in
theorem ggJ0_indexOf_0f7a4_J0_indexOf_7cf53_q3 : GoodIn wsJ0_indexOf_0f7a4 (wsJ0_indexOf_7cf53_r2) := goodIn_r _ [29, 30, 31, 32, 33, 34, 35, 36, 37, 38, 39, 40, 41, 42, 43, 44, 45, 46, 47, 48, 49, 50, 51, 52] (by decide +kernel) (by decide +kernel)
set_option maxRecDepth 20000 in
theorem ggJ0_indexOf_0f7a4_J0_indexOf_7cf53_q4 : GoodIn wsJ0_indexOf_0f7a4 (wsJ0_indexOf_7cf53_r3) := goodIn_r _ [53, 54, 55, 56, 57, 58, 59, 60, 61, 62, 63, 64, 65, 66, 67, 68, 69, 70, 71, 72, 73, 74, 75, 76] (by decide +kernel) (by decide +kernel)
set_option maxRecDepth 20000 in
theorem ggJ0_indexOf_0f7a4_J0_indexOf_7cf53_q5 : GoodIn wsJ0_indexOf_0f7a4 (wsJ0_indexOf_7cf53_r4) := goodIn_r _ [77, 78, 79, 80, 81, 82, 83, 84, 85] (by decide +kernel) (by decide +kernel)
theorem ggJ0_indexOf_0f7a4_J0_indexOf_7cf53 : GoodIn wsJ0_indexOf_0f7a4 wsJ0_indexOf_7cf53 := (goodIn_app (a := [Cond.code yJ0_indexOf_7cf53 cJ0_indexOf_7cf53 3 (some .int)]) ggJ0_indexOf_0f7a4_J0_indexOf_7cf53_q1 (goodIn_app ggJ0_indexOf_0f7a4_J0_indexOf_7cf53_q2 (goodIn_app ggJ0_indexOf_0f7a4_J0_indexOf_7cf53_q3 (goodIn_app ggJ0_indexOf_0f7a4_J0_indexOf_7cf53_q4 ggJ0_indexOf_0f7a4_J0_indexOf_7cf53_q5))))
set_option maxRecDepth 20000 in
theorem gJ0_indexOf_0f7a4_J0_indexOf_7cf53 : GoodIn wsJ0_indexOf_0f7a4 (wsV RJ0 633 RJ0 yJ0_indexOf_7cf53 wsJ0_indexOf_7cf53) := goodIn_app (goodIn_of _ (by decide +kernel)) ggJ0_indexOf_0f7a4_J0_indexOf_7cf53
theorem dJ0_indexOf_0f7a4_0 : decode cJ0_indexOf_0f7a4 0 = .ok (.aload_n 0, 1) := by decide +kernel
theorem dJ0_indexOf_0f7a4_1 : decode cJ0_indexOf_0f7a4 1 = .ok (.iload_n 1, 1) := by decide +kernel
theorem dJ0_indexOf_0f7a4_2 : decode cJ0_indexOf_0f7a4 2 = .ok (.iconst 0, 1) := by decide +kernel
theorem dJ0_indexOf_0f7a4_3 : decode cJ0_indexOf_0f7a4 3 = .ok (.invokevirtual 633, 3) := by decide +kernel
theorem dJ0_indexOf_0f7a4_6 : decode cJ0_indexOf_0f7a4 6 = .ok (.ireturn, 1) := by decide +kernel
set_option maxRecDepth 20000 in
theorem ggJ0_indexOf_7cf53_J0_isLatin1_aae02 : GoodIn wsJ0_indexOf_7cf53 wsJ0_isLatin1_aae02 := goodIn_r _ [6, 7, 8] (by decide +kernel) (by decide +kernel)
set_option maxRecDepth 20000 in
theorem gJ0_indexOf_7cf53_J0_isLatin1_aae02 : GoodIn wsJ0_indexOf_7cf53 (wsV RJ0 492 RJ0 yJ0_isLatin1_aae02 wsJ0_isLatin1_aae02) := goodIn_app (goodIn_of _ (by decide +kernel)) ggJ0_indexOf_7cf53_J0_isLatin1_aae02
set_option maxRecDepth 20000 in
theorem ggJ0_indexOf_7cf53_J0_length_8abf5 : GoodIn wsJ0_indexOf_7cf53 wsJ0_length_8abf5 := goodIn_r _ [12, 1, 13, 14, 15, 5, 16, 7, 8] (by decide +kernel) (by decide +kernel)
set_option maxRecDepth 20000 in
theorem gJ0_indexOf_7cf53_J0_length_8abf5 : GoodIn wsJ0_indexOf_7cf53 (wsV RJ0 505 RJ0 yJ0_length_8abf5 wsJ0_length_8abf5) := goodIn_app (goodIn_of _ (by decide +kernel)) ggJ0_indexOf_7cf53_J0_length_8abf5
set_option maxRecDepth 20000 in
theorem ggJ0_indexOf_7cf53_J1_indexOf_4cfef : GoodIn wsJ0_indexOf_7cf53 wsJ1_indexOf_4cfef := goodIn_r _ [20, 21, 22, 23, 24, 25, 26, 27, 28, 29, 19, 30, 31, 32, 33] (by decide +kernel) (by decide +kernel)
set_option maxRecDepth 20000 in
theorem gJ0_indexOf_7cf53_J1_indexOf_4cfef : GoodIn wsJ0_indexOf_7cf53 (va_wsS RJ0 637 yJ1_indexOf_4cfef wsJ1_indexOf_4cfef) := goodIn_app (goodIn_of _ (by decide +kernel)) ggJ0_indexOf_7cf53_J1_indexOf_4cfef
set_option maxRecDepth 20000 in
theorem ggJ0_indexOf_7cf53_J2_indexOf_4cfef : GoodIn wsJ0_indexOf_7cf53 wsJ2_indexOf_4cfef := goodIn_r _ [37, 38, 22, 23, 24, 39, 26, 27, 40, 41, 42, 36, 43, 44, 45, 46, 47, 48, 49, 50, 51, 5, 52, 53, 54, 55, 56, 57, 58, 59, 60, 61, 62, 63, 64, 65, 66, 67, 68, 69, 70, 71, 72, 73, 74, 75, 76, 77, 78, 79, 80, 81] (by decide +kernel) (by decide +kernel)
set_option maxRecDepth 20000 in
theorem gJ0_indexOf_7cf53_J2_indexOf_4cfef : GoodIn wsJ0_indexOf_7cf53 (va_wsS RJ0 640 yJ2_indexOf_4cfef wsJ2_indexOf_4cfef) := goodIn_app (goodIn_of _ (by decide +kernel)) ggJ0_indexOf_7cf53_J2_indexOf_4cfef
theorem dJ0_indexOf_7cf53_0 : decode cJ0_indexOf_7cf53 0 = .ok (.aload_n 0, 1) := by decide +kernel
theorem dJ0_indexOf_7cf53_1 : decode cJ0_indexOf_7cf53 1 = .ok (.invokevirtual 492, 3) := by decide +kernel
theorem dJ0_indexOf_7cf53_4 : decode cJ0_indexOf_7cf53 4 = .ok (.ifCond .eq 19, 3) := by decide +kernel
theorem dJ0_indexOf_7cf53_7 : decode cJ0_indexOf_7cf53 7 = .ok (.aload_n 0, 1) := by decide +kernel
theorem dJ0_indexOf_7cf53_8 : decode cJ0_indexOf_7cf53 8 = .ok (.getfield 9, 3) := by decide +kernel
theorem dJ0_indexOf_7cf53_11 : decode cJ0_indexOf_7cf53 11 = .ok (.iload_n 1, 1) := by decide +kernel
theorem dJ0_indexOf_7cf53_12 : decode cJ0_indexOf_7cf53 12 = .ok (.iload_n 2, 1) := by decide +kernel
theorem dJ0_indexOf_7cf53_13 : decode cJ0_indexOf_7cf53 13 = .ok (.aload_n 0, 1) := by decide +kernel
theorem dJ0_indexOf_7cf53_14 : decode cJ0_indexOf_7cf53 14 = .ok (.invokevirtual 505, 3) := by decide +kernel
theorem dJ0_indexOf_7cf53_17 : decode cJ0_indexOf_7cf53 17 = .ok (.invokestatic 637, 3) := by decide +kernel
theorem dJ0_indexOf_7cf53_20 : decode cJ0_indexOf_7cf53 20 = .ok (.goto 16, 3) := by decide +kernel
theorem dJ0_indexOf_7cf53_23 : decode cJ0_indexOf_7cf53 23 = .ok (.aload_n 0, 1) := by decide +kernel
theorem dJ0_indexOf_7cf53_24 : decode cJ0_indexOf_7cf53 24 = .ok (.getfield 9, 3) := by decide +kernel
theorem dJ0_indexOf_7cf53_27 : decode cJ0_indexOf_7cf53 27 = .ok (.iload_n 1, 1) := by decide +kernel
theorem dJ0_indexOf_7cf53_28 : decode cJ0_indexOf_7cf53 28 = .ok (.iload_n 2, 1) := by decide +kernel
theorem dJ0_indexOf_7cf53_29 : decode cJ0_indexOf_7cf53 29 = .ok (.aload_n 0, 1) := by decide +kernel
theorem dJ0_indexOf_7cf53_30 : decode cJ0_indexOf_7cf53 30 = .ok (.invokevirtual 505, 3) := by decide +kernel
theorem dJ0_indexOf_7cf53_33 : decode cJ0_indexOf_7cf53 33 = .ok (.invokestatic 640, 3) := by decide +kernel
theorem dJ0_indexOf_7cf53_36 : decode cJ0_indexOf_7cf53 36 = .ok (.ireturn, 1) := by decide +kernel
theorem dJ0_coder_7d493_0 : decode cJ0_coder_7d493 0 = .ok (.getstatic 38, 3) := by decide +kernel
theorem dJ0_coder_7d493_3 : decode cJ0_coder_7d493 3 = .ok (.ifCond .eq 10, 3) := by decide +kernel
theorem dJ0_coder_7d493_6 : decode cJ0_coder_7d493 6 = .ok (.aload_n 0, 1) := by decide +kernel
theorem dJ0_coder_7d493_7 : decode cJ0_coder_7d493 7 = .ok (.getfield 15, 3) := by decide +kernel
theorem dJ0_coder_7d493_10 : decode cJ0_coder_7d493 10 = .ok (.goto 4, 3) := by decide +kernel
theorem dJ0_coder_7d493_13 : decode cJ0_coder_7d493 13 = .ok (.iconst 1, 1) := by decide +kernel
theorem dJ0_coder_7d493_14 : decode cJ0_coder_7d493 14 = .ok (.ireturn, 1) := by decide +kernel
theorem dJ0_isLatin1_aae02_0 : decode cJ0_isLatin1_aae02 0 = .ok (.getstatic 38, 3) := by decide +kernel
theorem dJ0_isLatin1_aae02_3 : decode cJ0_isLatin1_aae02 3 = .ok (.ifCond .eq 14, 3) := by decide +kernel
theorem dJ0_isLatin1_aae02_6 : decode cJ0_isLatin1_aae02 6 = .ok (.aload_n 0, 1) := by decide +kernel
theorem dJ0_isLatin1_aae02_7 : decode cJ0_isLatin1_aae02 7 = .ok (.getfield 15, 3) := by decide +kernel
theorem dJ0_isLatin1_aae02_10 : decode cJ0_isLatin1_aae02 10 = .ok (.ifCond .ne 7, 3) := by decide +kernel
theorem dJ0_isLatin1_aae02_13 : decode cJ0_isLatin1_aae02 13 = .ok (.iconst 1, 1) := by decide +kernel
theorem dJ0_isLatin1_aae02_14 : decode cJ0_isLatin1_aae02 14 = .ok (.goto 4, 3) := by decide +kernel
theorem dJ0_isLatin1_aae02_17 : decode cJ0_isLatin1_aae02 17 = .ok (.iconst 0, 1) := by decide +kernel
theorem dJ0_isLatin1_aae02_18 : decode cJ0_isLatin1_aae02 18 = .ok (.ireturn, 1) := by decide +kernel
set_option maxRecDepth 20000 in
theorem ggJ0_checkIndex_df160_J3_checkIndex_8e157 : GoodIn wsJ0_checkIndex_df160 wsJ3_checkIndex_8e157 := goodIn_r _ [5] (by decide +kernel) (by decide +kernel)
set_option maxRecDepth 20000 in
theorem gJ0_checkIndex_df160_J3_checkIndex_8e157 : GoodIn wsJ0_checkIndex_df160 (va_wsS RJ0 1059 yJ3_checkIndex_8e157 wsJ3_checkIndex_8e157) := goodIn_app (goodIn_of _ (by decide +kernel)) ggJ0_checkIndex_df160_J3_checkIndex_8e157
theorem dJ0_checkIndex_df160_0 : decode cJ0_checkIndex_df160 0 = .ok (.iload_n 0, 1) := by decide +kernel
theorem dJ0_checkIndex_df160_1 : decode cJ0_checkIndex_df160 1 = .ok (.iload_n 1, 1) := by decide +kernel
theorem dJ0_checkIndex_df160_2 : decode cJ0_checkIndex_df160 2 = .ok (.getstatic 1053, 3) := by decide +kernel
theorem dJ0_checkIndex_df160_5 : decode cJ0_checkIndex_df160 5 = .ok (.invokestatic 1059, 3) := by decide +kernel
theorem dJ0_checkIndex_df160_8 : decode cJ0_checkIndex_df160 8 = .ok (.pop, 1) := by decide +kernel
theorem dJ0_checkIndex_df160_9 : decode cJ0_checkIndex_df160 9 = .ok (.return_, 1) := by decide +kernel
set_option maxRecDepth 20000 in
theorem ggJ0_checkBoundsBeginEnd_23922_J3_checkFromToIndex_8c36e : GoodIn wsJ0_checkBoundsBeginEnd_23922 wsJ3_checkFromToIndex_8c36e := goodIn_r _ [5] (by decide +kernel) (by decide +kernel)
set_option maxRecDepth 20000 in
theorem gJ0_checkBoundsBeginEnd_23922_J3_checkFromToIndex_8c36e : GoodIn wsJ0_checkBoundsBeginEnd_23922 (va_wsS RJ0 1062 yJ3_checkFromToIndex_8c36e wsJ3_checkFromToIndex_8c36e) := goodIn_app (goodIn_of _ (by decide +kernel)) ggJ0_checkBoundsBeginEnd_23922_J3_checkFromToIndex_8c36e
theorem dJ0_checkBoundsBeginEnd_23922_0 : decode cJ0_checkBoundsBeginEnd_23922 0 = .ok (.iload_n 0, 1) := by decide +kernel
theorem dJ0_checkBoundsBeginEnd_23922_1 : decode cJ0_checkBoundsBeginEnd_23922 1 = .ok (.iload_n 1, 1) := by decide +kernel
theorem dJ0_checkBoundsBeginEnd_23922_2 : decode cJ0_checkBoundsBeginEnd_23922 2 = .ok (.iload_n 2, 1) := by decide +kernel
theorem dJ0_checkBoundsBeginEnd_23922_3 : decode cJ0_checkBoundsBeginEnd_23922 3 = .ok (.getstatic 1053, 3) := by decide +kernel
theorem dJ0_checkBoundsBeginEnd_23922_6 : decode cJ0_checkBoundsBeginEnd_23922 6 = .ok (.invokestatic 1062, 3) := by decide +kernel
theorem dJ0_checkBoundsBeginEnd_23922_9 : decode cJ0_checkBoundsBeginEnd_23922 9 = .ok (.pop, 1) := by decide +kernel
theorem dJ0_checkBoundsBeginEnd_23922_10 : decode cJ0_checkBoundsBeginEnd_23922 10 = .ok (.return_, 1) := by decide +kernel
set_option maxRecDepth 20000 in
theorem ggJ1_charAt_3b067_J0_checkIndex_df160 : GoodIn wsJ1_charAt_3b067 wsJ0_checkIndex_df160 := goodIn_r _ [4, 5, 6, 7, 8, 9] (by decide +kernel) (by decide +kernel)
set_option maxRecDepth 20000 in
theorem gJ1_charAt_3b067_J0_checkIndex_df160 : GoodIn wsJ1_charAt_3b067 (va_wsS RJ1 9 yJ0_checkIndex_df160 wsJ0_checkIndex_df160) := goodIn_app (goodIn_of _ (by decide +kernel)) ggJ1_charAt_3b067_J0_checkIndex_df160
theorem dJ1_charAt_3b067_0 : decode cJ1_charAt_3b067 0 = .ok (.iload_n 1, 1) := by decide +kernel
theorem dJ1_charAt_3b067_1 : decode cJ1_charAt_3b067 1 = .ok (.aload_n 0, 1) := by decide +kernel
theorem dJ1_charAt_3b067_2 : decode cJ1_charAt_3b067 2 = .ok (.arraylength, 1) := by decide +kernel
theorem dJ1_charAt_3b067_3 : decode cJ1_charAt_3b067 3 = .ok (.invokestatic 9, 3) := by decide +kernel
theorem dJ1_charAt_3b067_6 : decode cJ1_charAt_3b067 6 = .ok (.aload_n 0, 1) := by decide +kernel
theorem dJ1_charAt_3b067_7 : decode cJ1_charAt_3b067 7 = .ok (.iload_n 1, 1) := by decide +kernel
theorem dJ1_charAt_3b067_8 : decode cJ1_charAt_3b067 8 = .ok (.baload, 1) := by decide +kernel
theorem dJ1_charAt_3b067_9 : decode cJ1_charAt_3b067 9 = .ok (.sipush 255, 3) := by decide +kernel
theorem dJ1_charAt_3b067_12 : decode cJ1_charAt_3b067 12 = .ok (.iand, 1) := by decide +kernel
theorem dJ1_charAt_3b067_13 : decode cJ1_charAt_3b067 13 = .ok (.i2c, 1) := by decide +kernel
theorem dJ1_charAt_3b067_14 : decode cJ1_charAt_3b067 14 = .ok (.ireturn, 1) := by decide +kernel
theorem dJ1_canEncode_9a6ad_0 : decode cJ1_canEncode_9a6ad 0 = .ok (.iload_n 0, 1) := by decide +kernel
theorem dJ1_canEncode_9a6ad_1 : decode cJ1_canEncode_9a6ad 1 = .ok (.ifCond .lt 14, 3) := by decide +kernel
theorem dJ1_canEncode_9a6ad_4 : decode cJ1_canEncode_9a6ad 4 = .ok (.iload_n 0, 1) := by decide +kernel
theorem dJ1_canEncode_9a6ad_5 : decode cJ1_canEncode_9a6ad 5 = .ok (.sipush 255, 3) := by decide +kernel
theorem dJ1_canEncode_9a6ad_8 : decode cJ1_canEncode_9a6ad 8 = .ok (.if_icmp .gt 7, 3) := by decide +kernel
theorem dJ1_canEncode_9a6ad_11 : decode cJ1_canEncode_9a6ad 11 = .ok (.iconst 1, 1) := by decide +kernel
theorem dJ1_canEncode_9a6ad_12 : decode cJ1_canEncode_9a6ad 12 = .ok (.goto 4, 3) := by decide +kernel
theorem dJ1_canEncode_9a6ad_15 : decode cJ1_canEncode_9a6ad 15 = .ok (.iconst 0, 1) := by decide +kernel
theorem dJ1_canEncode_9a6ad_16 : decode cJ1_canEncode_9a6ad 16 = .ok (.ireturn, 1) := by decide +kernel
set_option maxRecDepth 20000 in
theorem ggJ1_indexOf_4cfef_J1_canEncode_9a6ad : GoodIn wsJ1_indexOf_4cfef wsJ1_canEncode_9a6ad := goodIn_r _ [11] (by decide +kernel) (by decide +kernel)
set_option maxRecDepth 20000 in
theorem gJ1_indexOf_4cfef_J1_canEncode_9a6ad : GoodIn wsJ1_indexOf_4cfef (va_wsS RJ1 88 yJ1_canEncode_9a6ad wsJ1_canEncode_9a6ad) := goodIn_app (goodIn_of _ (by decide +kernel)) ggJ1_indexOf_4cfef_J1_canEncode_9a6ad
set_option maxRecDepth 20000 in
theorem ggJ1_indexOf_4cfef_J1_indexOfChar_4cfef : GoodIn wsJ1_indexOf_4cfef wsJ1_indexOfChar_4cfef := goodIn_r _ [14] (by decide +kernel) (by decide +kernel)
set_option maxRecDepth 20000 in
theorem gJ1_indexOf_4cfef_J1_indexOfChar_4cfef : GoodIn wsJ1_indexOf_4cfef (va_wsS RJ1 95 yJ1_indexOfChar_4cfef wsJ1_indexOfChar_4cfef) := goodIn_app (goodIn_of _ (by decide +kernel)) ggJ1_indexOf_4cfef_J1_indexOfChar_4cfef
theorem dJ1_indexOf_4cfef_0 : decode cJ1_indexOf_4cfef 0 = .ok (.iload_n 1, 1) := by decide +kernel
theorem dJ1_indexOf_4cfef_1 : decode cJ1_indexOf_4cfef 1 = .ok (.invokestatic 88, 3) := by decide +kernel
theorem dJ1_indexOf_4cfef_4 : decode cJ1_indexOf_4cfef 4 = .ok (.ifCond .ne 5, 3) := by decide +kernel
theorem dJ1_indexOf_4cfef_7 : decode cJ1_indexOf_4cfef 7 = .ok (.iconst (-1), 1) := by decide +kernel
theorem dJ1_indexOf_4cfef_8 : decode cJ1_indexOf_4cfef 8 = .ok (.ireturn, 1) := by decide +kernel
theorem dJ1_indexOf_4cfef_9 : decode cJ1_indexOf_4cfef 9 = .ok (.iload_n 2, 1) := by decide +kernel
theorem dJ1_indexOf_4cfef_10 : decode cJ1_indexOf_4cfef 10 = .ok (.iconst 0, 1) := by decide +kernel
theorem dJ1_indexOf_4cfef_11 : decode cJ1_indexOf_4cfef 11 = .ok (.invokestatic 92, 3) := by decide +kernel
theorem dJ1_indexOf_4cfef_14 : decode cJ1_indexOf_4cfef 14 = .ok (.istore_n 2, 1) := by decide +kernel
theorem dJ1_indexOf_4cfef_15 : decode cJ1_indexOf_4cfef 15 = .ok (.iload_n 3, 1) := by decide +kernel
theorem dJ1_indexOf_4cfef_16 : decode cJ1_indexOf_4cfef 16 = .ok (.aload_n 0, 1) := by decide +kernel
theorem dJ1_indexOf_4cfef_17 : decode cJ1_indexOf_4cfef 17 = .ok (.arraylength, 1) := by decide +kernel
theorem dJ1_indexOf_4cfef_18 : decode cJ1_indexOf_4cfef 18 = .ok (.invokestatic 38, 3) := by decide +kernel
theorem dJ1_indexOf_4cfef_21 : decode cJ1_indexOf_4cfef 21 = .ok (.istore_n 3, 1) := by decide +kernel
theorem dJ1_indexOf_4cfef_22 : decode cJ1_indexOf_4cfef 22 = .ok (.iload_n 2, 1) := by decide +kernel
theorem dJ1_indexOf_4cfef_23 : decode cJ1_indexOf_4cfef 23 = .ok (.iload_n 3, 1) := by decide +kernel
theorem dJ1_indexOf_4cfef_24 : decode cJ1_indexOf_4cfef 24 = .ok (.if_icmp .lt 5, 3) := by decide +kernel
theorem dJ1_indexOf_4cfef_27 : decode cJ1_indexOf_4cfef 27 = .ok (.iconst (-1), 1) := by decide +kernel
theorem dJ1_indexOf_4cfef_28 : decode cJ1_indexOf_4cfef 28 = .ok (.ireturn, 1) := by decide +kernel
theorem dJ1_indexOf_4cfef_29 : decode cJ1_indexOf_4cfef 29 = .ok (.aload_n 0, 1) := by decide +kernel
theorem dJ1_indexOf_4cfef_30 : decode cJ1_indexOf_4cfef 30 = .ok (.iload_n 1, 1) := by decide +kernel
theorem dJ1_indexOf_4cfef_31 : decode cJ1_indexOf_4cfef 31 = .ok (.iload_n 2, 1) := by decide +kernel
theorem dJ1_indexOf_4cfef_32 : decode cJ1_indexOf_4cfef 32 = .ok (.iload_n 3, 1) := by decide +kernel
theorem dJ1_indexOf_4cfef_33 : decode cJ1_indexOf_4cfef 33 = .ok (.invokestatic 95, 3) := by decide +kernel
theorem dJ1_indexOf_4cfef_36 : decode cJ1_indexOf_4cfef 36 = .ok (.ireturn, 1) := by decide +kernel
theorem dJ1_indexOfChar_4cfef_0 : decode cJ1_indexOfChar_4cfef 0 = .ok (.iload_n 1, 1) := by decide +kernel
theorem dJ1_indexOfChar_4cfef_1 : decode cJ1_indexOfChar_4cfef 1 = .ok (.i2b, 1) := by decide +kernel
theorem dJ1_indexOfChar_4cfef_2 : decode cJ1_indexOfChar_4cfef 2 = .ok (.istore 4, 2) := by decide +kernel
theorem dJ1_indexOfChar_4cfef_4 : decode cJ1_indexOfChar_4cfef 4 = .ok (.iload_n 2, 1) := by decide +kernel
theorem dJ1_indexOfChar_4cfef_5 : decode cJ1_indexOfChar_4cfef 5 = .ok (.istore 5, 2) := by decide +kernel
theorem dJ1_indexOfChar_4cfef_7 : decode cJ1_indexOfChar_4cfef 7 = .ok (.iload 5, 2) := by decide +kernel
theorem dJ1_indexOfChar_4cfef_9 : decode cJ1_indexOfChar_4cfef 9 = .ok (.iload_n 3, 1) := by decide +kernel
theorem dJ1_indexOfChar_4cfef_10 : decode cJ1_indexOfChar_4cfef 10 = .ok (.if_icmp .ge 21, 3) := by decide +kernel
theorem dJ1_indexOfChar_4cfef_13 : decode cJ1_indexOfChar_4cfef 13 = .ok (.aload_n 0, 1) := by decide +kernel
theorem dJ1_indexOfChar_4cfef_14 : decode cJ1_indexOfChar_4cfef 14 = .ok (.iload 5, 2) := by decide +kernel
theorem dJ1_indexOfChar_4cfef_16 : decode cJ1_indexOfChar_4cfef 16 = .ok (.baload, 1) := by decide +kernel
theorem dJ1_indexOfChar_4cfef_17 : decode cJ1_indexOfChar_4cfef 17 = .ok (.iload 4, 2) := by decide +kernel
theorem dJ1_indexOfChar_4cfef_19 : decode cJ1_indexOfChar_4cfef 19 = .ok (.if_icmp .ne 6, 3) := by decide +kernel
theorem dJ1_indexOfChar_4cfef_22 : decode cJ1_indexOfChar_4cfef 22 = .ok (.iload 5, 2) := by decide +kernel
theorem dJ1_indexOfChar_4cfef_24 : decode cJ1_indexOfChar_4cfef 24 = .ok (.ireturn, 1) := by decide +kernel
theorem dJ1_indexOfChar_4cfef_25 : decode cJ1_indexOfChar_4cfef 25 = .ok (.iinc 5 1, 3) := by decide +kernel
theorem dJ1_indexOfChar_4cfef_28 : decode cJ1_indexOfChar_4cfef 28 = .ok (.goto (-21), 3) := by decide +kernel
theorem dJ1_indexOfChar_4cfef_31 : decode cJ1_indexOfChar_4cfef 31 = .ok (.iconst (-1), 1) := by decide +kernel
theorem dJ1_indexOfChar_4cfef_32 : decode cJ1_indexOfChar_4cfef 32 = .ok (.ireturn, 1) := by decide +kernel
set_option maxRecDepth 20000 in
theorem ggJ2_getChar_3b067_J2_length_9d52b : GoodIn wsJ2_getChar_3b067 wsJ2_length_9d52b := goodIn_r _ [7] (by decide +kernel) (by decide +kernel)
set_option maxRecDepth 20000 in
theorem gJ2_getChar_3b067_J2_length_9d52b : GoodIn wsJ2_getChar_3b067 (va_wsS RJ2 48 yJ2_length_9d52b wsJ2_length_9d52b) := goodIn_app (goodIn_of _ (by decide +kernel)) ggJ2_getChar_3b067_J2_length_9d52b
theorem dJ2_getChar_3b067_0 : decode cJ2_getChar_3b067 0 = .ok (.getstatic 44, 3) := by decide +kernel
theorem dJ2_getChar_3b067_3 : decode cJ2_getChar_3b067 3 = .ok (.ifCond .ne 25, 3) := by decide +kernel
theorem dJ2_getChar_3b067_6 : decode cJ2_getChar_3b067 6 = .ok (.iload_n 1, 1) := by decide +kernel
theorem dJ2_getChar_3b067_7 : decode cJ2_getChar_3b067 7 = .ok (.ifCond .lt 11, 3) := by decide +kernel
theorem dJ2_getChar_3b067_10 : decode cJ2_getChar_3b067 10 = .ok (.iload_n 1, 1) := by decide +kernel
theorem dJ2_getChar_3b067_11 : decode cJ2_getChar_3b067 11 = .ok (.aload_n 0, 1) := by decide +kernel
theorem dJ2_getChar_3b067_12 : decode cJ2_getChar_3b067 12 = .ok (.invokestatic 48, 3) := by decide +kernel
theorem dJ2_getChar_3b067_15 : decode cJ2_getChar_3b067 15 = .ok (.if_icmp .lt 13, 3) := by decide +kernel
theorem dJ2_getChar_3b067_18 : decode cJ2_getChar_3b067 18 = .ok (.new 52, 3) := by decide +kernel
theorem dJ2_getChar_3b067_21 : decode cJ2_getChar_3b067 21 = .ok (.dup, 1) := by decide +kernel
theorem dJ2_getChar_3b067_22 : decode cJ2_getChar_3b067 22 = .ok (.ldc 54, 2) := by decide +kernel
theorem dJ2_getChar_3b067_24 : decode cJ2_getChar_3b067 24 = .ok (.invokespecial 56, 3) := by decide +kernel
theorem dJ2_getChar_3b067_27 : decode cJ2_getChar_3b067 27 = .ok (.athrow, 1) := by decide +kernel
theorem dJ2_getChar_3b067_28 : decode cJ2_getChar_3b067 28 = .ok (.iload_n 1, 1) := by decide +kernel
theorem dJ2_getChar_3b067_29 : decode cJ2_getChar_3b067 29 = .ok (.iconst 1, 1) := by decide +kernel
theorem dJ2_getChar_3b067_30 : decode cJ2_getChar_3b067 30 = .ok (.ishl, 1) := by decide +kernel
theorem dJ2_getChar_3b067_31 : decode cJ2_getChar_3b067 31 = .ok (.istore_n 1, 1) := by decide +kernel
theorem dJ2_getChar_3b067_32 : decode cJ2_getChar_3b067 32 = .ok (.aload_n 0, 1) := by decide +kernel
theorem dJ2_getChar_3b067_33 : decode cJ2_getChar_3b067 33 = .ok (.iload_n 1, 1) := by decide +kernel
theorem dJ2_getChar_3b067_34 : decode cJ2_getChar_3b067 34 = .ok (.iinc 1 1, 3) := by decide +kernel
theorem dJ2_getChar_3b067_37 : decode cJ2_getChar_3b067 37 = .ok (.baload, 1) := by decide +kernel
theorem dJ2_getChar_3b067_38 : decode cJ2_getChar_3b067 38 = .ok (.sipush 255, 3) := by decide +kernel
theorem dJ2_getChar_3b067_41 : decode cJ2_getChar_3b067 41 = .ok (.iand, 1) := by decide +kernel
theorem dJ2_getChar_3b067_42 : decode cJ2_getChar_3b067 42 = .ok (.getstatic 59, 3) := by decide +kernel
theorem dJ2_getChar_3b067_45 : decode cJ2_getChar_3b067 45 = .ok (.ishl, 1) := by decide +kernel
theorem dJ2_getChar_3b067_46 : decode cJ2_getChar_3b067 46 = .ok (.aload_n 0, 1) := by decide +kernel
theorem dJ2_getChar_3b067_47 : decode cJ2_getChar_3b067 47 = .ok (.iload_n 1, 1) := by decide +kernel
theorem dJ2_getChar_3b067_48 : decode cJ2_getChar_3b067 48 = .ok (.baload, 1) := by decide +kernel
theorem dJ2_getChar_3b067_49 : decode cJ2_getChar_3b067 49 = .ok (.sipush 255, 3) := by decide +kernel
theorem dJ2_getChar_3b067_52 : decode cJ2_getChar_3b067 52 = .ok (.iand, 1) := by decide +kernel
theorem dJ2_getChar_3b067_53 : decode cJ2_getChar_3b067 53 = .ok (.getstatic 63, 3) := by decide +kernel
theorem dJ2_getChar_3b067_56 : decode cJ2_getChar_3b067 56 = .ok (.ishl, 1) := by decide +kernel
theorem dJ2_getChar_3b067_57 : decode cJ2_getChar_3b067 57 = .ok (.ior, 1) := by decide +kernel
theorem dJ2_getChar_3b067_58 : decode cJ2_getChar_3b067 58 = .ok (.i2c, 1) := by decide +kernel
theorem dJ2_getChar_3b067_59 : decode cJ2_getChar_3b067 59 = .ok (.ireturn, 1) := by decide +kernel
theorem dJ2_length_9d52b_0 : decode cJ2_length_9d52b 0 = .ok (.aload_n 0, 1) := by decide +kernel
theorem dJ2_length_9d52b_1 : decode cJ2_length_9d52b 1 = .ok (.arraylength, 1) := by decide +kernel
theorem dJ2_length_9d52b_2 : decode cJ2_length_9d52b 2 = .ok (.iconst 1, 1) := by decide +kernel
theorem dJ2_length_9d52b_3 : decode cJ2_length_9d52b 3 = .ok (.ishr, 1) := by decide +kernel
theorem dJ2_length_9d52b_4 : decode cJ2_length_9d52b 4 = .ok (.ireturn, 1) := by decide +kernel
set_option maxRecDepth 20000 in
theorem ggJ2_indexOf_4cfef_J2_indexOfChar_4cfef : GoodIn wsJ2_indexOf_4cfef wsJ2_indexOfChar_4cfef := goodIn_r _ [12, 13, 14, 11, 15, 16, 17, 18, 19, 20, 21, 22, 23, 24, 25, 26, 27, 28, 29, 30, 31, 32, 33, 34, 35, 36] (by decide +kernel) (by decide +kernel)
set_option maxRecDepth 20000 in
theorem gJ2_indexOf_4cfef_J2_indexOfChar_4cfef : GoodIn wsJ2_indexOf_4cfef (va_wsS RJ2 228 yJ2_indexOfChar_4cfef wsJ2_indexOfChar_4cfef) := goodIn_app (goodIn_of _ (by decide +kernel)) ggJ2_indexOf_4cfef_J2_indexOfChar_4cfef
set_option maxRecDepth 20000 in
theorem ggJ2_indexOf_4cfef_J2_indexOfSupplementary_4cfef : GoodIn wsJ2_indexOf_4cfef wsJ2_indexOfSupplementary_4cfef := goodIn_r _ [39, 40, 41, 42, 43, 44, 45, 46, 47, 48, 49, 50, 51, 13, 14, 11, 15, 16, 17, 18, 19, 20, 21, 22, 23, 24, 25, 26, 27, 31, 32, 33, 34, 35, 36] (by decide +kernel) (by decide +kernel)
set_option maxRecDepth 20000 in
theorem gJ2_indexOf_4cfef_J2_indexOfSupplementary_4cfef : GoodIn wsJ2_indexOf_4cfef (va_wsS RJ2 232 yJ2_indexOfSupplementary_4cfef wsJ2_indexOfSupplementary_4cfef) := goodIn_app (goodIn_of _ (by decide +kernel)) ggJ2_indexOf_4cfef_J2_indexOfSupplementary_4cfef
