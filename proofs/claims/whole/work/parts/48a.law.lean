set_option maxRecDepth 20000 in
theorem ggL_register_X6_register : GoodIn wsL_register wsX6_register := goodIn_ca (goodIn_ca (goodIn_ca (goodIn_r _ [7, 8, 9, 10, 11, 12, 13, 14, 15, 6, 16, 17, 18, 19, 20, 21, 22, 23, 24, 25, 26, 27, 28, 29, 30, 31, 32, 33, 34, 35, 36, 37, 38, 39, 40, 41, 42, 43, 44, 45, 46, 47, 48, 49, 50, 51, 52, 53, 54, 55, 56, 57, 58, 59, 60, 61, 62, 63, 64, 65, 66, 67, 68, 69, 70, 71, 72, 73, 74, 75, 76, 77, 78, 79, 80, 81, 82, 83, 84, 85, 86, 87, 88, 89, 90, 91, 92, 93, 94, 95, 96, 97, 98, 99, 100, 101, 102, 103, 104, 105, 106, 107, 108, 109, 110, 111, 112, 113, 114, 115, 116, 117, 118, 119, 120, 121, 122, 123, 124, 125, 126, 127, 128, 129, 130, 131, 132, 133, 134, 135, 136, 137, 138, 139, 140, 141, 142, 143, 144, 145, 146, 147, 148, 149, 150, 151, 152, 153, 154, 155, 156] rfl (by decide +kernel)) (goodIn_sub (fun _ h => List.mem_cons_of_mem _ (List.mem_append_left _ (List.mem_append_left _ (List.mem_append_right _ h)))) (by decide +kernel))) (goodIn_sub (fun _ h => List.mem_cons_of_mem _ (List.mem_append_left _ (List.mem_append_right _ h))) (by decide +kernel))) (goodIn_sub (fun _ h => List.mem_cons_of_mem _ (List.mem_append_right _ h)) (by decide +kernel))
set_option maxRecDepth 20000 in
theorem gL_register_X6_register : GoodIn wsL_register (wsV RL 7 RX6 yX6_register wsX6_register) := goodIn_app (goodIn_of _ (by decide +kernel)) ggL_register_X6_register
theorem dL_register_0 : decode cL_register 0 = .ok (.aload 6, 2) := by decide +kernel
theorem dL_register_2 : decode cL_register 2 = .ok (.iconst 0, 1) := by decide +kernel
theorem dL_register_3 : decode cL_register 3 = .ok (.aload_n 0, 1) := by decide +kernel
theorem dL_register_4 : decode cL_register 4 = .ok (.iload_n 1, 1) := by decide +kernel
theorem dL_register_5 : decode cL_register 5 = .ok (.iload_n 2, 1) := by decide +kernel
theorem dL_register_6 : decode cL_register 6 = .ok (.iload_n 3, 1) := by decide +kernel
theorem dL_register_7 : decode cL_register 7 = .ok (.iload 4, 2) := by decide +kernel
theorem dL_register_9 : decode cL_register 9 = .ok (.iload 5, 2) := by decide +kernel
theorem dL_register_11 : decode cL_register 11 = .ok (.invokevirtual 7, 3) := by decide +kernel
theorem dL_register_14 : decode cL_register 14 = .ok (.i2l, 1) := by decide +kernel
theorem dL_register_15 : decode cL_register 15 = .ok (.lastore, 1) := by decide +kernel
theorem dL_register_16 : decode cL_register 16 = .ok (.goto 11, 3) := by decide +kernel
theorem dL_register_19 : decode cL_register 19 = .ok (.astore 7, 2) := by decide +kernel
theorem dL_register_21 : decode cL_register 21 = .ok (.iconst 1, 1) := by decide +kernel
theorem dL_register_22 : decode cL_register 22 = .ok (.ireturn, 1) := by decide +kernel
theorem dL_register_23 : decode cL_register 23 = .ok (.astore 7, 2) := by decide +kernel
theorem dL_register_25 : decode cL_register 25 = .ok (.iconst 2, 1) := by decide +kernel
theorem dL_register_26 : decode cL_register 26 = .ok (.ireturn, 1) := by decide +kernel
theorem dL_register_27 : decode cL_register 27 = .ok (.iconst 0, 1) := by decide +kernel
theorem dL_register_28 : decode cL_register 28 = .ok (.ireturn, 1) := by decide +kernel
set_option maxRecDepth 20000 in
theorem ggL_leave_X6_leave : GoodIn wsL_leave wsX6_leave := goodIn_ca (goodIn_ca (goodIn_ca (goodIn_r _ [7, 8, 9, 10, 11, 12, 13, 14, 15, 16, 17, 18, 19, 20, 21, 22, 23, 24, 25, 26, 27, 28, 6, 29, 30, 31, 32, 33, 34, 35, 36, 37, 38, 39, 40, 41, 42, 43, 44, 45, 46, 47, 48, 49, 50, 51, 52, 53, 54, 55, 56, 57, 58, 59, 60, 61, 62, 63, 64, 65, 66, 67, 68, 69, 70, 71, 72, 73, 74, 75, 76, 77, 78, 79, 80, 81, 82, 83, 84, 85, 86, 87, 88, 89, 90, 91, 92, 93, 94, 95, 96, 97, 98, 99, 100, 101, 102, 103, 104, 105, 106, 107, 108, 109, 110, 111, 112, 113, 114, 115, 116, 117, 118, 119, 120, 121, 122, 123, 124, 125, 126, 127, 128, 129, 130, 131, 132, 133, 134, 135, 136, 137, 138, 139, 140, 141, 142, 143, 144, 145, 146, 147, 148, 149, 150, 151, 152] rfl (by decide +kernel)) (goodIn_sub (fun _ h => List.mem_cons_of_mem _ (List.mem_append_left _ (List.mem_append_left _ (List.mem_append_right _ h)))) (by decide +kernel))) (goodIn_sub (fun _ h => List.mem_cons_of_mem _ (List.mem_append_left _ (List.mem_append_right _ h))) (by decide +kernel))) (goodIn_sub (fun _ h => List.mem_cons_of_mem _ (List.mem_append_right _ h)) (by decide +kernel))
set_option maxRecDepth 20000 in
theorem gL_leave_X6_leave : GoodIn wsL_leave (wsV RL 17 RX6 yX6_leave wsX6_leave) := goodIn_app (goodIn_of _ (by decide +kernel)) ggL_leave_X6_leave
theorem dL_leave_0 : decode cL_leave 0 = .ok (.aload_n 2, 1) := by decide +kernel
theorem dL_leave_1 : decode cL_leave 1 = .ok (.iconst 0, 1) := by decide +kernel
theorem dL_leave_2 : decode cL_leave 2 = .ok (.aload_n 0, 1) := by decide +kernel
theorem dL_leave_3 : decode cL_leave 3 = .ok (.iload_n 1, 1) := by decide +kernel
theorem dL_leave_4 : decode cL_leave 4 = .ok (.invokevirtual 17, 3) := by decide +kernel
theorem dL_leave_7 : decode cL_leave 7 = .ok (.i2l, 1) := by decide +kernel
theorem dL_leave_8 : decode cL_leave 8 = .ok (.lastore, 1) := by decide +kernel
theorem dL_leave_9 : decode cL_leave 9 = .ok (.goto 9, 3) := by decide +kernel
theorem dL_leave_12 : decode cL_leave 12 = .ok (.astore_n 3, 1) := by decide +kernel
theorem dL_leave_13 : decode cL_leave 13 = .ok (.iconst 1, 1) := by decide +kernel
theorem dL_leave_14 : decode cL_leave 14 = .ok (.ireturn, 1) := by decide +kernel
theorem dL_leave_15 : decode cL_leave 15 = .ok (.astore_n 3, 1) := by decide +kernel
theorem dL_leave_16 : decode cL_leave 16 = .ok (.iconst 2, 1) := by decide +kernel
theorem dL_leave_17 : decode cL_leave 17 = .ok (.ireturn, 1) := by decide +kernel
theorem dL_leave_18 : decode cL_leave 18 = .ok (.iconst 0, 1) := by decide +kernel
theorem dL_leave_19 : decode cL_leave 19 = .ok (.ireturn, 1) := by decide +kernel
set_option maxRecDepth 20000 in
theorem ggL_borrow_X6_borrow : GoodIn wsL_borrow wsX6_borrow := goodIn_ca (goodIn_ca (goodIn_ca (goodIn_r _ [8, 9, 10, 11, 12, 13, 14, 15, 16, 17, 7, 18, 19, 20, 21, 22, 23, 24, 25, 26, 27, 28, 29, 30, 31, 32, 33, 34, 35, 36, 37, 38, 39, 40, 41, 42, 43, 44, 45, 46, 47, 48, 49, 50, 51, 52, 53, 54, 55, 56, 57, 58, 59, 60, 61, 62, 63, 64, 65, 66, 67, 68, 69, 70, 71, 72, 73, 74, 75, 76, 77, 78, 79, 80, 81, 82, 83, 84, 85, 86, 87, 88, 89, 90, 91, 92, 93, 94, 95, 96, 97, 98, 99, 100, 101, 102, 103, 104, 105, 106, 107, 108, 109, 110, 111, 112, 113, 114, 115, 116, 117, 118, 119, 120, 121, 122, 123, 124, 125, 126, 127, 128, 129, 130, 131, 132, 133, 134, 135, 136, 137, 138, 139, 140, 141, 142, 143, 144, 145, 146, 147, 148, 149, 150, 151, 152, 153, 154, 155, 156, 157, 158, 159] rfl (by decide +kernel)) (goodIn_sub (fun _ h => List.mem_cons_of_mem _ (List.mem_append_left _ (List.mem_append_left _ (List.mem_append_right _ h)))) (by decide +kernel))) (goodIn_sub (fun _ h => List.mem_cons_of_mem _ (List.mem_append_left _ (List.mem_append_right _ h))) (by decide +kernel))) (goodIn_sub (fun _ h => List.mem_cons_of_mem _ (List.mem_append_right _ h)) (by decide +kernel))
set_option maxRecDepth 20000 in
theorem gL_borrow_X6_borrow : GoodIn wsL_borrow (wsV RL 23 RX6 yX6_borrow wsX6_borrow) := goodIn_app (goodIn_of _ (by decide +kernel)) ggL_borrow_X6_borrow
theorem dL_borrow_0 : decode cL_borrow 0 = .ok (.aload 7, 2) := by decide +kernel
theorem dL_borrow_2 : decode cL_borrow 2 = .ok (.iconst 0, 1) := by decide +kernel
theorem dL_borrow_3 : decode cL_borrow 3 = .ok (.aload_n 0, 1) := by decide +kernel
theorem dL_borrow_4 : decode cL_borrow 4 = .ok (.iload_n 1, 1) := by decide +kernel
theorem dL_borrow_5 : decode cL_borrow 5 = .ok (.iload_n 2, 1) := by decide +kernel
theorem dL_borrow_6 : decode cL_borrow 6 = .ok (.iload_n 3, 1) := by decide +kernel
theorem dL_borrow_7 : decode cL_borrow 7 = .ok (.iload 4, 2) := by decide +kernel
theorem dL_borrow_9 : decode cL_borrow 9 = .ok (.iload 5, 2) := by decide +kernel
theorem dL_borrow_11 : decode cL_borrow 11 = .ok (.iload 6, 2) := by decide +kernel
theorem dL_borrow_13 : decode cL_borrow 13 = .ok (.invokevirtual 23, 3) := by decide +kernel
theorem dL_borrow_16 : decode cL_borrow 16 = .ok (.i2l, 1) := by decide +kernel
theorem dL_borrow_17 : decode cL_borrow 17 = .ok (.lastore, 1) := by decide +kernel
theorem dL_borrow_18 : decode cL_borrow 18 = .ok (.goto 15, 3) := by decide +kernel
theorem dL_borrow_21 : decode cL_borrow 21 = .ok (.astore 8, 2) := by decide +kernel
theorem dL_borrow_23 : decode cL_borrow 23 = .ok (.iconst 1, 1) := by decide +kernel
theorem dL_borrow_24 : decode cL_borrow 24 = .ok (.ireturn, 1) := by decide +kernel
theorem dL_borrow_25 : decode cL_borrow 25 = .ok (.astore 8, 2) := by decide +kernel
theorem dL_borrow_27 : decode cL_borrow 27 = .ok (.iconst 2, 1) := by decide +kernel
theorem dL_borrow_28 : decode cL_borrow 28 = .ok (.ireturn, 1) := by decide +kernel
theorem dL_borrow_29 : decode cL_borrow 29 = .ok (.astore 8, 2) := by decide +kernel
theorem dL_borrow_31 : decode cL_borrow 31 = .ok (.iconst 3, 1) := by decide +kernel
theorem dL_borrow_32 : decode cL_borrow 32 = .ok (.ireturn, 1) := by decide +kernel
theorem dL_borrow_33 : decode cL_borrow 33 = .ok (.iconst 0, 1) := by decide +kernel
theorem dL_borrow_34 : decode cL_borrow 34 = .ok (.ireturn, 1) := by decide +kernel
set_option maxRecDepth 20000 in
theorem ggL_lend_X6_lend : GoodIn wsL_lend wsX6_lend := goodIn_ca (goodIn_ca (goodIn_ca (goodIn_r _ [8, 9, 10, 11, 12, 13, 14, 15, 16, 17, 18, 19, 20, 21, 22, 23, 24, 7, 25, 26, 27, 28, 29, 30, 31, 32, 33, 34, 35, 36, 37, 38, 39, 40, 41, 42, 43, 44, 45, 46, 47, 48, 49, 50, 51, 52, 53, 54, 55, 56, 57, 58, 59, 60, 61, 62, 63, 64, 65, 66, 67, 68, 69, 70, 71, 72, 73, 74, 75, 76, 77, 78, 79, 80, 81, 82, 83, 84, 85, 86, 87, 88, 89, 90, 91, 92, 93, 94, 95, 96, 97, 98, 99, 100, 101, 102, 103, 104, 105, 106, 107, 108, 109, 110, 111, 112, 113, 114, 115, 116, 117, 118, 119, 120, 121, 122, 123, 124, 125, 126, 127, 128, 129, 130, 131, 132, 133, 134, 135, 136, 137, 138, 139, 140, 141, 142, 143, 144, 145, 146, 147, 148, 149, 150, 151, 152, 153, 154, 155] rfl (by decide +kernel)) (goodIn_sub (fun _ h => List.mem_cons_of_mem _ (List.mem_append_left _ (List.mem_append_left _ (List.mem_append_right _ h)))) (by decide +kernel))) (goodIn_sub (fun _ h => List.mem_cons_of_mem _ (List.mem_append_left _ (List.mem_append_right _ h))) (by decide +kernel))) (goodIn_sub (fun _ h => List.mem_cons_of_mem _ (List.mem_append_right _ h)) (by decide +kernel))
set_option maxRecDepth 20000 in
theorem gL_lend_X6_lend : GoodIn wsL_lend (wsV RL 27 RX6 yX6_lend wsX6_lend) := goodIn_app (goodIn_of _ (by decide +kernel)) ggL_lend_X6_lend
theorem dL_lend_0 : decode cL_lend 0 = .ok (.aload 4, 2) := by decide +kernel
theorem dL_lend_2 : decode cL_lend 2 = .ok (.iconst 0, 1) := by decide +kernel
theorem dL_lend_3 : decode cL_lend 3 = .ok (.aload_n 0, 1) := by decide +kernel
theorem dL_lend_4 : decode cL_lend 4 = .ok (.iload_n 1, 1) := by decide +kernel
theorem dL_lend_5 : decode cL_lend 5 = .ok (.iload_n 2, 1) := by decide +kernel
theorem dL_lend_6 : decode cL_lend 6 = .ok (.iload_n 3, 1) := by decide +kernel
theorem dL_lend_7 : decode cL_lend 7 = .ok (.invokevirtual 27, 3) := by decide +kernel
theorem dL_lend_10 : decode cL_lend 10 = .ok (.i2l, 1) := by decide +kernel
theorem dL_lend_11 : decode cL_lend 11 = .ok (.lastore, 1) := by decide +kernel
theorem dL_lend_12 : decode cL_lend 12 = .ok (.goto 15, 3) := by decide +kernel
theorem dL_lend_15 : decode cL_lend 15 = .ok (.astore 5, 2) := by decide +kernel
theorem dL_lend_17 : decode cL_lend 17 = .ok (.iconst 1, 1) := by decide +kernel
theorem dL_lend_18 : decode cL_lend 18 = .ok (.ireturn, 1) := by decide +kernel
theorem dL_lend_19 : decode cL_lend 19 = .ok (.astore 5, 2) := by decide +kernel
theorem dL_lend_21 : decode cL_lend 21 = .ok (.iconst 2, 1) := by decide +kernel
theorem dL_lend_22 : decode cL_lend 22 = .ok (.ireturn, 1) := by decide +kernel
theorem dL_lend_23 : decode cL_lend 23 = .ok (.astore 5, 2) := by decide +kernel
theorem dL_lend_25 : decode cL_lend 25 = .ok (.iconst 3, 1) := by decide +kernel
theorem dL_lend_26 : decode cL_lend 26 = .ok (.ireturn, 1) := by decide +kernel
theorem dL_lend_27 : decode cL_lend 27 = .ok (.iconst 0, 1) := by decide +kernel
theorem dL_lend_28 : decode cL_lend 28 = .ok (.ireturn, 1) := by decide +kernel
set_option maxRecDepth 20000 in
theorem ggL_excuse_X6_excuse : GoodIn wsL_excuse wsX6_excuse := goodIn_ca (goodIn_ca (goodIn_ca (goodIn_r _ [8, 9, 10, 11, 12, 13, 14, 15, 16, 17, 18, 19, 20, 21, 22, 23, 24, 7, 25, 26, 27, 28, 29, 30, 31, 32, 33, 34, 35, 36, 37, 38, 39, 40, 41, 42, 43, 44, 45, 46, 47, 48, 49, 50, 51, 52, 53, 54, 55, 56, 57, 58, 59, 60, 61, 62, 63, 64, 65, 66, 67, 68, 69, 70, 71, 72, 73, 74, 75, 76, 77, 78, 79, 80, 81, 82, 83, 84, 85, 86, 87, 88, 89, 90, 91, 92, 93, 94, 95, 96, 97, 98, 99, 100, 101, 102, 103, 104, 105, 106, 107, 108, 109, 110, 111, 112, 113, 114, 115, 116, 117, 118, 119, 120, 121, 122, 123, 124, 125, 126, 127, 128, 129, 130, 131, 132, 133, 134, 135, 136, 137, 138, 139, 140, 141, 142, 143, 144, 145, 146, 147, 148, 149, 150, 151, 152, 153, 154, 155, 156, 157, 158, 159, 160, 161] rfl (by decide +kernel)) (goodIn_sub (fun _ h => List.mem_cons_of_mem _ (List.mem_append_left _ (List.mem_append_left _ (List.mem_append_right _ h)))) (by decide +kernel))) (goodIn_sub (fun _ h => List.mem_cons_of_mem _ (List.mem_append_left _ (List.mem_append_right _ h))) (by decide +kernel))) (goodIn_sub (fun _ h => List.mem_cons_of_mem _ (List.mem_append_right _ h)) (by decide +kernel))
set_option maxRecDepth 20000 in
theorem gL_excuse_X6_excuse : GoodIn wsL_excuse (wsV RL 31 RX6 yX6_excuse wsX6_excuse) := goodIn_app (goodIn_of _ (by decide +kernel)) ggL_excuse_X6_excuse
theorem dL_excuse_0 : decode cL_excuse 0 = .ok (.aload 4, 2) := by decide +kernel
theorem dL_excuse_2 : decode cL_excuse 2 = .ok (.iconst 0, 1) := by decide +kernel
theorem dL_excuse_3 : decode cL_excuse 3 = .ok (.aload_n 0, 1) := by decide +kernel
theorem dL_excuse_4 : decode cL_excuse 4 = .ok (.iload_n 1, 1) := by decide +kernel
theorem dL_excuse_5 : decode cL_excuse 5 = .ok (.iload_n 2, 1) := by decide +kernel
theorem dL_excuse_6 : decode cL_excuse 6 = .ok (.iload_n 3, 1) := by decide +kernel
theorem dL_excuse_7 : decode cL_excuse 7 = .ok (.invokevirtual 31, 3) := by decide +kernel
theorem dL_excuse_10 : decode cL_excuse 10 = .ok (.i2l, 1) := by decide +kernel
theorem dL_excuse_11 : decode cL_excuse 11 = .ok (.lastore, 1) := by decide +kernel
theorem dL_excuse_12 : decode cL_excuse 12 = .ok (.goto 15, 3) := by decide +kernel
theorem dL_excuse_15 : decode cL_excuse 15 = .ok (.astore 5, 2) := by decide +kernel
theorem dL_excuse_17 : decode cL_excuse 17 = .ok (.iconst 1, 1) := by decide +kernel
theorem dL_excuse_18 : decode cL_excuse 18 = .ok (.ireturn, 1) := by decide +kernel
theorem dL_excuse_19 : decode cL_excuse 19 = .ok (.astore 5, 2) := by decide +kernel
theorem dL_excuse_21 : decode cL_excuse 21 = .ok (.iconst 2, 1) := by decide +kernel
theorem dL_excuse_22 : decode cL_excuse 22 = .ok (.ireturn, 1) := by decide +kernel
theorem dL_excuse_23 : decode cL_excuse 23 = .ok (.astore 5, 2) := by decide +kernel
theorem dL_excuse_25 : decode cL_excuse 25 = .ok (.iconst 3, 1) := by decide +kernel
theorem dL_excuse_26 : decode cL_excuse 26 = .ok (.ireturn, 1) := by decide +kernel
theorem dL_excuse_27 : decode cL_excuse 27 = .ok (.iconst 0, 1) := by decide +kernel
theorem dL_excuse_28 : decode cL_excuse 28 = .ok (.ireturn, 1) := by decide +kernel
set_option maxRecDepth 20000 in
theorem ggL_announce_X6_announce : GoodIn wsL_announce wsX6_announce := goodIn_ca (goodIn_ca (goodIn_ca (goodIn_r _ [7, 8, 9, 10, 11, 12, 13, 14, 15, 16, 6, 17, 18, 19, 20, 21, 22, 23, 24, 25, 26, 27, 28, 29, 30, 31, 32, 33, 34, 35, 36, 37, 38, 39, 40, 41, 42, 43, 44, 45, 46, 47, 48, 49, 50, 51, 52, 53, 54, 55, 56, 57, 58, 59, 60, 61, 62, 63, 64, 65, 66, 67, 68, 69, 70, 71, 72, 73, 74, 75, 76, 77, 78, 79, 80, 81, 82, 83, 84, 85, 86, 87, 88, 89, 90, 91, 92, 93, 94, 95, 96, 97, 98, 99, 100, 101, 102, 103, 104, 105, 106, 107, 108, 109, 110, 111, 112, 113, 114, 115, 116, 117, 118, 119, 120, 121, 122, 123, 124, 125, 126, 127, 128, 129, 130, 131, 132, 133, 134, 135, 136, 137, 138, 139, 140, 141, 142, 143, 144, 145, 146, 147, 148, 149, 150, 151, 152, 153, 154, 155, 156] rfl (by decide +kernel)) (goodIn_sub (fun _ h => List.mem_cons_of_mem _ (List.mem_append_left _ (List.mem_append_left _ (List.mem_append_right _ h)))) (by decide +kernel))) (goodIn_sub (fun _ h => List.mem_cons_of_mem _ (List.mem_append_left _ (List.mem_append_right _ h))) (by decide +kernel))) (goodIn_sub (fun _ h => List.mem_cons_of_mem _ (List.mem_append_right _ h)) (by decide +kernel))
set_option maxRecDepth 20000 in
theorem gL_announce_X6_announce : GoodIn wsL_announce (wsV RL 34 RX6 yX6_announce wsX6_announce) := goodIn_app (goodIn_of _ (by decide +kernel)) ggL_announce_X6_announce
theorem dL_announce_0 : decode cL_announce 0 = .ok (.aload_n 3, 1) := by decide +kernel
theorem dL_announce_1 : decode cL_announce 1 = .ok (.iconst 0, 1) := by decide +kernel
theorem dL_announce_2 : decode cL_announce 2 = .ok (.aload_n 0, 1) := by decide +kernel
theorem dL_announce_3 : decode cL_announce 3 = .ok (.iload_n 1, 1) := by decide +kernel
theorem dL_announce_4 : decode cL_announce 4 = .ok (.iload_n 2, 1) := by decide +kernel
theorem dL_announce_5 : decode cL_announce 5 = .ok (.invokevirtual 34, 3) := by decide +kernel
theorem dL_announce_8 : decode cL_announce 8 = .ok (.i2l, 1) := by decide +kernel
theorem dL_announce_9 : decode cL_announce 9 = .ok (.lastore, 1) := by decide +kernel
theorem dL_announce_10 : decode cL_announce 10 = .ok (.goto 11, 3) := by decide +kernel
theorem dL_announce_13 : decode cL_announce 13 = .ok (.astore 4, 2) := by decide +kernel
theorem dL_announce_15 : decode cL_announce 15 = .ok (.iconst 1, 1) := by decide +kernel
theorem dL_announce_16 : decode cL_announce 16 = .ok (.ireturn, 1) := by decide +kernel
theorem dL_announce_17 : decode cL_announce 17 = .ok (.astore 4, 2) := by decide +kernel
theorem dL_announce_19 : decode cL_announce 19 = .ok (.iconst 2, 1) := by decide +kernel
theorem dL_announce_20 : decode cL_announce 20 = .ok (.ireturn, 1) := by decide +kernel
theorem dL_announce_21 : decode cL_announce 21 = .ok (.iconst 0, 1) := by decide +kernel
theorem dL_announce_22 : decode cL_announce 22 = .ok (.ireturn, 1) := by decide +kernel
set_option maxRecDepth 20000 in
theorem ggL_setLine_X6_setLine : GoodIn wsL_setLine wsX6_setLine := goodIn_ca (goodIn_ca (goodIn_ca (goodIn_r _ [8, 9, 10, 11, 12, 13, 14, 15, 16, 17, 18, 19, 20, 21, 22, 7, 23, 24, 25, 26, 27, 28, 29, 30, 31, 32, 33, 34, 35, 36, 37, 38, 39, 40, 41, 42, 43, 44, 45, 46, 47, 48, 49, 50, 51, 52, 53, 54, 55, 56, 57, 58, 59, 60, 61, 62, 63, 64, 65, 66, 67, 68, 69, 70, 71, 72, 73, 74, 75, 76, 77, 78, 79, 80, 81, 82, 83, 84, 85, 86, 87, 88, 89, 90, 91, 92, 93, 94, 95, 96, 97, 98, 99, 100, 101, 102, 103, 104, 105, 106, 107, 108, 109, 110, 111, 112, 113, 114, 115, 116, 117, 118, 119, 120, 121, 122, 123, 124, 125, 126, 127, 128, 129, 130, 131, 132, 133, 134, 135, 136, 137, 138, 139, 140, 141, 142, 143, 144, 145, 146, 147, 148, 149, 150, 151, 152, 153, 154, 155, 156, 157, 158, 159, 160, 161, 162] rfl (by decide +kernel)) (goodIn_sub (fun _ h => List.mem_cons_of_mem _ (List.mem_append_left _ (List.mem_append_left _ (List.mem_append_right _ h)))) (by decide +kernel))) (goodIn_sub (fun _ h => List.mem_cons_of_mem _ (List.mem_append_left _ (List.mem_append_right _ h))) (by decide +kernel))) (goodIn_sub (fun _ h => List.mem_cons_of_mem _ (List.mem_append_right _ h)) (by decide +kernel))
set_option maxRecDepth 20000 in
theorem gL_setLine_X6_setLine : GoodIn wsL_setLine (wsV RL 38 RX6 yX6_setLine wsX6_setLine) := goodIn_app (goodIn_of _ (by decide +kernel)) ggL_setLine_X6_setLine
theorem dL_setLine_0 : decode cL_setLine 0 = .ok (.aload 6, 2) := by decide +kernel
theorem dL_setLine_2 : decode cL_setLine 2 = .ok (.iconst 0, 1) := by decide +kernel
theorem dL_setLine_3 : decode cL_setLine 3 = .ok (.aload_n 0, 1) := by decide +kernel
theorem dL_setLine_4 : decode cL_setLine 4 = .ok (.iload_n 1, 1) := by decide +kernel
theorem dL_setLine_5 : decode cL_setLine 5 = .ok (.iload_n 2, 1) := by decide +kernel
theorem dL_setLine_6 : decode cL_setLine 6 = .ok (.iload_n 3, 1) := by decide +kernel
theorem dL_setLine_7 : decode cL_setLine 7 = .ok (.iload 4, 2) := by decide +kernel
theorem dL_setLine_9 : decode cL_setLine 9 = .ok (.iload 5, 2) := by decide +kernel
theorem dL_setLine_11 : decode cL_setLine 11 = .ok (.invokevirtual 38, 3) := by decide +kernel
theorem dL_setLine_14 : decode cL_setLine 14 = .ok (.i2l, 1) := by decide +kernel
theorem dL_setLine_15 : decode cL_setLine 15 = .ok (.lastore, 1) := by decide +kernel
theorem dL_setLine_16 : decode cL_setLine 16 = .ok (.goto 15, 3) := by decide +kernel
theorem dL_setLine_19 : decode cL_setLine 19 = .ok (.astore 7, 2) := by decide +kernel
theorem dL_setLine_21 : decode cL_setLine 21 = .ok (.iconst 1, 1) := by decide +kernel
theorem dL_setLine_22 : decode cL_setLine 22 = .ok (.ireturn, 1) := by decide +kernel
theorem dL_setLine_23 : decode cL_setLine 23 = .ok (.astore 7, 2) := by decide +kernel
theorem dL_setLine_25 : decode cL_setLine 25 = .ok (.iconst 2, 1) := by decide +kernel
theorem dL_setLine_26 : decode cL_setLine 26 = .ok (.ireturn, 1) := by decide +kernel
theorem dL_setLine_27 : decode cL_setLine 27 = .ok (.astore 7, 2) := by decide +kernel
theorem dL_setLine_29 : decode cL_setLine 29 = .ok (.iconst 3, 1) := by decide +kernel
theorem dL_setLine_30 : decode cL_setLine 30 = .ok (.ireturn, 1) := by decide +kernel
theorem dL_setLine_31 : decode cL_setLine 31 = .ok (.iconst 0, 1) := by decide +kernel
theorem dL_setLine_32 : decode cL_setLine 32 = .ok (.ireturn, 1) := by decide +kernel
set_option maxRecDepth 20000 in
theorem ggL_passDays_X6_passDays : GoodIn wsL_passDays wsX6_passDays := goodIn_ca (goodIn_ca (goodIn_ca (goodIn_r _ [7, 8, 9, 10, 11, 12, 13, 14, 15, 16, 6, 17, 18, 19, 20, 21, 22, 23, 24, 25, 26, 27, 28, 29, 30, 31, 32, 33, 34, 35, 36, 37, 38, 39, 40, 41, 42, 43, 44, 45, 46, 47, 48, 49, 50, 51, 52, 53, 54, 55, 56, 57, 58, 59, 60, 61, 62, 63, 64, 65, 66, 67, 68, 69, 70, 71, 72, 73, 74, 75, 76, 77, 78, 79, 80, 81, 82, 83, 84, 85, 86, 87, 88, 89, 90, 91, 92, 93, 94, 95, 96, 97, 98, 99, 100, 101, 102, 103, 104, 105, 106, 107, 108, 109, 110, 111, 112, 113, 114, 115, 116, 117, 118, 119, 120, 121, 122, 123, 124, 125, 126, 127, 128, 129, 130, 131, 132, 133, 134, 135, 136, 137, 138, 139, 140, 141, 142, 143, 144, 145, 146, 147, 148, 149, 150, 151, 152, 153, 154, 155, 156, 157, 158, 159, 160, 161, 162, 163, 164, 165, 166, 167, 168, 169, 170, 171, 172, 173, 174, 175, 176, 177, 178, 179, 180, 181, 182, 183, 184, 185, 186, 187, 188, 189, 190, 191, 192, 193, 194, 195, 196, 197, 198, 199, 200, 201, 202, 203, 204, 205, 206, 207, 208, 209, 210, 211, 212, 213, 214, 215, 216, 217, 218, 219, 220, 221, 222, 223, 224, 225, 226, 227, 228, 229, 230, 231, 232, 233, 234, 235, 236, 237, 238, 239, 240, 241, 242, 243, 244, 245, 246, 247, 248, 249, 250, 251, 252, 253, 254, 255, 256, 257, 258, 259, 260, 261, 262, 263, 264, 265, 266, 267, 268, 269, 270, 271, 272] rfl (by decide +kernel)) (goodIn_sub (fun _ h => List.mem_cons_of_mem _ (List.mem_append_left _ (List.mem_append_left _ (List.mem_append_right _ h)))) (by decide +kernel))) (goodIn_sub (fun _ h => List.mem_cons_of_mem _ (List.mem_append_left _ (List.mem_append_right _ h))) (by decide +kernel))) (goodIn_sub (fun _ h => List.mem_cons_of_mem _ (List.mem_append_right _ h)) (by decide +kernel))
set_option maxRecDepth 20000 in
theorem gL_passDays_X6_passDays : GoodIn wsL_passDays (wsV RL 41 RX6 yX6_passDays wsX6_passDays) := goodIn_app (goodIn_of _ (by decide +kernel)) ggL_passDays_X6_passDays
theorem dL_passDays_0 : decode cL_passDays 0 = .ok (.aload_n 2, 1) := by decide +kernel
theorem dL_passDays_1 : decode cL_passDays 1 = .ok (.iconst 0, 1) := by decide +kernel
theorem dL_passDays_2 : decode cL_passDays 2 = .ok (.aload_n 0, 1) := by decide +kernel
theorem dL_passDays_3 : decode cL_passDays 3 = .ok (.iload_n 1, 1) := by decide +kernel
theorem dL_passDays_4 : decode cL_passDays 4 = .ok (.invokevirtual 41, 3) := by decide +kernel
theorem dL_passDays_7 : decode cL_passDays 7 = .ok (.i2l, 1) := by decide +kernel
theorem dL_passDays_8 : decode cL_passDays 8 = .ok (.lastore, 1) := by decide +kernel
theorem dL_passDays_9 : decode cL_passDays 9 = .ok (.goto 9, 3) := by decide +kernel
theorem dL_passDays_12 : decode cL_passDays 12 = .ok (.astore_n 3, 1) := by decide +kernel
theorem dL_passDays_13 : decode cL_passDays 13 = .ok (.iconst 1, 1) := by decide +kernel
theorem dL_passDays_14 : decode cL_passDays 14 = .ok (.ireturn, 1) := by decide +kernel
theorem dL_passDays_15 : decode cL_passDays 15 = .ok (.astore_n 3, 1) := by decide +kernel
theorem dL_passDays_16 : decode cL_passDays 16 = .ok (.iconst 2, 1) := by decide +kernel
theorem dL_passDays_17 : decode cL_passDays 17 = .ok (.ireturn, 1) := by decide +kernel
theorem dL_passDays_18 : decode cL_passDays 18 = .ok (.iconst 0, 1) := by decide +kernel
theorem dL_passDays_19 : decode cL_passDays 19 = .ok (.ireturn, 1) := by decide +kernel
set_option maxRecDepth 20000 in
theorem ggL_type_X6_type : GoodIn wsL_type wsX6_type := goodIn_ca (goodIn_ca (goodIn_ca (goodIn_r _ [6, 7, 8, 9, 10, 11, 12, 13, 14, 15, 5, 16, 17, 18, 19, 20, 21, 22, 23, 24, 25, 26, 27, 28, 29, 30, 31, 32, 33, 34, 35, 36, 37, 38, 39, 40, 41] rfl (by decide +kernel)) (goodIn_sub (fun _ h => List.mem_cons_of_mem _ (List.mem_append_left _ (List.mem_append_left _ (List.mem_append_right _ h)))) (by decide +kernel))) (goodIn_sub (fun _ h => List.mem_cons_of_mem _ (List.mem_append_left _ (List.mem_append_right _ h))) (by decide +kernel))) (goodIn_sub (fun _ h => List.mem_cons_of_mem _ (List.mem_append_right _ h)) (by decide +kernel))
set_option maxRecDepth 20000 in
theorem gL_type_X6_type : GoodIn wsL_type (wsV RL 44 RX6 yX6_type wsX6_type) := goodIn_app (goodIn_of _ (by decide +kernel)) ggL_type_X6_type
theorem dL_type_0 : decode cL_type 0 = .ok (.aload_n 2, 1) := by decide +kernel
theorem dL_type_1 : decode cL_type 1 = .ok (.iconst 0, 1) := by decide +kernel
theorem dL_type_2 : decode cL_type 2 = .ok (.aload_n 0, 1) := by decide +kernel
theorem dL_type_3 : decode cL_type 3 = .ok (.iload_n 1, 1) := by decide +kernel
theorem dL_type_4 : decode cL_type 4 = .ok (.invokevirtual 44, 3) := by decide +kernel
theorem dL_type_7 : decode cL_type 7 = .ok (.i2l, 1) := by decide +kernel
theorem dL_type_8 : decode cL_type 8 = .ok (.lastore, 1) := by decide +kernel
theorem dL_type_9 : decode cL_type 9 = .ok (.goto 6, 3) := by decide +kernel
theorem dL_type_12 : decode cL_type 12 = .ok (.astore_n 3, 1) := by decide +kernel
theorem dL_type_13 : decode cL_type 13 = .ok (.iconst 1, 1) := by decide +kernel
theorem dL_type_14 : decode cL_type 14 = .ok (.ireturn, 1) := by decide +kernel
theorem dL_type_15 : decode cL_type 15 = .ok (.iconst 0, 1) := by decide +kernel
theorem dL_type_16 : decode cL_type 16 = .ok (.ireturn, 1) := by decide +kernel
set_option maxRecDepth 20000 in
set_option maxHeartbeats 8000000 in
theorem ggL_impossibleOrder_X6_impossibleOrder : GoodIn wsL_impossibleOrder wsX6_impossibleOrder := goodIn_ca (goodIn_ca (goodIn_ca (goodIn_r _ [6, 7, 8, 9, 10, 11, 12, 13, 14, 15, 16, 17, 18, 19, 20, 21, 22, 23, 24, 25, 26, 27, 28, 29, 30, 31, 32, 33, 34, 35, 36, 37, 38, 39, 40, 41, 42, 43, 44, 45, 46, 47, 48, 49, 50, 51, 52, 53, 54, 55, 56, 57, 58, 59, 60, 61, 62, 63, 64, 65, 66, 67, 68, 69, 70, 71, 72, 73, 74, 75, 76, 77, 78, 79, 80, 81, 82, 83, 84, 85, 86, 87, 88, 89, 90, 91, 92, 93, 94, 95, 96, 97, 98, 99, 100, 101, 102, 103, 104, 105, 106, 107, 108, 109, 110, 111, 112, 113, 114, 115, 116, 117, 118, 119, 120, 121, 122, 123, 124, 125, 126, 127, 128, 129, 130, 131, 132, 133, 134, 135, 136, 137, 138, 139, 140, 141, 142, 143, 144, 145, 146, 147, 148, 149, 150, 151, 152, 5, 153, 154, 155, 156, 157, 158, 159, 160, 161, 162, 163, 164, 165, 166, 167, 168, 169, 170, 171, 172, 173, 174, 175, 176, 177, 178, 179, 180, 181, 182, 183, 184, 185, 186, 187, 188, 189, 190, 191, 192, 193, 194, 195, 196, 197, 198, 199, 200, 201, 202, 203, 204, 205, 206, 207, 208, 209, 210, 211, 212, 213, 214, 215, 216, 217, 218, 219, 220, 221, 222, 223, 224, 225, 226, 227, 228, 229, 230, 231, 232, 233, 234, 235, 236, 237, 238, 239, 240, 241, 242, 243, 244, 245, 246, 247, 248, 249, 250, 251, 252, 253, 254, 255, 256, 257, 258, 259, 260, 261, 262, 263, 264, 265, 266, 267, 268, 269, 270, 271, 272, 273, 274, 275, 276, 277, 278, 279, 280, 281, 282, 283, 284, 285, 286, 287, 288, 289, 290, 291, 292, 293, 294, 295, 296, 297, 298, 299, 300, 301, 302, 303, 304, 305, 306, 307, 308, 309, 310, 311, 312, 313, 314, 315, 316, 317, 318, 319, 320, 321, 322, 323, 324, 325, 326, 327, 328, 329, 330, 331, 332, 333, 334, 335, 336, 337, 338, 339, 340, 341, 342, 343, 344, 345, 346, 347, 348, 349, 350, 351, 352, 353, 354, 355, 356, 357, 358, 359, 360, 361, 362, 363, 364, 365, 366, 367, 368, 369, 370, 371, 372, 373, 374, 375, 376, 377, 378, 379, 380, 381, 382, 383, 384, 385, 386, 387, 388, 389, 390, 391, 392, 393, 394, 395, 396, 397, 398, 399, 400, 401, 402, 403, 404, 405, 406, 407, 408, 409, 410, 411, 412, 413, 414, 415, 416, 417, 418, 419, 420, 421, 422, 423, 424, 425, 426, 427, 428, 429, 430, 431, 432, 433, 434, 435, 436, 437, 438, 439, 440, 441, 442, 443, 444, 445, 446, 447, 448, 449, 450, 451, 452, 453, 454, 455, 456, 457, 458, 459, 460, 461, 462, 463, 464, 465, 466, 467, 468, 469, 470, 471, 472, 473, 474, 475, 476, 477, 478, 479, 480, 481, 482, 483, 484, 485, 486, 487, 488, 489, 490, 491, 492, 493, 494, 495, 496, 497, 498, 499, 500, 501, 502, 503, 504, 505, 506, 507, 508, 509, 510, 511, 512, 513, 514, 515, 516, 517, 518, 519, 520, 521, 522, 523, 524, 525, 526, 527, 528, 529, 530, 531, 532, 533, 534, 535, 536, 537, 538, 539, 540, 541, 542] rfl (by decide +kernel)) (goodIn_sub (fun _ h => List.mem_cons_of_mem _ (List.mem_append_left _ (List.mem_append_left _ (List.mem_append_right _ h)))) (by decide +kernel))) (goodIn_sub (fun _ h => List.mem_cons_of_mem _ (List.mem_append_left _ (List.mem_append_right _ h))) (by decide +kernel))) (goodIn_sub (fun _ h => List.mem_cons_of_mem _ (List.mem_append_right _ h)) (by decide +kernel))
set_option maxRecDepth 20000 in
theorem gL_impossibleOrder_X6_impossibleOrder : GoodIn wsL_impossibleOrder (wsV RL 48 RX6 yX6_impossibleOrder wsX6_impossibleOrder) := goodIn_app (goodIn_of _ (by decide +kernel)) ggL_impossibleOrder_X6_impossibleOrder
theorem dL_impossibleOrder_0 : decode cL_impossibleOrder 0 = .ok (.aload_n 1, 1) := by decide +kernel
theorem dL_impossibleOrder_1 : decode cL_impossibleOrder 1 = .ok (.iconst 0, 1) := by decide +kernel
theorem dL_impossibleOrder_2 : decode cL_impossibleOrder 2 = .ok (.aload_n 0, 1) := by decide +kernel
theorem dL_impossibleOrder_3 : decode cL_impossibleOrder 3 = .ok (.invokevirtual 48, 3) := by decide +kernel
theorem dL_impossibleOrder_6 : decode cL_impossibleOrder 6 = .ok (.i2l, 1) := by decide +kernel
theorem dL_impossibleOrder_7 : decode cL_impossibleOrder 7 = .ok (.lastore, 1) := by decide +kernel
theorem dL_impossibleOrder_8 : decode cL_impossibleOrder 8 = .ok (.goto 6, 3) := by decide +kernel
theorem dL_impossibleOrder_11 : decode cL_impossibleOrder 11 = .ok (.astore_n 2, 1) := by decide +kernel
theorem dL_impossibleOrder_12 : decode cL_impossibleOrder 12 = .ok (.iconst 1, 1) := by decide +kernel
theorem dL_impossibleOrder_13 : decode cL_impossibleOrder 13 = .ok (.ireturn, 1) := by decide +kernel
theorem dL_impossibleOrder_14 : decode cL_impossibleOrder 14 = .ok (.iconst 0, 1) := by decide +kernel
theorem dL_impossibleOrder_15 : decode cL_impossibleOrder 15 = .ok (.ireturn, 1) := by decide +kernel
set_option maxRecDepth 20000 in
set_option maxHeartbeats 8000000 in
theorem ggL_carryOut_X6_carryOut : GoodIn wsL_carryOut wsX6_carryOut := goodIn_ca (goodIn_ca (goodIn_ca (goodIn_r _ [6, 7, 8, 9, 10, 11, 12, 13, 14, 15, 16, 17, 18, 19, 20, 21, 22, 23, 24, 25, 26, 27, 28, 29, 30, 31, 32, 33, 34, 35, 36, 37, 38, 39, 40, 41, 42, 43, 44, 45, 46, 47, 48, 49, 50, 51, 52, 53, 54, 55, 56, 57, 58, 59, 60, 61, 62, 63, 64, 65, 66, 67, 68, 69, 70, 71, 72, 73, 74, 75, 76, 77, 78, 79, 80, 81, 82, 83, 84, 85, 86, 87, 88, 89, 90, 91, 92, 93, 94, 95, 96, 97, 98, 99, 100, 101, 102, 103, 104, 105, 106, 107, 108, 109, 110, 111, 112, 113, 114, 115, 116, 117, 118, 119, 120, 121, 122, 123, 124, 125, 126, 127, 128, 129, 130, 131, 132, 133, 134, 135, 136, 137, 138, 139, 140, 141, 142, 143, 144, 145, 146, 147, 148, 149, 150, 151, 152, 153, 154, 5, 155, 156, 157, 158, 159, 160, 161, 162, 163, 164, 165, 166, 167, 168, 169, 170, 171, 172, 173, 174, 175, 176, 177, 178, 179, 180, 181, 182, 183, 184, 185, 186, 187, 188, 189, 190, 191, 192, 193, 194, 195, 196, 197, 198, 199, 200, 201, 202, 203, 204, 205, 206, 207, 208, 209, 210, 211, 212, 213, 214, 215, 216, 217, 218, 219, 220, 221, 222, 223, 224, 225, 226, 227, 228, 229, 230, 231, 232, 233, 234, 235, 236, 237, 238, 239, 240, 241, 242, 243, 244, 245, 246, 247, 248, 249, 250, 251, 252, 253, 254, 255, 256, 257, 258, 259, 260, 261, 262, 263, 264, 265, 266, 267, 268, 269, 270, 271, 272, 273, 274, 275, 276, 277, 278, 279, 280, 281, 282, 283, 284, 285, 286, 287, 288, 289, 290, 291, 292, 293, 294, 295, 296, 297, 298, 299, 300, 301, 302, 303, 304, 305, 306, 307, 308, 309, 310, 311, 312, 313, 314, 315, 316, 317, 318, 319, 320, 321, 322, 323, 324, 325, 326, 327, 328, 329, 330, 331, 332, 333, 334, 335, 336, 337, 338, 339, 340, 341, 342, 343, 344, 345, 346, 347, 348, 349, 350, 351, 352, 353, 354, 355, 356, 357, 358, 359, 360, 361, 362, 363, 364, 365, 366, 367, 368, 369, 370, 371, 372, 373, 374, 375, 376, 377, 378, 379, 380, 381, 382, 383, 384, 385, 386, 387, 388, 389, 390, 391, 392, 393, 394, 395, 396, 397, 398, 399, 400, 401, 402, 403, 404, 405, 406, 407, 408, 409, 410, 411, 412, 413, 414, 415, 416, 417, 418, 419, 420, 421, 422, 423, 424, 425, 426, 427, 428, 429, 430, 431, 432, 433, 434, 435, 436, 437, 438, 439, 440, 441, 442, 443, 444, 445, 446, 447, 448, 449, 450, 451, 452, 453, 454, 455, 456, 457, 458, 459, 460, 461, 462, 463, 464, 465, 466, 467, 468, 469, 470, 471, 472, 473, 474, 475, 476, 477, 478, 479, 480, 481, 482, 483, 484, 485, 486, 487, 488, 489, 490, 491, 492, 493, 494, 495, 496, 497, 498, 499, 500, 501, 502, 503, 504, 505, 506, 507, 508, 509, 510, 511, 512, 513, 514, 515, 516, 517, 518, 519, 520, 521, 522, 523, 524, 525, 526, 527, 528, 529, 530, 531, 532, 533, 534, 535, 536, 537, 538, 539, 540, 541, 542, 543, 544, 545, 546, 547, 548, 549, 550, 551, 552, 553, 554, 555, 556] rfl (by decide +kernel)) (goodIn_sub (fun _ h => List.mem_cons_of_mem _ (List.mem_append_left _ (List.mem_append_left _ (List.mem_append_right _ h)))) (by decide +kernel))) (goodIn_sub (fun _ h => List.mem_cons_of_mem _ (List.mem_append_left _ (List.mem_append_right _ h))) (by decide +kernel))) (goodIn_sub (fun _ h => List.mem_cons_of_mem _ (List.mem_append_right _ h)) (by decide +kernel))
set_option maxRecDepth 20000 in
theorem gL_carryOut_X6_carryOut : GoodIn wsL_carryOut (wsV RL 52 RX6 yX6_carryOut wsX6_carryOut) := goodIn_app (goodIn_of _ (by decide +kernel)) ggL_carryOut_X6_carryOut
theorem dL_carryOut_0 : decode cL_carryOut 0 = .ok (.aload_n 1, 1) := by decide +kernel
theorem dL_carryOut_1 : decode cL_carryOut 1 = .ok (.iconst 0, 1) := by decide +kernel
theorem dL_carryOut_2 : decode cL_carryOut 2 = .ok (.aload_n 0, 1) := by decide +kernel
theorem dL_carryOut_3 : decode cL_carryOut 3 = .ok (.invokevirtual 52, 3) := by decide +kernel
theorem dL_carryOut_6 : decode cL_carryOut 6 = .ok (.i2l, 1) := by decide +kernel
theorem dL_carryOut_7 : decode cL_carryOut 7 = .ok (.lastore, 1) := by decide +kernel
theorem dL_carryOut_8 : decode cL_carryOut 8 = .ok (.goto 6, 3) := by decide +kernel
theorem dL_carryOut_11 : decode cL_carryOut 11 = .ok (.astore_n 2, 1) := by decide +kernel
theorem dL_carryOut_12 : decode cL_carryOut 12 = .ok (.iconst 1, 1) := by decide +kernel
theorem dL_carryOut_13 : decode cL_carryOut 13 = .ok (.ireturn, 1) := by decide +kernel
theorem dL_carryOut_14 : decode cL_carryOut 14 = .ok (.iconst 0, 1) := by decide +kernel
theorem dL_carryOut_15 : decode cL_carryOut 15 = .ok (.ireturn, 1) := by decide +kernel
set_option maxRecDepth 20000 in
theorem ggL_undo_X6_undo : GoodIn wsL_undo wsX6_undo := goodIn_ca (goodIn_ca (goodIn_ca (goodIn_r _ [6, 7, 8, 9, 10, 11, 5, 12, 13, 14, 15, 16, 17, 18, 19, 20, 21, 22, 23, 24, 25, 26, 27, 28, 29, 30, 31, 32, 33, 34, 35, 36, 37, 38, 39, 40, 41, 42, 43, 44, 45, 46, 47, 48, 49, 50, 51, 52, 53, 54, 55, 56, 57, 58, 59, 60, 61, 62, 63, 64, 65, 66, 67, 68, 69, 70, 71, 72, 73, 74, 75, 76, 77, 78, 79, 80, 81, 82, 83, 84, 85, 86, 87, 88, 89, 90, 91, 92, 93, 94, 95, 96, 97, 98, 99, 100, 101, 102, 103, 104, 105, 106, 107, 108, 109, 110, 111, 112, 113, 114, 115, 116, 117, 118, 119, 120, 121] rfl (by decide +kernel)) (goodIn_sub (fun _ h => List.mem_cons_of_mem _ (List.mem_append_left _ (List.mem_append_left _ (List.mem_append_right _ h)))) (by decide +kernel))) (goodIn_sub (fun _ h => List.mem_cons_of_mem _ (List.mem_append_left _ (List.mem_append_right _ h))) (by decide +kernel))) (goodIn_sub (fun _ h => List.mem_cons_of_mem _ (List.mem_append_right _ h)) (by decide +kernel))
set_option maxRecDepth 20000 in
theorem gL_undo_X6_undo : GoodIn wsL_undo (wsV RL 55 RX6 yX6_undo wsX6_undo) := goodIn_app (goodIn_of _ (by decide +kernel)) ggL_undo_X6_undo
theorem dL_undo_0 : decode cL_undo 0 = .ok (.aload_n 1, 1) := by decide +kernel
theorem dL_undo_1 : decode cL_undo 1 = .ok (.iconst 0, 1) := by decide +kernel
theorem dL_undo_2 : decode cL_undo 2 = .ok (.aload_n 0, 1) := by decide +kernel
theorem dL_undo_3 : decode cL_undo 3 = .ok (.invokevirtual 55, 3) := by decide +kernel
theorem dL_undo_6 : decode cL_undo 6 = .ok (.i2l, 1) := by decide +kernel
theorem dL_undo_7 : decode cL_undo 7 = .ok (.lastore, 1) := by decide +kernel
theorem dL_undo_8 : decode cL_undo 8 = .ok (.goto 6, 3) := by decide +kernel
theorem dL_undo_11 : decode cL_undo 11 = .ok (.astore_n 2, 1) := by decide +kernel
theorem dL_undo_12 : decode cL_undo 12 = .ok (.iconst 1, 1) := by decide +kernel
theorem dL_undo_13 : decode cL_undo 13 = .ok (.ireturn, 1) := by decide +kernel
theorem dL_undo_14 : decode cL_undo 14 = .ok (.iconst 0, 1) := by decide +kernel
theorem dL_undo_15 : decode cL_undo 15 = .ok (.ireturn, 1) := by decide +kernel
set_option maxRecDepth 20000 in
theorem ggL_restoreSnapshot_X6_restoreSnapshot : GoodIn wsL_restoreSnapshot wsX6_restoreSnapshot := goodIn_ca (goodIn_ca (goodIn_ca (goodIn_r _ [6, 7, 8, 9, 10, 11, 12, 5, 13, 14, 15, 16, 17, 18, 19, 20, 21, 22, 23, 24, 25, 26, 27, 28, 29, 30, 31, 32, 33, 34, 35, 36, 37, 38, 39, 40, 41, 42, 43, 44, 45, 46, 47, 48, 49, 50, 51, 52, 53, 54, 55, 56, 57, 58, 59, 60, 61, 62, 63, 64, 65, 66, 67, 68, 69, 70, 71, 72, 73, 74, 75, 76, 77, 78, 79, 80, 81, 82, 83, 84, 85, 86, 87, 88, 89, 90, 91, 92, 93, 94, 95, 96, 97, 98, 99, 100, 101, 102, 103, 104, 105, 106, 107, 108, 109, 110, 111, 112, 113, 114, 115, 116, 117, 118, 119, 120, 121, 122, 123, 124, 125, 126, 127, 128, 129, 130, 131, 132] rfl (by decide +kernel)) (goodIn_sub (fun _ h => List.mem_cons_of_mem _ (List.mem_append_left _ (List.mem_append_left _ (List.mem_append_right _ h)))) (by decide +kernel))) (goodIn_sub (fun _ h => List.mem_cons_of_mem _ (List.mem_append_left _ (List.mem_append_right _ h))) (by decide +kernel))) (goodIn_sub (fun _ h => List.mem_cons_of_mem _ (List.mem_append_right _ h)) (by decide +kernel))
set_option maxRecDepth 20000 in
theorem gL_restoreSnapshot_X6_restoreSnapshot : GoodIn wsL_restoreSnapshot (wsV RL 58 RX6 yX6_restoreSnapshot wsX6_restoreSnapshot) := goodIn_app (goodIn_of _ (by decide +kernel)) ggL_restoreSnapshot_X6_restoreSnapshot
theorem dL_restoreSnapshot_0 : decode cL_restoreSnapshot 0 = .ok (.aload_n 1, 1) := by decide +kernel
theorem dL_restoreSnapshot_1 : decode cL_restoreSnapshot 1 = .ok (.iconst 0, 1) := by decide +kernel
theorem dL_restoreSnapshot_2 : decode cL_restoreSnapshot 2 = .ok (.aload_n 0, 1) := by decide +kernel
theorem dL_restoreSnapshot_3 : decode cL_restoreSnapshot 3 = .ok (.invokevirtual 58, 3) := by decide +kernel
theorem dL_restoreSnapshot_6 : decode cL_restoreSnapshot 6 = .ok (.i2l, 1) := by decide +kernel
theorem dL_restoreSnapshot_7 : decode cL_restoreSnapshot 7 = .ok (.lastore, 1) := by decide +kernel
theorem dL_restoreSnapshot_8 : decode cL_restoreSnapshot 8 = .ok (.goto 6, 3) := by decide +kernel
theorem dL_restoreSnapshot_11 : decode cL_restoreSnapshot 11 = .ok (.astore_n 2, 1) := by decide +kernel
theorem dL_restoreSnapshot_12 : decode cL_restoreSnapshot 12 = .ok (.iconst 1, 1) := by decide +kernel
theorem dL_restoreSnapshot_13 : decode cL_restoreSnapshot 13 = .ok (.ireturn, 1) := by decide +kernel
theorem dL_restoreSnapshot_14 : decode cL_restoreSnapshot 14 = .ok (.iconst 0, 1) := by decide +kernel
theorem dL_restoreSnapshot_15 : decode cL_restoreSnapshot 15 = .ok (.ireturn, 1) := by decide +kernel
set_option maxRecDepth 20000 in
theorem ggL_isInChoir_X6_isInChoir : GoodIn wsL_isInChoir wsX6_isInChoir := goodIn_ca (goodIn_ca (goodIn_ca (goodIn_r _ [6, 7, 8, 9, 10, 11, 12, 5, 13, 14, 15, 16, 17, 18, 19, 20, 21, 22, 23, 24, 25, 26, 27, 28, 29, 30, 31, 32, 33, 34, 35, 36, 37, 38, 39, 40, 41, 42, 43, 44, 45, 46, 47, 48, 49, 50, 51, 52, 53, 54, 55, 56, 57, 58, 59, 60, 61, 62, 63] rfl (by decide +kernel)) (goodIn_sub (fun _ h => List.mem_cons_of_mem _ (List.mem_append_left _ (List.mem_append_left _ (List.mem_append_right _ h)))) (by decide +kernel))) (goodIn_sub (fun _ h => List.mem_cons_of_mem _ (List.mem_append_left _ (List.mem_append_right _ h))) (by decide +kernel))) (goodIn_sub (fun _ h => List.mem_cons_of_mem _ (List.mem_append_right _ h)) (by decide +kernel))
set_option maxRecDepth 20000 in
theorem gL_isInChoir_X6_isInChoir : GoodIn wsL_isInChoir (wsV RL 61 RX6 yX6_isInChoir wsX6_isInChoir) := goodIn_app (goodIn_of _ (by decide +kernel)) ggL_isInChoir_X6_isInChoir
theorem dL_isInChoir_0 : decode cL_isInChoir 0 = .ok (.aload_n 2, 1) := by decide +kernel
theorem dL_isInChoir_1 : decode cL_isInChoir 1 = .ok (.iconst 0, 1) := by decide +kernel
theorem dL_isInChoir_2 : decode cL_isInChoir 2 = .ok (.aload_n 0, 1) := by decide +kernel
theorem dL_isInChoir_3 : decode cL_isInChoir 3 = .ok (.iload_n 1, 1) := by decide +kernel
theorem dL_isInChoir_4 : decode cL_isInChoir 4 = .ok (.invokevirtual 61, 3) := by decide +kernel
theorem dL_isInChoir_7 : decode cL_isInChoir 7 = .ok (.ifCond .eq 7, 3) := by decide +kernel
theorem dL_isInChoir_10 : decode cL_isInChoir 10 = .ok (.lconst 1, 1) := by decide +kernel
theorem dL_isInChoir_11 : decode cL_isInChoir 11 = .ok (.goto 4, 3) := by decide +kernel
theorem dL_isInChoir_14 : decode cL_isInChoir 14 = .ok (.lconst 0, 1) := by decide +kernel
theorem dL_isInChoir_15 : decode cL_isInChoir 15 = .ok (.lastore, 1) := by decide +kernel
theorem dL_isInChoir_16 : decode cL_isInChoir 16 = .ok (.goto 6, 3) := by decide +kernel
theorem dL_isInChoir_19 : decode cL_isInChoir 19 = .ok (.astore_n 3, 1) := by decide +kernel
theorem dL_isInChoir_20 : decode cL_isInChoir 20 = .ok (.iconst 1, 1) := by decide +kernel
theorem dL_isInChoir_21 : decode cL_isInChoir 21 = .ok (.ireturn, 1) := by decide +kernel
theorem dL_isInChoir_22 : decode cL_isInChoir 22 = .ok (.iconst 0, 1) := by decide +kernel
theorem dL_isInChoir_23 : decode cL_isInChoir 23 = .ok (.ireturn, 1) := by decide +kernel
set_option maxRecDepth 20000 in
theorem ggL_ageOf_X6_ageOf : GoodIn wsL_ageOf wsX6_ageOf := goodIn_ca (goodIn_ca (goodIn_ca (goodIn_r _ [6, 7, 8, 9, 10, 11, 12, 13, 5, 14, 15, 16, 17, 18, 19, 20, 21, 22, 23, 24, 25, 26, 27, 28, 29, 30, 31, 32, 33, 34, 35, 36, 37, 38, 39, 40, 41, 42, 43, 44, 45, 46, 47, 48, 49, 50, 51, 52, 53, 54, 55, 56, 57, 58, 59] rfl (by decide +kernel)) (goodIn_sub (fun _ h => List.mem_cons_of_mem _ (List.mem_append_left _ (List.mem_append_left _ (List.mem_append_right _ h)))) (by decide +kernel))) (goodIn_sub (fun _ h => List.mem_cons_of_mem _ (List.mem_append_left _ (List.mem_append_right _ h))) (by decide +kernel))) (goodIn_sub (fun _ h => List.mem_cons_of_mem _ (List.mem_append_right _ h)) (by decide +kernel))
set_option maxRecDepth 20000 in
theorem gL_ageOf_X6_ageOf : GoodIn wsL_ageOf (wsV RL 65 RX6 yX6_ageOf wsX6_ageOf) := goodIn_app (goodIn_of _ (by decide +kernel)) ggL_ageOf_X6_ageOf
theorem dL_ageOf_0 : decode cL_ageOf 0 = .ok (.aload_n 2, 1) := by decide +kernel
theorem dL_ageOf_1 : decode cL_ageOf 1 = .ok (.iconst 0, 1) := by decide +kernel
theorem dL_ageOf_2 : decode cL_ageOf 2 = .ok (.aload_n 0, 1) := by decide +kernel
theorem dL_ageOf_3 : decode cL_ageOf 3 = .ok (.iload_n 1, 1) := by decide +kernel
theorem dL_ageOf_4 : decode cL_ageOf 4 = .ok (.invokevirtual 65, 3) := by decide +kernel
theorem dL_ageOf_7 : decode cL_ageOf 7 = .ok (.i2l, 1) := by decide +kernel
theorem dL_ageOf_8 : decode cL_ageOf 8 = .ok (.lastore, 1) := by decide +kernel
theorem dL_ageOf_9 : decode cL_ageOf 9 = .ok (.goto 6, 3) := by decide +kernel
theorem dL_ageOf_12 : decode cL_ageOf 12 = .ok (.astore_n 3, 1) := by decide +kernel
theorem dL_ageOf_13 : decode cL_ageOf 13 = .ok (.iconst 1, 1) := by decide +kernel
theorem dL_ageOf_14 : decode cL_ageOf 14 = .ok (.ireturn, 1) := by decide +kernel
theorem dL_ageOf_15 : decode cL_ageOf 15 = .ok (.iconst 0, 1) := by decide +kernel
theorem dL_ageOf_16 : decode cL_ageOf 16 = .ok (.ireturn, 1) := by decide +kernel
set_option maxRecDepth 20000 in
theorem ggL_lowestNoteOf_X6_lowestNoteOf : GoodIn wsL_lowestNoteOf wsX6_lowestNoteOf := goodIn_ca (goodIn_ca (goodIn_ca (goodIn_r _ [6, 7, 8, 9, 10, 11, 12, 13, 5, 14, 15, 16, 17, 18, 19, 20, 21, 22, 23, 24, 25, 26, 27, 28, 29, 30, 31, 32, 33, 34, 35, 36, 37, 38, 39, 40, 41, 42, 43, 44, 45, 46, 47, 48, 49, 50, 51, 52, 53, 54, 55, 56, 57, 58, 59, 60, 61, 62, 63, 64] rfl (by decide +kernel)) (goodIn_sub (fun _ h => List.mem_cons_of_mem _ (List.mem_append_left _ (List.mem_append_left _ (List.mem_append_right _ h)))) (by decide +kernel))) (goodIn_sub (fun _ h => List.mem_cons_of_mem _ (List.mem_append_left _ (List.mem_append_right _ h))) (by decide +kernel))) (goodIn_sub (fun _ h => List.mem_cons_of_mem _ (List.mem_append_right _ h)) (by decide +kernel))
set_option maxRecDepth 20000 in
theorem gL_lowestNoteOf_X6_lowestNoteOf : GoodIn wsL_lowestNoteOf (wsV RL 68 RX6 yX6_lowestNoteOf wsX6_lowestNoteOf) := goodIn_app (goodIn_of _ (by decide +kernel)) ggL_lowestNoteOf_X6_lowestNoteOf
theorem dL_lowestNoteOf_0 : decode cL_lowestNoteOf 0 = .ok (.aload_n 2, 1) := by decide +kernel
theorem dL_lowestNoteOf_1 : decode cL_lowestNoteOf 1 = .ok (.iconst 0, 1) := by decide +kernel
theorem dL_lowestNoteOf_2 : decode cL_lowestNoteOf 2 = .ok (.aload_n 0, 1) := by decide +kernel
theorem dL_lowestNoteOf_3 : decode cL_lowestNoteOf 3 = .ok (.iload_n 1, 1) := by decide +kernel
theorem dL_lowestNoteOf_4 : decode cL_lowestNoteOf 4 = .ok (.invokevirtual 68, 3) := by decide +kernel
theorem dL_lowestNoteOf_7 : decode cL_lowestNoteOf 7 = .ok (.i2l, 1) := by decide +kernel
theorem dL_lowestNoteOf_8 : decode cL_lowestNoteOf 8 = .ok (.lastore, 1) := by decide +kernel
theorem dL_lowestNoteOf_9 : decode cL_lowestNoteOf 9 = .ok (.goto 6, 3) := by decide +kernel
theorem dL_lowestNoteOf_12 : decode cL_lowestNoteOf 12 = .ok (.astore_n 3, 1) := by decide +kernel
theorem dL_lowestNoteOf_13 : decode cL_lowestNoteOf 13 = .ok (.iconst 1, 1) := by decide +kernel
theorem dL_lowestNoteOf_14 : decode cL_lowestNoteOf 14 = .ok (.ireturn, 1) := by decide +kernel
theorem dL_lowestNoteOf_15 : decode cL_lowestNoteOf 15 = .ok (.iconst 0, 1) := by decide +kernel
theorem dL_lowestNoteOf_16 : decode cL_lowestNoteOf 16 = .ok (.ireturn, 1) := by decide +kernel
set_option maxRecDepth 20000 in
theorem ggL_highestNoteOf_X6_highestNoteOf : GoodIn wsL_highestNoteOf wsX6_highestNoteOf := goodIn_ca (goodIn_ca (goodIn_ca (goodIn_r _ [6, 7, 8, 9, 10, 11, 12, 13, 5, 14, 15, 16, 17, 18, 19, 20, 21, 22, 23, 24, 25, 26, 27, 28, 29, 30, 31, 32, 33, 34, 35, 36, 37, 38, 39, 40, 41, 42, 43, 44, 45, 46, 47, 48, 49, 50, 51, 52, 53, 54, 55, 56, 57, 58, 59, 60, 61, 62, 63, 64] rfl (by decide +kernel)) (goodIn_sub (fun _ h => List.mem_cons_of_mem _ (List.mem_append_left _ (List.mem_append_left _ (List.mem_append_right _ h)))) (by decide +kernel))) (goodIn_sub (fun _ h => List.mem_cons_of_mem _ (List.mem_append_left _ (List.mem_append_right _ h))) (by decide +kernel))) (goodIn_sub (fun _ h => List.mem_cons_of_mem _ (List.mem_append_right _ h)) (by decide +kernel))
set_option maxRecDepth 20000 in
theorem gL_highestNoteOf_X6_highestNoteOf : GoodIn wsL_highestNoteOf (wsV RL 71 RX6 yX6_highestNoteOf wsX6_highestNoteOf) := goodIn_app (goodIn_of _ (by decide +kernel)) ggL_highestNoteOf_X6_highestNoteOf
theorem dL_highestNoteOf_0 : decode cL_highestNoteOf 0 = .ok (.aload_n 2, 1) := by decide +kernel
theorem dL_highestNoteOf_1 : decode cL_highestNoteOf 1 = .ok (.iconst 0, 1) := by decide +kernel
theorem dL_highestNoteOf_2 : decode cL_highestNoteOf 2 = .ok (.aload_n 0, 1) := by decide +kernel
theorem dL_highestNoteOf_3 : decode cL_highestNoteOf 3 = .ok (.iload_n 1, 1) := by decide +kernel
theorem dL_highestNoteOf_4 : decode cL_highestNoteOf 4 = .ok (.invokevirtual 71, 3) := by decide +kernel
theorem dL_highestNoteOf_7 : decode cL_highestNoteOf 7 = .ok (.i2l, 1) := by decide +kernel
theorem dL_highestNoteOf_8 : decode cL_highestNoteOf 8 = .ok (.lastore, 1) := by decide +kernel
theorem dL_highestNoteOf_9 : decode cL_highestNoteOf 9 = .ok (.goto 6, 3) := by decide +kernel
theorem dL_highestNoteOf_12 : decode cL_highestNoteOf 12 = .ok (.astore_n 3, 1) := by decide +kernel
theorem dL_highestNoteOf_13 : decode cL_highestNoteOf 13 = .ok (.iconst 1, 1) := by decide +kernel
theorem dL_highestNoteOf_14 : decode cL_highestNoteOf 14 = .ok (.ireturn, 1) := by decide +kernel
theorem dL_highestNoteOf_15 : decode cL_highestNoteOf 15 = .ok (.iconst 0, 1) := by decide +kernel
theorem dL_highestNoteOf_16 : decode cL_highestNoteOf 16 = .ok (.ireturn, 1) := by decide +kernel
set_option maxRecDepth 20000 in
theorem ggL_breakDayOf_X6_breakDayOf : GoodIn wsL_breakDayOf wsX6_breakDayOf := goodIn_ca (goodIn_ca (goodIn_ca (goodIn_r _ [6, 7, 8, 9, 10, 11, 12, 5, 13, 14, 15, 16, 17, 18, 19, 20, 21, 22, 23, 24, 25, 26, 27, 28, 29, 30, 31, 32, 33, 34, 35, 36, 37, 38, 39, 40, 41, 42, 43, 44, 45, 46, 47, 48, 49, 50, 51, 52, 53, 54, 55, 56, 57, 58] rfl (by decide +kernel)) (goodIn_sub (fun _ h => List.mem_cons_of_mem _ (List.mem_append_left _ (List.mem_append_left _ (List.mem_append_right _ h)))) (by decide +kernel))) (goodIn_sub (fun _ h => List.mem_cons_of_mem _ (List.mem_append_left _ (List.mem_append_right _ h))) (by decide +kernel))) (goodIn_sub (fun _ h => List.mem_cons_of_mem _ (List.mem_append_right _ h)) (by decide +kernel))
set_option maxRecDepth 20000 in
theorem gL_breakDayOf_X6_breakDayOf : GoodIn wsL_breakDayOf (wsV RL 74 RX6 yX6_breakDayOf wsX6_breakDayOf) := goodIn_app (goodIn_of _ (by decide +kernel)) ggL_breakDayOf_X6_breakDayOf
theorem dL_breakDayOf_0 : decode cL_breakDayOf 0 = .ok (.aload_n 2, 1) := by decide +kernel
theorem dL_breakDayOf_1 : decode cL_breakDayOf 1 = .ok (.iconst 0, 1) := by decide +kernel
theorem dL_breakDayOf_2 : decode cL_breakDayOf 2 = .ok (.aload_n 0, 1) := by decide +kernel
theorem dL_breakDayOf_3 : decode cL_breakDayOf 3 = .ok (.iload_n 1, 1) := by decide +kernel
theorem dL_breakDayOf_4 : decode cL_breakDayOf 4 = .ok (.invokevirtual 74, 3) := by decide +kernel
theorem dL_breakDayOf_7 : decode cL_breakDayOf 7 = .ok (.i2l, 1) := by decide +kernel
theorem dL_breakDayOf_8 : decode cL_breakDayOf 8 = .ok (.lastore, 1) := by decide +kernel
theorem dL_breakDayOf_9 : decode cL_breakDayOf 9 = .ok (.goto 6, 3) := by decide +kernel
theorem dL_breakDayOf_12 : decode cL_breakDayOf 12 = .ok (.astore_n 3, 1) := by decide +kernel
theorem dL_breakDayOf_13 : decode cL_breakDayOf 13 = .ok (.iconst 1, 1) := by decide +kernel
theorem dL_breakDayOf_14 : decode cL_breakDayOf 14 = .ok (.ireturn, 1) := by decide +kernel
theorem dL_breakDayOf_15 : decode cL_breakDayOf 15 = .ok (.iconst 0, 1) := by decide +kernel
theorem dL_breakDayOf_16 : decode cL_breakDayOf 16 = .ok (.ireturn, 1) := by decide +kernel
set_option maxRecDepth 20000 in
theorem ggL_choirOf_X6_choirOf : GoodIn wsL_choirOf wsX6_choirOf := goodIn_ca (goodIn_ca (goodIn_ca (goodIn_r _ [6, 7, 8, 9, 10, 11, 12, 5, 13, 14, 15, 16, 17, 18, 19, 20, 21, 22, 23, 24, 25, 26, 27, 28, 29, 30, 31, 32, 33, 34, 35, 36, 37, 38, 39, 40, 41, 42, 43, 44, 45, 46, 47, 48, 49, 50, 51, 52, 53, 54, 55, 56, 57, 58] rfl (by decide +kernel)) (goodIn_sub (fun _ h => List.mem_cons_of_mem _ (List.mem_append_left _ (List.mem_append_left _ (List.mem_append_right _ h)))) (by decide +kernel))) (goodIn_sub (fun _ h => List.mem_cons_of_mem _ (List.mem_append_left _ (List.mem_append_right _ h))) (by decide +kernel))) (goodIn_sub (fun _ h => List.mem_cons_of_mem _ (List.mem_append_right _ h)) (by decide +kernel))
set_option maxRecDepth 20000 in
theorem gL_choirOf_X6_choirOf : GoodIn wsL_choirOf (wsV RL 77 RX6 yX6_choirOf wsX6_choirOf) := goodIn_app (goodIn_of _ (by decide +kernel)) ggL_choirOf_X6_choirOf
theorem dL_choirOf_0 : decode cL_choirOf 0 = .ok (.aload_n 2, 1) := by decide +kernel
theorem dL_choirOf_1 : decode cL_choirOf 1 = .ok (.iconst 0, 1) := by decide +kernel
theorem dL_choirOf_2 : decode cL_choirOf 2 = .ok (.aload_n 0, 1) := by decide +kernel
theorem dL_choirOf_3 : decode cL_choirOf 3 = .ok (.iload_n 1, 1) := by decide +kernel
theorem dL_choirOf_4 : decode cL_choirOf 4 = .ok (.invokevirtual 77, 3) := by decide +kernel
theorem dL_choirOf_7 : decode cL_choirOf 7 = .ok (.i2l, 1) := by decide +kernel
theorem dL_choirOf_8 : decode cL_choirOf 8 = .ok (.lastore, 1) := by decide +kernel
theorem dL_choirOf_9 : decode cL_choirOf 9 = .ok (.goto 6, 3) := by decide +kernel
theorem dL_choirOf_12 : decode cL_choirOf 12 = .ok (.astore_n 3, 1) := by decide +kernel
theorem dL_choirOf_13 : decode cL_choirOf 13 = .ok (.iconst 1, 1) := by decide +kernel
theorem dL_choirOf_14 : decode cL_choirOf 14 = .ok (.ireturn, 1) := by decide +kernel
theorem dL_choirOf_15 : decode cL_choirOf 15 = .ok (.iconst 0, 1) := by decide +kernel
theorem dL_choirOf_16 : decode cL_choirOf 16 = .ok (.ireturn, 1) := by decide +kernel
set_option maxRecDepth 20000 in
theorem ggL_awayUntil_X6_awayUntil : GoodIn wsL_awayUntil wsX6_awayUntil := goodIn_ca (goodIn_ca (goodIn_ca (goodIn_r _ [6, 7, 8, 9, 10, 11, 12, 13, 5, 14, 15, 16, 17, 18, 19, 20, 21, 22, 23, 24, 25, 26, 27, 28, 29, 30, 31, 32, 33, 34, 35, 36, 37, 38, 39, 40, 41, 42, 43, 44, 45, 46, 47, 48, 49, 50, 51, 52, 53, 54, 55, 56, 57, 58, 59, 60, 61, 62, 63, 64] rfl (by decide +kernel)) (goodIn_sub (fun _ h => List.mem_cons_of_mem _ (List.mem_append_left _ (List.mem_append_left _ (List.mem_append_right _ h)))) (by decide +kernel))) (goodIn_sub (fun _ h => List.mem_cons_of_mem _ (List.mem_append_left _ (List.mem_append_right _ h))) (by decide +kernel))) (goodIn_sub (fun _ h => List.mem_cons_of_mem _ (List.mem_append_right _ h)) (by decide +kernel))
set_option maxRecDepth 20000 in
theorem gL_awayUntil_X6_awayUntil : GoodIn wsL_awayUntil (wsV RL 80 RX6 yX6_awayUntil wsX6_awayUntil) := goodIn_app (goodIn_of _ (by decide +kernel)) ggL_awayUntil_X6_awayUntil
theorem dL_awayUntil_0 : decode cL_awayUntil 0 = .ok (.aload_n 2, 1) := by decide +kernel
theorem dL_awayUntil_1 : decode cL_awayUntil 1 = .ok (.iconst 0, 1) := by decide +kernel
theorem dL_awayUntil_2 : decode cL_awayUntil 2 = .ok (.aload_n 0, 1) := by decide +kernel
theorem dL_awayUntil_3 : decode cL_awayUntil 3 = .ok (.iload_n 1, 1) := by decide +kernel
theorem dL_awayUntil_4 : decode cL_awayUntil 4 = .ok (.invokevirtual 80, 3) := by decide +kernel
theorem dL_awayUntil_7 : decode cL_awayUntil 7 = .ok (.i2l, 1) := by decide +kernel
theorem dL_awayUntil_8 : decode cL_awayUntil 8 = .ok (.lastore, 1) := by decide +kernel
theorem dL_awayUntil_9 : decode cL_awayUntil 9 = .ok (.goto 6, 3) := by decide +kernel
theorem dL_awayUntil_12 : decode cL_awayUntil 12 = .ok (.astore_n 3, 1) := by decide +kernel
theorem dL_awayUntil_13 : decode cL_awayUntil 13 = .ok (.iconst 1, 1) := by decide +kernel
theorem dL_awayUntil_14 : decode cL_awayUntil 14 = .ok (.ireturn, 1) := by decide +kernel
theorem dL_awayUntil_15 : decode cL_awayUntil 15 = .ok (.iconst 0, 1) := by decide +kernel
theorem dL_awayUntil_16 : decode cL_awayUntil 16 = .ok (.ireturn, 1) := by decide +kernel
set_option maxRecDepth 20000 in
theorem ggL_isExcused_X6_isExcused : GoodIn wsL_isExcused wsX6_isExcused := goodIn_ca (goodIn_ca (goodIn_ca (goodIn_r _ [7, 8, 9, 10, 11, 12, 6, 13, 14, 15, 16, 17, 18, 19, 20, 21, 22, 23, 24, 25, 26, 27, 28, 29, 30, 31, 32, 33, 34, 35, 36, 37, 38, 39, 40, 41, 42, 43, 44, 45, 46, 47, 48, 49, 50, 51, 52, 53, 54, 55, 56, 57, 58, 59, 60, 61, 62, 63, 64, 65, 66, 67, 68, 69, 70, 71, 72, 73, 74, 75] rfl (by decide +kernel)) (goodIn_sub (fun _ h => List.mem_cons_of_mem _ (List.mem_append_left _ (List.mem_append_left _ (List.mem_append_right _ h)))) (by decide +kernel))) (goodIn_sub (fun _ h => List.mem_cons_of_mem _ (List.mem_append_left _ (List.mem_append_right _ h))) (by decide +kernel))) (goodIn_sub (fun _ h => List.mem_cons_of_mem _ (List.mem_append_right _ h)) (by decide +kernel))
set_option maxRecDepth 20000 in
theorem gL_isExcused_X6_isExcused : GoodIn wsL_isExcused (wsV RL 83 RX6 yX6_isExcused wsX6_isExcused) := goodIn_app (goodIn_of _ (by decide +kernel)) ggL_isExcused_X6_isExcused
theorem dL_isExcused_0 : decode cL_isExcused 0 = .ok (.aload_n 3, 1) := by decide +kernel
theorem dL_isExcused_1 : decode cL_isExcused 1 = .ok (.iconst 0, 1) := by decide +kernel
theorem dL_isExcused_2 : decode cL_isExcused 2 = .ok (.aload_n 0, 1) := by decide +kernel
theorem dL_isExcused_3 : decode cL_isExcused 3 = .ok (.iload_n 1, 1) := by decide +kernel
theorem dL_isExcused_4 : decode cL_isExcused 4 = .ok (.iload_n 2, 1) := by decide +kernel
theorem dL_isExcused_5 : decode cL_isExcused 5 = .ok (.invokevirtual 83, 3) := by decide +kernel
theorem dL_isExcused_8 : decode cL_isExcused 8 = .ok (.ifCond .eq 7, 3) := by decide +kernel
theorem dL_isExcused_11 : decode cL_isExcused 11 = .ok (.lconst 1, 1) := by decide +kernel
theorem dL_isExcused_12 : decode cL_isExcused 12 = .ok (.goto 4, 3) := by decide +kernel
theorem dL_isExcused_15 : decode cL_isExcused 15 = .ok (.lconst 0, 1) := by decide +kernel
theorem dL_isExcused_16 : decode cL_isExcused 16 = .ok (.lastore, 1) := by decide +kernel
theorem dL_isExcused_17 : decode cL_isExcused 17 = .ok (.goto 11, 3) := by decide +kernel
theorem dL_isExcused_20 : decode cL_isExcused 20 = .ok (.astore 4, 2) := by decide +kernel
theorem dL_isExcused_22 : decode cL_isExcused 22 = .ok (.iconst 1, 1) := by decide +kernel
theorem dL_isExcused_23 : decode cL_isExcused 23 = .ok (.ireturn, 1) := by decide +kernel
theorem dL_isExcused_24 : decode cL_isExcused 24 = .ok (.astore 4, 2) := by decide +kernel
theorem dL_isExcused_26 : decode cL_isExcused 26 = .ok (.iconst 2, 1) := by decide +kernel
theorem dL_isExcused_27 : decode cL_isExcused 27 = .ok (.ireturn, 1) := by decide +kernel
theorem dL_isExcused_28 : decode cL_isExcused 28 = .ok (.iconst 0, 1) := by decide +kernel
theorem dL_isExcused_29 : decode cL_isExcused 29 = .ok (.ireturn, 1) := by decide +kernel
set_option maxRecDepth 20000 in
theorem ggL_feastsOf_X6_feastsOf : GoodIn wsL_feastsOf wsX6_feastsOf := goodIn_ca (goodIn_ca (goodIn_ca (goodIn_r _ [6, 7, 8, 9, 10, 11, 12, 5, 13, 14, 15, 16, 17, 18, 19, 20, 21, 22, 23, 24, 25, 26, 27, 28, 29, 30, 31, 32, 33, 34, 35, 36, 37, 38, 39, 40, 41, 42, 43, 44, 45, 46, 47, 48, 49, 50, 51, 52, 53, 54, 55, 56, 57, 58] rfl (by decide +kernel)) (goodIn_sub (fun _ h => List.mem_cons_of_mem _ (List.mem_append_left _ (List.mem_append_left _ (List.mem_append_right _ h)))) (by decide +kernel))) (goodIn_sub (fun _ h => List.mem_cons_of_mem _ (List.mem_append_left _ (List.mem_append_right _ h))) (by decide +kernel))) (goodIn_sub (fun _ h => List.mem_cons_of_mem _ (List.mem_append_right _ h)) (by decide +kernel))
set_option maxRecDepth 20000 in
theorem gL_feastsOf_X6_feastsOf : GoodIn wsL_feastsOf (wsV RL 87 RX6 yX6_feastsOf wsX6_feastsOf) := goodIn_app (goodIn_of _ (by decide +kernel)) ggL_feastsOf_X6_feastsOf
theorem dL_feastsOf_0 : decode cL_feastsOf 0 = .ok (.aload_n 2, 1) := by decide +kernel
theorem dL_feastsOf_1 : decode cL_feastsOf 1 = .ok (.iconst 0, 1) := by decide +kernel
theorem dL_feastsOf_2 : decode cL_feastsOf 2 = .ok (.aload_n 0, 1) := by decide +kernel
theorem dL_feastsOf_3 : decode cL_feastsOf 3 = .ok (.iload_n 1, 1) := by decide +kernel
theorem dL_feastsOf_4 : decode cL_feastsOf 4 = .ok (.invokevirtual 87, 3) := by decide +kernel
theorem dL_feastsOf_7 : decode cL_feastsOf 7 = .ok (.i2l, 1) := by decide +kernel
theorem dL_feastsOf_8 : decode cL_feastsOf 8 = .ok (.lastore, 1) := by decide +kernel
theorem dL_feastsOf_9 : decode cL_feastsOf 9 = .ok (.goto 6, 3) := by decide +kernel
theorem dL_feastsOf_12 : decode cL_feastsOf 12 = .ok (.astore_n 3, 1) := by decide +kernel
theorem dL_feastsOf_13 : decode cL_feastsOf 13 = .ok (.iconst 1, 1) := by decide +kernel
theorem dL_feastsOf_14 : decode cL_feastsOf 14 = .ok (.ireturn, 1) := by decide +kernel
theorem dL_feastsOf_15 : decode cL_feastsOf 15 = .ok (.iconst 0, 1) := by decide +kernel
theorem dL_feastsOf_16 : decode cL_feastsOf 16 = .ok (.ireturn, 1) := by decide +kernel
set_option maxRecDepth 20000 in
theorem ggL_descantsOf_X6_descantsOf : GoodIn wsL_descantsOf wsX6_descantsOf := goodIn_ca (goodIn_ca (goodIn_ca (goodIn_r _ [6, 7, 8, 9, 10, 11, 12, 5, 13, 14, 15, 16, 17, 18, 19, 20, 21, 22, 23, 24, 25, 26, 27, 28, 29, 30, 31, 32, 33, 34, 35, 36, 37, 38, 39, 40, 41, 42, 43, 44, 45, 46, 47, 48, 49, 50, 51, 52, 53, 54, 55, 56, 57, 58] rfl (by decide +kernel)) (goodIn_sub (fun _ h => List.mem_cons_of_mem _ (List.mem_append_left _ (List.mem_append_left _ (List.mem_append_right _ h)))) (by decide +kernel))) (goodIn_sub (fun _ h => List.mem_cons_of_mem _ (List.mem_append_left _ (List.mem_append_right _ h))) (by decide +kernel))) (goodIn_sub (fun _ h => List.mem_cons_of_mem _ (List.mem_append_right _ h)) (by decide +kernel))
set_option maxRecDepth 20000 in
theorem gL_descantsOf_X6_descantsOf : GoodIn wsL_descantsOf (wsV RL 90 RX6 yX6_descantsOf wsX6_descantsOf) := goodIn_app (goodIn_of _ (by decide +kernel)) ggL_descantsOf_X6_descantsOf
theorem dL_descantsOf_0 : decode cL_descantsOf 0 = .ok (.aload_n 2, 1) := by decide +kernel
theorem dL_descantsOf_1 : decode cL_descantsOf 1 = .ok (.iconst 0, 1) := by decide +kernel
theorem dL_descantsOf_2 : decode cL_descantsOf 2 = .ok (.aload_n 0, 1) := by decide +kernel
theorem dL_descantsOf_3 : decode cL_descantsOf 3 = .ok (.iload_n 1, 1) := by decide +kernel
theorem dL_descantsOf_4 : decode cL_descantsOf 4 = .ok (.invokevirtual 90, 3) := by decide +kernel
theorem dL_descantsOf_7 : decode cL_descantsOf 7 = .ok (.i2l, 1) := by decide +kernel
theorem dL_descantsOf_8 : decode cL_descantsOf 8 = .ok (.lastore, 1) := by decide +kernel
theorem dL_descantsOf_9 : decode cL_descantsOf 9 = .ok (.goto 6, 3) := by decide +kernel
theorem dL_descantsOf_12 : decode cL_descantsOf 12 = .ok (.astore_n 3, 1) := by decide +kernel
theorem dL_descantsOf_13 : decode cL_descantsOf 13 = .ok (.iconst 1, 1) := by decide +kernel
theorem dL_descantsOf_14 : decode cL_descantsOf 14 = .ok (.ireturn, 1) := by decide +kernel
theorem dL_descantsOf_15 : decode cL_descantsOf 15 = .ok (.iconst 0, 1) := by decide +kernel
theorem dL_descantsOf_16 : decode cL_descantsOf 16 = .ok (.ireturn, 1) := by decide +kernel
set_option maxRecDepth 20000 in
theorem ggL_dayOf_X6_dayOf : GoodIn wsL_dayOf wsX6_dayOf := goodIn_ca (goodIn_ca (goodIn_ca (goodIn_r _ [6, 7, 8, 9, 10, 11, 12, 5, 13, 14, 15, 16, 17, 18, 19, 20, 21, 22, 23, 24, 25, 26, 27, 28, 29, 30, 31, 32, 33, 34, 35, 36, 37, 38, 39, 40, 41, 42, 43, 44, 45, 46, 47, 48, 49, 50, 51, 52, 53, 54] rfl (by decide +kernel)) (goodIn_sub (fun _ h => List.mem_cons_of_mem _ (List.mem_append_left _ (List.mem_append_left _ (List.mem_append_right _ h)))) (by decide +kernel))) (goodIn_sub (fun _ h => List.mem_cons_of_mem _ (List.mem_append_left _ (List.mem_append_right _ h))) (by decide +kernel))) (goodIn_sub (fun _ h => List.mem_cons_of_mem _ (List.mem_append_right _ h)) (by decide +kernel))
set_option maxRecDepth 20000 in
theorem gL_dayOf_X6_dayOf : GoodIn wsL_dayOf (wsV RL 93 RX6 yX6_dayOf wsX6_dayOf) := goodIn_app (goodIn_of _ (by decide +kernel)) ggL_dayOf_X6_dayOf
theorem dL_dayOf_0 : decode cL_dayOf 0 = .ok (.aload_n 2, 1) := by decide +kernel
theorem dL_dayOf_1 : decode cL_dayOf 1 = .ok (.iconst 0, 1) := by decide +kernel
theorem dL_dayOf_2 : decode cL_dayOf 2 = .ok (.aload_n 0, 1) := by decide +kernel
theorem dL_dayOf_3 : decode cL_dayOf 3 = .ok (.iload_n 1, 1) := by decide +kernel
theorem dL_dayOf_4 : decode cL_dayOf 4 = .ok (.invokevirtual 93, 3) := by decide +kernel
theorem dL_dayOf_7 : decode cL_dayOf 7 = .ok (.i2l, 1) := by decide +kernel
theorem dL_dayOf_8 : decode cL_dayOf 8 = .ok (.lastore, 1) := by decide +kernel
theorem dL_dayOf_9 : decode cL_dayOf 9 = .ok (.goto 6, 3) := by decide +kernel
theorem dL_dayOf_12 : decode cL_dayOf 12 = .ok (.astore_n 3, 1) := by decide +kernel
theorem dL_dayOf_13 : decode cL_dayOf 13 = .ok (.iconst 1, 1) := by decide +kernel
theorem dL_dayOf_14 : decode cL_dayOf 14 = .ok (.ireturn, 1) := by decide +kernel
theorem dL_dayOf_15 : decode cL_dayOf 15 = .ok (.iconst 0, 1) := by decide +kernel
theorem dL_dayOf_16 : decode cL_dayOf 16 = .ok (.ireturn, 1) := by decide +kernel
set_option maxRecDepth 20000 in
theorem ggL_isHeld_X6_isHeld : GoodIn wsL_isHeld wsX6_isHeld := goodIn_ca (goodIn_ca (goodIn_ca (goodIn_r _ [6, 7, 8, 9, 10, 5, 11, 12, 13, 14, 15, 16, 17, 18, 19, 20, 21, 22, 23, 24, 25, 26, 27, 28, 29, 30, 31, 32, 33, 34, 35, 36, 37, 38, 39, 40, 41, 42, 43, 44, 45, 46, 47, 48, 49, 50, 51, 52, 53, 54, 55, 56, 57, 58, 59, 60, 61] rfl (by decide +kernel)) (goodIn_sub (fun _ h => List.mem_cons_of_mem _ (List.mem_append_left _ (List.mem_append_left _ (List.mem_append_right _ h)))) (by decide +kernel))) (goodIn_sub (fun _ h => List.mem_cons_of_mem _ (List.mem_append_left _ (List.mem_append_right _ h))) (by decide +kernel))) (goodIn_sub (fun _ h => List.mem_cons_of_mem _ (List.mem_append_right _ h)) (by decide +kernel))
set_option maxRecDepth 20000 in
theorem gL_isHeld_X6_isHeld : GoodIn wsL_isHeld (wsV RL 96 RX6 yX6_isHeld wsX6_isHeld) := goodIn_app (goodIn_of _ (by decide +kernel)) ggL_isHeld_X6_isHeld
theorem dL_isHeld_0 : decode cL_isHeld 0 = .ok (.aload_n 2, 1) := by decide +kernel
theorem dL_isHeld_1 : decode cL_isHeld 1 = .ok (.iconst 0, 1) := by decide +kernel
theorem dL_isHeld_2 : decode cL_isHeld 2 = .ok (.aload_n 0, 1) := by decide +kernel
theorem dL_isHeld_3 : decode cL_isHeld 3 = .ok (.iload_n 1, 1) := by decide +kernel
theorem dL_isHeld_4 : decode cL_isHeld 4 = .ok (.invokevirtual 96, 3) := by decide +kernel
theorem dL_isHeld_7 : decode cL_isHeld 7 = .ok (.ifCond .eq 7, 3) := by decide +kernel
theorem dL_isHeld_10 : decode cL_isHeld 10 = .ok (.lconst 1, 1) := by decide +kernel
theorem dL_isHeld_11 : decode cL_isHeld 11 = .ok (.goto 4, 3) := by decide +kernel
theorem dL_isHeld_14 : decode cL_isHeld 14 = .ok (.lconst 0, 1) := by decide +kernel
theorem dL_isHeld_15 : decode cL_isHeld 15 = .ok (.lastore, 1) := by decide +kernel
theorem dL_isHeld_16 : decode cL_isHeld 16 = .ok (.goto 6, 3) := by decide +kernel
theorem dL_isHeld_19 : decode cL_isHeld 19 = .ok (.astore_n 3, 1) := by decide +kernel
theorem dL_isHeld_20 : decode cL_isHeld 20 = .ok (.iconst 1, 1) := by decide +kernel
theorem dL_isHeld_21 : decode cL_isHeld 21 = .ok (.ireturn, 1) := by decide +kernel
theorem dL_isHeld_22 : decode cL_isHeld 22 = .ok (.iconst 0, 1) := by decide +kernel
theorem dL_isHeld_23 : decode cL_isHeld 23 = .ok (.ireturn, 1) := by decide +kernel
set_option maxRecDepth 20000 in
theorem ggL_placesIn_X6_placesIn : GoodIn wsL_placesIn wsX6_placesIn := goodIn_ca (goodIn_ca (goodIn_ca (goodIn_r _ [6, 7, 8, 9, 10, 11, 12, 5, 13, 14, 15, 16, 17, 18, 19, 20, 21, 22, 23, 24, 25, 26, 27, 28, 29, 30, 31, 32, 33, 34, 35, 36, 37, 38, 39, 40, 41, 42, 43, 44, 45, 46, 47, 48, 49, 50, 51, 52, 53, 54, 55, 56, 57, 58, 59, 60, 61, 62, 63] rfl (by decide +kernel)) (goodIn_sub (fun _ h => List.mem_cons_of_mem _ (List.mem_append_left _ (List.mem_append_left _ (List.mem_append_right _ h)))) (by decide +kernel))) (goodIn_sub (fun _ h => List.mem_cons_of_mem _ (List.mem_append_left _ (List.mem_append_right _ h))) (by decide +kernel))) (goodIn_sub (fun _ h => List.mem_cons_of_mem _ (List.mem_append_right _ h)) (by decide +kernel))
set_option maxRecDepth 20000 in
theorem gL_placesIn_X6_placesIn : GoodIn wsL_placesIn (wsV RL 99 RX6 yX6_placesIn wsX6_placesIn) := goodIn_app (goodIn_of _ (by decide +kernel)) ggL_placesIn_X6_placesIn
theorem dL_placesIn_0 : decode cL_placesIn 0 = .ok (.aload_n 3, 1) := by decide +kernel
theorem dL_placesIn_1 : decode cL_placesIn 1 = .ok (.iconst 0, 1) := by decide +kernel
theorem dL_placesIn_2 : decode cL_placesIn 2 = .ok (.aload_n 0, 1) := by decide +kernel
theorem dL_placesIn_3 : decode cL_placesIn 3 = .ok (.iload_n 1, 1) := by decide +kernel
theorem dL_placesIn_4 : decode cL_placesIn 4 = .ok (.iload_n 2, 1) := by decide +kernel
theorem dL_placesIn_5 : decode cL_placesIn 5 = .ok (.invokevirtual 99, 3) := by decide +kernel
theorem dL_placesIn_8 : decode cL_placesIn 8 = .ok (.i2l, 1) := by decide +kernel
theorem dL_placesIn_9 : decode cL_placesIn 9 = .ok (.lastore, 1) := by decide +kernel
theorem dL_placesIn_10 : decode cL_placesIn 10 = .ok (.goto 7, 3) := by decide +kernel
theorem dL_placesIn_13 : decode cL_placesIn 13 = .ok (.astore 4, 2) := by decide +kernel
theorem dL_placesIn_15 : decode cL_placesIn 15 = .ok (.iconst 1, 1) := by decide +kernel
theorem dL_placesIn_16 : decode cL_placesIn 16 = .ok (.ireturn, 1) := by decide +kernel
theorem dL_placesIn_17 : decode cL_placesIn 17 = .ok (.iconst 0, 1) := by decide +kernel
theorem dL_placesIn_18 : decode cL_placesIn 18 = .ok (.ireturn, 1) := by decide +kernel
set_option maxRecDepth 20000 in
theorem ggL_whyNot_X6_whyNot : GoodIn wsL_whyNot wsX6_whyNot := goodIn_ca (goodIn_ca (goodIn_ca (goodIn_r _ [7, 8, 9, 10, 11, 12, 13, 6, 14, 15, 16, 17, 18, 19, 20, 21, 22, 23, 24, 25, 26, 27, 28, 29, 30, 31, 32, 33, 34, 35, 36, 37, 38, 39, 40, 41, 42, 43, 44, 45, 46, 47, 48, 49, 50, 51, 52, 53, 54, 55, 56, 57, 58, 59, 60, 61, 62, 63, 64, 65, 66, 67, 68, 69, 70, 71, 72, 73, 74, 75, 76, 77, 78, 79, 80, 81, 82, 83, 84, 85, 86, 87, 88, 89, 90, 91, 92, 93, 94, 95, 96, 97, 98, 99, 100, 101, 102, 103, 104, 105, 106, 107, 108, 109, 110, 111, 112, 113, 114, 115, 116, 117, 118, 119, 120, 121, 122, 123, 124, 125, 126, 127, 128, 129, 130, 131, 132, 133, 134, 135, 136, 137, 138, 139, 140, 141] rfl (by decide +kernel)) (goodIn_sub (fun _ h => List.mem_cons_of_mem _ (List.mem_append_left _ (List.mem_append_left _ (List.mem_append_right _ h)))) (by decide +kernel))) (goodIn_sub (fun _ h => List.mem_cons_of_mem _ (List.mem_append_left _ (List.mem_append_right _ h))) (by decide +kernel))) (goodIn_sub (fun _ h => List.mem_cons_of_mem _ (List.mem_append_right _ h)) (by decide +kernel))
set_option maxRecDepth 20000 in
theorem gL_whyNot_X6_whyNot : GoodIn wsL_whyNot (wsV RL 102 RX6 yX6_whyNot wsX6_whyNot) := goodIn_app (goodIn_of _ (by decide +kernel)) ggL_whyNot_X6_whyNot
theorem dL_whyNot_0 : decode cL_whyNot 0 = .ok (.aload 4, 2) := by decide +kernel
theorem dL_whyNot_2 : decode cL_whyNot 2 = .ok (.iconst 0, 1) := by decide +kernel
theorem dL_whyNot_3 : decode cL_whyNot 3 = .ok (.aload_n 0, 1) := by decide +kernel
theorem dL_whyNot_4 : decode cL_whyNot 4 = .ok (.iload_n 1, 1) := by decide +kernel
theorem dL_whyNot_5 : decode cL_whyNot 5 = .ok (.iload_n 2, 1) := by decide +kernel
theorem dL_whyNot_6 : decode cL_whyNot 6 = .ok (.iload_n 3, 1) := by decide +kernel
theorem dL_whyNot_7 : decode cL_whyNot 7 = .ok (.invokevirtual 102, 3) := by decide +kernel
theorem dL_whyNot_10 : decode cL_whyNot 10 = .ok (.i2l, 1) := by decide +kernel
theorem dL_whyNot_11 : decode cL_whyNot 11 = .ok (.lastore, 1) := by decide +kernel
theorem dL_whyNot_12 : decode cL_whyNot 12 = .ok (.goto 11, 3) := by decide +kernel
theorem dL_whyNot_15 : decode cL_whyNot 15 = .ok (.astore 5, 2) := by decide +kernel
theorem dL_whyNot_17 : decode cL_whyNot 17 = .ok (.iconst 1, 1) := by decide +kernel
theorem dL_whyNot_18 : decode cL_whyNot 18 = .ok (.ireturn, 1) := by decide +kernel
theorem dL_whyNot_19 : decode cL_whyNot 19 = .ok (.astore 5, 2) := by decide +kernel
theorem dL_whyNot_21 : decode cL_whyNot 21 = .ok (.iconst 2, 1) := by decide +kernel
theorem dL_whyNot_22 : decode cL_whyNot 22 = .ok (.ireturn, 1) := by decide +kernel
theorem dL_whyNot_23 : decode cL_whyNot 23 = .ok (.iconst 0, 1) := by decide +kernel
theorem dL_whyNot_24 : decode cL_whyNot 24 = .ok (.ireturn, 1) := by decide +kernel
set_option maxRecDepth 20000 in
theorem ggL_lineOf_X6_lineOf : GoodIn wsL_lineOf wsX6_lineOf := goodIn_ca (goodIn_ca (goodIn_ca (goodIn_r _ [6, 7, 8, 9, 10, 11, 12, 5, 13, 14, 15, 16, 17, 18, 19, 20, 21, 22, 23, 24, 25, 26, 27, 28, 29, 30, 31, 32, 33, 34, 35, 36, 37, 38, 39, 40, 41, 42, 43, 44, 45, 46, 47, 48, 49, 50, 51, 52, 53, 54, 55, 56, 57, 58, 59, 60, 61, 62, 63, 64, 65, 66, 67, 68, 69, 70, 71, 72, 73, 74, 75, 76, 77, 78, 79, 80, 81, 82, 83, 84, 85, 86, 87, 88, 89, 90, 91, 92, 93, 94, 95, 96, 97, 98, 99, 100, 101, 102, 103, 104, 105, 106, 107, 108, 109, 110, 111, 112, 113, 114, 115, 116, 117, 118, 119, 120, 121, 122, 123, 124, 125, 126, 127, 128, 129, 130, 131, 132, 133, 134, 135, 136, 137, 138, 139, 140, 141, 142, 143, 144, 145, 146, 147, 148, 149, 150, 151, 152, 153, 154, 155, 156, 157, 158, 159, 160, 161, 162, 163, 164, 165, 166, 167, 168, 169, 170, 171, 172, 173, 174, 175, 176, 177, 178, 179, 180, 181, 182, 183, 184, 185, 186, 187, 188, 189, 190, 191, 192, 193, 194, 195, 196, 197, 198] rfl (by decide +kernel)) (goodIn_sub (fun _ h => List.mem_cons_of_mem _ (List.mem_append_left _ (List.mem_append_left _ (List.mem_append_right _ h)))) (by decide +kernel))) (goodIn_sub (fun _ h => List.mem_cons_of_mem _ (List.mem_append_left _ (List.mem_append_right _ h))) (by decide +kernel))) (goodIn_sub (fun _ h => List.mem_cons_of_mem _ (List.mem_append_right _ h)) (by decide +kernel))
set_option maxRecDepth 20000 in
theorem gL_lineOf_X6_lineOf : GoodIn wsL_lineOf (wsV RL 105 RX6 yX6_lineOf wsX6_lineOf) := goodIn_app (goodIn_of _ (by decide +kernel)) ggL_lineOf_X6_lineOf
theorem dL_lineOf_0 : decode cL_lineOf 0 = .ok (.aload_n 3, 1) := by decide +kernel
theorem dL_lineOf_1 : decode cL_lineOf 1 = .ok (.iconst 0, 1) := by decide +kernel
theorem dL_lineOf_2 : decode cL_lineOf 2 = .ok (.aload_n 0, 1) := by decide +kernel
theorem dL_lineOf_3 : decode cL_lineOf 3 = .ok (.iload_n 1, 1) := by decide +kernel
theorem dL_lineOf_4 : decode cL_lineOf 4 = .ok (.iload_n 2, 1) := by decide +kernel
theorem dL_lineOf_5 : decode cL_lineOf 5 = .ok (.invokevirtual 105, 3) := by decide +kernel
theorem dL_lineOf_8 : decode cL_lineOf 8 = .ok (.i2l, 1) := by decide +kernel
theorem dL_lineOf_9 : decode cL_lineOf 9 = .ok (.lastore, 1) := by decide +kernel
theorem dL_lineOf_10 : decode cL_lineOf 10 = .ok (.goto 7, 3) := by decide +kernel
theorem dL_lineOf_13 : decode cL_lineOf 13 = .ok (.astore 4, 2) := by decide +kernel
theorem dL_lineOf_15 : decode cL_lineOf 15 = .ok (.iconst 1, 1) := by decide +kernel
theorem dL_lineOf_16 : decode cL_lineOf 16 = .ok (.ireturn, 1) := by decide +kernel
theorem dL_lineOf_17 : decode cL_lineOf 17 = .ok (.iconst 0, 1) := by decide +kernel
theorem dL_lineOf_18 : decode cL_lineOf 18 = .ok (.ireturn, 1) := by decide +kernel
set_option maxRecDepth 20000 in
theorem ggL_singersIn_X6_singersIn : GoodIn wsL_singersIn wsX6_singersIn := goodIn_ca (goodIn_ca (goodIn_ca (goodIn_r _ [6, 7, 8, 9, 10, 11, 5, 12, 13, 14, 15, 16, 17, 18, 19, 20, 21, 22, 23, 24, 25, 26, 27, 28, 29, 30, 31, 32, 33, 34, 35, 36, 37, 38, 39, 40, 41, 42, 43, 44, 45, 46, 47, 48, 49, 50, 51, 52, 53, 54, 55, 56, 57, 58, 59, 60, 61, 62, 63, 64, 65, 66, 67, 68, 69, 70, 71, 72, 73, 74, 75, 76, 77, 78, 79, 80, 81, 82, 83, 84, 85, 86, 87, 88, 89, 90, 91, 92, 93, 94, 95, 96, 97, 98, 99, 100, 101, 102, 103, 104, 105, 106, 107, 108, 109, 110, 111, 112, 113, 114, 115, 116, 117, 118, 119, 120, 121, 122, 123, 124, 125, 126, 127, 128, 129, 130, 131, 132, 133, 134, 135, 136, 137, 138, 139, 140, 141, 142, 143, 144, 145, 146, 147, 148, 149, 150, 151, 152, 153, 154, 155, 156, 157, 158, 159, 160, 161, 162, 163, 164, 165, 166, 167, 168, 169, 170, 171, 172, 173, 174, 175, 176, 177, 178, 179, 180, 181, 182, 183, 184, 185, 186, 187, 188, 189, 190, 191, 192, 193, 194, 195, 196, 197, 198, 199, 200] rfl (by decide +kernel)) (goodIn_sub (fun _ h => List.mem_cons_of_mem _ (List.mem_append_left _ (List.mem_append_left _ (List.mem_append_right _ h)))) (by decide +kernel))) (goodIn_sub (fun _ h => List.mem_cons_of_mem _ (List.mem_append_left _ (List.mem_append_right _ h))) (by decide +kernel))) (goodIn_sub (fun _ h => List.mem_cons_of_mem _ (List.mem_append_right _ h)) (by decide +kernel))
set_option maxRecDepth 20000 in
theorem gL_singersIn_X6_singersIn : GoodIn wsL_singersIn (wsV RL 108 RX6 yX6_singersIn wsX6_singersIn) := goodIn_app (goodIn_of _ (by decide +kernel)) ggL_singersIn_X6_singersIn
theorem dL_singersIn_0 : decode cL_singersIn 0 = .ok (.aload_n 3, 1) := by decide +kernel
theorem dL_singersIn_1 : decode cL_singersIn 1 = .ok (.iconst 0, 1) := by decide +kernel
theorem dL_singersIn_2 : decode cL_singersIn 2 = .ok (.aload_n 0, 1) := by decide +kernel
theorem dL_singersIn_3 : decode cL_singersIn 3 = .ok (.iload_n 1, 1) := by decide +kernel
theorem dL_singersIn_4 : decode cL_singersIn 4 = .ok (.iload_n 2, 1) := by decide +kernel
theorem dL_singersIn_5 : decode cL_singersIn 5 = .ok (.invokevirtual 108, 3) := by decide +kernel
theorem dL_singersIn_8 : decode cL_singersIn 8 = .ok (.i2l, 1) := by decide +kernel
theorem dL_singersIn_9 : decode cL_singersIn 9 = .ok (.lastore, 1) := by decide +kernel
theorem dL_singersIn_10 : decode cL_singersIn 10 = .ok (.goto 7, 3) := by decide +kernel
theorem dL_singersIn_13 : decode cL_singersIn 13 = .ok (.astore 4, 2) := by decide +kernel
theorem dL_singersIn_15 : decode cL_singersIn 15 = .ok (.iconst 1, 1) := by decide +kernel
theorem dL_singersIn_16 : decode cL_singersIn 16 = .ok (.ireturn, 1) := by decide +kernel
theorem dL_singersIn_17 : decode cL_singersIn 17 = .ok (.iconst 0, 1) := by decide +kernel
theorem dL_singersIn_18 : decode cL_singersIn 18 = .ok (.ireturn, 1) := by decide +kernel
set_option maxRecDepth 20000 in
theorem ggL_shortfall_X6_shortfall : GoodIn wsL_shortfall wsX6_shortfall := goodIn_ca (goodIn_ca (goodIn_ca (goodIn_r _ [6, 7, 8, 9, 10, 11, 12, 5, 13, 14, 15, 16, 17, 18, 19, 20, 21, 22, 23, 24, 25, 26, 27, 28, 29, 30, 31, 32, 33, 34, 35, 36, 37, 38, 39, 40, 41, 42, 43, 44, 45, 46, 47, 48, 49, 50, 51, 52, 53, 54, 55, 56, 57, 58, 59, 60, 61, 62, 63, 64, 65, 66, 67, 68, 69, 70, 71, 72, 73, 74, 75, 76, 77, 78, 79, 80, 81, 82, 83, 84, 85, 86, 87, 88, 89, 90, 91, 92, 93, 94, 95, 96, 97, 98, 99, 100, 101, 102, 103, 104, 105, 106, 107, 108, 109, 110, 111, 112, 113, 114, 115, 116, 117, 118, 119, 120, 121, 122, 123, 124, 125, 126, 127, 128, 129, 130, 131, 132, 133, 134, 135, 136, 137, 138, 139, 140, 141, 142, 143, 144, 145, 146, 147, 148, 149, 150, 151, 152, 153, 154, 155, 156, 157, 158, 159, 160, 161, 162, 163, 164, 165, 166, 167, 168, 169, 170, 171, 172, 173, 174, 175, 176, 177, 178, 179, 180, 181, 182, 183, 184, 185, 186, 187, 188, 189, 190, 191, 192, 193, 194, 195, 196, 197, 198, 199, 200] rfl (by decide +kernel)) (goodIn_sub (fun _ h => List.mem_cons_of_mem _ (List.mem_append_left _ (List.mem_append_left _ (List.mem_append_right _ h)))) (by decide +kernel))) (goodIn_sub (fun _ h => List.mem_cons_of_mem _ (List.mem_append_left _ (List.mem_append_right _ h))) (by decide +kernel))) (goodIn_sub (fun _ h => List.mem_cons_of_mem _ (List.mem_append_right _ h)) (by decide +kernel))
set_option maxRecDepth 20000 in
theorem gL_shortfall_X6_shortfall : GoodIn wsL_shortfall (wsV RL 111 RX6 yX6_shortfall wsX6_shortfall) := goodIn_app (goodIn_of _ (by decide +kernel)) ggL_shortfall_X6_shortfall
theorem dL_shortfall_0 : decode cL_shortfall 0 = .ok (.aload_n 2, 1) := by decide +kernel
theorem dL_shortfall_1 : decode cL_shortfall 1 = .ok (.iconst 0, 1) := by decide +kernel
theorem dL_shortfall_2 : decode cL_shortfall 2 = .ok (.aload_n 0, 1) := by decide +kernel
theorem dL_shortfall_3 : decode cL_shortfall 3 = .ok (.iload_n 1, 1) := by decide +kernel
theorem dL_shortfall_4 : decode cL_shortfall 4 = .ok (.invokevirtual 111, 3) := by decide +kernel
theorem dL_shortfall_7 : decode cL_shortfall 7 = .ok (.i2l, 1) := by decide +kernel
theorem dL_shortfall_8 : decode cL_shortfall 8 = .ok (.lastore, 1) := by decide +kernel
theorem dL_shortfall_9 : decode cL_shortfall 9 = .ok (.goto 6, 3) := by decide +kernel
theorem dL_shortfall_12 : decode cL_shortfall 12 = .ok (.astore_n 3, 1) := by decide +kernel
theorem dL_shortfall_13 : decode cL_shortfall 13 = .ok (.iconst 1, 1) := by decide +kernel
theorem dL_shortfall_14 : decode cL_shortfall 14 = .ok (.ireturn, 1) := by decide +kernel
theorem dL_shortfall_15 : decode cL_shortfall 15 = .ok (.iconst 0, 1) := by decide +kernel
theorem dL_shortfall_16 : decode cL_shortfall 16 = .ok (.ireturn, 1) := by decide +kernel
set_option maxRecDepth 20000 in
theorem ggL_shortfallBySets_X6_shortfallBySets : GoodIn wsL_shortfallBySets wsX6_shortfallBySets := goodIn_ca (goodIn_ca (goodIn_ca (goodIn_r _ [7, 8, 9, 10, 11, 12, 6, 13, 14, 15, 16, 17, 18, 19, 20, 21, 22, 23, 24, 25, 26, 27, 28, 29, 30, 31, 32, 33, 34, 35, 36, 37, 38, 39, 40, 41, 42, 43, 44, 45, 46, 47, 48, 49, 50, 51, 52, 53, 54, 55, 56, 57, 58, 59, 60, 61, 62, 63, 64, 65, 66, 67, 68, 69, 70, 71, 72, 73, 74, 75, 76, 77, 78, 79, 80, 81, 82, 83, 84, 85, 86, 87, 88, 89, 90, 91, 92, 93, 94, 95, 96, 97, 98, 99, 100, 101, 102, 103, 104, 105, 106, 107, 108, 109, 110, 111, 112, 113, 114, 115, 116, 117, 118, 119, 120, 121, 122, 123, 124, 125, 126, 127, 128, 129, 130, 131, 132, 133, 134, 135, 136, 137, 138, 139, 140, 141, 142, 143, 144, 145, 146, 147, 148, 149] rfl (by decide +kernel)) (goodIn_sub (fun _ h => List.mem_cons_of_mem _ (List.mem_append_left _ (List.mem_append_left _ (List.mem_append_right _ h)))) (by decide +kernel))) (goodIn_sub (fun _ h => List.mem_cons_of_mem _ (List.mem_append_left _ (List.mem_append_right _ h))) (by decide +kernel))) (goodIn_sub (fun _ h => List.mem_cons_of_mem _ (List.mem_append_right _ h)) (by decide +kernel))
set_option maxRecDepth 20000 in
theorem gL_shortfallBySets_X6_shortfallBySets : GoodIn wsL_shortfallBySets (wsV RL 114 RX6 yX6_shortfallBySets wsX6_shortfallBySets) := goodIn_app (goodIn_of _ (by decide +kernel)) ggL_shortfallBySets_X6_shortfallBySets
theorem dL_shortfallBySets_0 : decode cL_shortfallBySets 0 = .ok (.aload_n 2, 1) := by decide +kernel
theorem dL_shortfallBySets_1 : decode cL_shortfallBySets 1 = .ok (.iconst 0, 1) := by decide +kernel
theorem dL_shortfallBySets_2 : decode cL_shortfallBySets 2 = .ok (.aload_n 0, 1) := by decide +kernel
theorem dL_shortfallBySets_3 : decode cL_shortfallBySets 3 = .ok (.iload_n 1, 1) := by decide +kernel
theorem dL_shortfallBySets_4 : decode cL_shortfallBySets 4 = .ok (.invokevirtual 114, 3) := by decide +kernel
theorem dL_shortfallBySets_7 : decode cL_shortfallBySets 7 = .ok (.i2l, 1) := by decide +kernel
theorem dL_shortfallBySets_8 : decode cL_shortfallBySets 8 = .ok (.lastore, 1) := by decide +kernel
theorem dL_shortfallBySets_9 : decode cL_shortfallBySets 9 = .ok (.goto 9, 3) := by decide +kernel
theorem dL_shortfallBySets_12 : decode cL_shortfallBySets 12 = .ok (.astore_n 3, 1) := by decide +kernel
theorem dL_shortfallBySets_13 : decode cL_shortfallBySets 13 = .ok (.iconst 1, 1) := by decide +kernel
theorem dL_shortfallBySets_14 : decode cL_shortfallBySets 14 = .ok (.ireturn, 1) := by decide +kernel
theorem dL_shortfallBySets_15 : decode cL_shortfallBySets 15 = .ok (.astore_n 3, 1) := by decide +kernel
theorem dL_shortfallBySets_16 : decode cL_shortfallBySets 16 = .ok (.iconst 2, 1) := by decide +kernel
theorem dL_shortfallBySets_17 : decode cL_shortfallBySets 17 = .ok (.ireturn, 1) := by decide +kernel
theorem dL_shortfallBySets_18 : decode cL_shortfallBySets 18 = .ok (.iconst 0, 1) := by decide +kernel
theorem dL_shortfallBySets_19 : decode cL_shortfallBySets 19 = .ok (.ireturn, 1) := by decide +kernel
set_option maxRecDepth 20000 in
theorem ggL_neededLine_X6_neededLine : GoodIn wsL_neededLine wsX6_neededLine := goodIn_ca (goodIn_ca (goodIn_ca (goodIn_r _ [7, 8, 9, 10, 11, 12, 13, 14, 6, 15, 16, 17, 18, 19, 20, 21, 22, 23, 24, 25, 26, 27, 28, 29, 30, 31, 32, 33, 34, 35, 36, 37, 38, 39, 40, 41, 42, 43, 44, 45, 46, 47, 48, 49, 50, 51, 52, 53, 54, 55, 56, 57, 58, 59, 60, 61, 62, 63, 64, 65, 66, 67, 68, 69, 70, 71, 72, 73, 74, 75, 76, 77, 78, 79, 80, 81, 82, 83, 84, 85, 86, 87, 88, 89, 90, 91, 92, 93, 94, 95, 96, 97, 98, 99, 100, 101, 102, 103, 104, 105, 106, 107, 108, 109, 110, 111, 112, 113, 114, 115, 116, 117, 118, 119, 120, 121, 122, 123, 124, 125, 126, 127, 128, 129, 130, 131, 132, 133, 134, 135, 136, 137, 138, 139, 140, 141, 142, 143, 144, 145, 146, 147, 148, 149, 150] rfl (by decide +kernel)) (goodIn_sub (fun _ h => List.mem_cons_of_mem _ (List.mem_append_left _ (List.mem_append_left _ (List.mem_append_right _ h)))) (by decide +kernel))) (goodIn_sub (fun _ h => List.mem_cons_of_mem _ (List.mem_append_left _ (List.mem_append_right _ h))) (by decide +kernel))) (goodIn_sub (fun _ h => List.mem_cons_of_mem _ (List.mem_append_right _ h)) (by decide +kernel))
set_option maxRecDepth 20000 in
theorem gL_neededLine_X6_neededLine : GoodIn wsL_neededLine (wsV RL 117 RX6 yX6_neededLine wsX6_neededLine) := goodIn_app (goodIn_of _ (by decide +kernel)) ggL_neededLine_X6_neededLine
theorem dL_neededLine_0 : decode cL_neededLine 0 = .ok (.aload_n 2, 1) := by decide +kernel
theorem dL_neededLine_1 : decode cL_neededLine 1 = .ok (.iconst 0, 1) := by decide +kernel
theorem dL_neededLine_2 : decode cL_neededLine 2 = .ok (.aload_n 0, 1) := by decide +kernel
theorem dL_neededLine_3 : decode cL_neededLine 3 = .ok (.iload_n 1, 1) := by decide +kernel
theorem dL_neededLine_4 : decode cL_neededLine 4 = .ok (.invokevirtual 117, 3) := by decide +kernel
theorem dL_neededLine_7 : decode cL_neededLine 7 = .ok (.i2l, 1) := by decide +kernel
theorem dL_neededLine_8 : decode cL_neededLine 8 = .ok (.lastore, 1) := by decide +kernel
theorem dL_neededLine_9 : decode cL_neededLine 9 = .ok (.goto 9, 3) := by decide +kernel
theorem dL_neededLine_12 : decode cL_neededLine 12 = .ok (.astore_n 3, 1) := by decide +kernel
theorem dL_neededLine_13 : decode cL_neededLine 13 = .ok (.iconst 1, 1) := by decide +kernel
theorem dL_neededLine_14 : decode cL_neededLine 14 = .ok (.ireturn, 1) := by decide +kernel
theorem dL_neededLine_15 : decode cL_neededLine 15 = .ok (.astore_n 3, 1) := by decide +kernel
theorem dL_neededLine_16 : decode cL_neededLine 16 = .ok (.iconst 2, 1) := by decide +kernel
theorem dL_neededLine_17 : decode cL_neededLine 17 = .ok (.ireturn, 1) := by decide +kernel
theorem dL_neededLine_18 : decode cL_neededLine 18 = .ok (.iconst 0, 1) := by decide +kernel
theorem dL_neededLine_19 : decode cL_neededLine 19 = .ok (.ireturn, 1) := by decide +kernel
set_option maxRecDepth 20000 in
theorem ggL_descantIn_X6_descantIn : GoodIn wsL_descantIn wsX6_descantIn := goodIn_ca (goodIn_ca (goodIn_ca (goodIn_r _ [6, 7, 8, 9, 10, 11, 12, 13, 5, 14, 15, 16, 17, 18, 19, 20, 21, 22, 23, 24, 25, 26, 27, 28, 29, 30, 31, 32, 33, 34, 35, 36, 37, 38, 39, 40, 41, 42, 43, 44, 45, 46, 47, 48, 49, 50, 51, 52, 53, 54, 55, 56, 57, 58, 59, 60, 61, 62, 63, 64, 65, 66, 67, 68, 69, 70, 71, 72, 73, 74, 75, 76, 77, 78, 79, 80, 81, 82, 83, 84, 85, 86, 87, 88, 89, 90, 91, 92, 93, 94, 95, 96, 97, 98, 99, 100, 101, 102, 103, 104, 105, 106, 107, 108, 109, 110, 111, 112, 113, 114, 115, 116, 117, 118, 119, 120, 121, 122, 123, 124, 125, 126, 127, 128, 129, 130, 131, 132, 133, 134, 135, 136, 137, 138, 139, 140, 141, 142, 143, 144, 145, 146, 147, 148, 149, 150, 151, 152, 153, 154, 155, 156, 157, 158, 159, 160, 161, 162, 163, 164, 165, 166, 167, 168, 169, 170, 171, 172, 173, 174, 175, 176, 177, 178, 179, 180, 181, 182, 183, 184, 185, 186, 187, 188, 189, 190, 191, 192, 193, 194, 195, 196, 197, 198, 199, 200, 201, 202, 203, 204] rfl (by decide +kernel)) (goodIn_sub (fun _ h => List.mem_cons_of_mem _ (List.mem_append_left _ (List.mem_append_left _ (List.mem_append_right _ h)))) (by decide +kernel))) (goodIn_sub (fun _ h => List.mem_cons_of_mem _ (List.mem_append_left _ (List.mem_append_right _ h))) (by decide +kernel))) (goodIn_sub (fun _ h => List.mem_cons_of_mem _ (List.mem_append_right _ h)) (by decide +kernel))
set_option maxRecDepth 20000 in
theorem gL_descantIn_X6_descantIn : GoodIn wsL_descantIn (wsV RL 120 RX6 yX6_descantIn wsX6_descantIn) := goodIn_app (goodIn_of _ (by decide +kernel)) ggL_descantIn_X6_descantIn
theorem dL_descantIn_0 : decode cL_descantIn 0 = .ok (.aload_n 2, 1) := by decide +kernel
theorem dL_descantIn_1 : decode cL_descantIn 1 = .ok (.iconst 0, 1) := by decide +kernel
theorem dL_descantIn_2 : decode cL_descantIn 2 = .ok (.aload_n 0, 1) := by decide +kernel
theorem dL_descantIn_3 : decode cL_descantIn 3 = .ok (.iload_n 1, 1) := by decide +kernel
theorem dL_descantIn_4 : decode cL_descantIn 4 = .ok (.invokevirtual 120, 3) := by decide +kernel
theorem dL_descantIn_7 : decode cL_descantIn 7 = .ok (.i2l, 1) := by decide +kernel
theorem dL_descantIn_8 : decode cL_descantIn 8 = .ok (.lastore, 1) := by decide +kernel
theorem dL_descantIn_9 : decode cL_descantIn 9 = .ok (.goto 6, 3) := by decide +kernel
theorem dL_descantIn_12 : decode cL_descantIn 12 = .ok (.astore_n 3, 1) := by decide +kernel
theorem dL_descantIn_13 : decode cL_descantIn 13 = .ok (.iconst 1, 1) := by decide +kernel
theorem dL_descantIn_14 : decode cL_descantIn 14 = .ok (.ireturn, 1) := by decide +kernel
theorem dL_descantIn_15 : decode cL_descantIn 15 = .ok (.iconst 0, 1) := by decide +kernel
theorem dL_descantIn_16 : decode cL_descantIn 16 = .ok (.ireturn, 1) := by decide +kernel
set_option maxRecDepth 20000 in
theorem ggL_pewOf_X6_pewOf : GoodIn wsL_pewOf wsX6_pewOf := goodIn_ca (goodIn_ca (goodIn_ca (goodIn_r _ [6, 7, 8, 9, 10, 11, 12, 5, 13, 14, 15, 16, 17, 18, 19, 20, 21, 22, 23, 24, 25, 26, 27, 28, 29, 30, 31, 32, 33, 34, 35, 36, 37, 38, 39, 40, 41, 42, 43, 44, 45, 46, 47, 48, 49, 50, 51, 52, 53, 54, 55, 56, 57, 58, 59, 60, 61, 62, 63, 64, 65, 66, 67, 68, 69, 70, 71, 72, 73, 74, 75, 76, 77, 78, 79, 80, 81, 82, 83, 84, 85, 86, 87, 88, 89, 90, 91, 92, 93, 94, 95, 96, 97, 98, 99, 100, 101, 102, 103, 104, 105, 106, 107, 108, 109, 110, 111, 112, 113, 114, 115, 116, 117, 118, 119, 120, 121, 122, 123, 124, 125, 126, 127, 128, 129, 130, 131, 132, 133, 134, 135, 136, 137, 138, 139, 140, 141, 142, 143, 144, 145, 146, 147, 148, 149, 150, 151, 152, 153, 154, 155, 156, 157, 158, 159, 160, 161, 162, 163, 164, 165, 166, 167, 168, 169, 170, 171, 172, 173, 174, 175, 176, 177, 178, 179, 180, 181, 182, 183, 184, 185, 186, 187, 188, 189, 190, 191, 192, 193, 194, 195, 196, 197, 198, 199, 200, 201, 202, 203, 204, 205, 206] rfl (by decide +kernel)) (goodIn_sub (fun _ h => List.mem_cons_of_mem _ (List.mem_append_left _ (List.mem_append_left _ (List.mem_append_right _ h)))) (by decide +kernel))) (goodIn_sub (fun _ h => List.mem_cons_of_mem _ (List.mem_append_left _ (List.mem_append_right _ h))) (by decide +kernel))) (goodIn_sub (fun _ h => List.mem_cons_of_mem _ (List.mem_append_right _ h)) (by decide +kernel))
set_option maxRecDepth 20000 in
theorem gL_pewOf_X6_pewOf : GoodIn wsL_pewOf (wsV RL 123 RX6 yX6_pewOf wsX6_pewOf) := goodIn_app (goodIn_of _ (by decide +kernel)) ggL_pewOf_X6_pewOf
theorem dL_pewOf_0 : decode cL_pewOf 0 = .ok (.aload_n 3, 1) := by decide +kernel
theorem dL_pewOf_1 : decode cL_pewOf 1 = .ok (.iconst 0, 1) := by decide +kernel
theorem dL_pewOf_2 : decode cL_pewOf 2 = .ok (.aload_n 0, 1) := by decide +kernel
theorem dL_pewOf_3 : decode cL_pewOf 3 = .ok (.iload_n 1, 1) := by decide +kernel
theorem dL_pewOf_4 : decode cL_pewOf 4 = .ok (.iload_n 2, 1) := by decide +kernel
theorem dL_pewOf_5 : decode cL_pewOf 5 = .ok (.invokevirtual 123, 3) := by decide +kernel
theorem dL_pewOf_8 : decode cL_pewOf 8 = .ok (.i2l, 1) := by decide +kernel
theorem dL_pewOf_9 : decode cL_pewOf 9 = .ok (.lastore, 1) := by decide +kernel
theorem dL_pewOf_10 : decode cL_pewOf 10 = .ok (.goto 7, 3) := by decide +kernel
theorem dL_pewOf_13 : decode cL_pewOf 13 = .ok (.astore 4, 2) := by decide +kernel
theorem dL_pewOf_15 : decode cL_pewOf 15 = .ok (.iconst 1, 1) := by decide +kernel
theorem dL_pewOf_16 : decode cL_pewOf 16 = .ok (.ireturn, 1) := by decide +kernel
theorem dL_pewOf_17 : decode cL_pewOf 17 = .ok (.iconst 0, 1) := by decide +kernel
theorem dL_pewOf_18 : decode cL_pewOf 18 = .ok (.ireturn, 1) := by decide +kernel
set_option maxRecDepth 20000 in
theorem ggL_seatOf_X6_seatOf : GoodIn wsL_seatOf wsX6_seatOf := goodIn_ca (goodIn_ca (goodIn_ca (goodIn_r _ [6, 7, 8, 9, 10, 11, 12, 5, 13, 14, 15, 16, 17, 18, 19, 20, 21, 22, 23, 24, 25, 26, 27, 28, 29, 30, 31, 32, 33, 34, 35, 36, 37, 38, 39, 40, 41, 42, 43, 44, 45, 46, 47, 48, 49, 50, 51, 52, 53, 54, 55, 56, 57, 58, 59, 60, 61, 62, 63, 64, 65, 66, 67, 68, 69, 70, 71, 72, 73, 74, 75, 76, 77, 78, 79, 80, 81, 82, 83, 84, 85, 86, 87, 88, 89, 90, 91, 92, 93, 94, 95, 96, 97, 98, 99, 100, 101, 102, 103, 104, 105, 106, 107, 108, 109, 110, 111, 112, 113, 114, 115, 116, 117, 118, 119, 120, 121, 122, 123, 124, 125, 126, 127, 128, 129, 130, 131, 132, 133, 134, 135, 136, 137, 138, 139, 140, 141, 142, 143, 144, 145, 146, 147, 148, 149, 150, 151, 152, 153, 154, 155, 156, 157, 158, 159, 160, 161, 162, 163, 164, 165, 166, 167, 168, 169, 170, 171, 172, 173, 174, 175, 176, 177, 178, 179, 180, 181, 182, 183, 184, 185, 186, 187, 188, 189, 190, 191, 192, 193, 194, 195, 196, 197, 198, 199, 200, 201, 202, 203, 204, 205, 206] rfl (by decide +kernel)) (goodIn_sub (fun _ h => List.mem_cons_of_mem _ (List.mem_append_left _ (List.mem_append_left _ (List.mem_append_right _ h)))) (by decide +kernel))) (goodIn_sub (fun _ h => List.mem_cons_of_mem _ (List.mem_append_left _ (List.mem_append_right _ h))) (by decide +kernel))) (goodIn_sub (fun _ h => List.mem_cons_of_mem _ (List.mem_append_right _ h)) (by decide +kernel))
set_option maxRecDepth 20000 in
theorem gL_seatOf_X6_seatOf : GoodIn wsL_seatOf (wsV RL 126 RX6 yX6_seatOf wsX6_seatOf) := goodIn_app (goodIn_of _ (by decide +kernel)) ggL_seatOf_X6_seatOf
theorem dL_seatOf_0 : decode cL_seatOf 0 = .ok (.aload_n 3, 1) := by decide +kernel
theorem dL_seatOf_1 : decode cL_seatOf 1 = .ok (.iconst 0, 1) := by decide +kernel
theorem dL_seatOf_2 : decode cL_seatOf 2 = .ok (.aload_n 0, 1) := by decide +kernel
theorem dL_seatOf_3 : decode cL_seatOf 3 = .ok (.iload_n 1, 1) := by decide +kernel
theorem dL_seatOf_4 : decode cL_seatOf 4 = .ok (.iload_n 2, 1) := by decide +kernel
theorem dL_seatOf_5 : decode cL_seatOf 5 = .ok (.invokevirtual 126, 3) := by decide +kernel
theorem dL_seatOf_8 : decode cL_seatOf 8 = .ok (.i2l, 1) := by decide +kernel
theorem dL_seatOf_9 : decode cL_seatOf 9 = .ok (.lastore, 1) := by decide +kernel
theorem dL_seatOf_10 : decode cL_seatOf 10 = .ok (.goto 7, 3) := by decide +kernel
theorem dL_seatOf_13 : decode cL_seatOf 13 = .ok (.astore 4, 2) := by decide +kernel
theorem dL_seatOf_15 : decode cL_seatOf 15 = .ok (.iconst 1, 1) := by decide +kernel
theorem dL_seatOf_16 : decode cL_seatOf 16 = .ok (.ireturn, 1) := by decide +kernel
theorem dL_seatOf_17 : decode cL_seatOf 17 = .ok (.iconst 0, 1) := by decide +kernel
theorem dL_seatOf_18 : decode cL_seatOf 18 = .ok (.ireturn, 1) := by decide +kernel
set_option maxRecDepth 20000 in
theorem ggL_favoursOf_X6_favoursOf : GoodIn wsL_favoursOf wsX6_favoursOf := goodIn_ca (goodIn_ca (goodIn_ca (goodIn_r _ [6, 7, 8, 9, 10, 5, 11, 12, 13, 14, 15, 16, 17, 18, 19, 20, 21, 22, 23, 24, 25, 26, 27, 28, 29, 30, 31, 32, 33, 34, 35, 36, 37, 38] rfl (by decide +kernel)) (goodIn_sub (fun _ h => List.mem_cons_of_mem _ (List.mem_append_left _ (List.mem_append_left _ (List.mem_append_right _ h)))) (by decide +kernel))) (goodIn_sub (fun _ h => List.mem_cons_of_mem _ (List.mem_append_left _ (List.mem_append_right _ h))) (by decide +kernel))) (goodIn_sub (fun _ h => List.mem_cons_of_mem _ (List.mem_append_right _ h)) (by decide +kernel))
set_option maxRecDepth 20000 in
theorem gL_favoursOf_X6_favoursOf : GoodIn wsL_favoursOf (wsV RL 129 RX6 yX6_favoursOf wsX6_favoursOf) := goodIn_app (goodIn_of _ (by decide +kernel)) ggL_favoursOf_X6_favoursOf
theorem dL_favoursOf_0 : decode cL_favoursOf 0 = .ok (.aload_n 2, 1) := by decide +kernel
theorem dL_favoursOf_1 : decode cL_favoursOf 1 = .ok (.iconst 0, 1) := by decide +kernel
theorem dL_favoursOf_2 : decode cL_favoursOf 2 = .ok (.aload_n 0, 1) := by decide +kernel
theorem dL_favoursOf_3 : decode cL_favoursOf 3 = .ok (.iload_n 1, 1) := by decide +kernel
theorem dL_favoursOf_4 : decode cL_favoursOf 4 = .ok (.invokevirtual 129, 3) := by decide +kernel
theorem dL_favoursOf_7 : decode cL_favoursOf 7 = .ok (.i2l, 1) := by decide +kernel
theorem dL_favoursOf_8 : decode cL_favoursOf 8 = .ok (.lastore, 1) := by decide +kernel
theorem dL_favoursOf_9 : decode cL_favoursOf 9 = .ok (.goto 6, 3) := by decide +kernel
theorem dL_favoursOf_12 : decode cL_favoursOf 12 = .ok (.astore_n 3, 1) := by decide +kernel
theorem dL_favoursOf_13 : decode cL_favoursOf 13 = .ok (.iconst 1, 1) := by decide +kernel
theorem dL_favoursOf_14 : decode cL_favoursOf 14 = .ok (.ireturn, 1) := by decide +kernel
theorem dL_favoursOf_15 : decode cL_favoursOf 15 = .ok (.iconst 0, 1) := by decide +kernel
theorem dL_favoursOf_16 : decode cL_favoursOf 16 = .ok (.ireturn, 1) := by decide +kernel
