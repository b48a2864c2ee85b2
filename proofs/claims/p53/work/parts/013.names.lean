set_option maxRecDepth 20000 in
theorem ggX6_impossibleOrder_X6_tryOrders_q25 : GoodIn wsX6_impossibleOrder (wsX50) := goodIn_r _ [509, 510, 511, 512, 513, 514, 515, 516, 517, 518, 519, 520] (by decide +kernel) (by decide +kernel)
set_option maxRecDepth 20000 in
theorem ggX6_impossibleOrder_X6_tryOrders_q26 : GoodIn wsX6_impossibleOrder (wsX40) := goodIn_r _ [521, 522, 523, 524] (by decide +kernel) (by decide +kernel)
set_option maxRecDepth 20000 in
theorem ggX6_impossibleOrder_X6_tryOrders_q27 : GoodIn wsX6_impossibleOrder (wsX10) := goodIn_r _ [525, 526, 527, 528, 529, 530, 531, 532] (by decide +kernel) (by decide +kernel)
set_option maxRecDepth 20000 in
theorem ggX6_impossibleOrder_X6_tryOrders_q28 : GoodIn wsX6_impossibleOrder (wsX30) := goodIn_r _ [533, 534, 535, 536, 537] (by decide +kernel) (by decide +kernel)
theorem ggX6_impossibleOrder_X6_tryOrders : GoodIn wsX6_impossibleOrder wsX6_tryOrders := (goodIn_app (a := [Cond.code yX6_tryOrders cX6_tryOrders 2 (some .int)]) ggX6_impossibleOrder_X6_tryOrders_q1 (goodIn_app (goodIn_app (goodIn_app (goodIn_app (goodIn_app (goodIn_app (goodIn_app (goodIn_app ggX6_impossibleOrder_X6_tryOrders_q2 (goodIn_app ggX6_impossibleOrder_X6_tryOrders_q3 (goodIn_app ggX6_impossibleOrder_X6_tryOrders_q4 (goodIn_app ggX6_impossibleOrder_X6_tryOrders_q5 (goodIn_app ggX6_impossibleOrder_X6_tryOrders_q6 (goodIn_app ggX6_impossibleOrder_X6_tryOrders_q7 (goodIn_app ggX6_impossibleOrder_X6_tryOrders_q8 (goodIn_app ggX6_impossibleOrder_X6_tryOrders_q9 (goodIn_app ggX6_impossibleOrder_X6_tryOrders_q10 (goodIn_app ggX6_impossibleOrder_X6_tryOrders_q11 (goodIn_app ggX6_impossibleOrder_X6_tryOrders_q12 (goodIn_app ggX6_impossibleOrder_X6_tryOrders_q13 (goodIn_app ggX6_impossibleOrder_X6_tryOrders_q14 (goodIn_app ggX6_impossibleOrder_X6_tryOrders_q15 (goodIn_app ggX6_impossibleOrder_X6_tryOrders_q16 (goodIn_app ggX6_impossibleOrder_X6_tryOrders_q17 (goodIn_app ggX6_impossibleOrder_X6_tryOrders_q18 (goodIn_app ggX6_impossibleOrder_X6_tryOrders_q19 (goodIn_app ggX6_impossibleOrder_X6_tryOrders_q20 ggX6_impossibleOrder_X6_tryOrders_q21))))))))))))))))))) ggX6_impossibleOrder_X6_tryOrders_q22) ggX6_impossibleOrder_X6_tryOrders_q23) ggX6_impossibleOrder_X6_tryOrders_q24) ggX6_impossibleOrder_X6_tryOrders_q25) ggX6_impossibleOrder_X6_tryOrders_q26) ggX6_impossibleOrder_X6_tryOrders_q27) ggX6_impossibleOrder_X6_tryOrders_q28))
set_option maxRecDepth 20000 in
theorem gX6_impossibleOrder_X6_tryOrders : GoodIn wsX6_impossibleOrder (wsV RX6 124 RX6 yX6_tryOrders wsX6_tryOrders) := goodIn_app (goodIn_of _ (by decide +kernel)) ggX6_impossibleOrder_X6_tryOrders
theorem dX6_impossibleOrder_0 : decode cX6_impossibleOrder 0 = .ok (.aload_n 0, 1) := by decide +kernel
theorem dX6_impossibleOrder_1 : decode cX6_impossibleOrder 1 = .ok (.getfield 37, 3) := by decide +kernel
theorem dX6_impossibleOrder_4 : decode cX6_impossibleOrder 4 = .ok (.invokevirtual 121, 3) := by decide +kernel
theorem dX6_impossibleOrder_7 : decode cX6_impossibleOrder 7 = .ok (.iconst (-1), 1) := by decide +kernel
theorem dX6_impossibleOrder_8 : decode cX6_impossibleOrder 8 = .ok (.if_icmp .ne 7, 3) := by decide +kernel
theorem dX6_impossibleOrder_11 : decode cX6_impossibleOrder 11 = .ok (.iconst 0, 1) := by decide +kernel
theorem dX6_impossibleOrder_12 : decode cX6_impossibleOrder 12 = .ok (.goto 4, 3) := by decide +kernel
theorem dX6_impossibleOrder_15 : decode cX6_impossibleOrder 15 = .ok (.iconst 3, 1) := by decide +kernel
theorem dX6_impossibleOrder_16 : decode cX6_impossibleOrder 16 = .ok (.invokestatic 52, 3) := by decide +kernel
theorem dX6_impossibleOrder_19 : decode cX6_impossibleOrder 19 = .ok (.aload_n 0, 1) := by decide +kernel
theorem dX6_impossibleOrder_20 : decode cX6_impossibleOrder 20 = .ok (.invokevirtual 124, 3) := by decide +kernel
theorem dX6_impossibleOrder_23 : decode cX6_impossibleOrder 23 = .ok (.ireturn, 1) := by decide +kernel
set_option maxRecDepth 20000 in
theorem ggX6_carryOut_X2_findError_q1 : GoodIn wsX6_carryOut ([Cond.code yX2_findError cX2_findError 2 (some .int)]) := goodIn_r _ [8] (by decide +kernel) (by decide +kernel)
set_option maxRecDepth 20000 in
theorem ggX6_carryOut_X2_findError_q2 : GoodIn wsX6_carryOut (wsX2_findError_r1) := goodIn_r _ [9, 10, 11, 12, 7, 13, 14, 15, 16, 17, 18, 19, 20, 21, 22, 23, 24, 25, 26, 27, 28, 29, 30, 31] (by decide +kernel) (by decide +kernel)
set_option maxRecDepth 20000 in
theorem ggX6_carryOut_X2_findError_q3 : GoodIn wsX6_carryOut (wsX2_findError_r2) := goodIn_r _ [32, 33, 34, 35, 36, 37, 38, 39, 40, 41, 42, 43, 44, 45, 46, 47, 48, 49, 50, 51, 52, 53, 54, 55] (by decide +kernel) (by decide +kernel)
set_option maxRecDepth 20000 in
theorem ggX6_carryOut_X2_findError_q4 : GoodIn wsX6_carryOut (wsX2_findError_r3) := goodIn_r _ [56, 57, 58, 59, 60, 61, 62, 63, 64, 65, 66, 67, 68, 69, 70, 71, 72, 73, 74, 75, 76, 77, 78, 79] (by decide +kernel) (by decide +kernel)
set_option maxRecDepth 20000 in
theorem ggX6_carryOut_X2_findError_q5 : GoodIn wsX6_carryOut (wsX2_findError_r4) := goodIn_r _ [80, 81, 82, 83, 84, 85, 86, 87, 88, 89, 90, 91, 92, 93, 94, 95, 96, 97, 98, 99, 100, 101, 102, 103] (by decide +kernel) (by decide +kernel)
set_option maxRecDepth 20000 in
theorem ggX6_carryOut_X2_findError_q6 : GoodIn wsX6_carryOut (wsX2_findError_r5) := goodIn_r _ [104, 105, 106, 107, 108, 109, 110, 111, 112, 113, 114, 115, 116, 117, 118, 119, 120, 121, 122, 123, 124, 125, 126, 127] (by decide +kernel) (by decide +kernel)
set_option maxRecDepth 20000 in
theorem ggX6_carryOut_X2_findError_q7 : GoodIn wsX6_carryOut (wsX2_findError_r6) := goodIn_r _ [128, 129, 130, 131, 132, 133, 134, 135, 136, 137, 138, 139, 140, 141, 142, 143, 144, 145, 146, 147, 148, 149, 150, 151] (by decide +kernel) (by decide +kernel)
set_option maxRecDepth 20000 in
theorem ggX6_carryOut_X2_findError_q8 : GoodIn wsX6_carryOut (wsX2_findError_r7) := goodIn_r _ [152, 153] (by decide +kernel) (by decide +kernel)
set_option maxRecDepth 20000 in
theorem ggX6_carryOut_X2_findError_q9 : GoodIn wsX6_carryOut (wsX20) := goodIn_r _ [507, 508, 509, 510, 511, 512] (by decide +kernel) (by decide +kernel)
theorem ggX6_carryOut_X2_findError : GoodIn wsX6_carryOut wsX2_findError := (goodIn_app (a := [Cond.code yX2_findError cX2_findError 2 (some .int)]) ggX6_carryOut_X2_findError_q1 (goodIn_app (goodIn_app ggX6_carryOut_X2_findError_q2 (goodIn_app ggX6_carryOut_X2_findError_q3 (goodIn_app ggX6_carryOut_X2_findError_q4 (goodIn_app ggX6_carryOut_X2_findError_q5 (goodIn_app ggX6_carryOut_X2_findError_q6 (goodIn_app ggX6_carryOut_X2_findError_q7 ggX6_carryOut_X2_findError_q8)))))) ggX6_carryOut_X2_findError_q9))
set_option maxRecDepth 20000 in
theorem gX6_carryOut_X2_findError : GoodIn wsX6_carryOut (wsV RX6 121 RX2 yX2_findError wsX2_findError) := goodIn_app (goodIn_of _ (by decide +kernel)) ggX6_carryOut_X2_findError
set_option maxRecDepth 20000 in
theorem ggX6_carryOut_X6_tryOrders_q1 : GoodIn wsX6_carryOut ([Cond.code yX6_tryOrders cX6_tryOrders 2 (some .int)]) := goodIn_r _ [157] (by decide +kernel) (by decide +kernel)
set_option maxRecDepth 20000 in
theorem ggX6_carryOut_X6_tryOrders_q2 : GoodIn wsX6_carryOut (wsX6_tryOrders_r1) := goodIn_r _ [3, 2, 1, 158, 159, 160, 161, 162, 163, 164, 165, 166, 167, 168, 169, 170, 171, 172, 173, 174, 175, 176, 177, 178] (by decide +kernel) (by decide +kernel)
set_option maxRecDepth 20000 in
theorem ggX6_carryOut_X6_tryOrders_q3 : GoodIn wsX6_carryOut (wsX6_tryOrders_r2) := goodIn_r _ [179, 180, 181, 182, 183, 184, 185, 186, 187, 188, 189, 190, 191, 192, 193, 194, 195, 196, 197, 198, 199, 200, 201, 202] (by decide +kernel) (by decide +kernel)
set_option maxRecDepth 20000 in
theorem ggX6_carryOut_X6_tryOrders_q4 : GoodIn wsX6_carryOut (wsX6_tryOrders_r3) := goodIn_r _ [203, 204, 205, 206, 207, 208, 209, 210, 211, 212, 213, 214, 215, 216, 217, 218, 219, 220, 221, 222, 11, 12, 7, 13] (by decide +kernel) (by decide +kernel)
set_option maxRecDepth 20000 in
theorem ggX6_carryOut_X6_tryOrders_q5 : GoodIn wsX6_carryOut (wsX6_tryOrders_r4) := goodIn_r _ [9, 223, 23, 24, 25, 26, 224, 15, 16, 17, 18, 19, 20, 21, 22, 27, 28, 29, 30, 31, 32, 33, 34, 35] (by decide +kernel) (by decide +kernel)
set_option maxRecDepth 20000 in
theorem ggX6_carryOut_X6_tryOrders_q6 : GoodIn wsX6_carryOut (wsX6_tryOrders_r5) := goodIn_r _ [36, 37, 38, 39, 40, 41, 42, 43, 44, 45, 46, 47, 48, 49, 50, 51, 52, 53, 54, 55, 56, 57, 58, 59] (by decide +kernel) (by decide +kernel)
set_option maxRecDepth 20000 in
theorem ggX6_carryOut_X6_tryOrders_q7 : GoodIn wsX6_carryOut (wsX6_tryOrders_r6) := goodIn_r _ [60, 61, 62, 63, 64, 65, 66, 67, 68, 69, 70, 71, 72, 73, 74, 75, 76, 77, 78, 79, 80, 81, 82, 83] (by decide +kernel) (by decide +kernel)
set_option maxRecDepth 20000 in
theorem ggX6_carryOut_X6_tryOrders_q8 : GoodIn wsX6_carryOut (wsX6_tryOrders_r7) := goodIn_r _ [84, 85, 86, 87, 88, 89, 90, 91, 92, 93, 94, 95, 96, 97, 98, 99, 100, 101, 102, 103, 104, 105, 106, 107] (by decide +kernel) (by decide +kernel)
set_option maxRecDepth 20000 in
theorem ggX6_carryOut_X6_tryOrders_q9 : GoodIn wsX6_carryOut (wsX6_tryOrders_r8) := goodIn_r _ [108, 109, 110, 111, 112, 113, 114, 115, 116, 117, 118, 119, 120, 121, 122, 123, 124, 125, 126, 127, 128, 129, 130, 131] (by decide +kernel) (by decide +kernel)
set_option maxRecDepth 20000 in
theorem ggX6_carryOut_X6_tryOrders_q10 : GoodIn wsX6_carryOut (wsX6_tryOrders_r9) := goodIn_r _ [132, 133, 134, 135, 136, 137, 138, 139, 140, 141, 142, 143, 144, 145, 146, 147, 148, 149, 150, 151, 152, 153, 225, 226] (by decide +kernel) (by decide +kernel)
set_option maxRecDepth 20000 in
theorem ggX6_carryOut_X6_tryOrders_q11 : GoodIn wsX6_carryOut (wsX6_tryOrders_r10) := goodIn_r _ [227, 228, 229, 230, 231, 232, 233, 234, 235, 236, 237, 238, 239, 240, 241, 242, 243, 244, 245, 246, 247, 248, 249, 250] (by decide +kernel) (by decide +kernel)
set_option maxRecDepth 20000 in
theorem ggX6_carryOut_X6_tryOrders_q12 : GoodIn wsX6_carryOut (wsX6_tryOrders_r11) := goodIn_r _ [251, 252, 253, 254, 255, 256, 257, 258, 259, 260, 261, 262, 263, 264, 265, 266, 267, 268, 269, 270, 271, 272, 273, 274] (by decide +kernel) (by decide +kernel)
set_option maxRecDepth 20000 in
theorem ggX6_carryOut_X6_tryOrders_q13 : GoodIn wsX6_carryOut (wsX6_tryOrders_r12) := goodIn_r _ [275, 276, 277, 278, 279, 280, 281, 282, 283, 284, 285, 286, 287, 288, 289, 290, 291, 292, 293, 294, 295, 296, 297, 298] (by decide +kernel) (by decide +kernel)
set_option maxRecDepth 20000 in
theorem ggX6_carryOut_X6_tryOrders_q14 : GoodIn wsX6_carryOut (wsX6_tryOrders_r13) := goodIn_r _ [299, 300, 301, 302, 303, 304, 305, 306, 307, 308, 309, 310, 311, 312, 313, 314, 315, 316, 317, 318, 319, 320, 321, 322] (by decide +kernel) (by decide +kernel)
set_option maxRecDepth 20000 in
theorem ggX6_carryOut_X6_tryOrders_q15 : GoodIn wsX6_carryOut (wsX6_tryOrders_r14) := goodIn_r _ [323, 324, 325, 326, 327, 328, 329, 330, 331, 332, 333, 334, 335, 336, 337, 338, 339, 340, 341, 342, 343, 344, 345, 346] (by decide +kernel) (by decide +kernel)
set_option maxRecDepth 20000 in
theorem ggX6_carryOut_X6_tryOrders_q16 : GoodIn wsX6_carryOut (wsX6_tryOrders_r15) := goodIn_r _ [347, 348, 349, 350, 351, 352, 353, 354, 355, 356, 357, 358, 359, 360, 361, 362, 363, 364, 365, 366, 367, 368, 369, 370] (by decide +kernel) (by decide +kernel)
set_option maxRecDepth 20000 in
theorem ggX6_carryOut_X6_tryOrders_q17 : GoodIn wsX6_carryOut (wsX6_tryOrders_r16) := goodIn_r _ [371, 372, 373, 374, 375, 376, 377, 378, 379, 380, 381, 382, 383, 384, 385, 386, 387, 388, 389, 390, 391, 392, 393, 394] (by decide +kernel) (by decide +kernel)
set_option maxRecDepth 20000 in
theorem ggX6_carryOut_X6_tryOrders_q18 : GoodIn wsX6_carryOut (wsX6_tryOrders_r17) := goodIn_r _ [395, 396, 397, 398, 399, 400, 401, 402, 403, 404, 405, 406, 407, 408, 409, 410, 411, 412, 413, 414, 415, 416, 417, 418] (by decide +kernel) (by decide +kernel)
set_option maxRecDepth 20000 in
theorem ggX6_carryOut_X6_tryOrders_q19 : GoodIn wsX6_carryOut (wsX6_tryOrders_r18) := goodIn_r _ [419, 420, 421, 422, 423, 424, 425, 426, 427, 428, 429, 430, 431, 432, 433, 434, 435, 436, 437, 438, 439, 440, 441, 442] (by decide +kernel) (by decide +kernel)
set_option maxRecDepth 20000 in
theorem ggX6_carryOut_X6_tryOrders_q20 : GoodIn wsX6_carryOut (wsX6_tryOrders_r19) := goodIn_r _ [443, 444, 445, 446, 447, 448, 449, 450, 451, 452, 453, 454, 455, 456, 457, 458, 459, 460, 461, 462, 463, 464, 465, 466] (by decide +kernel) (by decide +kernel)
set_option maxRecDepth 20000 in
theorem ggX6_carryOut_X6_tryOrders_q21 : GoodIn wsX6_carryOut (wsX6_tryOrders_r20) := goodIn_r _ [467, 468, 469, 470, 471, 472, 473, 474, 475] (by decide +kernel) (by decide +kernel)
set_option maxRecDepth 20000 in
theorem ggX6_carryOut_X6_tryOrders_q22 : GoodIn wsX6_carryOut (wsX60) := goodIn_r _ [499, 500, 501, 502, 503, 504, 505, 506] (by decide +kernel) (by decide +kernel)
set_option maxRecDepth 20000 in
theorem ggX6_carryOut_X6_tryOrders_q23 : GoodIn wsX6_carryOut (wsX20) := goodIn_r _ [507, 508, 509, 510, 511, 512] (by decide +kernel) (by decide +kernel)
set_option maxRecDepth 20000 in
theorem ggX6_carryOut_X6_tryOrders_q24 : GoodIn wsX6_carryOut (wsX00) := goodIn_r _ [513, 514, 515, 516, 517, 518, 519, 520, 521, 522] (by decide +kernel) (by decide +kernel)
set_option maxRecDepth 20000 in
theorem ggX6_carryOut_X6_tryOrders_q25 : GoodIn wsX6_carryOut (wsX50) := goodIn_r _ [523, 524, 525, 526, 527, 528, 529, 530, 531, 532, 533, 534] (by decide +kernel) (by decide +kernel)
set_option maxRecDepth 20000 in
theorem ggX6_carryOut_X6_tryOrders_q26 : GoodIn wsX6_carryOut (wsX40) := goodIn_r _ [535, 536, 537, 538] (by decide +kernel) (by decide +kernel)
set_option maxRecDepth 20000 in
theorem ggX6_carryOut_X6_tryOrders_q27 : GoodIn wsX6_carryOut (wsX10) := goodIn_r _ [539, 540, 541, 542, 543, 544, 545, 546] (by decide +kernel) (by decide +kernel)
set_option maxRecDepth 20000 in
theorem ggX6_carryOut_X6_tryOrders_q28 : GoodIn wsX6_carryOut (wsX30) := goodIn_r _ [547, 548, 549, 550, 551] (by decide +kernel) (by decide +kernel)
theorem ggX6_carryOut_X6_tryOrders : GoodIn wsX6_carryOut wsX6_tryOrders := (goodIn_app (a := [Cond.code yX6_tryOrders cX6_tryOrders 2 (some .int)]) ggX6_carryOut_X6_tryOrders_q1 (goodIn_app (goodIn_app (goodIn_app (goodIn_app (goodIn_app (goodIn_app (goodIn_app (goodIn_app ggX6_carryOut_X6_tryOrders_q2 (goodIn_app ggX6_carryOut_X6_tryOrders_q3 (goodIn_app ggX6_carryOut_X6_tryOrders_q4 (goodIn_app ggX6_carryOut_X6_tryOrders_q5 (goodIn_app ggX6_carryOut_X6_tryOrders_q6 (goodIn_app ggX6_carryOut_X6_tryOrders_q7 (goodIn_app ggX6_carryOut_X6_tryOrders_q8 (goodIn_app ggX6_carryOut_X6_tryOrders_q9 (goodIn_app ggX6_carryOut_X6_tryOrders_q10 (goodIn_app ggX6_carryOut_X6_tryOrders_q11 (goodIn_app ggX6_carryOut_X6_tryOrders_q12 (goodIn_app ggX6_carryOut_X6_tryOrders_q13 (goodIn_app ggX6_carryOut_X6_tryOrders_q14 (goodIn_app ggX6_carryOut_X6_tryOrders_q15 (goodIn_app ggX6_carryOut_X6_tryOrders_q16 (goodIn_app ggX6_carryOut_X6_tryOrders_q17 (goodIn_app ggX6_carryOut_X6_tryOrders_q18 (goodIn_app ggX6_carryOut_X6_tryOrders_q19 (goodIn_app ggX6_carryOut_X6_tryOrders_q20 ggX6_carryOut_X6_tryOrders_q21))))))))))))))))))) ggX6_carryOut_X6_tryOrders_q22) ggX6_carryOut_X6_tryOrders_q23) ggX6_carryOut_X6_tryOrders_q24) ggX6_carryOut_X6_tryOrders_q25) ggX6_carryOut_X6_tryOrders_q26) ggX6_carryOut_X6_tryOrders_q27) ggX6_carryOut_X6_tryOrders_q28))
set_option maxRecDepth 20000 in
theorem gX6_carryOut_X6_tryOrders : GoodIn wsX6_carryOut (wsV RX6 124 RX6 yX6_tryOrders wsX6_tryOrders) := goodIn_app (goodIn_of _ (by decide +kernel)) ggX6_carryOut_X6_tryOrders
set_option maxRecDepth 20000 in
theorem ggX6_carryOut_X6_refuseIf : GoodIn wsX6_carryOut wsX6_refuseIf := goodIn_ca (goodIn_ca (goodIn_ca (goodIn_r _ [478, 479, 480, 481, 482, 483, 484] (by decide +kernel) (by decide +kernel)) (goodIn_sub (fun _ h => List.mem_cons_of_mem _ (List.mem_append_left _ (List.mem_append_left _ (List.mem_append_right _ h)))) (by decide +kernel))) (goodIn_sub (fun _ h => List.mem_cons_of_mem _ (List.mem_append_left _ (List.mem_append_right _ h))) (by decide +kernel))) (goodIn_sub (fun _ h => List.mem_cons_of_mem _ (List.mem_append_right _ h)) (by decide +kernel))
set_option maxRecDepth 20000 in
theorem gX6_carryOut_X6_refuseIf : GoodIn wsX6_carryOut (va_wsS RX6 52 yX6_refuseIf wsX6_refuseIf) := goodIn_app (goodIn_of _ (by decide +kernel)) ggX6_carryOut_X6_refuseIf
set_option maxRecDepth 20000 in
theorem ggX6_carryOut_X6_keepState_q1 : GoodIn wsX6_carryOut ([Cond.code yX6_keepState cX6_keepState 1 none]) := goodIn_r _ [488] (by decide +kernel) (by decide +kernel)
set_option maxRecDepth 20000 in
theorem ggX6_carryOut_X6_keepState_q2 : GoodIn wsX6_carryOut (wsX6_keepState_r1) := goodIn_r _ [489, 490, 2, 491, 492, 493, 149, 494, 161, 162, 163, 164, 165, 166, 167, 168, 169, 170, 171, 172, 173, 174, 175, 176] (by decide +kernel) (by decide +kernel)
set_option maxRecDepth 20000 in
theorem ggX6_carryOut_X6_keepState_q3 : GoodIn wsX6_carryOut (wsX6_keepState_r2) := goodIn_r _ [177, 178, 179, 180, 181, 182, 183, 184, 185, 186, 187, 188, 189, 190, 191, 192, 193, 194, 195, 196, 197, 198, 199, 200] (by decide +kernel) (by decide +kernel)
set_option maxRecDepth 20000 in
theorem ggX6_carryOut_X6_keepState_q4 : GoodIn wsX6_carryOut (wsX6_keepState_r3) := goodIn_r _ [201, 202, 203, 204, 205, 206, 207, 208, 209, 210, 211, 212, 213, 214, 215, 216, 217, 218, 219, 220, 221] (by decide +kernel) (by decide +kernel)
set_option maxRecDepth 20000 in
theorem ggX6_carryOut_X6_keepState_q5 : GoodIn wsX6_carryOut (wsX60) := goodIn_r _ [499, 500, 501, 502, 503, 504, 505, 506] (by decide +kernel) (by decide +kernel)
set_option maxRecDepth 20000 in
theorem ggX6_carryOut_X6_keepState_q6 : GoodIn wsX6_carryOut (wsX00) := goodIn_r _ [513, 514, 515, 516, 517, 518, 519, 520, 521, 522] (by decide +kernel) (by decide +kernel)
set_option maxRecDepth 20000 in
theorem ggX6_carryOut_X6_keepState_q7 : GoodIn wsX6_carryOut (wsX50) := goodIn_r _ [523, 524, 525, 526, 527, 528, 529, 530, 531, 532, 533, 534] (by decide +kernel) (by decide +kernel)
set_option maxRecDepth 20000 in
theorem ggX6_carryOut_X6_keepState_q8 : GoodIn wsX6_carryOut (wsX40) := goodIn_r _ [535, 536, 537, 538] (by decide +kernel) (by decide +kernel)
set_option maxRecDepth 20000 in
theorem ggX6_carryOut_X6_keepState_q9 : GoodIn wsX6_carryOut (wsX10) := goodIn_r _ [539, 540, 541, 542, 543, 544, 545, 546] (by decide +kernel) (by decide +kernel)
theorem ggX6_carryOut_X6_keepState : GoodIn wsX6_carryOut wsX6_keepState := (goodIn_app (a := [Cond.code yX6_keepState cX6_keepState 1 none]) ggX6_carryOut_X6_keepState_q1 (goodIn_app (goodIn_app (goodIn_app (goodIn_app (goodIn_app (goodIn_app ggX6_carryOut_X6_keepState_q2 (goodIn_app ggX6_carryOut_X6_keepState_q3 ggX6_carryOut_X6_keepState_q4)) ggX6_carryOut_X6_keepState_q5) ggX6_carryOut_X6_keepState_q6) ggX6_carryOut_X6_keepState_q7) ggX6_carryOut_X6_keepState_q8) ggX6_carryOut_X6_keepState_q9))
set_option maxRecDepth 20000 in
theorem gX6_carryOut_X6_keepState : GoodIn wsX6_carryOut (wsV RX6 56 RX6 yX6_keepState wsX6_keepState) := goodIn_app (goodIn_of _ (by decide +kernel)) ggX6_carryOut_X6_keepState
set_option maxRecDepth 20000 in
theorem ggX6_carryOut_X0_copyFrom_q1 : GoodIn wsX6_carryOut ([Cond.code yX0_copyFrom cX0_copyFrom 2 none]) := goodIn_r _ [165] (by decide +kernel) (by decide +kernel)
set_option maxRecDepth 20000 in
theorem ggX6_carryOut_X0_copyFrom_q2 : GoodIn wsX6_carryOut (wsX0_copyFrom_r1) := goodIn_r _ [166, 167, 168, 169, 170, 171, 172, 173, 174, 175, 176, 177, 178, 179, 180, 181, 182, 183, 184, 185, 186, 187, 188, 189] (by decide +kernel) (by decide +kernel)
set_option maxRecDepth 20000 in
theorem ggX6_carryOut_X0_copyFrom_q3 : GoodIn wsX6_carryOut (wsX0_copyFrom_r2) := goodIn_r _ [190, 191, 192, 193, 194, 195, 196, 197, 198, 199, 200, 201, 202, 203, 204, 205, 206, 207, 208, 209, 210, 211, 212, 213] (by decide +kernel) (by decide +kernel)
set_option maxRecDepth 20000 in
theorem ggX6_carryOut_X0_copyFrom_q4 : GoodIn wsX6_carryOut (wsX0_copyFrom_r3) := goodIn_r _ [214, 215, 216, 217, 218, 219, 220, 221] (by decide +kernel) (by decide +kernel)
set_option maxRecDepth 20000 in
theorem ggX6_carryOut_X0_copyFrom_q5 : GoodIn wsX6_carryOut (wsX00) := goodIn_r _ [513, 514, 515, 516, 517, 518, 519, 520, 521, 522] (by decide +kernel) (by decide +kernel)
set_option maxRecDepth 20000 in
theorem ggX6_carryOut_X0_copyFrom_q6 : GoodIn wsX6_carryOut (wsX50) := goodIn_r _ [523, 524, 525, 526, 527, 528, 529, 530, 531, 532, 533, 534] (by decide +kernel) (by decide +kernel)
set_option maxRecDepth 20000 in
theorem ggX6_carryOut_X0_copyFrom_q7 : GoodIn wsX6_carryOut (wsX40) := goodIn_r _ [535, 536, 537, 538] (by decide +kernel) (by decide +kernel)
set_option maxRecDepth 20000 in
theorem ggX6_carryOut_X0_copyFrom_q8 : GoodIn wsX6_carryOut (wsX10) := goodIn_r _ [539, 540, 541, 542, 543, 544, 545, 546] (by decide +kernel) (by decide +kernel)
theorem ggX6_carryOut_X0_copyFrom : GoodIn wsX6_carryOut wsX0_copyFrom := (goodIn_app (a := [Cond.code yX0_copyFrom cX0_copyFrom 2 none]) ggX6_carryOut_X0_copyFrom_q1 (goodIn_app (goodIn_app (goodIn_app (goodIn_app (goodIn_app ggX6_carryOut_X0_copyFrom_q2 (goodIn_app ggX6_carryOut_X0_copyFrom_q3 ggX6_carryOut_X0_copyFrom_q4)) ggX6_carryOut_X0_copyFrom_q5) ggX6_carryOut_X0_copyFrom_q6) ggX6_carryOut_X0_copyFrom_q7) ggX6_carryOut_X0_copyFrom_q8))
set_option maxRecDepth 20000 in
theorem gX6_carryOut_X0_copyFrom : GoodIn wsX6_carryOut (wsV RX6 127 RX0 yX0_copyFrom wsX0_copyFrom) := goodIn_app (goodIn_of _ (by decide +kernel)) ggX6_carryOut_X0_copyFrom
set_option maxRecDepth 20000 in
theorem ggX6_carryOut_X2_countOrders : GoodIn wsX6_carryOut wsX2_countOrders := goodIn_r _ [498, 26, 18, 507, 508, 509, 510, 511, 512] (by decide +kernel) (by decide +kernel)
set_option maxRecDepth 20000 in
theorem gX6_carryOut_X2_countOrders : GoodIn wsX6_carryOut (wsV RX6 131 RX2 yX2_countOrders wsX2_countOrders) := goodIn_app (goodIn_of _ (by decide +kernel)) ggX6_carryOut_X2_countOrders
theorem dX6_carryOut_0 : decode cX6_carryOut 0 = .ok (.aload_n 0, 1) := by decide +kernel
theorem dX6_carryOut_1 : decode cX6_carryOut 1 = .ok (.getfield 37, 3) := by decide +kernel
theorem dX6_carryOut_4 : decode cX6_carryOut 4 = .ok (.invokevirtual 121, 3) := by decide +kernel
theorem dX6_carryOut_7 : decode cX6_carryOut 7 = .ok (.iconst (-1), 1) := by decide +kernel
theorem dX6_carryOut_8 : decode cX6_carryOut 8 = .ok (.if_icmp .ne 15, 3) := by decide +kernel
theorem dX6_carryOut_11 : decode cX6_carryOut 11 = .ok (.aload_n 0, 1) := by decide +kernel
theorem dX6_carryOut_12 : decode cX6_carryOut 12 = .ok (.invokevirtual 124, 3) := by decide +kernel
theorem dX6_carryOut_15 : decode cX6_carryOut 15 = .ok (.iconst (-1), 1) := by decide +kernel
theorem dX6_carryOut_16 : decode cX6_carryOut 16 = .ok (.if_icmp .ne 7, 3) := by decide +kernel
theorem dX6_carryOut_19 : decode cX6_carryOut 19 = .ok (.iconst 1, 1) := by decide +kernel
theorem dX6_carryOut_20 : decode cX6_carryOut 20 = .ok (.goto 4, 3) := by decide +kernel
theorem dX6_carryOut_23 : decode cX6_carryOut 23 = .ok (.iconst 0, 1) := by decide +kernel
theorem dX6_carryOut_24 : decode cX6_carryOut 24 = .ok (.istore_n 1, 1) := by decide +kernel
theorem dX6_carryOut_25 : decode cX6_carryOut 25 = .ok (.iload_n 1, 1) := by decide +kernel
theorem dX6_carryOut_26 : decode cX6_carryOut 26 = .ok (.ifCond .eq 7, 3) := by decide +kernel
theorem dX6_carryOut_29 : decode cX6_carryOut 29 = .ok (.iconst 0, 1) := by decide +kernel
theorem dX6_carryOut_30 : decode cX6_carryOut 30 = .ok (.goto 4, 3) := by decide +kernel
theorem dX6_carryOut_33 : decode cX6_carryOut 33 = .ok (.iconst 3, 1) := by decide +kernel
theorem dX6_carryOut_34 : decode cX6_carryOut 34 = .ok (.invokestatic 52, 3) := by decide +kernel
theorem dX6_carryOut_37 : decode cX6_carryOut 37 = .ok (.aload_n 0, 1) := by decide +kernel
theorem dX6_carryOut_38 : decode cX6_carryOut 38 = .ok (.invokevirtual 56, 3) := by decide +kernel
theorem dX6_carryOut_41 : decode cX6_carryOut 41 = .ok (.aload_n 0, 1) := by decide +kernel
theorem dX6_carryOut_42 : decode cX6_carryOut 42 = .ok (.getfield 10, 3) := by decide +kernel
theorem dX6_carryOut_45 : decode cX6_carryOut 45 = .ok (.aload_n 0, 1) := by decide +kernel
theorem dX6_carryOut_46 : decode cX6_carryOut 46 = .ok (.getfield 16, 3) := by decide +kernel
theorem dX6_carryOut_49 : decode cX6_carryOut 49 = .ok (.invokevirtual 127, 3) := by decide +kernel
theorem dX6_carryOut_52 : decode cX6_carryOut 52 = .ok (.aload_n 0, 1) := by decide +kernel
theorem dX6_carryOut_53 : decode cX6_carryOut 53 = .ok (.getfield 37, 3) := by decide +kernel
theorem dX6_carryOut_56 : decode cX6_carryOut 56 = .ok (.invokevirtual 131, 3) := by decide +kernel
theorem dX6_carryOut_59 : decode cX6_carryOut 59 = .ok (.ireturn, 1) := by decide +kernel
set_option maxRecDepth 20000 in
theorem ggX6_undo_X6_refuseIf : GoodIn wsX6_undo wsX6_refuseIf := goodIn_ca (goodIn_ca (goodIn_ca (goodIn_r _ [7, 8, 9, 10, 11, 12, 13] (by decide +kernel) (by decide +kernel)) (goodIn_sub (fun _ h => List.mem_cons_of_mem _ (List.mem_append_left _ (List.mem_append_left _ (List.mem_append_right _ h)))) (by decide +kernel))) (goodIn_sub (fun _ h => List.mem_cons_of_mem _ (List.mem_append_left _ (List.mem_append_right _ h))) (by decide +kernel))) (goodIn_sub (fun _ h => List.mem_cons_of_mem _ (List.mem_append_right _ h)) (by decide +kernel))
set_option maxRecDepth 20000 in
theorem gX6_undo_X6_refuseIf : GoodIn wsX6_undo (va_wsS RX6 52 yX6_refuseIf wsX6_refuseIf) := goodIn_app (goodIn_of _ (by decide +kernel)) ggX6_undo_X6_refuseIf
set_option maxRecDepth 20000 in
theorem ggX6_undo_X0_copyFrom_q1 : GoodIn wsX6_undo ([Cond.code yX0_copyFrom cX0_copyFrom 2 none]) := goodIn_r _ [18] (by decide +kernel) (by decide +kernel)
set_option maxRecDepth 20000 in
theorem ggX6_undo_X0_copyFrom_q2 : GoodIn wsX6_undo (wsX0_copyFrom_r1) := goodIn_r _ [19, 20, 21, 22, 23, 24, 25, 26, 27, 28, 29, 30, 31, 32, 33, 34, 35, 36, 37, 38, 39, 40, 41, 42] (by decide +kernel) (by decide +kernel)
set_option maxRecDepth 20000 in
theorem ggX6_undo_X0_copyFrom_q3 : GoodIn wsX6_undo (wsX0_copyFrom_r2) := goodIn_r _ [43, 44, 45, 46, 47, 48, 49, 50, 51, 52, 53, 54, 55, 56, 57, 58, 59, 60, 61, 62, 63, 64, 65, 66] (by decide +kernel) (by decide +kernel)
set_option maxRecDepth 20000 in
theorem ggX6_undo_X0_copyFrom_q4 : GoodIn wsX6_undo (wsX0_copyFrom_r3) := goodIn_r _ [67, 68, 69, 70, 71, 72, 73, 74] (by decide +kernel) (by decide +kernel)
set_option maxRecDepth 20000 in
theorem ggX6_undo_X0_copyFrom_q5 : GoodIn wsX6_undo (wsX00) := goodIn_r _ [83, 84, 85, 86, 87, 88, 89, 90, 91, 92] (by decide +kernel) (by decide +kernel)
set_option maxRecDepth 20000 in
theorem ggX6_undo_X0_copyFrom_q6 : GoodIn wsX6_undo (wsX50) := goodIn_r _ [93, 94, 95, 96, 97, 98, 99, 100, 101, 102, 103, 104] (by decide +kernel) (by decide +kernel)
set_option maxRecDepth 20000 in
theorem ggX6_undo_X0_copyFrom_q7 : GoodIn wsX6_undo (wsX40) := goodIn_r _ [105, 106, 107, 108] (by decide +kernel) (by decide +kernel)
set_option maxRecDepth 20000 in
theorem ggX6_undo_X0_copyFrom_q8 : GoodIn wsX6_undo (wsX10) := goodIn_r _ [109, 110, 111, 112, 113, 114, 115, 116] (by decide +kernel) (by decide +kernel)
theorem ggX6_undo_X0_copyFrom : GoodIn wsX6_undo wsX0_copyFrom := (goodIn_app (a := [Cond.code yX0_copyFrom cX0_copyFrom 2 none]) ggX6_undo_X0_copyFrom_q1 (goodIn_app (goodIn_app (goodIn_app (goodIn_app (goodIn_app ggX6_undo_X0_copyFrom_q2 (goodIn_app ggX6_undo_X0_copyFrom_q3 ggX6_undo_X0_copyFrom_q4)) ggX6_undo_X0_copyFrom_q5) ggX6_undo_X0_copyFrom_q6) ggX6_undo_X0_copyFrom_q7) ggX6_undo_X0_copyFrom_q8))
set_option maxRecDepth 20000 in
theorem gX6_undo_X0_copyFrom : GoodIn wsX6_undo (wsV RX6 127 RX0 yX0_copyFrom wsX0_copyFrom) := goodIn_app (goodIn_of _ (by decide +kernel)) ggX6_undo_X0_copyFrom
theorem dX6_undo_0 : decode cX6_undo 0 = .ok (.aload_n 0, 1) := by decide +kernel
theorem dX6_undo_1 : decode cX6_undo 1 = .ok (.getfield 30, 3) := by decide +kernel
theorem dX6_undo_4 : decode cX6_undo 4 = .ok (.ifCond .le 7, 3) := by decide +kernel
theorem dX6_undo_7 : decode cX6_undo 7 = .ok (.iconst 0, 1) := by decide +kernel
theorem dX6_undo_8 : decode cX6_undo 8 = .ok (.goto 4, 3) := by decide +kernel
theorem dX6_undo_11 : decode cX6_undo 11 = .ok (.iconst 3, 1) := by decide +kernel
theorem dX6_undo_12 : decode cX6_undo 12 = .ok (.invokestatic 52, 3) := by decide +kernel
theorem dX6_undo_15 : decode cX6_undo 15 = .ok (.aload_n 0, 1) := by decide +kernel
theorem dX6_undo_16 : decode cX6_undo 16 = .ok (.dup, 1) := by decide +kernel
theorem dX6_undo_17 : decode cX6_undo 17 = .ok (.getfield 30, 3) := by decide +kernel
theorem dX6_undo_20 : decode cX6_undo 20 = .ok (.iconst 1, 1) := by decide +kernel
theorem dX6_undo_21 : decode cX6_undo 21 = .ok (.isub, 1) := by decide +kernel
theorem dX6_undo_22 : decode cX6_undo 22 = .ok (.putfield 30, 3) := by decide +kernel
theorem dX6_undo_25 : decode cX6_undo 25 = .ok (.aload_n 0, 1) := by decide +kernel
theorem dX6_undo_26 : decode cX6_undo 26 = .ok (.getfield 10, 3) := by decide +kernel
theorem dX6_undo_29 : decode cX6_undo 29 = .ok (.aload_n 0, 1) := by decide +kernel
theorem dX6_undo_30 : decode cX6_undo 30 = .ok (.getfield 26, 3) := by decide +kernel
theorem dX6_undo_33 : decode cX6_undo 33 = .ok (.aload_n 0, 1) := by decide +kernel
theorem dX6_undo_34 : decode cX6_undo 34 = .ok (.getfield 30, 3) := by decide +kernel
theorem dX6_undo_37 : decode cX6_undo 37 = .ok (.aaload, 1) := by decide +kernel
theorem dX6_undo_38 : decode cX6_undo 38 = .ok (.invokevirtual 127, 3) := by decide +kernel
theorem dX6_undo_41 : decode cX6_undo 41 = .ok (.aload_n 0, 1) := by decide +kernel
theorem dX6_undo_42 : decode cX6_undo 42 = .ok (.getfield 30, 3) := by decide +kernel
theorem dX6_undo_45 : decode cX6_undo 45 = .ok (.ireturn, 1) := by decide +kernel
set_option maxRecDepth 20000 in
theorem ggX6_takeSnapshot_X0_copyFrom_q1 : GoodIn wsX6_takeSnapshot ([Cond.code yX0_copyFrom cX0_copyFrom 2 none]) := goodIn_r _ [9] (by decide +kernel) (by decide +kernel)
set_option maxRecDepth 20000 in
theorem ggX6_takeSnapshot_X0_copyFrom_q2 : GoodIn wsX6_takeSnapshot (wsX0_copyFrom_r1) := goodIn_r _ [10, 11, 12, 13, 14, 15, 16, 17, 18, 19, 20, 21, 22, 23, 24, 25, 26, 27, 28, 29, 30, 31, 32, 33] (by decide +kernel) (by decide +kernel)
set_option maxRecDepth 20000 in
theorem ggX6_takeSnapshot_X0_copyFrom_q3 : GoodIn wsX6_takeSnapshot (wsX0_copyFrom_r2) := goodIn_r _ [34, 35, 36, 37, 38, 39, 40, 41, 42, 43, 44, 45, 46, 47, 48, 49, 50, 51, 52, 53, 54, 55, 56, 57] (by decide +kernel) (by decide +kernel)
set_option maxRecDepth 20000 in
theorem ggX6_takeSnapshot_X0_copyFrom_q4 : GoodIn wsX6_takeSnapshot (wsX0_copyFrom_r3) := goodIn_r _ [58, 59, 60, 61, 62, 63, 64, 65] (by decide +kernel) (by decide +kernel)
set_option maxRecDepth 20000 in
theorem ggX6_takeSnapshot_X0_copyFrom_q5 : GoodIn wsX6_takeSnapshot (wsX00) := goodIn_r _ [74, 75, 76, 77, 78, 79, 80, 81, 82, 83] (by decide +kernel) (by decide +kernel)
set_option maxRecDepth 20000 in
theorem ggX6_takeSnapshot_X0_copyFrom_q6 : GoodIn wsX6_takeSnapshot (wsX50) := goodIn_r _ [84, 85, 86, 87, 88, 89, 90, 91, 92, 93, 94, 95] (by decide +kernel) (by decide +kernel)
set_option maxRecDepth 20000 in
theorem ggX6_takeSnapshot_X0_copyFrom_q7 : GoodIn wsX6_takeSnapshot (wsX40) := goodIn_r _ [96, 97, 98, 99] (by decide +kernel) (by decide +kernel)
set_option maxRecDepth 20000 in
theorem ggX6_takeSnapshot_X0_copyFrom_q8 : GoodIn wsX6_takeSnapshot (wsX10) := goodIn_r _ [100, 101, 102, 103, 104, 105, 106, 107] (by decide +kernel) (by decide +kernel)
theorem ggX6_takeSnapshot_X0_copyFrom : GoodIn wsX6_takeSnapshot wsX0_copyFrom := (goodIn_app (a := [Cond.code yX0_copyFrom cX0_copyFrom 2 none]) ggX6_takeSnapshot_X0_copyFrom_q1 (goodIn_app (goodIn_app (goodIn_app (goodIn_app (goodIn_app ggX6_takeSnapshot_X0_copyFrom_q2 (goodIn_app ggX6_takeSnapshot_X0_copyFrom_q3 ggX6_takeSnapshot_X0_copyFrom_q4)) ggX6_takeSnapshot_X0_copyFrom_q5) ggX6_takeSnapshot_X0_copyFrom_q6) ggX6_takeSnapshot_X0_copyFrom_q7) ggX6_takeSnapshot_X0_copyFrom_q8))
set_option maxRecDepth 20000 in
theorem gX6_takeSnapshot_X0_copyFrom : GoodIn wsX6_takeSnapshot (wsV RX6 127 RX0 yX0_copyFrom wsX0_copyFrom) := goodIn_app (goodIn_of _ (by decide +kernel)) ggX6_takeSnapshot_X0_copyFrom
theorem dX6_takeSnapshot_0 : decode cX6_takeSnapshot 0 = .ok (.aload_n 0, 1) := by decide +kernel
theorem dX6_takeSnapshot_1 : decode cX6_takeSnapshot 1 = .ok (.getfield 19, 3) := by decide +kernel
theorem dX6_takeSnapshot_4 : decode cX6_takeSnapshot 4 = .ok (.aload_n 0, 1) := by decide +kernel
theorem dX6_takeSnapshot_5 : decode cX6_takeSnapshot 5 = .ok (.getfield 10, 3) := by decide +kernel
theorem dX6_takeSnapshot_8 : decode cX6_takeSnapshot 8 = .ok (.invokevirtual 127, 3) := by decide +kernel
theorem dX6_takeSnapshot_11 : decode cX6_takeSnapshot 11 = .ok (.aload_n 0, 1) := by decide +kernel
theorem dX6_takeSnapshot_12 : decode cX6_takeSnapshot 12 = .ok (.iconst 1, 1) := by decide +kernel
theorem dX6_takeSnapshot_13 : decode cX6_takeSnapshot 13 = .ok (.putfield 22, 3) := by decide +kernel
theorem dX6_takeSnapshot_16 : decode cX6_takeSnapshot 16 = .ok (.aload_n 0, 1) := by decide +kernel
theorem dX6_takeSnapshot_17 : decode cX6_takeSnapshot 17 = .ok (.getfield 10, 3) := by decide +kernel
theorem dX6_takeSnapshot_20 : decode cX6_takeSnapshot 20 = .ok (.getfield 134, 3) := by decide +kernel
theorem dX6_takeSnapshot_23 : decode cX6_takeSnapshot 23 = .ok (.ireturn, 1) := by decide +kernel
set_option maxRecDepth 20000 in
theorem ggX6_restoreSnapshot_X6_refuseIf : GoodIn wsX6_restoreSnapshot wsX6_refuseIf := goodIn_ca (goodIn_ca (goodIn_ca (goodIn_r _ [8, 9, 10, 11, 12, 13, 14] (by decide +kernel) (by decide +kernel)) (goodIn_sub (fun _ h => List.mem_cons_of_mem _ (List.mem_append_left _ (List.mem_append_left _ (List.mem_append_right _ h)))) (by decide +kernel))) (goodIn_sub (fun _ h => List.mem_cons_of_mem _ (List.mem_append_left _ (List.mem_append_right _ h))) (by decide +kernel))) (goodIn_sub (fun _ h => List.mem_cons_of_mem _ (List.mem_append_right _ h)) (by decide +kernel))
set_option maxRecDepth 20000 in
theorem gX6_restoreSnapshot_X6_refuseIf : GoodIn wsX6_restoreSnapshot (va_wsS RX6 52 yX6_refuseIf wsX6_refuseIf) := goodIn_app (goodIn_of _ (by decide +kernel)) ggX6_restoreSnapshot_X6_refuseIf
set_option maxRecDepth 20000 in
theorem ggX6_restoreSnapshot_X6_keepState_q1 : GoodIn wsX6_restoreSnapshot ([Cond.code yX6_keepState cX6_keepState 1 none]) := goodIn_r _ [18] (by decide +kernel) (by decide +kernel)
set_option maxRecDepth 20000 in
theorem ggX6_restoreSnapshot_X6_keepState_q2 : GoodIn wsX6_restoreSnapshot (wsX6_keepState_r1) := goodIn_r _ [19, 20, 2, 21, 22, 23, 7, 24, 25, 26, 27, 28, 29, 30, 31, 32, 33, 34, 35, 36, 37, 38, 39, 40] (by decide +kernel) (by decide +kernel)
set_option maxRecDepth 20000 in
theorem ggX6_restoreSnapshot_X6_keepState_q3 : GoodIn wsX6_restoreSnapshot (wsX6_keepState_r2) := goodIn_r _ [41, 42, 43, 44, 45, 46, 47, 48, 49, 50, 51, 52, 53, 54, 55, 56, 57, 58, 59, 60, 61, 62, 63, 64] (by decide +kernel) (by decide +kernel)
set_option maxRecDepth 20000 in
theorem ggX6_restoreSnapshot_X6_keepState_q4 : GoodIn wsX6_restoreSnapshot (wsX6_keepState_r3) := goodIn_r _ [65, 66, 67, 68, 69, 70, 71, 72, 73, 74, 75, 76, 77, 78, 79, 80, 81, 82, 83, 84, 85] (by decide +kernel) (by decide +kernel)
set_option maxRecDepth 20000 in
theorem ggX6_restoreSnapshot_X6_keepState_q5 : GoodIn wsX6_restoreSnapshot (wsX60) := goodIn_r _ [86, 87, 88, 89, 90, 91, 92, 93] (by decide +kernel) (by decide +kernel)
set_option maxRecDepth 20000 in
theorem ggX6_restoreSnapshot_X6_keepState_q6 : GoodIn wsX6_restoreSnapshot (wsX00) := goodIn_r _ [94, 95, 96, 97, 98, 99, 100, 101, 102, 103] (by decide +kernel) (by decide +kernel)
set_option maxRecDepth 20000 in
theorem ggX6_restoreSnapshot_X6_keepState_q7 : GoodIn wsX6_restoreSnapshot (wsX50) := goodIn_r _ [104, 105, 106, 107, 108, 109, 110, 111, 112, 113, 114, 115] (by decide +kernel) (by decide +kernel)
set_option maxRecDepth 20000 in
theorem ggX6_restoreSnapshot_X6_keepState_q8 : GoodIn wsX6_restoreSnapshot (wsX40) := goodIn_r _ [116, 117, 118, 119] (by decide +kernel) (by decide +kernel)
set_option maxRecDepth 20000 in
theorem ggX6_restoreSnapshot_X6_keepState_q9 : GoodIn wsX6_restoreSnapshot (wsX10) := goodIn_r _ [120, 121, 122, 123, 124, 125, 126, 127] (by decide +kernel) (by decide +kernel)
theorem ggX6_restoreSnapshot_X6_keepState : GoodIn wsX6_restoreSnapshot wsX6_keepState := (goodIn_app (a := [Cond.code yX6_keepState cX6_keepState 1 none]) ggX6_restoreSnapshot_X6_keepState_q1 (goodIn_app (goodIn_app (goodIn_app (goodIn_app (goodIn_app (goodIn_app ggX6_restoreSnapshot_X6_keepState_q2 (goodIn_app ggX6_restoreSnapshot_X6_keepState_q3 ggX6_restoreSnapshot_X6_keepState_q4)) ggX6_restoreSnapshot_X6_keepState_q5) ggX6_restoreSnapshot_X6_keepState_q6) ggX6_restoreSnapshot_X6_keepState_q7) ggX6_restoreSnapshot_X6_keepState_q8) ggX6_restoreSnapshot_X6_keepState_q9))
set_option maxRecDepth 20000 in
theorem gX6_restoreSnapshot_X6_keepState : GoodIn wsX6_restoreSnapshot (wsV RX6 56 RX6 yX6_keepState wsX6_keepState) := goodIn_app (goodIn_of _ (by decide +kernel)) ggX6_restoreSnapshot_X6_keepState
set_option maxRecDepth 20000 in
theorem ggX6_restoreSnapshot_X0_copyFrom_q1 : GoodIn wsX6_restoreSnapshot ([Cond.code yX0_copyFrom cX0_copyFrom 2 none]) := goodIn_r _ [29] (by decide +kernel) (by decide +kernel)
set_option maxRecDepth 20000 in
theorem ggX6_restoreSnapshot_X0_copyFrom_q2 : GoodIn wsX6_restoreSnapshot (wsX0_copyFrom_r1) := goodIn_r _ [30, 31, 32, 33, 34, 35, 36, 37, 38, 39, 40, 41, 42, 43, 44, 45, 46, 47, 48, 49, 50, 51, 52, 53] (by decide +kernel) (by decide +kernel)
set_option maxRecDepth 20000 in
theorem ggX6_restoreSnapshot_X0_copyFrom_q3 : GoodIn wsX6_restoreSnapshot (wsX0_copyFrom_r2) := goodIn_r _ [54, 55, 56, 57, 58, 59, 60, 61, 62, 63, 64, 65, 66, 67, 68, 69, 70, 71, 72, 73, 74, 75, 76, 77] (by decide +kernel) (by decide +kernel)
set_option maxRecDepth 20000 in
theorem ggX6_restoreSnapshot_X0_copyFrom_q4 : GoodIn wsX6_restoreSnapshot (wsX0_copyFrom_r3) := goodIn_r _ [78, 79, 80, 81, 82, 83, 84, 85] (by decide +kernel) (by decide +kernel)
set_option maxRecDepth 20000 in
theorem ggX6_restoreSnapshot_X0_copyFrom_q5 : GoodIn wsX6_restoreSnapshot (wsX00) := goodIn_r _ [94, 95, 96, 97, 98, 99, 100, 101, 102, 103] (by decide +kernel) (by decide +kernel)
set_option maxRecDepth 20000 in
theorem ggX6_restoreSnapshot_X0_copyFrom_q6 : GoodIn wsX6_restoreSnapshot (wsX50) := goodIn_r _ [104, 105, 106, 107, 108, 109, 110, 111, 112, 113, 114, 115] (by decide +kernel) (by decide +kernel)
set_option maxRecDepth 20000 in
theorem ggX6_restoreSnapshot_X0_copyFrom_q7 : GoodIn wsX6_restoreSnapshot (wsX40) := goodIn_r _ [116, 117, 118, 119] (by decide +kernel) (by decide +kernel)
set_option maxRecDepth 20000 in
theorem ggX6_restoreSnapshot_X0_copyFrom_q8 : GoodIn wsX6_restoreSnapshot (wsX10) := goodIn_r _ [120, 121, 122, 123, 124, 125, 126, 127] (by decide +kernel) (by decide +kernel)
theorem ggX6_restoreSnapshot_X0_copyFrom : GoodIn wsX6_restoreSnapshot wsX0_copyFrom := (goodIn_app (a := [Cond.code yX0_copyFrom cX0_copyFrom 2 none]) ggX6_restoreSnapshot_X0_copyFrom_q1 (goodIn_app (goodIn_app (goodIn_app (goodIn_app (goodIn_app ggX6_restoreSnapshot_X0_copyFrom_q2 (goodIn_app ggX6_restoreSnapshot_X0_copyFrom_q3 ggX6_restoreSnapshot_X0_copyFrom_q4)) ggX6_restoreSnapshot_X0_copyFrom_q5) ggX6_restoreSnapshot_X0_copyFrom_q6) ggX6_restoreSnapshot_X0_copyFrom_q7) ggX6_restoreSnapshot_X0_copyFrom_q8))
set_option maxRecDepth 20000 in
theorem gX6_restoreSnapshot_X0_copyFrom : GoodIn wsX6_restoreSnapshot (wsV RX6 127 RX0 yX0_copyFrom wsX0_copyFrom) := goodIn_app (goodIn_of _ (by decide +kernel)) ggX6_restoreSnapshot_X0_copyFrom
theorem dX6_restoreSnapshot_0 : decode cX6_restoreSnapshot 0 = .ok (.aload_n 0, 1) := by decide +kernel
theorem dX6_restoreSnapshot_1 : decode cX6_restoreSnapshot 1 = .ok (.getfield 22, 3) := by decide +kernel
theorem dX6_restoreSnapshot_4 : decode cX6_restoreSnapshot 4 = .ok (.ifCond .eq 7, 3) := by decide +kernel
theorem dX6_restoreSnapshot_7 : decode cX6_restoreSnapshot 7 = .ok (.iconst 0, 1) := by decide +kernel
theorem dX6_restoreSnapshot_8 : decode cX6_restoreSnapshot 8 = .ok (.goto 4, 3) := by decide +kernel
theorem dX6_restoreSnapshot_11 : decode cX6_restoreSnapshot 11 = .ok (.iconst 3, 1) := by decide +kernel
theorem dX6_restoreSnapshot_12 : decode cX6_restoreSnapshot 12 = .ok (.invokestatic 52, 3) := by decide +kernel
theorem dX6_restoreSnapshot_15 : decode cX6_restoreSnapshot 15 = .ok (.aload_n 0, 1) := by decide +kernel
theorem dX6_restoreSnapshot_16 : decode cX6_restoreSnapshot 16 = .ok (.invokevirtual 56, 3) := by decide +kernel
theorem dX6_restoreSnapshot_19 : decode cX6_restoreSnapshot 19 = .ok (.aload_n 0, 1) := by decide +kernel
theorem dX6_restoreSnapshot_20 : decode cX6_restoreSnapshot 20 = .ok (.getfield 10, 3) := by decide +kernel
theorem dX6_restoreSnapshot_23 : decode cX6_restoreSnapshot 23 = .ok (.aload_n 0, 1) := by decide +kernel
theorem dX6_restoreSnapshot_24 : decode cX6_restoreSnapshot 24 = .ok (.getfield 19, 3) := by decide +kernel
theorem dX6_restoreSnapshot_27 : decode cX6_restoreSnapshot 27 = .ok (.invokevirtual 127, 3) := by decide +kernel
theorem dX6_restoreSnapshot_30 : decode cX6_restoreSnapshot 30 = .ok (.aload_n 0, 1) := by decide +kernel
theorem dX6_restoreSnapshot_31 : decode cX6_restoreSnapshot 31 = .ok (.getfield 10, 3) := by decide +kernel
theorem dX6_restoreSnapshot_34 : decode cX6_restoreSnapshot 34 = .ok (.getfield 134, 3) := by decide +kernel
theorem dX6_restoreSnapshot_37 : decode cX6_restoreSnapshot 37 = .ok (.ireturn, 1) := by decide +kernel
theorem dX6_singers_0 : decode cX6_singers 0 = .ok (.aload_n 0, 1) := by decide +kernel
theorem dX6_singers_1 : decode cX6_singers 1 = .ok (.getfield 10, 3) := by decide +kernel
theorem dX6_singers_4 : decode cX6_singers 4 = .ok (.getfield 137, 3) := by decide +kernel
theorem dX6_singers_7 : decode cX6_singers 7 = .ok (.getfield 141, 3) := by decide +kernel
theorem dX6_singers_10 : decode cX6_singers 10 = .ok (.ireturn, 1) := by decide +kernel
set_option maxRecDepth 20000 in
theorem ggX6_isInChoir_X6_requireSinger : GoodIn wsX6_isInChoir wsX6_requireSinger := goodIn_ca (goodIn_ca (goodIn_ca (goodIn_r _ [8, 1, 2, 9, 10, 11, 12, 13, 14, 15, 16, 7, 17, 18, 19, 20, 21, 22, 23, 29, 30, 31, 32, 33, 34, 35, 36, 37, 38, 39, 40, 41, 42, 43, 44, 45, 46, 47, 48, 49, 50, 51, 52, 53, 54, 55, 56, 57, 58] (by decide +kernel) (by decide +kernel)) (goodIn_sub (fun _ h => List.mem_cons_of_mem _ (List.mem_append_left _ (List.mem_append_left _ (List.mem_append_right _ h)))) (by decide +kernel))) (goodIn_sub (fun _ h => List.mem_cons_of_mem _ (List.mem_append_left _ (List.mem_append_right _ h))) (by decide +kernel))) (goodIn_sub (fun _ h => List.mem_cons_of_mem _ (List.mem_append_right _ h)) (by decide +kernel))
set_option maxRecDepth 20000 in
theorem gX6_isInChoir_X6_requireSinger : GoodIn wsX6_isInChoir (wsV RX6 146 RX6 yX6_requireSinger wsX6_requireSinger) := goodIn_app (goodIn_of _ (by decide +kernel)) ggX6_isInChoir_X6_requireSinger
set_option maxRecDepth 20000 in
theorem ggX6_isInChoir_X5_hasLeftBy : GoodIn wsX6_isInChoir wsX5_hasLeftBy := goodIn_r _ [27, 28, 47, 48, 49, 50, 51, 52, 53, 54, 55, 56, 57, 58] (by decide +kernel) (by decide +kernel)
set_option maxRecDepth 20000 in
theorem gX6_isInChoir_X5_hasLeftBy : GoodIn wsX6_isInChoir (wsV RX6 149 RX5 yX5_hasLeftBy wsX5_hasLeftBy) := goodIn_app (goodIn_of _ (by decide +kernel)) ggX6_isInChoir_X5_hasLeftBy
theorem dX6_isInChoir_0 : decode cX6_isInChoir 0 = .ok (.aload_n 0, 1) := by decide +kernel
theorem dX6_isInChoir_1 : decode cX6_isInChoir 1 = .ok (.iload_n 1, 1) := by decide +kernel
theorem dX6_isInChoir_2 : decode cX6_isInChoir 2 = .ok (.invokevirtual 146, 3) := by decide +kernel
theorem dX6_isInChoir_5 : decode cX6_isInChoir 5 = .ok (.aload_n 0, 1) := by decide +kernel
theorem dX6_isInChoir_6 : decode cX6_isInChoir 6 = .ok (.getfield 10, 3) := by decide +kernel
theorem dX6_isInChoir_9 : decode cX6_isInChoir 9 = .ok (.getfield 137, 3) := by decide +kernel
theorem dX6_isInChoir_12 : decode cX6_isInChoir 12 = .ok (.iload_n 1, 1) := by decide +kernel
theorem dX6_isInChoir_13 : decode cX6_isInChoir 13 = .ok (.aload_n 0, 1) := by decide +kernel
theorem dX6_isInChoir_14 : decode cX6_isInChoir 14 = .ok (.getfield 10, 3) := by decide +kernel
theorem dX6_isInChoir_17 : decode cX6_isInChoir 17 = .ok (.getfield 134, 3) := by decide +kernel
theorem dX6_isInChoir_20 : decode cX6_isInChoir 20 = .ok (.invokevirtual 149, 3) := by decide +kernel
theorem dX6_isInChoir_23 : decode cX6_isInChoir 23 = .ok (.ifCond .ne 7, 3) := by decide +kernel
theorem dX6_isInChoir_26 : decode cX6_isInChoir 26 = .ok (.iconst 1, 1) := by decide +kernel
theorem dX6_isInChoir_27 : decode cX6_isInChoir 27 = .ok (.goto 4, 3) := by decide +kernel
theorem dX6_isInChoir_30 : decode cX6_isInChoir 30 = .ok (.iconst 0, 1) := by decide +kernel
theorem dX6_isInChoir_31 : decode cX6_isInChoir 31 = .ok (.ireturn, 1) := by decide +kernel
set_option maxRecDepth 20000 in
theorem ggX6_ageOf_X6_requireSinger : GoodIn wsX6_ageOf wsX6_requireSinger := goodIn_ca (goodIn_ca (goodIn_ca (goodIn_r _ [9, 1, 3, 10, 11, 12, 13, 14, 15, 16, 17, 8, 18, 19, 20, 21, 22, 23, 24, 25, 26, 27, 28, 29, 30, 31, 32, 33, 34, 35, 36, 37, 38, 39, 40, 41, 42, 43, 44, 45, 46, 47, 48, 49, 50, 51, 52, 53, 54] (by decide +kernel) (by decide +kernel)) (goodIn_sub (fun _ h => List.mem_cons_of_mem _ (List.mem_append_left _ (List.mem_append_left _ (List.mem_append_right _ h)))) (by decide +kernel))) (goodIn_sub (fun _ h => List.mem_cons_of_mem _ (List.mem_append_left _ (List.mem_append_right _ h))) (by decide +kernel))) (goodIn_sub (fun _ h => List.mem_cons_of_mem _ (List.mem_append_right _ h)) (by decide +kernel))
set_option maxRecDepth 20000 in
theorem gX6_ageOf_X6_requireSinger : GoodIn wsX6_ageOf (wsV RX6 146 RX6 yX6_requireSinger wsX6_requireSinger) := goodIn_app (goodIn_of _ (by decide +kernel)) ggX6_ageOf_X6_requireSinger
theorem dX6_ageOf_0 : decode cX6_ageOf 0 = .ok (.aload_n 0, 1) := by decide +kernel
theorem dX6_ageOf_1 : decode cX6_ageOf 1 = .ok (.iload_n 1, 1) := by decide +kernel
theorem dX6_ageOf_2 : decode cX6_ageOf 2 = .ok (.invokevirtual 146, 3) := by decide +kernel
theorem dX6_ageOf_5 : decode cX6_ageOf 5 = .ok (.aload_n 0, 1) := by decide +kernel
theorem dX6_ageOf_6 : decode cX6_ageOf 6 = .ok (.getfield 10, 3) := by decide +kernel
theorem dX6_ageOf_9 : decode cX6_ageOf 9 = .ok (.getfield 134, 3) := by decide +kernel
theorem dX6_ageOf_12 : decode cX6_ageOf 12 = .ok (.aload_n 0, 1) := by decide +kernel
theorem dX6_ageOf_13 : decode cX6_ageOf 13 = .ok (.getfield 10, 3) := by decide +kernel
theorem dX6_ageOf_16 : decode cX6_ageOf 16 = .ok (.getfield 137, 3) := by decide +kernel
theorem dX6_ageOf_19 : decode cX6_ageOf 19 = .ok (.getfield 153, 3) := by decide +kernel
theorem dX6_ageOf_22 : decode cX6_ageOf 22 = .ok (.iload_n 1, 1) := by decide +kernel
theorem dX6_ageOf_23 : decode cX6_ageOf 23 = .ok (.iaload, 1) := by decide +kernel
theorem dX6_ageOf_24 : decode cX6_ageOf 24 = .ok (.isub, 1) := by decide +kernel
theorem dX6_ageOf_25 : decode cX6_ageOf 25 = .ok (.sipush 360, 3) := by decide +kernel
theorem dX6_ageOf_28 : decode cX6_ageOf 28 = .ok (.idiv, 1) := by decide +kernel
theorem dX6_ageOf_29 : decode cX6_ageOf 29 = .ok (.ireturn, 1) := by decide +kernel
set_option maxRecDepth 20000 in
theorem ggX6_lowestNoteOf_X6_requireSinger : GoodIn wsX6_lowestNoteOf wsX6_requireSinger := goodIn_ca (goodIn_ca (goodIn_ca (goodIn_r _ [9, 1, 2, 10, 11, 12, 13, 14, 15, 16, 17, 8, 18, 19, 20, 21, 22, 23, 24, 30, 31, 32, 33, 34, 35, 36, 37, 38, 39, 40, 41, 42, 43, 44, 45, 46, 47, 48, 49, 50, 51, 52, 53, 54, 55, 56, 57, 58, 59] (by decide +kernel) (by decide +kernel)) (goodIn_sub (fun _ h => List.mem_cons_of_mem _ (List.mem_append_left _ (List.mem_append_left _ (List.mem_append_right _ h)))) (by decide +kernel))) (goodIn_sub (fun _ h => List.mem_cons_of_mem _ (List.mem_append_left _ (List.mem_append_right _ h))) (by decide +kernel))) (goodIn_sub (fun _ h => List.mem_cons_of_mem _ (List.mem_append_right _ h)) (by decide +kernel))
set_option maxRecDepth 20000 in
theorem gX6_lowestNoteOf_X6_requireSinger : GoodIn wsX6_lowestNoteOf (wsV RX6 146 RX6 yX6_requireSinger wsX6_requireSinger) := goodIn_app (goodIn_of _ (by decide +kernel)) ggX6_lowestNoteOf_X6_requireSinger
set_option maxRecDepth 20000 in
theorem ggX6_lowestNoteOf_X5_noteOn : GoodIn wsX6_lowestNoteOf wsX5_noteOn := goodIn_r _ [28, 29, 48, 49, 50, 51, 52, 53, 54, 55, 56, 57, 58, 59] (by decide +kernel) (by decide +kernel)
set_option maxRecDepth 20000 in
theorem gX6_lowestNoteOf_X5_noteOn : GoodIn wsX6_lowestNoteOf (wsV RX6 160 RX5 yX5_noteOn wsX5_noteOn) := goodIn_app (goodIn_of _ (by decide +kernel)) ggX6_lowestNoteOf_X5_noteOn
theorem dX6_lowestNoteOf_0 : decode cX6_lowestNoteOf 0 = .ok (.aload_n 0, 1) := by decide +kernel
theorem dX6_lowestNoteOf_1 : decode cX6_lowestNoteOf 1 = .ok (.iload_n 1, 1) := by decide +kernel
theorem dX6_lowestNoteOf_2 : decode cX6_lowestNoteOf 2 = .ok (.invokevirtual 146, 3) := by decide +kernel
theorem dX6_lowestNoteOf_5 : decode cX6_lowestNoteOf 5 = .ok (.aload_n 0, 1) := by decide +kernel
theorem dX6_lowestNoteOf_6 : decode cX6_lowestNoteOf 6 = .ok (.getfield 10, 3) := by decide +kernel
theorem dX6_lowestNoteOf_9 : decode cX6_lowestNoteOf 9 = .ok (.getfield 137, 3) := by decide +kernel
theorem dX6_lowestNoteOf_12 : decode cX6_lowestNoteOf 12 = .ok (.iload_n 1, 1) := by decide +kernel
theorem dX6_lowestNoteOf_13 : decode cX6_lowestNoteOf 13 = .ok (.aload_n 0, 1) := by decide +kernel
theorem dX6_lowestNoteOf_14 : decode cX6_lowestNoteOf 14 = .ok (.getfield 10, 3) := by decide +kernel
theorem dX6_lowestNoteOf_17 : decode cX6_lowestNoteOf 17 = .ok (.getfield 134, 3) := by decide +kernel
theorem dX6_lowestNoteOf_20 : decode cX6_lowestNoteOf 20 = .ok (.aload_n 0, 1) := by decide +kernel
theorem dX6_lowestNoteOf_21 : decode cX6_lowestNoteOf 21 = .ok (.getfield 10, 3) := by decide +kernel
theorem dX6_lowestNoteOf_24 : decode cX6_lowestNoteOf 24 = .ok (.getfield 137, 3) := by decide +kernel
theorem dX6_lowestNoteOf_27 : decode cX6_lowestNoteOf 27 = .ok (.getfield 157, 3) := by decide +kernel
theorem dX6_lowestNoteOf_30 : decode cX6_lowestNoteOf 30 = .ok (.iload_n 1, 1) := by decide +kernel
theorem dX6_lowestNoteOf_31 : decode cX6_lowestNoteOf 31 = .ok (.iaload, 1) := by decide +kernel
theorem dX6_lowestNoteOf_32 : decode cX6_lowestNoteOf 32 = .ok (.invokevirtual 160, 3) := by decide +kernel
theorem dX6_lowestNoteOf_35 : decode cX6_lowestNoteOf 35 = .ok (.ireturn, 1) := by decide +kernel
set_option maxRecDepth 20000 in
theorem ggX6_highestNoteOf_X6_requireSinger : GoodIn wsX6_highestNoteOf wsX6_requireSinger := goodIn_ca (goodIn_ca (goodIn_ca (goodIn_r _ [9, 1, 2, 10, 11, 12, 13, 14, 15, 16, 17, 8, 18, 19, 20, 21, 22, 23, 24, 30, 31, 32, 33, 34, 35, 36, 37, 38, 39, 40, 41, 42, 43, 44, 45, 46, 47, 48, 49, 50, 51, 52, 53, 54, 55, 56, 57, 58, 59] (by decide +kernel) (by decide +kernel)) (goodIn_sub (fun _ h => List.mem_cons_of_mem _ (List.mem_append_left _ (List.mem_append_left _ (List.mem_append_right _ h)))) (by decide +kernel))) (goodIn_sub (fun _ h => List.mem_cons_of_mem _ (List.mem_append_left _ (List.mem_append_right _ h))) (by decide +kernel))) (goodIn_sub (fun _ h => List.mem_cons_of_mem _ (List.mem_append_right _ h)) (by decide +kernel))
set_option maxRecDepth 20000 in
theorem gX6_highestNoteOf_X6_requireSinger : GoodIn wsX6_highestNoteOf (wsV RX6 146 RX6 yX6_requireSinger wsX6_requireSinger) := goodIn_app (goodIn_of _ (by decide +kernel)) ggX6_highestNoteOf_X6_requireSinger
set_option maxRecDepth 20000 in
theorem ggX6_highestNoteOf_X5_noteOn : GoodIn wsX6_highestNoteOf wsX5_noteOn := goodIn_r _ [28, 29, 48, 49, 50, 51, 52, 53, 54, 55, 56, 57, 58, 59] (by decide +kernel) (by decide +kernel)
set_option maxRecDepth 20000 in
theorem gX6_highestNoteOf_X5_noteOn : GoodIn wsX6_highestNoteOf (wsV RX6 160 RX5 yX5_noteOn wsX5_noteOn) := goodIn_app (goodIn_of _ (by decide +kernel)) ggX6_highestNoteOf_X5_noteOn
theorem dX6_highestNoteOf_0 : decode cX6_highestNoteOf 0 = .ok (.aload_n 0, 1) := by decide +kernel
theorem dX6_highestNoteOf_1 : decode cX6_highestNoteOf 1 = .ok (.iload_n 1, 1) := by decide +kernel
theorem dX6_highestNoteOf_2 : decode cX6_highestNoteOf 2 = .ok (.invokevirtual 146, 3) := by decide +kernel
theorem dX6_highestNoteOf_5 : decode cX6_highestNoteOf 5 = .ok (.aload_n 0, 1) := by decide +kernel
theorem dX6_highestNoteOf_6 : decode cX6_highestNoteOf 6 = .ok (.getfield 10, 3) := by decide +kernel
theorem dX6_highestNoteOf_9 : decode cX6_highestNoteOf 9 = .ok (.getfield 137, 3) := by decide +kernel
theorem dX6_highestNoteOf_12 : decode cX6_highestNoteOf 12 = .ok (.iload_n 1, 1) := by decide +kernel
theorem dX6_highestNoteOf_13 : decode cX6_highestNoteOf 13 = .ok (.aload_n 0, 1) := by decide +kernel
theorem dX6_highestNoteOf_14 : decode cX6_highestNoteOf 14 = .ok (.getfield 10, 3) := by decide +kernel
theorem dX6_highestNoteOf_17 : decode cX6_highestNoteOf 17 = .ok (.getfield 134, 3) := by decide +kernel
theorem dX6_highestNoteOf_20 : decode cX6_highestNoteOf 20 = .ok (.aload_n 0, 1) := by decide +kernel
theorem dX6_highestNoteOf_21 : decode cX6_highestNoteOf 21 = .ok (.getfield 10, 3) := by decide +kernel
theorem dX6_highestNoteOf_24 : decode cX6_highestNoteOf 24 = .ok (.getfield 137, 3) := by decide +kernel
theorem dX6_highestNoteOf_27 : decode cX6_highestNoteOf 27 = .ok (.getfield 163, 3) := by decide +kernel
theorem dX6_highestNoteOf_30 : decode cX6_highestNoteOf 30 = .ok (.iload_n 1, 1) := by decide +kernel
theorem dX6_highestNoteOf_31 : decode cX6_highestNoteOf 31 = .ok (.iaload, 1) := by decide +kernel
theorem dX6_highestNoteOf_32 : decode cX6_highestNoteOf 32 = .ok (.invokevirtual 160, 3) := by decide +kernel
theorem dX6_highestNoteOf_35 : decode cX6_highestNoteOf 35 = .ok (.ireturn, 1) := by decide +kernel
set_option maxRecDepth 20000 in
theorem ggX6_breakDayOf_X6_requireSinger : GoodIn wsX6_breakDayOf wsX6_requireSinger := goodIn_ca (goodIn_ca (goodIn_ca (goodIn_r _ [8, 1, 2, 9, 10, 11, 12, 13, 14, 15, 16, 7, 17, 18, 19, 20, 21, 22, 23, 24, 25, 26, 27, 28, 29, 30, 31, 32, 33, 34, 35, 36, 37, 38, 39, 40, 41, 42, 43, 44, 45, 46, 47, 48, 49, 50, 51, 52, 53] (by decide +kernel) (by decide +kernel)) (goodIn_sub (fun _ h => List.mem_cons_of_mem _ (List.mem_append_left _ (List.mem_append_left _ (List.mem_append_right _ h)))) (by decide +kernel))) (goodIn_sub (fun _ h => List.mem_cons_of_mem _ (List.mem_append_left _ (List.mem_append_right _ h))) (by decide +kernel))) (goodIn_sub (fun _ h => List.mem_cons_of_mem _ (List.mem_append_right _ h)) (by decide +kernel))
set_option maxRecDepth 20000 in
theorem gX6_breakDayOf_X6_requireSinger : GoodIn wsX6_breakDayOf (wsV RX6 146 RX6 yX6_requireSinger wsX6_requireSinger) := goodIn_app (goodIn_of _ (by decide +kernel)) ggX6_breakDayOf_X6_requireSinger
theorem dX6_breakDayOf_0 : decode cX6_breakDayOf 0 = .ok (.aload_n 0, 1) := by decide +kernel
theorem dX6_breakDayOf_1 : decode cX6_breakDayOf 1 = .ok (.iload_n 1, 1) := by decide +kernel
theorem dX6_breakDayOf_2 : decode cX6_breakDayOf 2 = .ok (.invokevirtual 146, 3) := by decide +kernel
theorem dX6_breakDayOf_5 : decode cX6_breakDayOf 5 = .ok (.aload_n 0, 1) := by decide +kernel
theorem dX6_breakDayOf_6 : decode cX6_breakDayOf 6 = .ok (.getfield 10, 3) := by decide +kernel
theorem dX6_breakDayOf_9 : decode cX6_breakDayOf 9 = .ok (.getfield 137, 3) := by decide +kernel
theorem dX6_breakDayOf_12 : decode cX6_breakDayOf 12 = .ok (.getfield 166, 3) := by decide +kernel
theorem dX6_breakDayOf_15 : decode cX6_breakDayOf 15 = .ok (.iload_n 1, 1) := by decide +kernel
theorem dX6_breakDayOf_16 : decode cX6_breakDayOf 16 = .ok (.iaload, 1) := by decide +kernel
theorem dX6_breakDayOf_17 : decode cX6_breakDayOf 17 = .ok (.ireturn, 1) := by decide +kernel
set_option maxRecDepth 20000 in
theorem ggX6_nextToBreak_X5_nextBreakingAfter : GoodIn wsX6_nextToBreak wsX5_nextBreakingAfter := goodIn_r _ [8, 9, 10, 11, 12, 13, 7, 14, 15, 34, 35, 36, 37, 38, 39, 40, 41, 42, 43, 44, 45] (by decide +kernel) (by decide +kernel)
set_option maxRecDepth 20000 in
theorem gX6_nextToBreak_X5_nextBreakingAfter : GoodIn wsX6_nextToBreak (wsV RX6 169 RX5 yX5_nextBreakingAfter wsX5_nextBreakingAfter) := goodIn_app (goodIn_of _ (by decide +kernel)) ggX6_nextToBreak_X5_nextBreakingAfter
theorem dX6_nextToBreak_0 : decode cX6_nextToBreak 0 = .ok (.aload_n 0, 1) := by decide +kernel
theorem dX6_nextToBreak_1 : decode cX6_nextToBreak 1 = .ok (.getfield 10, 3) := by decide +kernel
theorem dX6_nextToBreak_4 : decode cX6_nextToBreak 4 = .ok (.getfield 137, 3) := by decide +kernel
theorem dX6_nextToBreak_7 : decode cX6_nextToBreak 7 = .ok (.aload_n 0, 1) := by decide +kernel
theorem dX6_nextToBreak_8 : decode cX6_nextToBreak 8 = .ok (.getfield 10, 3) := by decide +kernel
theorem dX6_nextToBreak_11 : decode cX6_nextToBreak 11 = .ok (.getfield 134, 3) := by decide +kernel
theorem dX6_nextToBreak_14 : decode cX6_nextToBreak 14 = .ok (.invokevirtual 169, 3) := by decide +kernel
theorem dX6_nextToBreak_17 : decode cX6_nextToBreak 17 = .ok (.ireturn, 1) := by decide +kernel
set_option maxRecDepth 20000 in
theorem ggX6_choirOf_X6_requireSinger : GoodIn wsX6_choirOf wsX6_requireSinger := goodIn_ca (goodIn_ca (goodIn_ca (goodIn_r _ [8, 1, 2, 9, 10, 11, 12, 13, 14, 15, 16, 7, 17, 18, 19, 20, 21, 22, 23, 24, 25, 26, 27, 28, 29, 30, 31, 32, 33, 34, 35, 36, 37, 38, 39, 40, 41, 42, 43, 44, 45, 46, 47, 48, 49, 50, 51, 52, 53] (by decide +kernel) (by decide +kernel)) (goodIn_sub (fun _ h => List.mem_cons_of_mem _ (List.mem_append_left _ (List.mem_append_left _ (List.mem_append_right _ h)))) (by decide +kernel))) (goodIn_sub (fun _ h => List.mem_cons_of_mem _ (List.mem_append_left _ (List.mem_append_right _ h))) (by decide +kernel))) (goodIn_sub (fun _ h => List.mem_cons_of_mem _ (List.mem_append_right _ h)) (by decide +kernel))
set_option maxRecDepth 20000 in
theorem gX6_choirOf_X6_requireSinger : GoodIn wsX6_choirOf (wsV RX6 146 RX6 yX6_requireSinger wsX6_requireSinger) := goodIn_app (goodIn_of _ (by decide +kernel)) ggX6_choirOf_X6_requireSinger
theorem dX6_choirOf_0 : decode cX6_choirOf 0 = .ok (.aload_n 0, 1) := by decide +kernel
theorem dX6_choirOf_1 : decode cX6_choirOf 1 = .ok (.iload_n 1, 1) := by decide +kernel
theorem dX6_choirOf_2 : decode cX6_choirOf 2 = .ok (.invokevirtual 146, 3) := by decide +kernel
theorem dX6_choirOf_5 : decode cX6_choirOf 5 = .ok (.aload_n 0, 1) := by decide +kernel
theorem dX6_choirOf_6 : decode cX6_choirOf 6 = .ok (.getfield 10, 3) := by decide +kernel
theorem dX6_choirOf_9 : decode cX6_choirOf 9 = .ok (.getfield 137, 3) := by decide +kernel
theorem dX6_choirOf_12 : decode cX6_choirOf 12 = .ok (.getfield 172, 3) := by decide +kernel
theorem dX6_choirOf_15 : decode cX6_choirOf 15 = .ok (.iload_n 1, 1) := by decide +kernel
theorem dX6_choirOf_16 : decode cX6_choirOf 16 = .ok (.iaload, 1) := by decide +kernel
theorem dX6_choirOf_17 : decode cX6_choirOf 17 = .ok (.ireturn, 1) := by decide +kernel
set_option maxRecDepth 20000 in
theorem ggX6_awayUntil_X6_requireSinger : GoodIn wsX6_awayUntil wsX6_requireSinger := goodIn_ca (goodIn_ca (goodIn_ca (goodIn_r _ [9, 1, 2, 10, 11, 12, 13, 14, 15, 16, 17, 8, 18, 19, 20, 21, 22, 23, 24, 30, 31, 32, 33, 34, 35, 36, 37, 38, 39, 40, 41, 42, 43, 44, 45, 46, 47, 48, 49, 50, 51, 52, 53, 54, 55, 56, 57, 58, 59] (by decide +kernel) (by decide +kernel)) (goodIn_sub (fun _ h => List.mem_cons_of_mem _ (List.mem_append_left _ (List.mem_append_left _ (List.mem_append_right _ h)))) (by decide +kernel))) (goodIn_sub (fun _ h => List.mem_cons_of_mem _ (List.mem_append_left _ (List.mem_append_right _ h))) (by decide +kernel))) (goodIn_sub (fun _ h => List.mem_cons_of_mem _ (List.mem_append_right _ h)) (by decide +kernel))
set_option maxRecDepth 20000 in
theorem gX6_awayUntil_X6_requireSinger : GoodIn wsX6_awayUntil (wsV RX6 146 RX6 yX6_requireSinger wsX6_requireSinger) := goodIn_app (goodIn_of _ (by decide +kernel)) ggX6_awayUntil_X6_requireSinger
set_option maxRecDepth 20000 in
theorem ggX6_awayUntil_X5_isAwayOn : GoodIn wsX6_awayUntil wsX5_isAwayOn := goodIn_r _ [28, 29, 48, 49, 50, 51, 52, 53, 54, 55, 56, 57, 58, 59] (by decide +kernel) (by decide +kernel)
set_option maxRecDepth 20000 in
theorem gX6_awayUntil_X5_isAwayOn : GoodIn wsX6_awayUntil (wsV RX6 175 RX5 yX5_isAwayOn wsX5_isAwayOn) := goodIn_app (goodIn_of _ (by decide +kernel)) ggX6_awayUntil_X5_isAwayOn
theorem dX6_awayUntil_0 : decode cX6_awayUntil 0 = .ok (.aload_n 0, 1) := by decide +kernel
theorem dX6_awayUntil_1 : decode cX6_awayUntil 1 = .ok (.iload_n 1, 1) := by decide +kernel
theorem dX6_awayUntil_2 : decode cX6_awayUntil 2 = .ok (.invokevirtual 146, 3) := by decide +kernel
theorem dX6_awayUntil_5 : decode cX6_awayUntil 5 = .ok (.aload_n 0, 1) := by decide +kernel
theorem dX6_awayUntil_6 : decode cX6_awayUntil 6 = .ok (.getfield 10, 3) := by decide +kernel
theorem dX6_awayUntil_9 : decode cX6_awayUntil 9 = .ok (.getfield 137, 3) := by decide +kernel
theorem dX6_awayUntil_12 : decode cX6_awayUntil 12 = .ok (.iload_n 1, 1) := by decide +kernel
theorem dX6_awayUntil_13 : decode cX6_awayUntil 13 = .ok (.aload_n 0, 1) := by decide +kernel
theorem dX6_awayUntil_14 : decode cX6_awayUntil 14 = .ok (.getfield 10, 3) := by decide +kernel
theorem dX6_awayUntil_17 : decode cX6_awayUntil 17 = .ok (.getfield 134, 3) := by decide +kernel
theorem dX6_awayUntil_20 : decode cX6_awayUntil 20 = .ok (.invokevirtual 175, 3) := by decide +kernel
theorem dX6_awayUntil_23 : decode cX6_awayUntil 23 = .ok (.ifCond .eq 18, 3) := by decide +kernel
theorem dX6_awayUntil_26 : decode cX6_awayUntil 26 = .ok (.aload_n 0, 1) := by decide +kernel
theorem dX6_awayUntil_27 : decode cX6_awayUntil 27 = .ok (.getfield 10, 3) := by decide +kernel
theorem dX6_awayUntil_30 : decode cX6_awayUntil 30 = .ok (.getfield 137, 3) := by decide +kernel
theorem dX6_awayUntil_33 : decode cX6_awayUntil 33 = .ok (.getfield 178, 3) := by decide +kernel
theorem dX6_awayUntil_36 : decode cX6_awayUntil 36 = .ok (.iload_n 1, 1) := by decide +kernel
theorem dX6_awayUntil_37 : decode cX6_awayUntil 37 = .ok (.iaload, 1) := by decide +kernel
theorem dX6_awayUntil_38 : decode cX6_awayUntil 38 = .ok (.goto 4, 3) := by decide +kernel
theorem dX6_awayUntil_41 : decode cX6_awayUntil 41 = .ok (.iconst (-1), 1) := by decide +kernel
theorem dX6_awayUntil_42 : decode cX6_awayUntil 42 = .ok (.ireturn, 1) := by decide +kernel
set_option maxRecDepth 20000 in
theorem ggX6_isExcused_X6_requireSinger : GoodIn wsX6_isExcused wsX6_requireSinger := goodIn_ca (goodIn_ca (goodIn_ca (goodIn_r _ [7, 1, 8, 9, 10, 11, 12, 13, 14, 15, 16, 6, 17, 18, 19, 20, 21, 22, 23, 36, 37, 38, 39, 40, 41, 42, 43, 44, 45, 46, 47, 48, 49, 50, 51, 52, 53, 54, 55, 56, 57, 58, 59, 60, 61, 62, 63, 64, 65] (by decide +kernel) (by decide +kernel)) (goodIn_sub (fun _ h => List.mem_cons_of_mem _ (List.mem_append_left _ (List.mem_append_left _ (List.mem_append_right _ h)))) (by decide +kernel))) (goodIn_sub (fun _ h => List.mem_cons_of_mem _ (List.mem_append_left _ (List.mem_append_right _ h))) (by decide +kernel))) (goodIn_sub (fun _ h => List.mem_cons_of_mem _ (List.mem_append_right _ h)) (by decide +kernel))
set_option maxRecDepth 20000 in
theorem gX6_isExcused_X6_requireSinger : GoodIn wsX6_isExcused (wsV RX6 146 RX6 yX6_requireSinger wsX6_requireSinger) := goodIn_app (goodIn_of _ (by decide +kernel)) ggX6_isExcused_X6_requireSinger
set_option maxRecDepth 20000 in
theorem ggX6_isExcused_X6_isWithin : GoodIn wsX6_isExcused wsX6_isWithin := goodIn_r _ [26] (by decide +kernel) (by decide +kernel)
set_option maxRecDepth 20000 in
theorem gX6_isExcused_X6_isWithin : GoodIn wsX6_isExcused (va_wsS RX6 181 yX6_isWithin wsX6_isWithin) := goodIn_app (goodIn_of _ (by decide +kernel)) ggX6_isExcused_X6_isWithin
set_option maxRecDepth 20000 in
theorem ggX6_isExcused_X6_refuseIf : GoodIn wsX6_isExcused wsX6_refuseIf := goodIn_ca (goodIn_ca (goodIn_ca (goodIn_r _ [17, 18, 19, 20, 21, 22, 23] (by decide +kernel) (by decide +kernel)) (goodIn_sub (fun _ h => List.mem_cons_of_mem _ (List.mem_append_left _ (List.mem_append_left _ (List.mem_append_right _ h)))) (by decide +kernel))) (goodIn_sub (fun _ h => List.mem_cons_of_mem _ (List.mem_append_left _ (List.mem_append_right _ h))) (by decide +kernel))) (goodIn_sub (fun _ h => List.mem_cons_of_mem _ (List.mem_append_right _ h)) (by decide +kernel))
set_option maxRecDepth 20000 in
theorem gX6_isExcused_X6_refuseIf : GoodIn wsX6_isExcused (va_wsS RX6 52 yX6_refuseIf wsX6_refuseIf) := goodIn_app (goodIn_of _ (by decide +kernel)) ggX6_isExcused_X6_refuseIf
set_option maxRecDepth 20000 in
theorem ggX6_isExcused_X4_coverAnyOf : GoodIn wsX6_isExcused wsX4_coverAnyOf := goodIn_r _ [31, 32, 33, 34, 35, 66, 67, 68, 69] (by decide +kernel) (by decide +kernel)
set_option maxRecDepth 20000 in
theorem gX6_isExcused_X4_coverAnyOf : GoodIn wsX6_isExcused (wsV RX6 189 RX4 yX4_coverAnyOf wsX4_coverAnyOf) := goodIn_app (goodIn_of _ (by decide +kernel)) ggX6_isExcused_X4_coverAnyOf
theorem dX6_isExcused_0 : decode cX6_isExcused 0 = .ok (.aload_n 0, 1) := by decide +kernel
theorem dX6_isExcused_1 : decode cX6_isExcused 1 = .ok (.iload_n 1, 1) := by decide +kernel
theorem dX6_isExcused_2 : decode cX6_isExcused 2 = .ok (.invokevirtual 146, 3) := by decide +kernel
theorem dX6_isExcused_5 : decode cX6_isExcused 5 = .ok (.iload_n 2, 1) := by decide +kernel
theorem dX6_isExcused_6 : decode cX6_isExcused 6 = .ok (.iconst 0, 1) := by decide +kernel
theorem dX6_isExcused_7 : decode cX6_isExcused 7 = .ok (.sipush 9999, 3) := by decide +kernel
theorem dX6_isExcused_10 : decode cX6_isExcused 10 = .ok (.invokestatic 181, 3) := by decide +kernel
theorem dX6_isExcused_13 : decode cX6_isExcused 13 = .ok (.ifCond .eq 7, 3) := by decide +kernel
theorem dX6_isExcused_16 : decode cX6_isExcused 16 = .ok (.iconst 0, 1) := by decide +kernel
theorem dX6_isExcused_17 : decode cX6_isExcused 17 = .ok (.goto 4, 3) := by decide +kernel
theorem dX6_isExcused_20 : decode cX6_isExcused 20 = .ok (.iconst 2, 1) := by decide +kernel
theorem dX6_isExcused_21 : decode cX6_isExcused 21 = .ok (.invokestatic 52, 3) := by decide +kernel
theorem dX6_isExcused_24 : decode cX6_isExcused 24 = .ok (.aload_n 0, 1) := by decide +kernel
theorem dX6_isExcused_25 : decode cX6_isExcused 25 = .ok (.getfield 10, 3) := by decide +kernel
theorem dX6_isExcused_28 : decode cX6_isExcused 28 = .ok (.getfield 185, 3) := by decide +kernel
theorem dX6_isExcused_31 : decode cX6_isExcused 31 = .ok (.iload_n 1, 1) := by decide +kernel
theorem dX6_isExcused_32 : decode cX6_isExcused 32 = .ok (.iload_n 2, 1) := by decide +kernel
theorem dX6_isExcused_33 : decode cX6_isExcused 33 = .ok (.iload_n 2, 1) := by decide +kernel
theorem dX6_isExcused_34 : decode cX6_isExcused 34 = .ok (.invokevirtual 189, 3) := by decide +kernel
theorem dX6_isExcused_37 : decode cX6_isExcused 37 = .ok (.ireturn, 1) := by decide +kernel
set_option maxRecDepth 20000 in
theorem ggX6_feastsOf_X6_requireSinger : GoodIn wsX6_feastsOf wsX6_requireSinger := goodIn_ca (goodIn_ca (goodIn_ca (goodIn_r _ [8, 1, 2, 9, 10, 11, 12, 13, 14, 15, 16, 7, 17, 18, 19, 20, 21, 22, 23, 24, 25, 26, 27, 28, 29, 30, 31, 32, 33, 34, 35, 36, 37, 38, 39, 40, 41, 42, 43, 44, 45, 46, 47, 48, 49, 50, 51, 52, 53] (by decide +kernel) (by decide +kernel)) (goodIn_sub (fun _ h => List.mem_cons_of_mem _ (List.mem_append_left _ (List.mem_append_left _ (List.mem_append_right _ h)))) (by decide +kernel))) (goodIn_sub (fun _ h => List.mem_cons_of_mem _ (List.mem_append_left _ (List.mem_append_right _ h))) (by decide +kernel))) (goodIn_sub (fun _ h => List.mem_cons_of_mem _ (List.mem_append_right _ h)) (by decide +kernel))
set_option maxRecDepth 20000 in
theorem gX6_feastsOf_X6_requireSinger : GoodIn wsX6_feastsOf (wsV RX6 146 RX6 yX6_requireSinger wsX6_requireSinger) := goodIn_app (goodIn_of _ (by decide +kernel)) ggX6_feastsOf_X6_requireSinger
theorem dX6_feastsOf_0 : decode cX6_feastsOf 0 = .ok (.aload_n 0, 1) := by decide +kernel
theorem dX6_feastsOf_1 : decode cX6_feastsOf 1 = .ok (.iload_n 1, 1) := by decide +kernel
theorem dX6_feastsOf_2 : decode cX6_feastsOf 2 = .ok (.invokevirtual 146, 3) := by decide +kernel
theorem dX6_feastsOf_5 : decode cX6_feastsOf 5 = .ok (.aload_n 0, 1) := by decide +kernel
theorem dX6_feastsOf_6 : decode cX6_feastsOf 6 = .ok (.getfield 10, 3) := by decide +kernel
theorem dX6_feastsOf_9 : decode cX6_feastsOf 9 = .ok (.getfield 137, 3) := by decide +kernel
theorem dX6_feastsOf_12 : decode cX6_feastsOf 12 = .ok (.getfield 194, 3) := by decide +kernel
theorem dX6_feastsOf_15 : decode cX6_feastsOf 15 = .ok (.iload_n 1, 1) := by decide +kernel
theorem dX6_feastsOf_16 : decode cX6_feastsOf 16 = .ok (.iaload, 1) := by decide +kernel
theorem dX6_feastsOf_17 : decode cX6_feastsOf 17 = .ok (.ireturn, 1) := by decide +kernel
set_option maxRecDepth 20000 in
theorem ggX6_descantsOf_X6_requireSinger : GoodIn wsX6_descantsOf wsX6_requireSinger := goodIn_ca (goodIn_ca (goodIn_ca (goodIn_r _ [8, 1, 2, 9, 10, 11, 12, 13, 14, 15, 16, 7, 17, 18, 19, 20, 21, 22, 23, 24, 25, 26, 27, 28, 29, 30, 31, 32, 33, 34, 35, 36, 37, 38, 39, 40, 41, 42, 43, 44, 45, 46, 47, 48, 49, 50, 51, 52, 53] (by decide +kernel) (by decide +kernel)) (goodIn_sub (fun _ h => List.mem_cons_of_mem _ (List.mem_append_left _ (List.mem_append_left _ (List.mem_append_right _ h)))) (by decide +kernel))) (goodIn_sub (fun _ h => List.mem_cons_of_mem _ (List.mem_append_left _ (List.mem_append_right _ h))) (by decide +kernel))) (goodIn_sub (fun _ h => List.mem_cons_of_mem _ (List.mem_append_right _ h)) (by decide +kernel))
set_option maxRecDepth 20000 in
theorem gX6_descantsOf_X6_requireSinger : GoodIn wsX6_descantsOf (wsV RX6 146 RX6 yX6_requireSinger wsX6_requireSinger) := goodIn_app (goodIn_of _ (by decide +kernel)) ggX6_descantsOf_X6_requireSinger
theorem dX6_descantsOf_0 : decode cX6_descantsOf 0 = .ok (.aload_n 0, 1) := by decide +kernel
theorem dX6_descantsOf_1 : decode cX6_descantsOf 1 = .ok (.iload_n 1, 1) := by decide +kernel
theorem dX6_descantsOf_2 : decode cX6_descantsOf 2 = .ok (.invokevirtual 146, 3) := by decide +kernel
theorem dX6_descantsOf_5 : decode cX6_descantsOf 5 = .ok (.aload_n 0, 1) := by decide +kernel
theorem dX6_descantsOf_6 : decode cX6_descantsOf 6 = .ok (.getfield 10, 3) := by decide +kernel
theorem dX6_descantsOf_9 : decode cX6_descantsOf 9 = .ok (.getfield 137, 3) := by decide +kernel
theorem dX6_descantsOf_12 : decode cX6_descantsOf 12 = .ok (.getfield 197, 3) := by decide +kernel
theorem dX6_descantsOf_15 : decode cX6_descantsOf 15 = .ok (.iload_n 1, 1) := by decide +kernel
theorem dX6_descantsOf_16 : decode cX6_descantsOf 16 = .ok (.iaload, 1) := by decide +kernel
theorem dX6_descantsOf_17 : decode cX6_descantsOf 17 = .ok (.ireturn, 1) := by decide +kernel
theorem dX6_feasts_0 : decode cX6_feasts 0 = .ok (.aload_n 0, 1) := by decide +kernel
theorem dX6_feasts_1 : decode cX6_feasts 1 = .ok (.getfield 10, 3) := by decide +kernel
theorem dX6_feasts_4 : decode cX6_feasts 4 = .ok (.getfield 200, 3) := by decide +kernel
theorem dX6_feasts_7 : decode cX6_feasts 7 = .ok (.getfield 204, 3) := by decide +kernel
theorem dX6_feasts_10 : decode cX6_feasts 10 = .ok (.ireturn, 1) := by decide +kernel
set_option maxRecDepth 20000 in
theorem ggX6_dayOf_X6_requireFeast : GoodIn wsX6_dayOf wsX6_requireFeast := goodIn_ca (goodIn_ca (goodIn_ca (goodIn_r _ [8, 1, 2, 9, 10, 11, 12, 13, 14, 15, 16, 7, 17, 18, 19, 20, 21, 22, 23, 24, 25, 26, 27, 28, 29, 30, 31, 32, 33, 34, 35, 36, 37, 38, 39, 40, 41, 42, 43, 44, 45, 46, 47, 48, 49] (by decide +kernel) (by decide +kernel)) (goodIn_sub (fun _ h => List.mem_cons_of_mem _ (List.mem_append_left _ (List.mem_append_left _ (List.mem_append_right _ h)))) (by decide +kernel))) (goodIn_sub (fun _ h => List.mem_cons_of_mem _ (List.mem_append_left _ (List.mem_append_right _ h))) (by decide +kernel))) (goodIn_sub (fun _ h => List.mem_cons_of_mem _ (List.mem_append_right _ h)) (by decide +kernel))
set_option maxRecDepth 20000 in
theorem gX6_dayOf_X6_requireFeast : GoodIn wsX6_dayOf (wsV RX6 207 RX6 yX6_requireFeast wsX6_requireFeast) := goodIn_app (goodIn_of _ (by decide +kernel)) ggX6_dayOf_X6_requireFeast
theorem dX6_dayOf_0 : decode cX6_dayOf 0 = .ok (.aload_n 0, 1) := by decide +kernel
theorem dX6_dayOf_1 : decode cX6_dayOf 1 = .ok (.iload_n 1, 1) := by decide +kernel
theorem dX6_dayOf_2 : decode cX6_dayOf 2 = .ok (.invokevirtual 207, 3) := by decide +kernel
theorem dX6_dayOf_5 : decode cX6_dayOf 5 = .ok (.aload_n 0, 1) := by decide +kernel
theorem dX6_dayOf_6 : decode cX6_dayOf 6 = .ok (.getfield 10, 3) := by decide +kernel
theorem dX6_dayOf_9 : decode cX6_dayOf 9 = .ok (.getfield 200, 3) := by decide +kernel
theorem dX6_dayOf_12 : decode cX6_dayOf 12 = .ok (.getfield 210, 3) := by decide +kernel
theorem dX6_dayOf_15 : decode cX6_dayOf 15 = .ok (.iload_n 1, 1) := by decide +kernel
theorem dX6_dayOf_16 : decode cX6_dayOf 16 = .ok (.iaload, 1) := by decide +kernel
theorem dX6_dayOf_17 : decode cX6_dayOf 17 = .ok (.ireturn, 1) := by decide +kernel
set_option maxRecDepth 20000 in
theorem ggX6_isHeld_X6_requireFeast : GoodIn wsX6_isHeld wsX6_requireFeast := goodIn_ca (goodIn_ca (goodIn_ca (goodIn_r _ [6, 1, 7, 8, 9, 10, 11, 12, 13, 14, 15, 5, 16, 17, 18, 19, 20, 21, 22, 31, 32, 33, 34, 35, 36, 37, 38, 39, 40, 41, 42, 43, 44, 45, 46, 47, 48, 49, 50, 51, 52, 53, 54, 55, 56] (by decide +kernel) (by decide +kernel)) (goodIn_sub (fun _ h => List.mem_cons_of_mem _ (List.mem_append_left _ (List.mem_append_left _ (List.mem_append_right _ h)))) (by decide +kernel))) (goodIn_sub (fun _ h => List.mem_cons_of_mem _ (List.mem_append_left _ (List.mem_append_right _ h))) (by decide +kernel))) (goodIn_sub (fun _ h => List.mem_cons_of_mem _ (List.mem_append_right _ h)) (by decide +kernel))
set_option maxRecDepth 20000 in
theorem gX6_isHeld_X6_requireFeast : GoodIn wsX6_isHeld (wsV RX6 207 RX6 yX6_requireFeast wsX6_requireFeast) := goodIn_app (goodIn_of _ (by decide +kernel)) ggX6_isHeld_X6_requireFeast
set_option maxRecDepth 20000 in
theorem ggX6_isHeld_X0_hasHeld : GoodIn wsX6_isHeld wsX0_hasHeld := goodIn_r _ [27, 28, 29, 30, 39, 40, 41, 42, 43, 44, 45, 46, 47, 48, 49, 50, 51, 52, 53, 54, 55, 56] (by decide +kernel) (by decide +kernel)
set_option maxRecDepth 20000 in
theorem gX6_isHeld_X0_hasHeld : GoodIn wsX6_isHeld (wsV RX6 212 RX0 yX0_hasHeld wsX0_hasHeld) := goodIn_app (goodIn_of _ (by decide +kernel)) ggX6_isHeld_X0_hasHeld
theorem dX6_isHeld_0 : decode cX6_isHeld 0 = .ok (.aload_n 0, 1) := by decide +kernel
theorem dX6_isHeld_1 : decode cX6_isHeld 1 = .ok (.iload_n 1, 1) := by decide +kernel
theorem dX6_isHeld_2 : decode cX6_isHeld 2 = .ok (.invokevirtual 207, 3) := by decide +kernel
theorem dX6_isHeld_5 : decode cX6_isHeld 5 = .ok (.aload_n 0, 1) := by decide +kernel
theorem dX6_isHeld_6 : decode cX6_isHeld 6 = .ok (.getfield 10, 3) := by decide +kernel
theorem dX6_isHeld_9 : decode cX6_isHeld 9 = .ok (.iload_n 1, 1) := by decide +kernel
theorem dX6_isHeld_10 : decode cX6_isHeld 10 = .ok (.invokevirtual 212, 3) := by decide +kernel
theorem dX6_isHeld_13 : decode cX6_isHeld 13 = .ok (.ireturn, 1) := by decide +kernel
set_option maxRecDepth 20000 in
theorem ggX6_placesIn_X6_requireFeast : GoodIn wsX6_placesIn wsX6_requireFeast := goodIn_ca (goodIn_ca (goodIn_ca (goodIn_r _ [8, 1, 2, 9, 10, 11, 12, 13, 14, 15, 16, 7, 17, 18, 19, 20, 21, 22, 23, 33, 34, 35, 36, 37, 38, 39, 40, 41, 42, 43, 44, 45, 46, 47, 48, 49, 50, 51, 52, 53, 54, 55, 56, 57, 58] (by decide +kernel) (by decide +kernel)) (goodIn_sub (fun _ h => List.mem_cons_of_mem _ (List.mem_append_left _ (List.mem_append_left _ (List.mem_append_right _ h)))) (by decide +kernel))) (goodIn_sub (fun _ h => List.mem_cons_of_mem _ (List.mem_append_left _ (List.mem_append_right _ h))) (by decide +kernel))) (goodIn_sub (fun _ h => List.mem_cons_of_mem _ (List.mem_append_right _ h)) (by decide +kernel))
set_option maxRecDepth 20000 in
theorem gX6_placesIn_X6_requireFeast : GoodIn wsX6_placesIn (wsV RX6 207 RX6 yX6_requireFeast wsX6_requireFeast) := goodIn_app (goodIn_of _ (by decide +kernel)) ggX6_placesIn_X6_requireFeast
set_option maxRecDepth 20000 in
theorem ggX6_placesIn_X6_requireLine : GoodIn wsX6_placesIn wsX6_requireLine := goodIn_ca (goodIn_ca (goodIn_ca (goodIn_r _ [26, 27, 28, 7, 29, 30, 31, 32, 15, 16, 17, 18, 19, 20, 21, 22, 23] (by decide +kernel) (by decide +kernel)) (goodIn_sub (fun _ h => List.mem_cons_of_mem _ (List.mem_append_left _ (List.mem_append_left _ (List.mem_append_right _ h)))) (by decide +kernel))) (goodIn_sub (fun _ h => List.mem_cons_of_mem _ (List.mem_append_left _ (List.mem_append_right _ h))) (by decide +kernel))) (goodIn_sub (fun _ h => List.mem_cons_of_mem _ (List.mem_append_right _ h)) (by decide +kernel))
set_option maxRecDepth 20000 in
theorem gX6_placesIn_X6_requireLine : GoodIn wsX6_placesIn (va_wsS RX6 216 yX6_requireLine wsX6_requireLine) := goodIn_app (goodIn_of _ (by decide +kernel)) ggX6_placesIn_X6_requireLine
theorem dX6_placesIn_0 : decode cX6_placesIn 0 = .ok (.aload_n 0, 1) := by decide +kernel
theorem dX6_placesIn_1 : decode cX6_placesIn 1 = .ok (.iload_n 1, 1) := by decide +kernel
theorem dX6_placesIn_2 : decode cX6_placesIn 2 = .ok (.invokevirtual 207, 3) := by decide +kernel
theorem dX6_placesIn_5 : decode cX6_placesIn 5 = .ok (.iload_n 2, 1) := by decide +kernel
theorem dX6_placesIn_6 : decode cX6_placesIn 6 = .ok (.invokestatic 216, 3) := by decide +kernel
theorem dX6_placesIn_9 : decode cX6_placesIn 9 = .ok (.aload_n 0, 1) := by decide +kernel
theorem dX6_placesIn_10 : decode cX6_placesIn 10 = .ok (.getfield 10, 3) := by decide +kernel
theorem dX6_placesIn_13 : decode cX6_placesIn 13 = .ok (.getfield 200, 3) := by decide +kernel
theorem dX6_placesIn_16 : decode cX6_placesIn 16 = .ok (.getfield 219, 3) := by decide +kernel
theorem dX6_placesIn_19 : decode cX6_placesIn 19 = .ok (.iload_n 1, 1) := by decide +kernel
theorem dX6_placesIn_20 : decode cX6_placesIn 20 = .ok (.aaload, 1) := by decide +kernel
theorem dX6_placesIn_21 : decode cX6_placesIn 21 = .ok (.iload_n 2, 1) := by decide +kernel
theorem dX6_placesIn_22 : decode cX6_placesIn 22 = .ok (.iaload, 1) := by decide +kernel
theorem dX6_placesIn_23 : decode cX6_placesIn 23 = .ok (.ireturn, 1) := by decide +kernel
set_option maxRecDepth 20000 in
theorem ggX6_whyNot_X6_requireFeast : GoodIn wsX6_whyNot wsX6_requireFeast := goodIn_ca (goodIn_ca (goodIn_ca (goodIn_r _ [8, 1, 2, 9, 10, 11, 12, 13, 14, 15, 16, 7, 17, 18, 19, 20, 21, 22, 23, 94, 95, 96, 97, 98, 99, 100, 101, 102, 103, 104, 105, 106, 107, 108, 109, 110, 111, 112, 113, 114, 115, 116, 117, 118, 119] (by decide +kernel) (by decide +kernel)) (goodIn_sub (fun _ h => List.mem_cons_of_mem _ (List.mem_append_left _ (List.mem_append_left _ (List.mem_append_right _ h)))) (by decide +kernel))) (goodIn_sub (fun _ h => List.mem_cons_of_mem _ (List.mem_append_left _ (List.mem_append_right _ h))) (by decide +kernel))) (goodIn_sub (fun _ h => List.mem_cons_of_mem _ (List.mem_append_right _ h)) (by decide +kernel))
set_option maxRecDepth 20000 in
theorem gX6_whyNot_X6_requireFeast : GoodIn wsX6_whyNot (wsV RX6 207 RX6 yX6_requireFeast wsX6_requireFeast) := goodIn_app (goodIn_of _ (by decide +kernel)) ggX6_whyNot_X6_requireFeast
set_option maxRecDepth 20000 in
theorem ggX6_whyNot_X6_requireSinger : GoodIn wsX6_whyNot wsX6_requireSinger := goodIn_ca (goodIn_ca (goodIn_ca (goodIn_r _ [27, 1, 28, 29, 30, 31, 32, 33, 34, 15, 16, 7, 17, 18, 19, 20, 21, 22, 23, 94, 95, 96, 97, 98, 99, 100, 101, 102, 103, 104, 105, 106, 107, 108, 109, 110, 111, 120, 121, 122, 123, 124, 125, 126, 127, 128, 129, 130, 131] (by decide +kernel) (by decide +kernel)) (goodIn_sub (fun _ h => List.mem_cons_of_mem _ (List.mem_append_left _ (List.mem_append_left _ (List.mem_append_right _ h)))) (by decide +kernel))) (goodIn_sub (fun _ h => List.mem_cons_of_mem _ (List.mem_append_left _ (List.mem_append_right _ h))) (by decide +kernel))) (goodIn_sub (fun _ h => List.mem_cons_of_mem _ (List.mem_append_right _ h)) (by decide +kernel))
set_option maxRecDepth 20000 in
theorem gX6_whyNot_X6_requireSinger : GoodIn wsX6_whyNot (wsV RX6 146 RX6 yX6_requireSinger wsX6_requireSinger) := goodIn_app (goodIn_of _ (by decide +kernel)) ggX6_whyNot_X6_requireSinger
set_option maxRecDepth 20000 in
theorem ggX6_whyNot_X6_requireLine : GoodIn wsX6_whyNot wsX6_requireLine := goodIn_ca (goodIn_ca (goodIn_ca (goodIn_r _ [37, 38, 39, 7, 40, 41, 42, 43, 15, 16, 17, 18, 19, 20, 21, 22, 23] (by decide +kernel) (by decide +kernel)) (goodIn_sub (fun _ h => List.mem_cons_of_mem _ (List.mem_append_left _ (List.mem_append_left _ (List.mem_append_right _ h)))) (by decide +kernel))) (goodIn_sub (fun _ h => List.mem_cons_of_mem _ (List.mem_append_left _ (List.mem_append_right _ h))) (by decide +kernel))) (goodIn_sub (fun _ h => List.mem_cons_of_mem _ (List.mem_append_right _ h)) (by decide +kernel))
set_option maxRecDepth 20000 in
theorem gX6_whyNot_X6_requireLine : GoodIn wsX6_whyNot (va_wsS RX6 216 yX6_requireLine wsX6_requireLine) := goodIn_app (goodIn_of _ (by decide +kernel)) ggX6_whyNot_X6_requireLine
set_option maxRecDepth 20000 in
theorem ggX6_whyNot_X0_hasHeld : GoodIn wsX6_whyNot wsX0_hasHeld := goodIn_r _ [48, 49, 50, 51, 102, 103, 104, 105, 106, 107, 108, 109, 110, 111, 112, 113, 114, 115, 116, 117, 118, 119] (by decide +kernel) (by decide +kernel)
set_option maxRecDepth 20000 in
theorem gX6_whyNot_X0_hasHeld : GoodIn wsX6_whyNot (wsV RX6 212 RX0 yX0_hasHeld wsX0_hasHeld) := goodIn_app (goodIn_of _ (by decide +kernel)) ggX6_whyNot_X0_hasHeld
set_option maxRecDepth 20000 in
theorem ggX6_whyNot_X6_refuseIf : GoodIn wsX6_whyNot wsX6_refuseIf := goodIn_ca (goodIn_ca (goodIn_ca (goodIn_r _ [17, 18, 19, 20, 21, 22, 23] (by decide +kernel) (by decide +kernel)) (goodIn_sub (fun _ h => List.mem_cons_of_mem _ (List.mem_append_left _ (List.mem_append_left _ (List.mem_append_right _ h)))) (by decide +kernel))) (goodIn_sub (fun _ h => List.mem_cons_of_mem _ (List.mem_append_left _ (List.mem_append_right _ h))) (by decide +kernel))) (goodIn_sub (fun _ h => List.mem_cons_of_mem _ (List.mem_append_right _ h)) (by decide +kernel))
set_option maxRecDepth 20000 in
theorem gX6_whyNot_X6_refuseIf : GoodIn wsX6_whyNot (va_wsS RX6 52 yX6_refuseIf wsX6_refuseIf) := goodIn_app (goodIn_of _ (by decide +kernel)) ggX6_whyNot_X6_refuseIf
set_option maxRecDepth 20000 in
theorem ggX6_whyNot_X0_hindrance : GoodIn wsX6_whyNot wsX0_hindrance := goodIn_r _ [55, 56, 57, 58, 59, 60, 32, 61, 62, 63, 64, 65, 66, 67, 68, 69, 70, 71, 72, 73, 74, 75, 76, 77, 78, 79, 80, 81, 102, 103, 104, 105, 106, 107, 108, 109, 110, 111, 120, 121, 122, 123, 124, 125, 126, 127, 128, 129, 130, 131, 132, 133, 134, 135] (by decide +kernel) (by decide +kernel)
set_option maxRecDepth 20000 in
theorem gX6_whyNot_X0_hindrance : GoodIn wsX6_whyNot (wsV RX6 223 RX0 yX0_hindrance wsX0_hindrance) := goodIn_app (goodIn_of _ (by decide +kernel)) ggX6_whyNot_X0_hindrance
set_option maxRecDepth 20000 in
theorem ggX6_whyNot_X0_misfit : GoodIn wsX6_whyNot wsX0_misfit := goodIn_r _ [85, 49, 50, 86, 56, 87, 88, 89, 90, 91, 92, 32, 93, 81, 102, 103, 104, 105, 106, 107, 108, 109, 110, 111, 112, 113, 114, 115, 116, 117, 118, 119, 120, 121, 122, 123, 124, 125, 126, 127, 128, 129, 130, 131] (by decide +kernel) (by decide +kernel)
set_option maxRecDepth 20000 in
theorem gX6_whyNot_X0_misfit : GoodIn wsX6_whyNot (wsV RX6 226 RX0 yX0_misfit wsX0_misfit) := goodIn_app (goodIn_of _ (by decide +kernel)) ggX6_whyNot_X0_misfit
theorem dX6_whyNot_0 : decode cX6_whyNot 0 = .ok (.aload_n 0, 1) := by decide +kernel
theorem dX6_whyNot_1 : decode cX6_whyNot 1 = .ok (.iload_n 1, 1) := by decide +kernel
theorem dX6_whyNot_2 : decode cX6_whyNot 2 = .ok (.invokevirtual 207, 3) := by decide +kernel
theorem dX6_whyNot_5 : decode cX6_whyNot 5 = .ok (.aload_n 0, 1) := by decide +kernel
theorem dX6_whyNot_6 : decode cX6_whyNot 6 = .ok (.iload_n 2, 1) := by decide +kernel
theorem dX6_whyNot_7 : decode cX6_whyNot 7 = .ok (.invokevirtual 146, 3) := by decide +kernel
theorem dX6_whyNot_10 : decode cX6_whyNot 10 = .ok (.iload_n 3, 1) := by decide +kernel
theorem dX6_whyNot_11 : decode cX6_whyNot 11 = .ok (.invokestatic 216, 3) := by decide +kernel
theorem dX6_whyNot_14 : decode cX6_whyNot 14 = .ok (.aload_n 0, 1) := by decide +kernel
theorem dX6_whyNot_15 : decode cX6_whyNot 15 = .ok (.getfield 10, 3) := by decide +kernel
theorem dX6_whyNot_18 : decode cX6_whyNot 18 = .ok (.iload_n 1, 1) := by decide +kernel
theorem dX6_whyNot_19 : decode cX6_whyNot 19 = .ok (.invokevirtual 212, 3) := by decide +kernel
theorem dX6_whyNot_22 : decode cX6_whyNot 22 = .ok (.ifCond .eq 7, 3) := by decide +kernel
theorem dX6_whyNot_25 : decode cX6_whyNot 25 = .ok (.iconst 3, 1) := by decide +kernel
theorem dX6_whyNot_26 : decode cX6_whyNot 26 = .ok (.goto 4, 3) := by decide +kernel
theorem dX6_whyNot_29 : decode cX6_whyNot 29 = .ok (.iconst 0, 1) := by decide +kernel
theorem dX6_whyNot_30 : decode cX6_whyNot 30 = .ok (.invokestatic 52, 3) := by decide +kernel
theorem dX6_whyNot_33 : decode cX6_whyNot 33 = .ok (.aload_n 0, 1) := by decide +kernel
theorem dX6_whyNot_34 : decode cX6_whyNot 34 = .ok (.getfield 10, 3) := by decide +kernel
theorem dX6_whyNot_37 : decode cX6_whyNot 37 = .ok (.iload_n 2, 1) := by decide +kernel
theorem dX6_whyNot_38 : decode cX6_whyNot 38 = .ok (.aload_n 0, 1) := by decide +kernel
theorem dX6_whyNot_39 : decode cX6_whyNot 39 = .ok (.getfield 10, 3) := by decide +kernel
theorem dX6_whyNot_42 : decode cX6_whyNot 42 = .ok (.getfield 200, 3) := by decide +kernel
theorem dX6_whyNot_45 : decode cX6_whyNot 45 = .ok (.getfield 210, 3) := by decide +kernel
theorem dX6_whyNot_48 : decode cX6_whyNot 48 = .ok (.iload_n 1, 1) := by decide +kernel
theorem dX6_whyNot_49 : decode cX6_whyNot 49 = .ok (.iaload, 1) := by decide +kernel
theorem dX6_whyNot_50 : decode cX6_whyNot 50 = .ok (.invokevirtual 223, 3) := by decide +kernel
theorem dX6_whyNot_53 : decode cX6_whyNot 53 = .ok (.istore 4, 2) := by decide +kernel
theorem dX6_whyNot_55 : decode cX6_whyNot 55 = .ok (.iload 4, 2) := by decide +kernel
theorem dX6_whyNot_57 : decode cX6_whyNot 57 = .ok (.ifCond .eq 8, 3) := by decide +kernel
theorem dX6_whyNot_60 : decode cX6_whyNot 60 = .ok (.iload 4, 2) := by decide +kernel
theorem dX6_whyNot_62 : decode cX6_whyNot 62 = .ok (.goto 13, 3) := by decide +kernel
theorem dX6_whyNot_65 : decode cX6_whyNot 65 = .ok (.aload_n 0, 1) := by decide +kernel
theorem dX6_whyNot_66 : decode cX6_whyNot 66 = .ok (.getfield 10, 3) := by decide +kernel
theorem dX6_whyNot_69 : decode cX6_whyNot 69 = .ok (.iload_n 1, 1) := by decide +kernel
theorem dX6_whyNot_70 : decode cX6_whyNot 70 = .ok (.iload_n 2, 1) := by decide +kernel
theorem dX6_whyNot_71 : decode cX6_whyNot 71 = .ok (.iload_n 3, 1) := by decide +kernel
theorem dX6_whyNot_72 : decode cX6_whyNot 72 = .ok (.invokevirtual 226, 3) := by decide +kernel
theorem dX6_whyNot_75 : decode cX6_whyNot 75 = .ok (.ireturn, 1) := by decide +kernel
set_option maxRecDepth 20000 in
theorem ggX6_lineOf_X6_requireFeast : GoodIn wsX6_lineOf wsX6_requireFeast := goodIn_ca (goodIn_ca (goodIn_ca (goodIn_r _ [8, 2, 9, 10, 11, 12, 13, 14, 15, 16, 17, 7, 18, 19, 20, 21, 22, 23, 24, 147, 148, 149, 150, 151, 152, 153, 154, 160, 161, 162, 163, 164, 165, 166, 167, 168, 169, 170, 171, 172, 173, 174, 175, 176, 177] (by decide +kernel) (by decide +kernel)) (goodIn_sub (fun _ h => List.mem_cons_of_mem _ (List.mem_append_left _ (List.mem_append_left _ (List.mem_append_right _ h)))) (by decide +kernel))) (goodIn_sub (fun _ h => List.mem_cons_of_mem _ (List.mem_append_left _ (List.mem_append_right _ h))) (by decide +kernel))) (goodIn_sub (fun _ h => List.mem_cons_of_mem _ (List.mem_append_right _ h)) (by decide +kernel))
set_option maxRecDepth 20000 in
theorem gX6_lineOf_X6_requireFeast : GoodIn wsX6_lineOf (wsV RX6 207 RX6 yX6_requireFeast wsX6_requireFeast) := goodIn_app (goodIn_of _ (by decide +kernel)) ggX6_lineOf_X6_requireFeast
set_option maxRecDepth 20000 in
theorem ggX6_lineOf_X6_requireSinger : GoodIn wsX6_lineOf wsX6_requireSinger := goodIn_ca (goodIn_ca (goodIn_ca (goodIn_r _ [28, 2, 29, 30, 31, 32, 33, 34, 35, 16, 17, 7, 18, 19, 20, 21, 22, 23, 24, 147, 148, 149, 150, 151, 152, 153, 154, 160, 161, 162, 163, 164, 165, 166, 167, 168, 169, 178, 179, 180, 181, 182, 183, 184, 185, 186, 187, 188, 189] (by decide +kernel) (by decide +kernel)) (goodIn_sub (fun _ h => List.mem_cons_of_mem _ (List.mem_append_left _ (List.mem_append_left _ (List.mem_append_right _ h)))) (by decide +kernel))) (goodIn_sub (fun _ h => List.mem_cons_of_mem _ (List.mem_append_left _ (List.mem_append_right _ h))) (by decide +kernel))) (goodIn_sub (fun _ h => List.mem_cons_of_mem _ (List.mem_append_right _ h)) (by decide +kernel))
set_option maxRecDepth 20000 in
theorem gX6_lineOf_X6_requireSinger : GoodIn wsX6_lineOf (wsV RX6 146 RX6 yX6_requireSinger wsX6_requireSinger) := goodIn_app (goodIn_of _ (by decide +kernel)) ggX6_lineOf_X6_requireSinger
set_option maxRecDepth 20000 in
theorem ggX6_lineOf_X3_tell_q1 : GoodIn wsX6_lineOf ([Cond.code yX3_tell cX3_tell 3 none]) := goodIn_r _ [40] (by decide +kernel) (by decide +kernel)
set_option maxRecDepth 20000 in
theorem ggX6_lineOf_X3_tell_q2 : GoodIn wsX6_lineOf (wsX3_tell_r1) := goodIn_r _ [41, 42, 43, 44, 45, 46, 47, 48, 49, 50, 51, 52, 53, 54, 55, 56, 57, 58, 39, 59, 60, 61, 62, 63] (by decide +kernel) (by decide +kernel)
set_option maxRecDepth 20000 in
theorem ggX6_lineOf_X3_tell_q3 : GoodIn wsX6_lineOf (wsX3_tell_r2) := goodIn_r _ [64, 65, 66, 67, 68, 69, 70, 71, 72, 73, 74, 75, 76, 77, 78, 33, 79, 80, 81, 82, 83, 84, 85, 86] (by decide +kernel) (by decide +kernel)
set_option maxRecDepth 20000 in
theorem ggX6_lineOf_X3_tell_q4 : GoodIn wsX6_lineOf (wsX3_tell_r3) := goodIn_r _ [87, 88, 89, 90, 91, 92, 93, 94, 95, 96, 97, 98, 99, 100, 101, 102, 103, 104, 105, 106, 107, 108, 109, 110] (by decide +kernel) (by decide +kernel)
set_option maxRecDepth 20000 in
theorem ggX6_lineOf_X3_tell_q5 : GoodIn wsX6_lineOf (wsX3_tell_r4) := goodIn_r _ [111, 112, 113, 114, 115, 116, 117, 118, 119, 120, 121, 122, 123, 124, 125, 126, 127, 128, 129, 130, 131, 132, 133, 134] (by decide +kernel) (by decide +kernel)
set_option maxRecDepth 20000 in
theorem ggX6_lineOf_X3_tell_q6 : GoodIn wsX6_lineOf (wsX3_tell_r5) := goodIn_r _ [135, 136, 137, 138, 139, 140, 141, 142, 143, 144, 145, 146] (by decide +kernel) (by decide +kernel)
set_option maxRecDepth 20000 in
theorem ggX6_lineOf_X3_tell_q7 : GoodIn wsX6_lineOf (wsX00) := goodIn_r _ [160, 161, 162, 163, 164, 165, 166, 167, 168, 169] (by decide +kernel) (by decide +kernel)
set_option maxRecDepth 20000 in
theorem ggX6_lineOf_X3_tell_q8 : GoodIn wsX6_lineOf (wsX10) := goodIn_r _ [170, 171, 172, 173, 174, 175, 176, 177] (by decide +kernel) (by decide +kernel)
set_option maxRecDepth 20000 in
theorem ggX6_lineOf_X3_tell_q9 : GoodIn wsX6_lineOf (wsX30) := goodIn_r _ [155, 156, 157, 158, 159] (by decide +kernel) (by decide +kernel)
set_option maxRecDepth 20000 in
theorem ggX6_lineOf_X3_tell_q10 : GoodIn wsX6_lineOf (wsX50) := goodIn_r _ [178, 179, 180, 181, 182, 183, 184, 185, 186, 187, 188, 189] (by decide +kernel) (by decide +kernel)
set_option maxRecDepth 20000 in
theorem ggX6_lineOf_X3_tell_q11 : GoodIn wsX6_lineOf (wsX40) := goodIn_r _ [190, 191, 192, 193] (by decide +kernel) (by decide +kernel)
theorem ggX6_lineOf_X3_tell : GoodIn wsX6_lineOf wsX3_tell := (goodIn_app (a := [Cond.code yX3_tell cX3_tell 3 none]) ggX6_lineOf_X3_tell_q1 (goodIn_app (goodIn_app (goodIn_app (goodIn_app (goodIn_app (goodIn_app ggX6_lineOf_X3_tell_q2 (goodIn_app ggX6_lineOf_X3_tell_q3 (goodIn_app ggX6_lineOf_X3_tell_q4 (goodIn_app ggX6_lineOf_X3_tell_q5 ggX6_lineOf_X3_tell_q6)))) ggX6_lineOf_X3_tell_q7) ggX6_lineOf_X3_tell_q8) ggX6_lineOf_X3_tell_q9) ggX6_lineOf_X3_tell_q10) ggX6_lineOf_X3_tell_q11))
set_option maxRecDepth 20000 in
theorem gX6_lineOf_X3_tell : GoodIn wsX6_lineOf (wsV RX6 229 RX3 yX3_tell wsX3_tell) := goodIn_app (goodIn_of _ (by decide +kernel)) ggX6_lineOf_X3_tell
theorem dX6_lineOf_0 : decode cX6_lineOf 0 = .ok (.aload_n 0, 1) := by decide +kernel
theorem dX6_lineOf_1 : decode cX6_lineOf 1 = .ok (.iload_n 1, 1) := by decide +kernel
theorem dX6_lineOf_2 : decode cX6_lineOf 2 = .ok (.invokevirtual 207, 3) := by decide +kernel
theorem dX6_lineOf_5 : decode cX6_lineOf 5 = .ok (.aload_n 0, 1) := by decide +kernel
theorem dX6_lineOf_6 : decode cX6_lineOf 6 = .ok (.iload_n 2, 1) := by decide +kernel
theorem dX6_lineOf_7 : decode cX6_lineOf 7 = .ok (.invokevirtual 146, 3) := by decide +kernel
theorem dX6_lineOf_10 : decode cX6_lineOf 10 = .ok (.aload_n 0, 1) := by decide +kernel
theorem dX6_lineOf_11 : decode cX6_lineOf 11 = .ok (.getfield 44, 3) := by decide +kernel
theorem dX6_lineOf_14 : decode cX6_lineOf 14 = .ok (.aload_n 0, 1) := by decide +kernel
theorem dX6_lineOf_15 : decode cX6_lineOf 15 = .ok (.getfield 10, 3) := by decide +kernel
theorem dX6_lineOf_18 : decode cX6_lineOf 18 = .ok (.iload_n 1, 1) := by decide +kernel
theorem dX6_lineOf_19 : decode cX6_lineOf 19 = .ok (.invokevirtual 229, 3) := by decide +kernel
theorem dX6_lineOf_22 : decode cX6_lineOf 22 = .ok (.aload_n 0, 1) := by decide +kernel
theorem dX6_lineOf_23 : decode cX6_lineOf 23 = .ok (.getfield 44, 3) := by decide +kernel
theorem dX6_lineOf_26 : decode cX6_lineOf 26 = .ok (.getfield 233, 3) := by decide +kernel
theorem dX6_lineOf_29 : decode cX6_lineOf 29 = .ok (.iload_n 2, 1) := by decide +kernel
theorem dX6_lineOf_30 : decode cX6_lineOf 30 = .ok (.iaload, 1) := by decide +kernel
theorem dX6_lineOf_31 : decode cX6_lineOf 31 = .ok (.ireturn, 1) := by decide +kernel
set_option maxRecDepth 20000 in
theorem ggX6_singersIn_X6_requireFeast : GoodIn wsX6_singersIn wsX6_requireFeast := goodIn_ca (goodIn_ca (goodIn_ca (goodIn_r _ [7, 2, 8, 9, 10, 11, 12, 13, 14, 15, 16, 6, 17, 18, 19, 20, 21, 22, 23, 149, 150, 151, 152, 153, 154, 155, 156, 157, 158, 159, 160, 161, 162, 163, 164, 165, 166, 167, 168, 169, 170, 171, 172, 173, 174] (by decide +kernel) (by decide +kernel)) (goodIn_sub (fun _ h => List.mem_cons_of_mem _ (List.mem_append_left _ (List.mem_append_left _ (List.mem_append_right _ h)))) (by decide +kernel))) (goodIn_sub (fun _ h => List.mem_cons_of_mem _ (List.mem_append_left _ (List.mem_append_right _ h))) (by decide +kernel))) (goodIn_sub (fun _ h => List.mem_cons_of_mem _ (List.mem_append_right _ h)) (by decide +kernel))
set_option maxRecDepth 20000 in
theorem gX6_singersIn_X6_requireFeast : GoodIn wsX6_singersIn (wsV RX6 207 RX6 yX6_requireFeast wsX6_requireFeast) := goodIn_app (goodIn_of _ (by decide +kernel)) ggX6_singersIn_X6_requireFeast
set_option maxRecDepth 20000 in
theorem ggX6_singersIn_X6_requireLine : GoodIn wsX6_singersIn wsX6_requireLine := goodIn_ca (goodIn_ca (goodIn_ca (goodIn_r _ [26, 27, 28, 6, 29, 30, 31, 32, 15, 16, 17, 18, 19, 20, 21, 22, 23] (by decide +kernel) (by decide +kernel)) (goodIn_sub (fun _ h => List.mem_cons_of_mem _ (List.mem_append_left _ (List.mem_append_left _ (List.mem_append_right _ h)))) (by decide +kernel))) (goodIn_sub (fun _ h => List.mem_cons_of_mem _ (List.mem_append_left _ (List.mem_append_right _ h))) (by decide +kernel))) (goodIn_sub (fun _ h => List.mem_cons_of_mem _ (List.mem_append_right _ h)) (by decide +kernel))
set_option maxRecDepth 20000 in
theorem gX6_singersIn_X6_requireLine : GoodIn wsX6_singersIn (va_wsS RX6 216 yX6_requireLine wsX6_requireLine) := goodIn_app (goodIn_of _ (by decide +kernel)) ggX6_singersIn_X6_requireLine
set_option maxRecDepth 20000 in
theorem ggX6_singersIn_X3_tell_q1 : GoodIn wsX6_singersIn ([Cond.code yX3_tell cX3_tell 3 none]) := goodIn_r _ [37] (by decide +kernel) (by decide +kernel)
set_option maxRecDepth 20000 in
theorem ggX6_singersIn_X3_tell_q2 : GoodIn wsX6_singersIn (wsX3_tell_r1) := goodIn_r _ [38, 39, 40, 41, 42, 43, 44, 45, 46, 47, 48, 49, 50, 51, 52, 53, 54, 55, 36, 56, 57, 58, 59, 60] (by decide +kernel) (by decide +kernel)
set_option maxRecDepth 20000 in
theorem ggX6_singersIn_X3_tell_q3 : GoodIn wsX6_singersIn (wsX3_tell_r2) := goodIn_r _ [61, 62, 63, 64, 65, 66, 67, 68, 69, 70, 71, 72, 73, 74, 75, 76, 77, 78, 79, 80, 81, 82, 83, 84] (by decide +kernel) (by decide +kernel)
set_option maxRecDepth 20000 in
theorem ggX6_singersIn_X3_tell_q4 : GoodIn wsX6_singersIn (wsX3_tell_r3) := goodIn_r _ [85, 86, 87, 88, 89, 90, 91, 92, 93, 94, 95, 96, 97, 98, 99, 100, 101, 102, 103, 104, 105, 106, 107, 108] (by decide +kernel) (by decide +kernel)
set_option maxRecDepth 20000 in
theorem ggX6_singersIn_X3_tell_q5 : GoodIn wsX6_singersIn (wsX3_tell_r4) := goodIn_r _ [109, 110, 111, 112, 113, 114, 115, 116, 117, 118, 119, 120, 121, 122, 123, 124, 125, 126, 127, 128, 129, 130, 131, 132] (by decide +kernel) (by decide +kernel)
set_option maxRecDepth 20000 in
theorem ggX6_singersIn_X3_tell_q6 : GoodIn wsX6_singersIn (wsX3_tell_r5) := goodIn_r _ [133, 134, 135, 136, 137, 138, 139, 140, 141, 142, 143, 144] (by decide +kernel) (by decide +kernel)
set_option maxRecDepth 20000 in
theorem ggX6_singersIn_X3_tell_q7 : GoodIn wsX6_singersIn (wsX00) := goodIn_r _ [157, 158, 159, 160, 161, 162, 163, 164, 165, 166] (by decide +kernel) (by decide +kernel)
set_option maxRecDepth 20000 in
theorem ggX6_singersIn_X3_tell_q8 : GoodIn wsX6_singersIn (wsX10) := goodIn_r _ [167, 168, 169, 170, 171, 172, 173, 174] (by decide +kernel) (by decide +kernel)
set_option maxRecDepth 20000 in
theorem ggX6_singersIn_X3_tell_q9 : GoodIn wsX6_singersIn (wsX30) := goodIn_r _ [175, 176, 177, 178, 179] (by decide +kernel) (by decide +kernel)
set_option maxRecDepth 20000 in
theorem ggX6_singersIn_X3_tell_q10 : GoodIn wsX6_singersIn (wsX50) := goodIn_r _ [180, 181, 182, 183, 184, 185, 186, 187, 188, 189, 190, 191] (by decide +kernel) (by decide +kernel)
set_option maxRecDepth 20000 in
theorem ggX6_singersIn_X3_tell_q11 : GoodIn wsX6_singersIn (wsX40) := goodIn_r _ [192, 193, 194, 195] (by decide +kernel) (by decide +kernel)
theorem ggX6_singersIn_X3_tell : GoodIn wsX6_singersIn wsX3_tell := (goodIn_app (a := [Cond.code yX3_tell cX3_tell 3 none]) ggX6_singersIn_X3_tell_q1 (goodIn_app (goodIn_app (goodIn_app (goodIn_app (goodIn_app (goodIn_app ggX6_singersIn_X3_tell_q2 (goodIn_app ggX6_singersIn_X3_tell_q3 (goodIn_app ggX6_singersIn_X3_tell_q4 (goodIn_app ggX6_singersIn_X3_tell_q5 ggX6_singersIn_X3_tell_q6)))) ggX6_singersIn_X3_tell_q7) ggX6_singersIn_X3_tell_q8) ggX6_singersIn_X3_tell_q9) ggX6_singersIn_X3_tell_q10) ggX6_singersIn_X3_tell_q11))
set_option maxRecDepth 20000 in
theorem gX6_singersIn_X3_tell : GoodIn wsX6_singersIn (wsV RX6 229 RX3 yX3_tell wsX3_tell) := goodIn_app (goodIn_of _ (by decide +kernel)) ggX6_singersIn_X3_tell
set_option maxRecDepth 20000 in
theorem ggX6_singersIn_X3_countIn : GoodIn wsX6_singersIn wsX3_countIn := goodIn_r _ [148, 40, 175, 176, 177, 178, 179] (by decide +kernel) (by decide +kernel)
set_option maxRecDepth 20000 in
theorem gX6_singersIn_X3_countIn : GoodIn wsX6_singersIn (wsV RX6 236 RX3 yX3_countIn wsX3_countIn) := goodIn_app (goodIn_of _ (by decide +kernel)) ggX6_singersIn_X3_countIn
theorem dX6_singersIn_0 : decode cX6_singersIn 0 = .ok (.aload_n 0, 1) := by decide +kernel
theorem dX6_singersIn_1 : decode cX6_singersIn 1 = .ok (.iload_n 1, 1) := by decide +kernel
theorem dX6_singersIn_2 : decode cX6_singersIn 2 = .ok (.invokevirtual 207, 3) := by decide +kernel
theorem dX6_singersIn_5 : decode cX6_singersIn 5 = .ok (.iload_n 2, 1) := by decide +kernel
theorem dX6_singersIn_6 : decode cX6_singersIn 6 = .ok (.invokestatic 216, 3) := by decide +kernel
theorem dX6_singersIn_9 : decode cX6_singersIn 9 = .ok (.aload_n 0, 1) := by decide +kernel
theorem dX6_singersIn_10 : decode cX6_singersIn 10 = .ok (.getfield 44, 3) := by decide +kernel
theorem dX6_singersIn_13 : decode cX6_singersIn 13 = .ok (.aload_n 0, 1) := by decide +kernel
theorem dX6_singersIn_14 : decode cX6_singersIn 14 = .ok (.getfield 10, 3) := by decide +kernel
theorem dX6_singersIn_17 : decode cX6_singersIn 17 = .ok (.iload_n 1, 1) := by decide +kernel
theorem dX6_singersIn_18 : decode cX6_singersIn 18 = .ok (.invokevirtual 229, 3) := by decide +kernel
theorem dX6_singersIn_21 : decode cX6_singersIn 21 = .ok (.aload_n 0, 1) := by decide +kernel
theorem dX6_singersIn_22 : decode cX6_singersIn 22 = .ok (.getfield 44, 3) := by decide +kernel
theorem dX6_singersIn_25 : decode cX6_singersIn 25 = .ok (.iload_n 2, 1) := by decide +kernel
theorem dX6_singersIn_26 : decode cX6_singersIn 26 = .ok (.invokevirtual 236, 3) := by decide +kernel
theorem dX6_singersIn_29 : decode cX6_singersIn 29 = .ok (.ireturn, 1) := by decide +kernel
set_option maxRecDepth 20000 in
theorem ggX6_shortfall_X6_requireFeast : GoodIn wsX6_shortfall wsX6_requireFeast := goodIn_ca (goodIn_ca (goodIn_ca (goodIn_r _ [8, 2, 3, 9, 10, 11, 12, 13, 14, 15, 16, 7, 17, 18, 19, 20, 21, 22, 23, 149, 150, 151, 152, 153, 154, 155, 156, 157, 158, 159, 160, 161, 162, 163, 164, 165, 166, 167, 168, 169, 170, 171, 172, 173, 174] (by decide +kernel) (by decide +kernel)) (goodIn_sub (fun _ h => List.mem_cons_of_mem _ (List.mem_append_left _ (List.mem_append_left _ (List.mem_append_right _ h)))) (by decide +kernel))) (goodIn_sub (fun _ h => List.mem_cons_of_mem _ (List.mem_append_left _ (List.mem_append_right _ h))) (by decide +kernel))) (goodIn_sub (fun _ h => List.mem_cons_of_mem _ (List.mem_append_right _ h)) (by decide +kernel))
set_option maxRecDepth 20000 in
theorem gX6_shortfall_X6_requireFeast : GoodIn wsX6_shortfall (wsV RX6 207 RX6 yX6_requireFeast wsX6_requireFeast) := goodIn_app (goodIn_of _ (by decide +kernel)) ggX6_shortfall_X6_requireFeast
set_option maxRecDepth 20000 in
theorem ggX6_shortfall_X3_tell_q1 : GoodIn wsX6_shortfall ([Cond.code yX3_tell cX3_tell 3 none]) := goodIn_r _ [28] (by decide +kernel) (by decide +kernel)
set_option maxRecDepth 20000 in
theorem ggX6_shortfall_X3_tell_q2 : GoodIn wsX6_shortfall (wsX3_tell_r1) := goodIn_r _ [29, 30, 31, 32, 33, 34, 35, 36, 37, 38, 39, 40, 41, 42, 43, 44, 45, 46, 27, 47, 48, 49, 50, 51] (by decide +kernel) (by decide +kernel)
set_option maxRecDepth 20000 in
theorem ggX6_shortfall_X3_tell_q3 : GoodIn wsX6_shortfall (wsX3_tell_r2) := goodIn_r _ [52, 53, 54, 55, 56, 57, 58, 59, 60, 61, 62, 63, 64, 65, 66, 67, 68, 69, 70, 71, 72, 73, 74, 75] (by decide +kernel) (by decide +kernel)
set_option maxRecDepth 20000 in
theorem ggX6_shortfall_X3_tell_q4 : GoodIn wsX6_shortfall (wsX3_tell_r3) := goodIn_r _ [76, 77, 78, 79, 80, 81, 82, 83, 84, 85, 86, 87, 88, 89, 90, 91, 92, 93, 94, 95, 96, 97, 98, 99] (by decide +kernel) (by decide +kernel)
set_option maxRecDepth 20000 in
theorem ggX6_shortfall_X3_tell_q5 : GoodIn wsX6_shortfall (wsX3_tell_r4) := goodIn_r _ [100, 101, 102, 103, 104, 105, 106, 107, 108, 109, 110, 111, 112, 113, 114, 115, 116, 117, 118, 119, 120, 121, 122, 123] (by decide +kernel) (by decide +kernel)
set_option maxRecDepth 20000 in
theorem ggX6_shortfall_X3_tell_q6 : GoodIn wsX6_shortfall (wsX3_tell_r5) := goodIn_r _ [124, 125, 126, 127, 128, 129, 130, 131, 132, 133, 134, 135] (by decide +kernel) (by decide +kernel)
set_option maxRecDepth 20000 in
theorem ggX6_shortfall_X3_tell_q7 : GoodIn wsX6_shortfall (wsX00) := goodIn_r _ [157, 158, 159, 160, 161, 162, 163, 164, 165, 166] (by decide +kernel) (by decide +kernel)
set_option maxRecDepth 20000 in
theorem ggX6_shortfall_X3_tell_q8 : GoodIn wsX6_shortfall (wsX10) := goodIn_r _ [167, 168, 169, 170, 171, 172, 173, 174] (by decide +kernel) (by decide +kernel)
set_option maxRecDepth 20000 in
theorem ggX6_shortfall_X3_tell_q9 : GoodIn wsX6_shortfall (wsX30) := goodIn_r _ [175, 176, 177, 178, 179] (by decide +kernel) (by decide +kernel)
set_option maxRecDepth 20000 in
theorem ggX6_shortfall_X3_tell_q10 : GoodIn wsX6_shortfall (wsX50) := goodIn_r _ [180, 181, 182, 183, 184, 185, 186, 187, 188, 189, 190, 191] (by decide +kernel) (by decide +kernel)
set_option maxRecDepth 20000 in
theorem ggX6_shortfall_X3_tell_q11 : GoodIn wsX6_shortfall (wsX40) := goodIn_r _ [192, 193, 194, 195] (by decide +kernel) (by decide +kernel)
theorem ggX6_shortfall_X3_tell : GoodIn wsX6_shortfall wsX3_tell := (goodIn_app (a := [Cond.code yX3_tell cX3_tell 3 none]) ggX6_shortfall_X3_tell_q1 (goodIn_app (goodIn_app (goodIn_app (goodIn_app (goodIn_app (goodIn_app ggX6_shortfall_X3_tell_q2 (goodIn_app ggX6_shortfall_X3_tell_q3 (goodIn_app ggX6_shortfall_X3_tell_q4 (goodIn_app ggX6_shortfall_X3_tell_q5 ggX6_shortfall_X3_tell_q6)))) ggX6_shortfall_X3_tell_q7) ggX6_shortfall_X3_tell_q8) ggX6_shortfall_X3_tell_q9) ggX6_shortfall_X3_tell_q10) ggX6_shortfall_X3_tell_q11))
set_option maxRecDepth 20000 in
theorem gX6_shortfall_X3_tell : GoodIn wsX6_shortfall (wsV RX6 229 RX3 yX3_tell wsX3_tell) := goodIn_app (goodIn_of _ (by decide +kernel)) ggX6_shortfall_X3_tell
set_option maxRecDepth 20000 in
theorem ggX6_shortfall_X1_allPlaces : GoodIn wsX6_shortfall wsX1_allPlaces := goodIn_r _ [139, 140, 167, 168, 169, 170, 171, 172, 173, 174] (by decide +kernel) (by decide +kernel)
set_option maxRecDepth 20000 in
theorem gX6_shortfall_X1_allPlaces : GoodIn wsX6_shortfall (wsV RX6 239 RX1 yX1_allPlaces wsX1_allPlaces) := goodIn_app (goodIn_of _ (by decide +kernel)) ggX6_shortfall_X1_allPlaces
set_option maxRecDepth 20000 in
theorem ggX6_shortfall_X3_countAll : GoodIn wsX6_shortfall wsX3_countAll := goodIn_r _ [144, 145, 146, 147, 27, 148, 31, 175, 176, 177, 178, 179] (by decide +kernel) (by decide +kernel)
set_option maxRecDepth 20000 in
theorem gX6_shortfall_X3_countAll : GoodIn wsX6_shortfall (wsV RX6 242 RX3 yX3_countAll wsX3_countAll) := goodIn_app (goodIn_of _ (by decide +kernel)) ggX6_shortfall_X3_countAll
theorem dX6_shortfall_0 : decode cX6_shortfall 0 = .ok (.aload_n 0, 1) := by decide +kernel
theorem dX6_shortfall_1 : decode cX6_shortfall 1 = .ok (.iload_n 1, 1) := by decide +kernel
theorem dX6_shortfall_2 : decode cX6_shortfall 2 = .ok (.invokevirtual 207, 3) := by decide +kernel
theorem dX6_shortfall_5 : decode cX6_shortfall 5 = .ok (.aload_n 0, 1) := by decide +kernel
theorem dX6_shortfall_6 : decode cX6_shortfall 6 = .ok (.getfield 44, 3) := by decide +kernel
theorem dX6_shortfall_9 : decode cX6_shortfall 9 = .ok (.aload_n 0, 1) := by decide +kernel
theorem dX6_shortfall_10 : decode cX6_shortfall 10 = .ok (.getfield 10, 3) := by decide +kernel
theorem dX6_shortfall_13 : decode cX6_shortfall 13 = .ok (.iload_n 1, 1) := by decide +kernel
theorem dX6_shortfall_14 : decode cX6_shortfall 14 = .ok (.invokevirtual 229, 3) := by decide +kernel
theorem dX6_shortfall_17 : decode cX6_shortfall 17 = .ok (.aload_n 0, 1) := by decide +kernel
theorem dX6_shortfall_18 : decode cX6_shortfall 18 = .ok (.getfield 10, 3) := by decide +kernel
theorem dX6_shortfall_21 : decode cX6_shortfall 21 = .ok (.getfield 200, 3) := by decide +kernel
theorem dX6_shortfall_24 : decode cX6_shortfall 24 = .ok (.iload_n 1, 1) := by decide +kernel
theorem dX6_shortfall_25 : decode cX6_shortfall 25 = .ok (.invokevirtual 239, 3) := by decide +kernel
theorem dX6_shortfall_28 : decode cX6_shortfall 28 = .ok (.aload_n 0, 1) := by decide +kernel
theorem dX6_shortfall_29 : decode cX6_shortfall 29 = .ok (.getfield 44, 3) := by decide +kernel
theorem dX6_shortfall_32 : decode cX6_shortfall 32 = .ok (.invokevirtual 242, 3) := by decide +kernel
theorem dX6_shortfall_35 : decode cX6_shortfall 35 = .ok (.isub, 1) := by decide +kernel
theorem dX6_shortfall_36 : decode cX6_shortfall 36 = .ok (.ireturn, 1) := by decide +kernel
set_option maxRecDepth 20000 in
theorem ggX6_shortfallBySets_X6_requireFeast : GoodIn wsX6_shortfallBySets wsX6_requireFeast := goodIn_ca (goodIn_ca (goodIn_ca (goodIn_r _ [7, 1, 8, 9, 10, 11, 12, 13, 14, 15, 16, 6, 17, 18, 19, 20, 21, 22, 23, 97, 98, 99, 100, 101, 102, 103, 104, 105, 106, 107, 108, 109, 110, 111, 112, 113, 114, 115, 116, 117, 118, 119, 120, 121, 122] (by decide +kernel) (by decide +kernel)) (goodIn_sub (fun _ h => List.mem_cons_of_mem _ (List.mem_append_left _ (List.mem_append_left _ (List.mem_append_right _ h)))) (by decide +kernel))) (goodIn_sub (fun _ h => List.mem_cons_of_mem _ (List.mem_append_left _ (List.mem_append_right _ h))) (by decide +kernel))) (goodIn_sub (fun _ h => List.mem_cons_of_mem _ (List.mem_append_right _ h)) (by decide +kernel))
set_option maxRecDepth 20000 in
theorem gX6_shortfallBySets_X6_requireFeast : GoodIn wsX6_shortfallBySets (wsV RX6 207 RX6 yX6_requireFeast wsX6_requireFeast) := goodIn_app (goodIn_of _ (by decide +kernel)) ggX6_shortfallBySets_X6_requireFeast
set_option maxRecDepth 20000 in
theorem ggX6_shortfallBySets_X0_hasHeld : GoodIn wsX6_shortfallBySets wsX0_hasHeld := goodIn_r _ [28, 29, 30, 31, 105, 106, 107, 108, 109, 110, 111, 112, 113, 114, 115, 116, 117, 118, 119, 120, 121, 122] (by decide +kernel) (by decide +kernel)
set_option maxRecDepth 20000 in
theorem gX6_shortfallBySets_X0_hasHeld : GoodIn wsX6_shortfallBySets (wsV RX6 212 RX0 yX0_hasHeld wsX0_hasHeld) := goodIn_app (goodIn_of _ (by decide +kernel)) ggX6_shortfallBySets_X0_hasHeld
set_option maxRecDepth 20000 in
theorem ggX6_shortfallBySets_X6_refuseIf : GoodIn wsX6_shortfallBySets wsX6_refuseIf := goodIn_ca (goodIn_ca (goodIn_ca (goodIn_r _ [17, 18, 19, 20, 21, 22, 23] (by decide +kernel) (by decide +kernel)) (goodIn_sub (fun _ h => List.mem_cons_of_mem _ (List.mem_append_left _ (List.mem_append_left _ (List.mem_append_right _ h)))) (by decide +kernel))) (goodIn_sub (fun _ h => List.mem_cons_of_mem _ (List.mem_append_left _ (List.mem_append_right _ h))) (by decide +kernel))) (goodIn_sub (fun _ h => List.mem_cons_of_mem _ (List.mem_append_right _ h)) (by decide +kernel))
set_option maxRecDepth 20000 in
theorem gX6_shortfallBySets_X6_refuseIf : GoodIn wsX6_shortfallBySets (va_wsS RX6 52 yX6_refuseIf wsX6_refuseIf) := goodIn_app (goodIn_of _ (by decide +kernel)) ggX6_shortfallBySets_X6_refuseIf
set_option maxRecDepth 20000 in
theorem ggX6_shortfallBySets_X3_lackBySets_q1 : GoodIn wsX6_shortfallBySets ([Cond.code yX3_lackBySets cX3_lackBySets 8 (some .int)]) := goodIn_r _ [36] (by decide +kernel) (by decide +kernel)
set_option maxRecDepth 20000 in
theorem ggX6_shortfallBySets_X3_lackBySets_q2 : GoodIn wsX6_shortfallBySets (wsX3_lackBySets_r1) := goodIn_r _ [37, 38, 39, 40, 41, 42, 43, 35, 44, 45, 46, 47, 48, 49, 27, 50, 51, 52, 53, 54, 55, 56, 57, 58] (by decide +kernel) (by decide +kernel)
set_option maxRecDepth 20000 in
theorem ggX6_shortfallBySets_X3_lackBySets_q3 : GoodIn wsX6_shortfallBySets (wsX3_lackBySets_r2) := goodIn_r _ [59, 60, 61, 62, 63, 64, 65, 66, 67, 68, 69, 70, 71, 72, 73, 74, 75, 76, 77, 78, 79, 80, 81, 29] (by decide +kernel) (by decide +kernel)
set_option maxRecDepth 20000 in
theorem ggX6_shortfallBySets_X3_lackBySets_q4 : GoodIn wsX6_shortfallBySets (wsX3_lackBySets_r3) := goodIn_r _ [30, 82, 83, 84, 85, 86, 87, 88, 89, 90, 91, 92, 93, 94, 95, 96] (by decide +kernel) (by decide +kernel)
set_option maxRecDepth 20000 in
theorem ggX6_shortfallBySets_X3_lackBySets_q5 : GoodIn wsX6_shortfallBySets (wsX00) := goodIn_r _ [105, 106, 107, 108, 109, 110, 111, 112, 113, 114] (by decide +kernel) (by decide +kernel)
set_option maxRecDepth 20000 in
theorem ggX6_shortfallBySets_X3_lackBySets_q6 : GoodIn wsX6_shortfallBySets (wsX50) := goodIn_r _ [123, 124, 125, 126, 127, 128, 129, 130, 131, 132, 133, 134] (by decide +kernel) (by decide +kernel)
set_option maxRecDepth 20000 in
theorem ggX6_shortfallBySets_X3_lackBySets_q7 : GoodIn wsX6_shortfallBySets (wsX10) := goodIn_r _ [115, 116, 117, 118, 119, 120, 121, 122] (by decide +kernel) (by decide +kernel)
set_option maxRecDepth 20000 in
theorem ggX6_shortfallBySets_X3_lackBySets_q8 : GoodIn wsX6_shortfallBySets (wsX30) := goodIn_r _ [135, 136, 137, 138, 139] (by decide +kernel) (by decide +kernel)
set_option maxRecDepth 20000 in
theorem ggX6_shortfallBySets_X3_lackBySets_q9 : GoodIn wsX6_shortfallBySets (wsX40) := goodIn_r _ [140, 141, 142, 143] (by decide +kernel) (by decide +kernel)
theorem ggX6_shortfallBySets_X3_lackBySets : GoodIn wsX6_shortfallBySets wsX3_lackBySets := (goodIn_app (a := [Cond.code yX3_lackBySets cX3_lackBySets 8 (some .int)]) ggX6_shortfallBySets_X3_lackBySets_q1 (goodIn_app (goodIn_app (goodIn_app (goodIn_app (goodIn_app (goodIn_app ggX6_shortfallBySets_X3_lackBySets_q2 (goodIn_app ggX6_shortfallBySets_X3_lackBySets_q3 ggX6_shortfallBySets_X3_lackBySets_q4)) ggX6_shortfallBySets_X3_lackBySets_q5) ggX6_shortfallBySets_X3_lackBySets_q6) ggX6_shortfallBySets_X3_lackBySets_q7) ggX6_shortfallBySets_X3_lackBySets_q8) ggX6_shortfallBySets_X3_lackBySets_q9))
set_option maxRecDepth 20000 in
theorem gX6_shortfallBySets_X3_lackBySets : GoodIn wsX6_shortfallBySets (wsV RX6 245 RX3 yX3_lackBySets wsX3_lackBySets) := goodIn_app (goodIn_of _ (by decide +kernel)) ggX6_shortfallBySets_X3_lackBySets
theorem dX6_shortfallBySets_0 : decode cX6_shortfallBySets 0 = .ok (.aload_n 0, 1) := by decide +kernel
theorem dX6_shortfallBySets_1 : decode cX6_shortfallBySets 1 = .ok (.iload_n 1, 1) := by decide +kernel
theorem dX6_shortfallBySets_2 : decode cX6_shortfallBySets 2 = .ok (.invokevirtual 207, 3) := by decide +kernel
theorem dX6_shortfallBySets_5 : decode cX6_shortfallBySets 5 = .ok (.aload_n 0, 1) := by decide +kernel
theorem dX6_shortfallBySets_6 : decode cX6_shortfallBySets 6 = .ok (.getfield 10, 3) := by decide +kernel
theorem dX6_shortfallBySets_9 : decode cX6_shortfallBySets 9 = .ok (.iload_n 1, 1) := by decide +kernel
theorem dX6_shortfallBySets_10 : decode cX6_shortfallBySets 10 = .ok (.invokevirtual 212, 3) := by decide +kernel
theorem dX6_shortfallBySets_13 : decode cX6_shortfallBySets 13 = .ok (.ifCond .eq 7, 3) := by decide +kernel
theorem dX6_shortfallBySets_16 : decode cX6_shortfallBySets 16 = .ok (.iconst 3, 1) := by decide +kernel
theorem dX6_shortfallBySets_17 : decode cX6_shortfallBySets 17 = .ok (.goto 4, 3) := by decide +kernel
theorem dX6_shortfallBySets_20 : decode cX6_shortfallBySets 20 = .ok (.iconst 0, 1) := by decide +kernel
theorem dX6_shortfallBySets_21 : decode cX6_shortfallBySets 21 = .ok (.invokestatic 52, 3) := by decide +kernel
theorem dX6_shortfallBySets_24 : decode cX6_shortfallBySets 24 = .ok (.aload_n 0, 1) := by decide +kernel
theorem dX6_shortfallBySets_25 : decode cX6_shortfallBySets 25 = .ok (.getfield 44, 3) := by decide +kernel
theorem dX6_shortfallBySets_28 : decode cX6_shortfallBySets 28 = .ok (.aload_n 0, 1) := by decide +kernel
theorem dX6_shortfallBySets_29 : decode cX6_shortfallBySets 29 = .ok (.getfield 10, 3) := by decide +kernel
theorem dX6_shortfallBySets_32 : decode cX6_shortfallBySets 32 = .ok (.iload_n 1, 1) := by decide +kernel
theorem dX6_shortfallBySets_33 : decode cX6_shortfallBySets 33 = .ok (.iconst (-1), 1) := by decide +kernel
theorem dX6_shortfallBySets_34 : decode cX6_shortfallBySets 34 = .ok (.invokevirtual 245, 3) := by decide +kernel
theorem dX6_shortfallBySets_37 : decode cX6_shortfallBySets 37 = .ok (.ireturn, 1) := by decide +kernel
set_option maxRecDepth 20000 in
theorem ggX6_neededLine_X6_requireFeast : GoodIn wsX6_neededLine wsX6_requireFeast := goodIn_ca (goodIn_ca (goodIn_ca (goodIn_r _ [9, 1, 3, 10, 11, 12, 13, 14, 15, 16, 17, 8, 18, 19, 20, 21, 22, 23, 24, 98, 99, 100, 101, 102, 103, 104, 105, 106, 107, 108, 109, 110, 111, 112, 113, 114, 115, 116, 117, 118, 119, 120, 121, 122, 123] (by decide +kernel) (by decide +kernel)) (goodIn_sub (fun _ h => List.mem_cons_of_mem _ (List.mem_append_left _ (List.mem_append_left _ (List.mem_append_right _ h)))) (by decide +kernel))) (goodIn_sub (fun _ h => List.mem_cons_of_mem _ (List.mem_append_left _ (List.mem_append_right _ h))) (by decide +kernel))) (goodIn_sub (fun _ h => List.mem_cons_of_mem _ (List.mem_append_right _ h)) (by decide +kernel))
set_option maxRecDepth 20000 in
theorem gX6_neededLine_X6_requireFeast : GoodIn wsX6_neededLine (wsV RX6 207 RX6 yX6_requireFeast wsX6_requireFeast) := goodIn_app (goodIn_of _ (by decide +kernel)) ggX6_neededLine_X6_requireFeast
set_option maxRecDepth 20000 in
theorem ggX6_neededLine_X0_hasHeld : GoodIn wsX6_neededLine wsX0_hasHeld := goodIn_r _ [29, 30, 31, 32, 106, 107, 108, 109, 110, 111, 112, 113, 114, 115, 116, 117, 118, 119, 120, 121, 122, 123] (by decide +kernel) (by decide +kernel)
set_option maxRecDepth 20000 in
theorem gX6_neededLine_X0_hasHeld : GoodIn wsX6_neededLine (wsV RX6 212 RX0 yX0_hasHeld wsX0_hasHeld) := goodIn_app (goodIn_of _ (by decide +kernel)) ggX6_neededLine_X0_hasHeld
set_option maxRecDepth 20000 in
theorem ggX6_neededLine_X6_refuseIf : GoodIn wsX6_neededLine wsX6_refuseIf := goodIn_ca (goodIn_ca (goodIn_ca (goodIn_r _ [18, 19, 20, 21, 22, 23, 24] (by decide +kernel) (by decide +kernel)) (goodIn_sub (fun _ h => List.mem_cons_of_mem _ (List.mem_append_left _ (List.mem_append_left _ (List.mem_append_right _ h)))) (by decide +kernel))) (goodIn_sub (fun _ h => List.mem_cons_of_mem _ (List.mem_append_left _ (List.mem_append_right _ h))) (by decide +kernel))) (goodIn_sub (fun _ h => List.mem_cons_of_mem _ (List.mem_append_right _ h)) (by decide +kernel))
set_option maxRecDepth 20000 in
theorem gX6_neededLine_X6_refuseIf : GoodIn wsX6_neededLine (va_wsS RX6 52 yX6_refuseIf wsX6_refuseIf) := goodIn_app (goodIn_of _ (by decide +kernel)) ggX6_neededLine_X6_refuseIf
set_option maxRecDepth 20000 in
theorem ggX6_neededLine_X3_lackBySets_q1 : GoodIn wsX6_neededLine ([Cond.code yX3_lackBySets cX3_lackBySets 8 (some .int)]) := goodIn_r _ [37] (by decide +kernel) (by decide +kernel)
