/-! the law's names -/
theorem dL_refusesOne_758 : decode cL_refusesOne 758 = .ok (.sipush (-2011), 3) := by decide +kernel
theorem dL_refusesOne_761 : decode cL_refusesOne 761 = .ok (.if_icmp .ne 82, 3) := by decide +kernel
theorem dL_refusesOne_764 : decode cL_refusesOne 764 = .ok (.aload_n 0, 1) := by decide +kernel
theorem dL_refusesOne_765 : decode cL_refusesOne 765 = .ok (.bipush 29, 2) := by decide +kernel
theorem dL_refusesOne_767 : decode cL_refusesOne 767 = .ok (.iconst 0, 1) := by decide +kernel
theorem dL_refusesOne_768 : decode cL_refusesOne 768 = .ok (.iload_n 2, 1) := by decide +kernel
theorem dL_refusesOne_769 : decode cL_refusesOne 769 = .ok (.iconst 0, 1) := by decide +kernel
theorem dL_refusesOne_770 : decode cL_refusesOne 770 = .ok (.invokestatic 187, 3) := by decide +kernel
theorem dL_refusesOne_773 : decode cL_refusesOne 773 = .ok (.sipush (-2011), 3) := by decide +kernel
theorem dL_refusesOne_776 : decode cL_refusesOne 776 = .ok (.if_icmp .ne 67, 3) := by decide +kernel
theorem dL_refusesOne_779 : decode cL_refusesOne 779 = .ok (.aload_n 0, 1) := by decide +kernel
theorem dL_refusesOne_780 : decode cL_refusesOne 780 = .ok (.bipush 29, 2) := by decide +kernel
theorem dL_refusesOne_782 : decode cL_refusesOne 782 = .ok (.iconst 0, 1) := by decide +kernel
theorem dL_refusesOne_783 : decode cL_refusesOne 783 = .ok (.iconst 0, 1) := by decide +kernel
theorem dL_refusesOne_784 : decode cL_refusesOne 784 = .ok (.iload_n 1, 1) := by decide +kernel
theorem dL_refusesOne_785 : decode cL_refusesOne 785 = .ok (.iconst 0, 1) := by decide +kernel
theorem dL_refusesOne_786 : decode cL_refusesOne 786 = .ok (.iconst 3, 1) := by decide +kernel
theorem dL_refusesOne_787 : decode cL_refusesOne 787 = .ok (.invokestatic 177, 3) := by decide +kernel
theorem dL_refusesOne_790 : decode cL_refusesOne 790 = .ok (.invokestatic 187, 3) := by decide +kernel
theorem dL_refusesOne_793 : decode cL_refusesOne 793 = .ok (.sipush (-2011), 3) := by decide +kernel
theorem dL_refusesOne_796 : decode cL_refusesOne 796 = .ok (.if_icmp .ne 47, 3) := by decide +kernel
theorem dL_refusesOne_799 : decode cL_refusesOne 799 = .ok (.aload_n 0, 1) := by decide +kernel
theorem dL_refusesOne_800 : decode cL_refusesOne 800 = .ok (.bipush 26, 2) := by decide +kernel
theorem dL_refusesOne_802 : decode cL_refusesOne 802 = .ok (.iconst 0, 1) := by decide +kernel
theorem dL_refusesOne_803 : decode cL_refusesOne 803 = .ok (.iload_n 1, 1) := by decide +kernel
theorem dL_refusesOne_804 : decode cL_refusesOne 804 = .ok (.iconst 0, 1) := by decide +kernel
theorem dL_refusesOne_805 : decode cL_refusesOne 805 = .ok (.iconst 3, 1) := by decide +kernel
theorem dL_refusesOne_806 : decode cL_refusesOne 806 = .ok (.invokestatic 177, 3) := by decide +kernel
theorem dL_refusesOne_809 : decode cL_refusesOne 809 = .ok (.iconst 0, 1) := by decide +kernel
theorem dL_refusesOne_810 : decode cL_refusesOne 810 = .ok (.invokestatic 187, 3) := by decide +kernel
theorem dL_refusesOne_813 : decode cL_refusesOne 813 = .ok (.sipush (-2011), 3) := by decide +kernel
theorem dL_refusesOne_816 : decode cL_refusesOne 816 = .ok (.if_icmp .ne 27, 3) := by decide +kernel
theorem dL_refusesOne_819 : decode cL_refusesOne 819 = .ok (.aload_n 0, 1) := by decide +kernel
theorem dL_refusesOne_820 : decode cL_refusesOne 820 = .ok (.bipush 27, 2) := by decide +kernel
theorem dL_refusesOne_822 : decode cL_refusesOne 822 = .ok (.iconst 0, 1) := by decide +kernel
theorem dL_refusesOne_823 : decode cL_refusesOne 823 = .ok (.iload_n 1, 1) := by decide +kernel
theorem dL_refusesOne_824 : decode cL_refusesOne 824 = .ok (.iconst 0, 1) := by decide +kernel
theorem dL_refusesOne_825 : decode cL_refusesOne 825 = .ok (.iconst 3, 1) := by decide +kernel
theorem dL_refusesOne_826 : decode cL_refusesOne 826 = .ok (.invokestatic 177, 3) := by decide +kernel
theorem dL_refusesOne_829 : decode cL_refusesOne 829 = .ok (.iconst 0, 1) := by decide +kernel
theorem dL_refusesOne_830 : decode cL_refusesOne 830 = .ok (.invokestatic 187, 3) := by decide +kernel
theorem dL_refusesOne_833 : decode cL_refusesOne 833 = .ok (.sipush (-2011), 3) := by decide +kernel
theorem dL_refusesOne_836 : decode cL_refusesOne 836 = .ok (.if_icmp .ne 7, 3) := by decide +kernel
theorem dL_refusesOne_839 : decode cL_refusesOne 839 = .ok (.iconst 1, 1) := by decide +kernel
theorem dL_refusesOne_840 : decode cL_refusesOne 840 = .ok (.goto 4, 3) := by decide +kernel
theorem dL_refusesOne_843 : decode cL_refusesOne 843 = .ok (.iconst 0, 1) := by decide +kernel
theorem dL_refusesOne_844 : decode cL_refusesOne 844 = .ok (.ireturn, 1) := by decide +kernel
set_option maxRecDepth 20000 in
theorem ggL_refused_L_seen : GoodIn wsL_refused wsL_seen := goodIn_ca (goodIn_ca (goodIn_ca (goodIn_r _ [4, 5, 6, 7, 8, 9, 10, 11, 12, 13, 14, 15, 16, 17, 18, 19, 20, 21, 22, 23, 24, 25, 26, 27, 28, 29, 30, 31, 32, 33, 34, 35, 36, 37, 38, 39, 40, 41, 42, 43, 44, 45, 46, 47, 48, 49, 50, 51, 52, 53, 54, 55, 56, 57, 58, 59, 60, 61, 62, 63, 64, 65, 66, 67, 68, 69, 70, 71, 72, 73, 74, 75, 76, 77, 78, 79, 80, 81, 82, 83, 84, 85, 86, 87, 88, 89, 90, 91, 92, 93, 94, 95, 96, 97, 98, 99, 100, 101, 102, 103, 104, 105, 106, 107, 108, 109, 110, 111, 112, 113, 114, 115, 116, 117, 118, 119, 120, 121, 122, 123, 124, 125, 126, 127, 128, 129, 130, 131, 132, 133, 134, 135, 136, 137, 138, 139, 140, 141, 142, 143, 144, 145, 146, 147, 148, 149, 150, 151, 152, 153, 154, 155, 156, 157, 158, 159, 160, 161, 162, 163, 164, 165, 166, 167, 168, 169, 170, 171, 172, 173, 174, 175, 176, 177, 178, 179, 180, 181, 182, 183, 184, 185, 186, 187, 188, 189, 190, 191, 192, 193, 194, 195, 196, 197, 198, 199, 200, 201, 202, 203, 204, 205, 206, 207, 208, 209, 210, 211, 212, 213, 214, 215, 216, 217, 218, 219, 220, 221, 222, 223, 224, 225, 226, 227, 228, 229, 230, 231, 232, 233, 234, 235, 236, 237, 238, 239, 240, 241, 242, 243, 244, 245, 246, 247, 248, 249, 250, 251, 252, 253, 254, 255, 256, 257, 258, 259, 260, 261, 262, 263, 264, 265, 266, 267, 268, 269, 270, 271, 272, 273, 274, 275, 276, 277, 278, 279, 280, 281, 282, 283, 284, 285, 286, 287, 288, 289, 290, 291, 292, 293, 294, 295, 296, 809, 810, 811, 812, 813, 814, 815, 816, 817, 818, 819, 820, 821, 822, 823, 824, 825, 826, 827, 828, 829, 830, 831, 832, 833, 834, 835, 836, 837, 838, 839, 840, 841, 842, 843, 844, 845, 846, 847, 848, 849, 850, 851, 852, 853, 854, 855] rfl (by decide +kernel)) (goodIn_sub (fun _ h => List.mem_cons_of_mem _ (List.mem_append_left _ (List.mem_append_left _ (List.mem_append_right _ h)))) (by decide +kernel))) (goodIn_sub (fun _ h => List.mem_cons_of_mem _ (List.mem_append_left _ (List.mem_append_right _ h))) (by decide +kernel))) (goodIn_sub (fun _ h => List.mem_cons_of_mem _ (List.mem_append_right _ h)) (by decide +kernel))
set_option maxRecDepth 20000 in
theorem gL_refused_L_seen : GoodIn wsL_refused (va_wsS RL 193 yL_seen wsL_seen) := goodIn_app (goodIn_of _ (by decide +kernel)) ggL_refused_L_seen
set_option maxRecDepth 20000 in
theorem ggL_refused_X6_recordedStates : GoodIn wsL_refused wsX6_recordedStates := goodIn_r _ [300, 301, 809, 810, 811, 812, 813, 814, 815, 816] rfl (by decide +kernel)
set_option maxRecDepth 20000 in
theorem gL_refused_X6_recordedStates : GoodIn wsL_refused (wsV RL 197 RX6 yX6_recordedStates wsX6_recordedStates) := goodIn_app (goodIn_of _ (by decide +kernel)) ggL_refused_X6_recordedStates
set_option maxRecDepth 20000 in
theorem ggL_refused_L_refusesOne : GoodIn wsL_refused wsL_refusesOne := goodIn_ca (goodIn_ca (goodIn_ca (goodIn_r _ [304, 14, 15, 16, 10, 17, 12, 18, 19, 305, 306, 3, 307, 308, 309, 20, 21, 22, 23, 24, 25, 310, 311, 312, 313, 314, 315, 316, 317, 318, 319, 320, 321, 149, 322, 172, 285, 286, 323, 324, 284, 325, 326, 327, 328, 329, 330, 58, 331, 60, 61, 62, 63, 64, 65, 66, 67, 68, 69, 332, 333, 334, 335, 301, 336, 337, 338, 339, 340, 341, 342, 343, 344, 153, 173, 151, 345, 346, 143, 144, 145, 347, 348, 349, 350, 351, 352, 353, 354, 355, 356, 357, 358, 359, 272, 74, 360, 361, 88, 103, 362, 363, 364, 365, 366, 179, 367, 181, 182, 368, 183, 184, 369, 370, 371, 126, 372, 128, 263, 373, 374, 375, 237, 376, 377, 378, 379, 380, 381, 382, 383, 384, 385, 386, 387, 388, 389, 390, 391, 392, 393, 394, 395, 396, 397, 398, 399, 400, 401, 402, 403, 404, 405, 406, 407, 408, 409, 410, 411, 412, 413, 414, 415, 416, 417, 418, 419, 420, 421, 422, 56, 57, 59, 174, 85, 86, 87, 423, 424, 425, 426, 427, 428, 429, 430, 431, 432, 433, 434, 435, 436, 437, 438, 439, 175, 100, 101, 102, 440, 441, 442, 443, 444, 445, 446, 447, 448, 449, 450, 451, 452, 453, 454, 455, 456, 176, 177, 178, 180, 457, 458, 459, 460, 461, 462, 463, 464, 465, 466, 467, 468, 469, 470, 471, 472, 473, 474, 475, 476, 477, 478, 479, 480, 481, 482, 483, 484, 485, 486, 487, 488, 489, 199, 200, 201, 490, 491, 492, 493, 494, 495, 496, 497, 498, 124, 125, 127, 282, 283, 499, 147, 148, 150, 152, 500, 501, 502, 503, 504, 193, 195, 505, 234, 235, 236, 506, 507, 508, 509, 133, 510, 511, 512, 513, 514, 515, 516, 517, 518, 260, 261, 262, 519, 155, 156, 137, 157, 141, 139, 158, 159, 142, 160, 161, 162, 163, 164, 165, 166, 167, 168, 169, 170, 171, 185, 186, 187, 188, 189, 190, 191, 192, 194, 196, 197, 71, 72, 73, 198, 202, 203, 204, 205, 206, 207, 208, 209, 210, 211, 212, 213, 214, 215, 216, 217, 218, 219, 220, 221, 222, 223, 224, 225, 226, 227, 228, 229, 230, 231, 232, 520, 521, 522, 523, 524, 525, 526, 527, 528, 529, 530, 265, 266, 267, 268, 269, 270, 271, 531, 532, 533, 534, 535, 536, 239, 240, 241, 242, 243, 244, 245, 537, 538, 539, 80, 81, 82, 83, 13, 51, 52, 53, 54, 55, 84, 540, 541, 542, 543, 544, 46, 47, 48, 49, 50, 70, 545, 546, 547, 548, 549, 75, 76, 77, 78, 79, 89, 90, 91, 92, 93, 94, 95, 96, 97, 98, 99, 550, 551, 552, 553, 554, 555, 104, 105, 106, 107, 108, 109, 110, 111, 112, 113, 292, 293, 294, 295, 296, 556, 557, 558, 114, 115, 116, 117, 118, 119, 120, 121, 122, 123, 559, 560, 561, 562, 251, 129, 130, 131, 132, 134, 135, 136, 138, 140, 146, 154, 233, 238, 563, 564, 565, 566, 567, 568, 569, 570, 571, 572, 573, 574, 277, 246, 247, 248, 249, 250, 252, 253, 254, 255, 256, 257, 258, 259, 264, 575, 576, 577, 578, 579, 273, 274, 275, 276, 278, 279, 280, 281, 287, 288, 289, 290, 291, 580, 581, 582, 583, 584, 585, 586, 587, 588, 589, 590, 591, 592, 593, 594, 595, 596, 597, 598, 599, 600, 601, 602, 603, 604, 605, 606, 607, 608, 609, 610, 611, 612, 613, 614, 615, 616, 617, 618, 619, 620, 621, 622, 623, 624, 625, 626, 627, 628, 629, 630, 631, 632, 633, 634, 635, 636, 637, 638, 639, 640, 641, 642, 643, 644, 645, 646, 647, 648, 649, 650, 651, 652, 653, 654, 655, 656, 657, 658, 659, 660, 661, 662, 663, 664, 665, 666, 667, 668, 669, 670, 671, 672, 673, 674, 675, 676, 677, 678, 679, 680, 681, 682, 683, 684, 685, 686, 687, 688, 689, 690, 691, 692, 693, 694, 695, 696, 697, 698, 699, 700, 701, 702, 703, 704, 705, 706, 707, 708, 709, 710, 711, 712, 713, 714, 715, 716, 717, 718, 719, 720, 721, 722, 723, 724, 725, 726, 727, 728, 729, 730, 731, 732, 733, 734, 735, 736, 737, 738, 739, 740, 741, 742, 743, 744, 745, 746, 747, 748, 749, 750, 751, 752, 753, 754, 755, 756, 757, 758, 759, 760, 761, 762, 763, 764, 765, 766, 767, 768, 769, 770, 771, 772, 773, 774, 775, 776, 777, 778, 779, 780, 781, 782, 783, 784, 785, 786, 787, 788, 789, 790, 791, 792, 793, 794, 795, 796, 797, 798, 799, 800, 801, 802, 803, 804, 805, 7, 8, 9, 11, 806, 807, 808, 809, 810, 811, 812, 813, 814, 815, 816, 817, 818, 819, 820, 821, 822, 823, 824, 825, 826, 827, 828, 829, 830, 831, 832, 833, 834, 835, 836, 837, 838, 839, 840, 841, 842, 843, 844, 845, 846, 852, 853, 854, 855, 847, 848, 849, 850, 851, 856, 857, 858, 859, 860, 861] rfl (by decide +kernel)) (goodIn_sub (fun _ h => List.mem_cons_of_mem _ (List.mem_append_left _ (List.mem_append_left _ (List.mem_append_right _ h)))) (by decide +kernel))) (goodIn_sub (fun _ h => List.mem_cons_of_mem _ (List.mem_append_left _ (List.mem_append_right _ h))) (by decide +kernel))) (goodIn_sub (fun _ h => List.mem_cons_of_mem _ (List.mem_append_right _ h)) (by decide +kernel))
set_option maxRecDepth 20000 in
theorem gL_refused_L_refusesOne : GoodIn wsL_refused (va_wsS RL 200 yL_refusesOne wsL_refusesOne) := goodIn_app (goodIn_of _ (by decide +kernel)) ggL_refused_L_refusesOne
theorem dL_refused_0 : decode cL_refused 0 = .ok (.aload_n 0, 1) := by decide +kernel
theorem dL_refused_1 : decode cL_refused 1 = .ok (.invokestatic 193, 3) := by decide +kernel
theorem dL_refused_4 : decode cL_refused 4 = .ok (.lstore_n 1, 1) := by decide +kernel
theorem dL_refused_5 : decode cL_refused 5 = .ok (.aload_n 0, 1) := by decide +kernel
theorem dL_refused_6 : decode cL_refused 6 = .ok (.invokevirtual 197, 3) := by decide +kernel
theorem dL_refused_9 : decode cL_refused 9 = .ok (.istore_n 3, 1) := by decide +kernel
theorem dL_refused_10 : decode cL_refused 10 = .ok (.iconst 0, 1) := by decide +kernel
theorem dL_refused_11 : decode cL_refused 11 = .ok (.istore 4, 2) := by decide +kernel
theorem dL_refused_13 : decode cL_refused 13 = .ok (.iload 4, 2) := by decide +kernel
theorem dL_refused_15 : decode cL_refused 15 = .ok (.iconst 4, 1) := by decide +kernel
theorem dL_refused_16 : decode cL_refused 16 = .ok (.if_icmp .ge 20, 3) := by decide +kernel
theorem dL_refused_19 : decode cL_refused 19 = .ok (.aload_n 0, 1) := by decide +kernel
theorem dL_refused_20 : decode cL_refused 20 = .ok (.iload 4, 2) := by decide +kernel
theorem dL_refused_22 : decode cL_refused 22 = .ok (.invokestatic 200, 3) := by decide +kernel
theorem dL_refused_25 : decode cL_refused 25 = .ok (.ifCond .ne 5, 3) := by decide +kernel
theorem dL_refused_28 : decode cL_refused 28 = .ok (.iconst 0, 1) := by decide +kernel
theorem dL_refused_29 : decode cL_refused 29 = .ok (.ireturn, 1) := by decide +kernel
theorem dL_refused_30 : decode cL_refused 30 = .ok (.iinc 4 1, 3) := by decide +kernel
theorem dL_refused_33 : decode cL_refused 33 = .ok (.goto (-20), 3) := by decide +kernel
theorem dL_refused_36 : decode cL_refused 36 = .ok (.aload_n 0, 1) := by decide +kernel
theorem dL_refused_37 : decode cL_refused 37 = .ok (.invokestatic 193, 3) := by decide +kernel
theorem dL_refused_40 : decode cL_refused 40 = .ok (.lload_n 1, 1) := by decide +kernel
theorem dL_refused_41 : decode cL_refused 41 = .ok (.lcmp, 1) := by decide +kernel
theorem dL_refused_42 : decode cL_refused 42 = .ok (.ifCond .ne 15, 3) := by decide +kernel
theorem dL_refused_45 : decode cL_refused 45 = .ok (.aload_n 0, 1) := by decide +kernel
theorem dL_refused_46 : decode cL_refused 46 = .ok (.invokevirtual 197, 3) := by decide +kernel
theorem dL_refused_49 : decode cL_refused 49 = .ok (.iload_n 3, 1) := by decide +kernel
theorem dL_refused_50 : decode cL_refused 50 = .ok (.if_icmp .ne 7, 3) := by decide +kernel
theorem dL_refused_53 : decode cL_refused 53 = .ok (.iconst 1, 1) := by decide +kernel
theorem dL_refused_54 : decode cL_refused 54 = .ok (.goto 4, 3) := by decide +kernel
theorem dL_refused_57 : decode cL_refused 57 = .ok (.iconst 0, 1) := by decide +kernel
theorem dL_refused_58 : decode cL_refused 58 = .ok (.ireturn, 1) := by decide +kernel
set_option maxRecDepth 20000 in
theorem ggL_told_X6_shortfall : GoodIn wsL_told wsX6_shortfall := goodIn_ca (goodIn_ca (goodIn_ca (goodIn_r _ [5, 6, 7, 8, 9, 10, 11, 4, 12, 13, 14, 15, 16, 17, 18, 19, 20, 21, 22, 23, 24, 25, 26, 27, 28, 29, 30, 31, 32, 33, 34, 35, 36, 37, 38, 39, 40, 41, 42, 43, 44, 45, 46, 47, 48, 49, 50, 51, 52, 53, 54, 55, 56, 57, 58, 59, 60, 61, 62, 63, 64, 65, 66, 67, 68, 69, 70, 71, 72, 73, 74, 75, 76, 77, 78, 79, 80, 81, 82, 83, 84, 85, 86, 87, 88, 89, 90, 91, 92, 93, 94, 95, 96, 97, 98, 99, 100, 101, 102, 103, 104, 105, 106, 107, 108, 109, 110, 111, 112, 113, 114, 115, 116, 117, 118, 119, 120, 121, 122, 123, 124, 125, 126, 127, 128, 129, 130, 131, 132, 133, 134, 135, 136, 137, 138, 139, 140, 141, 142, 143, 144, 145, 146, 147, 148, 149, 150, 151, 152, 193, 194, 195, 196, 197, 198, 199, 200, 201, 202, 203, 204, 205, 206, 207, 208, 209, 210, 211, 212, 213, 214, 215, 216, 217, 218, 219, 220, 221, 222, 223, 224, 225, 226, 227, 228, 229, 230, 231, 232, 233, 234, 235, 236, 237, 238, 239] rfl (by decide +kernel)) (goodIn_sub (fun _ h => List.mem_cons_of_mem _ (List.mem_append_left _ (List.mem_append_left _ (List.mem_append_right _ h)))) (by decide +kernel))) (goodIn_sub (fun _ h => List.mem_cons_of_mem _ (List.mem_append_left _ (List.mem_append_right _ h))) (by decide +kernel))) (goodIn_sub (fun _ h => List.mem_cons_of_mem _ (List.mem_append_right _ h)) (by decide +kernel))
set_option maxRecDepth 20000 in
theorem gL_told_X6_shortfall : GoodIn wsL_told (wsV RL 104 RX6 yX6_shortfall wsX6_shortfall) := goodIn_app (goodIn_of _ (by decide +kernel)) ggL_told_X6_shortfall
set_option maxRecDepth 20000 in
theorem ggL_told_X6_shortfallBySets : GoodIn wsL_told wsX6_shortfallBySets := goodIn_ca (goodIn_ca (goodIn_ca (goodIn_r _ [156, 7, 6, 9, 10, 11, 4, 12, 8, 13, 14, 15, 16, 17, 18, 19, 20, 21, 22, 23, 24, 25, 26, 27, 157, 41, 42, 43, 44, 45, 46, 47, 158, 159, 160, 31, 161, 54, 55, 33, 52, 57, 58, 59, 60, 56, 61, 62, 63, 64, 65, 66, 67, 68, 69, 70, 71, 72, 73, 74, 75, 76, 77, 78, 79, 80, 81, 82, 83, 84, 85, 86, 87, 88, 89, 90, 91, 92, 93, 94, 95, 96, 97, 98, 99, 100, 101, 102, 103, 104, 114, 115, 116, 117, 118, 119, 120, 193, 194, 195, 196, 197, 198, 199, 200, 201, 202, 203, 204, 205, 206, 207, 208, 209, 210, 211, 212, 213, 214, 215, 216, 217, 218, 224, 225, 226, 227, 228, 229, 230, 231, 232, 233, 234, 235, 219, 220, 221, 222, 223, 236, 237, 238, 239] rfl (by decide +kernel)) (goodIn_sub (fun _ h => List.mem_cons_of_mem _ (List.mem_append_left _ (List.mem_append_left _ (List.mem_append_right _ h)))) (by decide +kernel))) (goodIn_sub (fun _ h => List.mem_cons_of_mem _ (List.mem_append_left _ (List.mem_append_right _ h))) (by decide +kernel))) (goodIn_sub (fun _ h => List.mem_cons_of_mem _ (List.mem_append_right _ h)) (by decide +kernel))
set_option maxRecDepth 20000 in
theorem gL_told_X6_shortfallBySets : GoodIn wsL_told (wsV RL 107 RX6 yX6_shortfallBySets wsX6_shortfallBySets) := goodIn_app (goodIn_of _ (by decide +kernel)) ggL_told_X6_shortfallBySets
set_option maxRecDepth 20000 in
theorem ggL_told_X6_neededLine : GoodIn wsL_told wsX6_neededLine := goodIn_ca (goodIn_ca (goodIn_ca (goodIn_r _ [165, 7, 6, 8, 166, 9, 10, 11, 4, 12, 13, 14, 15, 16, 17, 18, 19, 20, 21, 22, 23, 24, 25, 26, 27, 157, 41, 42, 43, 44, 45, 46, 47, 158, 159, 160, 31, 161, 54, 55, 33, 52, 57, 58, 59, 60, 56, 61, 62, 63, 64, 65, 66, 67, 68, 69, 70, 71, 72, 73, 74, 75, 76, 77, 78, 79, 80, 81, 82, 83, 84, 85, 86, 87, 88, 89, 90, 91, 92, 93, 94, 95, 96, 97, 98, 99, 100, 101, 102, 103, 104, 114, 115, 116, 117, 118, 119, 120, 193, 194, 195, 196, 197, 198, 199, 200, 201, 202, 203, 204, 205, 206, 207, 208, 209, 210, 211, 212, 213, 214, 215, 216, 217, 218, 224, 225, 226, 227, 228, 229, 230, 231, 232, 233, 234, 235, 219, 220, 221, 222, 223, 236, 237, 238, 239] rfl (by decide +kernel)) (goodIn_sub (fun _ h => List.mem_cons_of_mem _ (List.mem_append_left _ (List.mem_append_left _ (List.mem_append_right _ h)))) (by decide +kernel))) (goodIn_sub (fun _ h => List.mem_cons_of_mem _ (List.mem_append_left _ (List.mem_append_right _ h))) (by decide +kernel))) (goodIn_sub (fun _ h => List.mem_cons_of_mem _ (List.mem_append_right _ h)) (by decide +kernel))
set_option maxRecDepth 20000 in
theorem gL_told_X6_neededLine : GoodIn wsL_told (wsV RL 110 RX6 yX6_neededLine wsX6_neededLine) := goodIn_app (goodIn_of _ (by decide +kernel)) ggL_told_X6_neededLine
set_option maxRecDepth 20000 in
theorem ggL_told_X6_descantIn : GoodIn wsL_told wsX6_descantIn := goodIn_ca (goodIn_ca (goodIn_ca (goodIn_r _ [170, 7, 8, 171, 6, 9, 10, 11, 4, 12, 13, 14, 15, 16, 17, 18, 19, 20, 21, 22, 23, 24, 25, 26, 27, 157, 41, 42, 43, 44, 45, 46, 47, 172, 173, 174, 31, 175, 54, 176, 177, 36, 37, 38, 39, 33, 178, 61, 179, 180, 181, 182, 183, 48, 49, 50, 51, 35, 52, 53, 55, 56, 57, 58, 59, 60, 62, 63, 64, 65, 66, 67, 68, 69, 70, 71, 72, 73, 74, 75, 76, 77, 78, 79, 80, 81, 82, 83, 84, 85, 86, 87, 88, 89, 90, 91, 92, 93, 94, 95, 96, 97, 98, 99, 100, 101, 102, 103, 104, 105, 106, 107, 108, 109, 110, 111, 112, 113, 114, 115, 116, 117, 118, 119, 120, 121, 122, 123, 124, 125, 126, 127, 128, 129, 130, 131, 132, 133, 134, 135, 136, 137, 138, 139, 184, 185, 186, 187, 188, 189, 190, 191, 192, 193, 194, 195, 196, 197, 198, 199, 200, 201, 202, 203, 204, 205, 206, 207, 208, 209, 210, 211, 212, 213, 214, 215, 216, 217, 218, 224, 225, 226, 227, 228, 229, 230, 231, 232, 233, 234, 235, 219, 220, 221, 222, 223, 236, 237, 238, 239] rfl (by decide +kernel)) (goodIn_sub (fun _ h => List.mem_cons_of_mem _ (List.mem_append_left _ (List.mem_append_left _ (List.mem_append_right _ h)))) (by decide +kernel))) (goodIn_sub (fun _ h => List.mem_cons_of_mem _ (List.mem_append_left _ (List.mem_append_right _ h))) (by decide +kernel))) (goodIn_sub (fun _ h => List.mem_cons_of_mem _ (List.mem_append_right _ h)) (by decide +kernel))
set_option maxRecDepth 20000 in
theorem gL_told_X6_descantIn : GoodIn wsL_told (wsV RL 113 RX6 yX6_descantIn wsX6_descantIn) := goodIn_app (goodIn_of _ (by decide +kernel)) ggL_told_X6_descantIn
theorem dL_told_0 : decode cL_told 0 = .ok (.aload_n 0, 1) := by decide +kernel
theorem dL_told_1 : decode cL_told 1 = .ok (.iload_n 1, 1) := by decide +kernel
theorem dL_told_2 : decode cL_told 2 = .ok (.invokevirtual 104, 3) := by decide +kernel
theorem dL_told_5 : decode cL_told 5 = .ok (.iload_n 2, 1) := by decide +kernel
theorem dL_told_6 : decode cL_told 6 = .ok (.if_icmp .ne 35, 3) := by decide +kernel
theorem dL_told_9 : decode cL_told 9 = .ok (.aload_n 0, 1) := by decide +kernel
theorem dL_told_10 : decode cL_told 10 = .ok (.iload_n 1, 1) := by decide +kernel
theorem dL_told_11 : decode cL_told 11 = .ok (.invokevirtual 107, 3) := by decide +kernel
theorem dL_told_14 : decode cL_told 14 = .ok (.iload_n 2, 1) := by decide +kernel
theorem dL_told_15 : decode cL_told 15 = .ok (.if_icmp .ne 26, 3) := by decide +kernel
theorem dL_told_18 : decode cL_told 18 = .ok (.aload_n 0, 1) := by decide +kernel
theorem dL_told_19 : decode cL_told 19 = .ok (.iload_n 1, 1) := by decide +kernel
theorem dL_told_20 : decode cL_told 20 = .ok (.invokevirtual 110, 3) := by decide +kernel
theorem dL_told_23 : decode cL_told 23 = .ok (.iload_n 3, 1) := by decide +kernel
theorem dL_told_24 : decode cL_told 24 = .ok (.if_icmp .ne 17, 3) := by decide +kernel
theorem dL_told_27 : decode cL_told 27 = .ok (.aload_n 0, 1) := by decide +kernel
theorem dL_told_28 : decode cL_told 28 = .ok (.iload_n 1, 1) := by decide +kernel
theorem dL_told_29 : decode cL_told 29 = .ok (.invokevirtual 113, 3) := by decide +kernel
theorem dL_told_32 : decode cL_told 32 = .ok (.iload 4, 2) := by decide +kernel
theorem dL_told_34 : decode cL_told 34 = .ok (.if_icmp .ne 7, 3) := by decide +kernel
theorem dL_told_37 : decode cL_told 37 = .ok (.iconst 1, 1) := by decide +kernel
theorem dL_told_38 : decode cL_told 38 = .ok (.goto 4, 3) := by decide +kernel
theorem dL_told_41 : decode cL_told 41 = .ok (.iconst 0, 1) := by decide +kernel
theorem dL_told_42 : decode cL_told 42 = .ok (.ireturn, 1) := by decide +kernel
set_option maxRecDepth 20000 in
theorem ggL_lines_X6_lineOf : GoodIn wsL_lines wsX6_lineOf := goodIn_ca (goodIn_ca (goodIn_ca (goodIn_r _ [5, 6, 7, 8, 9, 10, 11, 4, 12, 13, 14, 15, 16, 17, 18, 19, 20, 21, 22, 23, 24, 25, 26, 27, 28, 29, 30, 31, 32, 33, 34, 35, 36, 37, 38, 39, 40, 41, 42, 43, 44, 45, 46, 47, 48, 49, 50, 51, 52, 53, 54, 55, 56, 57, 58, 59, 60, 61, 62, 63, 64, 65, 66, 67, 68, 69, 70, 71, 72, 73, 74, 75, 76, 77, 78, 79, 80, 81, 82, 83, 84, 85, 86, 87, 88, 89, 90, 91, 92, 93, 94, 95, 96, 97, 98, 99, 100, 101, 102, 103, 104, 105, 106, 107, 108, 109, 110, 111, 112, 113, 114, 115, 116, 117, 118, 119, 120, 121, 122, 123, 124, 125, 126, 127, 128, 129, 130, 131, 132, 133, 134, 135, 136, 137, 138, 139, 140, 141, 142, 143, 144, 145, 146, 147, 148, 149, 150, 151, 152, 153, 154, 155, 156, 157, 158, 159, 160, 161, 162, 163, 164, 165, 166, 167, 168, 169, 170, 171, 172, 173, 174, 175, 176, 177, 178, 179, 180, 181, 182, 183, 184, 185, 186, 187, 188, 189, 190, 191, 192, 193, 194, 195, 196, 197] rfl (by decide +kernel)) (goodIn_sub (fun _ h => List.mem_cons_of_mem _ (List.mem_append_left _ (List.mem_append_left _ (List.mem_append_right _ h)))) (by decide +kernel))) (goodIn_sub (fun _ h => List.mem_cons_of_mem _ (List.mem_append_left _ (List.mem_append_right _ h))) (by decide +kernel))) (goodIn_sub (fun _ h => List.mem_cons_of_mem _ (List.mem_append_right _ h)) (by decide +kernel))
set_option maxRecDepth 20000 in
theorem gL_lines_X6_lineOf : GoodIn wsL_lines (wsV RL 116 RX6 yX6_lineOf wsX6_lineOf) := goodIn_app (goodIn_of _ (by decide +kernel)) ggL_lines_X6_lineOf
theorem dL_lines_0 : decode cL_lines 0 = .ok (.aload_n 0, 1) := by decide +kernel
theorem dL_lines_1 : decode cL_lines 1 = .ok (.iload_n 1, 1) := by decide +kernel
theorem dL_lines_2 : decode cL_lines 2 = .ok (.iconst 0, 1) := by decide +kernel
theorem dL_lines_3 : decode cL_lines 3 = .ok (.invokevirtual 116, 3) := by decide +kernel
theorem dL_lines_6 : decode cL_lines 6 = .ok (.iload_n 2, 1) := by decide +kernel
theorem dL_lines_7 : decode cL_lines 7 = .ok (.if_icmp .ne 28, 3) := by decide +kernel
theorem dL_lines_10 : decode cL_lines 10 = .ok (.aload_n 0, 1) := by decide +kernel
theorem dL_lines_11 : decode cL_lines 11 = .ok (.iload_n 1, 1) := by decide +kernel
theorem dL_lines_12 : decode cL_lines 12 = .ok (.iconst 1, 1) := by decide +kernel
theorem dL_lines_13 : decode cL_lines 13 = .ok (.invokevirtual 116, 3) := by decide +kernel
theorem dL_lines_16 : decode cL_lines 16 = .ok (.iload_n 3, 1) := by decide +kernel
theorem dL_lines_17 : decode cL_lines 17 = .ok (.if_icmp .ne 18, 3) := by decide +kernel
theorem dL_lines_20 : decode cL_lines 20 = .ok (.aload_n 0, 1) := by decide +kernel
theorem dL_lines_21 : decode cL_lines 21 = .ok (.iload_n 1, 1) := by decide +kernel
theorem dL_lines_22 : decode cL_lines 22 = .ok (.iconst 2, 1) := by decide +kernel
theorem dL_lines_23 : decode cL_lines 23 = .ok (.invokevirtual 116, 3) := by decide +kernel
theorem dL_lines_26 : decode cL_lines 26 = .ok (.iload 4, 2) := by decide +kernel
theorem dL_lines_28 : decode cL_lines 28 = .ok (.if_icmp .ne 7, 3) := by decide +kernel
theorem dL_lines_31 : decode cL_lines 31 = .ok (.iconst 1, 1) := by decide +kernel
theorem dL_lines_32 : decode cL_lines 32 = .ok (.goto 4, 3) := by decide +kernel
theorem dL_lines_35 : decode cL_lines 35 = .ok (.iconst 0, 1) := by decide +kernel
theorem dL_lines_36 : decode cL_lines 36 = .ok (.ireturn, 1) := by decide +kernel
set_option maxRecDepth 20000 in
theorem ggL_sits_X6_pewOf : GoodIn wsL_sits wsX6_pewOf := goodIn_ca (goodIn_ca (goodIn_ca (goodIn_r _ [5, 6, 7, 8, 9, 10, 11, 4, 12, 13, 14, 15, 16, 17, 18, 19, 20, 21, 22, 23, 24, 25, 26, 27, 28, 29, 30, 31, 32, 33, 34, 35, 36, 37, 38, 39, 40, 41, 42, 43, 44, 45, 46, 47, 48, 49, 50, 51, 52, 53, 54, 55, 56, 57, 58, 59, 60, 61, 62, 63, 64, 65, 66, 67, 68, 69, 70, 71, 72, 73, 74, 75, 76, 77, 78, 79, 80, 81, 82, 83, 84, 85, 86, 87, 88, 89, 90, 91, 92, 93, 94, 95, 96, 97, 98, 99, 100, 101, 102, 103, 104, 105, 106, 107, 108, 109, 110, 111, 112, 113, 114, 115, 116, 117, 118, 119, 120, 121, 122, 123, 124, 125, 126, 127, 128, 129, 130, 131, 132, 133, 134, 135, 136, 137, 138, 139, 140, 141, 142, 143, 144, 145, 146, 147, 148, 149, 150, 151, 152, 153, 154, 155, 156, 157, 158, 163, 164, 165, 166, 167, 168, 169, 170, 171, 172, 173, 174, 175, 176, 177, 178, 179, 180, 181, 182, 183, 184, 185, 186, 187, 188, 189, 190, 191, 192, 193, 194, 195, 196, 197, 198, 199, 200, 201, 202, 203, 204, 205, 206, 207, 208, 209] rfl (by decide +kernel)) (goodIn_sub (fun _ h => List.mem_cons_of_mem _ (List.mem_append_left _ (List.mem_append_left _ (List.mem_append_right _ h)))) (by decide +kernel))) (goodIn_sub (fun _ h => List.mem_cons_of_mem _ (List.mem_append_left _ (List.mem_append_right _ h))) (by decide +kernel))) (goodIn_sub (fun _ h => List.mem_cons_of_mem _ (List.mem_append_right _ h)) (by decide +kernel))
set_option maxRecDepth 20000 in
theorem gL_sits_X6_pewOf : GoodIn wsL_sits (wsV RL 125 RX6 yX6_pewOf wsX6_pewOf) := goodIn_app (goodIn_of _ (by decide +kernel)) ggL_sits_X6_pewOf
set_option maxRecDepth 20000 in
theorem ggL_sits_X6_seatOf : GoodIn wsL_sits wsX6_seatOf := goodIn_ca (goodIn_ca (goodIn_ca (goodIn_r _ [162, 6, 7, 8, 9, 10, 11, 4, 12, 13, 14, 15, 16, 17, 18, 19, 20, 21, 22, 23, 24, 25, 26, 27, 28, 29, 30, 31, 32, 33, 34, 35, 36, 37, 38, 39, 40, 41, 42, 43, 44, 45, 46, 47, 48, 49, 50, 51, 52, 53, 54, 55, 56, 57, 58, 59, 60, 61, 62, 63, 64, 65, 66, 67, 68, 69, 70, 71, 72, 73, 74, 75, 76, 77, 78, 79, 80, 81, 82, 83, 84, 85, 86, 87, 88, 89, 90, 91, 92, 93, 94, 95, 96, 97, 98, 99, 100, 101, 102, 103, 104, 105, 106, 107, 108, 109, 110, 111, 112, 113, 114, 115, 116, 117, 118, 119, 120, 121, 122, 123, 124, 125, 126, 127, 128, 129, 130, 131, 132, 133, 134, 135, 136, 137, 138, 139, 140, 141, 142, 143, 144, 145, 146, 147, 148, 149, 150, 151, 152, 153, 154, 155, 156, 157, 158, 163, 164, 165, 166, 167, 168, 169, 170, 171, 172, 173, 174, 175, 176, 177, 178, 179, 180, 181, 182, 183, 184, 185, 186, 187, 188, 189, 190, 191, 192, 193, 194, 195, 196, 197, 198, 199, 200, 201, 202, 203, 204, 205, 206, 207, 208, 209] rfl (by decide +kernel)) (goodIn_sub (fun _ h => List.mem_cons_of_mem _ (List.mem_append_left _ (List.mem_append_left _ (List.mem_append_right _ h)))) (by decide +kernel))) (goodIn_sub (fun _ h => List.mem_cons_of_mem _ (List.mem_append_left _ (List.mem_append_right _ h))) (by decide +kernel))) (goodIn_sub (fun _ h => List.mem_cons_of_mem _ (List.mem_append_right _ h)) (by decide +kernel))
set_option maxRecDepth 20000 in
theorem gL_sits_X6_seatOf : GoodIn wsL_sits (wsV RL 128 RX6 yX6_seatOf wsX6_seatOf) := goodIn_app (goodIn_of _ (by decide +kernel)) ggL_sits_X6_seatOf
theorem dL_sits_0 : decode cL_sits 0 = .ok (.aload_n 0, 1) := by decide +kernel
theorem dL_sits_1 : decode cL_sits 1 = .ok (.iload_n 1, 1) := by decide +kernel
theorem dL_sits_2 : decode cL_sits 2 = .ok (.iload_n 2, 1) := by decide +kernel
theorem dL_sits_3 : decode cL_sits 3 = .ok (.invokevirtual 125, 3) := by decide +kernel
theorem dL_sits_6 : decode cL_sits 6 = .ok (.iload_n 3, 1) := by decide +kernel
theorem dL_sits_7 : decode cL_sits 7 = .ok (.if_icmp .ne 18, 3) := by decide +kernel
theorem dL_sits_10 : decode cL_sits 10 = .ok (.aload_n 0, 1) := by decide +kernel
theorem dL_sits_11 : decode cL_sits 11 = .ok (.iload_n 1, 1) := by decide +kernel
theorem dL_sits_12 : decode cL_sits 12 = .ok (.iload_n 2, 1) := by decide +kernel
theorem dL_sits_13 : decode cL_sits 13 = .ok (.invokevirtual 128, 3) := by decide +kernel
theorem dL_sits_16 : decode cL_sits 16 = .ok (.iload 4, 2) := by decide +kernel
theorem dL_sits_18 : decode cL_sits 18 = .ok (.if_icmp .ne 7, 3) := by decide +kernel
theorem dL_sits_21 : decode cL_sits 21 = .ok (.iconst 1, 1) := by decide +kernel
theorem dL_sits_22 : decode cL_sits 22 = .ok (.goto 4, 3) := by decide +kernel
theorem dL_sits_25 : decode cL_sits 25 = .ok (.iconst 0, 1) := by decide +kernel
theorem dL_sits_26 : decode cL_sits 26 = .ok (.ireturn, 1) := by decide +kernel
set_option maxRecDepth 20000 in
theorem ggL_accounts_X6_purse : GoodIn wsL_accounts wsX6_purse := goodIn_r _ [5, 6, 7, 28, 29, 30, 31, 32, 33, 34, 35, 36, 37, 38, 39, 40, 41, 42, 43, 44, 45] rfl (by decide +kernel)
set_option maxRecDepth 20000 in
theorem gL_accounts_X6_purse : GoodIn wsL_accounts (wsV RL 164 RX6 yX6_purse wsX6_purse) := goodIn_app (goodIn_of _ (by decide +kernel)) ggL_accounts_X6_purse
set_option maxRecDepth 20000 in
theorem ggL_accounts_X6_purseByAccounts : GoodIn wsL_accounts wsX6_purseByAccounts := goodIn_r _ [11, 6, 12, 13, 14, 15, 28, 29, 30, 31, 32, 33, 34, 35, 36, 37, 38, 39, 40, 41, 42, 43, 44, 45] rfl (by decide +kernel)
set_option maxRecDepth 20000 in
theorem gL_accounts_X6_purseByAccounts : GoodIn wsL_accounts (wsV RL 204 RX6 yX6_purseByAccounts wsX6_purseByAccounts) := goodIn_app (goodIn_of _ (by decide +kernel)) ggL_accounts_X6_purseByAccounts
set_option maxRecDepth 20000 in
theorem ggL_accounts_X6_collected : GoodIn wsL_accounts wsX6_collected := goodIn_r _ [19, 6, 12, 28, 29, 30, 31, 32, 33, 34, 35, 36, 37, 38, 39, 40, 41, 42, 43, 44, 45] rfl (by decide +kernel)
set_option maxRecDepth 20000 in
theorem gL_accounts_X6_collected : GoodIn wsL_accounts (wsV RL 167 RX6 yX6_collected wsX6_collected) := goodIn_app (goodIn_of _ (by decide +kernel)) ggL_accounts_X6_collected
set_option maxRecDepth 20000 in
theorem ggL_accounts_X6_fees : GoodIn wsL_accounts wsX6_fees := goodIn_r _ [23, 6, 14, 28, 29, 30, 31, 32, 33, 34, 35, 36, 37, 38, 39, 40, 41, 42, 43, 44, 45] rfl (by decide +kernel)
set_option maxRecDepth 20000 in
theorem gL_accounts_X6_fees : GoodIn wsL_accounts (wsV RL 170 RX6 yX6_fees wsX6_fees) := goodIn_app (goodIn_of _ (by decide +kernel)) ggL_accounts_X6_fees
set_option maxRecDepth 20000 in
theorem ggL_accounts_X6_fines : GoodIn wsL_accounts wsX6_fines := goodIn_r _ [27, 6, 15, 28, 29, 30, 31, 32, 33, 34, 35, 36, 37, 38, 39, 40, 41, 42, 43, 44, 45] rfl (by decide +kernel)
set_option maxRecDepth 20000 in
theorem gL_accounts_X6_fines : GoodIn wsL_accounts (wsV RL 173 RX6 yX6_fines wsX6_fines) := goodIn_app (goodIn_of _ (by decide +kernel)) ggL_accounts_X6_fines
theorem dL_accounts_0 : decode cL_accounts 0 = .ok (.aload_n 0, 1) := by decide +kernel
theorem dL_accounts_1 : decode cL_accounts 1 = .ok (.invokevirtual 164, 3) := by decide +kernel
theorem dL_accounts_4 : decode cL_accounts 4 = .ok (.iload_n 1, 1) := by decide +kernel
theorem dL_accounts_5 : decode cL_accounts 5 = .ok (.if_icmp .ne 40, 3) := by decide +kernel
theorem dL_accounts_8 : decode cL_accounts 8 = .ok (.aload_n 0, 1) := by decide +kernel
theorem dL_accounts_9 : decode cL_accounts 9 = .ok (.invokevirtual 204, 3) := by decide +kernel
theorem dL_accounts_12 : decode cL_accounts 12 = .ok (.iload_n 1, 1) := by decide +kernel
theorem dL_accounts_13 : decode cL_accounts 13 = .ok (.if_icmp .ne 32, 3) := by decide +kernel
theorem dL_accounts_16 : decode cL_accounts 16 = .ok (.aload_n 0, 1) := by decide +kernel
theorem dL_accounts_17 : decode cL_accounts 17 = .ok (.invokevirtual 167, 3) := by decide +kernel
theorem dL_accounts_20 : decode cL_accounts 20 = .ok (.iload_n 2, 1) := by decide +kernel
theorem dL_accounts_21 : decode cL_accounts 21 = .ok (.if_icmp .ne 24, 3) := by decide +kernel
theorem dL_accounts_24 : decode cL_accounts 24 = .ok (.aload_n 0, 1) := by decide +kernel
theorem dL_accounts_25 : decode cL_accounts 25 = .ok (.invokevirtual 170, 3) := by decide +kernel
theorem dL_accounts_28 : decode cL_accounts 28 = .ok (.iload_n 3, 1) := by decide +kernel
theorem dL_accounts_29 : decode cL_accounts 29 = .ok (.if_icmp .ne 16, 3) := by decide +kernel
theorem dL_accounts_32 : decode cL_accounts 32 = .ok (.aload_n 0, 1) := by decide +kernel
theorem dL_accounts_33 : decode cL_accounts 33 = .ok (.invokevirtual 173, 3) := by decide +kernel
theorem dL_accounts_36 : decode cL_accounts 36 = .ok (.iload 4, 2) := by decide +kernel
theorem dL_accounts_38 : decode cL_accounts 38 = .ok (.if_icmp .ne 7, 3) := by decide +kernel
theorem dL_accounts_41 : decode cL_accounts 41 = .ok (.iconst 1, 1) := by decide +kernel
theorem dL_accounts_42 : decode cL_accounts 42 = .ok (.goto 4, 3) := by decide +kernel
theorem dL_accounts_45 : decode cL_accounts 45 = .ok (.iconst 0, 1) := by decide +kernel
theorem dL_accounts_46 : decode cL_accounts 46 = .ok (.ireturn, 1) := by decide +kernel
set_option maxRecDepth 20000 in
theorem ggL_choirs_X6_init : GoodIn wsL_choirs wsX6_init := goodIn_r _ [6, 7, 8, 9, 10, 11, 12, 13, 14, 15, 16, 17, 18, 19, 20, 21, 22, 23, 24, 25, 26, 27, 28, 29, 30, 31, 32, 33, 34, 35, 36, 37, 38, 39, 40, 41, 42, 43, 44, 45, 46, 47, 48, 49, 50, 51, 52, 53, 54, 55, 56, 57, 58, 59, 60, 61, 62, 63, 64, 65, 66, 67, 68, 69, 70, 71, 72, 73, 74, 75, 76, 77, 78, 79, 80, 81, 82, 83, 84, 85, 86, 87, 88, 89, 90, 91, 92, 93, 94, 95, 96, 97, 98, 99, 100, 101, 904, 905, 906, 907, 908, 909, 910, 911, 912, 913, 896, 897, 898, 899, 900, 901, 902, 903, 914, 915, 916, 917, 918, 919, 920, 921, 922, 923, 924, 925, 926, 927, 928, 929, 930, 931, 932, 933, 934, 935, 936, 937, 938, 939, 940, 941, 942, 943, 944, 945, 946, 947, 948] rfl (by decide +kernel)
set_option maxRecDepth 20000 in
theorem gL_choirs_X6_init : GoodIn wsL_choirs (wsX6_init) := ggL_choirs_X6_init
set_option maxRecDepth 20000 in
theorem ggL_choirs_L_call : GoodIn wsL_choirs wsL_call := goodIn_ca (goodIn_ca (goodIn_ca (goodIn_r _ [105, 106, 107, 108, 109, 110, 104, 111, 112, 113, 114, 3, 115, 13, 116, 117, 118, 12, 119, 34, 120, 121, 122, 123, 124, 125, 126, 127, 128, 129, 130, 33, 131, 53, 132, 133, 134, 135, 136, 137, 138, 139, 140, 141, 142, 143, 144, 18, 17, 145, 146, 147, 148, 149, 150, 151, 152, 30, 38, 42, 44, 153, 154, 155, 156, 45, 46, 47, 48, 49, 157, 158, 159, 160, 54, 161, 55, 56, 57, 58, 59, 60, 61, 62, 63, 64, 162, 163, 164, 37, 165, 68, 69, 166, 70, 71, 167, 168, 169, 41, 170, 75, 76, 171, 77, 78, 80, 81, 82, 83, 172, 173, 174, 175, 176, 177, 178, 179, 180, 181, 182, 183, 184, 185, 186, 187, 188, 189, 190, 191, 192, 193, 194, 195, 196, 197, 198, 199, 200, 201, 202, 203, 204, 205, 206, 207, 208, 209, 210, 211, 212, 213, 214, 215, 216, 217, 218, 219, 220, 221, 222, 223, 224, 225, 226, 227, 228, 229, 230, 231, 232, 233, 234, 235, 236, 237, 238, 239, 240, 241, 242, 243, 244, 245, 246, 247, 248, 249, 250, 251, 252, 253, 254, 255, 256, 257, 258, 259, 260, 261, 262, 263, 264, 265, 266, 267, 268, 269, 270, 271, 272, 273, 274, 275, 276, 277, 278, 279, 280, 281, 282, 283, 284, 285, 286, 287, 288, 289, 290, 291, 292, 293, 294, 295, 296, 297, 298, 299, 300, 301, 302, 303, 304, 305, 306, 307, 308, 309, 310, 311, 312, 313, 314, 315, 316, 317, 318, 319, 320, 321, 322, 323, 324, 26, 325, 326, 327, 328, 329, 330, 331, 332, 333, 334, 335, 336, 337, 338, 339, 25, 340, 97, 341, 342, 99, 343, 344, 345, 98, 346, 347, 348, 349, 350, 351, 352, 353, 354, 355, 356, 357, 358, 359, 360, 361, 362, 363, 364, 365, 366, 367, 368, 369, 370, 371, 372, 373, 100, 374, 375, 376, 377, 378, 379, 380, 381, 382, 383, 384, 385, 386, 387, 388, 389, 390, 391, 392, 393, 394, 395, 396, 397, 398, 399, 400, 401, 402, 403, 404, 405, 406, 407, 408, 409, 410, 411, 412, 413, 414, 415, 416, 417, 418, 419, 420, 421, 422, 423, 424, 425, 426, 427, 428, 429, 430, 431, 432, 433, 434, 435, 436, 437, 438, 439, 440, 441, 442, 443, 444, 445, 446, 447, 448, 449, 450, 451, 452, 453, 454, 455, 456, 457, 458, 459, 460, 461, 462, 463, 464, 465, 466, 467, 468, 469, 470, 471, 472, 473, 474, 475, 476, 477, 478, 479, 480, 481, 482, 483, 484, 485, 486, 487, 488, 489, 490, 491, 492, 493, 494, 495, 496, 497, 498, 499, 500, 501, 502, 503, 504, 505, 506, 507, 508, 509, 510, 511, 512, 513, 514, 515, 516, 517, 518, 519, 520, 521, 522, 523, 524, 525, 526, 527, 528, 529, 530, 531, 532, 533, 534, 535, 536, 537, 538, 539, 540, 541, 542, 543, 544, 545, 546, 547, 548, 549, 550, 551, 552, 553, 101, 554, 555, 556, 557, 558, 559, 560, 561, 562, 563, 564, 565, 566, 567, 568, 569, 570, 571, 572, 573, 574, 575, 576, 577, 578, 579, 580, 581, 582, 583, 584, 585, 586, 587, 588, 589, 590, 591, 592, 593, 594, 595, 596, 597, 598, 599, 600, 601, 602, 603, 22, 604, 605, 606, 21, 607, 89, 608, 609, 610, 611, 88, 612, 613, 614, 615, 616, 617, 618, 619, 90, 620, 621, 622, 623, 624, 625, 626, 627, 91, 93, 92, 628, 629, 630, 631, 632, 633, 634, 635, 636, 637, 638, 639, 640, 641, 642, 643, 644, 645, 646, 647, 648, 649, 650, 651, 652, 653, 654, 655, 656, 657, 658, 659, 660, 661, 662, 663, 664, 665, 666, 667, 668, 669, 670, 671, 672, 673, 674, 675, 676, 677, 678, 679, 680, 681, 682, 683, 684, 685, 686, 687, 688, 689, 690, 691, 692, 693, 694, 695, 696, 697, 698, 699, 700, 701, 702, 703, 704, 705, 706, 707, 708, 709, 710, 711, 712, 713, 714, 715, 716, 717, 718, 719, 720, 721, 722, 723, 724, 725, 726, 727, 728, 729, 730, 731, 732, 733, 734, 735, 736, 737, 738, 739, 740, 741, 742, 743, 744, 745, 746, 747, 748, 749, 750, 751, 752, 753, 754, 755, 756, 757, 758, 759, 14, 760, 761, 762, 763, 764, 765, 766, 767, 768, 769, 770, 771, 772, 773, 774, 775, 776, 777, 778, 779, 780, 781, 782, 783, 784, 785, 786, 787, 788, 789, 16, 15, 896, 897, 898, 899, 900, 901, 902, 903, 904, 905, 906, 907, 908, 909, 910, 911, 912, 913, 925, 926, 927, 928, 929, 930, 931, 932, 933, 934, 935, 936, 937, 938, 939, 940, 941, 942, 943, 944, 945, 946, 947, 948, 920, 921, 922, 923, 924, 914, 915, 916, 917, 918, 919] rfl (by decide +kernel)) (goodIn_sub (fun _ h => List.mem_cons_of_mem _ (List.mem_append_left _ (List.mem_append_left _ (List.mem_append_right _ h)))) (by decide +kernel))) (goodIn_sub (fun _ h => List.mem_cons_of_mem _ (List.mem_append_left _ (List.mem_append_right _ h))) (by decide +kernel))) (goodIn_sub (fun _ h => List.mem_cons_of_mem _ (List.mem_append_right _ h)) (by decide +kernel))
set_option maxRecDepth 20000 in
theorem gL_choirs_L_call : GoodIn wsL_choirs (va_wsS RL 187 yL_call wsL_call) := goodIn_app (goodIn_of _ (by decide +kernel)) ggL_choirs_L_call
set_option maxRecDepth 20000 in
theorem ggL_choirs_X6_day : GoodIn wsL_choirs wsX6_day := goodIn_r _ [793, 13, 439, 896, 897, 898, 899, 900, 901, 902, 903, 904, 905, 906, 907, 908, 909, 910, 911, 912, 913] rfl (by decide +kernel)
set_option maxRecDepth 20000 in
theorem gL_choirs_X6_day : GoodIn wsL_choirs (wsV RL 155 RX6 yX6_day wsX6_day) := goodIn_app (goodIn_of _ (by decide +kernel)) ggL_choirs_X6_day
set_option maxRecDepth 20000 in
theorem ggL_choirs_X6_singers : GoodIn wsL_choirs wsX6_singers := goodIn_r _ [797, 13, 438, 798, 896, 897, 898, 899, 900, 901, 902, 903, 904, 905, 906, 907, 908, 909, 910, 911, 912, 913, 925, 926, 927, 928, 929, 930, 931, 932, 933, 934, 935, 936] rfl (by decide +kernel)
set_option maxRecDepth 20000 in
theorem gL_choirs_X6_singers : GoodIn wsL_choirs (wsV RL 158 RX6 yX6_singers wsX6_singers) := goodIn_app (goodIn_of _ (by decide +kernel)) ggL_choirs_X6_singers
set_option maxRecDepth 20000 in
theorem ggL_choirs_X6_feasts : GoodIn wsL_choirs wsX6_feasts := goodIn_r _ [802, 13, 506, 803, 896, 897, 898, 899, 900, 901, 902, 903, 904, 905, 906, 907, 908, 909, 910, 911, 912, 913, 941, 942, 943, 944, 945, 946, 947, 948] rfl (by decide +kernel)
set_option maxRecDepth 20000 in
theorem gL_choirs_X6_feasts : GoodIn wsL_choirs (wsV RL 161 RX6 yX6_feasts wsX6_feasts) := goodIn_app (goodIn_of _ (by decide +kernel)) ggL_choirs_X6_feasts
set_option maxRecDepth 20000 in
theorem ggL_choirs_L_accounts : GoodIn wsL_choirs wsL_accounts := goodIn_r _ [806, 807, 808, 809, 3, 810, 13, 811, 812, 813, 814, 815, 816, 817, 818, 819, 820, 821, 822, 823, 824, 825, 826, 827, 828, 829, 830, 831, 896, 897, 898, 899, 900, 901, 902, 903, 904, 905, 906, 907, 908, 909, 910, 911, 912, 913] rfl (by decide +kernel)
set_option maxRecDepth 20000 in
theorem gL_choirs_L_accounts : GoodIn wsL_choirs (va_wsS RL 208 yL_accounts wsL_accounts) := goodIn_app (goodIn_of _ (by decide +kernel)) ggL_choirs_L_accounts
set_option maxRecDepth 20000 in
theorem ggL_choirs_X6_nextToBreak : GoodIn wsL_choirs wsX6_nextToBreak := goodIn_r _ [835, 13, 438, 439, 836, 837, 838, 33, 839, 53, 58, 207, 195, 196, 197, 61, 896, 897, 898, 899, 900, 901, 902, 903, 904, 905, 906, 907, 908, 909, 910, 911, 912, 913, 925, 926, 927, 928, 929, 930, 931, 932, 933, 934, 935, 936] rfl (by decide +kernel)
set_option maxRecDepth 20000 in
theorem gL_choirs_X6_nextToBreak : GoodIn wsL_choirs (wsV RL 212 RX6 yX6_nextToBreak wsX6_nextToBreak) := goodIn_app (goodIn_of _ (by decide +kernel)) ggL_choirs_X6_nextToBreak
set_option maxRecDepth 20000 in
theorem ggL_choirs_X6_firstShortFeast : GoodIn wsL_choirs wsX6_firstShortFeast := goodIn_r _ [843, 13, 506, 439, 26, 507, 844, 334, 335, 41, 336, 75, 76, 535, 536, 537, 25, 538, 344, 345, 341, 342, 346, 347, 348, 349, 98, 350, 351, 352, 353, 12, 354, 34, 38, 194, 195, 196, 33, 197, 61, 230, 231, 232, 233, 62, 251, 252, 253, 37, 254, 68, 69, 70, 71, 355, 356, 357, 358, 58, 359, 360, 361, 362, 42, 309, 315, 363, 316, 364, 365, 366, 367, 368, 374, 375, 376, 377, 378, 379, 380, 896, 897, 898, 899, 900, 901, 902, 903, 904, 905, 906, 907, 908, 909, 910, 911, 912, 913, 941, 942, 943, 944, 945, 946, 947, 948, 925, 926, 927, 928, 929, 930, 931, 932, 933, 934, 935, 936, 920, 921, 922, 923, 924, 937, 938, 939, 940] rfl (by decide +kernel)
set_option maxRecDepth 20000 in
theorem gL_choirs_X6_firstShortFeast : GoodIn wsL_choirs (wsV RL 215 RX6 yX6_firstShortFeast wsX6_firstShortFeast) := goodIn_app (goodIn_of _ (by decide +kernel)) ggL_choirs_X6_firstShortFeast
set_option maxRecDepth 20000 in
theorem ggL_choirs_L_refused : GoodIn wsL_choirs wsL_refused := goodIn_ca (goodIn_ca (goodIn_ca (goodIn_r _ [847, 848, 849, 104, 850, 851, 852, 790, 791, 792, 3, 793, 13, 439, 794, 795, 796, 797, 438, 798, 799, 800, 801, 802, 506, 803, 807, 808, 809, 810, 811, 820, 821, 822, 823, 816, 824, 825, 826, 827, 818, 828, 829, 830, 831, 819, 451, 452, 453, 454, 455, 440, 441, 442, 443, 444, 191, 192, 33, 193, 53, 132, 133, 134, 135, 136, 137, 138, 139, 140, 456, 366, 367, 368, 58, 462, 463, 464, 465, 466, 434, 435, 436, 437, 445, 195, 196, 197, 61, 467, 468, 469, 470, 471, 472, 473, 474, 475, 476, 477, 231, 232, 233, 62, 484, 485, 486, 487, 488, 489, 490, 491, 492, 493, 502, 503, 504, 505, 507, 508, 509, 510, 511, 512, 300, 301, 41, 302, 75, 518, 519, 520, 521, 26, 522, 523, 524, 25, 525, 341, 526, 97, 343, 154, 155, 156, 527, 306, 307, 12, 308, 42, 309, 30, 528, 338, 339, 340, 342, 99, 344, 345, 98, 346, 347, 348, 349, 350, 351, 352, 353, 354, 34, 38, 194, 230, 251, 252, 253, 37, 254, 68, 69, 70, 71, 355, 356, 357, 358, 359, 360, 361, 362, 315, 363, 316, 364, 365, 369, 288, 289, 290, 370, 371, 372, 373, 100, 374, 375, 376, 377, 378, 379, 380, 381, 382, 383, 384, 385, 386, 387, 388, 389, 390, 391, 392, 393, 394, 395, 396, 397, 398, 399, 529, 318, 319, 320, 80, 530, 424, 425, 426, 427, 428, 429, 430, 544, 545, 546, 547, 548, 517, 549, 550, 551, 552, 553, 101, 554, 555, 334, 335, 336, 76, 556, 411, 412, 413, 414, 415, 416, 417, 57, 562, 563, 564, 565, 543, 566, 567, 568, 569, 303, 304, 124, 120, 121, 570, 571, 572, 573, 574, 494, 495, 496, 497, 498, 853, 854, 855, 856, 18, 857, 858, 859, 860, 861, 862, 863, 864, 865, 866, 867, 107, 108, 112, 113, 114, 115, 116, 117, 118, 119, 122, 123, 125, 126, 127, 128, 129, 130, 131, 141, 142, 143, 144, 17, 145, 146, 147, 148, 149, 150, 151, 152, 44, 153, 45, 46, 47, 48, 49, 157, 158, 159, 160, 54, 161, 55, 56, 59, 60, 63, 64, 162, 163, 164, 165, 166, 167, 168, 169, 170, 171, 77, 78, 81, 82, 83, 172, 173, 174, 175, 176, 177, 178, 179, 180, 181, 868, 869, 870, 106, 208, 209, 210, 211, 212, 213, 214, 215, 216, 217, 218, 219, 220, 221, 202, 102, 103, 105, 109, 110, 111, 182, 183, 184, 185, 186, 187, 188, 189, 190, 198, 199, 200, 201, 203, 204, 205, 206, 207, 222, 223, 224, 225, 226, 227, 228, 229, 234, 235, 236, 237, 238, 239, 240, 241, 242, 243, 244, 245, 246, 247, 248, 249, 250, 255, 256, 257, 258, 259, 260, 261, 262, 263, 264, 265, 266, 267, 268, 269, 270, 271, 272, 273, 274, 275, 276, 277, 278, 279, 280, 281, 282, 283, 284, 285, 286, 287, 291, 292, 293, 294, 295, 296, 297, 298, 299, 305, 310, 311, 312, 313, 314, 317, 321, 322, 323, 324, 325, 326, 327, 328, 329, 330, 331, 332, 333, 337, 400, 401, 402, 403, 404, 405, 406, 407, 408, 409, 410, 418, 419, 420, 421, 422, 423, 431, 432, 433, 446, 447, 448, 449, 450, 457, 458, 459, 460, 461, 478, 479, 480, 481, 482, 483, 499, 500, 501, 513, 514, 515, 516, 531, 532, 533, 534, 535, 536, 537, 538, 539, 540, 541, 542, 557, 558, 559, 560, 561, 575, 576, 577, 578, 579, 580, 581, 582, 583, 584, 585, 586, 587, 588, 589, 590, 591, 592, 593, 594, 595, 596, 597, 598, 599, 600, 601, 602, 603, 22, 604, 605, 606, 21, 607, 89, 608, 609, 610, 611, 88, 612, 613, 614, 615, 616, 617, 618, 619, 90, 620, 621, 622, 623, 624, 625, 626, 627, 91, 93, 92, 628, 629, 630, 631, 632, 633, 634, 635, 636, 637, 638, 639, 640, 641, 642, 643, 644, 645, 646, 647, 648, 649, 650, 651, 652, 653, 654, 655, 656, 657, 658, 659, 660, 661, 662, 663, 664, 665, 666, 667, 668, 669, 670, 671, 672, 673, 674, 675, 676, 677, 678, 679, 680, 681, 682, 683, 684, 685, 686, 687, 688, 689, 690, 691, 692, 693, 694, 695, 696, 697, 698, 699, 700, 701, 702, 703, 704, 705, 706, 707, 708, 709, 710, 711, 712, 713, 714, 715, 716, 717, 718, 719, 720, 721, 722, 723, 724, 725, 726, 727, 728, 729, 730, 731, 732, 733, 734, 735, 736, 737, 738, 739, 740, 741, 742, 743, 744, 745, 746, 747, 748, 749, 750, 751, 752, 753, 754, 755, 756, 757, 758, 759, 14, 760, 761, 762, 763, 764, 765, 766, 767, 768, 769, 770, 771, 772, 773, 774, 775, 776, 777, 778, 779, 780, 781, 782, 783, 784, 785, 786, 787, 788, 789, 16, 15, 871, 872, 873, 896, 897, 898, 899, 900, 901, 902, 903, 904, 905, 906, 907, 908, 909, 910, 911, 912, 913, 925, 926, 927, 928, 929, 930, 931, 932, 933, 934, 935, 936, 941, 942, 943, 944, 945, 946, 947, 948, 920, 921, 922, 923, 924, 937, 938, 939, 940, 914, 915, 916, 917, 918, 919] rfl (by decide +kernel)) (goodIn_sub (fun _ h => List.mem_cons_of_mem _ (List.mem_append_left _ (List.mem_append_left _ (List.mem_append_right _ h)))) (by decide +kernel))) (goodIn_sub (fun _ h => List.mem_cons_of_mem _ (List.mem_append_left _ (List.mem_append_right _ h))) (by decide +kernel))) (goodIn_sub (fun _ h => List.mem_cons_of_mem _ (List.mem_append_right _ h)) (by decide +kernel))
set_option maxRecDepth 20000 in
theorem gL_choirs_L_refused : GoodIn wsL_choirs (va_wsS RL 218 yL_refused wsL_refused) := goodIn_app (goodIn_of _ (by decide +kernel)) ggL_choirs_L_refused
set_option maxRecDepth 20000 in
theorem ggL_choirs_X6_register : GoodIn wsL_choirs wsX6_register := goodIn_ca (goodIn_ca (goodIn_ca (goodIn_r _ [115, 13, 116, 117, 118, 12, 119, 34, 120, 3, 121, 122, 123, 124, 125, 126, 127, 128, 129, 130, 33, 131, 53, 132, 133, 134, 135, 136, 137, 138, 139, 140, 141, 142, 143, 144, 18, 17, 145, 146, 147, 148, 149, 150, 151, 152, 30, 38, 42, 44, 153, 154, 155, 156, 45, 46, 47, 48, 49, 157, 158, 159, 160, 54, 161, 55, 56, 57, 58, 59, 60, 61, 62, 63, 64, 162, 163, 164, 37, 165, 68, 69, 166, 70, 71, 167, 168, 169, 41, 170, 75, 76, 171, 77, 78, 80, 81, 82, 83, 172, 173, 174, 175, 176, 177, 178, 179, 180, 181, 896, 897, 898, 899, 900, 901, 902, 903, 904, 905, 906, 907, 908, 909, 910, 911, 912, 913, 925, 926, 927, 928, 929, 930, 931, 932, 933, 934, 935, 936, 937, 938, 939, 940, 941, 942, 943, 944, 945, 946, 947, 948] rfl (by decide +kernel)) (goodIn_sub (fun _ h => List.mem_cons_of_mem _ (List.mem_append_left _ (List.mem_append_left _ (List.mem_append_right _ h)))) (by decide +kernel))) (goodIn_sub (fun _ h => List.mem_cons_of_mem _ (List.mem_append_left _ (List.mem_append_right _ h))) (by decide +kernel))) (goodIn_sub (fun _ h => List.mem_cons_of_mem _ (List.mem_append_right _ h)) (by decide +kernel))
set_option maxRecDepth 20000 in
theorem gL_choirs_X6_register : GoodIn wsL_choirs (wsV RL 32 RX6 yX6_register wsX6_register) := goodIn_app (goodIn_of _ (by decide +kernel)) ggL_choirs_X6_register
set_option maxRecDepth 20000 in
theorem ggL_choirs_X6_breakDayOf : GoodIn wsL_choirs wsX6_breakDayOf := goodIn_ca (goodIn_ca (goodIn_ca (goodIn_r _ [465, 13, 438, 466, 440, 441, 442, 3, 443, 444, 191, 192, 33, 193, 53, 132, 133, 134, 135, 136, 137, 138, 139, 140, 896, 897, 898, 899, 900, 901, 902, 903, 904, 905, 906, 907, 908, 909, 910, 911, 912, 913, 925, 926, 927, 928, 929, 930, 931, 932, 933, 934, 935, 936] rfl (by decide +kernel)) (goodIn_sub (fun _ h => List.mem_cons_of_mem _ (List.mem_append_left _ (List.mem_append_left _ (List.mem_append_right _ h)))) (by decide +kernel))) (goodIn_sub (fun _ h => List.mem_cons_of_mem _ (List.mem_append_left _ (List.mem_append_right _ h))) (by decide +kernel))) (goodIn_sub (fun _ h => List.mem_cons_of_mem _ (List.mem_append_right _ h)) (by decide +kernel))
set_option maxRecDepth 20000 in
theorem gL_choirs_X6_breakDayOf : GoodIn wsL_choirs (wsV RL 76 RX6 yX6_breakDayOf wsX6_breakDayOf) := goodIn_app (goodIn_of _ (by decide +kernel)) ggL_choirs_X6_breakDayOf
set_option maxRecDepth 20000 in
theorem ggL_choirs_X6_borrow : GoodIn wsL_choirs wsX6_borrow := goodIn_ca (goodIn_ca (goodIn_ca (goodIn_r _ [211, 13, 212, 213, 214, 12, 215, 34, 44, 120, 3, 121, 122, 123, 124, 125, 126, 127, 128, 129, 130, 33, 131, 53, 132, 133, 134, 135, 136, 137, 138, 139, 140, 141, 142, 143, 144, 18, 17, 145, 146, 147, 148, 149, 150, 151, 152, 30, 38, 42, 153, 154, 155, 156, 45, 46, 47, 48, 49, 157, 158, 159, 160, 54, 161, 55, 56, 57, 58, 59, 60, 61, 62, 63, 64, 162, 163, 164, 37, 165, 68, 69, 166, 70, 71, 167, 168, 169, 41, 170, 75, 76, 171, 77, 78, 80, 81, 82, 83, 216, 217, 218, 219, 220, 221, 202, 177, 178, 179, 180, 181, 896, 897, 898, 899, 900, 901, 902, 903, 904, 905, 906, 907, 908, 909, 910, 911, 912, 913, 925, 926, 927, 928, 929, 930, 931, 932, 933, 934, 935, 936, 937, 938, 939, 940, 941, 942, 943, 944, 945, 946, 947, 948] rfl (by decide +kernel)) (goodIn_sub (fun _ h => List.mem_cons_of_mem _ (List.mem_append_left _ (List.mem_append_left _ (List.mem_append_right _ h)))) (by decide +kernel))) (goodIn_sub (fun _ h => List.mem_cons_of_mem _ (List.mem_append_left _ (List.mem_append_right _ h))) (by decide +kernel))) (goodIn_sub (fun _ h => List.mem_cons_of_mem _ (List.mem_append_right _ h)) (by decide +kernel))
set_option maxRecDepth 20000 in
theorem gL_choirs_X6_borrow : GoodIn wsL_choirs (wsV RL 42 RX6 yX6_borrow wsX6_borrow) := goodIn_app (goodIn_of _ (by decide +kernel)) ggL_choirs_X6_borrow
set_option maxRecDepth 20000 in
theorem ggL_choirs_X6_favoursOf : GoodIn wsL_choirs wsX6_favoursOf := goodIn_ca (goodIn_ca (goodIn_ca (goodIn_r _ [497, 13, 498, 124, 120, 3, 121, 132, 133, 134, 135, 136, 137, 138, 139, 140, 896, 897, 898, 899, 900, 901, 902, 903, 904, 905, 906, 907, 908, 909, 910, 911, 912, 913] rfl (by decide +kernel)) (goodIn_sub (fun _ h => List.mem_cons_of_mem _ (List.mem_append_left _ (List.mem_append_left _ (List.mem_append_right _ h)))) (by decide +kernel))) (goodIn_sub (fun _ h => List.mem_cons_of_mem _ (List.mem_append_left _ (List.mem_append_right _ h))) (by decide +kernel))) (goodIn_sub (fun _ h => List.mem_cons_of_mem _ (List.mem_append_right _ h)) (by decide +kernel))
set_option maxRecDepth 20000 in
theorem gL_choirs_X6_favoursOf : GoodIn wsL_choirs (wsV RL 95 RX6 yX6_favoursOf wsX6_favoursOf) := goodIn_app (goodIn_of _ (by decide +kernel)) ggL_choirs_X6_favoursOf
set_option maxRecDepth 20000 in
theorem ggL_choirs_X6_choirOf : GoodIn wsL_choirs wsX6_choirOf := goodIn_ca (goodIn_ca (goodIn_ca (goodIn_r _ [470, 13, 438, 471, 440, 441, 442, 3, 443, 444, 191, 192, 33, 193, 53, 132, 133, 134, 135, 136, 137, 138, 139, 140, 896, 897, 898, 899, 900, 901, 902, 903, 904, 905, 906, 907, 908, 909, 910, 911, 912, 913, 925, 926, 927, 928, 929, 930, 931, 932, 933, 934, 935, 936] rfl (by decide +kernel)) (goodIn_sub (fun _ h => List.mem_cons_of_mem _ (List.mem_append_left _ (List.mem_append_left _ (List.mem_append_right _ h)))) (by decide +kernel))) (goodIn_sub (fun _ h => List.mem_cons_of_mem _ (List.mem_append_left _ (List.mem_append_right _ h))) (by decide +kernel))) (goodIn_sub (fun _ h => List.mem_cons_of_mem _ (List.mem_append_right _ h)) (by decide +kernel))
set_option maxRecDepth 20000 in
theorem gL_choirs_X6_choirOf : GoodIn wsL_choirs (wsV RL 79 RX6 yX6_choirOf wsX6_choirOf) := goodIn_app (goodIn_of _ (by decide +kernel)) ggL_choirs_X6_choirOf
set_option maxRecDepth 20000 in
theorem ggL_choirs_X6_ageOf : GoodIn wsL_choirs wsX6_ageOf := goodIn_ca (goodIn_ca (goodIn_ca (goodIn_r _ [449, 13, 439, 438, 450, 440, 441, 442, 3, 443, 444, 191, 192, 33, 193, 53, 132, 133, 134, 135, 136, 137, 138, 139, 140, 896, 897, 898, 899, 900, 901, 902, 903, 904, 905, 906, 907, 908, 909, 910, 911, 912, 913, 925, 926, 927, 928, 929, 930, 931, 932, 933, 934, 935, 936] rfl (by decide +kernel)) (goodIn_sub (fun _ h => List.mem_cons_of_mem _ (List.mem_append_left _ (List.mem_append_left _ (List.mem_append_right _ h)))) (by decide +kernel))) (goodIn_sub (fun _ h => List.mem_cons_of_mem _ (List.mem_append_left _ (List.mem_append_right _ h))) (by decide +kernel))) (goodIn_sub (fun _ h => List.mem_cons_of_mem _ (List.mem_append_right _ h)) (by decide +kernel))
set_option maxRecDepth 20000 in
theorem gL_choirs_X6_ageOf : GoodIn wsL_choirs (wsV RL 67 RX6 yX6_ageOf wsX6_ageOf) := goodIn_app (goodIn_of _ (by decide +kernel)) ggL_choirs_X6_ageOf
set_option maxRecDepth 20000 in
theorem ggL_choirs_X6_announce : GoodIn wsL_choirs wsX6_announce := goodIn_ca (goodIn_ca (goodIn_ca (goodIn_r _ [266, 13, 267, 268, 269, 12, 270, 30, 42, 120, 3, 121, 271, 272, 273, 41, 274, 75, 275, 276, 277, 278, 76, 132, 133, 134, 135, 136, 137, 138, 139, 140, 141, 142, 143, 144, 18, 17, 145, 146, 147, 148, 149, 150, 151, 152, 34, 38, 44, 153, 154, 155, 156, 45, 46, 47, 48, 49, 157, 158, 159, 33, 160, 53, 54, 161, 55, 56, 57, 58, 59, 60, 61, 62, 63, 64, 162, 163, 164, 37, 165, 68, 69, 166, 70, 71, 167, 168, 169, 170, 171, 77, 78, 80, 81, 82, 83, 279, 280, 281, 282, 283, 284, 285, 286, 287, 288, 289, 290, 896, 897, 898, 899, 900, 901, 902, 903, 904, 905, 906, 907, 908, 909, 910, 911, 912, 913, 941, 942, 943, 944, 945, 946, 947, 948, 925, 926, 927, 928, 929, 930, 931, 932, 933, 934, 935, 936, 937, 938, 939, 940] rfl (by decide +kernel)) (goodIn_sub (fun _ h => List.mem_cons_of_mem _ (List.mem_append_left _ (List.mem_append_left _ (List.mem_append_right _ h)))) (by decide +kernel))) (goodIn_sub (fun _ h => List.mem_cons_of_mem _ (List.mem_append_left _ (List.mem_append_right _ h))) (by decide +kernel))) (goodIn_sub (fun _ h => List.mem_cons_of_mem _ (List.mem_append_right _ h)) (by decide +kernel))
set_option maxRecDepth 20000 in
theorem gL_choirs_X6_announce : GoodIn wsL_choirs (wsV RL 53 RX6 yX6_announce wsX6_announce) := goodIn_app (goodIn_of _ (by decide +kernel)) ggL_choirs_X6_announce
set_option maxRecDepth 20000 in
theorem ggL_choirs_X6_setLine : GoodIn wsL_choirs wsX6_setLine := goodIn_ca (goodIn_ca (goodIn_ca (goodIn_r _ [294, 13, 295, 296, 297, 12, 298, 42, 299, 300, 301, 41, 302, 75, 303, 3, 304, 124, 120, 121, 126, 127, 305, 306, 307, 308, 309, 30, 132, 133, 134, 135, 136, 137, 138, 139, 140, 141, 142, 143, 144, 18, 17, 145, 146, 147, 148, 149, 150, 151, 152, 34, 38, 44, 153, 154, 155, 156, 45, 46, 47, 48, 49, 157, 158, 159, 33, 160, 53, 54, 161, 55, 56, 57, 58, 59, 60, 61, 62, 63, 64, 162, 163, 164, 37, 165, 68, 69, 166, 70, 71, 167, 168, 169, 170, 76, 171, 77, 78, 80, 81, 82, 83, 310, 311, 312, 313, 314, 315, 316, 317, 318, 319, 320, 896, 897, 898, 899, 900, 901, 902, 903, 904, 905, 906, 907, 908, 909, 910, 911, 912, 913, 941, 942, 943, 944, 945, 946, 947, 948, 925, 926, 927, 928, 929, 930, 931, 932, 933, 934, 935, 936, 937, 938, 939, 940] rfl (by decide +kernel)) (goodIn_sub (fun _ h => List.mem_cons_of_mem _ (List.mem_append_left _ (List.mem_append_left _ (List.mem_append_right _ h)))) (by decide +kernel))) (goodIn_sub (fun _ h => List.mem_cons_of_mem _ (List.mem_append_left _ (List.mem_append_right _ h))) (by decide +kernel))) (goodIn_sub (fun _ h => List.mem_cons_of_mem _ (List.mem_append_right _ h)) (by decide +kernel))
set_option maxRecDepth 20000 in
theorem gL_choirs_X6_setLine : GoodIn wsL_choirs (wsV RL 57 RX6 yX6_setLine wsX6_setLine) := goodIn_app (goodIn_of _ (by decide +kernel)) ggL_choirs_X6_setLine
set_option maxRecDepth 20000 in
theorem ggL_choirs_X6_whyNot : GoodIn wsL_choirs wsX6_whyNot := goodIn_ca (goodIn_ca (goodIn_ca (goodIn_r _ [594, 13, 506, 507, 508, 509, 510, 3, 511, 512, 300, 301, 41, 302, 75, 132, 133, 134, 135, 136, 137, 138, 139, 140, 440, 441, 442, 443, 438, 444, 191, 192, 33, 193, 53, 566, 567, 568, 569, 303, 304, 124, 120, 121, 517, 306, 307, 12, 308, 42, 309, 30, 595, 352, 353, 354, 34, 38, 194, 195, 196, 197, 61, 230, 231, 232, 233, 62, 251, 252, 253, 37, 254, 68, 69, 70, 71, 355, 356, 357, 358, 58, 596, 360, 361, 362, 315, 363, 316, 364, 365, 366, 367, 368, 896, 897, 898, 899, 900, 901, 902, 903, 904, 905, 906, 907, 908, 909, 910, 911, 912, 913, 941, 942, 943, 944, 945, 946, 947, 948, 925, 926, 927, 928, 929, 930, 931, 932, 933, 934, 935, 936, 937, 938, 939, 940] rfl (by decide +kernel)) (goodIn_sub (fun _ h => List.mem_cons_of_mem _ (List.mem_append_left _ (List.mem_append_left _ (List.mem_append_right _ h)))) (by decide +kernel))) (goodIn_sub (fun _ h => List.mem_cons_of_mem _ (List.mem_append_left _ (List.mem_append_right _ h))) (by decide +kernel))) (goodIn_sub (fun _ h => List.mem_cons_of_mem _ (List.mem_append_right _ h)) (by decide +kernel))
set_option maxRecDepth 20000 in
theorem gL_choirs_X6_whyNot : GoodIn wsL_choirs (wsV RL 131 RX6 yX6_whyNot wsX6_whyNot) := goodIn_app (goodIn_of _ (by decide +kernel)) ggL_choirs_X6_whyNot
set_option maxRecDepth 20000 in
theorem ggL_choirs_L_lines : GoodIn wsL_choirs wsL_lines := goodIn_ca (goodIn_ca (goodIn_ca (goodIn_r _ [876, 557, 558, 559, 3, 560, 26, 13, 561, 508, 509, 510, 511, 506, 512, 300, 301, 41, 302, 75, 132, 133, 134, 135, 136, 137, 138, 139, 140, 440, 441, 442, 443, 438, 444, 191, 192, 33, 193, 53, 522, 523, 524, 25, 525, 341, 526, 97, 343, 154, 155, 156, 527, 306, 307, 12, 308, 42, 309, 30, 528, 338, 339, 340, 342, 99, 344, 345, 98, 346, 347, 348, 349, 350, 351, 352, 353, 354, 34, 38, 194, 195, 196, 197, 61, 230, 231, 232, 233, 62, 251, 252, 253, 37, 254, 68, 69, 70, 71, 355, 356, 357, 358, 58, 359, 360, 361, 362, 315, 363, 316, 364, 365, 366, 367, 368, 369, 288, 289, 290, 370, 371, 372, 373, 100, 374, 375, 376, 377, 378, 379, 380, 381, 382, 383, 384, 385, 386, 387, 388, 389, 390, 391, 392, 393, 394, 395, 396, 397, 398, 399, 896, 897, 898, 899, 900, 901, 902, 903, 920, 921, 922, 923, 924, 904, 905, 906, 907, 908, 909, 910, 911, 912, 913, 941, 942, 943, 944, 945, 946, 947, 948, 925, 926, 927, 928, 929, 930, 931, 932, 933, 934, 935, 936, 937, 938, 939, 940] rfl (by decide +kernel)) (goodIn_sub (fun _ h => List.mem_cons_of_mem _ (List.mem_append_left _ (List.mem_append_left _ (List.mem_append_right _ h)))) (by decide +kernel))) (goodIn_sub (fun _ h => List.mem_cons_of_mem _ (List.mem_append_left _ (List.mem_append_right _ h))) (by decide +kernel))) (goodIn_sub (fun _ h => List.mem_cons_of_mem _ (List.mem_append_right _ h)) (by decide +kernel))
set_option maxRecDepth 20000 in
theorem gL_choirs_L_lines : GoodIn wsL_choirs (va_wsS RL 222 yL_lines wsL_lines) := goodIn_app (goodIn_of _ (by decide +kernel)) ggL_choirs_L_lines
set_option maxRecDepth 20000 in
theorem ggL_choirs_L_told : GoodIn wsL_choirs wsL_told := goodIn_ca (goodIn_ca (goodIn_ca (goodIn_r _ [879, 518, 519, 520, 3, 521, 26, 13, 506, 508, 509, 510, 511, 512, 300, 301, 41, 302, 75, 132, 133, 134, 135, 136, 137, 138, 139, 140, 522, 523, 524, 25, 525, 341, 526, 97, 343, 154, 155, 156, 527, 306, 307, 12, 308, 42, 309, 30, 528, 338, 339, 340, 342, 99, 344, 345, 98, 346, 347, 348, 349, 350, 351, 352, 353, 354, 34, 38, 194, 195, 196, 33, 197, 61, 230, 231, 232, 233, 62, 251, 252, 253, 37, 254, 68, 69, 70, 71, 355, 356, 357, 358, 58, 359, 360, 361, 362, 315, 363, 316, 364, 365, 366, 367, 368, 369, 288, 289, 290, 370, 371, 372, 373, 100, 374, 375, 376, 377, 378, 379, 380, 381, 382, 383, 384, 385, 386, 387, 388, 389, 390, 391, 392, 393, 394, 395, 396, 397, 398, 399, 529, 318, 319, 320, 80, 530, 424, 425, 426, 427, 428, 429, 430, 531, 532, 533, 534, 517, 535, 536, 537, 538, 539, 540, 541, 542, 543, 544, 545, 546, 547, 548, 549, 550, 551, 552, 553, 101, 554, 555, 334, 335, 336, 76, 556, 411, 412, 413, 414, 415, 416, 417, 57, 896, 897, 898, 899, 900, 901, 902, 903, 904, 905, 906, 907, 908, 909, 910, 911, 912, 913, 941, 942, 943, 944, 945, 946, 947, 948, 920, 921, 922, 923, 924, 925, 926, 927, 928, 929, 930, 931, 932, 933, 934, 935, 936, 937, 938, 939, 940] rfl (by decide +kernel)) (goodIn_sub (fun _ h => List.mem_cons_of_mem _ (List.mem_append_left _ (List.mem_append_left _ (List.mem_append_right _ h)))) (by decide +kernel))) (goodIn_sub (fun _ h => List.mem_cons_of_mem _ (List.mem_append_left _ (List.mem_append_right _ h))) (by decide +kernel))) (goodIn_sub (fun _ h => List.mem_cons_of_mem _ (List.mem_append_right _ h)) (by decide +kernel))
set_option maxRecDepth 20000 in
theorem gL_choirs_L_told : GoodIn wsL_choirs (va_wsS RL 225 yL_told wsL_told) := goodIn_app (goodIn_of _ (by decide +kernel)) ggL_choirs_L_told
set_option maxRecDepth 20000 in
theorem ggL_choirs_L_sits : GoodIn wsL_choirs wsL_sits := goodIn_ca (goodIn_ca (goodIn_ca (goodIn_r _ [882, 575, 576, 577, 3, 578, 26, 13, 438, 508, 509, 510, 511, 506, 512, 300, 301, 41, 302, 75, 132, 133, 134, 135, 136, 137, 138, 139, 140, 440, 441, 442, 443, 444, 191, 192, 33, 193, 53, 522, 523, 524, 25, 525, 341, 526, 97, 343, 154, 155, 156, 527, 306, 307, 12, 308, 42, 309, 30, 528, 338, 339, 340, 342, 99, 344, 345, 98, 346, 347, 348, 349, 350, 351, 352, 353, 354, 34, 38, 194, 195, 196, 197, 61, 230, 231, 232, 233, 62, 251, 252, 253, 37, 254, 68, 69, 70, 71, 355, 356, 357, 358, 58, 359, 360, 361, 362, 315, 363, 316, 364, 365, 366, 367, 368, 369, 288, 289, 290, 370, 371, 372, 373, 100, 374, 375, 376, 377, 378, 379, 380, 381, 382, 383, 384, 385, 386, 387, 388, 389, 390, 391, 392, 393, 394, 395, 396, 397, 398, 399, 579, 580, 581, 582, 583, 584, 585, 586, 54, 587, 588, 589, 590, 896, 897, 898, 899, 900, 901, 902, 903, 904, 905, 906, 907, 908, 909, 910, 911, 912, 913, 941, 942, 943, 944, 945, 946, 947, 948, 925, 926, 927, 928, 929, 930, 931, 932, 933, 934, 935, 936, 920, 921, 922, 923, 924, 937, 938, 939, 940] rfl (by decide +kernel)) (goodIn_sub (fun _ h => List.mem_cons_of_mem _ (List.mem_append_left _ (List.mem_append_left _ (List.mem_append_right _ h)))) (by decide +kernel))) (goodIn_sub (fun _ h => List.mem_cons_of_mem _ (List.mem_append_left _ (List.mem_append_right _ h))) (by decide +kernel))) (goodIn_sub (fun _ h => List.mem_cons_of_mem _ (List.mem_append_right _ h)) (by decide +kernel))
set_option maxRecDepth 20000 in
theorem gL_choirs_L_sits : GoodIn wsL_choirs (va_wsS RL 228 yL_sits wsL_sits) := goodIn_app (goodIn_of _ (by decide +kernel)) ggL_choirs_L_sits
set_option maxRecDepth 20000 in
theorem ggL_choirs_X6_excuse : GoodIn wsL_choirs wsX6_excuse := goodIn_ca (goodIn_ca (goodIn_ca (goodIn_r _ [242, 13, 243, 244, 245, 12, 246, 34, 30, 38, 190, 191, 192, 33, 193, 53, 120, 3, 121, 247, 248, 249, 37, 250, 68, 251, 252, 253, 254, 69, 70, 71, 194, 195, 196, 197, 61, 132, 133, 134, 135, 136, 137, 138, 139, 140, 141, 142, 143, 144, 18, 17, 145, 146, 147, 148, 149, 150, 151, 152, 42, 44, 153, 154, 155, 156, 45, 46, 47, 48, 49, 157, 158, 159, 160, 54, 161, 55, 56, 57, 58, 59, 60, 62, 63, 64, 162, 163, 164, 165, 166, 167, 168, 169, 41, 170, 75, 76, 171, 77, 78, 80, 81, 82, 83, 255, 256, 257, 258, 259, 260, 261, 262, 896, 897, 898, 899, 900, 901, 902, 903, 904, 905, 906, 907, 908, 909, 910, 911, 912, 913, 925, 926, 927, 928, 929, 930, 931, 932, 933, 934, 935, 936, 937, 938, 939, 940, 941, 942, 943, 944, 945, 946, 947, 948] rfl (by decide +kernel)) (goodIn_sub (fun _ h => List.mem_cons_of_mem _ (List.mem_append_left _ (List.mem_append_left _ (List.mem_append_right _ h)))) (by decide +kernel))) (goodIn_sub (fun _ h => List.mem_cons_of_mem _ (List.mem_append_left _ (List.mem_append_right _ h))) (by decide +kernel))) (goodIn_sub (fun _ h => List.mem_cons_of_mem _ (List.mem_append_right _ h)) (by decide +kernel))
set_option maxRecDepth 20000 in
theorem gL_choirs_X6_excuse : GoodIn wsL_choirs (wsV RL 50 RX6 yX6_excuse wsX6_excuse) := goodIn_app (goodIn_of _ (by decide +kernel)) ggL_choirs_X6_excuse
set_option maxRecDepth 20000 in
theorem ggL_choirs_X6_isExcused : GoodIn wsL_choirs wsX6_isExcused := goodIn_ca (goodIn_ca (goodIn_ca (goodIn_r _ [481, 13, 482, 440, 441, 442, 3, 443, 438, 444, 191, 192, 33, 193, 53, 132, 133, 134, 135, 136, 137, 138, 139, 140, 124, 120, 121, 483, 252, 253, 37, 254, 68, 69, 70, 71, 896, 897, 898, 899, 900, 901, 902, 903, 904, 905, 906, 907, 908, 909, 910, 911, 912, 913, 925, 926, 927, 928, 929, 930, 931, 932, 933, 934, 935, 936, 937, 938, 939, 940] rfl (by decide +kernel)) (goodIn_sub (fun _ h => List.mem_cons_of_mem _ (List.mem_append_left _ (List.mem_append_left _ (List.mem_append_right _ h)))) (by decide +kernel))) (goodIn_sub (fun _ h => List.mem_cons_of_mem _ (List.mem_append_left _ (List.mem_append_right _ h))) (by decide +kernel))) (goodIn_sub (fun _ h => List.mem_cons_of_mem _ (List.mem_append_right _ h)) (by decide +kernel))
set_option maxRecDepth 20000 in
theorem gL_choirs_X6_isExcused : GoodIn wsL_choirs (wsV RL 85 RX6 yX6_isExcused wsX6_isExcused) := goodIn_app (goodIn_of _ (by decide +kernel)) ggL_choirs_X6_isExcused
set_option maxRecDepth 20000 in
theorem ggL_choirs_X6_lend : GoodIn wsL_choirs wsX6_lend := goodIn_ca (goodIn_ca (goodIn_ca (goodIn_r _ [225, 13, 226, 227, 228, 12, 229, 34, 30, 220, 190, 191, 192, 33, 193, 53, 120, 3, 121, 194, 195, 196, 197, 61, 230, 231, 232, 233, 62, 132, 133, 134, 135, 136, 137, 138, 139, 140, 141, 142, 143, 144, 18, 17, 145, 146, 147, 148, 149, 150, 151, 152, 38, 42, 44, 153, 154, 155, 156, 45, 46, 47, 48, 49, 157, 158, 159, 160, 54, 161, 55, 56, 57, 58, 59, 60, 63, 64, 162, 163, 164, 37, 165, 68, 69, 166, 70, 71, 167, 168, 169, 41, 170, 75, 76, 171, 77, 78, 80, 81, 82, 83, 234, 235, 236, 237, 238, 896, 897, 898, 899, 900, 901, 902, 903, 904, 905, 906, 907, 908, 909, 910, 911, 912, 913, 925, 926, 927, 928, 929, 930, 931, 932, 933, 934, 935, 936, 937, 938, 939, 940, 941, 942, 943, 944, 945, 946, 947, 948] rfl (by decide +kernel)) (goodIn_sub (fun _ h => List.mem_cons_of_mem _ (List.mem_append_left _ (List.mem_append_left _ (List.mem_append_right _ h)))) (by decide +kernel))) (goodIn_sub (fun _ h => List.mem_cons_of_mem _ (List.mem_append_left _ (List.mem_append_right _ h))) (by decide +kernel))) (goodIn_sub (fun _ h => List.mem_cons_of_mem _ (List.mem_append_right _ h)) (by decide +kernel))
set_option maxRecDepth 20000 in
theorem gL_choirs_X6_lend : GoodIn wsL_choirs (wsV RL 46 RX6 yX6_lend wsX6_lend) := goodIn_app (goodIn_of _ (by decide +kernel)) ggL_choirs_X6_lend
set_option maxRecDepth 20000 in
theorem ggL_choirs_X6_awayUntil : GoodIn wsL_choirs wsX6_awayUntil := goodIn_ca (goodIn_ca (goodIn_ca (goodIn_r _ [475, 13, 438, 439, 476, 440, 441, 442, 3, 443, 444, 191, 192, 33, 193, 53, 132, 133, 134, 135, 136, 137, 138, 139, 140, 477, 231, 232, 233, 62, 896, 897, 898, 899, 900, 901, 902, 903, 904, 905, 906, 907, 908, 909, 910, 911, 912, 913, 925, 926, 927, 928, 929, 930, 931, 932, 933, 934, 935, 936] rfl (by decide +kernel)) (goodIn_sub (fun _ h => List.mem_cons_of_mem _ (List.mem_append_left _ (List.mem_append_left _ (List.mem_append_right _ h)))) (by decide +kernel))) (goodIn_sub (fun _ h => List.mem_cons_of_mem _ (List.mem_append_left _ (List.mem_append_right _ h))) (by decide +kernel))) (goodIn_sub (fun _ h => List.mem_cons_of_mem _ (List.mem_append_right _ h)) (by decide +kernel))
set_option maxRecDepth 20000 in
theorem gL_choirs_X6_awayUntil : GoodIn wsL_choirs (wsV RL 82 RX6 yX6_awayUntil wsX6_awayUntil) := goodIn_app (goodIn_of _ (by decide +kernel)) ggL_choirs_X6_awayUntil
set_option maxRecDepth 20000 in
theorem ggL_choirs_X6_takeSnapshot : GoodIn wsL_choirs wsX6_takeSnapshot := goodIn_r _ [886, 15, 13, 16, 439, 149, 150, 151, 12, 152, 30, 34, 38, 42, 44, 153, 154, 155, 156, 45, 46, 47, 48, 49, 157, 158, 159, 33, 160, 53, 54, 161, 55, 56, 57, 58, 59, 60, 61, 62, 63, 64, 162, 163, 164, 37, 165, 68, 69, 166, 70, 71, 167, 168, 169, 41, 170, 75, 76, 171, 77, 78, 80, 81, 82, 83, 896, 897, 898, 899, 900, 901, 902, 903, 904, 905, 906, 907, 908, 909, 910, 911, 912, 913, 925, 926, 927, 928, 929, 930, 931, 932, 933, 934, 935, 936, 937, 938, 939, 940, 941, 942, 943, 944, 945, 946, 947, 948] rfl (by decide +kernel)
set_option maxRecDepth 20000 in
theorem gL_choirs_X6_takeSnapshot : GoodIn wsL_choirs (wsV RL 231 RX6 yX6_takeSnapshot wsX6_takeSnapshot) := goodIn_app (goodIn_of _ (by decide +kernel)) ggL_choirs_X6_takeSnapshot
set_option maxRecDepth 20000 in
theorem ggL_choirs_X6_passDays : GoodIn wsL_choirs wsX6_passDays := goodIn_ca (goodIn_ca (goodIn_ca (goodIn_r _ [324, 13, 26, 325, 326, 327, 12, 328, 30, 120, 3, 121, 132, 133, 134, 135, 136, 137, 138, 139, 140, 141, 142, 143, 144, 18, 17, 145, 146, 147, 148, 149, 150, 151, 152, 34, 38, 42, 44, 153, 154, 155, 156, 45, 46, 47, 48, 49, 157, 158, 159, 33, 160, 53, 54, 161, 55, 56, 57, 58, 59, 60, 61, 62, 63, 64, 162, 163, 164, 37, 165, 68, 69, 166, 70, 71, 167, 168, 169, 41, 170, 75, 76, 171, 77, 78, 80, 81, 82, 83, 329, 330, 331, 332, 309, 333, 334, 335, 336, 337, 338, 339, 25, 340, 97, 341, 342, 99, 343, 344, 345, 98, 346, 347, 348, 349, 350, 351, 352, 353, 354, 194, 195, 196, 197, 230, 231, 232, 233, 251, 252, 253, 254, 355, 356, 357, 358, 359, 360, 361, 362, 315, 363, 316, 364, 365, 366, 367, 368, 369, 288, 289, 290, 370, 371, 372, 373, 100, 374, 375, 376, 377, 378, 379, 380, 381, 382, 383, 384, 385, 386, 387, 388, 389, 390, 391, 392, 393, 394, 395, 396, 397, 398, 399, 400, 401, 402, 403, 404, 405, 406, 407, 408, 409, 410, 411, 412, 413, 414, 415, 416, 417, 418, 419, 420, 421, 221, 422, 423, 424, 425, 426, 427, 428, 429, 430, 317, 318, 319, 320, 896, 897, 898, 899, 900, 901, 902, 903, 904, 905, 906, 907, 908, 909, 910, 911, 912, 913, 925, 926, 927, 928, 929, 930, 931, 932, 933, 934, 935, 936, 937, 938, 939, 940, 941, 942, 943, 944, 945, 946, 947, 948, 920, 921, 922, 923, 924] rfl (by decide +kernel)) (goodIn_sub (fun _ h => List.mem_cons_of_mem _ (List.mem_append_left _ (List.mem_append_left _ (List.mem_append_right _ h)))) (by decide +kernel))) (goodIn_sub (fun _ h => List.mem_cons_of_mem _ (List.mem_append_left _ (List.mem_append_right _ h))) (by decide +kernel))) (goodIn_sub (fun _ h => List.mem_cons_of_mem _ (List.mem_append_right _ h)) (by decide +kernel))
set_option maxRecDepth 20000 in
theorem gL_choirs_X6_passDays : GoodIn wsL_choirs (wsV RL 60 RX6 yX6_passDays wsX6_passDays) := goodIn_app (goodIn_of _ (by decide +kernel)) ggL_choirs_X6_passDays
set_option maxRecDepth 20000 in
theorem ggL_choirs_X6_isHeld : GoodIn wsL_choirs wsX6_isHeld := goodIn_ca (goodIn_ca (goodIn_ca (goodIn_r _ [516, 13, 508, 509, 510, 3, 511, 506, 512, 300, 301, 41, 302, 75, 132, 133, 134, 135, 136, 137, 138, 139, 140, 517, 306, 307, 12, 308, 42, 309, 30, 896, 897, 898, 899, 900, 901, 902, 903, 904, 905, 906, 907, 908, 909, 910, 911, 912, 913, 941, 942, 943, 944, 945, 946, 947, 948] rfl (by decide +kernel)) (goodIn_sub (fun _ h => List.mem_cons_of_mem _ (List.mem_append_left _ (List.mem_append_left _ (List.mem_append_right _ h)))) (by decide +kernel))) (goodIn_sub (fun _ h => List.mem_cons_of_mem _ (List.mem_append_left _ (List.mem_append_right _ h))) (by decide +kernel))) (goodIn_sub (fun _ h => List.mem_cons_of_mem _ (List.mem_append_right _ h)) (by decide +kernel))
set_option maxRecDepth 20000 in
theorem gL_choirs_X6_isHeld : GoodIn wsL_choirs (wsV RL 101 RX6 yX6_isHeld wsX6_isHeld) := goodIn_app (goodIn_of _ (by decide +kernel)) ggL_choirs_X6_isHeld
set_option maxRecDepth 20000 in
theorem ggL_choirs_X6_shortfall : GoodIn wsL_choirs wsX6_shortfall := goodIn_ca (goodIn_ca (goodIn_ca (goodIn_r _ [521, 26, 13, 506, 508, 509, 510, 3, 511, 512, 300, 301, 41, 302, 75, 132, 133, 134, 135, 136, 137, 138, 139, 140, 522, 523, 524, 25, 525, 341, 526, 97, 343, 154, 155, 156, 527, 306, 307, 12, 308, 42, 309, 30, 528, 338, 339, 340, 342, 99, 344, 345, 98, 346, 347, 348, 349, 350, 351, 352, 353, 354, 34, 38, 194, 195, 196, 33, 197, 61, 230, 231, 232, 233, 62, 251, 252, 253, 37, 254, 68, 69, 70, 71, 355, 356, 357, 358, 58, 359, 360, 361, 362, 315, 363, 316, 364, 365, 366, 367, 368, 369, 288, 289, 290, 370, 371, 372, 373, 100, 374, 375, 376, 377, 378, 379, 380, 381, 382, 383, 384, 385, 386, 387, 388, 389, 390, 391, 392, 393, 394, 395, 396, 397, 398, 399, 529, 318, 319, 320, 80, 530, 424, 425, 426, 427, 428, 429, 430, 896, 897, 898, 899, 900, 901, 902, 903, 904, 905, 906, 907, 908, 909, 910, 911, 912, 913, 941, 942, 943, 944, 945, 946, 947, 948, 920, 921, 922, 923, 924, 925, 926, 927, 928, 929, 930, 931, 932, 933, 934, 935, 936, 937, 938, 939, 940] rfl (by decide +kernel)) (goodIn_sub (fun _ h => List.mem_cons_of_mem _ (List.mem_append_left _ (List.mem_append_left _ (List.mem_append_right _ h)))) (by decide +kernel))) (goodIn_sub (fun _ h => List.mem_cons_of_mem _ (List.mem_append_left _ (List.mem_append_right _ h))) (by decide +kernel))) (goodIn_sub (fun _ h => List.mem_cons_of_mem _ (List.mem_append_right _ h)) (by decide +kernel))
set_option maxRecDepth 20000 in
theorem gL_choirs_X6_shortfall : GoodIn wsL_choirs (wsV RL 104 RX6 yX6_shortfall wsX6_shortfall) := goodIn_app (goodIn_of _ (by decide +kernel)) ggL_choirs_X6_shortfall
set_option maxRecDepth 20000 in
theorem ggL_choirs_X6_descantIn : GoodIn wsL_choirs wsX6_descantIn := goodIn_ca (goodIn_ca (goodIn_ca (goodIn_r _ [547, 13, 506, 548, 26, 508, 509, 510, 3, 511, 512, 300, 301, 41, 302, 75, 132, 133, 134, 135, 136, 137, 138, 139, 140, 517, 306, 307, 12, 308, 42, 309, 30, 549, 550, 551, 25, 552, 344, 553, 101, 343, 154, 155, 156, 341, 554, 350, 555, 334, 335, 336, 76, 528, 338, 339, 340, 97, 342, 99, 345, 98, 346, 347, 348, 349, 351, 352, 353, 354, 34, 38, 194, 195, 196, 33, 197, 61, 230, 231, 232, 233, 62, 251, 252, 253, 37, 254, 68, 69, 70, 71, 355, 356, 357, 358, 58, 359, 360, 361, 362, 315, 363, 316, 364, 365, 366, 367, 368, 369, 288, 289, 290, 370, 371, 372, 373, 100, 374, 375, 376, 377, 378, 379, 380, 381, 382, 383, 384, 385, 386, 387, 388, 389, 390, 391, 392, 393, 394, 395, 396, 397, 398, 399, 556, 411, 412, 413, 414, 415, 416, 417, 57, 896, 897, 898, 899, 900, 901, 902, 903, 904, 905, 906, 907, 908, 909, 910, 911, 912, 913, 941, 942, 943, 944, 945, 946, 947, 948, 925, 926, 927, 928, 929, 930, 931, 932, 933, 934, 935, 936, 920, 921, 922, 923, 924, 937, 938, 939, 940] rfl (by decide +kernel)) (goodIn_sub (fun _ h => List.mem_cons_of_mem _ (List.mem_append_left _ (List.mem_append_left _ (List.mem_append_right _ h)))) (by decide +kernel))) (goodIn_sub (fun _ h => List.mem_cons_of_mem _ (List.mem_append_left _ (List.mem_append_right _ h))) (by decide +kernel))) (goodIn_sub (fun _ h => List.mem_cons_of_mem _ (List.mem_append_right _ h)) (by decide +kernel))
set_option maxRecDepth 20000 in
theorem gL_choirs_X6_descantIn : GoodIn wsL_choirs (wsV RL 113 RX6 yX6_descantIn wsX6_descantIn) := goodIn_app (goodIn_of _ (by decide +kernel)) ggL_choirs_X6_descantIn
set_option maxRecDepth 20000 in
theorem ggL_choirs_X6_feastsOf : GoodIn wsL_choirs wsX6_feastsOf := goodIn_ca (goodIn_ca (goodIn_ca (goodIn_r _ [487, 13, 438, 488, 440, 441, 442, 3, 443, 444, 191, 192, 33, 193, 53, 132, 133, 134, 135, 136, 137, 138, 139, 140, 896, 897, 898, 899, 900, 901, 902, 903, 904, 905, 906, 907, 908, 909, 910, 911, 912, 913, 925, 926, 927, 928, 929, 930, 931, 932, 933, 934, 935, 936] rfl (by decide +kernel)) (goodIn_sub (fun _ h => List.mem_cons_of_mem _ (List.mem_append_left _ (List.mem_append_left _ (List.mem_append_right _ h)))) (by decide +kernel))) (goodIn_sub (fun _ h => List.mem_cons_of_mem _ (List.mem_append_left _ (List.mem_append_right _ h))) (by decide +kernel))) (goodIn_sub (fun _ h => List.mem_cons_of_mem _ (List.mem_append_right _ h)) (by decide +kernel))
set_option maxRecDepth 20000 in
theorem gL_choirs_X6_feastsOf : GoodIn wsL_choirs (wsV RL 89 RX6 yX6_feastsOf wsX6_feastsOf) := goodIn_app (goodIn_of _ (by decide +kernel)) ggL_choirs_X6_feastsOf
set_option maxRecDepth 20000 in
theorem ggL_choirs_X6_descantsOf : GoodIn wsL_choirs wsX6_descantsOf := goodIn_ca (goodIn_ca (goodIn_ca (goodIn_r _ [492, 13, 438, 493, 440, 441, 442, 3, 443, 444, 191, 192, 33, 193, 53, 132, 133, 134, 135, 136, 137, 138, 139, 140, 896, 897, 898, 899, 900, 901, 902, 903, 904, 905, 906, 907, 908, 909, 910, 911, 912, 913, 925, 926, 927, 928, 929, 930, 931, 932, 933, 934, 935, 936] rfl (by decide +kernel)) (goodIn_sub (fun _ h => List.mem_cons_of_mem _ (List.mem_append_left _ (List.mem_append_left _ (List.mem_append_right _ h)))) (by decide +kernel))) (goodIn_sub (fun _ h => List.mem_cons_of_mem _ (List.mem_append_left _ (List.mem_append_right _ h))) (by decide +kernel))) (goodIn_sub (fun _ h => List.mem_cons_of_mem _ (List.mem_append_right _ h)) (by decide +kernel))
set_option maxRecDepth 20000 in
theorem gL_choirs_X6_descantsOf : GoodIn wsL_choirs (wsV RL 92 RX6 yX6_descantsOf wsX6_descantsOf) := goodIn_app (goodIn_of _ (by decide +kernel)) ggL_choirs_X6_descantsOf
set_option maxRecDepth 20000 in
theorem ggL_choirs_X6_singersIn : GoodIn wsL_choirs wsX6_singersIn := goodIn_ca (goodIn_ca (goodIn_ca (goodIn_r _ [573, 26, 13, 508, 509, 510, 3, 511, 506, 512, 300, 301, 41, 302, 75, 132, 133, 134, 135, 136, 137, 138, 139, 140, 566, 567, 568, 569, 303, 304, 124, 120, 121, 522, 523, 524, 25, 525, 341, 526, 97, 343, 154, 155, 156, 527, 306, 307, 12, 308, 42, 309, 30, 528, 338, 339, 340, 342, 99, 344, 345, 98, 346, 347, 348, 349, 350, 351, 352, 353, 354, 34, 38, 194, 195, 196, 33, 197, 61, 230, 231, 232, 233, 62, 251, 252, 253, 37, 254, 68, 69, 70, 71, 355, 356, 357, 358, 58, 359, 360, 361, 362, 315, 363, 316, 364, 365, 366, 367, 368, 369, 288, 289, 290, 370, 371, 372, 373, 100, 374, 375, 376, 377, 378, 379, 380, 381, 382, 383, 384, 385, 386, 387, 388, 389, 390, 391, 392, 393, 394, 395, 396, 397, 398, 399, 574, 428, 429, 430, 896, 897, 898, 899, 900, 901, 902, 903, 904, 905, 906, 907, 908, 909, 910, 911, 912, 913, 941, 942, 943, 944, 945, 946, 947, 948, 920, 921, 922, 923, 924, 925, 926, 927, 928, 929, 930, 931, 932, 933, 934, 935, 936, 937, 938, 939, 940] rfl (by decide +kernel)) (goodIn_sub (fun _ h => List.mem_cons_of_mem _ (List.mem_append_left _ (List.mem_append_left _ (List.mem_append_right _ h)))) (by decide +kernel))) (goodIn_sub (fun _ h => List.mem_cons_of_mem _ (List.mem_append_left _ (List.mem_append_right _ h))) (by decide +kernel))) (goodIn_sub (fun _ h => List.mem_cons_of_mem _ (List.mem_append_right _ h)) (by decide +kernel))
set_option maxRecDepth 20000 in
theorem gL_choirs_X6_singersIn : GoodIn wsL_choirs (wsV RL 122 RX6 yX6_singersIn wsX6_singersIn) := goodIn_app (goodIn_of _ (by decide +kernel)) ggL_choirs_X6_singersIn
set_option maxRecDepth 20000 in
theorem ggL_choirs_X6_isInChoir : GoodIn wsL_choirs wsX6_isInChoir := goodIn_ca (goodIn_ca (goodIn_ca (goodIn_r _ [437, 13, 438, 439, 440, 441, 442, 3, 443, 444, 191, 192, 33, 193, 53, 132, 133, 134, 135, 136, 137, 138, 139, 140, 445, 195, 196, 197, 61, 896, 897, 898, 899, 900, 901, 902, 903, 904, 905, 906, 907, 908, 909, 910, 911, 912, 913, 925, 926, 927, 928, 929, 930, 931, 932, 933, 934, 935, 936] rfl (by decide +kernel)) (goodIn_sub (fun _ h => List.mem_cons_of_mem _ (List.mem_append_left _ (List.mem_append_left _ (List.mem_append_right _ h)))) (by decide +kernel))) (goodIn_sub (fun _ h => List.mem_cons_of_mem _ (List.mem_append_left _ (List.mem_append_right _ h))) (by decide +kernel))) (goodIn_sub (fun _ h => List.mem_cons_of_mem _ (List.mem_append_right _ h)) (by decide +kernel))
set_option maxRecDepth 20000 in
theorem gL_choirs_X6_isInChoir : GoodIn wsL_choirs (wsV RL 63 RX6 yX6_isInChoir wsX6_isInChoir) := goodIn_app (goodIn_of _ (by decide +kernel)) ggL_choirs_X6_isInChoir
set_option maxRecDepth 20000 in
theorem ggL_choirs_X6_lineOf : GoodIn wsL_choirs wsX6_lineOf := goodIn_ca (goodIn_ca (goodIn_ca (goodIn_r _ [560, 26, 13, 561, 508, 509, 510, 3, 511, 506, 512, 300, 301, 41, 302, 75, 132, 133, 134, 135, 136, 137, 138, 139, 140, 440, 441, 442, 443, 438, 444, 191, 192, 33, 193, 53, 522, 523, 524, 25, 525, 341, 526, 97, 343, 154, 155, 156, 527, 306, 307, 12, 308, 42, 309, 30, 528, 338, 339, 340, 342, 99, 344, 345, 98, 346, 347, 348, 349, 350, 351, 352, 353, 354, 34, 38, 194, 195, 196, 197, 61, 230, 231, 232, 233, 62, 251, 252, 253, 37, 254, 68, 69, 70, 71, 355, 356, 357, 358, 58, 359, 360, 361, 362, 315, 363, 316, 364, 365, 366, 367, 368, 369, 288, 289, 290, 370, 371, 372, 373, 100, 374, 375, 376, 377, 378, 379, 380, 381, 382, 383, 384, 385, 386, 387, 388, 389, 390, 391, 392, 393, 394, 395, 396, 397, 398, 399, 896, 897, 898, 899, 900, 901, 902, 903, 920, 921, 922, 923, 924, 904, 905, 906, 907, 908, 909, 910, 911, 912, 913, 941, 942, 943, 944, 945, 946, 947, 948, 925, 926, 927, 928, 929, 930, 931, 932, 933, 934, 935, 936, 937, 938, 939, 940] rfl (by decide +kernel)) (goodIn_sub (fun _ h => List.mem_cons_of_mem _ (List.mem_append_left _ (List.mem_append_left _ (List.mem_append_right _ h)))) (by decide +kernel))) (goodIn_sub (fun _ h => List.mem_cons_of_mem _ (List.mem_append_left _ (List.mem_append_right _ h))) (by decide +kernel))) (goodIn_sub (fun _ h => List.mem_cons_of_mem _ (List.mem_append_right _ h)) (by decide +kernel))
set_option maxRecDepth 20000 in
theorem gL_choirs_X6_lineOf : GoodIn wsL_choirs (wsV RL 116 RX6 yX6_lineOf wsX6_lineOf) := goodIn_app (goodIn_of _ (by decide +kernel)) ggL_choirs_X6_lineOf
set_option maxRecDepth 20000 in
theorem ggL_choirs_L_voices : GoodIn wsL_choirs wsL_voices := goodIn_ca (goodIn_ca (goodIn_ca (goodIn_r _ [889, 446, 447, 448, 3, 449, 13, 439, 438, 450, 440, 441, 442, 443, 444, 191, 192, 33, 193, 53, 132, 133, 134, 135, 136, 137, 138, 139, 140, 832, 833, 834, 835, 836, 837, 838, 839, 58, 207, 195, 196, 197, 61, 451, 452, 453, 454, 455, 456, 366, 367, 368, 263, 264, 265, 266, 267, 268, 269, 12, 270, 30, 42, 120, 121, 271, 272, 273, 41, 274, 75, 275, 276, 277, 278, 76, 141, 142, 143, 144, 18, 17, 145, 146, 147, 148, 149, 150, 151, 152, 34, 38, 44, 153, 154, 155, 156, 45, 46, 47, 48, 49, 157, 158, 159, 160, 54, 161, 55, 56, 57, 59, 60, 62, 63, 64, 162, 163, 164, 37, 165, 68, 69, 166, 70, 71, 167, 168, 169, 170, 171, 77, 78, 80, 81, 82, 83, 279, 280, 281, 282, 283, 284, 285, 286, 287, 288, 289, 290, 291, 292, 293, 294, 295, 296, 297, 298, 299, 300, 301, 302, 303, 304, 124, 126, 127, 305, 306, 307, 308, 309, 310, 311, 312, 313, 314, 315, 316, 317, 318, 319, 320, 591, 592, 593, 594, 506, 507, 508, 509, 510, 511, 512, 566, 567, 568, 569, 517, 595, 352, 353, 354, 194, 230, 231, 232, 233, 251, 252, 253, 254, 355, 356, 357, 358, 596, 360, 361, 362, 363, 364, 365, 874, 875, 104, 876, 557, 558, 559, 560, 26, 561, 522, 523, 524, 25, 525, 341, 526, 97, 343, 527, 528, 338, 339, 340, 342, 99, 344, 345, 98, 346, 347, 348, 349, 350, 351, 359, 369, 370, 371, 372, 373, 100, 374, 375, 376, 377, 378, 379, 380, 381, 382, 383, 384, 385, 386, 387, 388, 389, 390, 391, 392, 393, 394, 395, 396, 397, 398, 399, 877, 878, 879, 518, 519, 520, 521, 529, 530, 424, 425, 426, 427, 428, 429, 430, 531, 532, 533, 534, 535, 536, 537, 538, 539, 540, 541, 542, 543, 544, 545, 546, 547, 548, 549, 550, 551, 552, 553, 101, 554, 555, 334, 335, 336, 556, 411, 412, 413, 414, 415, 416, 417, 840, 841, 842, 843, 844, 321, 322, 323, 324, 325, 326, 327, 328, 329, 330, 331, 332, 333, 337, 400, 401, 402, 403, 404, 405, 406, 407, 408, 409, 410, 418, 419, 420, 421, 221, 422, 423, 457, 458, 459, 460, 461, 462, 463, 464, 465, 466, 484, 485, 486, 487, 488, 489, 490, 491, 492, 493, 804, 805, 806, 807, 808, 809, 810, 811, 812, 813, 814, 815, 816, 817, 818, 819, 820, 821, 822, 823, 824, 825, 826, 827, 828, 829, 830, 831, 845, 846, 847, 848, 849, 850, 851, 852, 790, 791, 792, 793, 794, 795, 796, 797, 798, 799, 800, 801, 802, 803, 434, 435, 436, 437, 445, 467, 468, 469, 470, 471, 472, 473, 474, 475, 476, 477, 502, 503, 504, 505, 562, 563, 564, 565, 570, 571, 572, 573, 574, 494, 495, 496, 497, 498, 853, 854, 855, 856, 857, 858, 859, 860, 861, 862, 863, 864, 865, 866, 867, 107, 108, 112, 113, 114, 115, 116, 117, 118, 119, 122, 123, 125, 128, 129, 130, 131, 172, 173, 174, 175, 176, 177, 178, 179, 180, 181, 868, 869, 870, 106, 208, 209, 210, 211, 212, 213, 214, 215, 216, 217, 218, 219, 220, 202, 102, 103, 105, 109, 110, 111, 182, 183, 184, 185, 186, 187, 188, 189, 190, 198, 199, 200, 201, 203, 204, 205, 206, 222, 223, 224, 225, 226, 227, 228, 229, 234, 235, 236, 237, 238, 239, 240, 241, 242, 243, 244, 245, 246, 247, 248, 249, 250, 255, 256, 257, 258, 259, 260, 261, 262, 431, 432, 433, 478, 479, 480, 481, 482, 483, 499, 500, 501, 513, 514, 515, 516, 575, 576, 577, 578, 579, 580, 581, 582, 583, 584, 585, 586, 587, 588, 589, 590, 597, 598, 599, 600, 601, 602, 603, 22, 604, 605, 606, 21, 607, 89, 608, 609, 610, 611, 88, 612, 613, 614, 615, 616, 617, 618, 619, 90, 620, 621, 622, 623, 624, 625, 626, 627, 91, 93, 92, 628, 629, 630, 631, 632, 633, 634, 635, 636, 637, 638, 639, 640, 641, 642, 643, 644, 645, 646, 647, 648, 649, 650, 651, 652, 653, 654, 655, 656, 657, 658, 659, 660, 661, 662, 663, 664, 665, 666, 667, 668, 669, 670, 671, 672, 673, 674, 675, 676, 677, 678, 679, 680, 681, 682, 683, 684, 685, 686, 687, 688, 689, 690, 691, 692, 693, 694, 695, 696, 697, 698, 699, 700, 701, 702, 703, 704, 705, 706, 707, 708, 709, 710, 711, 712, 713, 714, 715, 716, 717, 718, 719, 720, 721, 722, 723, 724, 725, 726, 727, 728, 729, 730, 731, 732, 733, 734, 735, 736, 737, 738, 739, 740, 741, 742, 743, 744, 745, 746, 747, 748, 749, 750, 751, 752, 753, 754, 755, 756, 757, 758, 759, 14, 760, 761, 762, 763, 764, 765, 766, 767, 768, 769, 770, 771, 772, 773, 774, 775, 776, 777, 778, 779, 780, 781, 782, 783, 784, 785, 786, 787, 788, 789, 16, 15, 871, 872, 873, 890, 891, 892, 1, 2, 4, 5, 6, 7, 8, 9, 10, 11, 19, 20, 23, 24, 27, 28, 29, 31, 32, 35, 36, 39, 40, 43, 50, 51, 52, 65, 66, 67, 72, 73, 74, 79, 84, 85, 86, 87, 94, 95, 96, 880, 881, 882, 893, 894, 895, 896, 897, 898, 899, 900, 901, 902, 903, 904, 905, 906, 907, 908, 909, 910, 911, 912, 913, 925, 926, 927, 928, 929, 930, 931, 932, 933, 934, 935, 936, 941, 942, 943, 944, 945, 946, 947, 948, 937, 938, 939, 940, 920, 921, 922, 923, 924, 914, 915, 916, 917, 918, 919] rfl (by decide +kernel)) (goodIn_sub (fun _ h => List.mem_cons_of_mem _ (List.mem_append_left _ (List.mem_append_left _ (List.mem_append_right _ h)))) (by decide +kernel))) (goodIn_sub (fun _ h => List.mem_cons_of_mem _ (List.mem_append_left _ (List.mem_append_right _ h))) (by decide +kernel))) (goodIn_sub (fun _ h => List.mem_cons_of_mem _ (List.mem_append_right _ h)) (by decide +kernel))
set_option maxRecDepth 20000 in
theorem gL_choirs_L_voices : GoodIn wsL_choirs (va_wsS RL 234 yL_voices wsL_voices) := goodIn_app (goodIn_of _ (by decide +kernel)) ggL_choirs_L_voices
theorem dL_choirs_0 : decode cL_choirs 0 = .ok (.new 33, 3) := by decide +kernel
theorem dL_choirs_3 : decode cL_choirs 3 = .ok (.dup, 1) := by decide +kernel
theorem dL_choirs_4 : decode cL_choirs 4 = .ok (.invokespecial 207, 3) := by decide +kernel
theorem dL_choirs_7 : decode cL_choirs 7 = .ok (.astore_n 0, 1) := by decide +kernel
theorem dL_choirs_8 : decode cL_choirs 8 = .ok (.aload_n 0, 1) := by decide +kernel
theorem dL_choirs_9 : decode cL_choirs 9 = .ok (.bipush 33, 2) := by decide +kernel
theorem dL_choirs_11 : decode cL_choirs 11 = .ok (.iconst 0, 1) := by decide +kernel
theorem dL_choirs_12 : decode cL_choirs 12 = .ok (.iconst 0, 1) := by decide +kernel
theorem dL_choirs_13 : decode cL_choirs 13 = .ok (.iconst 0, 1) := by decide +kernel
theorem dL_choirs_14 : decode cL_choirs 14 = .ok (.invokestatic 187, 3) := by decide +kernel
theorem dL_choirs_17 : decode cL_choirs 17 = .ok (.sipush (-2013), 3) := by decide +kernel
theorem dL_choirs_20 : decode cL_choirs 20 = .ok (.if_icmp .ne 256, 3) := by decide +kernel
theorem dL_choirs_23 : decode cL_choirs 23 = .ok (.aload_n 0, 1) := by decide +kernel
theorem dL_choirs_24 : decode cL_choirs 24 = .ok (.bipush 34, 2) := by decide +kernel
theorem dL_choirs_26 : decode cL_choirs 26 = .ok (.iconst 0, 1) := by decide +kernel
theorem dL_choirs_27 : decode cL_choirs 27 = .ok (.iconst 0, 1) := by decide +kernel
theorem dL_choirs_28 : decode cL_choirs 28 = .ok (.iconst 0, 1) := by decide +kernel
theorem dL_choirs_29 : decode cL_choirs 29 = .ok (.invokestatic 187, 3) := by decide +kernel
theorem dL_choirs_32 : decode cL_choirs 32 = .ok (.sipush (-2013), 3) := by decide +kernel
theorem dL_choirs_35 : decode cL_choirs 35 = .ok (.if_icmp .ne 241, 3) := by decide +kernel
theorem dL_choirs_38 : decode cL_choirs 38 = .ok (.aload_n 0, 1) := by decide +kernel
theorem dL_choirs_39 : decode cL_choirs 39 = .ok (.invokevirtual 155, 3) := by decide +kernel
theorem dL_choirs_42 : decode cL_choirs 42 = .ok (.ifCond .ne 234, 3) := by decide +kernel
theorem dL_choirs_45 : decode cL_choirs 45 = .ok (.aload_n 0, 1) := by decide +kernel
theorem dL_choirs_46 : decode cL_choirs 46 = .ok (.invokevirtual 158, 3) := by decide +kernel
theorem dL_choirs_49 : decode cL_choirs 49 = .ok (.ifCond .ne 227, 3) := by decide +kernel
theorem dL_choirs_52 : decode cL_choirs 52 = .ok (.aload_n 0, 1) := by decide +kernel
theorem dL_choirs_53 : decode cL_choirs 53 = .ok (.invokevirtual 161, 3) := by decide +kernel
theorem dL_choirs_56 : decode cL_choirs 56 = .ok (.ifCond .ne 220, 3) := by decide +kernel
theorem dL_choirs_59 : decode cL_choirs 59 = .ok (.aload_n 0, 1) := by decide +kernel
theorem dL_choirs_60 : decode cL_choirs 60 = .ok (.bipush 50, 2) := by decide +kernel
theorem dL_choirs_62 : decode cL_choirs 62 = .ok (.iconst 0, 1) := by decide +kernel
theorem dL_choirs_63 : decode cL_choirs 63 = .ok (.iconst 0, 1) := by decide +kernel
theorem dL_choirs_64 : decode cL_choirs 64 = .ok (.iconst 0, 1) := by decide +kernel
theorem dL_choirs_65 : decode cL_choirs 65 = .ok (.invokestatic 208, 3) := by decide +kernel
theorem dL_choirs_68 : decode cL_choirs 68 = .ok (.ifCond .eq 208, 3) := by decide +kernel
theorem dL_choirs_71 : decode cL_choirs 71 = .ok (.aload_n 0, 1) := by decide +kernel
theorem dL_choirs_72 : decode cL_choirs 72 = .ok (.invokevirtual 212, 3) := by decide +kernel
theorem dL_choirs_75 : decode cL_choirs 75 = .ok (.iconst (-1), 1) := by decide +kernel
theorem dL_choirs_76 : decode cL_choirs 76 = .ok (.if_icmp .ne 200, 3) := by decide +kernel
theorem dL_choirs_79 : decode cL_choirs 79 = .ok (.aload_n 0, 1) := by decide +kernel
theorem dL_choirs_80 : decode cL_choirs 80 = .ok (.invokevirtual 215, 3) := by decide +kernel
theorem dL_choirs_83 : decode cL_choirs 83 = .ok (.iconst (-1), 1) := by decide +kernel
theorem dL_choirs_84 : decode cL_choirs 84 = .ok (.if_icmp .ne 192, 3) := by decide +kernel
theorem dL_choirs_87 : decode cL_choirs 87 = .ok (.aload_n 0, 1) := by decide +kernel
theorem dL_choirs_88 : decode cL_choirs 88 = .ok (.invokestatic 218, 3) := by decide +kernel
theorem dL_choirs_91 : decode cL_choirs 91 = .ok (.ifCond .eq 185, 3) := by decide +kernel
theorem dL_choirs_94 : decode cL_choirs 94 = .ok (.aload_n 0, 1) := by decide +kernel
theorem dL_choirs_95 : decode cL_choirs 95 = .ok (.bipush 10, 2) := by decide +kernel
theorem dL_choirs_97 : decode cL_choirs 97 = .ok (.sipush 150, 3) := by decide +kernel
theorem dL_choirs_100 : decode cL_choirs 100 = .ok (.bipush 10, 2) := by decide +kernel
theorem dL_choirs_102 : decode cL_choirs 102 = .ok (.bipush 30, 2) := by decide +kernel
theorem dL_choirs_104 : decode cL_choirs 104 = .ok (.bipush 13, 2) := by decide +kernel
theorem dL_choirs_106 : decode cL_choirs 106 = .ok (.invokevirtual 32, 3) := by decide +kernel
theorem dL_choirs_109 : decode cL_choirs 109 = .ok (.ifCond .ne 167, 3) := by decide +kernel
theorem dL_choirs_112 : decode cL_choirs 112 = .ok (.aload_n 0, 1) := by decide +kernel
theorem dL_choirs_113 : decode cL_choirs 113 = .ok (.iconst 0, 1) := by decide +kernel
theorem dL_choirs_114 : decode cL_choirs 114 = .ok (.invokevirtual 76, 3) := by decide +kernel
theorem dL_choirs_117 : decode cL_choirs 117 = .ok (.sipush 1080, 3) := by decide +kernel
theorem dL_choirs_120 : decode cL_choirs 120 = .ok (.if_icmp .ne 156, 3) := by decide +kernel
theorem dL_choirs_123 : decode cL_choirs 123 = .ok (.aload_n 0, 1) := by decide +kernel
theorem dL_choirs_124 : decode cL_choirs 124 = .ok (.bipush 20, 2) := by decide +kernel
theorem dL_choirs_126 : decode cL_choirs 126 = .ok (.sipush 160, 3) := by decide +kernel
theorem dL_choirs_129 : decode cL_choirs 129 = .ok (.iconst 5, 1) := by decide +kernel
theorem dL_choirs_130 : decode cL_choirs 130 = .ok (.bipush 25, 2) := by decide +kernel
theorem dL_choirs_132 : decode cL_choirs 132 = .ok (.iconst 0, 1) := by decide +kernel
theorem dL_choirs_133 : decode cL_choirs 133 = .ok (.invokevirtual 32, 3) := by decide +kernel
theorem dL_choirs_136 : decode cL_choirs 136 = .ok (.iconst 1, 1) := by decide +kernel
theorem dL_choirs_137 : decode cL_choirs 137 = .ok (.if_icmp .ne 139, 3) := by decide +kernel
theorem dL_choirs_140 : decode cL_choirs 140 = .ok (.aload_n 0, 1) := by decide +kernel
theorem dL_choirs_141 : decode cL_choirs 141 = .ok (.iconst 1, 1) := by decide +kernel
theorem dL_choirs_142 : decode cL_choirs 142 = .ok (.invokevirtual 76, 3) := by decide +kernel
theorem dL_choirs_145 : decode cL_choirs 145 = .ok (.iconst (-1), 1) := by decide +kernel
theorem dL_choirs_146 : decode cL_choirs 146 = .ok (.if_icmp .ne 130, 3) := by decide +kernel
theorem dL_choirs_149 : decode cL_choirs 149 = .ok (.aload_n 0, 1) := by decide +kernel
theorem dL_choirs_150 : decode cL_choirs 150 = .ok (.iconst 2, 1) := by decide +kernel
theorem dL_choirs_151 : decode cL_choirs 151 = .ok (.iconst 4, 1) := by decide +kernel
theorem dL_choirs_152 : decode cL_choirs 152 = .ok (.sipush 170, 3) := by decide +kernel
theorem dL_choirs_155 : decode cL_choirs 155 = .ok (.iconst 0, 1) := by decide +kernel
theorem dL_choirs_156 : decode cL_choirs 156 = .ok (.bipush 40, 2) := by decide +kernel
theorem dL_choirs_158 : decode cL_choirs 158 = .ok (.bipush 30, 2) := by decide +kernel
theorem dL_choirs_160 : decode cL_choirs 160 = .ok (.invokevirtual 42, 3) := by decide +kernel
theorem dL_choirs_163 : decode cL_choirs 163 = .ok (.iconst 2, 1) := by decide +kernel
theorem dL_choirs_164 : decode cL_choirs 164 = .ok (.if_icmp .ne 112, 3) := by decide +kernel
theorem dL_choirs_167 : decode cL_choirs 167 = .ok (.aload_n 0, 1) := by decide +kernel
theorem dL_choirs_168 : decode cL_choirs 168 = .ok (.iconst 2, 1) := by decide +kernel
theorem dL_choirs_169 : decode cL_choirs 169 = .ok (.invokevirtual 95, 3) := by decide +kernel
theorem dL_choirs_172 : decode cL_choirs 172 = .ok (.iconst (-1), 1) := by decide +kernel
theorem dL_choirs_173 : decode cL_choirs 173 = .ok (.if_icmp .ne 103, 3) := by decide +kernel
theorem dL_choirs_176 : decode cL_choirs 176 = .ok (.aload_n 0, 1) := by decide +kernel
theorem dL_choirs_177 : decode cL_choirs 177 = .ok (.iconst 2, 1) := by decide +kernel
theorem dL_choirs_178 : decode cL_choirs 178 = .ok (.invokevirtual 79, 3) := by decide +kernel
theorem dL_choirs_181 : decode cL_choirs 181 = .ok (.iconst 2, 1) := by decide +kernel
theorem dL_choirs_182 : decode cL_choirs 182 = .ok (.if_icmp .ne 94, 3) := by decide +kernel
theorem dL_choirs_185 : decode cL_choirs 185 = .ok (.aload_n 0, 1) := by decide +kernel
theorem dL_choirs_186 : decode cL_choirs 186 = .ok (.iconst 0, 1) := by decide +kernel
theorem dL_choirs_187 : decode cL_choirs 187 = .ok (.invokevirtual 79, 3) := by decide +kernel
theorem dL_choirs_190 : decode cL_choirs 190 = .ok (.iconst (-1), 1) := by decide +kernel
theorem dL_choirs_191 : decode cL_choirs 191 = .ok (.if_icmp .ne 85, 3) := by decide +kernel
theorem dL_choirs_194 : decode cL_choirs 194 = .ok (.aload_n 0, 1) := by decide +kernel
theorem dL_choirs_195 : decode cL_choirs 195 = .ok (.iconst 2, 1) := by decide +kernel
theorem dL_choirs_196 : decode cL_choirs 196 = .ok (.invokevirtual 67, 3) := by decide +kernel
theorem dL_choirs_199 : decode cL_choirs 199 = .ok (.bipush 30, 2) := by decide +kernel
theorem dL_choirs_201 : decode cL_choirs 201 = .ok (.if_icmp .ne 75, 3) := by decide +kernel
theorem dL_choirs_204 : decode cL_choirs 204 = .ok (.aload_n 0, 1) := by decide +kernel
theorem dL_choirs_205 : decode cL_choirs 205 = .ok (.invokevirtual 212, 3) := by decide +kernel
theorem dL_choirs_208 : decode cL_choirs 208 = .ok (.ifCond .ne 68, 3) := by decide +kernel
theorem dL_choirs_211 : decode cL_choirs 211 = .ok (.aload_n 0, 1) := by decide +kernel
theorem dL_choirs_212 : decode cL_choirs 212 = .ok (.bipush 10, 2) := by decide +kernel
theorem dL_choirs_214 : decode cL_choirs 214 = .ok (.iconst 2, 1) := by decide +kernel
theorem dL_choirs_215 : decode cL_choirs 215 = .ok (.invokevirtual 53, 3) := by decide +kernel
theorem dL_choirs_218 : decode cL_choirs 218 = .ok (.ifCond .ne 58, 3) := by decide +kernel
theorem dL_choirs_221 : decode cL_choirs 221 = .ok (.aload_n 0, 1) := by decide +kernel
theorem dL_choirs_222 : decode cL_choirs 222 = .ok (.iconst 5, 1) := by decide +kernel
theorem dL_choirs_223 : decode cL_choirs 223 = .ok (.bipush 10, 2) := by decide +kernel
theorem dL_choirs_225 : decode cL_choirs 225 = .ok (.iconst 1, 1) := by decide +kernel
theorem dL_choirs_226 : decode cL_choirs 226 = .ok (.iconst 0, 1) := by decide +kernel
theorem dL_choirs_227 : decode cL_choirs 227 = .ok (.invokestatic 187, 3) := by decide +kernel
theorem dL_choirs_230 : decode cL_choirs 230 = .ok (.sipush (-2013), 3) := by decide +kernel
theorem dL_choirs_233 : decode cL_choirs 233 = .ok (.if_icmp .ne 43, 3) := by decide +kernel
theorem dL_choirs_236 : decode cL_choirs 236 = .ok (.aload_n 0, 1) := by decide +kernel
theorem dL_choirs_237 : decode cL_choirs 237 = .ok (.bipush 20, 2) := by decide +kernel
theorem dL_choirs_239 : decode cL_choirs 239 = .ok (.iconst 3, 1) := by decide +kernel
theorem dL_choirs_240 : decode cL_choirs 240 = .ok (.invokevirtual 53, 3) := by decide +kernel
theorem dL_choirs_243 : decode cL_choirs 243 = .ok (.iconst 1, 1) := by decide +kernel
theorem dL_choirs_244 : decode cL_choirs 244 = .ok (.if_icmp .ne 32, 3) := by decide +kernel
theorem dL_choirs_247 : decode cL_choirs 247 = .ok (.aload_n 0, 1) := by decide +kernel
theorem dL_choirs_248 : decode cL_choirs 248 = .ok (.iconst 0, 1) := by decide +kernel
theorem dL_choirs_249 : decode cL_choirs 249 = .ok (.iconst 0, 1) := by decide +kernel
theorem dL_choirs_250 : decode cL_choirs 250 = .ok (.iconst 2, 1) := by decide +kernel
theorem dL_choirs_251 : decode cL_choirs 251 = .ok (.bipush 12, 2) := by decide +kernel
theorem dL_choirs_253 : decode cL_choirs 253 = .ok (.bipush 20, 2) := by decide +kernel
theorem dL_choirs_255 : decode cL_choirs 255 = .ok (.invokevirtual 57, 3) := by decide +kernel
theorem dL_choirs_258 : decode cL_choirs 258 = .ok (.iconst 2, 1) := by decide +kernel
theorem dL_choirs_259 : decode cL_choirs 259 = .ok (.if_icmp .ne 17, 3) := by decide +kernel
theorem dL_choirs_262 : decode cL_choirs 262 = .ok (.aload_n 0, 1) := by decide +kernel
theorem dL_choirs_263 : decode cL_choirs 263 = .ok (.iconst 0, 1) := by decide +kernel
theorem dL_choirs_264 : decode cL_choirs 264 = .ok (.iconst 1, 1) := by decide +kernel
theorem dL_choirs_265 : decode cL_choirs 265 = .ok (.iconst 1, 1) := by decide +kernel
theorem dL_choirs_266 : decode cL_choirs 266 = .ok (.iconst 0, 1) := by decide +kernel
theorem dL_choirs_267 : decode cL_choirs 267 = .ok (.bipush 10, 2) := by decide +kernel
theorem dL_choirs_269 : decode cL_choirs 269 = .ok (.invokevirtual 57, 3) := by decide +kernel
theorem dL_choirs_272 : decode cL_choirs 272 = .ok (.iconst 3, 1) := by decide +kernel
theorem dL_choirs_273 : decode cL_choirs 273 = .ok (.if_icmp .eq 5, 3) := by decide +kernel
theorem dL_choirs_276 : decode cL_choirs 276 = .ok (.iconst 0, 1) := by decide +kernel
theorem dL_choirs_277 : decode cL_choirs 277 = .ok (.ireturn, 1) := by decide +kernel
theorem dL_choirs_278 : decode cL_choirs 278 = .ok (.aload_n 0, 1) := by decide +kernel
theorem dL_choirs_279 : decode cL_choirs 279 = .ok (.iconst 0, 1) := by decide +kernel
theorem dL_choirs_280 : decode cL_choirs 280 = .ok (.iconst 0, 1) := by decide +kernel
theorem dL_choirs_281 : decode cL_choirs 281 = .ok (.iconst 0, 1) := by decide +kernel
theorem dL_choirs_282 : decode cL_choirs 282 = .ok (.invokevirtual 131, 3) := by decide +kernel
theorem dL_choirs_285 : decode cL_choirs 285 = .ok (.ifCond .ne 279, 3) := by decide +kernel
theorem dL_choirs_288 : decode cL_choirs 288 = .ok (.aload_n 0, 1) := by decide +kernel
theorem dL_choirs_289 : decode cL_choirs 289 = .ok (.iconst 0, 1) := by decide +kernel
theorem dL_choirs_290 : decode cL_choirs 290 = .ok (.iconst 0, 1) := by decide +kernel
theorem dL_choirs_291 : decode cL_choirs 291 = .ok (.iconst 1, 1) := by decide +kernel
theorem dL_choirs_292 : decode cL_choirs 292 = .ok (.invokevirtual 131, 3) := by decide +kernel
theorem dL_choirs_295 : decode cL_choirs 295 = .ok (.iconst 5, 1) := by decide +kernel
theorem dL_choirs_296 : decode cL_choirs 296 = .ok (.if_icmp .ne 268, 3) := by decide +kernel
theorem dL_choirs_299 : decode cL_choirs 299 = .ok (.aload_n 0, 1) := by decide +kernel
theorem dL_choirs_300 : decode cL_choirs 300 = .ok (.iconst 0, 1) := by decide +kernel
theorem dL_choirs_301 : decode cL_choirs 301 = .ok (.iconst 1, 1) := by decide +kernel
theorem dL_choirs_302 : decode cL_choirs 302 = .ok (.iconst 1, 1) := by decide +kernel
theorem dL_choirs_303 : decode cL_choirs 303 = .ok (.invokevirtual 131, 3) := by decide +kernel
theorem dL_choirs_306 : decode cL_choirs 306 = .ok (.iconst 5, 1) := by decide +kernel
theorem dL_choirs_307 : decode cL_choirs 307 = .ok (.if_icmp .ne 257, 3) := by decide +kernel
theorem dL_choirs_310 : decode cL_choirs 310 = .ok (.aload_n 0, 1) := by decide +kernel
theorem dL_choirs_311 : decode cL_choirs 311 = .ok (.iconst 0, 1) := by decide +kernel
theorem dL_choirs_312 : decode cL_choirs 312 = .ok (.iconst 2, 1) := by decide +kernel
theorem dL_choirs_313 : decode cL_choirs 313 = .ok (.iconst 1, 1) := by decide +kernel
theorem dL_choirs_314 : decode cL_choirs 314 = .ok (.invokevirtual 131, 3) := by decide +kernel
theorem dL_choirs_317 : decode cL_choirs 317 = .ok (.ifCond .ne 247, 3) := by decide +kernel
theorem dL_choirs_320 : decode cL_choirs 320 = .ok (.aload_n 0, 1) := by decide +kernel
theorem dL_choirs_321 : decode cL_choirs 321 = .ok (.iconst 0, 1) := by decide +kernel
theorem dL_choirs_322 : decode cL_choirs 322 = .ok (.iconst 0, 1) := by decide +kernel
theorem dL_choirs_323 : decode cL_choirs 323 = .ok (.iconst 0, 1) := by decide +kernel
theorem dL_choirs_324 : decode cL_choirs 324 = .ok (.iconst 1, 1) := by decide +kernel
theorem dL_choirs_325 : decode cL_choirs 325 = .ok (.invokestatic 222, 3) := by decide +kernel
theorem dL_choirs_328 : decode cL_choirs 328 = .ok (.ifCond .eq 236, 3) := by decide +kernel
theorem dL_choirs_331 : decode cL_choirs 331 = .ok (.aload_n 0, 1) := by decide +kernel
theorem dL_choirs_332 : decode cL_choirs 332 = .ok (.iconst 0, 1) := by decide +kernel
theorem dL_choirs_333 : decode cL_choirs 333 = .ok (.iconst 0, 1) := by decide +kernel
theorem dL_choirs_334 : decode cL_choirs 334 = .ok (.iconst (-1), 1) := by decide +kernel
theorem dL_choirs_335 : decode cL_choirs 335 = .ok (.iconst 1, 1) := by decide +kernel
theorem dL_choirs_336 : decode cL_choirs 336 = .ok (.invokestatic 225, 3) := by decide +kernel
theorem dL_choirs_339 : decode cL_choirs 339 = .ok (.ifCond .eq 225, 3) := by decide +kernel
theorem dL_choirs_342 : decode cL_choirs 342 = .ok (.aload_n 0, 1) := by decide +kernel
theorem dL_choirs_343 : decode cL_choirs 343 = .ok (.iconst 0, 1) := by decide +kernel
theorem dL_choirs_344 : decode cL_choirs 344 = .ok (.iconst 0, 1) := by decide +kernel
theorem dL_choirs_345 : decode cL_choirs 345 = .ok (.iconst 0, 1) := by decide +kernel
theorem dL_choirs_346 : decode cL_choirs 346 = .ok (.iconst 0, 1) := by decide +kernel
theorem dL_choirs_347 : decode cL_choirs 347 = .ok (.invokestatic 228, 3) := by decide +kernel
theorem dL_choirs_350 : decode cL_choirs 350 = .ok (.ifCond .eq 214, 3) := by decide +kernel
theorem dL_choirs_353 : decode cL_choirs 353 = .ok (.aload_n 0, 1) := by decide +kernel
theorem dL_choirs_354 : decode cL_choirs 354 = .ok (.iconst 0, 1) := by decide +kernel
theorem dL_choirs_355 : decode cL_choirs 355 = .ok (.iconst 1, 1) := by decide +kernel
theorem dL_choirs_356 : decode cL_choirs 356 = .ok (.iconst 0, 1) := by decide +kernel
theorem dL_choirs_357 : decode cL_choirs 357 = .ok (.iconst 1, 1) := by decide +kernel
theorem dL_choirs_358 : decode cL_choirs 358 = .ok (.invokestatic 228, 3) := by decide +kernel
theorem dL_choirs_361 : decode cL_choirs 361 = .ok (.ifCond .eq 203, 3) := by decide +kernel
theorem dL_choirs_364 : decode cL_choirs 364 = .ok (.aload_n 0, 1) := by decide +kernel
theorem dL_choirs_365 : decode cL_choirs 365 = .ok (.iconst 0, 1) := by decide +kernel
theorem dL_choirs_366 : decode cL_choirs 366 = .ok (.iconst 2, 1) := by decide +kernel
theorem dL_choirs_367 : decode cL_choirs 367 = .ok (.iconst 0, 1) := by decide +kernel
theorem dL_choirs_368 : decode cL_choirs 368 = .ok (.iconst 0, 1) := by decide +kernel
theorem dL_choirs_369 : decode cL_choirs 369 = .ok (.invokestatic 228, 3) := by decide +kernel
theorem dL_choirs_372 : decode cL_choirs 372 = .ok (.ifCond .eq 192, 3) := by decide +kernel
theorem dL_choirs_375 : decode cL_choirs 375 = .ok (.aload_n 0, 1) := by decide +kernel
theorem dL_choirs_376 : decode cL_choirs 376 = .ok (.invokevirtual 215, 3) := by decide +kernel
theorem dL_choirs_379 : decode cL_choirs 379 = .ok (.iconst (-1), 1) := by decide +kernel
theorem dL_choirs_380 : decode cL_choirs 380 = .ok (.if_icmp .ne 184, 3) := by decide +kernel
theorem dL_choirs_383 : decode cL_choirs 383 = .ok (.aload_n 0, 1) := by decide +kernel
theorem dL_choirs_384 : decode cL_choirs 384 = .ok (.iconst 0, 1) := by decide +kernel
theorem dL_choirs_385 : decode cL_choirs 385 = .ok (.iconst 2, 1) := by decide +kernel
theorem dL_choirs_386 : decode cL_choirs 386 = .ok (.iconst 2, 1) := by decide +kernel
theorem dL_choirs_387 : decode cL_choirs 387 = .ok (.bipush 30, 2) := by decide +kernel
theorem dL_choirs_389 : decode cL_choirs 389 = .ok (.bipush 45, 2) := by decide +kernel
theorem dL_choirs_391 : decode cL_choirs 391 = .ok (.invokevirtual 57, 3) := by decide +kernel
theorem dL_choirs_394 : decode cL_choirs 394 = .ok (.iconst 5, 1) := by decide +kernel
theorem dL_choirs_395 : decode cL_choirs 395 = .ok (.if_icmp .ne 169, 3) := by decide +kernel
theorem dL_choirs_398 : decode cL_choirs 398 = .ok (.aload_n 0, 1) := by decide +kernel
theorem dL_choirs_399 : decode cL_choirs 399 = .ok (.iconst 0, 1) := by decide +kernel
theorem dL_choirs_400 : decode cL_choirs 400 = .ok (.iconst 2, 1) := by decide +kernel
theorem dL_choirs_401 : decode cL_choirs 401 = .ok (.iconst 2, 1) := by decide +kernel
theorem dL_choirs_402 : decode cL_choirs 402 = .ok (.invokevirtual 131, 3) := by decide +kernel
theorem dL_choirs_405 : decode cL_choirs 405 = .ok (.bipush 6, 2) := by decide +kernel
theorem dL_choirs_407 : decode cL_choirs 407 = .ok (.if_icmp .ne 157, 3) := by decide +kernel
theorem dL_choirs_410 : decode cL_choirs 410 = .ok (.aload_n 0, 1) := by decide +kernel
theorem dL_choirs_411 : decode cL_choirs 411 = .ok (.iconst 0, 1) := by decide +kernel
theorem dL_choirs_412 : decode cL_choirs 412 = .ok (.iconst 0, 1) := by decide +kernel
theorem dL_choirs_413 : decode cL_choirs 413 = .ok (.iconst 2, 1) := by decide +kernel
theorem dL_choirs_414 : decode cL_choirs 414 = .ok (.invokevirtual 131, 3) := by decide +kernel
theorem dL_choirs_417 : decode cL_choirs 417 = .ok (.bipush 6, 2) := by decide +kernel
theorem dL_choirs_419 : decode cL_choirs 419 = .ok (.if_icmp .ne 145, 3) := by decide +kernel
theorem dL_choirs_422 : decode cL_choirs 422 = .ok (.aload_n 0, 1) := by decide +kernel
theorem dL_choirs_423 : decode cL_choirs 423 = .ok (.iconst 0, 1) := by decide +kernel
theorem dL_choirs_424 : decode cL_choirs 424 = .ok (.iconst 2, 1) := by decide +kernel
theorem dL_choirs_425 : decode cL_choirs 425 = .ok (.iconst 2, 1) := by decide +kernel
theorem dL_choirs_426 : decode cL_choirs 426 = .ok (.iconst 1, 1) := by decide +kernel
theorem dL_choirs_427 : decode cL_choirs 427 = .ok (.invokestatic 225, 3) := by decide +kernel
theorem dL_choirs_430 : decode cL_choirs 430 = .ok (.ifCond .eq 134, 3) := by decide +kernel
theorem dL_choirs_433 : decode cL_choirs 433 = .ok (.aload_n 0, 1) := by decide +kernel
theorem dL_choirs_434 : decode cL_choirs 434 = .ok (.invokevirtual 215, 3) := by decide +kernel
theorem dL_choirs_437 : decode cL_choirs 437 = .ok (.ifCond .ne 127, 3) := by decide +kernel
theorem dL_choirs_440 : decode cL_choirs 440 = .ok (.aload_n 0, 1) := by decide +kernel
theorem dL_choirs_441 : decode cL_choirs 441 = .ok (.iconst 1, 1) := by decide +kernel
theorem dL_choirs_442 : decode cL_choirs 442 = .ok (.bipush 10, 2) := by decide +kernel
theorem dL_choirs_444 : decode cL_choirs 444 = .ok (.bipush 12, 2) := by decide +kernel
theorem dL_choirs_446 : decode cL_choirs 446 = .ok (.invokevirtual 50, 3) := by decide +kernel
theorem dL_choirs_449 : decode cL_choirs 449 = .ok (.iconst 1, 1) := by decide +kernel
theorem dL_choirs_450 : decode cL_choirs 450 = .ok (.if_icmp .ne 114, 3) := by decide +kernel
theorem dL_choirs_453 : decode cL_choirs 453 = .ok (.aload_n 0, 1) := by decide +kernel
theorem dL_choirs_454 : decode cL_choirs 454 = .ok (.iconst 0, 1) := by decide +kernel
theorem dL_choirs_455 : decode cL_choirs 455 = .ok (.iconst 1, 1) := by decide +kernel
theorem dL_choirs_456 : decode cL_choirs 456 = .ok (.iconst 0, 1) := by decide +kernel
theorem dL_choirs_457 : decode cL_choirs 457 = .ok (.invokevirtual 131, 3) := by decide +kernel
theorem dL_choirs_460 : decode cL_choirs 460 = .ok (.iconst 3, 1) := by decide +kernel
theorem dL_choirs_461 : decode cL_choirs 461 = .ok (.if_icmp .ne 103, 3) := by decide +kernel
theorem dL_choirs_464 : decode cL_choirs 464 = .ok (.aload_n 0, 1) := by decide +kernel
theorem dL_choirs_465 : decode cL_choirs 465 = .ok (.iconst 1, 1) := by decide +kernel
theorem dL_choirs_466 : decode cL_choirs 466 = .ok (.bipush 11, 2) := by decide +kernel
theorem dL_choirs_468 : decode cL_choirs 468 = .ok (.invokevirtual 85, 3) := by decide +kernel
theorem dL_choirs_471 : decode cL_choirs 471 = .ok (.ifCond .eq 93, 3) := by decide +kernel
theorem dL_choirs_474 : decode cL_choirs 474 = .ok (.aload_n 0, 1) := by decide +kernel
theorem dL_choirs_475 : decode cL_choirs 475 = .ok (.iconst 1, 1) := by decide +kernel
theorem dL_choirs_476 : decode cL_choirs 476 = .ok (.bipush 13, 2) := by decide +kernel
theorem dL_choirs_478 : decode cL_choirs 478 = .ok (.invokevirtual 85, 3) := by decide +kernel
theorem dL_choirs_481 : decode cL_choirs 481 = .ok (.ifCond .ne 83, 3) := by decide +kernel
theorem dL_choirs_484 : decode cL_choirs 484 = .ok (.aload_n 0, 1) := by decide +kernel
theorem dL_choirs_485 : decode cL_choirs 485 = .ok (.iconst 4, 1) := by decide +kernel
theorem dL_choirs_486 : decode cL_choirs 486 = .ok (.iconst 1, 1) := by decide +kernel
theorem dL_choirs_487 : decode cL_choirs 487 = .ok (.bipush 12, 2) := by decide +kernel
theorem dL_choirs_489 : decode cL_choirs 489 = .ok (.bipush 14, 2) := by decide +kernel
theorem dL_choirs_491 : decode cL_choirs 491 = .ok (.invokestatic 187, 3) := by decide +kernel
theorem dL_choirs_494 : decode cL_choirs 494 = .ok (.sipush (-2013), 3) := by decide +kernel
theorem dL_choirs_497 : decode cL_choirs 497 = .ok (.if_icmp .ne 67, 3) := by decide +kernel
theorem dL_choirs_500 : decode cL_choirs 500 = .ok (.aload_n 0, 1) := by decide +kernel
theorem dL_choirs_501 : decode cL_choirs 501 = .ok (.iconst 1, 1) := by decide +kernel
theorem dL_choirs_502 : decode cL_choirs 502 = .ok (.bipush 13, 2) := by decide +kernel
theorem dL_choirs_504 : decode cL_choirs 504 = .ok (.bipush 13, 2) := by decide +kernel
theorem dL_choirs_506 : decode cL_choirs 506 = .ok (.invokevirtual 50, 3) := by decide +kernel
theorem dL_choirs_509 : decode cL_choirs 509 = .ok (.iconst 2, 1) := by decide +kernel
theorem dL_choirs_510 : decode cL_choirs 510 = .ok (.if_icmp .ne 54, 3) := by decide +kernel
theorem dL_choirs_513 : decode cL_choirs 513 = .ok (.aload_n 0, 1) := by decide +kernel
theorem dL_choirs_514 : decode cL_choirs 514 = .ok (.iconst 0, 1) := by decide +kernel
theorem dL_choirs_515 : decode cL_choirs 515 = .ok (.iconst 0, 1) := by decide +kernel
theorem dL_choirs_516 : decode cL_choirs 516 = .ok (.iconst (-1), 1) := by decide +kernel
theorem dL_choirs_517 : decode cL_choirs 517 = .ok (.iconst 0, 1) := by decide +kernel
theorem dL_choirs_518 : decode cL_choirs 518 = .ok (.invokestatic 222, 3) := by decide +kernel
theorem dL_choirs_521 : decode cL_choirs 521 = .ok (.ifCond .eq 43, 3) := by decide +kernel
theorem dL_choirs_524 : decode cL_choirs 524 = .ok (.aload_n 0, 1) := by decide +kernel
theorem dL_choirs_525 : decode cL_choirs 525 = .ok (.iconst 0, 1) := by decide +kernel
theorem dL_choirs_526 : decode cL_choirs 526 = .ok (.iconst 3, 1) := by decide +kernel
theorem dL_choirs_527 : decode cL_choirs 527 = .ok (.iconst 0, 1) := by decide +kernel
theorem dL_choirs_528 : decode cL_choirs 528 = .ok (.iconst 2, 1) := by decide +kernel
theorem dL_choirs_529 : decode cL_choirs 529 = .ok (.invokestatic 225, 3) := by decide +kernel
theorem dL_choirs_532 : decode cL_choirs 532 = .ok (.ifCond .eq 32, 3) := by decide +kernel
theorem dL_choirs_535 : decode cL_choirs 535 = .ok (.aload_n 0, 1) := by decide +kernel
theorem dL_choirs_536 : decode cL_choirs 536 = .ok (.iconst 0, 1) := by decide +kernel
theorem dL_choirs_537 : decode cL_choirs 537 = .ok (.iconst 1, 1) := by decide +kernel
theorem dL_choirs_538 : decode cL_choirs 538 = .ok (.iconst (-1), 1) := by decide +kernel
theorem dL_choirs_539 : decode cL_choirs 539 = .ok (.iconst (-1), 1) := by decide +kernel
theorem dL_choirs_540 : decode cL_choirs 540 = .ok (.invokestatic 228, 3) := by decide +kernel
theorem dL_choirs_543 : decode cL_choirs 543 = .ok (.ifCond .eq 21, 3) := by decide +kernel
theorem dL_choirs_546 : decode cL_choirs 546 = .ok (.aload_n 0, 1) := by decide +kernel
